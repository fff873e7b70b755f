section
-- ===== PART A: goes FIRST, ahead of the names: the tables' words, and 'selects' of the private methods out of them =====
/-- a private method of a class that the tables say can be made, by its rows of tables_1 -/
def lw_okq (q : MethodName × Nat) : Prop := (q.1.cls ≠ "java/lang/invoke/MethodHandle" ∧ q.1.cls ≠ "java/lang/invoke/VarHandle") ∧ Cond.instantiable q.1.cls q.2 ∈ tables_1 ∧ Cond.privateMethod q.1 ∈ tables_1 ∧ Cond.instanceMethod q.1 ∈ tables_1
theorem lw_p0 : lw_okq (⟨"ShuffleDesk", "isPack", "(I)Z"⟩, 14) := ⟨⟨by decide +kernel, by decide +kernel⟩, List.mem_of_getElem? (i := 14) (by decide +kernel), List.mem_of_getElem? (i := 184) (by decide +kernel), List.mem_of_getElem? (i := 185) (by decide +kernel)⟩
theorem lw_p1 : lw_okq (⟨"ShuffleDesk", "isPlace", "(I)Z"⟩, 14) := ⟨⟨by decide +kernel, by decide +kernel⟩, List.mem_of_getElem? (i := 14) (by decide +kernel), List.mem_of_getElem? (i := 188) (by decide +kernel), List.mem_of_getElem? (i := 189) (by decide +kernel)⟩
theorem lw_p2 : lw_okq (⟨"ShuffleDesk", "addShuffle", "(II)I"⟩, 14) := ⟨⟨by decide +kernel, by decide +kernel⟩, List.mem_of_getElem? (i := 14) (by decide +kernel), List.mem_of_getElem? (i := 209) (by decide +kernel), List.mem_of_getElem? (i := 210) (by decide +kernel)⟩
theorem lw_p3 : lw_okq (⟨"ShuffleDesk", "isOdd", "()Z"⟩, 14) := ⟨⟨by decide +kernel, by decide +kernel⟩, List.mem_of_getElem? (i := 14) (by decide +kernel), List.mem_of_getElem? (i := 217) (by decide +kernel), List.mem_of_getElem? (i := 218) (by decide +kernel)⟩
theorem lw_p4 : lw_okq (⟨"ShuffleDesk", "isShuffle", "(I)Z"⟩, 14) := ⟨⟨by decide +kernel, by decide +kernel⟩, List.mem_of_getElem? (i := 14) (by decide +kernel), List.mem_of_getElem? (i := 243) (by decide +kernel), List.mem_of_getElem? (i := 244) (by decide +kernel)⟩
theorem lw_p5 : lw_okq (⟨"ShuffleDesk", "lotsOf", "(LShuffleDesk$Shuffle;)I"⟩, 14) := ⟨⟨by decide +kernel, by decide +kernel⟩, List.mem_of_getElem? (i := 14) (by decide +kernel), List.mem_of_getElem? (i := 306) (by decide +kernel), List.mem_of_getElem? (i := 307) (by decide +kernel)⟩
theorem lw_p6 : lw_okq (⟨"ShuffleDesk", "layByLots", "(LShuffleDesk$Shuffle;[I)V"⟩, 14) := ⟨⟨by decide +kernel, by decide +kernel⟩, List.mem_of_getElem? (i := 14) (by decide +kernel), List.mem_of_getElem? (i := 313) (by decide +kernel), List.mem_of_getElem? (i := 314) (by decide +kernel)⟩
theorem lw_p7 : lw_okq (⟨"ShuffleDesk", "layRiffle", "([II)V"⟩, 14) := ⟨⟨by decide +kernel, by decide +kernel⟩, List.mem_of_getElem? (i := 14) (by decide +kernel), List.mem_of_getElem? (i := 320) (by decide +kernel), List.mem_of_getElem? (i := 321) (by decide +kernel)⟩
theorem lw_p8 : lw_okq (⟨"ShuffleDesk", "drawnLot", "(I)I"⟩, 14) := ⟨⟨by decide +kernel, by decide +kernel⟩, List.mem_of_getElem? (i := 14) (by decide +kernel), List.mem_of_getElem? (i := 329) (by decide +kernel), List.mem_of_getElem? (i := 330) (by decide +kernel)⟩
theorem lw_p9 : lw_okq (⟨"ShuffleDesk", "hasChances", "(LShuffleDesk$Shuffle;I)Z"⟩, 14) := ⟨⟨by decide +kernel, by decide +kernel⟩, List.mem_of_getElem? (i := 14) (by decide +kernel), List.mem_of_getElem? (i := 346) (by decide +kernel), List.mem_of_getElem? (i := 347) (by decide +kernel)⟩
theorem lw_p10 : lw_okq (⟨"ShuffleDesk", "levelOf", "(LShuffleDesk$Shuffle;[I)I"⟩, 14) := ⟨⟨by decide +kernel, by decide +kernel⟩, List.mem_of_getElem? (i := 14) (by decide +kernel), List.mem_of_getElem? (i := 351) (by decide +kernel), List.mem_of_getElem? (i := 352) (by decide +kernel)⟩
theorem lw_p11 : lw_okq (⟨"ShuffleDesk", "rowsToLevel", "(LShuffleDesk$Shuffle;II)J"⟩, 14) := ⟨⟨by decide +kernel, by decide +kernel⟩, List.mem_of_getElem? (i := 14) (by decide +kernel), List.mem_of_getElem? (i := 358) (by decide +kernel), List.mem_of_getElem? (i := 359) (by decide +kernel)⟩
theorem lw_p12 : lw_okq (⟨"ShuffleDesk", "allRows", "(LShuffleDesk$Shuffle;I)J"⟩, 14) := ⟨⟨by decide +kernel, by decide +kernel⟩, List.mem_of_getElem? (i := 14) (by decide +kernel), List.mem_of_getElem? (i := 368) (by decide +kernel), List.mem_of_getElem? (i := 369) (by decide +kernel)⟩
theorem lw_p13 : lw_okq (⟨"ShuffleDesk", "topLotsToPlace", "(II)I"⟩, 14) := ⟨⟨by decide +kernel, by decide +kernel⟩, List.mem_of_getElem? (i := 14) (by decide +kernel), List.mem_of_getElem? (i := 380) (by decide +kernel), List.mem_of_getElem? (i := 381) (by decide +kernel)⟩
theorem lw_p14 : lw_okq (⟨"ShuffleDesk", "riffleRowsToPlace", "(III)J"⟩, 14) := ⟨⟨by decide +kernel, by decide +kernel⟩, List.mem_of_getElem? (i := 14) (by decide +kernel), List.mem_of_getElem? (i := 384) (by decide +kernel), List.mem_of_getElem? (i := 385) (by decide +kernel)⟩
theorem lw_p15 : lw_okq (⟨"ShuffleDesk", "countLevels", "(LShuffleDesk$Shuffle;)V"⟩, 14) := ⟨⟨by decide +kernel, by decide +kernel⟩, List.mem_of_getElem? (i := 14) (by decide +kernel), List.mem_of_getElem? (i := 403) (by decide +kernel), List.mem_of_getElem? (i := 404) (by decide +kernel)⟩
def lw_privs_1 : List (MethodName × Nat) := [(⟨"ShuffleDesk", "isPack", "(I)Z"⟩, 14), (⟨"ShuffleDesk", "isPlace", "(I)Z"⟩, 14), (⟨"ShuffleDesk", "addShuffle", "(II)I"⟩, 14), (⟨"ShuffleDesk", "isOdd", "()Z"⟩, 14), (⟨"ShuffleDesk", "isShuffle", "(I)Z"⟩, 14), (⟨"ShuffleDesk", "lotsOf", "(LShuffleDesk$Shuffle;)I"⟩, 14), (⟨"ShuffleDesk", "layByLots", "(LShuffleDesk$Shuffle;[I)V"⟩, 14), (⟨"ShuffleDesk", "layRiffle", "([II)V"⟩, 14), (⟨"ShuffleDesk", "drawnLot", "(I)I"⟩, 14), (⟨"ShuffleDesk", "hasChances", "(LShuffleDesk$Shuffle;I)Z"⟩, 14), (⟨"ShuffleDesk", "levelOf", "(LShuffleDesk$Shuffle;[I)I"⟩, 14), (⟨"ShuffleDesk", "rowsToLevel", "(LShuffleDesk$Shuffle;II)J"⟩, 14), (⟨"ShuffleDesk", "allRows", "(LShuffleDesk$Shuffle;I)J"⟩, 14), (⟨"ShuffleDesk", "topLotsToPlace", "(II)I"⟩, 14), (⟨"ShuffleDesk", "riffleRowsToPlace", "(III)J"⟩, 14), (⟨"ShuffleDesk", "countLevels", "(LShuffleDesk$Shuffle;)V"⟩, 14)]
theorem lw_r1 : ∀ q ∈ lw_privs_1, lw_okq q := List.forall_mem_cons.mpr ⟨lw_p0, List.forall_mem_cons.mpr ⟨lw_p1, List.forall_mem_cons.mpr ⟨lw_p2, List.forall_mem_cons.mpr ⟨lw_p3, List.forall_mem_cons.mpr ⟨lw_p4, List.forall_mem_cons.mpr ⟨lw_p5, List.forall_mem_cons.mpr ⟨lw_p6, List.forall_mem_cons.mpr ⟨lw_p7, List.forall_mem_cons.mpr ⟨lw_p8, List.forall_mem_cons.mpr ⟨lw_p9, List.forall_mem_cons.mpr ⟨lw_p10, List.forall_mem_cons.mpr ⟨lw_p11, List.forall_mem_cons.mpr ⟨lw_p12, List.forall_mem_cons.mpr ⟨lw_p13, List.forall_mem_cons.mpr ⟨lw_p14, List.forall_mem_cons.mpr ⟨lw_p15, fun _ h => absurd h List.not_mem_nil⟩⟩⟩⟩⟩⟩⟩⟩⟩⟩⟩⟩⟩⟩⟩⟩
theorem lw_p16 : lw_okq (⟨"ShuffleDesk$Acts", "run", "(IIII)I"⟩, 5) := ⟨⟨by decide +kernel, by decide +kernel⟩, List.mem_of_getElem? (i := 28) (by decide +kernel), List.mem_of_getElem? (i := 468) (by decide +kernel), List.mem_of_getElem? (i := 469) (by decide +kernel)⟩
theorem lw_p17 : lw_okq (⟨"ShuffleDesk$Acts", "note", "(I)V"⟩, 5) := ⟨⟨by decide +kernel, by decide +kernel⟩, List.mem_of_getElem? (i := 28) (by decide +kernel), List.mem_of_getElem? (i := 478) (by decide +kernel), List.mem_of_getElem? (i := 479) (by decide +kernel)⟩
theorem lw_p18 : lw_okq (⟨"ShuffleDeskModel", "comes", "()I"⟩, 24) := ⟨⟨by decide +kernel, by decide +kernel⟩, List.mem_of_getElem? (i := 510) (by decide +kernel), List.mem_of_getElem? (i := 597) (by decide +kernel), List.mem_of_getElem? (i := 598) (by decide +kernel)⟩
theorem lw_p19 : lw_okq (⟨"ShuffleDeskModel", "ofRank", "(I)V"⟩, 24) := ⟨⟨by decide +kernel, by decide +kernel⟩, List.mem_of_getElem? (i := 510) (by decide +kernel), List.mem_of_getElem? (i := 608) (by decide +kernel), List.mem_of_getElem? (i := 609) (by decide +kernel)⟩
theorem lw_p20 : lw_okq (⟨"ShuffleDeskModel", "isPlace", "(I)Z"⟩, 24) := ⟨⟨by decide +kernel, by decide +kernel⟩, List.mem_of_getElem? (i := 510) (by decide +kernel), List.mem_of_getElem? (i := 619) (by decide +kernel), List.mem_of_getElem? (i := 620) (by decide +kernel)⟩
theorem lw_p21 : lw_okq (⟨"ShuffleDeskModel", "isPack", "(I)Z"⟩, 24) := ⟨⟨by decide +kernel, by decide +kernel⟩, List.mem_of_getElem? (i := 510) (by decide +kernel), List.mem_of_getElem? (i := 627) (by decide +kernel), List.mem_of_getElem? (i := 628) (by decide +kernel)⟩
theorem lw_p22 : lw_okq (⟨"ShuffleDeskModel", "takes", "(I)V"⟩, 24) := ⟨⟨by decide +kernel, by decide +kernel⟩, List.mem_of_getElem? (i := 510) (by decide +kernel), List.mem_of_getElem? (i := 635) (by decide +kernel), List.mem_of_getElem? (i := 636) (by decide +kernel)⟩
theorem lw_p23 : lw_okq (⟨"ShuffleDeskModel", "rank", "()I"⟩, 24) := ⟨⟨by decide +kernel, by decide +kernel⟩, List.mem_of_getElem? (i := 510) (by decide +kernel), List.mem_of_getElem? (i := 639) (by decide +kernel), List.mem_of_getElem? (i := 640) (by decide +kernel)⟩
theorem lw_p24 : lw_okq (⟨"ShuffleDeskModel", "runsOf", "()I"⟩, 24) := ⟨⟨by decide +kernel, by decide +kernel⟩, List.mem_of_getElem? (i := 510) (by decide +kernel), List.mem_of_getElem? (i := 643) (by decide +kernel), List.mem_of_getElem? (i := 644) (by decide +kernel)⟩
theorem lw_p25 : lw_okq (⟨"ShuffleDeskModel", "placeOf", "(I)I"⟩, 24) := ⟨⟨by decide +kernel, by decide +kernel⟩, List.mem_of_getElem? (i := 510) (by decide +kernel), List.mem_of_getElem? (i := 647) (by decide +kernel), List.mem_of_getElem? (i := 648) (by decide +kernel)⟩
theorem lw_p26 : lw_okq (⟨"ShuffleDeskModel", "makes", "(II)I"⟩, 24) := ⟨⟨by decide +kernel, by decide +kernel⟩, List.mem_of_getElem? (i := 510) (by decide +kernel), List.mem_of_getElem? (i := 655) (by decide +kernel), List.mem_of_getElem? (i := 656) (by decide +kernel)⟩
theorem lw_p27 : lw_okq (⟨"ShuffleDeskModel", "goes", "(II)I"⟩, 24) := ⟨⟨by decide +kernel, by decide +kernel⟩, List.mem_of_getElem? (i := 510) (by decide +kernel), List.mem_of_getElem? (i := 663) (by decide +kernel), List.mem_of_getElem? (i := 664) (by decide +kernel)⟩
theorem lw_p28 : lw_okq (⟨"ShuffleDeskModel", "isShuffle", "(I)Z"⟩, 24) := ⟨⟨by decide +kernel, by decide +kernel⟩, List.mem_of_getElem? (i := 510) (by decide +kernel), List.mem_of_getElem? (i := 683) (by decide +kernel), List.mem_of_getElem? (i := 684) (by decide +kernel)⟩
theorem lw_p29 : lw_okq (⟨"ShuffleDeskModel", "hasMove", "(I)Z"⟩, 24) := ⟨⟨by decide +kernel, by decide +kernel⟩, List.mem_of_getElem? (i := 510) (by decide +kernel), List.mem_of_getElem? (i := 687) (by decide +kernel), List.mem_of_getElem? (i := 688) (by decide +kernel)⟩
theorem lw_p30 : lw_okq (⟨"ShuffleDeskModel", "rounds", "(I)I"⟩, 24) := ⟨⟨by decide +kernel, by decide +kernel⟩, List.mem_of_getElem? (i := 510) (by decide +kernel), List.mem_of_getElem? (i := 703) (by decide +kernel), List.mem_of_getElem? (i := 704) (by decide +kernel)⟩
theorem lw_p31 : lw_okq (⟨"ShuffleDeskModel", "whole", "(I)I"⟩, 24) := ⟨⟨by decide +kernel, by decide +kernel⟩, List.mem_of_getElem? (i := 510) (by decide +kernel), List.mem_of_getElem? (i := 707) (by decide +kernel), List.mem_of_getElem? (i := 708) (by decide +kernel)⟩
def lw_privs_2 : List (MethodName × Nat) := [(⟨"ShuffleDesk$Acts", "run", "(IIII)I"⟩, 5), (⟨"ShuffleDesk$Acts", "note", "(I)V"⟩, 5), (⟨"ShuffleDeskModel", "comes", "()I"⟩, 24), (⟨"ShuffleDeskModel", "ofRank", "(I)V"⟩, 24), (⟨"ShuffleDeskModel", "isPlace", "(I)Z"⟩, 24), (⟨"ShuffleDeskModel", "isPack", "(I)Z"⟩, 24), (⟨"ShuffleDeskModel", "takes", "(I)V"⟩, 24), (⟨"ShuffleDeskModel", "rank", "()I"⟩, 24), (⟨"ShuffleDeskModel", "runsOf", "()I"⟩, 24), (⟨"ShuffleDeskModel", "placeOf", "(I)I"⟩, 24), (⟨"ShuffleDeskModel", "makes", "(II)I"⟩, 24), (⟨"ShuffleDeskModel", "goes", "(II)I"⟩, 24), (⟨"ShuffleDeskModel", "isShuffle", "(I)Z"⟩, 24), (⟨"ShuffleDeskModel", "hasMove", "(I)Z"⟩, 24), (⟨"ShuffleDeskModel", "rounds", "(I)I"⟩, 24), (⟨"ShuffleDeskModel", "whole", "(I)I"⟩, 24)]
theorem lw_r2 : ∀ q ∈ lw_privs_2, lw_okq q := List.forall_mem_cons.mpr ⟨lw_p16, List.forall_mem_cons.mpr ⟨lw_p17, List.forall_mem_cons.mpr ⟨lw_p18, List.forall_mem_cons.mpr ⟨lw_p19, List.forall_mem_cons.mpr ⟨lw_p20, List.forall_mem_cons.mpr ⟨lw_p21, List.forall_mem_cons.mpr ⟨lw_p22, List.forall_mem_cons.mpr ⟨lw_p23, List.forall_mem_cons.mpr ⟨lw_p24, List.forall_mem_cons.mpr ⟨lw_p25, List.forall_mem_cons.mpr ⟨lw_p26, List.forall_mem_cons.mpr ⟨lw_p27, List.forall_mem_cons.mpr ⟨lw_p28, List.forall_mem_cons.mpr ⟨lw_p29, List.forall_mem_cons.mpr ⟨lw_p30, List.forall_mem_cons.mpr ⟨lw_p31, fun _ h => absurd h List.not_mem_nil⟩⟩⟩⟩⟩⟩⟩⟩⟩⟩⟩⟩⟩⟩⟩⟩
theorem lw_p32 : lw_okq (⟨"ShuffleDeskModel", "roundOf", "(II)I"⟩, 24) := ⟨⟨by decide +kernel, by decide +kernel⟩, List.mem_of_getElem? (i := 510) (by decide +kernel), List.mem_of_getElem? (i := 711) (by decide +kernel), List.mem_of_getElem? (i := 712) (by decide +kernel)⟩
theorem lw_p33 : lw_okq (⟨"ShuffleDeskModel", "puts", "(I)V"⟩, 24) := ⟨⟨by decide +kernel, by decide +kernel⟩, List.mem_of_getElem? (i := 510) (by decide +kernel), List.mem_of_getElem? (i := 723) (by decide +kernel), List.mem_of_getElem? (i := 724) (by decide +kernel)⟩
theorem lw_p34 : lw_okq (⟨"ShuffleDeskModel", "lays", "(IIJ)V"⟩, 24) := ⟨⟨by decide +kernel, by decide +kernel⟩, List.mem_of_getElem? (i := 510) (by decide +kernel), List.mem_of_getElem? (i := 734) (by decide +kernel), List.mem_of_getElem? (i := 735) (by decide +kernel)⟩
theorem lw_p35 : lw_okq (⟨"ShuffleDeskModel", "drawn", "(I)I"⟩, 24) := ⟨⟨by decide +kernel, by decide +kernel⟩, List.mem_of_getElem? (i := 510) (by decide +kernel), List.mem_of_getElem? (i := 746) (by decide +kernel), List.mem_of_getElem? (i := 747) (by decide +kernel)⟩
theorem lw_p36 : lw_okq (⟨"ShuffleDeskModel", "isChance", "(II)Z"⟩, 24) := ⟨⟨by decide +kernel, by decide +kernel⟩, List.mem_of_getElem? (i := 510) (by decide +kernel), List.mem_of_getElem? (i := 759) (by decide +kernel), List.mem_of_getElem? (i := 760) (by decide +kernel)⟩
theorem lw_p37 : lw_okq (⟨"ShuffleDeskModel", "tops", "(I)V"⟩, 24) := ⟨⟨by decide +kernel, by decide +kernel⟩, List.mem_of_getElem? (i := 510) (by decide +kernel), List.mem_of_getElem? (i := 764) (by decide +kernel), List.mem_of_getElem? (i := 765) (by decide +kernel)⟩
theorem lw_p38 : lw_okq (⟨"ShuffleDeskModel", "lowest", "(JJI)J"⟩, 24) := ⟨⟨by decide +kernel, by decide +kernel⟩, List.mem_of_getElem? (i := 510) (by decide +kernel), List.mem_of_getElem? (i := 768) (by decide +kernel), List.mem_of_getElem? (i := 769) (by decide +kernel)⟩
theorem lw_p39 : lw_okq (⟨"ShuffleDeskModel", "heapWays", "(II)J"⟩, 24) := ⟨⟨by decide +kernel, by decide +kernel⟩, List.mem_of_getElem? (i := 510) (by decide +kernel), List.mem_of_getElem? (i := 775) (by decide +kernel), List.mem_of_getElem? (i := 776) (by decide +kernel)⟩
theorem lw_p40 : lw_okq (⟨"ShuffleDeskModel", "fars", "(I)V"⟩, 24) := ⟨⟨by decide +kernel, by decide +kernel⟩, List.mem_of_getElem? (i := 510) (by decide +kernel), List.mem_of_getElem? (i := 804) (by decide +kernel), List.mem_of_getElem? (i := 805) (by decide +kernel)⟩
theorem lw_p41 : lw_okq (⟨"ShuffleDeskModel", "orbit", "()I"⟩, 24) := ⟨⟨by decide +kernel, by decide +kernel⟩, List.mem_of_getElem? (i := 510) (by decide +kernel), List.mem_of_getElem? (i := 816) (by decide +kernel), List.mem_of_getElem? (i := 817) (by decide +kernel)⟩
theorem lw_p42 : lw_okq (⟨"ShuffleDeskModel", "packed", "()J"⟩, 24) := ⟨⟨by decide +kernel, by decide +kernel⟩, List.mem_of_getElem? (i := 510) (by decide +kernel), List.mem_of_getElem? (i := 820) (by decide +kernel), List.mem_of_getElem? (i := 821) (by decide +kernel)⟩
theorem lw_p43 : lw_okq (⟨"ShuffleDeskModel", "isFound", "(JI)Z"⟩, 24) := ⟨⟨by decide +kernel, by decide +kernel⟩, List.mem_of_getElem? (i := 510) (by decide +kernel), List.mem_of_getElem? (i := 825) (by decide +kernel), List.mem_of_getElem? (i := 826) (by decide +kernel)⟩
theorem lw_p44 : lw_okq (⟨"ShuffleDeskModel", "isListed", "(JII)Z"⟩, 24) := ⟨⟨by decide +kernel, by decide +kernel⟩, List.mem_of_getElem? (i := 510) (by decide +kernel), List.mem_of_getElem? (i := 829) (by decide +kernel), List.mem_of_getElem? (i := 830) (by decide +kernel)⟩
theorem lw_p45 : lw_okq (⟨"ShuffleDeskModel", "sorts", "(I)V"⟩, 24) := ⟨⟨by decide +kernel, by decide +kernel⟩, List.mem_of_getElem? (i := 510) (by decide +kernel), List.mem_of_getElem? (i := 833) (by decide +kernel), List.mem_of_getElem? (i := 834) (by decide +kernel)⟩
theorem lw_p46 : lw_okq (⟨"ShuffleDeskModel", "laysNow", "(II)I"⟩, 24) := ⟨⟨by decide +kernel, by decide +kernel⟩, List.mem_of_getElem? (i := 510) (by decide +kernel), List.mem_of_getElem? (i := 841) (by decide +kernel), List.mem_of_getElem? (i := 842) (by decide +kernel)⟩
theorem lw_p47 : lw_okq (⟨"ShuffleDeskModel", "laysMove", "(II)I"⟩, 24) := ⟨⟨by decide +kernel, by decide +kernel⟩, List.mem_of_getElem? (i := 510) (by decide +kernel), List.mem_of_getElem? (i := 845) (by decide +kernel), List.mem_of_getElem? (i := 846) (by decide +kernel)⟩
def lw_privs_3 : List (MethodName × Nat) := [(⟨"ShuffleDeskModel", "roundOf", "(II)I"⟩, 24), (⟨"ShuffleDeskModel", "puts", "(I)V"⟩, 24), (⟨"ShuffleDeskModel", "lays", "(IIJ)V"⟩, 24), (⟨"ShuffleDeskModel", "drawn", "(I)I"⟩, 24), (⟨"ShuffleDeskModel", "isChance", "(II)Z"⟩, 24), (⟨"ShuffleDeskModel", "tops", "(I)V"⟩, 24), (⟨"ShuffleDeskModel", "lowest", "(JJI)J"⟩, 24), (⟨"ShuffleDeskModel", "heapWays", "(II)J"⟩, 24), (⟨"ShuffleDeskModel", "fars", "(I)V"⟩, 24), (⟨"ShuffleDeskModel", "orbit", "()I"⟩, 24), (⟨"ShuffleDeskModel", "packed", "()J"⟩, 24), (⟨"ShuffleDeskModel", "isFound", "(JI)Z"⟩, 24), (⟨"ShuffleDeskModel", "isListed", "(JII)Z"⟩, 24), (⟨"ShuffleDeskModel", "sorts", "(I)V"⟩, 24), (⟨"ShuffleDeskModel", "laysNow", "(II)I"⟩, 24), (⟨"ShuffleDeskModel", "laysMove", "(II)I"⟩, 24)]
theorem lw_r3 : ∀ q ∈ lw_privs_3, lw_okq q := List.forall_mem_cons.mpr ⟨lw_p32, List.forall_mem_cons.mpr ⟨lw_p33, List.forall_mem_cons.mpr ⟨lw_p34, List.forall_mem_cons.mpr ⟨lw_p35, List.forall_mem_cons.mpr ⟨lw_p36, List.forall_mem_cons.mpr ⟨lw_p37, List.forall_mem_cons.mpr ⟨lw_p38, List.forall_mem_cons.mpr ⟨lw_p39, List.forall_mem_cons.mpr ⟨lw_p40, List.forall_mem_cons.mpr ⟨lw_p41, List.forall_mem_cons.mpr ⟨lw_p42, List.forall_mem_cons.mpr ⟨lw_p43, List.forall_mem_cons.mpr ⟨lw_p44, List.forall_mem_cons.mpr ⟨lw_p45, List.forall_mem_cons.mpr ⟨lw_p46, List.forall_mem_cons.mpr ⟨lw_p47, fun _ h => absurd h List.not_mem_nil⟩⟩⟩⟩⟩⟩⟩⟩⟩⟩⟩⟩⟩⟩⟩⟩
theorem lw_p48 : lw_okq (⟨"ShuffleDeskModel", "ran", "(I)V"⟩, 24) := ⟨⟨by decide +kernel, by decide +kernel⟩, List.mem_of_getElem? (i := 510) (by decide +kernel), List.mem_of_getElem? (i := 849) (by decide +kernel), List.mem_of_getElem? (i := 850) (by decide +kernel)⟩
theorem lw_p49 : lw_okq (⟨"ShuffleDeskModel", "laysDeal", "(II)I"⟩, 24) := ⟨⟨by decide +kernel, by decide +kernel⟩, List.mem_of_getElem? (i := 510) (by decide +kernel), List.mem_of_getElem? (i := 853) (by decide +kernel), List.mem_of_getElem? (i := 854) (by decide +kernel)⟩
theorem lw_p50 : lw_okq (⟨"ShuffleDeskModel", "cutsNow", "(II)I"⟩, 24) := ⟨⟨by decide +kernel, by decide +kernel⟩, List.mem_of_getElem? (i := 510) (by decide +kernel), List.mem_of_getElem? (i := 857) (by decide +kernel), List.mem_of_getElem? (i := 858) (by decide +kernel)⟩
theorem lw_p51 : lw_okq (⟨"ShuffleDeskModel", "cutsMove", "(II)I"⟩, 24) := ⟨⟨by decide +kernel, by decide +kernel⟩, List.mem_of_getElem? (i := 510) (by decide +kernel), List.mem_of_getElem? (i := 861) (by decide +kernel), List.mem_of_getElem? (i := 862) (by decide +kernel)⟩
theorem lw_p52 : lw_okq (⟨"ShuffleDeskModel", "turnsNow", "(II)I"⟩, 24) := ⟨⟨by decide +kernel, by decide +kernel⟩, List.mem_of_getElem? (i := 510) (by decide +kernel), List.mem_of_getElem? (i := 865) (by decide +kernel), List.mem_of_getElem? (i := 866) (by decide +kernel)⟩
theorem lw_p53 : lw_okq (⟨"ShuffleDeskModel", "turnsMove", "(II)I"⟩, 24) := ⟨⟨by decide +kernel, by decide +kernel⟩, List.mem_of_getElem? (i := 510) (by decide +kernel), List.mem_of_getElem? (i := 869) (by decide +kernel), List.mem_of_getElem? (i := 870) (by decide +kernel)⟩
theorem lw_p54 : lw_okq (⟨"ShuffleDeskModel", "turnsDeal", "(II)I"⟩, 24) := ⟨⟨by decide +kernel, by decide +kernel⟩, List.mem_of_getElem? (i := 510) (by decide +kernel), List.mem_of_getElem? (i := 873) (by decide +kernel), List.mem_of_getElem? (i := 874) (by decide +kernel)⟩
def lw_privs_4 : List (MethodName × Nat) := [(⟨"ShuffleDeskModel", "ran", "(I)V"⟩, 24), (⟨"ShuffleDeskModel", "laysDeal", "(II)I"⟩, 24), (⟨"ShuffleDeskModel", "cutsNow", "(II)I"⟩, 24), (⟨"ShuffleDeskModel", "cutsMove", "(II)I"⟩, 24), (⟨"ShuffleDeskModel", "turnsNow", "(II)I"⟩, 24), (⟨"ShuffleDeskModel", "turnsMove", "(II)I"⟩, 24), (⟨"ShuffleDeskModel", "turnsDeal", "(II)I"⟩, 24)]
theorem lw_r4 : ∀ q ∈ lw_privs_4, lw_okq q := List.forall_mem_cons.mpr ⟨lw_p48, List.forall_mem_cons.mpr ⟨lw_p49, List.forall_mem_cons.mpr ⟨lw_p50, List.forall_mem_cons.mpr ⟨lw_p51, List.forall_mem_cons.mpr ⟨lw_p52, List.forall_mem_cons.mpr ⟨lw_p53, List.forall_mem_cons.mpr ⟨lw_p54, fun _ h => absurd h List.not_mem_nil⟩⟩⟩⟩⟩⟩⟩
def lw_privs : List (MethodName × Nat) := lw_privs_1 ++ (lw_privs_2 ++ (lw_privs_3 ++ (lw_privs_4)))
def lw_tbl : List Cond := k2_sels lw_privs ++ tables_1
theorem lw_privs_ok : ∀ q ∈ lw_privs, lw_okq q := by
  show ∀ q ∈ lw_privs_1 ++ (lw_privs_2 ++ (lw_privs_3 ++ (lw_privs_4))), lw_okq q
  exact List.forall_mem_append.mpr ⟨lw_r1, List.forall_mem_append.mpr ⟨lw_r2, List.forall_mem_append.mpr ⟨lw_r3, lw_r4⟩⟩⟩
end
section
/-! ===== BEGIN printed: names, fields, word lists, decode rows ===== -/
def RX0 : String := "ShuffleDesk$Acts"
def TX0 : u_T := fun k => match k with
  | 0 => ("ShuffleDesk$Acts", "kept", "[I", true)
  | 1 => ("ShuffleDesk$Acts", "ran", "I", false)
  | 2 => ("ShuffleDesk$Acts", "kind", "I", false)
  | 3 => ("ShuffleDesk$Acts", "number", "I", false)
  | _ => ("ShuffleDesk$Acts", "heaps", "I", false)
def tyX0 : Nat → FieldType := fun k => match k with
  | 0 => .array .int
  | 1 => .int
  | 2 => .int
  | 3 => .int
  | _ => .int
abbrev wsX00 : List Cond := u_ws RX0 TX0 5
theorem nmX0 : ∀ a, a < 5 → ∀ b, b < 5 → a ≠ b → (TX0 a).2.1 ≠ (TX0 b).2.1 := by decide +kernel
theorem tyX0_ok : ∀ k, k < 5 → parseFieldDescriptor (TX0 k).2.2.1 = some (tyX0 k) := by decide +kernel
abbrev cX0_init : ByteArray := prog_2_method_1_code
def yX0_init : MethodName := ⟨RX0, "<init>", "()V"⟩
abbrev cX0_forget : ByteArray := prog_2_method_2_code
def yX0_forget : MethodName := ⟨RX0, "forget", "()V"⟩
abbrev cX0_answer : ByteArray := prog_2_method_3_code
def yX0_answer : MethodName := ⟨RX0, "answer", "(LShuffleDesk$Shuffle;III)I"⟩
abbrev cX0_run : ByteArray := prog_2_method_4_code
def yX0_run : MethodName := ⟨RX0, "run", "(IIII)I"⟩
abbrev cX0_bodyOf : ByteArray := prog_2_method_5_code
def yX0_bodyOf : MethodName := ⟨RX0, "bodyOf", "(II)I"⟩
abbrev cX0_note : ByteArray := prog_2_method_6_code
def yX0_note : MethodName := ⟨RX0, "note", "(I)V"⟩
def RX1 : String := "ShuffleDesk$Numbers"
def TX1 : u_T := fun k => match k with
  | _ => ("", "", "", false)
def tyX1 : Nat → FieldType := fun k => match k with
  | _ => .int
abbrev wsX10 : List Cond := u_ws RX1 TX1 0
theorem nmX1 : ∀ a, a < 0 → ∀ b, b < 0 → a ≠ b → (TX1 a).2.1 ≠ (TX1 b).2.1 := by decide +kernel
theorem tyX1_ok : ∀ k, k < 0 → parseFieldDescriptor (TX1 k).2.2.1 = some (tyX1 k) := by decide +kernel
abbrev cX1_raised : ByteArray := prog_3_method_2_code
def yX1_raised : MethodName := ⟨RX1, "raised", "(JI)J"⟩
abbrev cX1_choices : ByteArray := prog_3_method_3_code
def yX1_choices : MethodName := ⟨RX1, "choices", "(II)J"⟩
abbrev cX1_splits : ByteArray := prog_3_method_4_code
def yX1_splits : MethodName := ⟨RX1, "splits", "(IIII)J"⟩
abbrev cX1_divisor : ByteArray := prog_3_method_5_code
def yX1_divisor : MethodName := ⟨RX1, "divisor", "(JJ)J"⟩
abbrev cX1_part : ByteArray := prog_3_method_6_code
def yX1_part : MethodName := ⟨RX1, "part", "(JJI)J"⟩
abbrev cX1_setRunCounts : ByteArray := prog_3_method_7_code
def yX1_setRunCounts : MethodName := ⟨RX1, "setRunCounts", "([JI)V"⟩
abbrev cX1_setLooseCounts : ByteArray := prog_3_method_8_code
def yX1_setLooseCounts : MethodName := ⟨RX1, "setLooseCounts", "([JI)V"⟩
abbrev cX1_setBlocks : ByteArray := prog_3_method_9_code
def yX1_setBlocks : MethodName := ⟨RX1, "setBlocks", "([JII)V"⟩
def RX2 : String := "ShuffleDesk$Orders"
def TX2 : u_T := fun k => match k with
  | _ => ("", "", "", false)
def tyX2 : Nat → FieldType := fun k => match k with
  | _ => .int
abbrev wsX20 : List Cond := u_ws RX2 TX2 0
theorem nmX2 : ∀ a, a < 0 → ∀ b, b < 0 → a ≠ b → (TX2 a).2.1 ≠ (TX2 b).2.1 := by decide +kernel
theorem tyX2_ok : ∀ k, k < 0 → parseFieldDescriptor (TX2 k).2.2.1 = some (tyX2 k) := by decide +kernel
abbrev cX2_isOrder : ByteArray := prog_4_method_2_code
def yX2_isOrder : MethodName := ⟨RX2, "isOrder", "([III)Z"⟩
abbrev cX2_rankOf : ByteArray := prog_4_method_3_code
def yX2_rankOf : MethodName := ⟨RX2, "rankOf", "([II)I"⟩
abbrev cX2_setByRank : ByteArray := prog_4_method_4_code
def yX2_setByRank : MethodName := ⟨RX2, "setByRank", "([III)V"⟩
abbrev cX2_unused : ByteArray := prog_4_method_5_code
def yX2_unused : MethodName := ⟨RX2, "unused", "(III)I"⟩
abbrev cX2_setBack : ByteArray := prog_4_method_6_code
def yX2_setBack : MethodName := ⟨RX2, "setBack", "([I[II)V"⟩
abbrev cX2_setThrough : ByteArray := prog_4_method_7_code
def yX2_setThrough : MethodName := ⟨RX2, "setThrough", "([I[I[II)V"⟩
abbrev cX2_setDealt : ByteArray := prog_4_method_8_code
def yX2_setDealt : MethodName := ⟨RX2, "setDealt", "([III)V"⟩
abbrev cX2_runsOf : ByteArray := prog_4_method_9_code
def yX2_runsOf : MethodName := ⟨RX2, "runsOf", "([II)I"⟩
abbrev cX2_looseOf : ByteArray := prog_4_method_10_code
def yX2_looseOf : MethodName := ⟨RX2, "looseOf", "([II)I"⟩
def RX3 : String := "ShuffleDesk$Rounds"
def TX3 : u_T := fun k => match k with
  | _ => ("", "", "", false)
def tyX3 : Nat → FieldType := fun k => match k with
  | _ => .int
abbrev wsX30 : List Cond := u_ws RX3 TX3 0
theorem nmX3 : ∀ a, a < 0 → ∀ b, b < 0 → a ≠ b → (TX3 a).2.1 ≠ (TX3 b).2.1 := by decide +kernel
theorem tyX3_ok : ∀ k, k < 0 → parseFieldDescriptor (TX3 k).2.2.1 = some (tyX3 k) := by decide +kernel
abbrev cX3_lengthFrom : ByteArray := prog_5_method_2_code
def yX3_lengthFrom : MethodName := ⟨RX3, "lengthFrom", "([III)I"⟩
abbrev cX3_howMany : ByteArray := prog_5_method_3_code
def yX3_howMany : MethodName := ⟨RX3, "howMany", "([II)I"⟩
abbrev cX3_leastPower : ByteArray := prog_5_method_4_code
def yX3_leastPower : MethodName := ⟨RX3, "leastPower", "([II)I"⟩
abbrev cX3_along : ByteArray := prog_5_method_5_code
def yX3_along : MethodName := ⟨RX3, "along", "([IIIJ)I"⟩
def RX4 : String := "ShuffleDesk$Shuffle"
def TX4 : u_T := fun k => match k with
  | 0 => ("ShuffleDesk$Shuffle", "from", "[I", true)
  | 1 => ("ShuffleDesk$Shuffle", "kind", "I", false)
  | _ => ("ShuffleDesk$Shuffle", "heaps", "I", false)
def tyX4 : Nat → FieldType := fun k => match k with
  | 0 => .array .int
  | 1 => .int
  | _ => .int
abbrev wsX40 : List Cond := u_ws RX4 TX4 3
theorem nmX4 : ∀ a, a < 3 → ∀ b, b < 3 → a ≠ b → (TX4 a).2.1 ≠ (TX4 b).2.1 := by decide +kernel
theorem tyX4_ok : ∀ k, k < 3 → parseFieldDescriptor (TX4 k).2.2.1 = some (tyX4 k) := by decide +kernel
abbrev cX4_init : ByteArray := prog_6_method_1_code
def yX4_init : MethodName := ⟨RX4, "<init>", "()V"⟩
abbrev cX4_hasMove : ByteArray := prog_6_method_2_code
def yX4_hasMove : MethodName := ⟨RX4, "hasMove", "()Z"⟩
abbrev cX4_isUnder : ByteArray := prog_6_method_3_code
def yX4_isUnder : MethodName := ⟨RX4, "isUnder", "(I)Z"⟩
def RX5 : String := "ShuffleDesk$Tray"
def TX5 : u_T := fun k => match k with
  | 0 => ("ShuffleDesk$Tray", "items", "[I", true)
  | 1 => ("ShuffleDesk$Tray", "sort", "I", false)
  | _ => ("ShuffleDesk$Tray", "size", "I", false)
def tyX5 : Nat → FieldType := fun k => match k with
  | 0 => .array .int
  | 1 => .int
  | _ => .int
abbrev wsX50 : List Cond := u_ws RX5 TX5 3
theorem nmX5 : ∀ a, a < 3 → ∀ b, b < 3 → a ≠ b → (TX5 a).2.1 ≠ (TX5 b).2.1 := by decide +kernel
theorem tyX5_ok : ∀ k, k < 3 → parseFieldDescriptor (TX5 k).2.2.1 = some (tyX5 k) := by decide +kernel
abbrev cX5_init : ByteArray := prog_7_method_1_code
def yX5_init : MethodName := ⟨RX5, "<init>", "()V"⟩
abbrev cX5_isMissing : ByteArray := prog_7_method_2_code
def yX5_isMissing : MethodName := ⟨RX5, "isMissing", "()Z"⟩
abbrev cX5_clear : ByteArray := prog_7_method_3_code
def yX5_clear : MethodName := ⟨RX5, "clear", "(II)V"⟩
abbrev cX5_holds : ByteArray := prog_7_method_4_code
def yX5_holds : MethodName := ⟨RX5, "holds", "(II)Z"⟩
abbrev cX5_narrowed : ByteArray := prog_7_method_5_code
def yX5_narrowed : MethodName := ⟨RX5, "narrowed", "(I)I"⟩
def RX6 : String := "ShuffleDesk$Ways"
def TX6 : u_T := fun k => match k with
  | _ => ("", "", "", false)
def tyX6 : Nat → FieldType := fun k => match k with
  | _ => .int
abbrev wsX60 : List Cond := u_ws RX6 TX6 0
theorem nmX6 : ∀ a, a < 0 → ∀ b, b < 0 → a ≠ b → (TX6 a).2.1 ≠ (TX6 b).2.1 := by decide +kernel
theorem tyX6_ok : ∀ k, k < 0 → parseFieldDescriptor (TX6 k).2.2.1 = some (tyX6 k) := by decide +kernel
abbrev cX6_carried : ByteArray := prog_8_method_2_code
def yX6_carried : MethodName := ⟨RX6, "carried", "(III)I"⟩
abbrev cX6_shortest : ByteArray := prog_8_method_3_code
def yX6_shortest : MethodName := ⟨RX6, "shortest", "(III)I"⟩
abbrev cX6_end : ByteArray := prog_8_method_4_code
def yX6_end : MethodName := ⟨RX6, "end", "(III)I"⟩
abbrev cX6_lengthOf : ByteArray := prog_8_method_5_code
def yX6_lengthOf : MethodName := ⟨RX6, "lengthOf", "(I)I"⟩
def RX7 : String := "ShuffleDesk"
def TX7 : u_T := fun k => match k with
  | 0 => ("ShuffleDesk", "packs", "[[I", true)
  | 1 => ("ShuffleDesk", "shuffles", "[LShuffleDesk$Shuffle;", true)
  | 2 => ("ShuffleDesk", "trays", "[LShuffleDesk$Tray;", true)
  | 3 => ("ShuffleDesk", "acts", "LShuffleDesk$Acts;", true)
  | 4 => ("ShuffleDesk", "cards", "I", false)
  | 5 => ("ShuffleDesk", "packCount", "I", false)
  | 6 => ("ShuffleDesk", "shuffleCount", "I", false)
  | 7 => ("ShuffleDesk", "drawSeed", "I", false)
  | 8 => ("ShuffleDesk", "before", "[I", true)
  | 9 => ("ShuffleDesk", "places", "[I", true)
  | 10 => ("ShuffleDesk", "lotRow", "[I", true)
  | 11 => ("ShuffleDesk", "nextOfHeap", "[I", true)
  | 12 => ("ShuffleDesk", "levelCounts", "[J", true)
  | _ => ("ShuffleDesk", "blocks", "[J", true)
def tyX7 : Nat → FieldType := fun k => match k with
  | 0 => .array (.array .int)
  | 1 => .array (.object "ShuffleDesk$Shuffle")
  | 2 => .array (.object "ShuffleDesk$Tray")
  | 3 => .object "ShuffleDesk$Acts"
  | 4 => .int
  | 5 => .int
  | 6 => .int
  | 7 => .int
  | 8 => .array .int
  | 9 => .array .int
  | 10 => .array .int
  | 11 => .array .int
  | 12 => .array .long
  | _ => .array .long
abbrev wsX70 : List Cond := u_ws RX7 TX7 14
theorem nmX7 : ∀ a, a < 14 → ∀ b, b < 14 → a ≠ b → (TX7 a).2.1 ≠ (TX7 b).2.1 := by decide +kernel
theorem tyX7_ok : ∀ k, k < 14 → parseFieldDescriptor (TX7 k).2.2.1 = some (tyX7 k) := by decide +kernel
abbrev cX7_init : ByteArray := prog_1_method_1_code
def yX7_init : MethodName := ⟨RX7, "<init>", "()V"⟩
abbrev cX7_begin : ByteArray := prog_1_method_2_code
def yX7_begin : MethodName := ⟨RX7, "begin", "(I)I"⟩
abbrev cX7_pack : ByteArray := prog_1_method_3_code
def yX7_pack : MethodName := ⟨RX7, "pack", "()I"⟩
abbrev cX7_ranked : ByteArray := prog_1_method_4_code
def yX7_ranked : MethodName := ⟨RX7, "ranked", "(I)I"⟩
abbrev cX7_told : ByteArray := prog_1_method_5_code
def yX7_told : MethodName := ⟨RX7, "told", "(III)I"⟩
abbrev cX7_card : ByteArray := prog_1_method_6_code
def yX7_card : MethodName := ⟨RX7, "card", "(II)I"⟩
abbrev cX7_packTold : ByteArray := prog_1_method_7_code
def yX7_packTold : MethodName := ⟨RX7, "packTold", "(II)I"⟩
abbrev cX7_move : ByteArray := prog_1_method_8_code
def yX7_move : MethodName := ⟨RX7, "move", "(I)I"⟩
abbrev cX7_perfect : ByteArray := prog_1_method_9_code
def yX7_perfect : MethodName := ⟨RX7, "perfect", "(I)I"⟩
abbrev cX7_deal : ByteArray := prog_1_method_10_code
def yX7_deal : MethodName := ⟨RX7, "deal", "(I)I"⟩
abbrev cX7_riffle : ByteArray := prog_1_method_11_code
def yX7_riffle : MethodName := ⟨RX7, "riffle", "(I)I"⟩
abbrev cX7_top : ByteArray := prog_1_method_12_code
def yX7_top : MethodName := ⟨RX7, "top", "()I"⟩
abbrev cX7_behind : ByteArray := prog_1_method_13_code
def yX7_behind : MethodName := ⟨RX7, "behind", "(II)I"⟩
abbrev cX7_back : ByteArray := prog_1_method_14_code
def yX7_back : MethodName := ⟨RX7, "back", "(I)I"⟩
abbrev cX7_moves : ByteArray := prog_1_method_15_code
def yX7_moves : MethodName := ⟨RX7, "moves", "(II)I"⟩
abbrev cX7_shuffleTold : ByteArray := prog_1_method_16_code
def yX7_shuffleTold : MethodName := ⟨RX7, "shuffleTold", "(II)I"⟩
abbrev cX7_power : ByteArray := prog_1_method_17_code
def yX7_power : MethodName := ⟨RX7, "power", "(IJI)I"⟩
abbrev cX7_taken : ByteArray := prog_1_method_18_code
def yX7_taken : MethodName := ⟨RX7, "taken", "(II)I"⟩
abbrev cX7_does : ByteArray := prog_1_method_19_code
def yX7_does : MethodName := ⟨RX7, "does", "(II)I"⟩
abbrev cX7_lots : ByteArray := prog_1_method_20_code
def yX7_lots : MethodName := ⟨RX7, "lots", "(IIJ)I"⟩
abbrev cX7_draw : ByteArray := prog_1_method_21_code
def yX7_draw : MethodName := ⟨RX7, "draw", "(II)J"⟩
abbrev cX7_seed : ByteArray := prog_1_method_22_code
def yX7_seed : MethodName := ⟨RX7, "seed", "(I)I"⟩
abbrev cX7_chance : ByteArray := prog_1_method_23_code
def yX7_chance : MethodName := ⟨RX7, "chance", "(IIII)J"⟩
abbrev cX7_place : ByteArray := prog_1_method_24_code
def yX7_place : MethodName := ⟨RX7, "place", "(IIII)J"⟩
abbrev cX7_far : ByteArray := prog_1_method_25_code
def yX7_far : MethodName := ⟨RX7, "far", "(III)J"⟩
abbrev cX7_unlike : ByteArray := prog_1_method_26_code
def yX7_unlike : MethodName := ⟨RX7, "unlike", "(III)J"⟩
abbrev cX7_runs : ByteArray := prog_1_method_27_code
def yX7_runs : MethodName := ⟨RX7, "runs", "(I)J"⟩
abbrev cX7_leads : ByteArray := prog_1_method_28_code
def yX7_leads : MethodName := ⟨RX7, "leads", "(II)I"⟩
abbrev cX7_lead : ByteArray := prog_1_method_29_code
def yX7_lead : MethodName := ⟨RX7, "lead", "(III)I"⟩
abbrev cX7_group : ByteArray := prog_1_method_30_code
def yX7_group : MethodName := ⟨RX7, "group", "()I"⟩
abbrev cX7_act : ByteArray := prog_1_method_31_code
def yX7_act : MethodName := ⟨RX7, "act", "(III)I"⟩
abbrev cX7_trace : ByteArray := prog_1_method_32_code
def yX7_trace : MethodName := ⟨RX7, "trace", "(I)I"⟩
abbrev cX7_count : ByteArray := prog_1_method_33_code
def yX7_count : MethodName := ⟨RX7, "count", "(I)I"⟩
abbrev cX7_tray : ByteArray := prog_1_method_34_code
def yX7_tray : MethodName := ⟨RX7, "tray", "(III)I"⟩
abbrev cX7_cell : ByteArray := prog_1_method_35_code
def yX7_cell : MethodName := ⟨RX7, "cell", "(III)I"⟩
abbrev cX7_copy : ByteArray := prog_1_method_36_code
def yX7_copy : MethodName := ⟨RX7, "copy", "(IIIII)I"⟩
abbrev cX7_isPack : ByteArray := prog_1_method_37_code
def yX7_isPack : MethodName := ⟨RX7, "isPack", "(I)Z"⟩
abbrev cX7_isShuffle : ByteArray := prog_1_method_38_code
def yX7_isShuffle : MethodName := ⟨RX7, "isShuffle", "(I)Z"⟩
abbrev cX7_isPlace : ByteArray := prog_1_method_39_code
def yX7_isPlace : MethodName := ⟨RX7, "isPlace", "(I)Z"⟩
abbrev cX7_isOdd : ByteArray := prog_1_method_40_code
def yX7_isOdd : MethodName := ⟨RX7, "isOdd", "()Z"⟩
abbrev cX7_isTray : ByteArray := prog_1_method_41_code
def yX7_isTray : MethodName := ⟨RX7, "isTray", "(I)Z"⟩
abbrev cX7_isSort : ByteArray := prog_1_method_42_code
def yX7_isSort : MethodName := ⟨RX7, "isSort", "(I)Z"⟩
abbrev cX7_isPart : ByteArray := prog_1_method_43_code
def yX7_isPart : MethodName := ⟨RX7, "isPart", "(I)Z"⟩
abbrev cX7_addShuffle : ByteArray := prog_1_method_44_code
def yX7_addShuffle : MethodName := ⟨RX7, "addShuffle", "(II)I"⟩
abbrev cX7_lotsOf : ByteArray := prog_1_method_45_code
def yX7_lotsOf : MethodName := ⟨RX7, "lotsOf", "(LShuffleDesk$Shuffle;)I"⟩
abbrev cX7_drawnLot : ByteArray := prog_1_method_46_code
def yX7_drawnLot : MethodName := ⟨RX7, "drawnLot", "(I)I"⟩
abbrev cX7_layByLots : ByteArray := prog_1_method_47_code
def yX7_layByLots : MethodName := ⟨RX7, "layByLots", "(LShuffleDesk$Shuffle;[I)V"⟩
abbrev cX7_layTop : ByteArray := prog_1_method_48_code
def yX7_layTop : MethodName := ⟨RX7, "layTop", "([II)V"⟩
abbrev cX7_layRiffle : ByteArray := prog_1_method_49_code
def yX7_layRiffle : MethodName := ⟨RX7, "layRiffle", "([II)V"⟩
abbrev cX7_hasChances : ByteArray := prog_1_method_50_code
def yX7_hasChances : MethodName := ⟨RX7, "hasChances", "(LShuffleDesk$Shuffle;I)Z"⟩
abbrev cX7_allRows : ByteArray := prog_1_method_51_code
def yX7_allRows : MethodName := ⟨RX7, "allRows", "(LShuffleDesk$Shuffle;I)J"⟩
abbrev cX7_levelOf : ByteArray := prog_1_method_52_code
def yX7_levelOf : MethodName := ⟨RX7, "levelOf", "(LShuffleDesk$Shuffle;[I)I"⟩
abbrev cX7_countLevels : ByteArray := prog_1_method_53_code
def yX7_countLevels : MethodName := ⟨RX7, "countLevels", "(LShuffleDesk$Shuffle;)V"⟩
abbrev cX7_rowsToLevel : ByteArray := prog_1_method_54_code
def yX7_rowsToLevel : MethodName := ⟨RX7, "rowsToLevel", "(LShuffleDesk$Shuffle;II)J"⟩
abbrev cX7_topLotsToPlace : ByteArray := prog_1_method_55_code
def yX7_topLotsToPlace : MethodName := ⟨RX7, "topLotsToPlace", "(II)I"⟩
abbrev cX7_riffleRowsToPlace : ByteArray := prog_1_method_56_code
def yX7_riffleRowsToPlace : MethodName := ⟨RX7, "riffleRowsToPlace", "(III)J"⟩
def RX8 : String := "ShuffleDeskModel"
def TX8 : u_T := fun k => match k with
  | 0 => ("ShuffleDeskModel", "n", "I", false)
  | 1 => ("ShuffleDeskModel", "packs", "I", false)
  | 2 => ("ShuffleDeskModel", "shuffles", "I", false)
  | 3 => ("ShuffleDeskModel", "seed", "I", false)
  | 4 => ("ShuffleDeskModel", "order", "[I", true)
  | 5 => ("ShuffleDeskModel", "kind", "[I", true)
  | 6 => ("ShuffleDeskModel", "heaps", "[I", true)
  | 7 => ("ShuffleDeskModel", "m", "[I", true)
  | 8 => ("ShuffleDeskModel", "line", "[I", true)
  | 9 => ("ShuffleDeskModel", "other", "[I", true)
  | 10 => ("ShuffleDeskModel", "ways", "[J", true)
  | 11 => ("ShuffleDeskModel", "next", "[J", true)
  | 12 => ("ShuffleDeskModel", "chances", "[J", true)
  | 13 => ("ShuffleDeskModel", "after", "[J", true)
  | 14 => ("ShuffleDeskModel", "far", "[I", true)
  | 15 => ("ShuffleDeskModel", "groups", "[I", true)
  | 16 => ("ShuffleDeskModel", "found", "[J", true)
  | 17 => ("ShuffleDeskModel", "counts", "[J", true)
  | 18 => ("ShuffleDeskModel", "traySort", "[I", true)
  | 19 => ("ShuffleDeskModel", "traySize", "[I", true)
  | 20 => ("ShuffleDeskModel", "cells", "[I", true)
  | 21 => ("ShuffleDeskModel", "moved", "[I", true)
  | 22 => ("ShuffleDeskModel", "traced", "[I", true)
  | _ => ("ShuffleDeskModel", "bodies", "I", false)
def tyX8 : Nat → FieldType := fun k => match k with
  | 0 => .int
  | 1 => .int
  | 2 => .int
  | 3 => .int
  | 4 => .array .int
  | 5 => .array .int
  | 6 => .array .int
  | 7 => .array .int
  | 8 => .array .int
  | 9 => .array .int
  | 10 => .array .long
  | 11 => .array .long
  | 12 => .array .long
  | 13 => .array .long
  | 14 => .array .int
  | 15 => .array .int
  | 16 => .array .long
  | 17 => .array .long
  | 18 => .array .int
  | 19 => .array .int
  | 20 => .array .int
  | 21 => .array .int
  | 22 => .array .int
  | _ => .int
abbrev wsX80 : List Cond := u_ws RX8 TX8 24
theorem nmX8 : ∀ a, a < 24 → ∀ b, b < 24 → a ≠ b → (TX8 a).2.1 ≠ (TX8 b).2.1 := by decide +kernel
theorem tyX8_ok : ∀ k, k < 24 → parseFieldDescriptor (TX8 k).2.2.1 = some (tyX8 k) := by decide +kernel
abbrev cX8_init : ByteArray := prog_10_method_1_code
def yX8_init : MethodName := ⟨RX8, "<init>", "()V"⟩
abbrev cX8_isPack : ByteArray := prog_10_method_2_code
def yX8_isPack : MethodName := ⟨RX8, "isPack", "(I)Z"⟩
abbrev cX8_isShuffle : ByteArray := prog_10_method_3_code
def yX8_isShuffle : MethodName := ⟨RX8, "isShuffle", "(I)Z"⟩
abbrev cX8_isPlace : ByteArray := prog_10_method_4_code
def yX8_isPlace : MethodName := ⟨RX8, "isPlace", "(I)Z"⟩
abbrev cX8_hasMove : ByteArray := prog_10_method_5_code
def yX8_hasMove : MethodName := ⟨RX8, "hasMove", "(I)Z"⟩
abbrev cX8_common : ByteArray := prog_10_method_6_code
def yX8_common : MethodName := ⟨RX8, "common", "(JJ)J"⟩
abbrev cX8_lowest : ByteArray := prog_10_method_7_code
def yX8_lowest : MethodName := ⟨RX8, "lowest", "(JJI)J"⟩
abbrev cX8_power : ByteArray := prog_10_method_8_code
def yX8_power : MethodName := ⟨RX8, "power", "(JI)J"⟩
abbrev cX8_orders : ByteArray := prog_10_method_9_code
def yX8_orders : MethodName := ⟨RX8, "orders", "(I)I"⟩
abbrev cX8_begin : ByteArray := prog_10_method_10_code
def yX8_begin : MethodName := ⟨RX8, "begin", "(I)I"⟩
abbrev cX8_comes : ByteArray := prog_10_method_11_code
def yX8_comes : MethodName := ⟨RX8, "comes", "()I"⟩
abbrev cX8_ofRank : ByteArray := prog_10_method_12_code
def yX8_ofRank : MethodName := ⟨RX8, "ofRank", "(I)V"⟩
abbrev cX8_rank : ByteArray := prog_10_method_13_code
def yX8_rank : MethodName := ⟨RX8, "rank", "()I"⟩
abbrev cX8_takes : ByteArray := prog_10_method_14_code
def yX8_takes : MethodName := ⟨RX8, "takes", "(I)V"⟩
abbrev cX8_puts : ByteArray := prog_10_method_15_code
def yX8_puts : MethodName := ⟨RX8, "puts", "(I)V"⟩
abbrev cX8_pack : ByteArray := prog_10_method_16_code
def yX8_pack : MethodName := ⟨RX8, "pack", "()I"⟩
abbrev cX8_ranked : ByteArray := prog_10_method_17_code
def yX8_ranked : MethodName := ⟨RX8, "ranked", "(I)I"⟩
abbrev cX8_told : ByteArray := prog_10_method_18_code
def yX8_told : MethodName := ⟨RX8, "told", "(III)I"⟩
abbrev cX8_card : ByteArray := prog_10_method_19_code
def yX8_card : MethodName := ⟨RX8, "card", "(II)I"⟩
abbrev cX8_placeOf : ByteArray := prog_10_method_20_code
def yX8_placeOf : MethodName := ⟨RX8, "placeOf", "(I)I"⟩
abbrev cX8_runsOf : ByteArray := prog_10_method_21_code
def yX8_runsOf : MethodName := ⟨RX8, "runsOf", "()I"⟩
abbrev cX8_packTold : ByteArray := prog_10_method_22_code
def yX8_packTold : MethodName := ⟨RX8, "packTold", "(II)I"⟩
abbrev cX8_makes : ByteArray := prog_10_method_23_code
def yX8_makes : MethodName := ⟨RX8, "makes", "(II)I"⟩
abbrev cX8_move : ByteArray := prog_10_method_24_code
def yX8_move : MethodName := ⟨RX8, "move", "(I)I"⟩
abbrev cX8_goes : ByteArray := prog_10_method_25_code
def yX8_goes : MethodName := ⟨RX8, "goes", "(II)I"⟩
abbrev cX8_perfect : ByteArray := prog_10_method_26_code
def yX8_perfect : MethodName := ⟨RX8, "perfect", "(I)I"⟩
abbrev cX8_deal : ByteArray := prog_10_method_27_code
def yX8_deal : MethodName := ⟨RX8, "deal", "(I)I"⟩
abbrev cX8_riffle : ByteArray := prog_10_method_28_code
def yX8_riffle : MethodName := ⟨RX8, "riffle", "(I)I"⟩
abbrev cX8_top : ByteArray := prog_10_method_29_code
def yX8_top : MethodName := ⟨RX8, "top", "()I"⟩
abbrev cX8_behind : ByteArray := prog_10_method_30_code
def yX8_behind : MethodName := ⟨RX8, "behind", "(II)I"⟩
abbrev cX8_back : ByteArray := prog_10_method_31_code
def yX8_back : MethodName := ⟨RX8, "back", "(I)I"⟩
abbrev cX8_moves : ByteArray := prog_10_method_32_code
def yX8_moves : MethodName := ⟨RX8, "moves", "(II)I"⟩
abbrev cX8_roundOf : ByteArray := prog_10_method_33_code
def yX8_roundOf : MethodName := ⟨RX8, "roundOf", "(II)I"⟩
abbrev cX8_rounds : ByteArray := prog_10_method_34_code
def yX8_rounds : MethodName := ⟨RX8, "rounds", "(I)I"⟩
abbrev cX8_whole : ByteArray := prog_10_method_35_code
def yX8_whole : MethodName := ⟨RX8, "whole", "(I)I"⟩
abbrev cX8_shuffleTold : ByteArray := prog_10_method_36_code
def yX8_shuffleTold : MethodName := ⟨RX8, "shuffleTold", "(II)I"⟩
abbrev cX8_power_ : ByteArray := prog_10_method_37_code
def yX8_power_ : MethodName := ⟨RX8, "power", "(IJI)I"⟩
abbrev cX8_does : ByteArray := prog_10_method_38_code
def yX8_does : MethodName := ⟨RX8, "does", "(II)I"⟩
abbrev cX8_lays : ByteArray := prog_10_method_39_code
def yX8_lays : MethodName := ⟨RX8, "lays", "(IIJ)V"⟩
abbrev cX8_lot : ByteArray := prog_10_method_40_code
def yX8_lot : MethodName := ⟨RX8, "lot", "(JII)I"⟩
abbrev cX8_lots : ByteArray := prog_10_method_41_code
def yX8_lots : MethodName := ⟨RX8, "lots", "(IIJ)I"⟩
abbrev cX8_drawn : ByteArray := prog_10_method_42_code
def yX8_drawn : MethodName := ⟨RX8, "drawn", "(I)I"⟩
abbrev cX8_draw : ByteArray := prog_10_method_43_code
def yX8_draw : MethodName := ⟨RX8, "draw", "(II)J"⟩
abbrev cX8_seed : ByteArray := prog_10_method_44_code
def yX8_seed : MethodName := ⟨RX8, "seed", "(I)I"⟩
abbrev cX8_isChance : ByteArray := prog_10_method_45_code
def yX8_isChance : MethodName := ⟨RX8, "isChance", "(II)Z"⟩
abbrev cX8_heapWays : ByteArray := prog_10_method_46_code
def yX8_heapWays : MethodName := ⟨RX8, "heapWays", "(II)J"⟩
abbrev cX8_tops : ByteArray := prog_10_method_47_code
def yX8_tops : MethodName := ⟨RX8, "tops", "(I)V"⟩
abbrev cX8_chance : ByteArray := prog_10_method_48_code
def yX8_chance : MethodName := ⟨RX8, "chance", "(IIII)J"⟩
abbrev cX8_place : ByteArray := prog_10_method_49_code
def yX8_place : MethodName := ⟨RX8, "place", "(IIII)J"⟩
abbrev cX8_far : ByteArray := prog_10_method_50_code
def yX8_far : MethodName := ⟨RX8, "far", "(III)J"⟩
abbrev cX8_size : ByteArray := prog_10_method_51_code
def yX8_size : MethodName := ⟨RX8, "size", "(J)J"⟩
abbrev cX8_unlike : ByteArray := prog_10_method_52_code
def yX8_unlike : MethodName := ⟨RX8, "unlike", "(III)J"⟩
abbrev cX8_runs : ByteArray := prog_10_method_53_code
def yX8_runs : MethodName := ⟨RX8, "runs", "(I)J"⟩
abbrev cX8_fars : ByteArray := prog_10_method_54_code
def yX8_fars : MethodName := ⟨RX8, "fars", "(I)V"⟩
abbrev cX8_leads : ByteArray := prog_10_method_55_code
def yX8_leads : MethodName := ⟨RX8, "leads", "(II)I"⟩
abbrev cX8_lead : ByteArray := prog_10_method_56_code
def yX8_lead : MethodName := ⟨RX8, "lead", "(III)I"⟩
abbrev cX8_packed : ByteArray := prog_10_method_57_code
def yX8_packed : MethodName := ⟨RX8, "packed", "()J"⟩
abbrev cX8_group : ByteArray := prog_10_method_58_code
def yX8_group : MethodName := ⟨RX8, "group", "()I"⟩
abbrev cX8_orbit : ByteArray := prog_10_method_59_code
def yX8_orbit : MethodName := ⟨RX8, "orbit", "()I"⟩
abbrev cX8_isFound : ByteArray := prog_10_method_60_code
def yX8_isFound : MethodName := ⟨RX8, "isFound", "(JI)Z"⟩
abbrev cX8_isListed : ByteArray := prog_10_method_61_code
def yX8_isListed : MethodName := ⟨RX8, "isListed", "(JII)Z"⟩
abbrev cX8_sorts : ByteArray := prog_10_method_62_code
def yX8_sorts : MethodName := ⟨RX8, "sorts", "(I)V"⟩
abbrev cX8_ran : ByteArray := prog_10_method_63_code
def yX8_ran : MethodName := ⟨RX8, "ran", "(I)V"⟩
abbrev cX8_laysMove : ByteArray := prog_10_method_64_code
def yX8_laysMove : MethodName := ⟨RX8, "laysMove", "(II)I"⟩
abbrev cX8_laysDeal : ByteArray := prog_10_method_65_code
def yX8_laysDeal : MethodName := ⟨RX8, "laysDeal", "(II)I"⟩
abbrev cX8_laysNow : ByteArray := prog_10_method_66_code
def yX8_laysNow : MethodName := ⟨RX8, "laysNow", "(II)I"⟩
abbrev cX8_cutsMove : ByteArray := prog_10_method_67_code
def yX8_cutsMove : MethodName := ⟨RX8, "cutsMove", "(II)I"⟩
abbrev cX8_cutsNow : ByteArray := prog_10_method_68_code
def yX8_cutsNow : MethodName := ⟨RX8, "cutsNow", "(II)I"⟩
abbrev cX8_turnsMove : ByteArray := prog_10_method_69_code
def yX8_turnsMove : MethodName := ⟨RX8, "turnsMove", "(II)I"⟩
abbrev cX8_turnsDeal : ByteArray := prog_10_method_70_code
def yX8_turnsDeal : MethodName := ⟨RX8, "turnsDeal", "(II)I"⟩
abbrev cX8_turnsNow : ByteArray := prog_10_method_71_code
def yX8_turnsNow : MethodName := ⟨RX8, "turnsNow", "(II)I"⟩
abbrev cX8_act : ByteArray := prog_10_method_72_code
def yX8_act : MethodName := ⟨RX8, "act", "(III)I"⟩
abbrev cX8_trace : ByteArray := prog_10_method_73_code
def yX8_trace : MethodName := ⟨RX8, "trace", "(I)I"⟩
abbrev cX8_count : ByteArray := prog_10_method_74_code
def yX8_count : MethodName := ⟨RX8, "count", "(I)I"⟩
abbrev cX8_isTray : ByteArray := prog_10_method_75_code
def yX8_isTray : MethodName := ⟨RX8, "isTray", "(I)Z"⟩
abbrev cX8_tray : ByteArray := prog_10_method_76_code
def yX8_tray : MethodName := ⟨RX8, "tray", "(III)I"⟩
abbrev cX8_cell : ByteArray := prog_10_method_77_code
def yX8_cell : MethodName := ⟨RX8, "cell", "(III)I"⟩
abbrev cX8_copy : ByteArray := prog_10_method_78_code
def yX8_copy : MethodName := ⟨RX8, "copy", "(IIIII)I"⟩
abbrev cX8_taken : ByteArray := prog_10_method_79_code
def yX8_taken : MethodName := ⟨RX8, "taken", "(II)I"⟩
def RJ6 : String := "java/lang/Integer"
def TJ6 : u_T := fun k => match k with
  | _ => ("", "", "", false)
def tyJ6 : Nat → FieldType := fun k => match k with
  | _ => .int
abbrev wsJ60 : List Cond := u_ws RJ6 TJ6 0
theorem nmJ6 : ∀ a, a < 0 → ∀ b, b < 0 → a ≠ b → (TJ6 a).2.1 ≠ (TJ6 b).2.1 := by decide +kernel
theorem tyJ6_ok : ∀ k, k < 0 → parseFieldDescriptor (TJ6 k).2.2.1 = some (tyJ6 k) := by decide +kernel
abbrev cJ6_numberOfLeadingZeros_0f7a4 : ByteArray := prog_11_method_47_code
def yJ6_numberOfLeadingZeros_0f7a4 : MethodName := ⟨RJ6, "numberOfLeadingZeros", "(I)I"⟩
def RJ9 : String := "java/lang/Math"
def TJ9 : u_T := fun k => match k with
  | _ => ("", "", "", false)
def tyJ9 : Nat → FieldType := fun k => match k with
  | _ => .int
abbrev wsJ90 : List Cond := u_ws RJ9 TJ9 0
theorem nmJ9 : ∀ a, a < 0 → ∀ b, b < 0 → a ≠ b → (TJ9 a).2.1 ≠ (TJ9 b).2.1 := by decide +kernel
theorem tyJ9_ok : ∀ k, k < 0 → parseFieldDescriptor (TJ9 k).2.2.1 = some (tyJ9 k) := by decide +kernel
abbrev cJ9_abs_067f4 : ByteArray := prog_12_method_61_code
def yJ9_abs_067f4 : MethodName := ⟨RJ9, "abs", "(J)J"⟩
abbrev cJ9_max_7cf53 : ByteArray := prog_12_method_65_code
def yJ9_max_7cf53 : MethodName := ⟨RJ9, "max", "(II)I"⟩
abbrev cJ9_max_f86c9 : ByteArray := prog_12_method_66_code
def yJ9_max_f86c9 : MethodName := ⟨RJ9, "max", "(JJ)J"⟩
abbrev cJ9_min_7cf53 : ByteArray := prog_12_method_69_code
def yJ9_min_7cf53 : MethodName := ⟨RJ9, "min", "(II)I"⟩
def RJ10 : String := "java/lang/System"
def TJ10 : u_T := fun k => match k with
  | _ => ("", "", "", false)
def tyJ10 : Nat → FieldType := fun k => match k with
  | _ => .int
abbrev wsJ100 : List Cond := u_ws RJ10 TJ10 0
theorem nmJ10 : ∀ a, a < 0 → ∀ b, b < 0 → a ≠ b → (TJ10 a).2.1 ≠ (TJ10 b).2.1 := by decide +kernel
theorem tyJ10_ok : ∀ k, k < 0 → parseFieldDescriptor (TJ10 k).2.2.1 = some (tyJ10 k) := by decide +kernel
def RL : String := "ShuffleDeskLaw"
abbrev cL_law : ByteArray := code
def yL_law : MethodName := ⟨RL, "law", "([I)Z"⟩
abbrev vwCl : List vw_C := [(RX0, TX0, 5), (RX4, TX4, 3), (RX5, TX5, 3), (RX7, TX7, 14), (RX8, TX8, 24)]
end
section
theorem dX0_init_0 : decode cX0_init 0 = .ok (.aload_n 0, 1) := by decide +kernel
theorem dX0_init_1 : decode cX0_init 1 = .ok (.invokespecial 3, 3) := by decide +kernel
theorem dX0_init_4 : decode cX0_init 4 = .ok (.aload_n 0, 1) := by decide +kernel
theorem dX0_init_5 : decode cX0_init 5 = .ok (.bipush 40, 2) := by decide +kernel
theorem dX0_init_7 : decode cX0_init 7 = .ok (.newarray .int, 2) := by decide +kernel
theorem dX0_init_9 : decode cX0_init 9 = .ok (.putfield 9, 3) := by decide +kernel
theorem dX0_init_12 : decode cX0_init 12 = .ok (.aload_n 0, 1) := by decide +kernel
theorem dX0_init_13 : decode cX0_init 13 = .ok (.iconst 0, 1) := by decide +kernel
theorem dX0_init_14 : decode cX0_init 14 = .ok (.putfield 15, 3) := by decide +kernel
theorem dX0_init_17 : decode cX0_init 17 = .ok (.aload_n 0, 1) := by decide +kernel
theorem dX0_init_18 : decode cX0_init 18 = .ok (.iconst 0, 1) := by decide +kernel
theorem dX0_init_19 : decode cX0_init 19 = .ok (.putfield 19, 3) := by decide +kernel
theorem dX0_init_22 : decode cX0_init 22 = .ok (.aload_n 0, 1) := by decide +kernel
theorem dX0_init_23 : decode cX0_init 23 = .ok (.iconst 0, 1) := by decide +kernel
theorem dX0_init_24 : decode cX0_init 24 = .ok (.putfield 22, 3) := by decide +kernel
theorem dX0_init_27 : decode cX0_init 27 = .ok (.aload_n 0, 1) := by decide +kernel
theorem dX0_init_28 : decode cX0_init 28 = .ok (.iconst 2, 1) := by decide +kernel
theorem dX0_init_29 : decode cX0_init 29 = .ok (.putfield 25, 3) := by decide +kernel
theorem dX0_init_32 : decode cX0_init 32 = .ok (.return_, 1) := by decide +kernel
theorem dX0_forget_0 : decode cX0_forget 0 = .ok (.aload_n 0, 1) := by decide +kernel
theorem dX0_forget_1 : decode cX0_forget 1 = .ok (.iconst 0, 1) := by decide +kernel
theorem dX0_forget_2 : decode cX0_forget 2 = .ok (.putfield 15, 3) := by decide +kernel
theorem dX0_forget_5 : decode cX0_forget 5 = .ok (.return_, 1) := by decide +kernel
theorem dX0_answer_0 : decode cX0_answer 0 = .ok (.aload_n 0, 1) := by decide +kernel
theorem dX0_answer_1 : decode cX0_answer 1 = .ok (.aload_n 1, 1) := by decide +kernel
theorem dX0_answer_2 : decode cX0_answer 2 = .ok (.getfield 28, 3) := by decide +kernel
theorem dX0_answer_5 : decode cX0_answer 5 = .ok (.putfield 19, 3) := by decide +kernel
theorem dX0_answer_8 : decode cX0_answer 8 = .ok (.aload_n 0, 1) := by decide +kernel
theorem dX0_answer_9 : decode cX0_answer 9 = .ok (.iload_n 2, 1) := by decide +kernel
theorem dX0_answer_10 : decode cX0_answer 10 = .ok (.putfield 22, 3) := by decide +kernel
theorem dX0_answer_13 : decode cX0_answer 13 = .ok (.aload_n 0, 1) := by decide +kernel
theorem dX0_answer_14 : decode cX0_answer 14 = .ok (.aload_n 1, 1) := by decide +kernel
theorem dX0_answer_15 : decode cX0_answer 15 = .ok (.getfield 31, 3) := by decide +kernel
theorem dX0_answer_18 : decode cX0_answer 18 = .ok (.putfield 25, 3) := by decide +kernel
theorem dX0_answer_21 : decode cX0_answer 21 = .ok (.aload_n 0, 1) := by decide +kernel
theorem dX0_answer_22 : decode cX0_answer 22 = .ok (.aload_n 0, 1) := by decide +kernel
theorem dX0_answer_23 : decode cX0_answer 23 = .ok (.getfield 19, 3) := by decide +kernel
theorem dX0_answer_26 : decode cX0_answer 26 = .ok (.iload_n 3, 1) := by decide +kernel
theorem dX0_answer_27 : decode cX0_answer 27 = .ok (.iload 4, 2) := by decide +kernel
theorem dX0_answer_29 : decode cX0_answer 29 = .ok (.iconst 0, 1) := by decide +kernel
theorem dX0_answer_30 : decode cX0_answer 30 = .ok (.invokevirtual 32, 3) := by decide +kernel
theorem dX0_answer_33 : decode cX0_answer 33 = .ok (.ireturn, 1) := by decide +kernel
theorem dX0_run_0 : decode cX0_run 0 = .ok (.iload_n 1, 1) := by decide +kernel
theorem dX0_run_1 : decode cX0_run 1 = .ok (.iload_n 2, 1) := by decide +kernel
theorem dX0_run_2 : decode cX0_run 2 = .ok (.invokestatic 36, 3) := by decide +kernel
theorem dX0_run_5 : decode cX0_run 5 = .ok (.istore 5, 2) := by decide +kernel
theorem dX0_run_7 : decode cX0_run 7 = .ok (.iload 5, 2) := by decide +kernel
theorem dX0_run_9 : decode cX0_run 9 = .ok (.ifCond .eq 10, 3) := by decide +kernel
theorem dX0_run_12 : decode cX0_run 12 = .ok (.iload 4, 2) := by decide +kernel
theorem dX0_run_14 : decode cX0_run 14 = .ok (.bipush 20, 2) := by decide +kernel
theorem dX0_run_16 : decode cX0_run 16 = .ok (.if_icmp .le 5, 3) := by decide +kernel
theorem dX0_run_19 : decode cX0_run 19 = .ok (.iconst 0, 1) := by decide +kernel
theorem dX0_run_20 : decode cX0_run 20 = .ok (.ireturn, 1) := by decide +kernel
theorem dX0_run_21 : decode cX0_run 21 = .ok (.aload_n 0, 1) := by decide +kernel
theorem dX0_run_22 : decode cX0_run 22 = .ok (.iload 5, 2) := by decide +kernel
theorem dX0_run_24 : decode cX0_run 24 = .ok (.invokevirtual 40, 3) := by decide +kernel
theorem dX0_run_27 : decode cX0_run 27 = .ok (.iload 4, 2) := by decide +kernel
theorem dX0_run_29 : decode cX0_run 29 = .ok (.iconst 1, 1) := by decide +kernel
theorem dX0_run_30 : decode cX0_run 30 = .ok (.iadd, 1) := by decide +kernel
theorem dX0_run_31 : decode cX0_run 31 = .ok (.istore 6, 2) := by decide +kernel
theorem dX0_run_33 : decode cX0_run 33 = .ok (.iload 5, 2) := by decide +kernel
theorem dX0_run_35 : decode cX0_run 35 = .ok (.lookupswitch 256 #[(10, 81), (11, 88), (12, 106), (20, 134), (30, 150), (31, 169), (40, 185), (50, 213), (51, 229)], 81) := by decide +kernel
theorem dX0_run_116 : decode cX0_run 116 = .ok (.iload_n 3, 1) := by decide +kernel
theorem dX0_run_117 : decode cX0_run 117 = .ok (.aload_n 0, 1) := by decide +kernel
theorem dX0_run_118 : decode cX0_run 118 = .ok (.getfield 22, 3) := by decide +kernel
theorem dX0_run_121 : decode cX0_run 121 = .ok (.iadd, 1) := by decide +kernel
theorem dX0_run_122 : decode cX0_run 122 = .ok (.ireturn, 1) := by decide +kernel
theorem dX0_run_123 : decode cX0_run 123 = .ok (.aload_n 0, 1) := by decide +kernel
theorem dX0_run_124 : decode cX0_run 124 = .ok (.aload_n 0, 1) := by decide +kernel
theorem dX0_run_125 : decode cX0_run 125 = .ok (.getfield 19, 3) := by decide +kernel
theorem dX0_run_128 : decode cX0_run 128 = .ok (.iconst 0, 1) := by decide +kernel
theorem dX0_run_129 : decode cX0_run 129 = .ok (.iload_n 3, 1) := by decide +kernel
theorem dX0_run_130 : decode cX0_run 130 = .ok (.iload 6, 2) := by decide +kernel
theorem dX0_run_132 : decode cX0_run 132 = .ok (.invokevirtual 32, 3) := by decide +kernel
theorem dX0_run_135 : decode cX0_run 135 = .ok (.aload_n 0, 1) := by decide +kernel
theorem dX0_run_136 : decode cX0_run 136 = .ok (.getfield 25, 3) := by decide +kernel
theorem dX0_run_139 : decode cX0_run 139 = .ok (.imul, 1) := by decide +kernel
theorem dX0_run_140 : decode cX0_run 140 = .ok (.ireturn, 1) := by decide +kernel
theorem dX0_run_141 : decode cX0_run 141 = .ok (.aload_n 0, 1) := by decide +kernel
theorem dX0_run_142 : decode cX0_run 142 = .ok (.aload_n 0, 1) := by decide +kernel
theorem dX0_run_143 : decode cX0_run 143 = .ok (.getfield 19, 3) := by decide +kernel
theorem dX0_run_146 : decode cX0_run 146 = .ok (.iconst 1, 1) := by decide +kernel
theorem dX0_run_147 : decode cX0_run 147 = .ok (.iload_n 3, 1) := by decide +kernel
theorem dX0_run_148 : decode cX0_run 148 = .ok (.iload 6, 2) := by decide +kernel
theorem dX0_run_150 : decode cX0_run 150 = .ok (.invokevirtual 32, 3) := by decide +kernel
theorem dX0_run_153 : decode cX0_run 153 = .ok (.aload_n 0, 1) := by decide +kernel
theorem dX0_run_154 : decode cX0_run 154 = .ok (.aload_n 0, 1) := by decide +kernel
theorem dX0_run_155 : decode cX0_run 155 = .ok (.getfield 19, 3) := by decide +kernel
theorem dX0_run_158 : decode cX0_run 158 = .ok (.iconst 0, 1) := by decide +kernel
theorem dX0_run_159 : decode cX0_run 159 = .ok (.iload_n 3, 1) := by decide +kernel
theorem dX0_run_160 : decode cX0_run 160 = .ok (.iconst 1, 1) := by decide +kernel
theorem dX0_run_161 : decode cX0_run 161 = .ok (.iadd, 1) := by decide +kernel
theorem dX0_run_162 : decode cX0_run 162 = .ok (.iload 6, 2) := by decide +kernel
theorem dX0_run_164 : decode cX0_run 164 = .ok (.invokevirtual 32, 3) := by decide +kernel
theorem dX0_run_167 : decode cX0_run 167 = .ok (.ixor, 1) := by decide +kernel
theorem dX0_run_168 : decode cX0_run 168 = .ok (.ireturn, 1) := by decide +kernel
theorem dX0_run_169 : decode cX0_run 169 = .ok (.aload_n 0, 1) := by decide +kernel
theorem dX0_run_170 : decode cX0_run 170 = .ok (.getstatic 44, 3) := by decide +kernel
theorem dX0_run_173 : decode cX0_run 173 = .ok (.iconst 1, 1) := by decide +kernel
theorem dX0_run_174 : decode cX0_run 174 = .ok (.iaload, 1) := by decide +kernel
theorem dX0_run_175 : decode cX0_run 175 = .ok (.iconst 1, 1) := by decide +kernel
theorem dX0_run_176 : decode cX0_run 176 = .ok (.iload_n 3, 1) := by decide +kernel
theorem dX0_run_177 : decode cX0_run 177 = .ok (.iload 6, 2) := by decide +kernel
theorem dX0_run_179 : decode cX0_run 179 = .ok (.invokevirtual 32, 3) := by decide +kernel
theorem dX0_run_182 : decode cX0_run 182 = .ok (.iconst 1, 1) := by decide +kernel
theorem dX0_run_183 : decode cX0_run 183 = .ok (.iadd, 1) := by decide +kernel
theorem dX0_run_184 : decode cX0_run 184 = .ok (.ireturn, 1) := by decide +kernel
theorem dX0_run_185 : decode cX0_run 185 = .ok (.aload_n 0, 1) := by decide +kernel
theorem dX0_run_186 : decode cX0_run 186 = .ok (.getstatic 44, 3) := by decide +kernel
theorem dX0_run_189 : decode cX0_run 189 = .ok (.iconst 2, 1) := by decide +kernel
theorem dX0_run_190 : decode cX0_run 190 = .ok (.iaload, 1) := by decide +kernel
theorem dX0_run_191 : decode cX0_run 191 = .ok (.iconst 0, 1) := by decide +kernel
theorem dX0_run_192 : decode cX0_run 192 = .ok (.iload_n 3, 1) := by decide +kernel
theorem dX0_run_193 : decode cX0_run 193 = .ok (.iload 6, 2) := by decide +kernel
theorem dX0_run_195 : decode cX0_run 195 = .ok (.invokevirtual 32, 3) := by decide +kernel
theorem dX0_run_198 : decode cX0_run 198 = .ok (.aload_n 0, 1) := by decide +kernel
theorem dX0_run_199 : decode cX0_run 199 = .ok (.getfield 25, 3) := by decide +kernel
theorem dX0_run_202 : decode cX0_run 202 = .ok (.isub, 1) := by decide +kernel
theorem dX0_run_203 : decode cX0_run 203 = .ok (.ireturn, 1) := by decide +kernel
theorem dX0_run_204 : decode cX0_run 204 = .ok (.aload_n 0, 1) := by decide +kernel
theorem dX0_run_205 : decode cX0_run 205 = .ok (.getstatic 44, 3) := by decide +kernel
theorem dX0_run_208 : decode cX0_run 208 = .ok (.iconst 2, 1) := by decide +kernel
theorem dX0_run_209 : decode cX0_run 209 = .ok (.iaload, 1) := by decide +kernel
theorem dX0_run_210 : decode cX0_run 210 = .ok (.iconst 2, 1) := by decide +kernel
theorem dX0_run_211 : decode cX0_run 211 = .ok (.iload_n 3, 1) := by decide +kernel
theorem dX0_run_212 : decode cX0_run 212 = .ok (.iload 6, 2) := by decide +kernel
theorem dX0_run_214 : decode cX0_run 214 = .ok (.invokevirtual 32, 3) := by decide +kernel
theorem dX0_run_217 : decode cX0_run 217 = .ok (.iconst 2, 1) := by decide +kernel
theorem dX0_run_218 : decode cX0_run 218 = .ok (.imul, 1) := by decide +kernel
theorem dX0_run_219 : decode cX0_run 219 = .ok (.ireturn, 1) := by decide +kernel
theorem dX0_run_220 : decode cX0_run 220 = .ok (.aload_n 0, 1) := by decide +kernel
theorem dX0_run_221 : decode cX0_run 221 = .ok (.getstatic 44, 3) := by decide +kernel
theorem dX0_run_224 : decode cX0_run 224 = .ok (.iconst 3, 1) := by decide +kernel
theorem dX0_run_225 : decode cX0_run 225 = .ok (.iaload, 1) := by decide +kernel
theorem dX0_run_226 : decode cX0_run 226 = .ok (.iconst 1, 1) := by decide +kernel
theorem dX0_run_227 : decode cX0_run 227 = .ok (.iload_n 3, 1) := by decide +kernel
theorem dX0_run_228 : decode cX0_run 228 = .ok (.iload 6, 2) := by decide +kernel
theorem dX0_run_230 : decode cX0_run 230 = .ok (.invokevirtual 32, 3) := by decide +kernel
theorem dX0_run_233 : decode cX0_run 233 = .ok (.aload_n 0, 1) := by decide +kernel
theorem dX0_run_234 : decode cX0_run 234 = .ok (.getstatic 44, 3) := by decide +kernel
theorem dX0_run_237 : decode cX0_run 237 = .ok (.iconst 3, 1) := by decide +kernel
theorem dX0_run_238 : decode cX0_run 238 = .ok (.iaload, 1) := by decide +kernel
theorem dX0_run_239 : decode cX0_run 239 = .ok (.iconst 0, 1) := by decide +kernel
theorem dX0_run_240 : decode cX0_run 240 = .ok (.iload_n 3, 1) := by decide +kernel
theorem dX0_run_241 : decode cX0_run 241 = .ok (.iload 6, 2) := by decide +kernel
theorem dX0_run_243 : decode cX0_run 243 = .ok (.invokevirtual 32, 3) := by decide +kernel
theorem dX0_run_246 : decode cX0_run 246 = .ok (.iadd, 1) := by decide +kernel
theorem dX0_run_247 : decode cX0_run 247 = .ok (.ireturn, 1) := by decide +kernel
theorem dX0_run_248 : decode cX0_run 248 = .ok (.aload_n 0, 1) := by decide +kernel
theorem dX0_run_249 : decode cX0_run 249 = .ok (.getstatic 44, 3) := by decide +kernel
theorem dX0_run_252 : decode cX0_run 252 = .ok (.iconst 4, 1) := by decide +kernel
theorem dX0_run_253 : decode cX0_run 253 = .ok (.iaload, 1) := by decide +kernel
theorem dX0_run_254 : decode cX0_run 254 = .ok (.iconst 0, 1) := by decide +kernel
theorem dX0_run_255 : decode cX0_run 255 = .ok (.iload_n 3, 1) := by decide +kernel
theorem dX0_run_256 : decode cX0_run 256 = .ok (.iconst 3, 1) := by decide +kernel
theorem dX0_run_257 : decode cX0_run 257 = .ok (.imul, 1) := by decide +kernel
theorem dX0_run_258 : decode cX0_run 258 = .ok (.iload 6, 2) := by decide +kernel
theorem dX0_run_260 : decode cX0_run 260 = .ok (.invokevirtual 32, 3) := by decide +kernel
theorem dX0_run_263 : decode cX0_run 263 = .ok (.ireturn, 1) := by decide +kernel
theorem dX0_run_264 : decode cX0_run 264 = .ok (.aload_n 0, 1) := by decide +kernel
theorem dX0_run_265 : decode cX0_run 265 = .ok (.aload_n 0, 1) := by decide +kernel
theorem dX0_run_266 : decode cX0_run 266 = .ok (.getfield 19, 3) := by decide +kernel
theorem dX0_run_269 : decode cX0_run 269 = .ok (.iconst 1, 1) := by decide +kernel
theorem dX0_run_270 : decode cX0_run 270 = .ok (.iload_n 3, 1) := by decide +kernel
theorem dX0_run_271 : decode cX0_run 271 = .ok (.iload 6, 2) := by decide +kernel
theorem dX0_run_273 : decode cX0_run 273 = .ok (.invokevirtual 32, 3) := by decide +kernel
theorem dX0_run_276 : decode cX0_run 276 = .ok (.aload_n 0, 1) := by decide +kernel
theorem dX0_run_277 : decode cX0_run 277 = .ok (.getstatic 44, 3) := by decide +kernel
theorem dX0_run_280 : decode cX0_run 280 = .ok (.iconst 4, 1) := by decide +kernel
theorem dX0_run_281 : decode cX0_run 281 = .ok (.iaload, 1) := by decide +kernel
theorem dX0_run_282 : decode cX0_run 282 = .ok (.iconst 2, 1) := by decide +kernel
theorem dX0_run_283 : decode cX0_run 283 = .ok (.iload_n 3, 1) := by decide +kernel
theorem dX0_run_284 : decode cX0_run 284 = .ok (.iload 6, 2) := by decide +kernel
theorem dX0_run_286 : decode cX0_run 286 = .ok (.invokevirtual 32, 3) := by decide +kernel
theorem dX0_run_289 : decode cX0_run 289 = .ok (.isub, 1) := by decide +kernel
theorem dX0_run_290 : decode cX0_run 290 = .ok (.ireturn, 1) := by decide +kernel
theorem dX0_run_291 : decode cX0_run 291 = .ok (.iconst 0, 1) := by decide +kernel
theorem dX0_run_292 : decode cX0_run 292 = .ok (.ireturn, 1) := by decide +kernel
theorem dX0_bodyOf_0 : decode cX0_bodyOf 0 = .ok (.iload_n 0, 1) := by decide +kernel
theorem dX0_bodyOf_1 : decode cX0_bodyOf 1 = .ok (.istore_n 2, 1) := by decide +kernel
theorem dX0_bodyOf_2 : decode cX0_bodyOf 2 = .ok (.iconst 0, 1) := by decide +kernel
theorem dX0_bodyOf_3 : decode cX0_bodyOf 3 = .ok (.istore_n 3, 1) := by decide +kernel
theorem dX0_bodyOf_4 : decode cX0_bodyOf 4 = .ok (.iload_n 3, 1) := by decide +kernel
theorem dX0_bodyOf_5 : decode cX0_bodyOf 5 = .ok (.iconst 5, 1) := by decide +kernel
theorem dX0_bodyOf_6 : decode cX0_bodyOf 6 = .ok (.if_icmp .ge 38, 3) := by decide +kernel
theorem dX0_bodyOf_9 : decode cX0_bodyOf 9 = .ok (.iload_n 2, 1) := by decide +kernel
theorem dX0_bodyOf_10 : decode cX0_bodyOf 10 = .ok (.ifCond .lt 34, 3) := by decide +kernel
theorem dX0_bodyOf_13 : decode cX0_bodyOf 13 = .ok (.getstatic 47, 3) := by decide +kernel
theorem dX0_bodyOf_16 : decode cX0_bodyOf 16 = .ok (.iload_n 2, 1) := by decide +kernel
theorem dX0_bodyOf_17 : decode cX0_bodyOf 17 = .ok (.iconst 3, 1) := by decide +kernel
theorem dX0_bodyOf_18 : decode cX0_bodyOf 18 = .ok (.imul, 1) := by decide +kernel
theorem dX0_bodyOf_19 : decode cX0_bodyOf 19 = .ok (.iload_n 1, 1) := by decide +kernel
theorem dX0_bodyOf_20 : decode cX0_bodyOf 20 = .ok (.iadd, 1) := by decide +kernel
theorem dX0_bodyOf_21 : decode cX0_bodyOf 21 = .ok (.iaload, 1) := by decide +kernel
theorem dX0_bodyOf_22 : decode cX0_bodyOf 22 = .ok (.istore 4, 2) := by decide +kernel
theorem dX0_bodyOf_24 : decode cX0_bodyOf 24 = .ok (.iload 4, 2) := by decide +kernel
theorem dX0_bodyOf_26 : decode cX0_bodyOf 26 = .ok (.ifCond .eq 6, 3) := by decide +kernel
theorem dX0_bodyOf_29 : decode cX0_bodyOf 29 = .ok (.iload 4, 2) := by decide +kernel
theorem dX0_bodyOf_31 : decode cX0_bodyOf 31 = .ok (.ireturn, 1) := by decide +kernel
theorem dX0_bodyOf_32 : decode cX0_bodyOf 32 = .ok (.getstatic 44, 3) := by decide +kernel
theorem dX0_bodyOf_35 : decode cX0_bodyOf 35 = .ok (.iload_n 2, 1) := by decide +kernel
theorem dX0_bodyOf_36 : decode cX0_bodyOf 36 = .ok (.iaload, 1) := by decide +kernel
theorem dX0_bodyOf_37 : decode cX0_bodyOf 37 = .ok (.istore_n 2, 1) := by decide +kernel
theorem dX0_bodyOf_38 : decode cX0_bodyOf 38 = .ok (.iinc 3 1, 3) := by decide +kernel
theorem dX0_bodyOf_41 : decode cX0_bodyOf 41 = .ok (.goto (-37), 3) := by decide +kernel
theorem dX0_bodyOf_44 : decode cX0_bodyOf 44 = .ok (.iconst 0, 1) := by decide +kernel
theorem dX0_bodyOf_45 : decode cX0_bodyOf 45 = .ok (.ireturn, 1) := by decide +kernel
theorem dX0_note_0 : decode cX0_note 0 = .ok (.aload_n 0, 1) := by decide +kernel
theorem dX0_note_1 : decode cX0_note 1 = .ok (.getfield 15, 3) := by decide +kernel
theorem dX0_note_4 : decode cX0_note 4 = .ok (.bipush 40, 2) := by decide +kernel
theorem dX0_note_6 : decode cX0_note 6 = .ok (.if_icmp .ge 13, 3) := by decide +kernel
theorem dX0_note_9 : decode cX0_note 9 = .ok (.aload_n 0, 1) := by decide +kernel
theorem dX0_note_10 : decode cX0_note 10 = .ok (.getfield 9, 3) := by decide +kernel
theorem dX0_note_13 : decode cX0_note 13 = .ok (.aload_n 0, 1) := by decide +kernel
theorem dX0_note_14 : decode cX0_note 14 = .ok (.getfield 15, 3) := by decide +kernel
theorem dX0_note_17 : decode cX0_note 17 = .ok (.iload_n 1, 1) := by decide +kernel
theorem dX0_note_18 : decode cX0_note 18 = .ok (.iastore, 1) := by decide +kernel
theorem dX0_note_19 : decode cX0_note 19 = .ok (.aload_n 0, 1) := by decide +kernel
theorem dX0_note_20 : decode cX0_note 20 = .ok (.dup, 1) := by decide +kernel
theorem dX0_note_21 : decode cX0_note 21 = .ok (.getfield 15, 3) := by decide +kernel
theorem dX0_note_24 : decode cX0_note 24 = .ok (.iconst 1, 1) := by decide +kernel
theorem dX0_note_25 : decode cX0_note 25 = .ok (.iadd, 1) := by decide +kernel
theorem dX0_note_26 : decode cX0_note 26 = .ok (.putfield 15, 3) := by decide +kernel
theorem dX0_note_29 : decode cX0_note 29 = .ok (.return_, 1) := by decide +kernel
theorem dX1_raised_0 : decode cX1_raised 0 = .ok (.lconst 1, 1) := by decide +kernel
theorem dX1_raised_1 : decode cX1_raised 1 = .ok (.lstore_n 3, 1) := by decide +kernel
theorem dX1_raised_2 : decode cX1_raised 2 = .ok (.iconst 0, 1) := by decide +kernel
theorem dX1_raised_3 : decode cX1_raised 3 = .ok (.istore 5, 2) := by decide +kernel
theorem dX1_raised_5 : decode cX1_raised 5 = .ok (.iload 5, 2) := by decide +kernel
theorem dX1_raised_7 : decode cX1_raised 7 = .ok (.iload_n 2, 1) := by decide +kernel
theorem dX1_raised_8 : decode cX1_raised 8 = .ok (.if_icmp .ge 13, 3) := by decide +kernel
theorem dX1_raised_11 : decode cX1_raised 11 = .ok (.lload_n 3, 1) := by decide +kernel
theorem dX1_raised_12 : decode cX1_raised 12 = .ok (.lload_n 0, 1) := by decide +kernel
theorem dX1_raised_13 : decode cX1_raised 13 = .ok (.lmul, 1) := by decide +kernel
theorem dX1_raised_14 : decode cX1_raised 14 = .ok (.lstore_n 3, 1) := by decide +kernel
theorem dX1_raised_15 : decode cX1_raised 15 = .ok (.iinc 5 1, 3) := by decide +kernel
theorem dX1_raised_18 : decode cX1_raised 18 = .ok (.goto (-13), 3) := by decide +kernel
theorem dX1_raised_21 : decode cX1_raised 21 = .ok (.lload_n 3, 1) := by decide +kernel
theorem dX1_raised_22 : decode cX1_raised 22 = .ok (.lreturn, 1) := by decide +kernel
theorem dX1_choices_0 : decode cX1_choices 0 = .ok (.iload_n 1, 1) := by decide +kernel
theorem dX1_choices_1 : decode cX1_choices 1 = .ok (.iload_n 0, 1) := by decide +kernel
theorem dX1_choices_2 : decode cX1_choices 2 = .ok (.if_icmp .le 5, 3) := by decide +kernel
theorem dX1_choices_5 : decode cX1_choices 5 = .ok (.lconst 0, 1) := by decide +kernel
theorem dX1_choices_6 : decode cX1_choices 6 = .ok (.lreturn, 1) := by decide +kernel
theorem dX1_choices_7 : decode cX1_choices 7 = .ok (.lconst 1, 1) := by decide +kernel
theorem dX1_choices_8 : decode cX1_choices 8 = .ok (.lstore_n 2, 1) := by decide +kernel
theorem dX1_choices_9 : decode cX1_choices 9 = .ok (.iconst 1, 1) := by decide +kernel
theorem dX1_choices_10 : decode cX1_choices 10 = .ok (.istore 4, 2) := by decide +kernel
theorem dX1_choices_12 : decode cX1_choices 12 = .ok (.iload 4, 2) := by decide +kernel
theorem dX1_choices_14 : decode cX1_choices 14 = .ok (.iload_n 1, 1) := by decide +kernel
theorem dX1_choices_15 : decode cX1_choices 15 = .ok (.if_icmp .gt 23, 3) := by decide +kernel
theorem dX1_choices_18 : decode cX1_choices 18 = .ok (.lload_n 2, 1) := by decide +kernel
theorem dX1_choices_19 : decode cX1_choices 19 = .ok (.iload_n 0, 1) := by decide +kernel
theorem dX1_choices_20 : decode cX1_choices 20 = .ok (.iload_n 1, 1) := by decide +kernel
theorem dX1_choices_21 : decode cX1_choices 21 = .ok (.isub, 1) := by decide +kernel
theorem dX1_choices_22 : decode cX1_choices 22 = .ok (.iload 4, 2) := by decide +kernel
theorem dX1_choices_24 : decode cX1_choices 24 = .ok (.iadd, 1) := by decide +kernel
theorem dX1_choices_25 : decode cX1_choices 25 = .ok (.i2l, 1) := by decide +kernel
theorem dX1_choices_26 : decode cX1_choices 26 = .ok (.lmul, 1) := by decide +kernel
theorem dX1_choices_27 : decode cX1_choices 27 = .ok (.iload 4, 2) := by decide +kernel
theorem dX1_choices_29 : decode cX1_choices 29 = .ok (.i2l, 1) := by decide +kernel
theorem dX1_choices_30 : decode cX1_choices 30 = .ok (.ldiv, 1) := by decide +kernel
theorem dX1_choices_31 : decode cX1_choices 31 = .ok (.lstore_n 2, 1) := by decide +kernel
theorem dX1_choices_32 : decode cX1_choices 32 = .ok (.iinc 4 1, 3) := by decide +kernel
theorem dX1_choices_35 : decode cX1_choices 35 = .ok (.goto (-23), 3) := by decide +kernel
theorem dX1_choices_38 : decode cX1_choices 38 = .ok (.lload_n 2, 1) := by decide +kernel
theorem dX1_choices_39 : decode cX1_choices 39 = .ok (.lreturn, 1) := by decide +kernel
theorem dX1_splits_0 : decode cX1_splits 0 = .ok (.iload_n 0, 1) := by decide +kernel
theorem dX1_splits_1 : decode cX1_splits 1 = .ok (.iload_n 1, 1) := by decide +kernel
theorem dX1_splits_2 : decode cX1_splits 2 = .ok (.invokestatic 9, 3) := by decide +kernel
theorem dX1_splits_5 : decode cX1_splits 5 = .ok (.iload_n 2, 1) := by decide +kernel
theorem dX1_splits_6 : decode cX1_splits 6 = .ok (.i2l, 1) := by decide +kernel
theorem dX1_splits_7 : decode cX1_splits 7 = .ok (.iload_n 1, 1) := by decide +kernel
theorem dX1_splits_8 : decode cX1_splits 8 = .ok (.invokestatic 15, 3) := by decide +kernel
theorem dX1_splits_11 : decode cX1_splits 11 = .ok (.lmul, 1) := by decide +kernel
theorem dX1_splits_12 : decode cX1_splits 12 = .ok (.iload_n 3, 1) := by decide +kernel
theorem dX1_splits_13 : decode cX1_splits 13 = .ok (.i2l, 1) := by decide +kernel
theorem dX1_splits_14 : decode cX1_splits 14 = .ok (.iload_n 0, 1) := by decide +kernel
theorem dX1_splits_15 : decode cX1_splits 15 = .ok (.iload_n 1, 1) := by decide +kernel
theorem dX1_splits_16 : decode cX1_splits 16 = .ok (.isub, 1) := by decide +kernel
theorem dX1_splits_17 : decode cX1_splits 17 = .ok (.invokestatic 15, 3) := by decide +kernel
theorem dX1_splits_20 : decode cX1_splits 20 = .ok (.lmul, 1) := by decide +kernel
theorem dX1_splits_21 : decode cX1_splits 21 = .ok (.lreturn, 1) := by decide +kernel
theorem dX1_divisor_0 : decode cX1_divisor 0 = .ok (.lload_n 0, 1) := by decide +kernel
theorem dX1_divisor_1 : decode cX1_divisor 1 = .ok (.lstore 4, 2) := by decide +kernel
theorem dX1_divisor_3 : decode cX1_divisor 3 = .ok (.lload_n 2, 1) := by decide +kernel
theorem dX1_divisor_4 : decode cX1_divisor 4 = .ok (.lstore 6, 2) := by decide +kernel
theorem dX1_divisor_6 : decode cX1_divisor 6 = .ok (.iconst 0, 1) := by decide +kernel
theorem dX1_divisor_7 : decode cX1_divisor 7 = .ok (.istore 8, 2) := by decide +kernel
theorem dX1_divisor_9 : decode cX1_divisor 9 = .ok (.iload 8, 2) := by decide +kernel
theorem dX1_divisor_11 : decode cX1_divisor 11 = .ok (.bipush 100, 2) := by decide +kernel
theorem dX1_divisor_13 : decode cX1_divisor 13 = .ok (.if_icmp .ge 31, 3) := by decide +kernel
theorem dX1_divisor_16 : decode cX1_divisor 16 = .ok (.lload 6, 2) := by decide +kernel
theorem dX1_divisor_18 : decode cX1_divisor 18 = .ok (.lconst 0, 1) := by decide +kernel
theorem dX1_divisor_19 : decode cX1_divisor 19 = .ok (.lcmp, 1) := by decide +kernel
theorem dX1_divisor_20 : decode cX1_divisor 20 = .ok (.ifCond .eq 24, 3) := by decide +kernel
theorem dX1_divisor_23 : decode cX1_divisor 23 = .ok (.lload 4, 2) := by decide +kernel
theorem dX1_divisor_25 : decode cX1_divisor 25 = .ok (.lload 6, 2) := by decide +kernel
theorem dX1_divisor_27 : decode cX1_divisor 27 = .ok (.lrem, 1) := by decide +kernel
theorem dX1_divisor_28 : decode cX1_divisor 28 = .ok (.lstore 9, 2) := by decide +kernel
theorem dX1_divisor_30 : decode cX1_divisor 30 = .ok (.lload 6, 2) := by decide +kernel
theorem dX1_divisor_32 : decode cX1_divisor 32 = .ok (.lstore 4, 2) := by decide +kernel
theorem dX1_divisor_34 : decode cX1_divisor 34 = .ok (.lload 9, 2) := by decide +kernel
theorem dX1_divisor_36 : decode cX1_divisor 36 = .ok (.lstore 6, 2) := by decide +kernel
theorem dX1_divisor_38 : decode cX1_divisor 38 = .ok (.iinc 8 1, 3) := by decide +kernel
theorem dX1_divisor_41 : decode cX1_divisor 41 = .ok (.goto (-32), 3) := by decide +kernel
theorem dX1_divisor_44 : decode cX1_divisor 44 = .ok (.lconst 1, 1) := by decide +kernel
theorem dX1_divisor_45 : decode cX1_divisor 45 = .ok (.lload 4, 2) := by decide +kernel
theorem dX1_divisor_47 : decode cX1_divisor 47 = .ok (.invokestatic 19, 3) := by decide +kernel
theorem dX1_divisor_50 : decode cX1_divisor 50 = .ok (.lreturn, 1) := by decide +kernel
theorem dX1_part_0 : decode cX1_part 0 = .ok (.lload_n 0, 1) := by decide +kernel
theorem dX1_part_1 : decode cX1_part 1 = .ok (.lload_n 2, 1) := by decide +kernel
theorem dX1_part_2 : decode cX1_part 2 = .ok (.invokestatic 25, 3) := by decide +kernel
theorem dX1_part_5 : decode cX1_part 5 = .ok (.lstore 5, 2) := by decide +kernel
theorem dX1_part_7 : decode cX1_part 7 = .ok (.iload 4, 2) := by decide +kernel
theorem dX1_part_9 : decode cX1_part 9 = .ok (.ifCond .ne 7, 3) := by decide +kernel
theorem dX1_part_12 : decode cX1_part 12 = .ok (.lload_n 0, 1) := by decide +kernel
theorem dX1_part_13 : decode cX1_part 13 = .ok (.goto 4, 3) := by decide +kernel
theorem dX1_part_16 : decode cX1_part 16 = .ok (.lload_n 2, 1) := by decide +kernel
theorem dX1_part_17 : decode cX1_part 17 = .ok (.lload 5, 2) := by decide +kernel
theorem dX1_part_19 : decode cX1_part 19 = .ok (.ldiv, 1) := by decide +kernel
theorem dX1_part_20 : decode cX1_part 20 = .ok (.lreturn, 1) := by decide +kernel
theorem dX1_setRunCounts_0 : decode cX1_setRunCounts 0 = .ok (.aload_n 0, 1) := by decide +kernel
theorem dX1_setRunCounts_1 : decode cX1_setRunCounts 1 = .ok (.iconst 0, 1) := by decide +kernel
theorem dX1_setRunCounts_2 : decode cX1_setRunCounts 2 = .ok (.lconst 1, 1) := by decide +kernel
theorem dX1_setRunCounts_3 : decode cX1_setRunCounts 3 = .ok (.lastore, 1) := by decide +kernel
theorem dX1_setRunCounts_4 : decode cX1_setRunCounts 4 = .ok (.iconst 2, 1) := by decide +kernel
theorem dX1_setRunCounts_5 : decode cX1_setRunCounts 5 = .ok (.istore_n 2, 1) := by decide +kernel
theorem dX1_setRunCounts_6 : decode cX1_setRunCounts 6 = .ok (.iload_n 2, 1) := by decide +kernel
theorem dX1_setRunCounts_7 : decode cX1_setRunCounts 7 = .ok (.iload_n 1, 1) := by decide +kernel
theorem dX1_setRunCounts_8 : decode cX1_setRunCounts 8 = .ok (.if_icmp .gt 51, 3) := by decide +kernel
theorem dX1_setRunCounts_11 : decode cX1_setRunCounts 11 = .ok (.aload_n 0, 1) := by decide +kernel
theorem dX1_setRunCounts_12 : decode cX1_setRunCounts 12 = .ok (.iload_n 2, 1) := by decide +kernel
theorem dX1_setRunCounts_13 : decode cX1_setRunCounts 13 = .ok (.iconst 1, 1) := by decide +kernel
theorem dX1_setRunCounts_14 : decode cX1_setRunCounts 14 = .ok (.isub, 1) := by decide +kernel
theorem dX1_setRunCounts_15 : decode cX1_setRunCounts 15 = .ok (.lconst 0, 1) := by decide +kernel
theorem dX1_setRunCounts_16 : decode cX1_setRunCounts 16 = .ok (.lastore, 1) := by decide +kernel
theorem dX1_setRunCounts_17 : decode cX1_setRunCounts 17 = .ok (.iload_n 2, 1) := by decide +kernel
theorem dX1_setRunCounts_18 : decode cX1_setRunCounts 18 = .ok (.iconst 1, 1) := by decide +kernel
theorem dX1_setRunCounts_19 : decode cX1_setRunCounts 19 = .ok (.isub, 1) := by decide +kernel
theorem dX1_setRunCounts_20 : decode cX1_setRunCounts 20 = .ok (.istore_n 3, 1) := by decide +kernel
theorem dX1_setRunCounts_21 : decode cX1_setRunCounts 21 = .ok (.iload_n 3, 1) := by decide +kernel
theorem dX1_setRunCounts_22 : decode cX1_setRunCounts 22 = .ok (.ifCond .le 31, 3) := by decide +kernel
theorem dX1_setRunCounts_25 : decode cX1_setRunCounts 25 = .ok (.aload_n 0, 1) := by decide +kernel
theorem dX1_setRunCounts_26 : decode cX1_setRunCounts 26 = .ok (.iload_n 3, 1) := by decide +kernel
theorem dX1_setRunCounts_27 : decode cX1_setRunCounts 27 = .ok (.iload_n 3, 1) := by decide +kernel
theorem dX1_setRunCounts_28 : decode cX1_setRunCounts 28 = .ok (.iconst 1, 1) := by decide +kernel
theorem dX1_setRunCounts_29 : decode cX1_setRunCounts 29 = .ok (.iadd, 1) := by decide +kernel
theorem dX1_setRunCounts_30 : decode cX1_setRunCounts 30 = .ok (.i2l, 1) := by decide +kernel
theorem dX1_setRunCounts_31 : decode cX1_setRunCounts 31 = .ok (.aload_n 0, 1) := by decide +kernel
theorem dX1_setRunCounts_32 : decode cX1_setRunCounts 32 = .ok (.iload_n 3, 1) := by decide +kernel
theorem dX1_setRunCounts_33 : decode cX1_setRunCounts 33 = .ok (.laload, 1) := by decide +kernel
theorem dX1_setRunCounts_34 : decode cX1_setRunCounts 34 = .ok (.lmul, 1) := by decide +kernel
theorem dX1_setRunCounts_35 : decode cX1_setRunCounts 35 = .ok (.iload_n 2, 1) := by decide +kernel
theorem dX1_setRunCounts_36 : decode cX1_setRunCounts 36 = .ok (.iload_n 3, 1) := by decide +kernel
theorem dX1_setRunCounts_37 : decode cX1_setRunCounts 37 = .ok (.isub, 1) := by decide +kernel
theorem dX1_setRunCounts_38 : decode cX1_setRunCounts 38 = .ok (.i2l, 1) := by decide +kernel
theorem dX1_setRunCounts_39 : decode cX1_setRunCounts 39 = .ok (.aload_n 0, 1) := by decide +kernel
theorem dX1_setRunCounts_40 : decode cX1_setRunCounts 40 = .ok (.iload_n 3, 1) := by decide +kernel
theorem dX1_setRunCounts_41 : decode cX1_setRunCounts 41 = .ok (.iconst 1, 1) := by decide +kernel
theorem dX1_setRunCounts_42 : decode cX1_setRunCounts 42 = .ok (.isub, 1) := by decide +kernel
theorem dX1_setRunCounts_43 : decode cX1_setRunCounts 43 = .ok (.laload, 1) := by decide +kernel
theorem dX1_setRunCounts_44 : decode cX1_setRunCounts 44 = .ok (.lmul, 1) := by decide +kernel
theorem dX1_setRunCounts_45 : decode cX1_setRunCounts 45 = .ok (.ladd, 1) := by decide +kernel
theorem dX1_setRunCounts_46 : decode cX1_setRunCounts 46 = .ok (.lastore, 1) := by decide +kernel
theorem dX1_setRunCounts_47 : decode cX1_setRunCounts 47 = .ok (.iinc 3 (-1), 3) := by decide +kernel
theorem dX1_setRunCounts_50 : decode cX1_setRunCounts 50 = .ok (.goto (-29), 3) := by decide +kernel
theorem dX1_setRunCounts_53 : decode cX1_setRunCounts 53 = .ok (.iinc 2 1, 3) := by decide +kernel
theorem dX1_setRunCounts_56 : decode cX1_setRunCounts 56 = .ok (.goto (-50), 3) := by decide +kernel
theorem dX1_setRunCounts_59 : decode cX1_setRunCounts 59 = .ok (.return_, 1) := by decide +kernel
theorem dX1_setLooseCounts_0 : decode cX1_setLooseCounts 0 = .ok (.lconst 0, 1) := by decide +kernel
theorem dX1_setLooseCounts_1 : decode cX1_setLooseCounts 1 = .ok (.lstore_n 2, 1) := by decide +kernel
theorem dX1_setLooseCounts_2 : decode cX1_setLooseCounts 2 = .ok (.iconst 0, 1) := by decide +kernel
theorem dX1_setLooseCounts_3 : decode cX1_setLooseCounts 3 = .ok (.istore 4, 2) := by decide +kernel
theorem dX1_setLooseCounts_5 : decode cX1_setLooseCounts 5 = .ok (.iload 4, 2) := by decide +kernel
theorem dX1_setLooseCounts_7 : decode cX1_setLooseCounts 7 = .ok (.iload_n 1, 1) := by decide +kernel
theorem dX1_setLooseCounts_8 : decode cX1_setLooseCounts 8 = .ok (.if_icmp .ge 37, 3) := by decide +kernel
theorem dX1_setLooseCounts_11 : decode cX1_setLooseCounts 11 = .ok (.getstatic 28, 3) := by decide +kernel
theorem dX1_setLooseCounts_14 : decode cX1_setLooseCounts 14 = .ok (.iload_n 1, 1) := by decide +kernel
theorem dX1_setLooseCounts_15 : decode cX1_setLooseCounts 15 = .ok (.iaload, 1) := by decide +kernel
theorem dX1_setLooseCounts_16 : decode cX1_setLooseCounts 16 = .ok (.getstatic 28, 3) := by decide +kernel
theorem dX1_setLooseCounts_19 : decode cX1_setLooseCounts 19 = .ok (.iload_n 1, 1) := by decide +kernel
theorem dX1_setLooseCounts_20 : decode cX1_setLooseCounts 20 = .ok (.iload 4, 2) := by decide +kernel
theorem dX1_setLooseCounts_22 : decode cX1_setLooseCounts 22 = .ok (.isub, 1) := by decide +kernel
theorem dX1_setLooseCounts_23 : decode cX1_setLooseCounts 23 = .ok (.iaload, 1) := by decide +kernel
theorem dX1_setLooseCounts_24 : decode cX1_setLooseCounts 24 = .ok (.idiv, 1) := by decide +kernel
theorem dX1_setLooseCounts_25 : decode cX1_setLooseCounts 25 = .ok (.i2l, 1) := by decide +kernel
theorem dX1_setLooseCounts_26 : decode cX1_setLooseCounts 26 = .ok (.lstore 5, 2) := by decide +kernel
theorem dX1_setLooseCounts_28 : decode cX1_setLooseCounts 28 = .ok (.aload_n 0, 1) := by decide +kernel
theorem dX1_setLooseCounts_29 : decode cX1_setLooseCounts 29 = .ok (.iload 4, 2) := by decide +kernel
theorem dX1_setLooseCounts_31 : decode cX1_setLooseCounts 31 = .ok (.lload 5, 2) := by decide +kernel
theorem dX1_setLooseCounts_33 : decode cX1_setLooseCounts 33 = .ok (.lload_n 2, 1) := by decide +kernel
theorem dX1_setLooseCounts_34 : decode cX1_setLooseCounts 34 = .ok (.lsub, 1) := by decide +kernel
theorem dX1_setLooseCounts_35 : decode cX1_setLooseCounts 35 = .ok (.lastore, 1) := by decide +kernel
theorem dX1_setLooseCounts_36 : decode cX1_setLooseCounts 36 = .ok (.lload 5, 2) := by decide +kernel
theorem dX1_setLooseCounts_38 : decode cX1_setLooseCounts 38 = .ok (.lstore_n 2, 1) := by decide +kernel
theorem dX1_setLooseCounts_39 : decode cX1_setLooseCounts 39 = .ok (.iinc 4 1, 3) := by decide +kernel
theorem dX1_setLooseCounts_42 : decode cX1_setLooseCounts 42 = .ok (.goto (-37), 3) := by decide +kernel
theorem dX1_setLooseCounts_45 : decode cX1_setLooseCounts 45 = .ok (.return_, 1) := by decide +kernel
theorem dX1_setBlocks_0 : decode cX1_setBlocks 0 = .ok (.iconst 0, 1) := by decide +kernel
theorem dX1_setBlocks_1 : decode cX1_setBlocks 1 = .ok (.istore_n 3, 1) := by decide +kernel
theorem dX1_setBlocks_2 : decode cX1_setBlocks 2 = .ok (.iload_n 3, 1) := by decide +kernel
theorem dX1_setBlocks_3 : decode cX1_setBlocks 3 = .ok (.iload_n 1, 1) := by decide +kernel
theorem dX1_setBlocks_4 : decode cX1_setBlocks 4 = .ok (.if_icmp .gt 13, 3) := by decide +kernel
theorem dX1_setBlocks_7 : decode cX1_setBlocks 7 = .ok (.aload_n 0, 1) := by decide +kernel
theorem dX1_setBlocks_8 : decode cX1_setBlocks 8 = .ok (.iload_n 3, 1) := by decide +kernel
theorem dX1_setBlocks_9 : decode cX1_setBlocks 9 = .ok (.lconst 0, 1) := by decide +kernel
theorem dX1_setBlocks_10 : decode cX1_setBlocks 10 = .ok (.lastore, 1) := by decide +kernel
theorem dX1_setBlocks_11 : decode cX1_setBlocks 11 = .ok (.iinc 3 1, 3) := by decide +kernel
theorem dX1_setBlocks_14 : decode cX1_setBlocks 14 = .ok (.goto (-12), 3) := by decide +kernel
theorem dX1_setBlocks_17 : decode cX1_setBlocks 17 = .ok (.aload_n 0, 1) := by decide +kernel
theorem dX1_setBlocks_18 : decode cX1_setBlocks 18 = .ok (.iconst 0, 1) := by decide +kernel
theorem dX1_setBlocks_19 : decode cX1_setBlocks 19 = .ok (.lconst 1, 1) := by decide +kernel
theorem dX1_setBlocks_20 : decode cX1_setBlocks 20 = .ok (.lastore, 1) := by decide +kernel
theorem dX1_setBlocks_21 : decode cX1_setBlocks 21 = .ok (.iconst 1, 1) := by decide +kernel
theorem dX1_setBlocks_22 : decode cX1_setBlocks 22 = .ok (.istore_n 3, 1) := by decide +kernel
theorem dX1_setBlocks_23 : decode cX1_setBlocks 23 = .ok (.iload_n 3, 1) := by decide +kernel
theorem dX1_setBlocks_24 : decode cX1_setBlocks 24 = .ok (.iload_n 2, 1) := by decide +kernel
theorem dX1_setBlocks_25 : decode cX1_setBlocks 25 = .ok (.if_icmp .gt 46, 3) := by decide +kernel
theorem dX1_setBlocks_28 : decode cX1_setBlocks 28 = .ok (.iload_n 1, 1) := by decide +kernel
theorem dX1_setBlocks_29 : decode cX1_setBlocks 29 = .ok (.istore 4, 2) := by decide +kernel
theorem dX1_setBlocks_31 : decode cX1_setBlocks 31 = .ok (.iload 4, 2) := by decide +kernel
theorem dX1_setBlocks_33 : decode cX1_setBlocks 33 = .ok (.ifCond .le 28, 3) := by decide +kernel
theorem dX1_setBlocks_36 : decode cX1_setBlocks 36 = .ok (.aload_n 0, 1) := by decide +kernel
theorem dX1_setBlocks_37 : decode cX1_setBlocks 37 = .ok (.iload 4, 2) := by decide +kernel
theorem dX1_setBlocks_39 : decode cX1_setBlocks 39 = .ok (.iload 4, 2) := by decide +kernel
theorem dX1_setBlocks_41 : decode cX1_setBlocks 41 = .ok (.i2l, 1) := by decide +kernel
theorem dX1_setBlocks_42 : decode cX1_setBlocks 42 = .ok (.aload_n 0, 1) := by decide +kernel
theorem dX1_setBlocks_43 : decode cX1_setBlocks 43 = .ok (.iload 4, 2) := by decide +kernel
theorem dX1_setBlocks_45 : decode cX1_setBlocks 45 = .ok (.laload, 1) := by decide +kernel
theorem dX1_setBlocks_46 : decode cX1_setBlocks 46 = .ok (.lmul, 1) := by decide +kernel
theorem dX1_setBlocks_47 : decode cX1_setBlocks 47 = .ok (.aload_n 0, 1) := by decide +kernel
theorem dX1_setBlocks_48 : decode cX1_setBlocks 48 = .ok (.iload 4, 2) := by decide +kernel
theorem dX1_setBlocks_50 : decode cX1_setBlocks 50 = .ok (.iconst 1, 1) := by decide +kernel
theorem dX1_setBlocks_51 : decode cX1_setBlocks 51 = .ok (.isub, 1) := by decide +kernel
theorem dX1_setBlocks_52 : decode cX1_setBlocks 52 = .ok (.laload, 1) := by decide +kernel
theorem dX1_setBlocks_53 : decode cX1_setBlocks 53 = .ok (.ladd, 1) := by decide +kernel
theorem dX1_setBlocks_54 : decode cX1_setBlocks 54 = .ok (.lastore, 1) := by decide +kernel
theorem dX1_setBlocks_55 : decode cX1_setBlocks 55 = .ok (.iinc 4 (-1), 3) := by decide +kernel
theorem dX1_setBlocks_58 : decode cX1_setBlocks 58 = .ok (.goto (-27), 3) := by decide +kernel
theorem dX1_setBlocks_61 : decode cX1_setBlocks 61 = .ok (.aload_n 0, 1) := by decide +kernel
theorem dX1_setBlocks_62 : decode cX1_setBlocks 62 = .ok (.iconst 0, 1) := by decide +kernel
theorem dX1_setBlocks_63 : decode cX1_setBlocks 63 = .ok (.lconst 0, 1) := by decide +kernel
theorem dX1_setBlocks_64 : decode cX1_setBlocks 64 = .ok (.lastore, 1) := by decide +kernel
theorem dX1_setBlocks_65 : decode cX1_setBlocks 65 = .ok (.iinc 3 1, 3) := by decide +kernel
theorem dX1_setBlocks_68 : decode cX1_setBlocks 68 = .ok (.goto (-45), 3) := by decide +kernel
theorem dX1_setBlocks_71 : decode cX1_setBlocks 71 = .ok (.return_, 1) := by decide +kernel
theorem dX2_isOrder_0 : decode cX2_isOrder 0 = .ok (.iconst 0, 1) := by decide +kernel
theorem dX2_isOrder_1 : decode cX2_isOrder 1 = .ok (.istore_n 3, 1) := by decide +kernel
theorem dX2_isOrder_2 : decode cX2_isOrder 2 = .ok (.iload_n 1, 1) := by decide +kernel
theorem dX2_isOrder_3 : decode cX2_isOrder 3 = .ok (.istore 4, 2) := by decide +kernel
theorem dX2_isOrder_5 : decode cX2_isOrder 5 = .ok (.iload 4, 2) := by decide +kernel
theorem dX2_isOrder_7 : decode cX2_isOrder 7 = .ok (.iload_n 1, 1) := by decide +kernel
theorem dX2_isOrder_8 : decode cX2_isOrder 8 = .ok (.iload_n 2, 1) := by decide +kernel
theorem dX2_isOrder_9 : decode cX2_isOrder 9 = .ok (.iadd, 1) := by decide +kernel
theorem dX2_isOrder_10 : decode cX2_isOrder 10 = .ok (.if_icmp .ge 46, 3) := by decide +kernel
theorem dX2_isOrder_13 : decode cX2_isOrder 13 = .ok (.aload_n 0, 1) := by decide +kernel
theorem dX2_isOrder_14 : decode cX2_isOrder 14 = .ok (.iload 4, 2) := by decide +kernel
theorem dX2_isOrder_16 : decode cX2_isOrder 16 = .ok (.iaload, 1) := by decide +kernel
theorem dX2_isOrder_17 : decode cX2_isOrder 17 = .ok (.ifCond .lt 22, 3) := by decide +kernel
theorem dX2_isOrder_20 : decode cX2_isOrder 20 = .ok (.aload_n 0, 1) := by decide +kernel
theorem dX2_isOrder_21 : decode cX2_isOrder 21 = .ok (.iload 4, 2) := by decide +kernel
theorem dX2_isOrder_23 : decode cX2_isOrder 23 = .ok (.iaload, 1) := by decide +kernel
theorem dX2_isOrder_24 : decode cX2_isOrder 24 = .ok (.iload_n 2, 1) := by decide +kernel
theorem dX2_isOrder_25 : decode cX2_isOrder 25 = .ok (.if_icmp .ge 14, 3) := by decide +kernel
theorem dX2_isOrder_28 : decode cX2_isOrder 28 = .ok (.iload_n 3, 1) := by decide +kernel
theorem dX2_isOrder_29 : decode cX2_isOrder 29 = .ok (.aload_n 0, 1) := by decide +kernel
theorem dX2_isOrder_30 : decode cX2_isOrder 30 = .ok (.iload 4, 2) := by decide +kernel
theorem dX2_isOrder_32 : decode cX2_isOrder 32 = .ok (.iaload, 1) := by decide +kernel
theorem dX2_isOrder_33 : decode cX2_isOrder 33 = .ok (.ishr, 1) := by decide +kernel
theorem dX2_isOrder_34 : decode cX2_isOrder 34 = .ok (.iconst 1, 1) := by decide +kernel
theorem dX2_isOrder_35 : decode cX2_isOrder 35 = .ok (.iand, 1) := by decide +kernel
theorem dX2_isOrder_36 : decode cX2_isOrder 36 = .ok (.ifCond .eq 5, 3) := by decide +kernel
theorem dX2_isOrder_39 : decode cX2_isOrder 39 = .ok (.iconst 0, 1) := by decide +kernel
theorem dX2_isOrder_40 : decode cX2_isOrder 40 = .ok (.ireturn, 1) := by decide +kernel
theorem dX2_isOrder_41 : decode cX2_isOrder 41 = .ok (.iload_n 3, 1) := by decide +kernel
theorem dX2_isOrder_42 : decode cX2_isOrder 42 = .ok (.iconst 1, 1) := by decide +kernel
theorem dX2_isOrder_43 : decode cX2_isOrder 43 = .ok (.aload_n 0, 1) := by decide +kernel
theorem dX2_isOrder_44 : decode cX2_isOrder 44 = .ok (.iload 4, 2) := by decide +kernel
theorem dX2_isOrder_46 : decode cX2_isOrder 46 = .ok (.iaload, 1) := by decide +kernel
theorem dX2_isOrder_47 : decode cX2_isOrder 47 = .ok (.ishl, 1) := by decide +kernel
theorem dX2_isOrder_48 : decode cX2_isOrder 48 = .ok (.ior, 1) := by decide +kernel
theorem dX2_isOrder_49 : decode cX2_isOrder 49 = .ok (.istore_n 3, 1) := by decide +kernel
theorem dX2_isOrder_50 : decode cX2_isOrder 50 = .ok (.iinc 4 1, 3) := by decide +kernel
theorem dX2_isOrder_53 : decode cX2_isOrder 53 = .ok (.goto (-48), 3) := by decide +kernel
theorem dX2_isOrder_56 : decode cX2_isOrder 56 = .ok (.iconst 1, 1) := by decide +kernel
theorem dX2_isOrder_57 : decode cX2_isOrder 57 = .ok (.ireturn, 1) := by decide +kernel
theorem dX2_rankOf_0 : decode cX2_rankOf 0 = .ok (.iconst 0, 1) := by decide +kernel
theorem dX2_rankOf_1 : decode cX2_rankOf 1 = .ok (.istore_n 2, 1) := by decide +kernel
theorem dX2_rankOf_2 : decode cX2_rankOf 2 = .ok (.iconst 0, 1) := by decide +kernel
theorem dX2_rankOf_3 : decode cX2_rankOf 3 = .ok (.istore_n 3, 1) := by decide +kernel
theorem dX2_rankOf_4 : decode cX2_rankOf 4 = .ok (.iload_n 3, 1) := by decide +kernel
theorem dX2_rankOf_5 : decode cX2_rankOf 5 = .ok (.iload_n 1, 1) := by decide +kernel
theorem dX2_rankOf_6 : decode cX2_rankOf 6 = .ok (.if_icmp .ge 57, 3) := by decide +kernel
theorem dX2_rankOf_9 : decode cX2_rankOf 9 = .ok (.iconst 0, 1) := by decide +kernel
theorem dX2_rankOf_10 : decode cX2_rankOf 10 = .ok (.istore 4, 2) := by decide +kernel
theorem dX2_rankOf_12 : decode cX2_rankOf 12 = .ok (.iload_n 3, 1) := by decide +kernel
theorem dX2_rankOf_13 : decode cX2_rankOf 13 = .ok (.iconst 1, 1) := by decide +kernel
theorem dX2_rankOf_14 : decode cX2_rankOf 14 = .ok (.iadd, 1) := by decide +kernel
theorem dX2_rankOf_15 : decode cX2_rankOf 15 = .ok (.istore 5, 2) := by decide +kernel
theorem dX2_rankOf_17 : decode cX2_rankOf 17 = .ok (.iload 5, 2) := by decide +kernel
theorem dX2_rankOf_19 : decode cX2_rankOf 19 = .ok (.iload_n 1, 1) := by decide +kernel
theorem dX2_rankOf_20 : decode cX2_rankOf 20 = .ok (.if_icmp .ge 22, 3) := by decide +kernel
theorem dX2_rankOf_23 : decode cX2_rankOf 23 = .ok (.aload_n 0, 1) := by decide +kernel
theorem dX2_rankOf_24 : decode cX2_rankOf 24 = .ok (.iload 5, 2) := by decide +kernel
theorem dX2_rankOf_26 : decode cX2_rankOf 26 = .ok (.iaload, 1) := by decide +kernel
theorem dX2_rankOf_27 : decode cX2_rankOf 27 = .ok (.aload_n 0, 1) := by decide +kernel
theorem dX2_rankOf_28 : decode cX2_rankOf 28 = .ok (.iload_n 3, 1) := by decide +kernel
theorem dX2_rankOf_29 : decode cX2_rankOf 29 = .ok (.iaload, 1) := by decide +kernel
theorem dX2_rankOf_30 : decode cX2_rankOf 30 = .ok (.if_icmp .ge 6, 3) := by decide +kernel
theorem dX2_rankOf_33 : decode cX2_rankOf 33 = .ok (.iinc 4 1, 3) := by decide +kernel
theorem dX2_rankOf_36 : decode cX2_rankOf 36 = .ok (.iinc 5 1, 3) := by decide +kernel
theorem dX2_rankOf_39 : decode cX2_rankOf 39 = .ok (.goto (-22), 3) := by decide +kernel
theorem dX2_rankOf_42 : decode cX2_rankOf 42 = .ok (.iload_n 2, 1) := by decide +kernel
theorem dX2_rankOf_43 : decode cX2_rankOf 43 = .ok (.iload 4, 2) := by decide +kernel
theorem dX2_rankOf_45 : decode cX2_rankOf 45 = .ok (.getstatic 7, 3) := by decide +kernel
theorem dX2_rankOf_48 : decode cX2_rankOf 48 = .ok (.iload_n 1, 1) := by decide +kernel
theorem dX2_rankOf_49 : decode cX2_rankOf 49 = .ok (.iconst 1, 1) := by decide +kernel
theorem dX2_rankOf_50 : decode cX2_rankOf 50 = .ok (.isub, 1) := by decide +kernel
theorem dX2_rankOf_51 : decode cX2_rankOf 51 = .ok (.iload_n 3, 1) := by decide +kernel
theorem dX2_rankOf_52 : decode cX2_rankOf 52 = .ok (.isub, 1) := by decide +kernel
theorem dX2_rankOf_53 : decode cX2_rankOf 53 = .ok (.iaload, 1) := by decide +kernel
theorem dX2_rankOf_54 : decode cX2_rankOf 54 = .ok (.imul, 1) := by decide +kernel
theorem dX2_rankOf_55 : decode cX2_rankOf 55 = .ok (.iadd, 1) := by decide +kernel
theorem dX2_rankOf_56 : decode cX2_rankOf 56 = .ok (.istore_n 2, 1) := by decide +kernel
theorem dX2_rankOf_57 : decode cX2_rankOf 57 = .ok (.iinc 3 1, 3) := by decide +kernel
theorem dX2_rankOf_60 : decode cX2_rankOf 60 = .ok (.goto (-56), 3) := by decide +kernel
theorem dX2_rankOf_63 : decode cX2_rankOf 63 = .ok (.iload_n 2, 1) := by decide +kernel
theorem dX2_rankOf_64 : decode cX2_rankOf 64 = .ok (.ireturn, 1) := by decide +kernel
theorem dX2_setByRank_0 : decode cX2_setByRank 0 = .ok (.iconst 0, 1) := by decide +kernel
theorem dX2_setByRank_1 : decode cX2_setByRank 1 = .ok (.istore_n 3, 1) := by decide +kernel
theorem dX2_setByRank_2 : decode cX2_setByRank 2 = .ok (.iload_n 2, 1) := by decide +kernel
theorem dX2_setByRank_3 : decode cX2_setByRank 3 = .ok (.istore 4, 2) := by decide +kernel
theorem dX2_setByRank_5 : decode cX2_setByRank 5 = .ok (.iconst 0, 1) := by decide +kernel
theorem dX2_setByRank_6 : decode cX2_setByRank 6 = .ok (.istore 5, 2) := by decide +kernel
theorem dX2_setByRank_8 : decode cX2_setByRank 8 = .ok (.iload 5, 2) := by decide +kernel
theorem dX2_setByRank_10 : decode cX2_setByRank 10 = .ok (.iload_n 1, 1) := by decide +kernel
theorem dX2_setByRank_11 : decode cX2_setByRank 11 = .ok (.if_icmp .ge 53, 3) := by decide +kernel
theorem dX2_setByRank_14 : decode cX2_setByRank 14 = .ok (.getstatic 7, 3) := by decide +kernel
theorem dX2_setByRank_17 : decode cX2_setByRank 17 = .ok (.iload_n 1, 1) := by decide +kernel
theorem dX2_setByRank_18 : decode cX2_setByRank 18 = .ok (.iconst 1, 1) := by decide +kernel
theorem dX2_setByRank_19 : decode cX2_setByRank 19 = .ok (.isub, 1) := by decide +kernel
theorem dX2_setByRank_20 : decode cX2_setByRank 20 = .ok (.iload 5, 2) := by decide +kernel
theorem dX2_setByRank_22 : decode cX2_setByRank 22 = .ok (.isub, 1) := by decide +kernel
theorem dX2_setByRank_23 : decode cX2_setByRank 23 = .ok (.iaload, 1) := by decide +kernel
theorem dX2_setByRank_24 : decode cX2_setByRank 24 = .ok (.istore 6, 2) := by decide +kernel
theorem dX2_setByRank_26 : decode cX2_setByRank 26 = .ok (.iload_n 3, 1) := by decide +kernel
theorem dX2_setByRank_27 : decode cX2_setByRank 27 = .ok (.iload_n 1, 1) := by decide +kernel
theorem dX2_setByRank_28 : decode cX2_setByRank 28 = .ok (.iload 4, 2) := by decide +kernel
theorem dX2_setByRank_30 : decode cX2_setByRank 30 = .ok (.iload 6, 2) := by decide +kernel
theorem dX2_setByRank_32 : decode cX2_setByRank 32 = .ok (.idiv, 1) := by decide +kernel
theorem dX2_setByRank_33 : decode cX2_setByRank 33 = .ok (.invokestatic 13, 3) := by decide +kernel
theorem dX2_setByRank_36 : decode cX2_setByRank 36 = .ok (.istore 7, 2) := by decide +kernel
theorem dX2_setByRank_38 : decode cX2_setByRank 38 = .ok (.iload_n 3, 1) := by decide +kernel
theorem dX2_setByRank_39 : decode cX2_setByRank 39 = .ok (.iconst 1, 1) := by decide +kernel
theorem dX2_setByRank_40 : decode cX2_setByRank 40 = .ok (.iload 7, 2) := by decide +kernel
theorem dX2_setByRank_42 : decode cX2_setByRank 42 = .ok (.ishl, 1) := by decide +kernel
theorem dX2_setByRank_43 : decode cX2_setByRank 43 = .ok (.ior, 1) := by decide +kernel
theorem dX2_setByRank_44 : decode cX2_setByRank 44 = .ok (.istore_n 3, 1) := by decide +kernel
theorem dX2_setByRank_45 : decode cX2_setByRank 45 = .ok (.aload_n 0, 1) := by decide +kernel
theorem dX2_setByRank_46 : decode cX2_setByRank 46 = .ok (.iload 5, 2) := by decide +kernel
theorem dX2_setByRank_48 : decode cX2_setByRank 48 = .ok (.iload 7, 2) := by decide +kernel
theorem dX2_setByRank_50 : decode cX2_setByRank 50 = .ok (.iastore, 1) := by decide +kernel
theorem dX2_setByRank_51 : decode cX2_setByRank 51 = .ok (.iload 4, 2) := by decide +kernel
theorem dX2_setByRank_53 : decode cX2_setByRank 53 = .ok (.iload 6, 2) := by decide +kernel
theorem dX2_setByRank_55 : decode cX2_setByRank 55 = .ok (.irem, 1) := by decide +kernel
theorem dX2_setByRank_56 : decode cX2_setByRank 56 = .ok (.istore 4, 2) := by decide +kernel
theorem dX2_setByRank_58 : decode cX2_setByRank 58 = .ok (.iinc 5 1, 3) := by decide +kernel
theorem dX2_setByRank_61 : decode cX2_setByRank 61 = .ok (.goto (-53), 3) := by decide +kernel
theorem dX2_setByRank_64 : decode cX2_setByRank 64 = .ok (.return_, 1) := by decide +kernel
theorem dX2_unused_0 : decode cX2_unused 0 = .ok (.iload_n 2, 1) := by decide +kernel
theorem dX2_unused_1 : decode cX2_unused 1 = .ok (.istore_n 3, 1) := by decide +kernel
theorem dX2_unused_2 : decode cX2_unused 2 = .ok (.iconst 0, 1) := by decide +kernel
theorem dX2_unused_3 : decode cX2_unused 3 = .ok (.istore 4, 2) := by decide +kernel
theorem dX2_unused_5 : decode cX2_unused 5 = .ok (.iload 4, 2) := by decide +kernel
theorem dX2_unused_7 : decode cX2_unused 7 = .ok (.iload_n 1, 1) := by decide +kernel
theorem dX2_unused_8 : decode cX2_unused 8 = .ok (.if_icmp .ge 28, 3) := by decide +kernel
theorem dX2_unused_11 : decode cX2_unused 11 = .ok (.iload_n 0, 1) := by decide +kernel
theorem dX2_unused_12 : decode cX2_unused 12 = .ok (.iload 4, 2) := by decide +kernel
theorem dX2_unused_14 : decode cX2_unused 14 = .ok (.ishr, 1) := by decide +kernel
theorem dX2_unused_15 : decode cX2_unused 15 = .ok (.iconst 1, 1) := by decide +kernel
theorem dX2_unused_16 : decode cX2_unused 16 = .ok (.iand, 1) := by decide +kernel
theorem dX2_unused_17 : decode cX2_unused 17 = .ok (.ifCond .ne 13, 3) := by decide +kernel
theorem dX2_unused_20 : decode cX2_unused 20 = .ok (.iload_n 3, 1) := by decide +kernel
theorem dX2_unused_21 : decode cX2_unused 21 = .ok (.ifCond .ne 6, 3) := by decide +kernel
theorem dX2_unused_24 : decode cX2_unused 24 = .ok (.iload 4, 2) := by decide +kernel
theorem dX2_unused_26 : decode cX2_unused 26 = .ok (.ireturn, 1) := by decide +kernel
theorem dX2_unused_27 : decode cX2_unused 27 = .ok (.iinc 3 (-1), 3) := by decide +kernel
theorem dX2_unused_30 : decode cX2_unused 30 = .ok (.iinc 4 1, 3) := by decide +kernel
theorem dX2_unused_33 : decode cX2_unused 33 = .ok (.goto (-28), 3) := by decide +kernel
theorem dX2_unused_36 : decode cX2_unused 36 = .ok (.iconst 0, 1) := by decide +kernel
theorem dX2_unused_37 : decode cX2_unused 37 = .ok (.ireturn, 1) := by decide +kernel
theorem dX2_setBack_0 : decode cX2_setBack 0 = .ok (.iconst 0, 1) := by decide +kernel
theorem dX2_setBack_1 : decode cX2_setBack 1 = .ok (.istore_n 3, 1) := by decide +kernel
theorem dX2_setBack_2 : decode cX2_setBack 2 = .ok (.iload_n 3, 1) := by decide +kernel
theorem dX2_setBack_3 : decode cX2_setBack 3 = .ok (.iload_n 2, 1) := by decide +kernel
theorem dX2_setBack_4 : decode cX2_setBack 4 = .ok (.if_icmp .ge 15, 3) := by decide +kernel
theorem dX2_setBack_7 : decode cX2_setBack 7 = .ok (.aload_n 1, 1) := by decide +kernel
theorem dX2_setBack_8 : decode cX2_setBack 8 = .ok (.aload_n 0, 1) := by decide +kernel
theorem dX2_setBack_9 : decode cX2_setBack 9 = .ok (.iload_n 3, 1) := by decide +kernel
theorem dX2_setBack_10 : decode cX2_setBack 10 = .ok (.iaload, 1) := by decide +kernel
theorem dX2_setBack_11 : decode cX2_setBack 11 = .ok (.iload_n 3, 1) := by decide +kernel
theorem dX2_setBack_12 : decode cX2_setBack 12 = .ok (.iastore, 1) := by decide +kernel
theorem dX2_setBack_13 : decode cX2_setBack 13 = .ok (.iinc 3 1, 3) := by decide +kernel
theorem dX2_setBack_16 : decode cX2_setBack 16 = .ok (.goto (-14), 3) := by decide +kernel
theorem dX2_setBack_19 : decode cX2_setBack 19 = .ok (.return_, 1) := by decide +kernel
theorem dX2_setThrough_0 : decode cX2_setThrough 0 = .ok (.iconst 0, 1) := by decide +kernel
theorem dX2_setThrough_1 : decode cX2_setThrough 1 = .ok (.istore 4, 2) := by decide +kernel
theorem dX2_setThrough_3 : decode cX2_setThrough 3 = .ok (.iload 4, 2) := by decide +kernel
theorem dX2_setThrough_5 : decode cX2_setThrough 5 = .ok (.iload_n 3, 1) := by decide +kernel
theorem dX2_setThrough_6 : decode cX2_setThrough 6 = .ok (.if_icmp .ge 19, 3) := by decide +kernel
theorem dX2_setThrough_9 : decode cX2_setThrough 9 = .ok (.aload_n 2, 1) := by decide +kernel
theorem dX2_setThrough_10 : decode cX2_setThrough 10 = .ok (.iload 4, 2) := by decide +kernel
theorem dX2_setThrough_12 : decode cX2_setThrough 12 = .ok (.aload_n 0, 1) := by decide +kernel
theorem dX2_setThrough_13 : decode cX2_setThrough 13 = .ok (.aload_n 1, 1) := by decide +kernel
theorem dX2_setThrough_14 : decode cX2_setThrough 14 = .ok (.iload 4, 2) := by decide +kernel
theorem dX2_setThrough_16 : decode cX2_setThrough 16 = .ok (.iaload, 1) := by decide +kernel
theorem dX2_setThrough_17 : decode cX2_setThrough 17 = .ok (.iaload, 1) := by decide +kernel
theorem dX2_setThrough_18 : decode cX2_setThrough 18 = .ok (.iastore, 1) := by decide +kernel
theorem dX2_setThrough_19 : decode cX2_setThrough 19 = .ok (.iinc 4 1, 3) := by decide +kernel
theorem dX2_setThrough_22 : decode cX2_setThrough 22 = .ok (.goto (-19), 3) := by decide +kernel
theorem dX2_setThrough_25 : decode cX2_setThrough 25 = .ok (.return_, 1) := by decide +kernel
theorem dX2_setDealt_0 : decode cX2_setDealt 0 = .ok (.iconst 0, 1) := by decide +kernel
theorem dX2_setDealt_1 : decode cX2_setDealt 1 = .ok (.istore_n 3, 1) := by decide +kernel
theorem dX2_setDealt_2 : decode cX2_setDealt 2 = .ok (.iconst 0, 1) := by decide +kernel
theorem dX2_setDealt_3 : decode cX2_setDealt 3 = .ok (.istore 4, 2) := by decide +kernel
theorem dX2_setDealt_5 : decode cX2_setDealt 5 = .ok (.iload 4, 2) := by decide +kernel
theorem dX2_setDealt_7 : decode cX2_setDealt 7 = .ok (.iload_n 2, 1) := by decide +kernel
theorem dX2_setDealt_8 : decode cX2_setDealt 8 = .ok (.if_icmp .ge 57, 3) := by decide +kernel
theorem dX2_setDealt_11 : decode cX2_setDealt 11 = .ok (.iload 4, 2) := by decide +kernel
theorem dX2_setDealt_13 : decode cX2_setDealt 13 = .ok (.iload_n 1, 1) := by decide +kernel
theorem dX2_setDealt_14 : decode cX2_setDealt 14 = .ok (.iconst 1, 1) := by decide +kernel
theorem dX2_setDealt_15 : decode cX2_setDealt 15 = .ok (.isub, 1) := by decide +kernel
theorem dX2_setDealt_16 : decode cX2_setDealt 16 = .ok (.iload 4, 2) := by decide +kernel
theorem dX2_setDealt_18 : decode cX2_setDealt 18 = .ok (.isub, 1) := by decide +kernel
theorem dX2_setDealt_19 : decode cX2_setDealt 19 = .ok (.iload_n 2, 1) := by decide +kernel
theorem dX2_setDealt_20 : decode cX2_setDealt 20 = .ok (.idiv, 1) := by decide +kernel
theorem dX2_setDealt_21 : decode cX2_setDealt 21 = .ok (.iload_n 2, 1) := by decide +kernel
theorem dX2_setDealt_22 : decode cX2_setDealt 22 = .ok (.imul, 1) := by decide +kernel
theorem dX2_setDealt_23 : decode cX2_setDealt 23 = .ok (.iadd, 1) := by decide +kernel
theorem dX2_setDealt_24 : decode cX2_setDealt 24 = .ok (.istore 5, 2) := by decide +kernel
theorem dX2_setDealt_26 : decode cX2_setDealt 26 = .ok (.iload 5, 2) := by decide +kernel
theorem dX2_setDealt_28 : decode cX2_setDealt 28 = .ok (.istore 6, 2) := by decide +kernel
theorem dX2_setDealt_30 : decode cX2_setDealt 30 = .ok (.iload 6, 2) := by decide +kernel
theorem dX2_setDealt_32 : decode cX2_setDealt 32 = .ok (.iload 4, 2) := by decide +kernel
theorem dX2_setDealt_34 : decode cX2_setDealt 34 = .ok (.if_icmp .lt 25, 3) := by decide +kernel
theorem dX2_setDealt_37 : decode cX2_setDealt 37 = .ok (.iload_n 3, 1) := by decide +kernel
theorem dX2_setDealt_38 : decode cX2_setDealt 38 = .ok (.iload_n 1, 1) := by decide +kernel
theorem dX2_setDealt_39 : decode cX2_setDealt 39 = .ok (.if_icmp .ge 20, 3) := by decide +kernel
theorem dX2_setDealt_42 : decode cX2_setDealt 42 = .ok (.aload_n 0, 1) := by decide +kernel
theorem dX2_setDealt_43 : decode cX2_setDealt 43 = .ok (.iload_n 3, 1) := by decide +kernel
theorem dX2_setDealt_44 : decode cX2_setDealt 44 = .ok (.iload 6, 2) := by decide +kernel
theorem dX2_setDealt_46 : decode cX2_setDealt 46 = .ok (.iastore, 1) := by decide +kernel
theorem dX2_setDealt_47 : decode cX2_setDealt 47 = .ok (.iinc 3 1, 3) := by decide +kernel
theorem dX2_setDealt_50 : decode cX2_setDealt 50 = .ok (.iload 6, 2) := by decide +kernel
theorem dX2_setDealt_52 : decode cX2_setDealt 52 = .ok (.iload_n 2, 1) := by decide +kernel
theorem dX2_setDealt_53 : decode cX2_setDealt 53 = .ok (.isub, 1) := by decide +kernel
theorem dX2_setDealt_54 : decode cX2_setDealt 54 = .ok (.istore 6, 2) := by decide +kernel
theorem dX2_setDealt_56 : decode cX2_setDealt 56 = .ok (.goto (-26), 3) := by decide +kernel
theorem dX2_setDealt_59 : decode cX2_setDealt 59 = .ok (.iinc 4 1, 3) := by decide +kernel
theorem dX2_setDealt_62 : decode cX2_setDealt 62 = .ok (.goto (-57), 3) := by decide +kernel
theorem dX2_setDealt_65 : decode cX2_setDealt 65 = .ok (.return_, 1) := by decide +kernel
theorem dX2_runsOf_0 : decode cX2_runsOf 0 = .ok (.iconst 1, 1) := by decide +kernel
theorem dX2_runsOf_1 : decode cX2_runsOf 1 = .ok (.istore_n 2, 1) := by decide +kernel
theorem dX2_runsOf_2 : decode cX2_runsOf 2 = .ok (.iconst 1, 1) := by decide +kernel
theorem dX2_runsOf_3 : decode cX2_runsOf 3 = .ok (.istore_n 3, 1) := by decide +kernel
theorem dX2_runsOf_4 : decode cX2_runsOf 4 = .ok (.iload_n 3, 1) := by decide +kernel
theorem dX2_runsOf_5 : decode cX2_runsOf 5 = .ok (.iload_n 1, 1) := by decide +kernel
theorem dX2_runsOf_6 : decode cX2_runsOf 6 = .ok (.if_icmp .ge 23, 3) := by decide +kernel
theorem dX2_runsOf_9 : decode cX2_runsOf 9 = .ok (.aload_n 0, 1) := by decide +kernel
theorem dX2_runsOf_10 : decode cX2_runsOf 10 = .ok (.iload_n 3, 1) := by decide +kernel
theorem dX2_runsOf_11 : decode cX2_runsOf 11 = .ok (.iaload, 1) := by decide +kernel
theorem dX2_runsOf_12 : decode cX2_runsOf 12 = .ok (.aload_n 0, 1) := by decide +kernel
theorem dX2_runsOf_13 : decode cX2_runsOf 13 = .ok (.iload_n 3, 1) := by decide +kernel
theorem dX2_runsOf_14 : decode cX2_runsOf 14 = .ok (.iconst 1, 1) := by decide +kernel
theorem dX2_runsOf_15 : decode cX2_runsOf 15 = .ok (.isub, 1) := by decide +kernel
theorem dX2_runsOf_16 : decode cX2_runsOf 16 = .ok (.iaload, 1) := by decide +kernel
theorem dX2_runsOf_17 : decode cX2_runsOf 17 = .ok (.if_icmp .ge 6, 3) := by decide +kernel
theorem dX2_runsOf_20 : decode cX2_runsOf 20 = .ok (.iinc 2 1, 3) := by decide +kernel
theorem dX2_runsOf_23 : decode cX2_runsOf 23 = .ok (.iinc 3 1, 3) := by decide +kernel
theorem dX2_runsOf_26 : decode cX2_runsOf 26 = .ok (.goto (-22), 3) := by decide +kernel
theorem dX2_runsOf_29 : decode cX2_runsOf 29 = .ok (.iload_n 2, 1) := by decide +kernel
theorem dX2_runsOf_30 : decode cX2_runsOf 30 = .ok (.ireturn, 1) := by decide +kernel
theorem dX2_looseOf_0 : decode cX2_looseOf 0 = .ok (.iload_n 1, 1) := by decide +kernel
theorem dX2_looseOf_1 : decode cX2_looseOf 1 = .ok (.iconst 1, 1) := by decide +kernel
theorem dX2_looseOf_2 : decode cX2_looseOf 2 = .ok (.isub, 1) := by decide +kernel
theorem dX2_looseOf_3 : decode cX2_looseOf 3 = .ok (.istore_n 2, 1) := by decide +kernel
theorem dX2_looseOf_4 : decode cX2_looseOf 4 = .ok (.iload_n 2, 1) := by decide +kernel
theorem dX2_looseOf_5 : decode cX2_looseOf 5 = .ok (.ifCond .le 20, 3) := by decide +kernel
theorem dX2_looseOf_8 : decode cX2_looseOf 8 = .ok (.aload_n 0, 1) := by decide +kernel
theorem dX2_looseOf_9 : decode cX2_looseOf 9 = .ok (.iload_n 2, 1) := by decide +kernel
theorem dX2_looseOf_10 : decode cX2_looseOf 10 = .ok (.iconst 1, 1) := by decide +kernel
theorem dX2_looseOf_11 : decode cX2_looseOf 11 = .ok (.isub, 1) := by decide +kernel
theorem dX2_looseOf_12 : decode cX2_looseOf 12 = .ok (.iaload, 1) := by decide +kernel
theorem dX2_looseOf_13 : decode cX2_looseOf 13 = .ok (.aload_n 0, 1) := by decide +kernel
theorem dX2_looseOf_14 : decode cX2_looseOf 14 = .ok (.iload_n 2, 1) := by decide +kernel
theorem dX2_looseOf_15 : decode cX2_looseOf 15 = .ok (.iaload, 1) := by decide +kernel
theorem dX2_looseOf_16 : decode cX2_looseOf 16 = .ok (.if_icmp .ge 9, 3) := by decide +kernel
theorem dX2_looseOf_19 : decode cX2_looseOf 19 = .ok (.iinc 2 (-1), 3) := by decide +kernel
theorem dX2_looseOf_22 : decode cX2_looseOf 22 = .ok (.goto (-18), 3) := by decide +kernel
theorem dX2_looseOf_25 : decode cX2_looseOf 25 = .ok (.iload_n 2, 1) := by decide +kernel
theorem dX2_looseOf_26 : decode cX2_looseOf 26 = .ok (.ireturn, 1) := by decide +kernel
theorem dX3_lengthFrom_0 : decode cX3_lengthFrom 0 = .ok (.iconst 1, 1) := by decide +kernel
theorem dX3_lengthFrom_1 : decode cX3_lengthFrom 1 = .ok (.istore_n 3, 1) := by decide +kernel
theorem dX3_lengthFrom_2 : decode cX3_lengthFrom 2 = .ok (.aload_n 0, 1) := by decide +kernel
theorem dX3_lengthFrom_3 : decode cX3_lengthFrom 3 = .ok (.iload_n 2, 1) := by decide +kernel
theorem dX3_lengthFrom_4 : decode cX3_lengthFrom 4 = .ok (.iaload, 1) := by decide +kernel
theorem dX3_lengthFrom_5 : decode cX3_lengthFrom 5 = .ok (.istore 4, 2) := by decide +kernel
theorem dX3_lengthFrom_7 : decode cX3_lengthFrom 7 = .ok (.iload_n 3, 1) := by decide +kernel
theorem dX3_lengthFrom_8 : decode cX3_lengthFrom 8 = .ok (.iload_n 1, 1) := by decide +kernel
theorem dX3_lengthFrom_9 : decode cX3_lengthFrom 9 = .ok (.if_icmp .ge 21, 3) := by decide +kernel
theorem dX3_lengthFrom_12 : decode cX3_lengthFrom 12 = .ok (.iload 4, 2) := by decide +kernel
theorem dX3_lengthFrom_14 : decode cX3_lengthFrom 14 = .ok (.iload_n 2, 1) := by decide +kernel
theorem dX3_lengthFrom_15 : decode cX3_lengthFrom 15 = .ok (.if_icmp .eq 15, 3) := by decide +kernel
theorem dX3_lengthFrom_18 : decode cX3_lengthFrom 18 = .ok (.aload_n 0, 1) := by decide +kernel
theorem dX3_lengthFrom_19 : decode cX3_lengthFrom 19 = .ok (.iload 4, 2) := by decide +kernel
theorem dX3_lengthFrom_21 : decode cX3_lengthFrom 21 = .ok (.iaload, 1) := by decide +kernel
theorem dX3_lengthFrom_22 : decode cX3_lengthFrom 22 = .ok (.istore 4, 2) := by decide +kernel
theorem dX3_lengthFrom_24 : decode cX3_lengthFrom 24 = .ok (.iinc 3 1, 3) := by decide +kernel
theorem dX3_lengthFrom_27 : decode cX3_lengthFrom 27 = .ok (.goto (-20), 3) := by decide +kernel
theorem dX3_lengthFrom_30 : decode cX3_lengthFrom 30 = .ok (.iload_n 3, 1) := by decide +kernel
theorem dX3_lengthFrom_31 : decode cX3_lengthFrom 31 = .ok (.ireturn, 1) := by decide +kernel
theorem dX3_howMany_0 : decode cX3_howMany 0 = .ok (.iconst 0, 1) := by decide +kernel
theorem dX3_howMany_1 : decode cX3_howMany 1 = .ok (.istore_n 2, 1) := by decide +kernel
theorem dX3_howMany_2 : decode cX3_howMany 2 = .ok (.iconst 0, 1) := by decide +kernel
theorem dX3_howMany_3 : decode cX3_howMany 3 = .ok (.istore_n 3, 1) := by decide +kernel
theorem dX3_howMany_4 : decode cX3_howMany 4 = .ok (.iload_n 3, 1) := by decide +kernel
theorem dX3_howMany_5 : decode cX3_howMany 5 = .ok (.iload_n 1, 1) := by decide +kernel
theorem dX3_howMany_6 : decode cX3_howMany 6 = .ok (.if_icmp .ge 50, 3) := by decide +kernel
theorem dX3_howMany_9 : decode cX3_howMany 9 = .ok (.aload_n 0, 1) := by decide +kernel
theorem dX3_howMany_10 : decode cX3_howMany 10 = .ok (.iload_n 3, 1) := by decide +kernel
theorem dX3_howMany_11 : decode cX3_howMany 11 = .ok (.iaload, 1) := by decide +kernel
theorem dX3_howMany_12 : decode cX3_howMany 12 = .ok (.istore 4, 2) := by decide +kernel
theorem dX3_howMany_14 : decode cX3_howMany 14 = .ok (.iconst 0, 1) := by decide +kernel
theorem dX3_howMany_15 : decode cX3_howMany 15 = .ok (.istore 5, 2) := by decide +kernel
theorem dX3_howMany_17 : decode cX3_howMany 17 = .ok (.iload 5, 2) := by decide +kernel
theorem dX3_howMany_19 : decode cX3_howMany 19 = .ok (.iload_n 1, 1) := by decide +kernel
theorem dX3_howMany_20 : decode cX3_howMany 20 = .ok (.if_icmp .ge 21, 3) := by decide +kernel
theorem dX3_howMany_23 : decode cX3_howMany 23 = .ok (.iload 4, 2) := by decide +kernel
theorem dX3_howMany_25 : decode cX3_howMany 25 = .ok (.iload_n 3, 1) := by decide +kernel
theorem dX3_howMany_26 : decode cX3_howMany 26 = .ok (.if_icmp .le 15, 3) := by decide +kernel
theorem dX3_howMany_29 : decode cX3_howMany 29 = .ok (.aload_n 0, 1) := by decide +kernel
theorem dX3_howMany_30 : decode cX3_howMany 30 = .ok (.iload 4, 2) := by decide +kernel
theorem dX3_howMany_32 : decode cX3_howMany 32 = .ok (.iaload, 1) := by decide +kernel
theorem dX3_howMany_33 : decode cX3_howMany 33 = .ok (.istore 4, 2) := by decide +kernel
theorem dX3_howMany_35 : decode cX3_howMany 35 = .ok (.iinc 5 1, 3) := by decide +kernel
theorem dX3_howMany_38 : decode cX3_howMany 38 = .ok (.goto (-21), 3) := by decide +kernel
theorem dX3_howMany_41 : decode cX3_howMany 41 = .ok (.iload 4, 2) := by decide +kernel
theorem dX3_howMany_43 : decode cX3_howMany 43 = .ok (.iload_n 3, 1) := by decide +kernel
theorem dX3_howMany_44 : decode cX3_howMany 44 = .ok (.if_icmp .ne 6, 3) := by decide +kernel
theorem dX3_howMany_47 : decode cX3_howMany 47 = .ok (.iinc 2 1, 3) := by decide +kernel
theorem dX3_howMany_50 : decode cX3_howMany 50 = .ok (.iinc 3 1, 3) := by decide +kernel
theorem dX3_howMany_53 : decode cX3_howMany 53 = .ok (.goto (-49), 3) := by decide +kernel
theorem dX3_howMany_56 : decode cX3_howMany 56 = .ok (.iload_n 2, 1) := by decide +kernel
theorem dX3_howMany_57 : decode cX3_howMany 57 = .ok (.ireturn, 1) := by decide +kernel
theorem dX3_leastPower_0 : decode cX3_leastPower 0 = .ok (.iconst 1, 1) := by decide +kernel
theorem dX3_leastPower_1 : decode cX3_leastPower 1 = .ok (.istore_n 2, 1) := by decide +kernel
theorem dX3_leastPower_2 : decode cX3_leastPower 2 = .ok (.iconst 0, 1) := by decide +kernel
theorem dX3_leastPower_3 : decode cX3_leastPower 3 = .ok (.istore_n 3, 1) := by decide +kernel
theorem dX3_leastPower_4 : decode cX3_leastPower 4 = .ok (.iload_n 3, 1) := by decide +kernel
theorem dX3_leastPower_5 : decode cX3_leastPower 5 = .ok (.iload_n 1, 1) := by decide +kernel
theorem dX3_leastPower_6 : decode cX3_leastPower 6 = .ok (.if_icmp .ge 32, 3) := by decide +kernel
theorem dX3_leastPower_9 : decode cX3_leastPower 9 = .ok (.aload_n 0, 1) := by decide +kernel
theorem dX3_leastPower_10 : decode cX3_leastPower 10 = .ok (.iload_n 1, 1) := by decide +kernel
theorem dX3_leastPower_11 : decode cX3_leastPower 11 = .ok (.iload_n 3, 1) := by decide +kernel
theorem dX3_leastPower_12 : decode cX3_leastPower 12 = .ok (.invokestatic 7, 3) := by decide +kernel
theorem dX3_leastPower_15 : decode cX3_leastPower 15 = .ok (.istore 4, 2) := by decide +kernel
theorem dX3_leastPower_17 : decode cX3_leastPower 17 = .ok (.iload_n 2, 1) := by decide +kernel
theorem dX3_leastPower_18 : decode cX3_leastPower 18 = .ok (.iload 4, 2) := by decide +kernel
theorem dX3_leastPower_20 : decode cX3_leastPower 20 = .ok (.iload_n 2, 1) := by decide +kernel
theorem dX3_leastPower_21 : decode cX3_leastPower 21 = .ok (.i2l, 1) := by decide +kernel
theorem dX3_leastPower_22 : decode cX3_leastPower 22 = .ok (.iload 4, 2) := by decide +kernel
theorem dX3_leastPower_24 : decode cX3_leastPower 24 = .ok (.i2l, 1) := by decide +kernel
theorem dX3_leastPower_25 : decode cX3_leastPower 25 = .ok (.invokestatic 13, 3) := by decide +kernel
theorem dX3_leastPower_28 : decode cX3_leastPower 28 = .ok (.l2i, 1) := by decide +kernel
theorem dX3_leastPower_29 : decode cX3_leastPower 29 = .ok (.idiv, 1) := by decide +kernel
theorem dX3_leastPower_30 : decode cX3_leastPower 30 = .ok (.imul, 1) := by decide +kernel
theorem dX3_leastPower_31 : decode cX3_leastPower 31 = .ok (.istore_n 2, 1) := by decide +kernel
theorem dX3_leastPower_32 : decode cX3_leastPower 32 = .ok (.iinc 3 1, 3) := by decide +kernel
theorem dX3_leastPower_35 : decode cX3_leastPower 35 = .ok (.goto (-31), 3) := by decide +kernel
theorem dX3_leastPower_38 : decode cX3_leastPower 38 = .ok (.iload_n 2, 1) := by decide +kernel
theorem dX3_leastPower_39 : decode cX3_leastPower 39 = .ok (.ireturn, 1) := by decide +kernel
theorem dX3_along_0 : decode cX3_along 0 = .ok (.lload_n 3, 1) := by decide +kernel
theorem dX3_along_1 : decode cX3_along 1 = .ok (.aload_n 0, 1) := by decide +kernel
theorem dX3_along_2 : decode cX3_along 2 = .ok (.iload_n 1, 1) := by decide +kernel
theorem dX3_along_3 : decode cX3_along 3 = .ok (.iload_n 2, 1) := by decide +kernel
theorem dX3_along_4 : decode cX3_along 4 = .ok (.invokestatic 7, 3) := by decide +kernel
theorem dX3_along_7 : decode cX3_along 7 = .ok (.i2l, 1) := by decide +kernel
theorem dX3_along_8 : decode cX3_along 8 = .ok (.lrem, 1) := by decide +kernel
theorem dX3_along_9 : decode cX3_along 9 = .ok (.l2i, 1) := by decide +kernel
theorem dX3_along_10 : decode cX3_along 10 = .ok (.istore 5, 2) := by decide +kernel
theorem dX3_along_12 : decode cX3_along 12 = .ok (.iload_n 2, 1) := by decide +kernel
theorem dX3_along_13 : decode cX3_along 13 = .ok (.istore 6, 2) := by decide +kernel
theorem dX3_along_15 : decode cX3_along 15 = .ok (.iconst 0, 1) := by decide +kernel
theorem dX3_along_16 : decode cX3_along 16 = .ok (.istore 7, 2) := by decide +kernel
theorem dX3_along_18 : decode cX3_along 18 = .ok (.iload 7, 2) := by decide +kernel
theorem dX3_along_20 : decode cX3_along 20 = .ok (.iload 5, 2) := by decide +kernel
theorem dX3_along_22 : decode cX3_along 22 = .ok (.if_icmp .ge 15, 3) := by decide +kernel
theorem dX3_along_25 : decode cX3_along 25 = .ok (.aload_n 0, 1) := by decide +kernel
theorem dX3_along_26 : decode cX3_along 26 = .ok (.iload 6, 2) := by decide +kernel
theorem dX3_along_28 : decode cX3_along 28 = .ok (.iaload, 1) := by decide +kernel
theorem dX3_along_29 : decode cX3_along 29 = .ok (.istore 6, 2) := by decide +kernel
theorem dX3_along_31 : decode cX3_along 31 = .ok (.iinc 7 1, 3) := by decide +kernel
theorem dX3_along_34 : decode cX3_along 34 = .ok (.goto (-16), 3) := by decide +kernel
theorem dX3_along_37 : decode cX3_along 37 = .ok (.iload 6, 2) := by decide +kernel
theorem dX3_along_39 : decode cX3_along 39 = .ok (.ireturn, 1) := by decide +kernel
theorem dX4_init_0 : decode cX4_init 0 = .ok (.aload_n 0, 1) := by decide +kernel
theorem dX4_init_1 : decode cX4_init 1 = .ok (.invokespecial 3, 3) := by decide +kernel
theorem dX4_init_4 : decode cX4_init 4 = .ok (.aload_n 0, 1) := by decide +kernel
theorem dX4_init_5 : decode cX4_init 5 = .ok (.bipush 10, 2) := by decide +kernel
theorem dX4_init_7 : decode cX4_init 7 = .ok (.newarray .int, 2) := by decide +kernel
theorem dX4_init_9 : decode cX4_init 9 = .ok (.putfield 9, 3) := by decide +kernel
theorem dX4_init_12 : decode cX4_init 12 = .ok (.aload_n 0, 1) := by decide +kernel
theorem dX4_init_13 : decode cX4_init 13 = .ok (.iconst 0, 1) := by decide +kernel
theorem dX4_init_14 : decode cX4_init 14 = .ok (.putfield 15, 3) := by decide +kernel
theorem dX4_init_17 : decode cX4_init 17 = .ok (.aload_n 0, 1) := by decide +kernel
theorem dX4_init_18 : decode cX4_init 18 = .ok (.iconst 2, 1) := by decide +kernel
theorem dX4_init_19 : decode cX4_init 19 = .ok (.putfield 19, 3) := by decide +kernel
theorem dX4_init_22 : decode cX4_init 22 = .ok (.return_, 1) := by decide +kernel
theorem dX4_hasMove_0 : decode cX4_hasMove 0 = .ok (.aload_n 0, 1) := by decide +kernel
theorem dX4_hasMove_1 : decode cX4_hasMove 1 = .ok (.getfield 15, 3) := by decide +kernel
theorem dX4_hasMove_4 : decode cX4_hasMove 4 = .ok (.iconst 3, 1) := by decide +kernel
theorem dX4_hasMove_5 : decode cX4_hasMove 5 = .ok (.if_icmp .eq 15, 3) := by decide +kernel
theorem dX4_hasMove_8 : decode cX4_hasMove 8 = .ok (.aload_n 0, 1) := by decide +kernel
theorem dX4_hasMove_9 : decode cX4_hasMove 9 = .ok (.getfield 15, 3) := by decide +kernel
theorem dX4_hasMove_12 : decode cX4_hasMove 12 = .ok (.iconst 4, 1) := by decide +kernel
theorem dX4_hasMove_13 : decode cX4_hasMove 13 = .ok (.if_icmp .eq 7, 3) := by decide +kernel
theorem dX4_hasMove_16 : decode cX4_hasMove 16 = .ok (.iconst 1, 1) := by decide +kernel
theorem dX4_hasMove_17 : decode cX4_hasMove 17 = .ok (.goto 4, 3) := by decide +kernel
theorem dX4_hasMove_20 : decode cX4_hasMove 20 = .ok (.iconst 0, 1) := by decide +kernel
theorem dX4_hasMove_21 : decode cX4_hasMove 21 = .ok (.ireturn, 1) := by decide +kernel
theorem dX4_isUnder_0 : decode cX4_isUnder 0 = .ok (.aload_n 0, 1) := by decide +kernel
theorem dX4_isUnder_1 : decode cX4_isUnder 1 = .ok (.getfield 15, 3) := by decide +kernel
theorem dX4_isUnder_4 : decode cX4_isUnder 4 = .ok (.istore_n 2, 1) := by decide +kernel
theorem dX4_isUnder_5 : decode cX4_isUnder 5 = .ok (.iconst 0, 1) := by decide +kernel
theorem dX4_isUnder_6 : decode cX4_isUnder 6 = .ok (.istore_n 3, 1) := by decide +kernel
theorem dX4_isUnder_7 : decode cX4_isUnder 7 = .ok (.iload_n 3, 1) := by decide +kernel
theorem dX4_isUnder_8 : decode cX4_isUnder 8 = .ok (.iconst 5, 1) := by decide +kernel
theorem dX4_isUnder_9 : decode cX4_isUnder 9 = .ok (.if_icmp .ge 24, 3) := by decide +kernel
theorem dX4_isUnder_12 : decode cX4_isUnder 12 = .ok (.iload_n 2, 1) := by decide +kernel
theorem dX4_isUnder_13 : decode cX4_isUnder 13 = .ok (.ifCond .lt 20, 3) := by decide +kernel
theorem dX4_isUnder_16 : decode cX4_isUnder 16 = .ok (.iload_n 2, 1) := by decide +kernel
theorem dX4_isUnder_17 : decode cX4_isUnder 17 = .ok (.iload_n 1, 1) := by decide +kernel
theorem dX4_isUnder_18 : decode cX4_isUnder 18 = .ok (.if_icmp .eq 15, 3) := by decide +kernel
theorem dX4_isUnder_21 : decode cX4_isUnder 21 = .ok (.getstatic 22, 3) := by decide +kernel
theorem dX4_isUnder_24 : decode cX4_isUnder 24 = .ok (.iload_n 2, 1) := by decide +kernel
theorem dX4_isUnder_25 : decode cX4_isUnder 25 = .ok (.iaload, 1) := by decide +kernel
theorem dX4_isUnder_26 : decode cX4_isUnder 26 = .ok (.istore_n 2, 1) := by decide +kernel
theorem dX4_isUnder_27 : decode cX4_isUnder 27 = .ok (.iinc 3 1, 3) := by decide +kernel
theorem dX4_isUnder_30 : decode cX4_isUnder 30 = .ok (.goto (-23), 3) := by decide +kernel
theorem dX4_isUnder_33 : decode cX4_isUnder 33 = .ok (.iload_n 2, 1) := by decide +kernel
theorem dX4_isUnder_34 : decode cX4_isUnder 34 = .ok (.iload_n 1, 1) := by decide +kernel
theorem dX4_isUnder_35 : decode cX4_isUnder 35 = .ok (.if_icmp .ne 7, 3) := by decide +kernel
theorem dX4_isUnder_38 : decode cX4_isUnder 38 = .ok (.iconst 1, 1) := by decide +kernel
theorem dX4_isUnder_39 : decode cX4_isUnder 39 = .ok (.goto 4, 3) := by decide +kernel
theorem dX4_isUnder_42 : decode cX4_isUnder 42 = .ok (.iconst 0, 1) := by decide +kernel
theorem dX4_isUnder_43 : decode cX4_isUnder 43 = .ok (.ireturn, 1) := by decide +kernel
theorem dX5_init_0 : decode cX5_init 0 = .ok (.aload_n 0, 1) := by decide +kernel
theorem dX5_init_1 : decode cX5_init 1 = .ok (.invokespecial 3, 3) := by decide +kernel
theorem dX5_init_4 : decode cX5_init 4 = .ok (.aload_n 0, 1) := by decide +kernel
theorem dX5_init_5 : decode cX5_init 5 = .ok (.bipush 40, 2) := by decide +kernel
theorem dX5_init_7 : decode cX5_init 7 = .ok (.newarray .int, 2) := by decide +kernel
theorem dX5_init_9 : decode cX5_init 9 = .ok (.putfield 9, 3) := by decide +kernel
theorem dX5_init_12 : decode cX5_init 12 = .ok (.aload_n 0, 1) := by decide +kernel
theorem dX5_init_13 : decode cX5_init 13 = .ok (.iconst (-1), 1) := by decide +kernel
theorem dX5_init_14 : decode cX5_init 14 = .ok (.putfield 15, 3) := by decide +kernel
theorem dX5_init_17 : decode cX5_init 17 = .ok (.aload_n 0, 1) := by decide +kernel
theorem dX5_init_18 : decode cX5_init 18 = .ok (.iconst 0, 1) := by decide +kernel
theorem dX5_init_19 : decode cX5_init 19 = .ok (.putfield 19, 3) := by decide +kernel
theorem dX5_init_22 : decode cX5_init 22 = .ok (.return_, 1) := by decide +kernel
theorem dX5_isMissing_0 : decode cX5_isMissing 0 = .ok (.aload_n 0, 1) := by decide +kernel
theorem dX5_isMissing_1 : decode cX5_isMissing 1 = .ok (.getfield 15, 3) := by decide +kernel
theorem dX5_isMissing_4 : decode cX5_isMissing 4 = .ok (.iconst (-1), 1) := by decide +kernel
theorem dX5_isMissing_5 : decode cX5_isMissing 5 = .ok (.if_icmp .ne 7, 3) := by decide +kernel
theorem dX5_isMissing_8 : decode cX5_isMissing 8 = .ok (.iconst 1, 1) := by decide +kernel
theorem dX5_isMissing_9 : decode cX5_isMissing 9 = .ok (.goto 4, 3) := by decide +kernel
theorem dX5_isMissing_12 : decode cX5_isMissing 12 = .ok (.iconst 0, 1) := by decide +kernel
theorem dX5_isMissing_13 : decode cX5_isMissing 13 = .ok (.ireturn, 1) := by decide +kernel
theorem dX5_clear_0 : decode cX5_clear 0 = .ok (.aload_n 0, 1) := by decide +kernel
theorem dX5_clear_1 : decode cX5_clear 1 = .ok (.iload_n 1, 1) := by decide +kernel
theorem dX5_clear_2 : decode cX5_clear 2 = .ok (.putfield 15, 3) := by decide +kernel
theorem dX5_clear_5 : decode cX5_clear 5 = .ok (.aload_n 0, 1) := by decide +kernel
theorem dX5_clear_6 : decode cX5_clear 6 = .ok (.iload_n 2, 1) := by decide +kernel
theorem dX5_clear_7 : decode cX5_clear 7 = .ok (.putfield 19, 3) := by decide +kernel
theorem dX5_clear_10 : decode cX5_clear 10 = .ok (.iconst 0, 1) := by decide +kernel
theorem dX5_clear_11 : decode cX5_clear 11 = .ok (.istore_n 3, 1) := by decide +kernel
theorem dX5_clear_12 : decode cX5_clear 12 = .ok (.iload_n 3, 1) := by decide +kernel
theorem dX5_clear_13 : decode cX5_clear 13 = .ok (.bipush 40, 2) := by decide +kernel
theorem dX5_clear_15 : decode cX5_clear 15 = .ok (.if_icmp .ge 16, 3) := by decide +kernel
theorem dX5_clear_18 : decode cX5_clear 18 = .ok (.aload_n 0, 1) := by decide +kernel
theorem dX5_clear_19 : decode cX5_clear 19 = .ok (.getfield 9, 3) := by decide +kernel
theorem dX5_clear_22 : decode cX5_clear 22 = .ok (.iload_n 3, 1) := by decide +kernel
theorem dX5_clear_23 : decode cX5_clear 23 = .ok (.iconst 0, 1) := by decide +kernel
theorem dX5_clear_24 : decode cX5_clear 24 = .ok (.iastore, 1) := by decide +kernel
theorem dX5_clear_25 : decode cX5_clear 25 = .ok (.iinc 3 1, 3) := by decide +kernel
theorem dX5_clear_28 : decode cX5_clear 28 = .ok (.goto (-16), 3) := by decide +kernel
theorem dX5_clear_31 : decode cX5_clear 31 = .ok (.return_, 1) := by decide +kernel
theorem dX5_holds_0 : decode cX5_holds 0 = .ok (.iload_n 1, 1) := by decide +kernel
theorem dX5_holds_1 : decode cX5_holds 1 = .ok (.ifCond .lt 21, 3) := by decide +kernel
theorem dX5_holds_4 : decode cX5_holds 4 = .ok (.iload_n 2, 1) := by decide +kernel
theorem dX5_holds_5 : decode cX5_holds 5 = .ok (.ifCond .lt 17, 3) := by decide +kernel
theorem dX5_holds_8 : decode cX5_holds 8 = .ok (.iload_n 1, 1) := by decide +kernel
theorem dX5_holds_9 : decode cX5_holds 9 = .ok (.aload_n 0, 1) := by decide +kernel
theorem dX5_holds_10 : decode cX5_holds 10 = .ok (.getfield 19, 3) := by decide +kernel
theorem dX5_holds_13 : decode cX5_holds 13 = .ok (.iload_n 2, 1) := by decide +kernel
theorem dX5_holds_14 : decode cX5_holds 14 = .ok (.isub, 1) := by decide +kernel
theorem dX5_holds_15 : decode cX5_holds 15 = .ok (.if_icmp .gt 7, 3) := by decide +kernel
theorem dX5_holds_18 : decode cX5_holds 18 = .ok (.iconst 1, 1) := by decide +kernel
theorem dX5_holds_19 : decode cX5_holds 19 = .ok (.goto 4, 3) := by decide +kernel
theorem dX5_holds_22 : decode cX5_holds 22 = .ok (.iconst 0, 1) := by decide +kernel
theorem dX5_holds_23 : decode cX5_holds 23 = .ok (.ireturn, 1) := by decide +kernel
theorem dX5_narrowed_0 : decode cX5_narrowed 0 = .ok (.aload_n 0, 1) := by decide +kernel
theorem dX5_narrowed_1 : decode cX5_narrowed 1 = .ok (.getfield 15, 3) := by decide +kernel
theorem dX5_narrowed_4 : decode cX5_narrowed 4 = .ok (.ifCond .ne 6, 3) := by decide +kernel
theorem dX5_narrowed_7 : decode cX5_narrowed 7 = .ok (.iload_n 1, 1) := by decide +kernel
theorem dX5_narrowed_8 : decode cX5_narrowed 8 = .ok (.i2b, 1) := by decide +kernel
theorem dX5_narrowed_9 : decode cX5_narrowed 9 = .ok (.ireturn, 1) := by decide +kernel
theorem dX5_narrowed_10 : decode cX5_narrowed 10 = .ok (.aload_n 0, 1) := by decide +kernel
theorem dX5_narrowed_11 : decode cX5_narrowed 11 = .ok (.getfield 15, 3) := by decide +kernel
theorem dX5_narrowed_14 : decode cX5_narrowed 14 = .ok (.iconst 1, 1) := by decide +kernel
theorem dX5_narrowed_15 : decode cX5_narrowed 15 = .ok (.if_icmp .ne 8, 3) := by decide +kernel
theorem dX5_narrowed_18 : decode cX5_narrowed 18 = .ok (.iload_n 1, 1) := by decide +kernel
theorem dX5_narrowed_19 : decode cX5_narrowed 19 = .ok (.i2s, 1) := by decide +kernel
theorem dX5_narrowed_20 : decode cX5_narrowed 20 = .ok (.goto 4, 3) := by decide +kernel
theorem dX5_narrowed_23 : decode cX5_narrowed 23 = .ok (.iload_n 1, 1) := by decide +kernel
theorem dX5_narrowed_24 : decode cX5_narrowed 24 = .ok (.ireturn, 1) := by decide +kernel
theorem dX6_carried_0 : decode cX6_carried 0 = .ok (.iload_n 2, 1) := by decide +kernel
theorem dX6_carried_1 : decode cX6_carried 1 = .ok (.iconst 2, 1) := by decide +kernel
theorem dX6_carried_2 : decode cX6_carried 2 = .ok (.idiv, 1) := by decide +kernel
theorem dX6_carried_3 : decode cX6_carried 3 = .ok (.istore_n 3, 1) := by decide +kernel
theorem dX6_carried_4 : decode cX6_carried 4 = .ok (.iload_n 0, 1) := by decide +kernel
theorem dX6_carried_5 : decode cX6_carried 5 = .ok (.iload_n 3, 1) := by decide +kernel
theorem dX6_carried_6 : decode cX6_carried 6 = .ok (.if_icmp .ge 11, 3) := by decide +kernel
theorem dX6_carried_9 : decode cX6_carried 9 = .ok (.iconst 2, 1) := by decide +kernel
theorem dX6_carried_10 : decode cX6_carried 10 = .ok (.iload_n 0, 1) := by decide +kernel
theorem dX6_carried_11 : decode cX6_carried 11 = .ok (.imul, 1) := by decide +kernel
theorem dX6_carried_12 : decode cX6_carried 12 = .ok (.iload_n 1, 1) := by decide +kernel
theorem dX6_carried_13 : decode cX6_carried 13 = .ok (.iadd, 1) := by decide +kernel
theorem dX6_carried_14 : decode cX6_carried 14 = .ok (.goto 12, 3) := by decide +kernel
theorem dX6_carried_17 : decode cX6_carried 17 = .ok (.iconst 2, 1) := by decide +kernel
theorem dX6_carried_18 : decode cX6_carried 18 = .ok (.iload_n 0, 1) := by decide +kernel
theorem dX6_carried_19 : decode cX6_carried 19 = .ok (.iload_n 3, 1) := by decide +kernel
theorem dX6_carried_20 : decode cX6_carried 20 = .ok (.isub, 1) := by decide +kernel
theorem dX6_carried_21 : decode cX6_carried 21 = .ok (.imul, 1) := by decide +kernel
theorem dX6_carried_22 : decode cX6_carried 22 = .ok (.iconst 1, 1) := by decide +kernel
theorem dX6_carried_23 : decode cX6_carried 23 = .ok (.iadd, 1) := by decide +kernel
theorem dX6_carried_24 : decode cX6_carried 24 = .ok (.iload_n 1, 1) := by decide +kernel
theorem dX6_carried_25 : decode cX6_carried 25 = .ok (.isub, 1) := by decide +kernel
theorem dX6_carried_26 : decode cX6_carried 26 = .ok (.ireturn, 1) := by decide +kernel
theorem dX6_shortest_0 : decode cX6_shortest 0 = .ok (.iconst 1, 1) := by decide +kernel
theorem dX6_shortest_1 : decode cX6_shortest 1 = .ok (.istore_n 3, 1) := by decide +kernel
theorem dX6_shortest_2 : decode cX6_shortest 2 = .ok (.iload_n 3, 1) := by decide +kernel
theorem dX6_shortest_3 : decode cX6_shortest 3 = .ok (.bipush 32, 2) := by decide +kernel
theorem dX6_shortest_5 : decode cX6_shortest 5 = .ok (.if_icmp .ge 21, 3) := by decide +kernel
theorem dX6_shortest_8 : decode cX6_shortest 8 = .ok (.iload_n 0, 1) := by decide +kernel
theorem dX6_shortest_9 : decode cX6_shortest 9 = .ok (.iload_n 3, 1) := by decide +kernel
theorem dX6_shortest_10 : decode cX6_shortest 10 = .ok (.iload_n 2, 1) := by decide +kernel
theorem dX6_shortest_11 : decode cX6_shortest 11 = .ok (.invokestatic 9, 3) := by decide +kernel
theorem dX6_shortest_14 : decode cX6_shortest 14 = .ok (.iload_n 1, 1) := by decide +kernel
theorem dX6_shortest_15 : decode cX6_shortest 15 = .ok (.if_icmp .ne 5, 3) := by decide +kernel
theorem dX6_shortest_18 : decode cX6_shortest 18 = .ok (.iload_n 3, 1) := by decide +kernel
theorem dX6_shortest_19 : decode cX6_shortest 19 = .ok (.ireturn, 1) := by decide +kernel
theorem dX6_shortest_20 : decode cX6_shortest 20 = .ok (.iinc 3 1, 3) := by decide +kernel
theorem dX6_shortest_23 : decode cX6_shortest 23 = .ok (.goto (-21), 3) := by decide +kernel
theorem dX6_shortest_26 : decode cX6_shortest 26 = .ok (.iconst 1, 1) := by decide +kernel
theorem dX6_shortest_27 : decode cX6_shortest 27 = .ok (.ireturn, 1) := by decide +kernel
theorem dX6_end_0 : decode cX6_end 0 = .ok (.iload_n 0, 1) := by decide +kernel
theorem dX6_end_1 : decode cX6_end 1 = .ok (.istore_n 3, 1) := by decide +kernel
theorem dX6_end_2 : decode cX6_end 2 = .ok (.iload_n 1, 1) := by decide +kernel
theorem dX6_end_3 : decode cX6_end 3 = .ok (.invokestatic 15, 3) := by decide +kernel
theorem dX6_end_6 : decode cX6_end 6 = .ok (.iconst 1, 1) := by decide +kernel
theorem dX6_end_7 : decode cX6_end 7 = .ok (.isub, 1) := by decide +kernel
theorem dX6_end_8 : decode cX6_end 8 = .ok (.istore 4, 2) := by decide +kernel
theorem dX6_end_10 : decode cX6_end 10 = .ok (.iload 4, 2) := by decide +kernel
theorem dX6_end_12 : decode cX6_end 12 = .ok (.ifCond .lt 21, 3) := by decide +kernel
theorem dX6_end_15 : decode cX6_end 15 = .ok (.iload_n 3, 1) := by decide +kernel
theorem dX6_end_16 : decode cX6_end 16 = .ok (.iload_n 1, 1) := by decide +kernel
theorem dX6_end_17 : decode cX6_end 17 = .ok (.iload 4, 2) := by decide +kernel
theorem dX6_end_19 : decode cX6_end 19 = .ok (.ishr, 1) := by decide +kernel
theorem dX6_end_20 : decode cX6_end 20 = .ok (.iconst 1, 1) := by decide +kernel
theorem dX6_end_21 : decode cX6_end 21 = .ok (.iand, 1) := by decide +kernel
theorem dX6_end_22 : decode cX6_end 22 = .ok (.iload_n 2, 1) := by decide +kernel
theorem dX6_end_23 : decode cX6_end 23 = .ok (.invokestatic 19, 3) := by decide +kernel
theorem dX6_end_26 : decode cX6_end 26 = .ok (.istore_n 3, 1) := by decide +kernel
theorem dX6_end_27 : decode cX6_end 27 = .ok (.iinc 4 (-1), 3) := by decide +kernel
theorem dX6_end_30 : decode cX6_end 30 = .ok (.goto (-20), 3) := by decide +kernel
theorem dX6_end_33 : decode cX6_end 33 = .ok (.iload_n 3, 1) := by decide +kernel
theorem dX6_end_34 : decode cX6_end 34 = .ok (.ireturn, 1) := by decide +kernel
theorem dX6_lengthOf_0 : decode cX6_lengthOf 0 = .ok (.bipush 31, 2) := by decide +kernel
theorem dX6_lengthOf_2 : decode cX6_lengthOf 2 = .ok (.iload_n 0, 1) := by decide +kernel
theorem dX6_lengthOf_3 : decode cX6_lengthOf 3 = .ok (.invokestatic 22, 3) := by decide +kernel
theorem dX6_lengthOf_6 : decode cX6_lengthOf 6 = .ok (.isub, 1) := by decide +kernel
theorem dX6_lengthOf_7 : decode cX6_lengthOf 7 = .ok (.ireturn, 1) := by decide +kernel
theorem dJ6_numberOfLeadingZeros_0f7a4_0 : decode cJ6_numberOfLeadingZeros_0f7a4 0 = .ok (.iload_n 0, 1) := by decide +kernel
theorem dJ6_numberOfLeadingZeros_0f7a4_1 : decode cJ6_numberOfLeadingZeros_0f7a4 1 = .ok (.ifCond .gt 14, 3) := by decide +kernel
theorem dJ6_numberOfLeadingZeros_0f7a4_4 : decode cJ6_numberOfLeadingZeros_0f7a4 4 = .ok (.iload_n 0, 1) := by decide +kernel
theorem dJ6_numberOfLeadingZeros_0f7a4_5 : decode cJ6_numberOfLeadingZeros_0f7a4 5 = .ok (.ifCond .ne 8, 3) := by decide +kernel
theorem dJ6_numberOfLeadingZeros_0f7a4_8 : decode cJ6_numberOfLeadingZeros_0f7a4 8 = .ok (.bipush 32, 2) := by decide +kernel
theorem dJ6_numberOfLeadingZeros_0f7a4_10 : decode cJ6_numberOfLeadingZeros_0f7a4 10 = .ok (.goto 4, 3) := by decide +kernel
theorem dJ6_numberOfLeadingZeros_0f7a4_13 : decode cJ6_numberOfLeadingZeros_0f7a4 13 = .ok (.iconst 0, 1) := by decide +kernel
theorem dJ6_numberOfLeadingZeros_0f7a4_14 : decode cJ6_numberOfLeadingZeros_0f7a4 14 = .ok (.ireturn, 1) := by decide +kernel
theorem dJ6_numberOfLeadingZeros_0f7a4_15 : decode cJ6_numberOfLeadingZeros_0f7a4 15 = .ok (.bipush 31, 2) := by decide +kernel
theorem dJ6_numberOfLeadingZeros_0f7a4_17 : decode cJ6_numberOfLeadingZeros_0f7a4 17 = .ok (.istore_n 1, 1) := by decide +kernel
theorem dJ6_numberOfLeadingZeros_0f7a4_18 : decode cJ6_numberOfLeadingZeros_0f7a4 18 = .ok (.iload_n 0, 1) := by decide +kernel
theorem dJ6_numberOfLeadingZeros_0f7a4_19 : decode cJ6_numberOfLeadingZeros_0f7a4 19 = .ok (.ldc_w 264, 3) := by decide +kernel
theorem dJ6_numberOfLeadingZeros_0f7a4_22 : decode cJ6_numberOfLeadingZeros_0f7a4 22 = .ok (.if_icmp .lt 11, 3) := by decide +kernel
theorem dJ6_numberOfLeadingZeros_0f7a4_25 : decode cJ6_numberOfLeadingZeros_0f7a4 25 = .ok (.iinc 1 (-16), 3) := by decide +kernel
theorem dJ6_numberOfLeadingZeros_0f7a4_28 : decode cJ6_numberOfLeadingZeros_0f7a4 28 = .ok (.iload_n 0, 1) := by decide +kernel
theorem dJ6_numberOfLeadingZeros_0f7a4_29 : decode cJ6_numberOfLeadingZeros_0f7a4 29 = .ok (.bipush 16, 2) := by decide +kernel
theorem dJ6_numberOfLeadingZeros_0f7a4_31 : decode cJ6_numberOfLeadingZeros_0f7a4 31 = .ok (.iushr, 1) := by decide +kernel
theorem dJ6_numberOfLeadingZeros_0f7a4_32 : decode cJ6_numberOfLeadingZeros_0f7a4 32 = .ok (.istore_n 0, 1) := by decide +kernel
theorem dJ6_numberOfLeadingZeros_0f7a4_33 : decode cJ6_numberOfLeadingZeros_0f7a4 33 = .ok (.iload_n 0, 1) := by decide +kernel
theorem dJ6_numberOfLeadingZeros_0f7a4_34 : decode cJ6_numberOfLeadingZeros_0f7a4 34 = .ok (.sipush 256, 3) := by decide +kernel
theorem dJ6_numberOfLeadingZeros_0f7a4_37 : decode cJ6_numberOfLeadingZeros_0f7a4 37 = .ok (.if_icmp .lt 11, 3) := by decide +kernel
theorem dJ6_numberOfLeadingZeros_0f7a4_40 : decode cJ6_numberOfLeadingZeros_0f7a4 40 = .ok (.iinc 1 (-8), 3) := by decide +kernel
theorem dJ6_numberOfLeadingZeros_0f7a4_43 : decode cJ6_numberOfLeadingZeros_0f7a4 43 = .ok (.iload_n 0, 1) := by decide +kernel
theorem dJ6_numberOfLeadingZeros_0f7a4_44 : decode cJ6_numberOfLeadingZeros_0f7a4 44 = .ok (.bipush 8, 2) := by decide +kernel
theorem dJ6_numberOfLeadingZeros_0f7a4_46 : decode cJ6_numberOfLeadingZeros_0f7a4 46 = .ok (.iushr, 1) := by decide +kernel
theorem dJ6_numberOfLeadingZeros_0f7a4_47 : decode cJ6_numberOfLeadingZeros_0f7a4 47 = .ok (.istore_n 0, 1) := by decide +kernel
theorem dJ6_numberOfLeadingZeros_0f7a4_48 : decode cJ6_numberOfLeadingZeros_0f7a4 48 = .ok (.iload_n 0, 1) := by decide +kernel
theorem dJ6_numberOfLeadingZeros_0f7a4_49 : decode cJ6_numberOfLeadingZeros_0f7a4 49 = .ok (.bipush 16, 2) := by decide +kernel
theorem dJ6_numberOfLeadingZeros_0f7a4_51 : decode cJ6_numberOfLeadingZeros_0f7a4 51 = .ok (.if_icmp .lt 10, 3) := by decide +kernel
theorem dJ6_numberOfLeadingZeros_0f7a4_54 : decode cJ6_numberOfLeadingZeros_0f7a4 54 = .ok (.iinc 1 (-4), 3) := by decide +kernel
theorem dJ6_numberOfLeadingZeros_0f7a4_57 : decode cJ6_numberOfLeadingZeros_0f7a4 57 = .ok (.iload_n 0, 1) := by decide +kernel
theorem dJ6_numberOfLeadingZeros_0f7a4_58 : decode cJ6_numberOfLeadingZeros_0f7a4 58 = .ok (.iconst 4, 1) := by decide +kernel
theorem dJ6_numberOfLeadingZeros_0f7a4_59 : decode cJ6_numberOfLeadingZeros_0f7a4 59 = .ok (.iushr, 1) := by decide +kernel
theorem dJ6_numberOfLeadingZeros_0f7a4_60 : decode cJ6_numberOfLeadingZeros_0f7a4 60 = .ok (.istore_n 0, 1) := by decide +kernel
theorem dJ6_numberOfLeadingZeros_0f7a4_61 : decode cJ6_numberOfLeadingZeros_0f7a4 61 = .ok (.iload_n 0, 1) := by decide +kernel
theorem dJ6_numberOfLeadingZeros_0f7a4_62 : decode cJ6_numberOfLeadingZeros_0f7a4 62 = .ok (.iconst 4, 1) := by decide +kernel
theorem dJ6_numberOfLeadingZeros_0f7a4_63 : decode cJ6_numberOfLeadingZeros_0f7a4 63 = .ok (.if_icmp .lt 10, 3) := by decide +kernel
theorem dJ6_numberOfLeadingZeros_0f7a4_66 : decode cJ6_numberOfLeadingZeros_0f7a4 66 = .ok (.iinc 1 (-2), 3) := by decide +kernel
theorem dJ6_numberOfLeadingZeros_0f7a4_69 : decode cJ6_numberOfLeadingZeros_0f7a4 69 = .ok (.iload_n 0, 1) := by decide +kernel
theorem dJ6_numberOfLeadingZeros_0f7a4_70 : decode cJ6_numberOfLeadingZeros_0f7a4 70 = .ok (.iconst 2, 1) := by decide +kernel
theorem dJ6_numberOfLeadingZeros_0f7a4_71 : decode cJ6_numberOfLeadingZeros_0f7a4 71 = .ok (.iushr, 1) := by decide +kernel
theorem dJ6_numberOfLeadingZeros_0f7a4_72 : decode cJ6_numberOfLeadingZeros_0f7a4 72 = .ok (.istore_n 0, 1) := by decide +kernel
theorem dJ6_numberOfLeadingZeros_0f7a4_73 : decode cJ6_numberOfLeadingZeros_0f7a4 73 = .ok (.iload_n 1, 1) := by decide +kernel
theorem dJ6_numberOfLeadingZeros_0f7a4_74 : decode cJ6_numberOfLeadingZeros_0f7a4 74 = .ok (.iload_n 0, 1) := by decide +kernel
theorem dJ6_numberOfLeadingZeros_0f7a4_75 : decode cJ6_numberOfLeadingZeros_0f7a4 75 = .ok (.iconst 1, 1) := by decide +kernel
theorem dJ6_numberOfLeadingZeros_0f7a4_76 : decode cJ6_numberOfLeadingZeros_0f7a4 76 = .ok (.iushr, 1) := by decide +kernel
theorem dJ6_numberOfLeadingZeros_0f7a4_77 : decode cJ6_numberOfLeadingZeros_0f7a4 77 = .ok (.isub, 1) := by decide +kernel
theorem dJ6_numberOfLeadingZeros_0f7a4_78 : decode cJ6_numberOfLeadingZeros_0f7a4 78 = .ok (.ireturn, 1) := by decide +kernel
theorem dJ9_abs_067f4_0 : decode cJ9_abs_067f4 0 = .ok (.lload_n 0, 1) := by decide +kernel
theorem dJ9_abs_067f4_1 : decode cJ9_abs_067f4 1 = .ok (.lconst 0, 1) := by decide +kernel
theorem dJ9_abs_067f4_2 : decode cJ9_abs_067f4 2 = .ok (.lcmp, 1) := by decide +kernel
theorem dJ9_abs_067f4_3 : decode cJ9_abs_067f4 3 = .ok (.ifCond .ge 8, 3) := by decide +kernel
theorem dJ9_abs_067f4_6 : decode cJ9_abs_067f4 6 = .ok (.lload_n 0, 1) := by decide +kernel
theorem dJ9_abs_067f4_7 : decode cJ9_abs_067f4 7 = .ok (.lneg, 1) := by decide +kernel
theorem dJ9_abs_067f4_8 : decode cJ9_abs_067f4 8 = .ok (.goto 4, 3) := by decide +kernel
theorem dJ9_abs_067f4_11 : decode cJ9_abs_067f4 11 = .ok (.lload_n 0, 1) := by decide +kernel
theorem dJ9_abs_067f4_12 : decode cJ9_abs_067f4 12 = .ok (.lreturn, 1) := by decide +kernel
theorem dJ9_max_7cf53_0 : decode cJ9_max_7cf53 0 = .ok (.iload_n 0, 1) := by decide +kernel
theorem dJ9_max_7cf53_1 : decode cJ9_max_7cf53 1 = .ok (.iload_n 1, 1) := by decide +kernel
theorem dJ9_max_7cf53_2 : decode cJ9_max_7cf53 2 = .ok (.if_icmp .lt 7, 3) := by decide +kernel
theorem dJ9_max_7cf53_5 : decode cJ9_max_7cf53 5 = .ok (.iload_n 0, 1) := by decide +kernel
theorem dJ9_max_7cf53_6 : decode cJ9_max_7cf53 6 = .ok (.goto 4, 3) := by decide +kernel
theorem dJ9_max_7cf53_9 : decode cJ9_max_7cf53 9 = .ok (.iload_n 1, 1) := by decide +kernel
theorem dJ9_max_7cf53_10 : decode cJ9_max_7cf53 10 = .ok (.ireturn, 1) := by decide +kernel
theorem dJ9_max_f86c9_0 : decode cJ9_max_f86c9 0 = .ok (.lload_n 0, 1) := by decide +kernel
theorem dJ9_max_f86c9_1 : decode cJ9_max_f86c9 1 = .ok (.lload_n 2, 1) := by decide +kernel
theorem dJ9_max_f86c9_2 : decode cJ9_max_f86c9 2 = .ok (.lcmp, 1) := by decide +kernel
theorem dJ9_max_f86c9_3 : decode cJ9_max_f86c9 3 = .ok (.ifCond .lt 7, 3) := by decide +kernel
theorem dJ9_max_f86c9_6 : decode cJ9_max_f86c9 6 = .ok (.lload_n 0, 1) := by decide +kernel
theorem dJ9_max_f86c9_7 : decode cJ9_max_f86c9 7 = .ok (.goto 4, 3) := by decide +kernel
theorem dJ9_max_f86c9_10 : decode cJ9_max_f86c9 10 = .ok (.lload_n 2, 1) := by decide +kernel
theorem dJ9_max_f86c9_11 : decode cJ9_max_f86c9 11 = .ok (.lreturn, 1) := by decide +kernel
theorem dJ9_min_7cf53_0 : decode cJ9_min_7cf53 0 = .ok (.iload_n 0, 1) := by decide +kernel
theorem dJ9_min_7cf53_1 : decode cJ9_min_7cf53 1 = .ok (.iload_n 1, 1) := by decide +kernel
theorem dJ9_min_7cf53_2 : decode cJ9_min_7cf53 2 = .ok (.if_icmp .gt 7, 3) := by decide +kernel
theorem dJ9_min_7cf53_5 : decode cJ9_min_7cf53 5 = .ok (.iload_n 0, 1) := by decide +kernel
theorem dJ9_min_7cf53_6 : decode cJ9_min_7cf53 6 = .ok (.goto 4, 3) := by decide +kernel
theorem dJ9_min_7cf53_9 : decode cJ9_min_7cf53 9 = .ok (.iload_n 1, 1) := by decide +kernel
theorem dJ9_min_7cf53_10 : decode cJ9_min_7cf53 10 = .ok (.ireturn, 1) := by decide +kernel
end
section
theorem dX7_init_0 : decode cX7_init 0 = .ok (.aload_n 0, 1) := by decide +kernel
theorem dX7_init_1 : decode cX7_init 1 = .ok (.invokespecial 1, 3) := by decide +kernel
theorem dX7_init_4 : decode cX7_init 4 = .ok (.aload_n 0, 1) := by decide +kernel
theorem dX7_init_5 : decode cX7_init 5 = .ok (.bipush 12, 2) := by decide +kernel
theorem dX7_init_7 : decode cX7_init 7 = .ok (.bipush 10, 2) := by decide +kernel
theorem dX7_init_9 : decode cX7_init 9 = .ok (.multianewarray 9 2, 4) := by decide +kernel
theorem dX7_init_13 : decode cX7_init 13 = .ok (.putfield 11, 3) := by decide +kernel
theorem dX7_init_16 : decode cX7_init 16 = .ok (.aload_n 0, 1) := by decide +kernel
theorem dX7_init_17 : decode cX7_init 17 = .ok (.bipush 10, 2) := by decide +kernel
theorem dX7_init_19 : decode cX7_init 19 = .ok (.anewarray 14, 3) := by decide +kernel
theorem dX7_init_22 : decode cX7_init 22 = .ok (.putfield 16, 3) := by decide +kernel
theorem dX7_init_25 : decode cX7_init 25 = .ok (.aload_n 0, 1) := by decide +kernel
theorem dX7_init_26 : decode cX7_init 26 = .ok (.iconst 4, 1) := by decide +kernel
theorem dX7_init_27 : decode cX7_init 27 = .ok (.anewarray 20, 3) := by decide +kernel
theorem dX7_init_30 : decode cX7_init 30 = .ok (.putfield 22, 3) := by decide +kernel
theorem dX7_init_33 : decode cX7_init 33 = .ok (.aload_n 0, 1) := by decide +kernel
theorem dX7_init_34 : decode cX7_init 34 = .ok (.new 26, 3) := by decide +kernel
theorem dX7_init_37 : decode cX7_init 37 = .ok (.dup, 1) := by decide +kernel
theorem dX7_init_38 : decode cX7_init 38 = .ok (.invokespecial 28, 3) := by decide +kernel
theorem dX7_init_41 : decode cX7_init 41 = .ok (.putfield 29, 3) := by decide +kernel
theorem dX7_init_44 : decode cX7_init 44 = .ok (.aload_n 0, 1) := by decide +kernel
theorem dX7_init_45 : decode cX7_init 45 = .ok (.iconst 4, 1) := by decide +kernel
theorem dX7_init_46 : decode cX7_init 46 = .ok (.putfield 33, 3) := by decide +kernel
theorem dX7_init_49 : decode cX7_init 49 = .ok (.aload_n 0, 1) := by decide +kernel
theorem dX7_init_50 : decode cX7_init 50 = .ok (.iconst 0, 1) := by decide +kernel
theorem dX7_init_51 : decode cX7_init 51 = .ok (.putfield 37, 3) := by decide +kernel
theorem dX7_init_54 : decode cX7_init 54 = .ok (.aload_n 0, 1) := by decide +kernel
theorem dX7_init_55 : decode cX7_init 55 = .ok (.iconst 0, 1) := by decide +kernel
theorem dX7_init_56 : decode cX7_init 56 = .ok (.putfield 40, 3) := by decide +kernel
theorem dX7_init_59 : decode cX7_init 59 = .ok (.aload_n 0, 1) := by decide +kernel
theorem dX7_init_60 : decode cX7_init 60 = .ok (.iconst 0, 1) := by decide +kernel
theorem dX7_init_61 : decode cX7_init 61 = .ok (.putfield 43, 3) := by decide +kernel
theorem dX7_init_64 : decode cX7_init 64 = .ok (.aload_n 0, 1) := by decide +kernel
theorem dX7_init_65 : decode cX7_init 65 = .ok (.bipush 10, 2) := by decide +kernel
theorem dX7_init_67 : decode cX7_init 67 = .ok (.newarray .int, 2) := by decide +kernel
theorem dX7_init_69 : decode cX7_init 69 = .ok (.putfield 46, 3) := by decide +kernel
theorem dX7_init_72 : decode cX7_init 72 = .ok (.aload_n 0, 1) := by decide +kernel
theorem dX7_init_73 : decode cX7_init 73 = .ok (.bipush 10, 2) := by decide +kernel
theorem dX7_init_75 : decode cX7_init 75 = .ok (.newarray .int, 2) := by decide +kernel
theorem dX7_init_77 : decode cX7_init 77 = .ok (.putfield 50, 3) := by decide +kernel
theorem dX7_init_80 : decode cX7_init 80 = .ok (.aload_n 0, 1) := by decide +kernel
theorem dX7_init_81 : decode cX7_init 81 = .ok (.bipush 10, 2) := by decide +kernel
theorem dX7_init_83 : decode cX7_init 83 = .ok (.newarray .int, 2) := by decide +kernel
theorem dX7_init_85 : decode cX7_init 85 = .ok (.putfield 53, 3) := by decide +kernel
theorem dX7_init_88 : decode cX7_init 88 = .ok (.aload_n 0, 1) := by decide +kernel
theorem dX7_init_89 : decode cX7_init 89 = .ok (.bipush 10, 2) := by decide +kernel
theorem dX7_init_91 : decode cX7_init 91 = .ok (.newarray .int, 2) := by decide +kernel
theorem dX7_init_93 : decode cX7_init 93 = .ok (.putfield 56, 3) := by decide +kernel
theorem dX7_init_96 : decode cX7_init 96 = .ok (.aload_n 0, 1) := by decide +kernel
theorem dX7_init_97 : decode cX7_init 97 = .ok (.bipush 10, 2) := by decide +kernel
theorem dX7_init_99 : decode cX7_init 99 = .ok (.newarray .long, 2) := by decide +kernel
theorem dX7_init_101 : decode cX7_init 101 = .ok (.putfield 59, 3) := by decide +kernel
theorem dX7_init_104 : decode cX7_init 104 = .ok (.aload_n 0, 1) := by decide +kernel
theorem dX7_init_105 : decode cX7_init 105 = .ok (.bipush 11, 2) := by decide +kernel
theorem dX7_init_107 : decode cX7_init 107 = .ok (.newarray .long, 2) := by decide +kernel
theorem dX7_init_109 : decode cX7_init 109 = .ok (.putfield 63, 3) := by decide +kernel
theorem dX7_init_112 : decode cX7_init 112 = .ok (.iconst 0, 1) := by decide +kernel
theorem dX7_init_113 : decode cX7_init 113 = .ok (.istore_n 1, 1) := by decide +kernel
theorem dX7_init_114 : decode cX7_init 114 = .ok (.iload_n 1, 1) := by decide +kernel
theorem dX7_init_115 : decode cX7_init 115 = .ok (.bipush 10, 2) := by decide +kernel
theorem dX7_init_117 : decode cX7_init 117 = .ok (.if_icmp .ge 22, 3) := by decide +kernel
theorem dX7_init_120 : decode cX7_init 120 = .ok (.aload_n 0, 1) := by decide +kernel
theorem dX7_init_121 : decode cX7_init 121 = .ok (.getfield 16, 3) := by decide +kernel
theorem dX7_init_124 : decode cX7_init 124 = .ok (.iload_n 1, 1) := by decide +kernel
theorem dX7_init_125 : decode cX7_init 125 = .ok (.new 14, 3) := by decide +kernel
theorem dX7_init_128 : decode cX7_init 128 = .ok (.dup, 1) := by decide +kernel
theorem dX7_init_129 : decode cX7_init 129 = .ok (.invokespecial 66, 3) := by decide +kernel
theorem dX7_init_132 : decode cX7_init 132 = .ok (.aastore, 1) := by decide +kernel
theorem dX7_init_133 : decode cX7_init 133 = .ok (.iinc 1 1, 3) := by decide +kernel
theorem dX7_init_136 : decode cX7_init 136 = .ok (.goto (-22), 3) := by decide +kernel
theorem dX7_init_139 : decode cX7_init 139 = .ok (.iconst 0, 1) := by decide +kernel
theorem dX7_init_140 : decode cX7_init 140 = .ok (.istore_n 1, 1) := by decide +kernel
theorem dX7_init_141 : decode cX7_init 141 = .ok (.iload_n 1, 1) := by decide +kernel
theorem dX7_init_142 : decode cX7_init 142 = .ok (.iconst 4, 1) := by decide +kernel
theorem dX7_init_143 : decode cX7_init 143 = .ok (.if_icmp .ge 22, 3) := by decide +kernel
theorem dX7_init_146 : decode cX7_init 146 = .ok (.aload_n 0, 1) := by decide +kernel
theorem dX7_init_147 : decode cX7_init 147 = .ok (.getfield 22, 3) := by decide +kernel
theorem dX7_init_150 : decode cX7_init 150 = .ok (.iload_n 1, 1) := by decide +kernel
theorem dX7_init_151 : decode cX7_init 151 = .ok (.new 20, 3) := by decide +kernel
theorem dX7_init_154 : decode cX7_init 154 = .ok (.dup, 1) := by decide +kernel
theorem dX7_init_155 : decode cX7_init 155 = .ok (.invokespecial 67, 3) := by decide +kernel
theorem dX7_init_158 : decode cX7_init 158 = .ok (.aastore, 1) := by decide +kernel
theorem dX7_init_159 : decode cX7_init 159 = .ok (.iinc 1 1, 3) := by decide +kernel
theorem dX7_init_162 : decode cX7_init 162 = .ok (.goto (-21), 3) := by decide +kernel
theorem dX7_init_165 : decode cX7_init 165 = .ok (.return_, 1) := by decide +kernel
theorem dX7_begin_0 : decode cX7_begin 0 = .ok (.iload_n 1, 1) := by decide +kernel
theorem dX7_begin_1 : decode cX7_begin 1 = .ok (.iconst 1, 1) := by decide +kernel
theorem dX7_begin_2 : decode cX7_begin 2 = .ok (.if_icmp .lt 9, 3) := by decide +kernel
theorem dX7_begin_5 : decode cX7_begin 5 = .ok (.iload_n 1, 1) := by decide +kernel
theorem dX7_begin_6 : decode cX7_begin 6 = .ok (.bipush 10, 2) := by decide +kernel
theorem dX7_begin_8 : decode cX7_begin 8 = .ok (.if_icmp .le 6, 3) := by decide +kernel
theorem dX7_begin_11 : decode cX7_begin 11 = .ok (.bipush (-2), 2) := by decide +kernel
theorem dX7_begin_13 : decode cX7_begin 13 = .ok (.ireturn, 1) := by decide +kernel
theorem dX7_begin_14 : decode cX7_begin 14 = .ok (.aload_n 0, 1) := by decide +kernel
theorem dX7_begin_15 : decode cX7_begin 15 = .ok (.iload_n 1, 1) := by decide +kernel
theorem dX7_begin_16 : decode cX7_begin 16 = .ok (.putfield 33, 3) := by decide +kernel
theorem dX7_begin_19 : decode cX7_begin 19 = .ok (.aload_n 0, 1) := by decide +kernel
theorem dX7_begin_20 : decode cX7_begin 20 = .ok (.iconst 0, 1) := by decide +kernel
theorem dX7_begin_21 : decode cX7_begin 21 = .ok (.putfield 37, 3) := by decide +kernel
theorem dX7_begin_24 : decode cX7_begin 24 = .ok (.aload_n 0, 1) := by decide +kernel
theorem dX7_begin_25 : decode cX7_begin 25 = .ok (.iconst 0, 1) := by decide +kernel
theorem dX7_begin_26 : decode cX7_begin 26 = .ok (.putfield 40, 3) := by decide +kernel
theorem dX7_begin_29 : decode cX7_begin 29 = .ok (.iconst 1, 1) := by decide +kernel
theorem dX7_begin_30 : decode cX7_begin 30 = .ok (.ireturn, 1) := by decide +kernel
theorem dX7_pack_0 : decode cX7_pack 0 = .ok (.aload_n 0, 1) := by decide +kernel
theorem dX7_pack_1 : decode cX7_pack 1 = .ok (.iconst 0, 1) := by decide +kernel
theorem dX7_pack_2 : decode cX7_pack 2 = .ok (.invokevirtual 68, 3) := by decide +kernel
theorem dX7_pack_5 : decode cX7_pack 5 = .ok (.ireturn, 1) := by decide +kernel
theorem dX7_ranked_0 : decode cX7_ranked 0 = .ok (.iload_n 1, 1) := by decide +kernel
theorem dX7_ranked_1 : decode cX7_ranked 1 = .ok (.ifCond .lt 15, 3) := by decide +kernel
theorem dX7_ranked_4 : decode cX7_ranked 4 = .ok (.iload_n 1, 1) := by decide +kernel
theorem dX7_ranked_5 : decode cX7_ranked 5 = .ok (.getstatic 72, 3) := by decide +kernel
theorem dX7_ranked_8 : decode cX7_ranked 8 = .ok (.aload_n 0, 1) := by decide +kernel
theorem dX7_ranked_9 : decode cX7_ranked 9 = .ok (.getfield 33, 3) := by decide +kernel
theorem dX7_ranked_12 : decode cX7_ranked 12 = .ok (.iaload, 1) := by decide +kernel
theorem dX7_ranked_13 : decode cX7_ranked 13 = .ok (.if_icmp .lt 6, 3) := by decide +kernel
theorem dX7_ranked_16 : decode cX7_ranked 16 = .ok (.bipush (-2), 2) := by decide +kernel
theorem dX7_ranked_18 : decode cX7_ranked 18 = .ok (.ireturn, 1) := by decide +kernel
theorem dX7_ranked_19 : decode cX7_ranked 19 = .ok (.aload_n 0, 1) := by decide +kernel
theorem dX7_ranked_20 : decode cX7_ranked 20 = .ok (.getfield 37, 3) := by decide +kernel
theorem dX7_ranked_23 : decode cX7_ranked 23 = .ok (.bipush 12, 2) := by decide +kernel
theorem dX7_ranked_25 : decode cX7_ranked 25 = .ok (.if_icmp .lt 6, 3) := by decide +kernel
theorem dX7_ranked_28 : decode cX7_ranked 28 = .ok (.bipush (-4), 2) := by decide +kernel
theorem dX7_ranked_30 : decode cX7_ranked 30 = .ok (.ireturn, 1) := by decide +kernel
theorem dX7_ranked_31 : decode cX7_ranked 31 = .ok (.aload_n 0, 1) := by decide +kernel
theorem dX7_ranked_32 : decode cX7_ranked 32 = .ok (.getfield 11, 3) := by decide +kernel
theorem dX7_ranked_35 : decode cX7_ranked 35 = .ok (.aload_n 0, 1) := by decide +kernel
theorem dX7_ranked_36 : decode cX7_ranked 36 = .ok (.getfield 37, 3) := by decide +kernel
theorem dX7_ranked_39 : decode cX7_ranked 39 = .ok (.aaload, 1) := by decide +kernel
theorem dX7_ranked_40 : decode cX7_ranked 40 = .ok (.aload_n 0, 1) := by decide +kernel
theorem dX7_ranked_41 : decode cX7_ranked 41 = .ok (.getfield 33, 3) := by decide +kernel
theorem dX7_ranked_44 : decode cX7_ranked 44 = .ok (.iload_n 1, 1) := by decide +kernel
theorem dX7_ranked_45 : decode cX7_ranked 45 = .ok (.invokestatic 75, 3) := by decide +kernel
theorem dX7_ranked_48 : decode cX7_ranked 48 = .ok (.aload_n 0, 1) := by decide +kernel
theorem dX7_ranked_49 : decode cX7_ranked 49 = .ok (.dup, 1) := by decide +kernel
theorem dX7_ranked_50 : decode cX7_ranked 50 = .ok (.getfield 37, 3) := by decide +kernel
theorem dX7_ranked_53 : decode cX7_ranked 53 = .ok (.dup_x1, 1) := by decide +kernel
theorem dX7_ranked_54 : decode cX7_ranked 54 = .ok (.iconst 1, 1) := by decide +kernel
theorem dX7_ranked_55 : decode cX7_ranked 55 = .ok (.iadd, 1) := by decide +kernel
theorem dX7_ranked_56 : decode cX7_ranked 56 = .ok (.putfield 37, 3) := by decide +kernel
theorem dX7_ranked_59 : decode cX7_ranked 59 = .ok (.ireturn, 1) := by decide +kernel
theorem dX7_told_0 : decode cX7_told 0 = .ok (.iload_n 1, 1) := by decide +kernel
theorem dX7_told_1 : decode cX7_told 1 = .ok (.invokestatic 81, 3) := by decide +kernel
theorem dX7_told_4 : decode cX7_told 4 = .ok (.ifCond .eq 10, 3) := by decide +kernel
theorem dX7_told_7 : decode cX7_told 7 = .ok (.iload_n 2, 1) := by decide +kernel
theorem dX7_told_8 : decode cX7_told 8 = .ok (.invokestatic 85, 3) := by decide +kernel
theorem dX7_told_11 : decode cX7_told 11 = .ok (.ifCond .ne 6, 3) := by decide +kernel
theorem dX7_told_14 : decode cX7_told 14 = .ok (.bipush (-2), 2) := by decide +kernel
theorem dX7_told_16 : decode cX7_told 16 = .ok (.ireturn, 1) := by decide +kernel
theorem dX7_told_17 : decode cX7_told 17 = .ok (.aload_n 0, 1) := by decide +kernel
theorem dX7_told_18 : decode cX7_told 18 = .ok (.getfield 22, 3) := by decide +kernel
theorem dX7_told_21 : decode cX7_told 21 = .ok (.iload_n 1, 1) := by decide +kernel
theorem dX7_told_22 : decode cX7_told 22 = .ok (.aaload, 1) := by decide +kernel
theorem dX7_told_23 : decode cX7_told 23 = .ok (.astore 4, 2) := by decide +kernel
theorem dX7_told_25 : decode cX7_told 25 = .ok (.aload 4, 2) := by decide +kernel
theorem dX7_told_27 : decode cX7_told 27 = .ok (.invokevirtual 88, 3) := by decide +kernel
theorem dX7_told_30 : decode cX7_told 30 = .ok (.ifCond .ne 15, 3) := by decide +kernel
theorem dX7_told_33 : decode cX7_told 33 = .ok (.aload 4, 2) := by decide +kernel
theorem dX7_told_35 : decode cX7_told 35 = .ok (.getfield 92, 3) := by decide +kernel
theorem dX7_told_38 : decode cX7_told 38 = .ok (.iload_n 2, 1) := by decide +kernel
theorem dX7_told_39 : decode cX7_told 39 = .ok (.if_icmp .eq 6, 3) := by decide +kernel
theorem dX7_told_42 : decode cX7_told 42 = .ok (.bipush (-13), 2) := by decide +kernel
theorem dX7_told_44 : decode cX7_told 44 = .ok (.ireturn, 1) := by decide +kernel
theorem dX7_told_45 : decode cX7_told 45 = .ok (.aload 4, 2) := by decide +kernel
theorem dX7_told_47 : decode cX7_told 47 = .ok (.invokevirtual 88, 3) := by decide +kernel
theorem dX7_told_50 : decode cX7_told 50 = .ok (.ifCond .eq 6, 3) := by decide +kernel
theorem dX7_told_53 : decode cX7_told 53 = .ok (.bipush (-11), 2) := by decide +kernel
theorem dX7_told_55 : decode cX7_told 55 = .ok (.ireturn, 1) := by decide +kernel
theorem dX7_told_56 : decode cX7_told 56 = .ok (.aload 4, 2) := by decide +kernel
theorem dX7_told_58 : decode cX7_told 58 = .ok (.iload_n 3, 1) := by decide +kernel
theorem dX7_told_59 : decode cX7_told 59 = .ok (.aload_n 0, 1) := by decide +kernel
theorem dX7_told_60 : decode cX7_told 60 = .ok (.getfield 33, 3) := by decide +kernel
theorem dX7_told_63 : decode cX7_told 63 = .ok (.invokevirtual 95, 3) := by decide +kernel
theorem dX7_told_66 : decode cX7_told 66 = .ok (.ifCond .ne 6, 3) := by decide +kernel
theorem dX7_told_69 : decode cX7_told 69 = .ok (.bipush (-12), 2) := by decide +kernel
theorem dX7_told_71 : decode cX7_told 71 = .ok (.ireturn, 1) := by decide +kernel
theorem dX7_told_72 : decode cX7_told 72 = .ok (.aload 4, 2) := by decide +kernel
theorem dX7_told_74 : decode cX7_told 74 = .ok (.getfield 99, 3) := by decide +kernel
theorem dX7_told_77 : decode cX7_told 77 = .ok (.iload_n 3, 1) := by decide +kernel
theorem dX7_told_78 : decode cX7_told 78 = .ok (.aload_n 0, 1) := by decide +kernel
theorem dX7_told_79 : decode cX7_told 79 = .ok (.getfield 33, 3) := by decide +kernel
theorem dX7_told_82 : decode cX7_told 82 = .ok (.invokestatic 102, 3) := by decide +kernel
theorem dX7_told_85 : decode cX7_told 85 = .ok (.ifCond .ne 6, 3) := by decide +kernel
theorem dX7_told_88 : decode cX7_told 88 = .ok (.bipush (-3), 2) := by decide +kernel
theorem dX7_told_90 : decode cX7_told 90 = .ok (.ireturn, 1) := by decide +kernel
theorem dX7_told_91 : decode cX7_told 91 = .ok (.aload_n 0, 1) := by decide +kernel
theorem dX7_told_92 : decode cX7_told 92 = .ok (.getfield 37, 3) := by decide +kernel
theorem dX7_told_95 : decode cX7_told 95 = .ok (.bipush 12, 2) := by decide +kernel
theorem dX7_told_97 : decode cX7_told 97 = .ok (.if_icmp .lt 6, 3) := by decide +kernel
theorem dX7_told_100 : decode cX7_told 100 = .ok (.bipush (-4), 2) := by decide +kernel
theorem dX7_told_102 : decode cX7_told 102 = .ok (.ireturn, 1) := by decide +kernel
theorem dX7_told_103 : decode cX7_told 103 = .ok (.aload 4, 2) := by decide +kernel
theorem dX7_told_105 : decode cX7_told 105 = .ok (.getfield 99, 3) := by decide +kernel
theorem dX7_told_108 : decode cX7_told 108 = .ok (.iload_n 3, 1) := by decide +kernel
theorem dX7_told_109 : decode cX7_told 109 = .ok (.aload_n 0, 1) := by decide +kernel
theorem dX7_told_110 : decode cX7_told 110 = .ok (.getfield 11, 3) := by decide +kernel
theorem dX7_told_113 : decode cX7_told 113 = .ok (.aload_n 0, 1) := by decide +kernel
theorem dX7_told_114 : decode cX7_told 114 = .ok (.getfield 37, 3) := by decide +kernel
theorem dX7_told_117 : decode cX7_told 117 = .ok (.aaload, 1) := by decide +kernel
theorem dX7_told_118 : decode cX7_told 118 = .ok (.iconst 0, 1) := by decide +kernel
theorem dX7_told_119 : decode cX7_told 119 = .ok (.aload_n 0, 1) := by decide +kernel
theorem dX7_told_120 : decode cX7_told 120 = .ok (.getfield 33, 3) := by decide +kernel
theorem dX7_told_123 : decode cX7_told 123 = .ok (.invokestatic 106, 3) := by decide +kernel
theorem dX7_told_126 : decode cX7_told 126 = .ok (.aload_n 0, 1) := by decide +kernel
theorem dX7_told_127 : decode cX7_told 127 = .ok (.dup, 1) := by decide +kernel
theorem dX7_told_128 : decode cX7_told 128 = .ok (.getfield 37, 3) := by decide +kernel
theorem dX7_told_131 : decode cX7_told 131 = .ok (.dup_x1, 1) := by decide +kernel
theorem dX7_told_132 : decode cX7_told 132 = .ok (.iconst 1, 1) := by decide +kernel
theorem dX7_told_133 : decode cX7_told 133 = .ok (.iadd, 1) := by decide +kernel
theorem dX7_told_134 : decode cX7_told 134 = .ok (.putfield 37, 3) := by decide +kernel
theorem dX7_told_137 : decode cX7_told 137 = .ok (.ireturn, 1) := by decide +kernel
theorem dX7_card_0 : decode cX7_card 0 = .ok (.aload_n 0, 1) := by decide +kernel
theorem dX7_card_1 : decode cX7_card 1 = .ok (.iload_n 1, 1) := by decide +kernel
theorem dX7_card_2 : decode cX7_card 2 = .ok (.invokevirtual 112, 3) := by decide +kernel
theorem dX7_card_5 : decode cX7_card 5 = .ok (.ifCond .eq 22, 3) := by decide +kernel
theorem dX7_card_8 : decode cX7_card 8 = .ok (.aload_n 0, 1) := by decide +kernel
theorem dX7_card_9 : decode cX7_card 9 = .ok (.iload_n 2, 1) := by decide +kernel
theorem dX7_card_10 : decode cX7_card 10 = .ok (.invokevirtual 115, 3) := by decide +kernel
theorem dX7_card_13 : decode cX7_card 13 = .ok (.ifCond .eq 14, 3) := by decide +kernel
theorem dX7_card_16 : decode cX7_card 16 = .ok (.aload_n 0, 1) := by decide +kernel
theorem dX7_card_17 : decode cX7_card 17 = .ok (.getfield 11, 3) := by decide +kernel
theorem dX7_card_20 : decode cX7_card 20 = .ok (.iload_n 1, 1) := by decide +kernel
theorem dX7_card_21 : decode cX7_card 21 = .ok (.aaload, 1) := by decide +kernel
theorem dX7_card_22 : decode cX7_card 22 = .ok (.iload_n 2, 1) := by decide +kernel
theorem dX7_card_23 : decode cX7_card 23 = .ok (.iaload, 1) := by decide +kernel
theorem dX7_card_24 : decode cX7_card 24 = .ok (.goto 5, 3) := by decide +kernel
theorem dX7_card_27 : decode cX7_card 27 = .ok (.bipush (-2), 2) := by decide +kernel
theorem dX7_card_29 : decode cX7_card 29 = .ok (.ireturn, 1) := by decide +kernel
theorem dX7_packTold_0 : decode cX7_packTold 0 = .ok (.aload_n 0, 1) := by decide +kernel
theorem dX7_packTold_1 : decode cX7_packTold 1 = .ok (.iload_n 1, 1) := by decide +kernel
theorem dX7_packTold_2 : decode cX7_packTold 2 = .ok (.invokevirtual 112, 3) := by decide +kernel
theorem dX7_packTold_5 : decode cX7_packTold 5 = .ok (.ifCond .ne 6, 3) := by decide +kernel
theorem dX7_packTold_8 : decode cX7_packTold 8 = .ok (.bipush (-2), 2) := by decide +kernel
theorem dX7_packTold_10 : decode cX7_packTold 10 = .ok (.ireturn, 1) := by decide +kernel
theorem dX7_packTold_11 : decode cX7_packTold 11 = .ok (.aload_n 0, 1) := by decide +kernel
theorem dX7_packTold_12 : decode cX7_packTold 12 = .ok (.getfield 11, 3) := by decide +kernel
theorem dX7_packTold_15 : decode cX7_packTold 15 = .ok (.iload_n 1, 1) := by decide +kernel
theorem dX7_packTold_16 : decode cX7_packTold 16 = .ok (.aaload, 1) := by decide +kernel
theorem dX7_packTold_17 : decode cX7_packTold 17 = .ok (.aload_n 0, 1) := by decide +kernel
theorem dX7_packTold_18 : decode cX7_packTold 18 = .ok (.getfield 50, 3) := by decide +kernel
theorem dX7_packTold_21 : decode cX7_packTold 21 = .ok (.aload_n 0, 1) := by decide +kernel
theorem dX7_packTold_22 : decode cX7_packTold 22 = .ok (.getfield 33, 3) := by decide +kernel
theorem dX7_packTold_25 : decode cX7_packTold 25 = .ok (.invokestatic 118, 3) := by decide +kernel
theorem dX7_packTold_28 : decode cX7_packTold 28 = .ok (.iload_n 2, 1) := by decide +kernel
theorem dX7_packTold_29 : decode cX7_packTold 29 = .ok (.tableswitch 60 0 2 #[27, 41, 53], 27) := by decide +kernel
theorem dX7_packTold_56 : decode cX7_packTold 56 = .ok (.aload_n 0, 1) := by decide +kernel
theorem dX7_packTold_57 : decode cX7_packTold 57 = .ok (.getfield 11, 3) := by decide +kernel
theorem dX7_packTold_60 : decode cX7_packTold 60 = .ok (.iload_n 1, 1) := by decide +kernel
theorem dX7_packTold_61 : decode cX7_packTold 61 = .ok (.aaload, 1) := by decide +kernel
theorem dX7_packTold_62 : decode cX7_packTold 62 = .ok (.aload_n 0, 1) := by decide +kernel
theorem dX7_packTold_63 : decode cX7_packTold 63 = .ok (.getfield 33, 3) := by decide +kernel
theorem dX7_packTold_66 : decode cX7_packTold 66 = .ok (.invokestatic 122, 3) := by decide +kernel
theorem dX7_packTold_69 : decode cX7_packTold 69 = .ok (.ireturn, 1) := by decide +kernel
theorem dX7_packTold_70 : decode cX7_packTold 70 = .ok (.aload_n 0, 1) := by decide +kernel
theorem dX7_packTold_71 : decode cX7_packTold 71 = .ok (.getfield 50, 3) := by decide +kernel
theorem dX7_packTold_74 : decode cX7_packTold 74 = .ok (.aload_n 0, 1) := by decide +kernel
theorem dX7_packTold_75 : decode cX7_packTold 75 = .ok (.getfield 33, 3) := by decide +kernel
theorem dX7_packTold_78 : decode cX7_packTold 78 = .ok (.invokestatic 126, 3) := by decide +kernel
theorem dX7_packTold_81 : decode cX7_packTold 81 = .ok (.ireturn, 1) := by decide +kernel
theorem dX7_packTold_82 : decode cX7_packTold 82 = .ok (.aload_n 0, 1) := by decide +kernel
theorem dX7_packTold_83 : decode cX7_packTold 83 = .ok (.getfield 50, 3) := by decide +kernel
theorem dX7_packTold_86 : decode cX7_packTold 86 = .ok (.iconst 0, 1) := by decide +kernel
theorem dX7_packTold_87 : decode cX7_packTold 87 = .ok (.iaload, 1) := by decide +kernel
theorem dX7_packTold_88 : decode cX7_packTold 88 = .ok (.ireturn, 1) := by decide +kernel
theorem dX7_packTold_89 : decode cX7_packTold 89 = .ok (.bipush (-2), 2) := by decide +kernel
theorem dX7_packTold_91 : decode cX7_packTold 91 = .ok (.ireturn, 1) := by decide +kernel
theorem dX7_move_0 : decode cX7_move 0 = .ok (.aload_n 0, 1) := by decide +kernel
theorem dX7_move_1 : decode cX7_move 1 = .ok (.iload_n 1, 1) := by decide +kernel
theorem dX7_move_2 : decode cX7_move 2 = .ok (.invokevirtual 112, 3) := by decide +kernel
theorem dX7_move_5 : decode cX7_move 5 = .ok (.ifCond .ne 6, 3) := by decide +kernel
theorem dX7_move_8 : decode cX7_move 8 = .ok (.bipush (-2), 2) := by decide +kernel
theorem dX7_move_10 : decode cX7_move 10 = .ok (.ireturn, 1) := by decide +kernel
theorem dX7_move_11 : decode cX7_move 11 = .ok (.aload_n 0, 1) := by decide +kernel
theorem dX7_move_12 : decode cX7_move 12 = .ok (.getfield 40, 3) := by decide +kernel
theorem dX7_move_15 : decode cX7_move 15 = .ok (.bipush 10, 2) := by decide +kernel
theorem dX7_move_17 : decode cX7_move 17 = .ok (.if_icmp .lt 6, 3) := by decide +kernel
theorem dX7_move_20 : decode cX7_move 20 = .ok (.bipush (-4), 2) := by decide +kernel
theorem dX7_move_22 : decode cX7_move 22 = .ok (.ireturn, 1) := by decide +kernel
theorem dX7_move_23 : decode cX7_move 23 = .ok (.aload_n 0, 1) := by decide +kernel
theorem dX7_move_24 : decode cX7_move 24 = .ok (.getfield 11, 3) := by decide +kernel
theorem dX7_move_27 : decode cX7_move 27 = .ok (.iload_n 1, 1) := by decide +kernel
theorem dX7_move_28 : decode cX7_move 28 = .ok (.aaload, 1) := by decide +kernel
theorem dX7_move_29 : decode cX7_move 29 = .ok (.iconst 0, 1) := by decide +kernel
theorem dX7_move_30 : decode cX7_move 30 = .ok (.aload_n 0, 1) := by decide +kernel
theorem dX7_move_31 : decode cX7_move 31 = .ok (.getfield 16, 3) := by decide +kernel
theorem dX7_move_34 : decode cX7_move 34 = .ok (.aload_n 0, 1) := by decide +kernel
theorem dX7_move_35 : decode cX7_move 35 = .ok (.getfield 40, 3) := by decide +kernel
theorem dX7_move_38 : decode cX7_move 38 = .ok (.aaload, 1) := by decide +kernel
theorem dX7_move_39 : decode cX7_move 39 = .ok (.getfield 129, 3) := by decide +kernel
theorem dX7_move_42 : decode cX7_move 42 = .ok (.iconst 0, 1) := by decide +kernel
theorem dX7_move_43 : decode cX7_move 43 = .ok (.aload_n 0, 1) := by decide +kernel
theorem dX7_move_44 : decode cX7_move 44 = .ok (.getfield 33, 3) := by decide +kernel
theorem dX7_move_47 : decode cX7_move 47 = .ok (.invokestatic 106, 3) := by decide +kernel
theorem dX7_move_50 : decode cX7_move 50 = .ok (.aload_n 0, 1) := by decide +kernel
theorem dX7_move_51 : decode cX7_move 51 = .ok (.iconst 0, 1) := by decide +kernel
theorem dX7_move_52 : decode cX7_move 52 = .ok (.iconst 2, 1) := by decide +kernel
theorem dX7_move_53 : decode cX7_move 53 = .ok (.invokevirtual 132, 3) := by decide +kernel
theorem dX7_move_56 : decode cX7_move 56 = .ok (.ireturn, 1) := by decide +kernel
theorem dX7_perfect_0 : decode cX7_perfect 0 = .ok (.iload_n 1, 1) := by decide +kernel
theorem dX7_perfect_1 : decode cX7_perfect 1 = .ok (.ifCond .eq 11, 3) := by decide +kernel
theorem dX7_perfect_4 : decode cX7_perfect 4 = .ok (.iload_n 1, 1) := by decide +kernel
theorem dX7_perfect_5 : decode cX7_perfect 5 = .ok (.iconst 1, 1) := by decide +kernel
theorem dX7_perfect_6 : decode cX7_perfect 6 = .ok (.if_icmp .eq 6, 3) := by decide +kernel
theorem dX7_perfect_9 : decode cX7_perfect 9 = .ok (.bipush (-2), 2) := by decide +kernel
theorem dX7_perfect_11 : decode cX7_perfect 11 = .ok (.ireturn, 1) := by decide +kernel
theorem dX7_perfect_12 : decode cX7_perfect 12 = .ok (.aload_n 0, 1) := by decide +kernel
theorem dX7_perfect_13 : decode cX7_perfect 13 = .ok (.invokevirtual 136, 3) := by decide +kernel
theorem dX7_perfect_16 : decode cX7_perfect 16 = .ok (.ifCond .eq 6, 3) := by decide +kernel
theorem dX7_perfect_19 : decode cX7_perfect 19 = .ok (.bipush (-3), 2) := by decide +kernel
theorem dX7_perfect_21 : decode cX7_perfect 21 = .ok (.ireturn, 1) := by decide +kernel
theorem dX7_perfect_22 : decode cX7_perfect 22 = .ok (.aload_n 0, 1) := by decide +kernel
theorem dX7_perfect_23 : decode cX7_perfect 23 = .ok (.getfield 40, 3) := by decide +kernel
theorem dX7_perfect_26 : decode cX7_perfect 26 = .ok (.bipush 10, 2) := by decide +kernel
theorem dX7_perfect_28 : decode cX7_perfect 28 = .ok (.if_icmp .lt 6, 3) := by decide +kernel
theorem dX7_perfect_31 : decode cX7_perfect 31 = .ok (.bipush (-4), 2) := by decide +kernel
theorem dX7_perfect_33 : decode cX7_perfect 33 = .ok (.ireturn, 1) := by decide +kernel
theorem dX7_perfect_34 : decode cX7_perfect 34 = .ok (.aload_n 0, 1) := by decide +kernel
theorem dX7_perfect_35 : decode cX7_perfect 35 = .ok (.getfield 16, 3) := by decide +kernel
theorem dX7_perfect_38 : decode cX7_perfect 38 = .ok (.aload_n 0, 1) := by decide +kernel
theorem dX7_perfect_39 : decode cX7_perfect 39 = .ok (.getfield 40, 3) := by decide +kernel
theorem dX7_perfect_42 : decode cX7_perfect 42 = .ok (.aaload, 1) := by decide +kernel
theorem dX7_perfect_43 : decode cX7_perfect 43 = .ok (.getfield 129, 3) := by decide +kernel
theorem dX7_perfect_46 : decode cX7_perfect 46 = .ok (.astore_n 2, 1) := by decide +kernel
theorem dX7_perfect_47 : decode cX7_perfect 47 = .ok (.iconst 0, 1) := by decide +kernel
theorem dX7_perfect_48 : decode cX7_perfect 48 = .ok (.istore_n 3, 1) := by decide +kernel
theorem dX7_perfect_49 : decode cX7_perfect 49 = .ok (.iload_n 3, 1) := by decide +kernel
theorem dX7_perfect_50 : decode cX7_perfect 50 = .ok (.aload_n 0, 1) := by decide +kernel
theorem dX7_perfect_51 : decode cX7_perfect 51 = .ok (.getfield 33, 3) := by decide +kernel
theorem dX7_perfect_54 : decode cX7_perfect 54 = .ok (.if_icmp .ge 21, 3) := by decide +kernel
theorem dX7_perfect_57 : decode cX7_perfect 57 = .ok (.aload_n 2, 1) := by decide +kernel
theorem dX7_perfect_58 : decode cX7_perfect 58 = .ok (.iload_n 3, 1) := by decide +kernel
theorem dX7_perfect_59 : decode cX7_perfect 59 = .ok (.iload_n 1, 1) := by decide +kernel
theorem dX7_perfect_60 : decode cX7_perfect 60 = .ok (.aload_n 0, 1) := by decide +kernel
theorem dX7_perfect_61 : decode cX7_perfect 61 = .ok (.getfield 33, 3) := by decide +kernel
theorem dX7_perfect_64 : decode cX7_perfect 64 = .ok (.invokestatic 139, 3) := by decide +kernel
theorem dX7_perfect_67 : decode cX7_perfect 67 = .ok (.iload_n 3, 1) := by decide +kernel
theorem dX7_perfect_68 : decode cX7_perfect 68 = .ok (.iastore, 1) := by decide +kernel
theorem dX7_perfect_69 : decode cX7_perfect 69 = .ok (.iinc 3 1, 3) := by decide +kernel
theorem dX7_perfect_72 : decode cX7_perfect 72 = .ok (.goto (-23), 3) := by decide +kernel
theorem dX7_perfect_75 : decode cX7_perfect 75 = .ok (.aload_n 0, 1) := by decide +kernel
theorem dX7_perfect_76 : decode cX7_perfect 76 = .ok (.iconst 1, 1) := by decide +kernel
theorem dX7_perfect_77 : decode cX7_perfect 77 = .ok (.iconst 2, 1) := by decide +kernel
theorem dX7_perfect_78 : decode cX7_perfect 78 = .ok (.invokevirtual 132, 3) := by decide +kernel
theorem dX7_perfect_81 : decode cX7_perfect 81 = .ok (.ireturn, 1) := by decide +kernel
theorem dX7_deal_0 : decode cX7_deal 0 = .ok (.iload_n 1, 1) := by decide +kernel
theorem dX7_deal_1 : decode cX7_deal 1 = .ok (.iconst 1, 1) := by decide +kernel
theorem dX7_deal_2 : decode cX7_deal 2 = .ok (.if_icmp .lt 11, 3) := by decide +kernel
theorem dX7_deal_5 : decode cX7_deal 5 = .ok (.iload_n 1, 1) := by decide +kernel
theorem dX7_deal_6 : decode cX7_deal 6 = .ok (.aload_n 0, 1) := by decide +kernel
theorem dX7_deal_7 : decode cX7_deal 7 = .ok (.getfield 33, 3) := by decide +kernel
theorem dX7_deal_10 : decode cX7_deal 10 = .ok (.if_icmp .le 6, 3) := by decide +kernel
theorem dX7_deal_13 : decode cX7_deal 13 = .ok (.bipush (-2), 2) := by decide +kernel
theorem dX7_deal_15 : decode cX7_deal 15 = .ok (.ireturn, 1) := by decide +kernel
theorem dX7_deal_16 : decode cX7_deal 16 = .ok (.aload_n 0, 1) := by decide +kernel
theorem dX7_deal_17 : decode cX7_deal 17 = .ok (.getfield 40, 3) := by decide +kernel
theorem dX7_deal_20 : decode cX7_deal 20 = .ok (.bipush 10, 2) := by decide +kernel
theorem dX7_deal_22 : decode cX7_deal 22 = .ok (.if_icmp .lt 6, 3) := by decide +kernel
theorem dX7_deal_25 : decode cX7_deal 25 = .ok (.bipush (-4), 2) := by decide +kernel
theorem dX7_deal_27 : decode cX7_deal 27 = .ok (.ireturn, 1) := by decide +kernel
theorem dX7_deal_28 : decode cX7_deal 28 = .ok (.aload_n 0, 1) := by decide +kernel
theorem dX7_deal_29 : decode cX7_deal 29 = .ok (.getfield 16, 3) := by decide +kernel
theorem dX7_deal_32 : decode cX7_deal 32 = .ok (.aload_n 0, 1) := by decide +kernel
theorem dX7_deal_33 : decode cX7_deal 33 = .ok (.getfield 40, 3) := by decide +kernel
theorem dX7_deal_36 : decode cX7_deal 36 = .ok (.aaload, 1) := by decide +kernel
theorem dX7_deal_37 : decode cX7_deal 37 = .ok (.getfield 129, 3) := by decide +kernel
theorem dX7_deal_40 : decode cX7_deal 40 = .ok (.aload_n 0, 1) := by decide +kernel
theorem dX7_deal_41 : decode cX7_deal 41 = .ok (.getfield 33, 3) := by decide +kernel
theorem dX7_deal_44 : decode cX7_deal 44 = .ok (.iload_n 1, 1) := by decide +kernel
theorem dX7_deal_45 : decode cX7_deal 45 = .ok (.invokestatic 145, 3) := by decide +kernel
theorem dX7_deal_48 : decode cX7_deal 48 = .ok (.aload_n 0, 1) := by decide +kernel
theorem dX7_deal_49 : decode cX7_deal 49 = .ok (.iconst 2, 1) := by decide +kernel
theorem dX7_deal_50 : decode cX7_deal 50 = .ok (.iload_n 1, 1) := by decide +kernel
theorem dX7_deal_51 : decode cX7_deal 51 = .ok (.invokevirtual 132, 3) := by decide +kernel
theorem dX7_deal_54 : decode cX7_deal 54 = .ok (.ireturn, 1) := by decide +kernel
theorem dX7_riffle_0 : decode cX7_riffle 0 = .ok (.iload_n 1, 1) := by decide +kernel
theorem dX7_riffle_1 : decode cX7_riffle 1 = .ok (.iconst 1, 1) := by decide +kernel
theorem dX7_riffle_2 : decode cX7_riffle 2 = .ok (.if_icmp .lt 9, 3) := by decide +kernel
theorem dX7_riffle_5 : decode cX7_riffle 5 = .ok (.iload_n 1, 1) := by decide +kernel
theorem dX7_riffle_6 : decode cX7_riffle 6 = .ok (.bipush 10, 2) := by decide +kernel
theorem dX7_riffle_8 : decode cX7_riffle 8 = .ok (.if_icmp .le 6, 3) := by decide +kernel
theorem dX7_riffle_11 : decode cX7_riffle 11 = .ok (.bipush (-2), 2) := by decide +kernel
theorem dX7_riffle_13 : decode cX7_riffle 13 = .ok (.ireturn, 1) := by decide +kernel
theorem dX7_riffle_14 : decode cX7_riffle 14 = .ok (.aload_n 0, 1) := by decide +kernel
theorem dX7_riffle_15 : decode cX7_riffle 15 = .ok (.getfield 40, 3) := by decide +kernel
theorem dX7_riffle_18 : decode cX7_riffle 18 = .ok (.bipush 10, 2) := by decide +kernel
theorem dX7_riffle_20 : decode cX7_riffle 20 = .ok (.if_icmp .lt 8, 3) := by decide +kernel
theorem dX7_riffle_23 : decode cX7_riffle 23 = .ok (.bipush (-4), 2) := by decide +kernel
theorem dX7_riffle_25 : decode cX7_riffle 25 = .ok (.goto 9, 3) := by decide +kernel
theorem dX7_riffle_28 : decode cX7_riffle 28 = .ok (.aload_n 0, 1) := by decide +kernel
theorem dX7_riffle_29 : decode cX7_riffle 29 = .ok (.iconst 3, 1) := by decide +kernel
theorem dX7_riffle_30 : decode cX7_riffle 30 = .ok (.iload_n 1, 1) := by decide +kernel
theorem dX7_riffle_31 : decode cX7_riffle 31 = .ok (.invokevirtual 132, 3) := by decide +kernel
theorem dX7_riffle_34 : decode cX7_riffle 34 = .ok (.ireturn, 1) := by decide +kernel
theorem dX7_top_0 : decode cX7_top 0 = .ok (.aload_n 0, 1) := by decide +kernel
theorem dX7_top_1 : decode cX7_top 1 = .ok (.getfield 40, 3) := by decide +kernel
theorem dX7_top_4 : decode cX7_top 4 = .ok (.bipush 10, 2) := by decide +kernel
theorem dX7_top_6 : decode cX7_top 6 = .ok (.if_icmp .lt 8, 3) := by decide +kernel
theorem dX7_top_9 : decode cX7_top 9 = .ok (.bipush (-4), 2) := by decide +kernel
theorem dX7_top_11 : decode cX7_top 11 = .ok (.goto 12, 3) := by decide +kernel
theorem dX7_top_14 : decode cX7_top 14 = .ok (.aload_n 0, 1) := by decide +kernel
theorem dX7_top_15 : decode cX7_top 15 = .ok (.iconst 4, 1) := by decide +kernel
theorem dX7_top_16 : decode cX7_top 16 = .ok (.aload_n 0, 1) := by decide +kernel
theorem dX7_top_17 : decode cX7_top 17 = .ok (.getfield 33, 3) := by decide +kernel
theorem dX7_top_20 : decode cX7_top 20 = .ok (.invokevirtual 132, 3) := by decide +kernel
theorem dX7_top_23 : decode cX7_top 23 = .ok (.ireturn, 1) := by decide +kernel
theorem dX7_behind_0 : decode cX7_behind 0 = .ok (.aload_n 0, 1) := by decide +kernel
theorem dX7_behind_1 : decode cX7_behind 1 = .ok (.iload_n 1, 1) := by decide +kernel
theorem dX7_behind_2 : decode cX7_behind 2 = .ok (.invokevirtual 148, 3) := by decide +kernel
theorem dX7_behind_5 : decode cX7_behind 5 = .ok (.ifCond .eq 11, 3) := by decide +kernel
theorem dX7_behind_8 : decode cX7_behind 8 = .ok (.aload_n 0, 1) := by decide +kernel
theorem dX7_behind_9 : decode cX7_behind 9 = .ok (.iload_n 2, 1) := by decide +kernel
theorem dX7_behind_10 : decode cX7_behind 10 = .ok (.invokevirtual 148, 3) := by decide +kernel
theorem dX7_behind_13 : decode cX7_behind 13 = .ok (.ifCond .ne 6, 3) := by decide +kernel
theorem dX7_behind_16 : decode cX7_behind 16 = .ok (.bipush (-2), 2) := by decide +kernel
theorem dX7_behind_18 : decode cX7_behind 18 = .ok (.ireturn, 1) := by decide +kernel
theorem dX7_behind_19 : decode cX7_behind 19 = .ok (.aload_n 0, 1) := by decide +kernel
theorem dX7_behind_20 : decode cX7_behind 20 = .ok (.getfield 16, 3) := by decide +kernel
theorem dX7_behind_23 : decode cX7_behind 23 = .ok (.iload_n 1, 1) := by decide +kernel
theorem dX7_behind_24 : decode cX7_behind 24 = .ok (.aaload, 1) := by decide +kernel
theorem dX7_behind_25 : decode cX7_behind 25 = .ok (.invokevirtual 151, 3) := by decide +kernel
theorem dX7_behind_28 : decode cX7_behind 28 = .ok (.ifCond .eq 15, 3) := by decide +kernel
theorem dX7_behind_31 : decode cX7_behind 31 = .ok (.aload_n 0, 1) := by decide +kernel
theorem dX7_behind_32 : decode cX7_behind 32 = .ok (.getfield 16, 3) := by decide +kernel
theorem dX7_behind_35 : decode cX7_behind 35 = .ok (.iload_n 2, 1) := by decide +kernel
theorem dX7_behind_36 : decode cX7_behind 36 = .ok (.aaload, 1) := by decide +kernel
theorem dX7_behind_37 : decode cX7_behind 37 = .ok (.invokevirtual 151, 3) := by decide +kernel
theorem dX7_behind_40 : decode cX7_behind 40 = .ok (.ifCond .ne 6, 3) := by decide +kernel
theorem dX7_behind_43 : decode cX7_behind 43 = .ok (.bipush (-3), 2) := by decide +kernel
theorem dX7_behind_45 : decode cX7_behind 45 = .ok (.ireturn, 1) := by decide +kernel
theorem dX7_behind_46 : decode cX7_behind 46 = .ok (.aload_n 0, 1) := by decide +kernel
theorem dX7_behind_47 : decode cX7_behind 47 = .ok (.getfield 40, 3) := by decide +kernel
theorem dX7_behind_50 : decode cX7_behind 50 = .ok (.bipush 10, 2) := by decide +kernel
theorem dX7_behind_52 : decode cX7_behind 52 = .ok (.if_icmp .lt 6, 3) := by decide +kernel
theorem dX7_behind_55 : decode cX7_behind 55 = .ok (.bipush (-4), 2) := by decide +kernel
theorem dX7_behind_57 : decode cX7_behind 57 = .ok (.ireturn, 1) := by decide +kernel
theorem dX7_behind_58 : decode cX7_behind 58 = .ok (.aload_n 0, 1) := by decide +kernel
theorem dX7_behind_59 : decode cX7_behind 59 = .ok (.getfield 16, 3) := by decide +kernel
theorem dX7_behind_62 : decode cX7_behind 62 = .ok (.iload_n 1, 1) := by decide +kernel
theorem dX7_behind_63 : decode cX7_behind 63 = .ok (.aaload, 1) := by decide +kernel
theorem dX7_behind_64 : decode cX7_behind 64 = .ok (.getfield 129, 3) := by decide +kernel
theorem dX7_behind_67 : decode cX7_behind 67 = .ok (.aload_n 0, 1) := by decide +kernel
theorem dX7_behind_68 : decode cX7_behind 68 = .ok (.getfield 16, 3) := by decide +kernel
theorem dX7_behind_71 : decode cX7_behind 71 = .ok (.iload_n 2, 1) := by decide +kernel
theorem dX7_behind_72 : decode cX7_behind 72 = .ok (.aaload, 1) := by decide +kernel
theorem dX7_behind_73 : decode cX7_behind 73 = .ok (.getfield 129, 3) := by decide +kernel
theorem dX7_behind_76 : decode cX7_behind 76 = .ok (.aload_n 0, 1) := by decide +kernel
theorem dX7_behind_77 : decode cX7_behind 77 = .ok (.getfield 16, 3) := by decide +kernel
theorem dX7_behind_80 : decode cX7_behind 80 = .ok (.aload_n 0, 1) := by decide +kernel
theorem dX7_behind_81 : decode cX7_behind 81 = .ok (.getfield 40, 3) := by decide +kernel
theorem dX7_behind_84 : decode cX7_behind 84 = .ok (.aaload, 1) := by decide +kernel
theorem dX7_behind_85 : decode cX7_behind 85 = .ok (.getfield 129, 3) := by decide +kernel
theorem dX7_behind_88 : decode cX7_behind 88 = .ok (.aload_n 0, 1) := by decide +kernel
theorem dX7_behind_89 : decode cX7_behind 89 = .ok (.getfield 33, 3) := by decide +kernel
theorem dX7_behind_92 : decode cX7_behind 92 = .ok (.invokestatic 154, 3) := by decide +kernel
theorem dX7_behind_95 : decode cX7_behind 95 = .ok (.aload_n 0, 1) := by decide +kernel
theorem dX7_behind_96 : decode cX7_behind 96 = .ok (.iconst 0, 1) := by decide +kernel
theorem dX7_behind_97 : decode cX7_behind 97 = .ok (.iconst 2, 1) := by decide +kernel
theorem dX7_behind_98 : decode cX7_behind 98 = .ok (.invokevirtual 132, 3) := by decide +kernel
theorem dX7_behind_101 : decode cX7_behind 101 = .ok (.ireturn, 1) := by decide +kernel
theorem dX7_back_0 : decode cX7_back 0 = .ok (.aload_n 0, 1) := by decide +kernel
theorem dX7_back_1 : decode cX7_back 1 = .ok (.iload_n 1, 1) := by decide +kernel
theorem dX7_back_2 : decode cX7_back 2 = .ok (.invokevirtual 148, 3) := by decide +kernel
theorem dX7_back_5 : decode cX7_back 5 = .ok (.ifCond .ne 6, 3) := by decide +kernel
theorem dX7_back_8 : decode cX7_back 8 = .ok (.bipush (-2), 2) := by decide +kernel
theorem dX7_back_10 : decode cX7_back 10 = .ok (.ireturn, 1) := by decide +kernel
theorem dX7_back_11 : decode cX7_back 11 = .ok (.aload_n 0, 1) := by decide +kernel
theorem dX7_back_12 : decode cX7_back 12 = .ok (.getfield 16, 3) := by decide +kernel
theorem dX7_back_15 : decode cX7_back 15 = .ok (.iload_n 1, 1) := by decide +kernel
theorem dX7_back_16 : decode cX7_back 16 = .ok (.aaload, 1) := by decide +kernel
theorem dX7_back_17 : decode cX7_back 17 = .ok (.invokevirtual 151, 3) := by decide +kernel
theorem dX7_back_20 : decode cX7_back 20 = .ok (.ifCond .ne 6, 3) := by decide +kernel
theorem dX7_back_23 : decode cX7_back 23 = .ok (.bipush (-3), 2) := by decide +kernel
theorem dX7_back_25 : decode cX7_back 25 = .ok (.ireturn, 1) := by decide +kernel
theorem dX7_back_26 : decode cX7_back 26 = .ok (.aload_n 0, 1) := by decide +kernel
theorem dX7_back_27 : decode cX7_back 27 = .ok (.getfield 40, 3) := by decide +kernel
theorem dX7_back_30 : decode cX7_back 30 = .ok (.bipush 10, 2) := by decide +kernel
theorem dX7_back_32 : decode cX7_back 32 = .ok (.if_icmp .lt 6, 3) := by decide +kernel
theorem dX7_back_35 : decode cX7_back 35 = .ok (.bipush (-4), 2) := by decide +kernel
theorem dX7_back_37 : decode cX7_back 37 = .ok (.ireturn, 1) := by decide +kernel
theorem dX7_back_38 : decode cX7_back 38 = .ok (.aload_n 0, 1) := by decide +kernel
theorem dX7_back_39 : decode cX7_back 39 = .ok (.getfield 16, 3) := by decide +kernel
theorem dX7_back_42 : decode cX7_back 42 = .ok (.iload_n 1, 1) := by decide +kernel
theorem dX7_back_43 : decode cX7_back 43 = .ok (.aaload, 1) := by decide +kernel
theorem dX7_back_44 : decode cX7_back 44 = .ok (.getfield 129, 3) := by decide +kernel
theorem dX7_back_47 : decode cX7_back 47 = .ok (.aload_n 0, 1) := by decide +kernel
theorem dX7_back_48 : decode cX7_back 48 = .ok (.getfield 16, 3) := by decide +kernel
theorem dX7_back_51 : decode cX7_back 51 = .ok (.aload_n 0, 1) := by decide +kernel
theorem dX7_back_52 : decode cX7_back 52 = .ok (.getfield 40, 3) := by decide +kernel
theorem dX7_back_55 : decode cX7_back 55 = .ok (.aaload, 1) := by decide +kernel
theorem dX7_back_56 : decode cX7_back 56 = .ok (.getfield 129, 3) := by decide +kernel
theorem dX7_back_59 : decode cX7_back 59 = .ok (.aload_n 0, 1) := by decide +kernel
theorem dX7_back_60 : decode cX7_back 60 = .ok (.getfield 33, 3) := by decide +kernel
theorem dX7_back_63 : decode cX7_back 63 = .ok (.invokestatic 118, 3) := by decide +kernel
theorem dX7_back_66 : decode cX7_back 66 = .ok (.aload_n 0, 1) := by decide +kernel
theorem dX7_back_67 : decode cX7_back 67 = .ok (.iconst 0, 1) := by decide +kernel
theorem dX7_back_68 : decode cX7_back 68 = .ok (.iconst 2, 1) := by decide +kernel
theorem dX7_back_69 : decode cX7_back 69 = .ok (.invokevirtual 132, 3) := by decide +kernel
theorem dX7_back_72 : decode cX7_back 72 = .ok (.ireturn, 1) := by decide +kernel
theorem dX7_moves_0 : decode cX7_moves 0 = .ok (.aload_n 0, 1) := by decide +kernel
theorem dX7_moves_1 : decode cX7_moves 1 = .ok (.iload_n 1, 1) := by decide +kernel
theorem dX7_moves_2 : decode cX7_moves 2 = .ok (.invokevirtual 148, 3) := by decide +kernel
theorem dX7_moves_5 : decode cX7_moves 5 = .ok (.ifCond .eq 11, 3) := by decide +kernel
theorem dX7_moves_8 : decode cX7_moves 8 = .ok (.aload_n 0, 1) := by decide +kernel
theorem dX7_moves_9 : decode cX7_moves 9 = .ok (.iload_n 2, 1) := by decide +kernel
theorem dX7_moves_10 : decode cX7_moves 10 = .ok (.invokevirtual 115, 3) := by decide +kernel
theorem dX7_moves_13 : decode cX7_moves 13 = .ok (.ifCond .ne 6, 3) := by decide +kernel
theorem dX7_moves_16 : decode cX7_moves 16 = .ok (.bipush (-2), 2) := by decide +kernel
theorem dX7_moves_18 : decode cX7_moves 18 = .ok (.ireturn, 1) := by decide +kernel
theorem dX7_moves_19 : decode cX7_moves 19 = .ok (.aload_n 0, 1) := by decide +kernel
theorem dX7_moves_20 : decode cX7_moves 20 = .ok (.getfield 16, 3) := by decide +kernel
theorem dX7_moves_23 : decode cX7_moves 23 = .ok (.iload_n 1, 1) := by decide +kernel
theorem dX7_moves_24 : decode cX7_moves 24 = .ok (.aaload, 1) := by decide +kernel
theorem dX7_moves_25 : decode cX7_moves 25 = .ok (.invokevirtual 151, 3) := by decide +kernel
theorem dX7_moves_28 : decode cX7_moves 28 = .ok (.ifCond .eq 17, 3) := by decide +kernel
theorem dX7_moves_31 : decode cX7_moves 31 = .ok (.aload_n 0, 1) := by decide +kernel
theorem dX7_moves_32 : decode cX7_moves 32 = .ok (.getfield 16, 3) := by decide +kernel
theorem dX7_moves_35 : decode cX7_moves 35 = .ok (.iload_n 1, 1) := by decide +kernel
theorem dX7_moves_36 : decode cX7_moves 36 = .ok (.aaload, 1) := by decide +kernel
theorem dX7_moves_37 : decode cX7_moves 37 = .ok (.getfield 129, 3) := by decide +kernel
theorem dX7_moves_40 : decode cX7_moves 40 = .ok (.iload_n 2, 1) := by decide +kernel
theorem dX7_moves_41 : decode cX7_moves 41 = .ok (.iaload, 1) := by decide +kernel
theorem dX7_moves_42 : decode cX7_moves 42 = .ok (.goto 4, 3) := by decide +kernel
theorem dX7_moves_45 : decode cX7_moves 45 = .ok (.iconst (-1), 1) := by decide +kernel
theorem dX7_moves_46 : decode cX7_moves 46 = .ok (.ireturn, 1) := by decide +kernel
theorem dX7_shuffleTold_0 : decode cX7_shuffleTold 0 = .ok (.aload_n 0, 1) := by decide +kernel
theorem dX7_shuffleTold_1 : decode cX7_shuffleTold 1 = .ok (.iload_n 1, 1) := by decide +kernel
theorem dX7_shuffleTold_2 : decode cX7_shuffleTold 2 = .ok (.invokevirtual 148, 3) := by decide +kernel
theorem dX7_shuffleTold_5 : decode cX7_shuffleTold 5 = .ok (.ifCond .ne 6, 3) := by decide +kernel
theorem dX7_shuffleTold_8 : decode cX7_shuffleTold 8 = .ok (.bipush (-2), 2) := by decide +kernel
theorem dX7_shuffleTold_10 : decode cX7_shuffleTold 10 = .ok (.ireturn, 1) := by decide +kernel
theorem dX7_shuffleTold_11 : decode cX7_shuffleTold 11 = .ok (.aload_n 0, 1) := by decide +kernel
theorem dX7_shuffleTold_12 : decode cX7_shuffleTold 12 = .ok (.getfield 16, 3) := by decide +kernel
theorem dX7_shuffleTold_15 : decode cX7_shuffleTold 15 = .ok (.iload_n 1, 1) := by decide +kernel
theorem dX7_shuffleTold_16 : decode cX7_shuffleTold 16 = .ok (.aaload, 1) := by decide +kernel
theorem dX7_shuffleTold_17 : decode cX7_shuffleTold 17 = .ok (.astore_n 3, 1) := by decide +kernel
theorem dX7_shuffleTold_18 : decode cX7_shuffleTold 18 = .ok (.iload_n 2, 1) := by decide +kernel
theorem dX7_shuffleTold_19 : decode cX7_shuffleTold 19 = .ok (.tableswitch 85 0 3 #[29, 34, 39, 62], 29) := by decide +kernel
theorem dX7_shuffleTold_48 : decode cX7_shuffleTold 48 = .ok (.aload_n 3, 1) := by decide +kernel
theorem dX7_shuffleTold_49 : decode cX7_shuffleTold 49 = .ok (.getfield 158, 3) := by decide +kernel
theorem dX7_shuffleTold_52 : decode cX7_shuffleTold 52 = .ok (.ireturn, 1) := by decide +kernel
theorem dX7_shuffleTold_53 : decode cX7_shuffleTold 53 = .ok (.aload_n 3, 1) := by decide +kernel
theorem dX7_shuffleTold_54 : decode cX7_shuffleTold 54 = .ok (.getfield 161, 3) := by decide +kernel
theorem dX7_shuffleTold_57 : decode cX7_shuffleTold 57 = .ok (.ireturn, 1) := by decide +kernel
theorem dX7_shuffleTold_58 : decode cX7_shuffleTold 58 = .ok (.aload_n 3, 1) := by decide +kernel
theorem dX7_shuffleTold_59 : decode cX7_shuffleTold 59 = .ok (.invokevirtual 151, 3) := by decide +kernel
theorem dX7_shuffleTold_62 : decode cX7_shuffleTold 62 = .ok (.ifCond .eq 17, 3) := by decide +kernel
theorem dX7_shuffleTold_65 : decode cX7_shuffleTold 65 = .ok (.aload_n 3, 1) := by decide +kernel
theorem dX7_shuffleTold_66 : decode cX7_shuffleTold 66 = .ok (.getfield 129, 3) := by decide +kernel
theorem dX7_shuffleTold_69 : decode cX7_shuffleTold 69 = .ok (.aload_n 0, 1) := by decide +kernel
theorem dX7_shuffleTold_70 : decode cX7_shuffleTold 70 = .ok (.getfield 33, 3) := by decide +kernel
theorem dX7_shuffleTold_73 : decode cX7_shuffleTold 73 = .ok (.invokestatic 164, 3) := by decide +kernel
theorem dX7_shuffleTold_76 : decode cX7_shuffleTold 76 = .ok (.goto 4, 3) := by decide +kernel
theorem dX7_shuffleTold_79 : decode cX7_shuffleTold 79 = .ok (.iconst (-1), 1) := by decide +kernel
theorem dX7_shuffleTold_80 : decode cX7_shuffleTold 80 = .ok (.ireturn, 1) := by decide +kernel
theorem dX7_shuffleTold_81 : decode cX7_shuffleTold 81 = .ok (.aload_n 3, 1) := by decide +kernel
theorem dX7_shuffleTold_82 : decode cX7_shuffleTold 82 = .ok (.invokevirtual 151, 3) := by decide +kernel
theorem dX7_shuffleTold_85 : decode cX7_shuffleTold 85 = .ok (.ifCond .eq 17, 3) := by decide +kernel
theorem dX7_shuffleTold_88 : decode cX7_shuffleTold 88 = .ok (.aload_n 3, 1) := by decide +kernel
theorem dX7_shuffleTold_89 : decode cX7_shuffleTold 89 = .ok (.getfield 129, 3) := by decide +kernel
theorem dX7_shuffleTold_92 : decode cX7_shuffleTold 92 = .ok (.aload_n 0, 1) := by decide +kernel
theorem dX7_shuffleTold_93 : decode cX7_shuffleTold 93 = .ok (.getfield 33, 3) := by decide +kernel
theorem dX7_shuffleTold_96 : decode cX7_shuffleTold 96 = .ok (.invokestatic 169, 3) := by decide +kernel
theorem dX7_shuffleTold_99 : decode cX7_shuffleTold 99 = .ok (.goto 4, 3) := by decide +kernel
theorem dX7_shuffleTold_102 : decode cX7_shuffleTold 102 = .ok (.iconst (-1), 1) := by decide +kernel
theorem dX7_shuffleTold_103 : decode cX7_shuffleTold 103 = .ok (.ireturn, 1) := by decide +kernel
theorem dX7_shuffleTold_104 : decode cX7_shuffleTold 104 = .ok (.bipush (-2), 2) := by decide +kernel
theorem dX7_shuffleTold_106 : decode cX7_shuffleTold 106 = .ok (.ireturn, 1) := by decide +kernel
theorem dX7_power_0 : decode cX7_power 0 = .ok (.aload_n 0, 1) := by decide +kernel
theorem dX7_power_1 : decode cX7_power 1 = .ok (.iload_n 1, 1) := by decide +kernel
theorem dX7_power_2 : decode cX7_power 2 = .ok (.invokevirtual 148, 3) := by decide +kernel
theorem dX7_power_5 : decode cX7_power 5 = .ok (.ifCond .eq 18, 3) := by decide +kernel
theorem dX7_power_8 : decode cX7_power 8 = .ok (.aload_n 0, 1) := by decide +kernel
theorem dX7_power_9 : decode cX7_power 9 = .ok (.iload 4, 2) := by decide +kernel
theorem dX7_power_11 : decode cX7_power 11 = .ok (.invokevirtual 115, 3) := by decide +kernel
theorem dX7_power_14 : decode cX7_power 14 = .ok (.ifCond .eq 9, 3) := by decide +kernel
theorem dX7_power_17 : decode cX7_power 17 = .ok (.lload_n 2, 1) := by decide +kernel
theorem dX7_power_18 : decode cX7_power 18 = .ok (.lconst 0, 1) := by decide +kernel
theorem dX7_power_19 : decode cX7_power 19 = .ok (.lcmp, 1) := by decide +kernel
theorem dX7_power_20 : decode cX7_power 20 = .ok (.ifCond .ge 6, 3) := by decide +kernel
theorem dX7_power_23 : decode cX7_power 23 = .ok (.bipush (-2), 2) := by decide +kernel
theorem dX7_power_25 : decode cX7_power 25 = .ok (.ireturn, 1) := by decide +kernel
theorem dX7_power_26 : decode cX7_power 26 = .ok (.aload_n 0, 1) := by decide +kernel
theorem dX7_power_27 : decode cX7_power 27 = .ok (.getfield 16, 3) := by decide +kernel
theorem dX7_power_30 : decode cX7_power 30 = .ok (.iload_n 1, 1) := by decide +kernel
theorem dX7_power_31 : decode cX7_power 31 = .ok (.aaload, 1) := by decide +kernel
theorem dX7_power_32 : decode cX7_power 32 = .ok (.invokevirtual 151, 3) := by decide +kernel
theorem dX7_power_35 : decode cX7_power 35 = .ok (.ifCond .eq 25, 3) := by decide +kernel
theorem dX7_power_38 : decode cX7_power 38 = .ok (.aload_n 0, 1) := by decide +kernel
theorem dX7_power_39 : decode cX7_power 39 = .ok (.getfield 16, 3) := by decide +kernel
theorem dX7_power_42 : decode cX7_power 42 = .ok (.iload_n 1, 1) := by decide +kernel
theorem dX7_power_43 : decode cX7_power 43 = .ok (.aaload, 1) := by decide +kernel
theorem dX7_power_44 : decode cX7_power 44 = .ok (.getfield 129, 3) := by decide +kernel
theorem dX7_power_47 : decode cX7_power 47 = .ok (.aload_n 0, 1) := by decide +kernel
theorem dX7_power_48 : decode cX7_power 48 = .ok (.getfield 33, 3) := by decide +kernel
theorem dX7_power_51 : decode cX7_power 51 = .ok (.iload 4, 2) := by decide +kernel
theorem dX7_power_53 : decode cX7_power 53 = .ok (.lload_n 2, 1) := by decide +kernel
theorem dX7_power_54 : decode cX7_power 54 = .ok (.invokestatic 172, 3) := by decide +kernel
theorem dX7_power_57 : decode cX7_power 57 = .ok (.goto 4, 3) := by decide +kernel
theorem dX7_power_60 : decode cX7_power 60 = .ok (.iconst (-1), 1) := by decide +kernel
theorem dX7_power_61 : decode cX7_power 61 = .ok (.ireturn, 1) := by decide +kernel
theorem dX7_taken_0 : decode cX7_taken 0 = .ok (.iload_n 2, 1) := by decide +kernel
theorem dX7_taken_1 : decode cX7_taken 1 = .ok (.ifCond .lt 8, 3) := by decide +kernel
theorem dX7_taken_4 : decode cX7_taken 4 = .ok (.iload_n 2, 1) := by decide +kernel
theorem dX7_taken_5 : decode cX7_taken 5 = .ok (.iconst 5, 1) := by decide +kernel
theorem dX7_taken_6 : decode cX7_taken 6 = .ok (.if_icmp .lt 6, 3) := by decide +kernel
theorem dX7_taken_9 : decode cX7_taken 9 = .ok (.bipush (-2), 2) := by decide +kernel
theorem dX7_taken_11 : decode cX7_taken 11 = .ok (.ireturn, 1) := by decide +kernel
theorem dX7_taken_12 : decode cX7_taken 12 = .ok (.aload_n 0, 1) := by decide +kernel
theorem dX7_taken_13 : decode cX7_taken 13 = .ok (.iload_n 1, 1) := by decide +kernel
theorem dX7_taken_14 : decode cX7_taken 14 = .ok (.invokevirtual 148, 3) := by decide +kernel
theorem dX7_taken_17 : decode cX7_taken 17 = .ok (.ifCond .ne 6, 3) := by decide +kernel
theorem dX7_taken_20 : decode cX7_taken 20 = .ok (.bipush (-11), 2) := by decide +kernel
theorem dX7_taken_22 : decode cX7_taken 22 = .ok (.ireturn, 1) := by decide +kernel
theorem dX7_taken_23 : decode cX7_taken 23 = .ok (.aload_n 0, 1) := by decide +kernel
theorem dX7_taken_24 : decode cX7_taken 24 = .ok (.getfield 16, 3) := by decide +kernel
theorem dX7_taken_27 : decode cX7_taken 27 = .ok (.iload_n 1, 1) := by decide +kernel
theorem dX7_taken_28 : decode cX7_taken 28 = .ok (.aaload, 1) := by decide +kernel
theorem dX7_taken_29 : decode cX7_taken 29 = .ok (.iload_n 2, 1) := by decide +kernel
theorem dX7_taken_30 : decode cX7_taken 30 = .ok (.invokevirtual 176, 3) := by decide +kernel
theorem dX7_taken_33 : decode cX7_taken 33 = .ok (.ifCond .eq 15, 3) := by decide +kernel
theorem dX7_taken_36 : decode cX7_taken 36 = .ok (.aload_n 0, 1) := by decide +kernel
theorem dX7_taken_37 : decode cX7_taken 37 = .ok (.getfield 16, 3) := by decide +kernel
theorem dX7_taken_40 : decode cX7_taken 40 = .ok (.iload_n 1, 1) := by decide +kernel
theorem dX7_taken_41 : decode cX7_taken 41 = .ok (.aaload, 1) := by decide +kernel
theorem dX7_taken_42 : decode cX7_taken 42 = .ok (.getfield 161, 3) := by decide +kernel
theorem dX7_taken_45 : decode cX7_taken 45 = .ok (.goto 5, 3) := by decide +kernel
theorem dX7_taken_48 : decode cX7_taken 48 = .ok (.bipush (-13), 2) := by decide +kernel
theorem dX7_taken_50 : decode cX7_taken 50 = .ok (.ireturn, 1) := by decide +kernel
theorem dX7_does_0 : decode cX7_does 0 = .ok (.aload_n 0, 1) := by decide +kernel
theorem dX7_does_1 : decode cX7_does 1 = .ok (.iload_n 1, 1) := by decide +kernel
theorem dX7_does_2 : decode cX7_does 2 = .ok (.invokevirtual 148, 3) := by decide +kernel
theorem dX7_does_5 : decode cX7_does 5 = .ok (.ifCond .eq 11, 3) := by decide +kernel
theorem dX7_does_8 : decode cX7_does 8 = .ok (.aload_n 0, 1) := by decide +kernel
theorem dX7_does_9 : decode cX7_does 9 = .ok (.iload_n 2, 1) := by decide +kernel
theorem dX7_does_10 : decode cX7_does 10 = .ok (.invokevirtual 112, 3) := by decide +kernel
theorem dX7_does_13 : decode cX7_does 13 = .ok (.ifCond .ne 6, 3) := by decide +kernel
theorem dX7_does_16 : decode cX7_does 16 = .ok (.bipush (-2), 2) := by decide +kernel
theorem dX7_does_18 : decode cX7_does 18 = .ok (.ireturn, 1) := by decide +kernel
theorem dX7_does_19 : decode cX7_does 19 = .ok (.aload_n 0, 1) := by decide +kernel
theorem dX7_does_20 : decode cX7_does 20 = .ok (.getfield 16, 3) := by decide +kernel
theorem dX7_does_23 : decode cX7_does 23 = .ok (.iload_n 1, 1) := by decide +kernel
theorem dX7_does_24 : decode cX7_does 24 = .ok (.aaload, 1) := by decide +kernel
theorem dX7_does_25 : decode cX7_does 25 = .ok (.invokevirtual 151, 3) := by decide +kernel
theorem dX7_does_28 : decode cX7_does 28 = .ok (.ifCond .ne 6, 3) := by decide +kernel
theorem dX7_does_31 : decode cX7_does 31 = .ok (.bipush (-3), 2) := by decide +kernel
theorem dX7_does_33 : decode cX7_does 33 = .ok (.ireturn, 1) := by decide +kernel
theorem dX7_does_34 : decode cX7_does 34 = .ok (.aload_n 0, 1) := by decide +kernel
theorem dX7_does_35 : decode cX7_does 35 = .ok (.getfield 11, 3) := by decide +kernel
theorem dX7_does_38 : decode cX7_does 38 = .ok (.iload_n 2, 1) := by decide +kernel
theorem dX7_does_39 : decode cX7_does 39 = .ok (.aaload, 1) := by decide +kernel
theorem dX7_does_40 : decode cX7_does 40 = .ok (.iconst 0, 1) := by decide +kernel
theorem dX7_does_41 : decode cX7_does 41 = .ok (.aload_n 0, 1) := by decide +kernel
theorem dX7_does_42 : decode cX7_does 42 = .ok (.getfield 46, 3) := by decide +kernel
theorem dX7_does_45 : decode cX7_does 45 = .ok (.iconst 0, 1) := by decide +kernel
theorem dX7_does_46 : decode cX7_does 46 = .ok (.aload_n 0, 1) := by decide +kernel
theorem dX7_does_47 : decode cX7_does 47 = .ok (.getfield 33, 3) := by decide +kernel
theorem dX7_does_50 : decode cX7_does 50 = .ok (.invokestatic 106, 3) := by decide +kernel
theorem dX7_does_53 : decode cX7_does 53 = .ok (.aload_n 0, 1) := by decide +kernel
theorem dX7_does_54 : decode cX7_does 54 = .ok (.getfield 46, 3) := by decide +kernel
theorem dX7_does_57 : decode cX7_does 57 = .ok (.aload_n 0, 1) := by decide +kernel
theorem dX7_does_58 : decode cX7_does 58 = .ok (.getfield 16, 3) := by decide +kernel
theorem dX7_does_61 : decode cX7_does 61 = .ok (.iload_n 1, 1) := by decide +kernel
theorem dX7_does_62 : decode cX7_does 62 = .ok (.aaload, 1) := by decide +kernel
theorem dX7_does_63 : decode cX7_does 63 = .ok (.getfield 129, 3) := by decide +kernel
theorem dX7_does_66 : decode cX7_does 66 = .ok (.aload_n 0, 1) := by decide +kernel
theorem dX7_does_67 : decode cX7_does 67 = .ok (.getfield 11, 3) := by decide +kernel
theorem dX7_does_70 : decode cX7_does 70 = .ok (.iload_n 2, 1) := by decide +kernel
theorem dX7_does_71 : decode cX7_does 71 = .ok (.aaload, 1) := by decide +kernel
theorem dX7_does_72 : decode cX7_does 72 = .ok (.aload_n 0, 1) := by decide +kernel
theorem dX7_does_73 : decode cX7_does 73 = .ok (.getfield 33, 3) := by decide +kernel
theorem dX7_does_76 : decode cX7_does 76 = .ok (.invokestatic 154, 3) := by decide +kernel
theorem dX7_does_79 : decode cX7_does 79 = .ok (.iconst 1, 1) := by decide +kernel
theorem dX7_does_80 : decode cX7_does 80 = .ok (.ireturn, 1) := by decide +kernel
theorem dX7_lots_0 : decode cX7_lots 0 = .ok (.aload_n 0, 1) := by decide +kernel
theorem dX7_lots_1 : decode cX7_lots 1 = .ok (.iload_n 1, 1) := by decide +kernel
theorem dX7_lots_2 : decode cX7_lots 2 = .ok (.invokevirtual 148, 3) := by decide +kernel
theorem dX7_lots_5 : decode cX7_lots 5 = .ok (.ifCond .eq 11, 3) := by decide +kernel
theorem dX7_lots_8 : decode cX7_lots 8 = .ok (.aload_n 0, 1) := by decide +kernel
theorem dX7_lots_9 : decode cX7_lots 9 = .ok (.iload_n 2, 1) := by decide +kernel
theorem dX7_lots_10 : decode cX7_lots 10 = .ok (.invokevirtual 112, 3) := by decide +kernel
theorem dX7_lots_13 : decode cX7_lots 13 = .ok (.ifCond .ne 6, 3) := by decide +kernel
theorem dX7_lots_16 : decode cX7_lots 16 = .ok (.bipush (-2), 2) := by decide +kernel
theorem dX7_lots_18 : decode cX7_lots 18 = .ok (.ireturn, 1) := by decide +kernel
theorem dX7_lots_19 : decode cX7_lots 19 = .ok (.aload_n 0, 1) := by decide +kernel
theorem dX7_lots_20 : decode cX7_lots 20 = .ok (.getfield 16, 3) := by decide +kernel
theorem dX7_lots_23 : decode cX7_lots 23 = .ok (.iload_n 1, 1) := by decide +kernel
theorem dX7_lots_24 : decode cX7_lots 24 = .ok (.aaload, 1) := by decide +kernel
theorem dX7_lots_25 : decode cX7_lots 25 = .ok (.astore 5, 2) := by decide +kernel
theorem dX7_lots_27 : decode cX7_lots 27 = .ok (.aload 5, 2) := by decide +kernel
theorem dX7_lots_29 : decode cX7_lots 29 = .ok (.invokevirtual 151, 3) := by decide +kernel
theorem dX7_lots_32 : decode cX7_lots 32 = .ok (.ifCond .eq 6, 3) := by decide +kernel
theorem dX7_lots_35 : decode cX7_lots 35 = .ok (.bipush (-3), 2) := by decide +kernel
theorem dX7_lots_37 : decode cX7_lots 37 = .ok (.ireturn, 1) := by decide +kernel
theorem dX7_lots_38 : decode cX7_lots 38 = .ok (.lload_n 3, 1) := by decide +kernel
theorem dX7_lots_39 : decode cX7_lots 39 = .ok (.lconst 0, 1) := by decide +kernel
theorem dX7_lots_40 : decode cX7_lots 40 = .ok (.lcmp, 1) := by decide +kernel
theorem dX7_lots_41 : decode cX7_lots 41 = .ok (.ifCond .lt 23, 3) := by decide +kernel
theorem dX7_lots_44 : decode cX7_lots 44 = .ok (.lload_n 3, 1) := by decide +kernel
theorem dX7_lots_45 : decode cX7_lots 45 = .ok (.aload 5, 2) := by decide +kernel
theorem dX7_lots_47 : decode cX7_lots 47 = .ok (.getfield 161, 3) := by decide +kernel
theorem dX7_lots_50 : decode cX7_lots 50 = .ok (.i2l, 1) := by decide +kernel
theorem dX7_lots_51 : decode cX7_lots 51 = .ok (.aload_n 0, 1) := by decide +kernel
theorem dX7_lots_52 : decode cX7_lots 52 = .ok (.aload 5, 2) := by decide +kernel
theorem dX7_lots_54 : decode cX7_lots 54 = .ok (.invokevirtual 179, 3) := by decide +kernel
theorem dX7_lots_57 : decode cX7_lots 57 = .ok (.invokestatic 183, 3) := by decide +kernel
theorem dX7_lots_60 : decode cX7_lots 60 = .ok (.lcmp, 1) := by decide +kernel
theorem dX7_lots_61 : decode cX7_lots 61 = .ok (.ifCond .lt 6, 3) := by decide +kernel
theorem dX7_lots_64 : decode cX7_lots 64 = .ok (.bipush (-2), 2) := by decide +kernel
theorem dX7_lots_66 : decode cX7_lots 66 = .ok (.ireturn, 1) := by decide +kernel
theorem dX7_lots_67 : decode cX7_lots 67 = .ok (.lload_n 3, 1) := by decide +kernel
theorem dX7_lots_68 : decode cX7_lots 68 = .ok (.lstore 6, 2) := by decide +kernel
theorem dX7_lots_70 : decode cX7_lots 70 = .ok (.iconst 0, 1) := by decide +kernel
theorem dX7_lots_71 : decode cX7_lots 71 = .ok (.istore 8, 2) := by decide +kernel
theorem dX7_lots_73 : decode cX7_lots 73 = .ok (.iload 8, 2) := by decide +kernel
theorem dX7_lots_75 : decode cX7_lots 75 = .ok (.aload_n 0, 1) := by decide +kernel
theorem dX7_lots_76 : decode cX7_lots 76 = .ok (.aload 5, 2) := by decide +kernel
theorem dX7_lots_78 : decode cX7_lots 78 = .ok (.invokevirtual 179, 3) := by decide +kernel
theorem dX7_lots_81 : decode cX7_lots 81 = .ok (.if_icmp .ge 37, 3) := by decide +kernel
theorem dX7_lots_84 : decode cX7_lots 84 = .ok (.aload_n 0, 1) := by decide +kernel
theorem dX7_lots_85 : decode cX7_lots 85 = .ok (.getfield 53, 3) := by decide +kernel
theorem dX7_lots_88 : decode cX7_lots 88 = .ok (.iload 8, 2) := by decide +kernel
theorem dX7_lots_90 : decode cX7_lots 90 = .ok (.lload 6, 2) := by decide +kernel
theorem dX7_lots_92 : decode cX7_lots 92 = .ok (.aload 5, 2) := by decide +kernel
theorem dX7_lots_94 : decode cX7_lots 94 = .ok (.getfield 161, 3) := by decide +kernel
theorem dX7_lots_97 : decode cX7_lots 97 = .ok (.i2l, 1) := by decide +kernel
theorem dX7_lots_98 : decode cX7_lots 98 = .ok (.lrem, 1) := by decide +kernel
theorem dX7_lots_99 : decode cX7_lots 99 = .ok (.l2i, 1) := by decide +kernel
theorem dX7_lots_100 : decode cX7_lots 100 = .ok (.iastore, 1) := by decide +kernel
theorem dX7_lots_101 : decode cX7_lots 101 = .ok (.lload 6, 2) := by decide +kernel
theorem dX7_lots_103 : decode cX7_lots 103 = .ok (.aload 5, 2) := by decide +kernel
theorem dX7_lots_105 : decode cX7_lots 105 = .ok (.getfield 161, 3) := by decide +kernel
theorem dX7_lots_108 : decode cX7_lots 108 = .ok (.i2l, 1) := by decide +kernel
theorem dX7_lots_109 : decode cX7_lots 109 = .ok (.ldiv, 1) := by decide +kernel
theorem dX7_lots_110 : decode cX7_lots 110 = .ok (.lstore 6, 2) := by decide +kernel
theorem dX7_lots_112 : decode cX7_lots 112 = .ok (.iinc 8 1, 3) := by decide +kernel
theorem dX7_lots_115 : decode cX7_lots 115 = .ok (.goto (-42), 3) := by decide +kernel
theorem dX7_lots_118 : decode cX7_lots 118 = .ok (.aload_n 0, 1) := by decide +kernel
theorem dX7_lots_119 : decode cX7_lots 119 = .ok (.aload 5, 2) := by decide +kernel
theorem dX7_lots_121 : decode cX7_lots 121 = .ok (.aload_n 0, 1) := by decide +kernel
theorem dX7_lots_122 : decode cX7_lots 122 = .ok (.getfield 11, 3) := by decide +kernel
theorem dX7_lots_125 : decode cX7_lots 125 = .ok (.iload_n 2, 1) := by decide +kernel
theorem dX7_lots_126 : decode cX7_lots 126 = .ok (.aaload, 1) := by decide +kernel
theorem dX7_lots_127 : decode cX7_lots 127 = .ok (.invokevirtual 189, 3) := by decide +kernel
theorem dX7_lots_130 : decode cX7_lots 130 = .ok (.iconst 1, 1) := by decide +kernel
theorem dX7_lots_131 : decode cX7_lots 131 = .ok (.ireturn, 1) := by decide +kernel
theorem dX7_draw_0 : decode cX7_draw 0 = .ok (.aload_n 0, 1) := by decide +kernel
theorem dX7_draw_1 : decode cX7_draw 1 = .ok (.iload_n 1, 1) := by decide +kernel
theorem dX7_draw_2 : decode cX7_draw 2 = .ok (.invokevirtual 148, 3) := by decide +kernel
theorem dX7_draw_5 : decode cX7_draw 5 = .ok (.ifCond .eq 23, 3) := by decide +kernel
theorem dX7_draw_8 : decode cX7_draw 8 = .ok (.aload_n 0, 1) := by decide +kernel
theorem dX7_draw_9 : decode cX7_draw 9 = .ok (.iload_n 2, 1) := by decide +kernel
theorem dX7_draw_10 : decode cX7_draw 10 = .ok (.invokevirtual 112, 3) := by decide +kernel
theorem dX7_draw_13 : decode cX7_draw 13 = .ok (.ifCond .eq 15, 3) := by decide +kernel
theorem dX7_draw_16 : decode cX7_draw 16 = .ok (.aload_n 0, 1) := by decide +kernel
theorem dX7_draw_17 : decode cX7_draw 17 = .ok (.getfield 16, 3) := by decide +kernel
theorem dX7_draw_20 : decode cX7_draw 20 = .ok (.iload_n 1, 1) := by decide +kernel
theorem dX7_draw_21 : decode cX7_draw 21 = .ok (.aaload, 1) := by decide +kernel
theorem dX7_draw_22 : decode cX7_draw 22 = .ok (.invokevirtual 151, 3) := by decide +kernel
theorem dX7_draw_25 : decode cX7_draw 25 = .ok (.ifCond .eq 7, 3) := by decide +kernel
theorem dX7_draw_28 : decode cX7_draw 28 = .ok (.ldc2_w 193, 3) := by decide +kernel
theorem dX7_draw_31 : decode cX7_draw 31 = .ok (.lreturn, 1) := by decide +kernel
theorem dX7_draw_32 : decode cX7_draw 32 = .ok (.aload_n 0, 1) := by decide +kernel
theorem dX7_draw_33 : decode cX7_draw 33 = .ok (.getfield 16, 3) := by decide +kernel
theorem dX7_draw_36 : decode cX7_draw 36 = .ok (.iload_n 1, 1) := by decide +kernel
theorem dX7_draw_37 : decode cX7_draw 37 = .ok (.aaload, 1) := by decide +kernel
theorem dX7_draw_38 : decode cX7_draw 38 = .ok (.astore_n 3, 1) := by decide +kernel
theorem dX7_draw_39 : decode cX7_draw 39 = .ok (.lconst 0, 1) := by decide +kernel
theorem dX7_draw_40 : decode cX7_draw 40 = .ok (.lstore 4, 2) := by decide +kernel
theorem dX7_draw_42 : decode cX7_draw 42 = .ok (.lconst 1, 1) := by decide +kernel
theorem dX7_draw_43 : decode cX7_draw 43 = .ok (.lstore 6, 2) := by decide +kernel
theorem dX7_draw_45 : decode cX7_draw 45 = .ok (.iconst 0, 1) := by decide +kernel
theorem dX7_draw_46 : decode cX7_draw 46 = .ok (.istore 8, 2) := by decide +kernel
theorem dX7_draw_48 : decode cX7_draw 48 = .ok (.iload 8, 2) := by decide +kernel
theorem dX7_draw_50 : decode cX7_draw 50 = .ok (.aload_n 0, 1) := by decide +kernel
theorem dX7_draw_51 : decode cX7_draw 51 = .ok (.aload_n 3, 1) := by decide +kernel
theorem dX7_draw_52 : decode cX7_draw 52 = .ok (.invokevirtual 179, 3) := by decide +kernel
theorem dX7_draw_55 : decode cX7_draw 55 = .ok (.if_icmp .ge 50, 3) := by decide +kernel
theorem dX7_draw_58 : decode cX7_draw 58 = .ok (.aload_n 0, 1) := by decide +kernel
theorem dX7_draw_59 : decode cX7_draw 59 = .ok (.getfield 53, 3) := by decide +kernel
theorem dX7_draw_62 : decode cX7_draw 62 = .ok (.iload 8, 2) := by decide +kernel
theorem dX7_draw_64 : decode cX7_draw 64 = .ok (.aload_n 0, 1) := by decide +kernel
theorem dX7_draw_65 : decode cX7_draw 65 = .ok (.aload_n 3, 1) := by decide +kernel
theorem dX7_draw_66 : decode cX7_draw 66 = .ok (.getfield 161, 3) := by decide +kernel
theorem dX7_draw_69 : decode cX7_draw 69 = .ok (.invokevirtual 195, 3) := by decide +kernel
theorem dX7_draw_72 : decode cX7_draw 72 = .ok (.iastore, 1) := by decide +kernel
theorem dX7_draw_73 : decode cX7_draw 73 = .ok (.lload 4, 2) := by decide +kernel
theorem dX7_draw_75 : decode cX7_draw 75 = .ok (.aload_n 0, 1) := by decide +kernel
theorem dX7_draw_76 : decode cX7_draw 76 = .ok (.getfield 53, 3) := by decide +kernel
theorem dX7_draw_79 : decode cX7_draw 79 = .ok (.iload 8, 2) := by decide +kernel
theorem dX7_draw_81 : decode cX7_draw 81 = .ok (.iaload, 1) := by decide +kernel
theorem dX7_draw_82 : decode cX7_draw 82 = .ok (.i2l, 1) := by decide +kernel
theorem dX7_draw_83 : decode cX7_draw 83 = .ok (.lload 6, 2) := by decide +kernel
theorem dX7_draw_85 : decode cX7_draw 85 = .ok (.lmul, 1) := by decide +kernel
theorem dX7_draw_86 : decode cX7_draw 86 = .ok (.ladd, 1) := by decide +kernel
theorem dX7_draw_87 : decode cX7_draw 87 = .ok (.lstore 4, 2) := by decide +kernel
theorem dX7_draw_89 : decode cX7_draw 89 = .ok (.lload 6, 2) := by decide +kernel
theorem dX7_draw_91 : decode cX7_draw 91 = .ok (.aload_n 3, 1) := by decide +kernel
theorem dX7_draw_92 : decode cX7_draw 92 = .ok (.getfield 161, 3) := by decide +kernel
theorem dX7_draw_95 : decode cX7_draw 95 = .ok (.i2l, 1) := by decide +kernel
theorem dX7_draw_96 : decode cX7_draw 96 = .ok (.lmul, 1) := by decide +kernel
theorem dX7_draw_97 : decode cX7_draw 97 = .ok (.lstore 6, 2) := by decide +kernel
theorem dX7_draw_99 : decode cX7_draw 99 = .ok (.iinc 8 1, 3) := by decide +kernel
theorem dX7_draw_102 : decode cX7_draw 102 = .ok (.goto (-54), 3) := by decide +kernel
theorem dX7_draw_105 : decode cX7_draw 105 = .ok (.aload_n 0, 1) := by decide +kernel
theorem dX7_draw_106 : decode cX7_draw 106 = .ok (.aload_n 3, 1) := by decide +kernel
theorem dX7_draw_107 : decode cX7_draw 107 = .ok (.aload_n 0, 1) := by decide +kernel
theorem dX7_draw_108 : decode cX7_draw 108 = .ok (.getfield 11, 3) := by decide +kernel
theorem dX7_draw_111 : decode cX7_draw 111 = .ok (.iload_n 2, 1) := by decide +kernel
theorem dX7_draw_112 : decode cX7_draw 112 = .ok (.aaload, 1) := by decide +kernel
theorem dX7_draw_113 : decode cX7_draw 113 = .ok (.invokevirtual 189, 3) := by decide +kernel
theorem dX7_draw_116 : decode cX7_draw 116 = .ok (.lload 4, 2) := by decide +kernel
theorem dX7_draw_118 : decode cX7_draw 118 = .ok (.lreturn, 1) := by decide +kernel
theorem dX7_seed_0 : decode cX7_seed 0 = .ok (.aload_n 0, 1) := by decide +kernel
theorem dX7_seed_1 : decode cX7_seed 1 = .ok (.getfield 43, 3) := by decide +kernel
theorem dX7_seed_4 : decode cX7_seed 4 = .ok (.istore_n 2, 1) := by decide +kernel
theorem dX7_seed_5 : decode cX7_seed 5 = .ok (.aload_n 0, 1) := by decide +kernel
theorem dX7_seed_6 : decode cX7_seed 6 = .ok (.iload_n 1, 1) := by decide +kernel
theorem dX7_seed_7 : decode cX7_seed 7 = .ok (.putfield 43, 3) := by decide +kernel
theorem dX7_seed_10 : decode cX7_seed 10 = .ok (.iload_n 2, 1) := by decide +kernel
theorem dX7_seed_11 : decode cX7_seed 11 = .ok (.ireturn, 1) := by decide +kernel
theorem dX7_chance_0 : decode cX7_chance 0 = .ok (.aload_n 0, 1) := by decide +kernel
theorem dX7_chance_1 : decode cX7_chance 1 = .ok (.iload_n 1, 1) := by decide +kernel
theorem dX7_chance_2 : decode cX7_chance 2 = .ok (.invokevirtual 148, 3) := by decide +kernel
theorem dX7_chance_5 : decode cX7_chance 5 = .ok (.ifCond .eq 33, 3) := by decide +kernel
theorem dX7_chance_8 : decode cX7_chance 8 = .ok (.aload_n 0, 1) := by decide +kernel
theorem dX7_chance_9 : decode cX7_chance 9 = .ok (.iload_n 3, 1) := by decide +kernel
theorem dX7_chance_10 : decode cX7_chance 10 = .ok (.invokevirtual 112, 3) := by decide +kernel
theorem dX7_chance_13 : decode cX7_chance 13 = .ok (.ifCond .eq 25, 3) := by decide +kernel
theorem dX7_chance_16 : decode cX7_chance 16 = .ok (.iload 4, 2) := by decide +kernel
theorem dX7_chance_18 : decode cX7_chance 18 = .ok (.invokestatic 198, 3) := by decide +kernel
theorem dX7_chance_21 : decode cX7_chance 21 = .ok (.ifCond .eq 17, 3) := by decide +kernel
theorem dX7_chance_24 : decode cX7_chance 24 = .ok (.aload_n 0, 1) := by decide +kernel
theorem dX7_chance_25 : decode cX7_chance 25 = .ok (.aload_n 0, 1) := by decide +kernel
theorem dX7_chance_26 : decode cX7_chance 26 = .ok (.getfield 16, 3) := by decide +kernel
theorem dX7_chance_29 : decode cX7_chance 29 = .ok (.iload_n 1, 1) := by decide +kernel
theorem dX7_chance_30 : decode cX7_chance 30 = .ok (.aaload, 1) := by decide +kernel
theorem dX7_chance_31 : decode cX7_chance 31 = .ok (.iload_n 2, 1) := by decide +kernel
theorem dX7_chance_32 : decode cX7_chance 32 = .ok (.invokevirtual 201, 3) := by decide +kernel
theorem dX7_chance_35 : decode cX7_chance 35 = .ok (.ifCond .ne 7, 3) := by decide +kernel
theorem dX7_chance_38 : decode cX7_chance 38 = .ok (.ldc2_w 193, 3) := by decide +kernel
theorem dX7_chance_41 : decode cX7_chance 41 = .ok (.lreturn, 1) := by decide +kernel
theorem dX7_chance_42 : decode cX7_chance 42 = .ok (.aload_n 0, 1) := by decide +kernel
theorem dX7_chance_43 : decode cX7_chance 43 = .ok (.getfield 16, 3) := by decide +kernel
theorem dX7_chance_46 : decode cX7_chance 46 = .ok (.iload_n 1, 1) := by decide +kernel
theorem dX7_chance_47 : decode cX7_chance 47 = .ok (.aaload, 1) := by decide +kernel
theorem dX7_chance_48 : decode cX7_chance 48 = .ok (.astore 5, 2) := by decide +kernel
theorem dX7_chance_50 : decode cX7_chance 50 = .ok (.aload_n 0, 1) := by decide +kernel
theorem dX7_chance_51 : decode cX7_chance 51 = .ok (.aload 5, 2) := by decide +kernel
theorem dX7_chance_53 : decode cX7_chance 53 = .ok (.iload_n 2, 1) := by decide +kernel
theorem dX7_chance_54 : decode cX7_chance 54 = .ok (.aload_n 0, 1) := by decide +kernel
theorem dX7_chance_55 : decode cX7_chance 55 = .ok (.aload 5, 2) := by decide +kernel
theorem dX7_chance_57 : decode cX7_chance 57 = .ok (.aload_n 0, 1) := by decide +kernel
theorem dX7_chance_58 : decode cX7_chance 58 = .ok (.getfield 11, 3) := by decide +kernel
theorem dX7_chance_61 : decode cX7_chance 61 = .ok (.iload_n 3, 1) := by decide +kernel
theorem dX7_chance_62 : decode cX7_chance 62 = .ok (.aaload, 1) := by decide +kernel
theorem dX7_chance_63 : decode cX7_chance 63 = .ok (.invokevirtual 205, 3) := by decide +kernel
theorem dX7_chance_66 : decode cX7_chance 66 = .ok (.invokevirtual 209, 3) := by decide +kernel
theorem dX7_chance_69 : decode cX7_chance 69 = .ok (.aload_n 0, 1) := by decide +kernel
theorem dX7_chance_70 : decode cX7_chance 70 = .ok (.aload 5, 2) := by decide +kernel
theorem dX7_chance_72 : decode cX7_chance 72 = .ok (.iload_n 2, 1) := by decide +kernel
theorem dX7_chance_73 : decode cX7_chance 73 = .ok (.invokevirtual 213, 3) := by decide +kernel
theorem dX7_chance_76 : decode cX7_chance 76 = .ok (.iload 4, 2) := by decide +kernel
theorem dX7_chance_78 : decode cX7_chance 78 = .ok (.invokestatic 217, 3) := by decide +kernel
theorem dX7_chance_81 : decode cX7_chance 81 = .ok (.lreturn, 1) := by decide +kernel
theorem dX7_place_0 : decode cX7_place 0 = .ok (.aload_n 0, 1) := by decide +kernel
theorem dX7_place_1 : decode cX7_place 1 = .ok (.iload_n 1, 1) := by decide +kernel
theorem dX7_place_2 : decode cX7_place 2 = .ok (.invokevirtual 148, 3) := by decide +kernel
theorem dX7_place_5 : decode cX7_place 5 = .ok (.ifCond .eq 27, 3) := by decide +kernel
theorem dX7_place_8 : decode cX7_place 8 = .ok (.aload_n 0, 1) := by decide +kernel
theorem dX7_place_9 : decode cX7_place 9 = .ok (.iload_n 2, 1) := by decide +kernel
theorem dX7_place_10 : decode cX7_place 10 = .ok (.invokevirtual 115, 3) := by decide +kernel
theorem dX7_place_13 : decode cX7_place 13 = .ok (.ifCond .eq 19, 3) := by decide +kernel
theorem dX7_place_16 : decode cX7_place 16 = .ok (.aload_n 0, 1) := by decide +kernel
theorem dX7_place_17 : decode cX7_place 17 = .ok (.iload_n 3, 1) := by decide +kernel
theorem dX7_place_18 : decode cX7_place 18 = .ok (.invokevirtual 115, 3) := by decide +kernel
theorem dX7_place_21 : decode cX7_place 21 = .ok (.ifCond .eq 11, 3) := by decide +kernel
theorem dX7_place_24 : decode cX7_place 24 = .ok (.iload 4, 2) := by decide +kernel
theorem dX7_place_26 : decode cX7_place 26 = .ok (.invokestatic 198, 3) := by decide +kernel
theorem dX7_place_29 : decode cX7_place 29 = .ok (.ifCond .ne 7, 3) := by decide +kernel
theorem dX7_place_32 : decode cX7_place 32 = .ok (.ldc2_w 193, 3) := by decide +kernel
theorem dX7_place_35 : decode cX7_place 35 = .ok (.lreturn, 1) := by decide +kernel
theorem dX7_place_36 : decode cX7_place 36 = .ok (.aload_n 0, 1) := by decide +kernel
theorem dX7_place_37 : decode cX7_place 37 = .ok (.getfield 16, 3) := by decide +kernel
theorem dX7_place_40 : decode cX7_place 40 = .ok (.iload_n 1, 1) := by decide +kernel
theorem dX7_place_41 : decode cX7_place 41 = .ok (.aaload, 1) := by decide +kernel
theorem dX7_place_42 : decode cX7_place 42 = .ok (.astore 5, 2) := by decide +kernel
theorem dX7_place_44 : decode cX7_place 44 = .ok (.aload 5, 2) := by decide +kernel
theorem dX7_place_46 : decode cX7_place 46 = .ok (.invokevirtual 151, 3) := by decide +kernel
theorem dX7_place_49 : decode cX7_place 49 = .ok (.ifCond .eq 7, 3) := by decide +kernel
theorem dX7_place_52 : decode cX7_place 52 = .ok (.ldc2_w 193, 3) := by decide +kernel
theorem dX7_place_55 : decode cX7_place 55 = .ok (.lreturn, 1) := by decide +kernel
theorem dX7_place_56 : decode cX7_place 56 = .ok (.aload 5, 2) := by decide +kernel
theorem dX7_place_58 : decode cX7_place 58 = .ok (.getfield 158, 3) := by decide +kernel
theorem dX7_place_61 : decode cX7_place 61 = .ok (.iconst 4, 1) := by decide +kernel
theorem dX7_place_62 : decode cX7_place 62 = .ok (.if_icmp .ne 21, 3) := by decide +kernel
theorem dX7_place_65 : decode cX7_place 65 = .ok (.aload_n 0, 1) := by decide +kernel
theorem dX7_place_66 : decode cX7_place 66 = .ok (.iload_n 2, 1) := by decide +kernel
theorem dX7_place_67 : decode cX7_place 67 = .ok (.iload_n 3, 1) := by decide +kernel
theorem dX7_place_68 : decode cX7_place 68 = .ok (.invokevirtual 221, 3) := by decide +kernel
theorem dX7_place_71 : decode cX7_place 71 = .ok (.i2l, 1) := by decide +kernel
theorem dX7_place_72 : decode cX7_place 72 = .ok (.aload_n 0, 1) := by decide +kernel
theorem dX7_place_73 : decode cX7_place 73 = .ok (.getfield 33, 3) := by decide +kernel
theorem dX7_place_76 : decode cX7_place 76 = .ok (.i2l, 1) := by decide +kernel
theorem dX7_place_77 : decode cX7_place 77 = .ok (.iload 4, 2) := by decide +kernel
theorem dX7_place_79 : decode cX7_place 79 = .ok (.invokestatic 217, 3) := by decide +kernel
theorem dX7_place_82 : decode cX7_place 82 = .ok (.lreturn, 1) := by decide +kernel
theorem dX7_place_83 : decode cX7_place 83 = .ok (.aload_n 0, 1) := by decide +kernel
theorem dX7_place_84 : decode cX7_place 84 = .ok (.aload 5, 2) := by decide +kernel
theorem dX7_place_86 : decode cX7_place 86 = .ok (.getfield 161, 3) := by decide +kernel
theorem dX7_place_89 : decode cX7_place 89 = .ok (.iload_n 2, 1) := by decide +kernel
theorem dX7_place_90 : decode cX7_place 90 = .ok (.iload_n 3, 1) := by decide +kernel
theorem dX7_place_91 : decode cX7_place 91 = .ok (.invokevirtual 224, 3) := by decide +kernel
theorem dX7_place_94 : decode cX7_place 94 = .ok (.aload 5, 2) := by decide +kernel
theorem dX7_place_96 : decode cX7_place 96 = .ok (.getfield 161, 3) := by decide +kernel
theorem dX7_place_99 : decode cX7_place 99 = .ok (.i2l, 1) := by decide +kernel
theorem dX7_place_100 : decode cX7_place 100 = .ok (.aload_n 0, 1) := by decide +kernel
theorem dX7_place_101 : decode cX7_place 101 = .ok (.getfield 33, 3) := by decide +kernel
theorem dX7_place_104 : decode cX7_place 104 = .ok (.invokestatic 183, 3) := by decide +kernel
theorem dX7_place_107 : decode cX7_place 107 = .ok (.iload 4, 2) := by decide +kernel
theorem dX7_place_109 : decode cX7_place 109 = .ok (.invokestatic 217, 3) := by decide +kernel
theorem dX7_place_112 : decode cX7_place 112 = .ok (.lreturn, 1) := by decide +kernel
theorem dX7_far_0 : decode cX7_far 0 = .ok (.aload_n 0, 1) := by decide +kernel
theorem dX7_far_1 : decode cX7_far 1 = .ok (.iload_n 1, 1) := by decide +kernel
theorem dX7_far_2 : decode cX7_far 2 = .ok (.invokevirtual 148, 3) := by decide +kernel
theorem dX7_far_5 : decode cX7_far 5 = .ok (.ifCond .eq 24, 3) := by decide +kernel
theorem dX7_far_8 : decode cX7_far 8 = .ok (.iload_n 3, 1) := by decide +kernel
theorem dX7_far_9 : decode cX7_far 9 = .ok (.invokestatic 198, 3) := by decide +kernel
theorem dX7_far_12 : decode cX7_far 12 = .ok (.ifCond .eq 17, 3) := by decide +kernel
theorem dX7_far_15 : decode cX7_far 15 = .ok (.aload_n 0, 1) := by decide +kernel
theorem dX7_far_16 : decode cX7_far 16 = .ok (.aload_n 0, 1) := by decide +kernel
theorem dX7_far_17 : decode cX7_far 17 = .ok (.getfield 16, 3) := by decide +kernel
theorem dX7_far_20 : decode cX7_far 20 = .ok (.iload_n 1, 1) := by decide +kernel
theorem dX7_far_21 : decode cX7_far 21 = .ok (.aaload, 1) := by decide +kernel
theorem dX7_far_22 : decode cX7_far 22 = .ok (.iload_n 2, 1) := by decide +kernel
theorem dX7_far_23 : decode cX7_far 23 = .ok (.invokevirtual 201, 3) := by decide +kernel
theorem dX7_far_26 : decode cX7_far 26 = .ok (.ifCond .ne 7, 3) := by decide +kernel
theorem dX7_far_29 : decode cX7_far 29 = .ok (.ldc2_w 193, 3) := by decide +kernel
theorem dX7_far_32 : decode cX7_far 32 = .ok (.lreturn, 1) := by decide +kernel
theorem dX7_far_33 : decode cX7_far 33 = .ok (.aload_n 0, 1) := by decide +kernel
theorem dX7_far_34 : decode cX7_far 34 = .ok (.getfield 16, 3) := by decide +kernel
theorem dX7_far_37 : decode cX7_far 37 = .ok (.iload_n 1, 1) := by decide +kernel
theorem dX7_far_38 : decode cX7_far 38 = .ok (.aaload, 1) := by decide +kernel
theorem dX7_far_39 : decode cX7_far 39 = .ok (.astore 4, 2) := by decide +kernel
theorem dX7_far_41 : decode cX7_far 41 = .ok (.aload_n 0, 1) := by decide +kernel
theorem dX7_far_42 : decode cX7_far 42 = .ok (.aload 4, 2) := by decide +kernel
theorem dX7_far_44 : decode cX7_far 44 = .ok (.iload_n 2, 1) := by decide +kernel
theorem dX7_far_45 : decode cX7_far 45 = .ok (.invokevirtual 213, 3) := by decide +kernel
theorem dX7_far_48 : decode cX7_far 48 = .ok (.lstore 5, 2) := by decide +kernel
theorem dX7_far_50 : decode cX7_far 50 = .ok (.getstatic 72, 3) := by decide +kernel
theorem dX7_far_53 : decode cX7_far 53 = .ok (.aload_n 0, 1) := by decide +kernel
theorem dX7_far_54 : decode cX7_far 54 = .ok (.getfield 33, 3) := by decide +kernel
theorem dX7_far_57 : decode cX7_far 57 = .ok (.iaload, 1) := by decide +kernel
theorem dX7_far_58 : decode cX7_far 58 = .ok (.i2l, 1) := by decide +kernel
theorem dX7_far_59 : decode cX7_far 59 = .ok (.lstore 7, 2) := by decide +kernel
theorem dX7_far_61 : decode cX7_far 61 = .ok (.lconst 0, 1) := by decide +kernel
theorem dX7_far_62 : decode cX7_far 62 = .ok (.lstore 9, 2) := by decide +kernel
theorem dX7_far_64 : decode cX7_far 64 = .ok (.aload_n 0, 1) := by decide +kernel
theorem dX7_far_65 : decode cX7_far 65 = .ok (.aload 4, 2) := by decide +kernel
theorem dX7_far_67 : decode cX7_far 67 = .ok (.invokevirtual 228, 3) := by decide +kernel
theorem dX7_far_70 : decode cX7_far 70 = .ok (.iconst 0, 1) := by decide +kernel
theorem dX7_far_71 : decode cX7_far 71 = .ok (.istore 11, 2) := by decide +kernel
theorem dX7_far_73 : decode cX7_far 73 = .ok (.iload 11, 2) := by decide +kernel
theorem dX7_far_75 : decode cX7_far 75 = .ok (.aload_n 0, 1) := by decide +kernel
theorem dX7_far_76 : decode cX7_far 76 = .ok (.getfield 33, 3) := by decide +kernel
theorem dX7_far_79 : decode cX7_far 79 = .ok (.if_icmp .ge 40, 3) := by decide +kernel
theorem dX7_far_82 : decode cX7_far 82 = .ok (.lload 9, 2) := by decide +kernel
theorem dX7_far_84 : decode cX7_far 84 = .ok (.aload_n 0, 1) := by decide +kernel
theorem dX7_far_85 : decode cX7_far 85 = .ok (.getfield 59, 3) := by decide +kernel
theorem dX7_far_88 : decode cX7_far 88 = .ok (.iload 11, 2) := by decide +kernel
theorem dX7_far_90 : decode cX7_far 90 = .ok (.laload, 1) := by decide +kernel
theorem dX7_far_91 : decode cX7_far 91 = .ok (.aload_n 0, 1) := by decide +kernel
theorem dX7_far_92 : decode cX7_far 92 = .ok (.aload 4, 2) := by decide +kernel
theorem dX7_far_94 : decode cX7_far 94 = .ok (.iload_n 2, 1) := by decide +kernel
theorem dX7_far_95 : decode cX7_far 95 = .ok (.iload 11, 2) := by decide +kernel
theorem dX7_far_97 : decode cX7_far 97 = .ok (.invokevirtual 209, 3) := by decide +kernel
theorem dX7_far_100 : decode cX7_far 100 = .ok (.lload 7, 2) := by decide +kernel
theorem dX7_far_102 : decode cX7_far 102 = .ok (.lmul, 1) := by decide +kernel
theorem dX7_far_103 : decode cX7_far 103 = .ok (.lload 5, 2) := by decide +kernel
theorem dX7_far_105 : decode cX7_far 105 = .ok (.lsub, 1) := by decide +kernel
theorem dX7_far_106 : decode cX7_far 106 = .ok (.invokestatic 232, 3) := by decide +kernel
theorem dX7_far_109 : decode cX7_far 109 = .ok (.lmul, 1) := by decide +kernel
theorem dX7_far_110 : decode cX7_far 110 = .ok (.ladd, 1) := by decide +kernel
theorem dX7_far_111 : decode cX7_far 111 = .ok (.lstore 9, 2) := by decide +kernel
theorem dX7_far_113 : decode cX7_far 113 = .ok (.iinc 11 1, 3) := by decide +kernel
theorem dX7_far_116 : decode cX7_far 116 = .ok (.goto (-43), 3) := by decide +kernel
theorem dX7_far_119 : decode cX7_far 119 = .ok (.lload 9, 2) := by decide +kernel
theorem dX7_far_121 : decode cX7_far 121 = .ok (.ldc2_w 238, 3) := by decide +kernel
theorem dX7_far_124 : decode cX7_far 124 = .ok (.lload 5, 2) := by decide +kernel
theorem dX7_far_126 : decode cX7_far 126 = .ok (.lmul, 1) := by decide +kernel
theorem dX7_far_127 : decode cX7_far 127 = .ok (.lload 7, 2) := by decide +kernel
theorem dX7_far_129 : decode cX7_far 129 = .ok (.lmul, 1) := by decide +kernel
theorem dX7_far_130 : decode cX7_far 130 = .ok (.iload_n 3, 1) := by decide +kernel
theorem dX7_far_131 : decode cX7_far 131 = .ok (.invokestatic 217, 3) := by decide +kernel
theorem dX7_far_134 : decode cX7_far 134 = .ok (.lreturn, 1) := by decide +kernel
theorem dX7_unlike_0 : decode cX7_unlike 0 = .ok (.aload_n 0, 1) := by decide +kernel
theorem dX7_unlike_1 : decode cX7_unlike 1 = .ok (.iload_n 1, 1) := by decide +kernel
theorem dX7_unlike_2 : decode cX7_unlike 2 = .ok (.invokevirtual 148, 3) := by decide +kernel
theorem dX7_unlike_5 : decode cX7_unlike 5 = .ok (.ifCond .eq 24, 3) := by decide +kernel
theorem dX7_unlike_8 : decode cX7_unlike 8 = .ok (.iload_n 3, 1) := by decide +kernel
theorem dX7_unlike_9 : decode cX7_unlike 9 = .ok (.invokestatic 198, 3) := by decide +kernel
theorem dX7_unlike_12 : decode cX7_unlike 12 = .ok (.ifCond .eq 17, 3) := by decide +kernel
theorem dX7_unlike_15 : decode cX7_unlike 15 = .ok (.aload_n 0, 1) := by decide +kernel
theorem dX7_unlike_16 : decode cX7_unlike 16 = .ok (.aload_n 0, 1) := by decide +kernel
theorem dX7_unlike_17 : decode cX7_unlike 17 = .ok (.getfield 16, 3) := by decide +kernel
theorem dX7_unlike_20 : decode cX7_unlike 20 = .ok (.iload_n 1, 1) := by decide +kernel
theorem dX7_unlike_21 : decode cX7_unlike 21 = .ok (.aaload, 1) := by decide +kernel
theorem dX7_unlike_22 : decode cX7_unlike 22 = .ok (.iload_n 2, 1) := by decide +kernel
theorem dX7_unlike_23 : decode cX7_unlike 23 = .ok (.invokevirtual 201, 3) := by decide +kernel
theorem dX7_unlike_26 : decode cX7_unlike 26 = .ok (.ifCond .ne 7, 3) := by decide +kernel
theorem dX7_unlike_29 : decode cX7_unlike 29 = .ok (.ldc2_w 193, 3) := by decide +kernel
theorem dX7_unlike_32 : decode cX7_unlike 32 = .ok (.lreturn, 1) := by decide +kernel
theorem dX7_unlike_33 : decode cX7_unlike 33 = .ok (.aload_n 0, 1) := by decide +kernel
theorem dX7_unlike_34 : decode cX7_unlike 34 = .ok (.getfield 16, 3) := by decide +kernel
theorem dX7_unlike_37 : decode cX7_unlike 37 = .ok (.iload_n 1, 1) := by decide +kernel
theorem dX7_unlike_38 : decode cX7_unlike 38 = .ok (.aaload, 1) := by decide +kernel
theorem dX7_unlike_39 : decode cX7_unlike 39 = .ok (.getfield 158, 3) := by decide +kernel
theorem dX7_unlike_42 : decode cX7_unlike 42 = .ok (.iconst 3, 1) := by decide +kernel
theorem dX7_unlike_43 : decode cX7_unlike 43 = .ok (.if_icmp .eq 7, 3) := by decide +kernel
theorem dX7_unlike_46 : decode cX7_unlike 46 = .ok (.ldc2_w 193, 3) := by decide +kernel
theorem dX7_unlike_49 : decode cX7_unlike 49 = .ok (.lreturn, 1) := by decide +kernel
theorem dX7_unlike_50 : decode cX7_unlike 50 = .ok (.aload_n 0, 1) := by decide +kernel
theorem dX7_unlike_51 : decode cX7_unlike 51 = .ok (.getfield 16, 3) := by decide +kernel
theorem dX7_unlike_54 : decode cX7_unlike 54 = .ok (.iload_n 1, 1) := by decide +kernel
theorem dX7_unlike_55 : decode cX7_unlike 55 = .ok (.aaload, 1) := by decide +kernel
theorem dX7_unlike_56 : decode cX7_unlike 56 = .ok (.getfield 161, 3) := by decide +kernel
theorem dX7_unlike_59 : decode cX7_unlike 59 = .ok (.i2l, 1) := by decide +kernel
theorem dX7_unlike_60 : decode cX7_unlike 60 = .ok (.iload_n 2, 1) := by decide +kernel
theorem dX7_unlike_61 : decode cX7_unlike 61 = .ok (.invokestatic 183, 3) := by decide +kernel
theorem dX7_unlike_64 : decode cX7_unlike 64 = .ok (.lstore 4, 2) := by decide +kernel
theorem dX7_unlike_66 : decode cX7_unlike 66 = .ok (.lconst 1, 1) := by decide +kernel
theorem dX7_unlike_67 : decode cX7_unlike 67 = .ok (.lstore 6, 2) := by decide +kernel
theorem dX7_unlike_69 : decode cX7_unlike 69 = .ok (.iconst 0, 1) := by decide +kernel
theorem dX7_unlike_70 : decode cX7_unlike 70 = .ok (.istore 8, 2) := by decide +kernel
theorem dX7_unlike_72 : decode cX7_unlike 72 = .ok (.iload 8, 2) := by decide +kernel
theorem dX7_unlike_74 : decode cX7_unlike 74 = .ok (.aload_n 0, 1) := by decide +kernel
theorem dX7_unlike_75 : decode cX7_unlike 75 = .ok (.getfield 33, 3) := by decide +kernel
theorem dX7_unlike_78 : decode cX7_unlike 78 = .ok (.if_icmp .ge 24, 3) := by decide +kernel
theorem dX7_unlike_81 : decode cX7_unlike 81 = .ok (.lload 6, 2) := by decide +kernel
theorem dX7_unlike_83 : decode cX7_unlike 83 = .ok (.lconst 0, 1) := by decide +kernel
theorem dX7_unlike_84 : decode cX7_unlike 84 = .ok (.lload 4, 2) := by decide +kernel
theorem dX7_unlike_86 : decode cX7_unlike 86 = .ok (.iload 8, 2) := by decide +kernel
theorem dX7_unlike_88 : decode cX7_unlike 88 = .ok (.i2l, 1) := by decide +kernel
theorem dX7_unlike_89 : decode cX7_unlike 89 = .ok (.lsub, 1) := by decide +kernel
theorem dX7_unlike_90 : decode cX7_unlike 90 = .ok (.invokestatic 240, 3) := by decide +kernel
theorem dX7_unlike_93 : decode cX7_unlike 93 = .ok (.lmul, 1) := by decide +kernel
theorem dX7_unlike_94 : decode cX7_unlike 94 = .ok (.lstore 6, 2) := by decide +kernel
theorem dX7_unlike_96 : decode cX7_unlike 96 = .ok (.iinc 8 1, 3) := by decide +kernel
theorem dX7_unlike_99 : decode cX7_unlike 99 = .ok (.goto (-27), 3) := by decide +kernel
theorem dX7_unlike_102 : decode cX7_unlike 102 = .ok (.lload 6, 2) := by decide +kernel
theorem dX7_unlike_104 : decode cX7_unlike 104 = .ok (.lload 4, 2) := by decide +kernel
theorem dX7_unlike_106 : decode cX7_unlike 106 = .ok (.aload_n 0, 1) := by decide +kernel
theorem dX7_unlike_107 : decode cX7_unlike 107 = .ok (.getfield 33, 3) := by decide +kernel
theorem dX7_unlike_110 : decode cX7_unlike 110 = .ok (.invokestatic 183, 3) := by decide +kernel
theorem dX7_unlike_113 : decode cX7_unlike 113 = .ok (.iload_n 3, 1) := by decide +kernel
theorem dX7_unlike_114 : decode cX7_unlike 114 = .ok (.invokestatic 217, 3) := by decide +kernel
theorem dX7_unlike_117 : decode cX7_unlike 117 = .ok (.lreturn, 1) := by decide +kernel
theorem dX7_runs_0 : decode cX7_runs 0 = .ok (.iload_n 1, 1) := by decide +kernel
theorem dX7_runs_1 : decode cX7_runs 1 = .ok (.iconst 1, 1) := by decide +kernel
theorem dX7_runs_2 : decode cX7_runs 2 = .ok (.if_icmp .lt 11, 3) := by decide +kernel
theorem dX7_runs_5 : decode cX7_runs 5 = .ok (.iload_n 1, 1) := by decide +kernel
theorem dX7_runs_6 : decode cX7_runs 6 = .ok (.aload_n 0, 1) := by decide +kernel
theorem dX7_runs_7 : decode cX7_runs 7 = .ok (.getfield 33, 3) := by decide +kernel
theorem dX7_runs_10 : decode cX7_runs 10 = .ok (.if_icmp .le 7, 3) := by decide +kernel
theorem dX7_runs_13 : decode cX7_runs 13 = .ok (.ldc2_w 193, 3) := by decide +kernel
theorem dX7_runs_16 : decode cX7_runs 16 = .ok (.lreturn, 1) := by decide +kernel
theorem dX7_runs_17 : decode cX7_runs 17 = .ok (.aload_n 0, 1) := by decide +kernel
theorem dX7_runs_18 : decode cX7_runs 18 = .ok (.getfield 59, 3) := by decide +kernel
theorem dX7_runs_21 : decode cX7_runs 21 = .ok (.aload_n 0, 1) := by decide +kernel
theorem dX7_runs_22 : decode cX7_runs 22 = .ok (.getfield 33, 3) := by decide +kernel
theorem dX7_runs_25 : decode cX7_runs 25 = .ok (.invokestatic 244, 3) := by decide +kernel
theorem dX7_runs_28 : decode cX7_runs 28 = .ok (.aload_n 0, 1) := by decide +kernel
theorem dX7_runs_29 : decode cX7_runs 29 = .ok (.getfield 59, 3) := by decide +kernel
theorem dX7_runs_32 : decode cX7_runs 32 = .ok (.iload_n 1, 1) := by decide +kernel
theorem dX7_runs_33 : decode cX7_runs 33 = .ok (.iconst 1, 1) := by decide +kernel
theorem dX7_runs_34 : decode cX7_runs 34 = .ok (.isub, 1) := by decide +kernel
theorem dX7_runs_35 : decode cX7_runs 35 = .ok (.laload, 1) := by decide +kernel
theorem dX7_runs_36 : decode cX7_runs 36 = .ok (.lreturn, 1) := by decide +kernel
theorem dX7_leads_0 : decode cX7_leads 0 = .ok (.aload_n 0, 1) := by decide +kernel
theorem dX7_leads_1 : decode cX7_leads 1 = .ok (.iload_n 1, 1) := by decide +kernel
theorem dX7_leads_2 : decode cX7_leads 2 = .ok (.invokevirtual 115, 3) := by decide +kernel
theorem dX7_leads_5 : decode cX7_leads 5 = .ok (.ifCond .eq 11, 3) := by decide +kernel
theorem dX7_leads_8 : decode cX7_leads 8 = .ok (.aload_n 0, 1) := by decide +kernel
theorem dX7_leads_9 : decode cX7_leads 9 = .ok (.iload_n 2, 1) := by decide +kernel
theorem dX7_leads_10 : decode cX7_leads 10 = .ok (.invokevirtual 115, 3) := by decide +kernel
theorem dX7_leads_13 : decode cX7_leads 13 = .ok (.ifCond .ne 6, 3) := by decide +kernel
theorem dX7_leads_16 : decode cX7_leads 16 = .ok (.bipush (-2), 2) := by decide +kernel
theorem dX7_leads_18 : decode cX7_leads 18 = .ok (.ireturn, 1) := by decide +kernel
theorem dX7_leads_19 : decode cX7_leads 19 = .ok (.aload_n 0, 1) := by decide +kernel
theorem dX7_leads_20 : decode cX7_leads 20 = .ok (.invokevirtual 136, 3) := by decide +kernel
theorem dX7_leads_23 : decode cX7_leads 23 = .ok (.ifCond .eq 8, 3) := by decide +kernel
theorem dX7_leads_26 : decode cX7_leads 26 = .ok (.bipush (-3), 2) := by decide +kernel
theorem dX7_leads_28 : decode cX7_leads 28 = .ok (.goto 15, 3) := by decide +kernel
theorem dX7_leads_31 : decode cX7_leads 31 = .ok (.iload_n 1, 1) := by decide +kernel
theorem dX7_leads_32 : decode cX7_leads 32 = .ok (.iload_n 2, 1) := by decide +kernel
theorem dX7_leads_33 : decode cX7_leads 33 = .ok (.aload_n 0, 1) := by decide +kernel
theorem dX7_leads_34 : decode cX7_leads 34 = .ok (.getfield 33, 3) := by decide +kernel
theorem dX7_leads_37 : decode cX7_leads 37 = .ok (.invokestatic 248, 3) := by decide +kernel
theorem dX7_leads_40 : decode cX7_leads 40 = .ok (.invokestatic 251, 3) := by decide +kernel
theorem dX7_leads_43 : decode cX7_leads 43 = .ok (.ireturn, 1) := by decide +kernel
theorem dX7_lead_0 : decode cX7_lead 0 = .ok (.aload_n 0, 1) := by decide +kernel
theorem dX7_lead_1 : decode cX7_lead 1 = .ok (.iload_n 1, 1) := by decide +kernel
theorem dX7_lead_2 : decode cX7_lead 2 = .ok (.invokevirtual 115, 3) := by decide +kernel
theorem dX7_lead_5 : decode cX7_lead 5 = .ok (.ifCond .eq 11, 3) := by decide +kernel
theorem dX7_lead_8 : decode cX7_lead 8 = .ok (.aload_n 0, 1) := by decide +kernel
theorem dX7_lead_9 : decode cX7_lead 9 = .ok (.iload_n 2, 1) := by decide +kernel
theorem dX7_lead_10 : decode cX7_lead 10 = .ok (.invokevirtual 115, 3) := by decide +kernel
theorem dX7_lead_13 : decode cX7_lead 13 = .ok (.ifCond .ne 6, 3) := by decide +kernel
theorem dX7_lead_16 : decode cX7_lead 16 = .ok (.bipush (-2), 2) := by decide +kernel
theorem dX7_lead_18 : decode cX7_lead 18 = .ok (.ireturn, 1) := by decide +kernel
theorem dX7_lead_19 : decode cX7_lead 19 = .ok (.aload_n 0, 1) := by decide +kernel
theorem dX7_lead_20 : decode cX7_lead 20 = .ok (.invokevirtual 136, 3) := by decide +kernel
theorem dX7_lead_23 : decode cX7_lead 23 = .ok (.ifCond .eq 6, 3) := by decide +kernel
theorem dX7_lead_26 : decode cX7_lead 26 = .ok (.bipush (-3), 2) := by decide +kernel
theorem dX7_lead_28 : decode cX7_lead 28 = .ok (.ireturn, 1) := by decide +kernel
theorem dX7_lead_29 : decode cX7_lead 29 = .ok (.iload_n 1, 1) := by decide +kernel
theorem dX7_lead_30 : decode cX7_lead 30 = .ok (.iload_n 2, 1) := by decide +kernel
theorem dX7_lead_31 : decode cX7_lead 31 = .ok (.aload_n 0, 1) := by decide +kernel
theorem dX7_lead_32 : decode cX7_lead 32 = .ok (.getfield 33, 3) := by decide +kernel
theorem dX7_lead_35 : decode cX7_lead 35 = .ok (.invokestatic 248, 3) := by decide +kernel
theorem dX7_lead_38 : decode cX7_lead 38 = .ok (.istore 4, 2) := by decide +kernel
theorem dX7_lead_40 : decode cX7_lead 40 = .ok (.iload 4, 2) := by decide +kernel
theorem dX7_lead_42 : decode cX7_lead 42 = .ok (.invokestatic 251, 3) := by decide +kernel
theorem dX7_lead_45 : decode cX7_lead 45 = .ok (.istore 5, 2) := by decide +kernel
theorem dX7_lead_47 : decode cX7_lead 47 = .ok (.iload_n 3, 1) := by decide +kernel
theorem dX7_lead_48 : decode cX7_lead 48 = .ok (.ifCond .lt 9, 3) := by decide +kernel
theorem dX7_lead_51 : decode cX7_lead 51 = .ok (.iload_n 3, 1) := by decide +kernel
theorem dX7_lead_52 : decode cX7_lead 52 = .ok (.iload 5, 2) := by decide +kernel
theorem dX7_lead_54 : decode cX7_lead 54 = .ok (.if_icmp .lt 7, 3) := by decide +kernel
theorem dX7_lead_57 : decode cX7_lead 57 = .ok (.iconst (-1), 1) := by decide +kernel
theorem dX7_lead_58 : decode cX7_lead 58 = .ok (.goto 14, 3) := by decide +kernel
theorem dX7_lead_61 : decode cX7_lead 61 = .ok (.iload 4, 2) := by decide +kernel
theorem dX7_lead_63 : decode cX7_lead 63 = .ok (.iload 5, 2) := by decide +kernel
theorem dX7_lead_65 : decode cX7_lead 65 = .ok (.iconst 1, 1) := by decide +kernel
theorem dX7_lead_66 : decode cX7_lead 66 = .ok (.isub, 1) := by decide +kernel
theorem dX7_lead_67 : decode cX7_lead 67 = .ok (.iload_n 3, 1) := by decide +kernel
theorem dX7_lead_68 : decode cX7_lead 68 = .ok (.isub, 1) := by decide +kernel
theorem dX7_lead_69 : decode cX7_lead 69 = .ok (.ishr, 1) := by decide +kernel
theorem dX7_lead_70 : decode cX7_lead 70 = .ok (.iconst 1, 1) := by decide +kernel
theorem dX7_lead_71 : decode cX7_lead 71 = .ok (.iand, 1) := by decide +kernel
theorem dX7_lead_72 : decode cX7_lead 72 = .ok (.ireturn, 1) := by decide +kernel
theorem dX7_group_0 : decode cX7_group 0 = .ok (.aload_n 0, 1) := by decide +kernel
theorem dX7_group_1 : decode cX7_group 1 = .ok (.invokevirtual 136, 3) := by decide +kernel
theorem dX7_group_4 : decode cX7_group 4 = .ok (.ifCond .eq 8, 3) := by decide +kernel
theorem dX7_group_7 : decode cX7_group 7 = .ok (.bipush (-3), 2) := by decide +kernel
theorem dX7_group_9 : decode cX7_group 9 = .ok (.goto 13, 3) := by decide +kernel
theorem dX7_group_12 : decode cX7_group 12 = .ok (.getstatic 254, 3) := by decide +kernel
theorem dX7_group_15 : decode cX7_group 15 = .ok (.aload_n 0, 1) := by decide +kernel
theorem dX7_group_16 : decode cX7_group 16 = .ok (.getfield 33, 3) := by decide +kernel
theorem dX7_group_19 : decode cX7_group 19 = .ok (.iconst 2, 1) := by decide +kernel
theorem dX7_group_20 : decode cX7_group 20 = .ok (.idiv, 1) := by decide +kernel
theorem dX7_group_21 : decode cX7_group 21 = .ok (.iaload, 1) := by decide +kernel
theorem dX7_group_22 : decode cX7_group 22 = .ok (.ireturn, 1) := by decide +kernel
theorem dX7_act_0 : decode cX7_act 0 = .ok (.aload_n 0, 1) := by decide +kernel
theorem dX7_act_1 : decode cX7_act 1 = .ok (.getfield 29, 3) := by decide +kernel
theorem dX7_act_4 : decode cX7_act 4 = .ok (.invokevirtual 257, 3) := by decide +kernel
theorem dX7_act_7 : decode cX7_act 7 = .ok (.aload_n 0, 1) := by decide +kernel
theorem dX7_act_8 : decode cX7_act 8 = .ok (.iload_n 1, 1) := by decide +kernel
theorem dX7_act_9 : decode cX7_act 9 = .ok (.invokevirtual 148, 3) := by decide +kernel
theorem dX7_act_12 : decode cX7_act 12 = .ok (.ifCond .eq 12, 3) := by decide +kernel
theorem dX7_act_15 : decode cX7_act 15 = .ok (.iload_n 2, 1) := by decide +kernel
theorem dX7_act_16 : decode cX7_act 16 = .ok (.ifCond .lt 8, 3) := by decide +kernel
theorem dX7_act_19 : decode cX7_act 19 = .ok (.iload_n 2, 1) := by decide +kernel
theorem dX7_act_20 : decode cX7_act 20 = .ok (.iconst 3, 1) := by decide +kernel
theorem dX7_act_21 : decode cX7_act 21 = .ok (.if_icmp .lt 5, 3) := by decide +kernel
theorem dX7_act_24 : decode cX7_act 24 = .ok (.iconst 0, 1) := by decide +kernel
theorem dX7_act_25 : decode cX7_act 25 = .ok (.ireturn, 1) := by decide +kernel
theorem dX7_act_26 : decode cX7_act 26 = .ok (.aload_n 0, 1) := by decide +kernel
theorem dX7_act_27 : decode cX7_act 27 = .ok (.getfield 29, 3) := by decide +kernel
theorem dX7_act_30 : decode cX7_act 30 = .ok (.aload_n 0, 1) := by decide +kernel
theorem dX7_act_31 : decode cX7_act 31 = .ok (.getfield 16, 3) := by decide +kernel
theorem dX7_act_34 : decode cX7_act 34 = .ok (.iload_n 1, 1) := by decide +kernel
theorem dX7_act_35 : decode cX7_act 35 = .ok (.aaload, 1) := by decide +kernel
theorem dX7_act_36 : decode cX7_act 36 = .ok (.iload_n 1, 1) := by decide +kernel
theorem dX7_act_37 : decode cX7_act 37 = .ok (.iload_n 2, 1) := by decide +kernel
theorem dX7_act_38 : decode cX7_act 38 = .ok (.iload_n 3, 1) := by decide +kernel
theorem dX7_act_39 : decode cX7_act 39 = .ok (.invokevirtual 260, 3) := by decide +kernel
theorem dX7_act_42 : decode cX7_act 42 = .ok (.ireturn, 1) := by decide +kernel
theorem dX7_trace_0 : decode cX7_trace 0 = .ok (.iload_n 1, 1) := by decide +kernel
theorem dX7_trace_1 : decode cX7_trace 1 = .ok (.ifCond .lt 20, 3) := by decide +kernel
theorem dX7_trace_4 : decode cX7_trace 4 = .ok (.iload_n 1, 1) := by decide +kernel
theorem dX7_trace_5 : decode cX7_trace 5 = .ok (.bipush 40, 2) := by decide +kernel
theorem dX7_trace_7 : decode cX7_trace 7 = .ok (.if_icmp .ge 14, 3) := by decide +kernel
theorem dX7_trace_10 : decode cX7_trace 10 = .ok (.iload_n 1, 1) := by decide +kernel
theorem dX7_trace_11 : decode cX7_trace 11 = .ok (.aload_n 0, 1) := by decide +kernel
theorem dX7_trace_12 : decode cX7_trace 12 = .ok (.getfield 29, 3) := by decide +kernel
theorem dX7_trace_15 : decode cX7_trace 15 = .ok (.getfield 264, 3) := by decide +kernel
theorem dX7_trace_18 : decode cX7_trace 18 = .ok (.if_icmp .lt 7, 3) := by decide +kernel
theorem dX7_trace_21 : decode cX7_trace 21 = .ok (.iconst (-1), 1) := by decide +kernel
theorem dX7_trace_22 : decode cX7_trace 22 = .ok (.goto 12, 3) := by decide +kernel
theorem dX7_trace_25 : decode cX7_trace 25 = .ok (.aload_n 0, 1) := by decide +kernel
theorem dX7_trace_26 : decode cX7_trace 26 = .ok (.getfield 29, 3) := by decide +kernel
theorem dX7_trace_29 : decode cX7_trace 29 = .ok (.getfield 267, 3) := by decide +kernel
theorem dX7_trace_32 : decode cX7_trace 32 = .ok (.iload_n 1, 1) := by decide +kernel
theorem dX7_trace_33 : decode cX7_trace 33 = .ok (.iaload, 1) := by decide +kernel
theorem dX7_trace_34 : decode cX7_trace 34 = .ok (.ireturn, 1) := by decide +kernel
theorem dX7_count_0 : decode cX7_count 0 = .ok (.iload_n 1, 1) := by decide +kernel
theorem dX7_count_1 : decode cX7_count 1 = .ok (.tableswitch 54 0 3 #[31, 36, 41, 46], 31) := by decide +kernel
theorem dX7_count_32 : decode cX7_count 32 = .ok (.aload_n 0, 1) := by decide +kernel
theorem dX7_count_33 : decode cX7_count 33 = .ok (.getfield 33, 3) := by decide +kernel
theorem dX7_count_36 : decode cX7_count 36 = .ok (.ireturn, 1) := by decide +kernel
theorem dX7_count_37 : decode cX7_count 37 = .ok (.aload_n 0, 1) := by decide +kernel
theorem dX7_count_38 : decode cX7_count 38 = .ok (.getfield 37, 3) := by decide +kernel
theorem dX7_count_41 : decode cX7_count 41 = .ok (.ireturn, 1) := by decide +kernel
theorem dX7_count_42 : decode cX7_count 42 = .ok (.aload_n 0, 1) := by decide +kernel
theorem dX7_count_43 : decode cX7_count 43 = .ok (.getfield 40, 3) := by decide +kernel
theorem dX7_count_46 : decode cX7_count 46 = .ok (.ireturn, 1) := by decide +kernel
theorem dX7_count_47 : decode cX7_count 47 = .ok (.aload_n 0, 1) := by decide +kernel
theorem dX7_count_48 : decode cX7_count 48 = .ok (.getfield 29, 3) := by decide +kernel
theorem dX7_count_51 : decode cX7_count 51 = .ok (.getfield 264, 3) := by decide +kernel
theorem dX7_count_54 : decode cX7_count 54 = .ok (.ireturn, 1) := by decide +kernel
theorem dX7_count_55 : decode cX7_count 55 = .ok (.bipush (-2), 2) := by decide +kernel
theorem dX7_count_57 : decode cX7_count 57 = .ok (.ireturn, 1) := by decide +kernel
theorem dX7_tray_0 : decode cX7_tray 0 = .ok (.iload_n 1, 1) := by decide +kernel
theorem dX7_tray_1 : decode cX7_tray 1 = .ok (.invokestatic 81, 3) := by decide +kernel
theorem dX7_tray_4 : decode cX7_tray 4 = .ok (.ifCond .eq 15, 3) := by decide +kernel
theorem dX7_tray_7 : decode cX7_tray 7 = .ok (.iload_n 2, 1) := by decide +kernel
theorem dX7_tray_8 : decode cX7_tray 8 = .ok (.iconst (-1), 1) := by decide +kernel
theorem dX7_tray_9 : decode cX7_tray 9 = .ok (.if_icmp .eq 13, 3) := by decide +kernel
theorem dX7_tray_12 : decode cX7_tray 12 = .ok (.iload_n 2, 1) := by decide +kernel
theorem dX7_tray_13 : decode cX7_tray 13 = .ok (.invokestatic 85, 3) := by decide +kernel
theorem dX7_tray_16 : decode cX7_tray 16 = .ok (.ifCond .ne 6, 3) := by decide +kernel
theorem dX7_tray_19 : decode cX7_tray 19 = .ok (.bipush (-2), 2) := by decide +kernel
theorem dX7_tray_21 : decode cX7_tray 21 = .ok (.ireturn, 1) := by decide +kernel
theorem dX7_tray_22 : decode cX7_tray 22 = .ok (.iload_n 2, 1) := by decide +kernel
theorem dX7_tray_23 : decode cX7_tray 23 = .ok (.iconst (-1), 1) := by decide +kernel
theorem dX7_tray_24 : decode cX7_tray 24 = .ok (.if_icmp .ne 16, 3) := by decide +kernel
theorem dX7_tray_27 : decode cX7_tray 27 = .ok (.aload_n 0, 1) := by decide +kernel
theorem dX7_tray_28 : decode cX7_tray 28 = .ok (.getfield 22, 3) := by decide +kernel
theorem dX7_tray_31 : decode cX7_tray 31 = .ok (.iload_n 1, 1) := by decide +kernel
theorem dX7_tray_32 : decode cX7_tray 32 = .ok (.aaload, 1) := by decide +kernel
theorem dX7_tray_33 : decode cX7_tray 33 = .ok (.iconst (-1), 1) := by decide +kernel
theorem dX7_tray_34 : decode cX7_tray 34 = .ok (.iconst 0, 1) := by decide +kernel
theorem dX7_tray_35 : decode cX7_tray 35 = .ok (.invokevirtual 270, 3) := by decide +kernel
theorem dX7_tray_38 : decode cX7_tray 38 = .ok (.iconst 1, 1) := by decide +kernel
theorem dX7_tray_39 : decode cX7_tray 39 = .ok (.ireturn, 1) := by decide +kernel
theorem dX7_tray_40 : decode cX7_tray 40 = .ok (.iload_n 3, 1) := by decide +kernel
theorem dX7_tray_41 : decode cX7_tray 41 = .ok (.bipush 40, 2) := by decide +kernel
theorem dX7_tray_43 : decode cX7_tray 43 = .ok (.if_icmp .le 6, 3) := by decide +kernel
theorem dX7_tray_46 : decode cX7_tray 46 = .ok (.bipush (-2), 2) := by decide +kernel
theorem dX7_tray_48 : decode cX7_tray 48 = .ok (.ireturn, 1) := by decide +kernel
theorem dX7_tray_49 : decode cX7_tray 49 = .ok (.iload_n 3, 1) := by decide +kernel
theorem dX7_tray_50 : decode cX7_tray 50 = .ok (.ifCond .ge 6, 3) := by decide +kernel
theorem dX7_tray_53 : decode cX7_tray 53 = .ok (.bipush (-14), 2) := by decide +kernel
theorem dX7_tray_55 : decode cX7_tray 55 = .ok (.ireturn, 1) := by decide +kernel
theorem dX7_tray_56 : decode cX7_tray 56 = .ok (.aload_n 0, 1) := by decide +kernel
theorem dX7_tray_57 : decode cX7_tray 57 = .ok (.getfield 22, 3) := by decide +kernel
theorem dX7_tray_60 : decode cX7_tray 60 = .ok (.iload_n 1, 1) := by decide +kernel
theorem dX7_tray_61 : decode cX7_tray 61 = .ok (.aaload, 1) := by decide +kernel
theorem dX7_tray_62 : decode cX7_tray 62 = .ok (.iload_n 2, 1) := by decide +kernel
theorem dX7_tray_63 : decode cX7_tray 63 = .ok (.iload_n 3, 1) := by decide +kernel
theorem dX7_tray_64 : decode cX7_tray 64 = .ok (.invokevirtual 270, 3) := by decide +kernel
theorem dX7_tray_67 : decode cX7_tray 67 = .ok (.iconst 1, 1) := by decide +kernel
theorem dX7_tray_68 : decode cX7_tray 68 = .ok (.ireturn, 1) := by decide +kernel
theorem dX7_cell_0 : decode cX7_cell 0 = .ok (.iload_n 1, 1) := by decide +kernel
theorem dX7_cell_1 : decode cX7_cell 1 = .ok (.invokestatic 81, 3) := by decide +kernel
theorem dX7_cell_4 : decode cX7_cell 4 = .ok (.ifCond .ne 6, 3) := by decide +kernel
theorem dX7_cell_7 : decode cX7_cell 7 = .ok (.bipush (-2), 2) := by decide +kernel
theorem dX7_cell_9 : decode cX7_cell 9 = .ok (.ireturn, 1) := by decide +kernel
theorem dX7_cell_10 : decode cX7_cell 10 = .ok (.aload_n 0, 1) := by decide +kernel
theorem dX7_cell_11 : decode cX7_cell 11 = .ok (.getfield 22, 3) := by decide +kernel
theorem dX7_cell_14 : decode cX7_cell 14 = .ok (.iload_n 1, 1) := by decide +kernel
theorem dX7_cell_15 : decode cX7_cell 15 = .ok (.aaload, 1) := by decide +kernel
theorem dX7_cell_16 : decode cX7_cell 16 = .ok (.invokevirtual 88, 3) := by decide +kernel
theorem dX7_cell_19 : decode cX7_cell 19 = .ok (.ifCond .eq 6, 3) := by decide +kernel
theorem dX7_cell_22 : decode cX7_cell 22 = .ok (.bipush (-11), 2) := by decide +kernel
theorem dX7_cell_24 : decode cX7_cell 24 = .ok (.ireturn, 1) := by decide +kernel
theorem dX7_cell_25 : decode cX7_cell 25 = .ok (.aload_n 0, 1) := by decide +kernel
theorem dX7_cell_26 : decode cX7_cell 26 = .ok (.getfield 22, 3) := by decide +kernel
theorem dX7_cell_29 : decode cX7_cell 29 = .ok (.iload_n 1, 1) := by decide +kernel
theorem dX7_cell_30 : decode cX7_cell 30 = .ok (.aaload, 1) := by decide +kernel
theorem dX7_cell_31 : decode cX7_cell 31 = .ok (.iload_n 2, 1) := by decide +kernel
theorem dX7_cell_32 : decode cX7_cell 32 = .ok (.iconst 1, 1) := by decide +kernel
theorem dX7_cell_33 : decode cX7_cell 33 = .ok (.invokevirtual 95, 3) := by decide +kernel
theorem dX7_cell_36 : decode cX7_cell 36 = .ok (.ifCond .ne 6, 3) := by decide +kernel
theorem dX7_cell_39 : decode cX7_cell 39 = .ok (.bipush (-12), 2) := by decide +kernel
theorem dX7_cell_41 : decode cX7_cell 41 = .ok (.ireturn, 1) := by decide +kernel
theorem dX7_cell_42 : decode cX7_cell 42 = .ok (.aload_n 0, 1) := by decide +kernel
theorem dX7_cell_43 : decode cX7_cell 43 = .ok (.getfield 22, 3) := by decide +kernel
theorem dX7_cell_46 : decode cX7_cell 46 = .ok (.iload_n 1, 1) := by decide +kernel
theorem dX7_cell_47 : decode cX7_cell 47 = .ok (.aaload, 1) := by decide +kernel
theorem dX7_cell_48 : decode cX7_cell 48 = .ok (.getfield 99, 3) := by decide +kernel
theorem dX7_cell_51 : decode cX7_cell 51 = .ok (.iload_n 2, 1) := by decide +kernel
theorem dX7_cell_52 : decode cX7_cell 52 = .ok (.aload_n 0, 1) := by decide +kernel
theorem dX7_cell_53 : decode cX7_cell 53 = .ok (.getfield 22, 3) := by decide +kernel
theorem dX7_cell_56 : decode cX7_cell 56 = .ok (.iload_n 1, 1) := by decide +kernel
theorem dX7_cell_57 : decode cX7_cell 57 = .ok (.aaload, 1) := by decide +kernel
theorem dX7_cell_58 : decode cX7_cell 58 = .ok (.iload_n 3, 1) := by decide +kernel
theorem dX7_cell_59 : decode cX7_cell 59 = .ok (.invokevirtual 274, 3) := by decide +kernel
theorem dX7_cell_62 : decode cX7_cell 62 = .ok (.iastore, 1) := by decide +kernel
theorem dX7_cell_63 : decode cX7_cell 63 = .ok (.iconst 1, 1) := by decide +kernel
theorem dX7_cell_64 : decode cX7_cell 64 = .ok (.ireturn, 1) := by decide +kernel
theorem dX7_copy_0 : decode cX7_copy 0 = .ok (.iload_n 1, 1) := by decide +kernel
theorem dX7_copy_1 : decode cX7_copy 1 = .ok (.invokestatic 81, 3) := by decide +kernel
theorem dX7_copy_4 : decode cX7_copy 4 = .ok (.ifCond .eq 10, 3) := by decide +kernel
theorem dX7_copy_7 : decode cX7_copy 7 = .ok (.iload_n 3, 1) := by decide +kernel
theorem dX7_copy_8 : decode cX7_copy 8 = .ok (.invokestatic 81, 3) := by decide +kernel
theorem dX7_copy_11 : decode cX7_copy 11 = .ok (.ifCond .ne 6, 3) := by decide +kernel
theorem dX7_copy_14 : decode cX7_copy 14 = .ok (.bipush (-2), 2) := by decide +kernel
theorem dX7_copy_16 : decode cX7_copy 16 = .ok (.ireturn, 1) := by decide +kernel
theorem dX7_copy_17 : decode cX7_copy 17 = .ok (.aload_n 0, 1) := by decide +kernel
theorem dX7_copy_18 : decode cX7_copy 18 = .ok (.getfield 22, 3) := by decide +kernel
theorem dX7_copy_21 : decode cX7_copy 21 = .ok (.iload_n 1, 1) := by decide +kernel
theorem dX7_copy_22 : decode cX7_copy 22 = .ok (.aaload, 1) := by decide +kernel
theorem dX7_copy_23 : decode cX7_copy 23 = .ok (.astore 6, 2) := by decide +kernel
theorem dX7_copy_25 : decode cX7_copy 25 = .ok (.aload_n 0, 1) := by decide +kernel
theorem dX7_copy_26 : decode cX7_copy 26 = .ok (.getfield 22, 3) := by decide +kernel
theorem dX7_copy_29 : decode cX7_copy 29 = .ok (.iload_n 3, 1) := by decide +kernel
theorem dX7_copy_30 : decode cX7_copy 30 = .ok (.aaload, 1) := by decide +kernel
theorem dX7_copy_31 : decode cX7_copy 31 = .ok (.astore 7, 2) := by decide +kernel
theorem dX7_copy_33 : decode cX7_copy 33 = .ok (.aload 6, 2) := by decide +kernel
theorem dX7_copy_35 : decode cX7_copy 35 = .ok (.invokevirtual 88, 3) := by decide +kernel
theorem dX7_copy_38 : decode cX7_copy 38 = .ok (.ifCond .ne 11, 3) := by decide +kernel
theorem dX7_copy_41 : decode cX7_copy 41 = .ok (.aload 7, 2) := by decide +kernel
theorem dX7_copy_43 : decode cX7_copy 43 = .ok (.invokevirtual 88, 3) := by decide +kernel
theorem dX7_copy_46 : decode cX7_copy 46 = .ok (.ifCond .eq 6, 3) := by decide +kernel
theorem dX7_copy_49 : decode cX7_copy 49 = .ok (.bipush (-11), 2) := by decide +kernel
theorem dX7_copy_51 : decode cX7_copy 51 = .ok (.ireturn, 1) := by decide +kernel
theorem dX7_copy_52 : decode cX7_copy 52 = .ok (.aload 6, 2) := by decide +kernel
theorem dX7_copy_54 : decode cX7_copy 54 = .ok (.getfield 92, 3) := by decide +kernel
theorem dX7_copy_57 : decode cX7_copy 57 = .ok (.aload 7, 2) := by decide +kernel
theorem dX7_copy_59 : decode cX7_copy 59 = .ok (.getfield 92, 3) := by decide +kernel
theorem dX7_copy_62 : decode cX7_copy 62 = .ok (.if_icmp .eq 6, 3) := by decide +kernel
theorem dX7_copy_65 : decode cX7_copy 65 = .ok (.bipush (-13), 2) := by decide +kernel
theorem dX7_copy_67 : decode cX7_copy 67 = .ok (.ireturn, 1) := by decide +kernel
theorem dX7_copy_68 : decode cX7_copy 68 = .ok (.aload 6, 2) := by decide +kernel
theorem dX7_copy_70 : decode cX7_copy 70 = .ok (.iload_n 2, 1) := by decide +kernel
theorem dX7_copy_71 : decode cX7_copy 71 = .ok (.iload 5, 2) := by decide +kernel
theorem dX7_copy_73 : decode cX7_copy 73 = .ok (.invokevirtual 95, 3) := by decide +kernel
theorem dX7_copy_76 : decode cX7_copy 76 = .ok (.ifCond .eq 15, 3) := by decide +kernel
theorem dX7_copy_79 : decode cX7_copy 79 = .ok (.aload 7, 2) := by decide +kernel
theorem dX7_copy_81 : decode cX7_copy 81 = .ok (.iload 4, 2) := by decide +kernel
theorem dX7_copy_83 : decode cX7_copy 83 = .ok (.iload 5, 2) := by decide +kernel
theorem dX7_copy_85 : decode cX7_copy 85 = .ok (.invokevirtual 95, 3) := by decide +kernel
theorem dX7_copy_88 : decode cX7_copy 88 = .ok (.ifCond .ne 6, 3) := by decide +kernel
theorem dX7_copy_91 : decode cX7_copy 91 = .ok (.bipush (-12), 2) := by decide +kernel
theorem dX7_copy_93 : decode cX7_copy 93 = .ok (.ireturn, 1) := by decide +kernel
theorem dX7_copy_94 : decode cX7_copy 94 = .ok (.aload 6, 2) := by decide +kernel
theorem dX7_copy_96 : decode cX7_copy 96 = .ok (.getfield 99, 3) := by decide +kernel
theorem dX7_copy_99 : decode cX7_copy 99 = .ok (.iload_n 2, 1) := by decide +kernel
theorem dX7_copy_100 : decode cX7_copy 100 = .ok (.aload 7, 2) := by decide +kernel
theorem dX7_copy_102 : decode cX7_copy 102 = .ok (.getfield 99, 3) := by decide +kernel
theorem dX7_copy_105 : decode cX7_copy 105 = .ok (.iload 4, 2) := by decide +kernel
theorem dX7_copy_107 : decode cX7_copy 107 = .ok (.iload 5, 2) := by decide +kernel
theorem dX7_copy_109 : decode cX7_copy 109 = .ok (.invokestatic 106, 3) := by decide +kernel
theorem dX7_copy_112 : decode cX7_copy 112 = .ok (.iload 5, 2) := by decide +kernel
theorem dX7_copy_114 : decode cX7_copy 114 = .ok (.ireturn, 1) := by decide +kernel
theorem dX7_isPack_0 : decode cX7_isPack 0 = .ok (.iload_n 1, 1) := by decide +kernel
theorem dX7_isPack_1 : decode cX7_isPack 1 = .ok (.ifCond .lt 15, 3) := by decide +kernel
theorem dX7_isPack_4 : decode cX7_isPack 4 = .ok (.iload_n 1, 1) := by decide +kernel
theorem dX7_isPack_5 : decode cX7_isPack 5 = .ok (.aload_n 0, 1) := by decide +kernel
theorem dX7_isPack_6 : decode cX7_isPack 6 = .ok (.getfield 37, 3) := by decide +kernel
theorem dX7_isPack_9 : decode cX7_isPack 9 = .ok (.if_icmp .ge 7, 3) := by decide +kernel
theorem dX7_isPack_12 : decode cX7_isPack 12 = .ok (.iconst 1, 1) := by decide +kernel
theorem dX7_isPack_13 : decode cX7_isPack 13 = .ok (.goto 4, 3) := by decide +kernel
theorem dX7_isPack_16 : decode cX7_isPack 16 = .ok (.iconst 0, 1) := by decide +kernel
theorem dX7_isPack_17 : decode cX7_isPack 17 = .ok (.ireturn, 1) := by decide +kernel
theorem dX7_isShuffle_0 : decode cX7_isShuffle 0 = .ok (.iload_n 1, 1) := by decide +kernel
theorem dX7_isShuffle_1 : decode cX7_isShuffle 1 = .ok (.ifCond .lt 15, 3) := by decide +kernel
theorem dX7_isShuffle_4 : decode cX7_isShuffle 4 = .ok (.iload_n 1, 1) := by decide +kernel
theorem dX7_isShuffle_5 : decode cX7_isShuffle 5 = .ok (.aload_n 0, 1) := by decide +kernel
theorem dX7_isShuffle_6 : decode cX7_isShuffle 6 = .ok (.getfield 40, 3) := by decide +kernel
theorem dX7_isShuffle_9 : decode cX7_isShuffle 9 = .ok (.if_icmp .ge 7, 3) := by decide +kernel
theorem dX7_isShuffle_12 : decode cX7_isShuffle 12 = .ok (.iconst 1, 1) := by decide +kernel
theorem dX7_isShuffle_13 : decode cX7_isShuffle 13 = .ok (.goto 4, 3) := by decide +kernel
theorem dX7_isShuffle_16 : decode cX7_isShuffle 16 = .ok (.iconst 0, 1) := by decide +kernel
theorem dX7_isShuffle_17 : decode cX7_isShuffle 17 = .ok (.ireturn, 1) := by decide +kernel
theorem dX7_isPlace_0 : decode cX7_isPlace 0 = .ok (.iload_n 1, 1) := by decide +kernel
theorem dX7_isPlace_1 : decode cX7_isPlace 1 = .ok (.ifCond .lt 15, 3) := by decide +kernel
theorem dX7_isPlace_4 : decode cX7_isPlace 4 = .ok (.iload_n 1, 1) := by decide +kernel
theorem dX7_isPlace_5 : decode cX7_isPlace 5 = .ok (.aload_n 0, 1) := by decide +kernel
theorem dX7_isPlace_6 : decode cX7_isPlace 6 = .ok (.getfield 33, 3) := by decide +kernel
theorem dX7_isPlace_9 : decode cX7_isPlace 9 = .ok (.if_icmp .ge 7, 3) := by decide +kernel
theorem dX7_isPlace_12 : decode cX7_isPlace 12 = .ok (.iconst 1, 1) := by decide +kernel
theorem dX7_isPlace_13 : decode cX7_isPlace 13 = .ok (.goto 4, 3) := by decide +kernel
theorem dX7_isPlace_16 : decode cX7_isPlace 16 = .ok (.iconst 0, 1) := by decide +kernel
theorem dX7_isPlace_17 : decode cX7_isPlace 17 = .ok (.ireturn, 1) := by decide +kernel
theorem dX7_isOdd_0 : decode cX7_isOdd 0 = .ok (.aload_n 0, 1) := by decide +kernel
theorem dX7_isOdd_1 : decode cX7_isOdd 1 = .ok (.getfield 33, 3) := by decide +kernel
theorem dX7_isOdd_4 : decode cX7_isOdd 4 = .ok (.iconst 1, 1) := by decide +kernel
theorem dX7_isOdd_5 : decode cX7_isOdd 5 = .ok (.iand, 1) := by decide +kernel
theorem dX7_isOdd_6 : decode cX7_isOdd 6 = .ok (.ifCond .eq 7, 3) := by decide +kernel
theorem dX7_isOdd_9 : decode cX7_isOdd 9 = .ok (.iconst 1, 1) := by decide +kernel
theorem dX7_isOdd_10 : decode cX7_isOdd 10 = .ok (.goto 4, 3) := by decide +kernel
theorem dX7_isOdd_13 : decode cX7_isOdd 13 = .ok (.iconst 0, 1) := by decide +kernel
theorem dX7_isOdd_14 : decode cX7_isOdd 14 = .ok (.ireturn, 1) := by decide +kernel
theorem dX7_isTray_0 : decode cX7_isTray 0 = .ok (.iload_n 0, 1) := by decide +kernel
theorem dX7_isTray_1 : decode cX7_isTray 1 = .ok (.ifCond .lt 12, 3) := by decide +kernel
theorem dX7_isTray_4 : decode cX7_isTray 4 = .ok (.iload_n 0, 1) := by decide +kernel
theorem dX7_isTray_5 : decode cX7_isTray 5 = .ok (.iconst 4, 1) := by decide +kernel
theorem dX7_isTray_6 : decode cX7_isTray 6 = .ok (.if_icmp .ge 7, 3) := by decide +kernel
theorem dX7_isTray_9 : decode cX7_isTray 9 = .ok (.iconst 1, 1) := by decide +kernel
theorem dX7_isTray_10 : decode cX7_isTray 10 = .ok (.goto 4, 3) := by decide +kernel
theorem dX7_isTray_13 : decode cX7_isTray 13 = .ok (.iconst 0, 1) := by decide +kernel
theorem dX7_isTray_14 : decode cX7_isTray 14 = .ok (.ireturn, 1) := by decide +kernel
theorem dX7_isSort_0 : decode cX7_isSort 0 = .ok (.iload_n 0, 1) := by decide +kernel
theorem dX7_isSort_1 : decode cX7_isSort 1 = .ok (.ifCond .lt 12, 3) := by decide +kernel
theorem dX7_isSort_4 : decode cX7_isSort 4 = .ok (.iload_n 0, 1) := by decide +kernel
theorem dX7_isSort_5 : decode cX7_isSort 5 = .ok (.iconst 2, 1) := by decide +kernel
theorem dX7_isSort_6 : decode cX7_isSort 6 = .ok (.if_icmp .gt 7, 3) := by decide +kernel
theorem dX7_isSort_9 : decode cX7_isSort 9 = .ok (.iconst 1, 1) := by decide +kernel
theorem dX7_isSort_10 : decode cX7_isSort 10 = .ok (.goto 4, 3) := by decide +kernel
theorem dX7_isSort_13 : decode cX7_isSort 13 = .ok (.iconst 0, 1) := by decide +kernel
theorem dX7_isSort_14 : decode cX7_isSort 14 = .ok (.ireturn, 1) := by decide +kernel
theorem dX7_isPart_0 : decode cX7_isPart 0 = .ok (.iload_n 0, 1) := by decide +kernel
theorem dX7_isPart_1 : decode cX7_isPart 1 = .ok (.ifCond .eq 8, 3) := by decide +kernel
theorem dX7_isPart_4 : decode cX7_isPart 4 = .ok (.iload_n 0, 1) := by decide +kernel
theorem dX7_isPart_5 : decode cX7_isPart 5 = .ok (.iconst 1, 1) := by decide +kernel
theorem dX7_isPart_6 : decode cX7_isPart 6 = .ok (.if_icmp .ne 7, 3) := by decide +kernel
theorem dX7_isPart_9 : decode cX7_isPart 9 = .ok (.iconst 1, 1) := by decide +kernel
theorem dX7_isPart_10 : decode cX7_isPart 10 = .ok (.goto 4, 3) := by decide +kernel
theorem dX7_isPart_13 : decode cX7_isPart 13 = .ok (.iconst 0, 1) := by decide +kernel
theorem dX7_isPart_14 : decode cX7_isPart 14 = .ok (.ireturn, 1) := by decide +kernel
theorem dX7_addShuffle_0 : decode cX7_addShuffle 0 = .ok (.aload_n 0, 1) := by decide +kernel
theorem dX7_addShuffle_1 : decode cX7_addShuffle 1 = .ok (.getfield 16, 3) := by decide +kernel
theorem dX7_addShuffle_4 : decode cX7_addShuffle 4 = .ok (.aload_n 0, 1) := by decide +kernel
theorem dX7_addShuffle_5 : decode cX7_addShuffle 5 = .ok (.getfield 40, 3) := by decide +kernel
theorem dX7_addShuffle_8 : decode cX7_addShuffle 8 = .ok (.aaload, 1) := by decide +kernel
theorem dX7_addShuffle_9 : decode cX7_addShuffle 9 = .ok (.iload_n 1, 1) := by decide +kernel
theorem dX7_addShuffle_10 : decode cX7_addShuffle 10 = .ok (.putfield 158, 3) := by decide +kernel
theorem dX7_addShuffle_13 : decode cX7_addShuffle 13 = .ok (.aload_n 0, 1) := by decide +kernel
theorem dX7_addShuffle_14 : decode cX7_addShuffle 14 = .ok (.getfield 16, 3) := by decide +kernel
theorem dX7_addShuffle_17 : decode cX7_addShuffle 17 = .ok (.aload_n 0, 1) := by decide +kernel
theorem dX7_addShuffle_18 : decode cX7_addShuffle 18 = .ok (.getfield 40, 3) := by decide +kernel
theorem dX7_addShuffle_21 : decode cX7_addShuffle 21 = .ok (.aaload, 1) := by decide +kernel
theorem dX7_addShuffle_22 : decode cX7_addShuffle 22 = .ok (.iload_n 2, 1) := by decide +kernel
theorem dX7_addShuffle_23 : decode cX7_addShuffle 23 = .ok (.putfield 161, 3) := by decide +kernel
theorem dX7_addShuffle_26 : decode cX7_addShuffle 26 = .ok (.aload_n 0, 1) := by decide +kernel
theorem dX7_addShuffle_27 : decode cX7_addShuffle 27 = .ok (.dup, 1) := by decide +kernel
theorem dX7_addShuffle_28 : decode cX7_addShuffle 28 = .ok (.getfield 40, 3) := by decide +kernel
theorem dX7_addShuffle_31 : decode cX7_addShuffle 31 = .ok (.dup_x1, 1) := by decide +kernel
theorem dX7_addShuffle_32 : decode cX7_addShuffle 32 = .ok (.iconst 1, 1) := by decide +kernel
theorem dX7_addShuffle_33 : decode cX7_addShuffle 33 = .ok (.iadd, 1) := by decide +kernel
theorem dX7_addShuffle_34 : decode cX7_addShuffle 34 = .ok (.putfield 40, 3) := by decide +kernel
theorem dX7_addShuffle_37 : decode cX7_addShuffle 37 = .ok (.ireturn, 1) := by decide +kernel
theorem dX7_lotsOf_0 : decode cX7_lotsOf 0 = .ok (.aload_n 1, 1) := by decide +kernel
theorem dX7_lotsOf_1 : decode cX7_lotsOf 1 = .ok (.getfield 158, 3) := by decide +kernel
theorem dX7_lotsOf_4 : decode cX7_lotsOf 4 = .ok (.iconst 4, 1) := by decide +kernel
theorem dX7_lotsOf_5 : decode cX7_lotsOf 5 = .ok (.if_icmp .ne 7, 3) := by decide +kernel
theorem dX7_lotsOf_8 : decode cX7_lotsOf 8 = .ok (.iconst 1, 1) := by decide +kernel
theorem dX7_lotsOf_9 : decode cX7_lotsOf 9 = .ok (.goto 7, 3) := by decide +kernel
theorem dX7_lotsOf_12 : decode cX7_lotsOf 12 = .ok (.aload_n 0, 1) := by decide +kernel
theorem dX7_lotsOf_13 : decode cX7_lotsOf 13 = .ok (.getfield 33, 3) := by decide +kernel
theorem dX7_lotsOf_16 : decode cX7_lotsOf 16 = .ok (.ireturn, 1) := by decide +kernel
theorem dX7_drawnLot_0 : decode cX7_drawnLot 0 = .ok (.iconst 0, 1) := by decide +kernel
theorem dX7_drawnLot_1 : decode cX7_drawnLot 1 = .ok (.istore_n 2, 1) := by decide +kernel
theorem dX7_drawnLot_2 : decode cX7_drawnLot 2 = .ok (.iload_n 2, 1) := by decide +kernel
theorem dX7_drawnLot_3 : decode cX7_drawnLot 3 = .ok (.ldc_w 277, 3) := by decide +kernel
theorem dX7_drawnLot_6 : decode cX7_drawnLot 6 = .ok (.if_icmp .ge 43, 3) := by decide +kernel
theorem dX7_drawnLot_9 : decode cX7_drawnLot 9 = .ok (.aload_n 0, 1) := by decide +kernel
theorem dX7_drawnLot_10 : decode cX7_drawnLot 10 = .ok (.aload_n 0, 1) := by decide +kernel
theorem dX7_drawnLot_11 : decode cX7_drawnLot 11 = .ok (.getfield 43, 3) := by decide +kernel
theorem dX7_drawnLot_14 : decode cX7_drawnLot 14 = .ok (.ldc_w 278, 3) := by decide +kernel
theorem dX7_drawnLot_17 : decode cX7_drawnLot 17 = .ok (.imul, 1) := by decide +kernel
theorem dX7_drawnLot_18 : decode cX7_drawnLot 18 = .ok (.sipush 12345, 3) := by decide +kernel
theorem dX7_drawnLot_21 : decode cX7_drawnLot 21 = .ok (.iadd, 1) := by decide +kernel
theorem dX7_drawnLot_22 : decode cX7_drawnLot 22 = .ok (.putfield 43, 3) := by decide +kernel
theorem dX7_drawnLot_25 : decode cX7_drawnLot 25 = .ok (.aload_n 0, 1) := by decide +kernel
theorem dX7_drawnLot_26 : decode cX7_drawnLot 26 = .ok (.getfield 43, 3) := by decide +kernel
theorem dX7_drawnLot_29 : decode cX7_drawnLot 29 = .ok (.bipush 16, 2) := by decide +kernel
theorem dX7_drawnLot_31 : decode cX7_drawnLot 31 = .ok (.iushr, 1) := by decide +kernel
theorem dX7_drawnLot_32 : decode cX7_drawnLot 32 = .ok (.bipush 15, 2) := by decide +kernel
theorem dX7_drawnLot_34 : decode cX7_drawnLot 34 = .ok (.iand, 1) := by decide +kernel
theorem dX7_drawnLot_35 : decode cX7_drawnLot 35 = .ok (.istore_n 3, 1) := by decide +kernel
theorem dX7_drawnLot_36 : decode cX7_drawnLot 36 = .ok (.iload_n 3, 1) := by decide +kernel
theorem dX7_drawnLot_37 : decode cX7_drawnLot 37 = .ok (.iload_n 1, 1) := by decide +kernel
theorem dX7_drawnLot_38 : decode cX7_drawnLot 38 = .ok (.if_icmp .ge 5, 3) := by decide +kernel
theorem dX7_drawnLot_41 : decode cX7_drawnLot 41 = .ok (.iload_n 3, 1) := by decide +kernel
theorem dX7_drawnLot_42 : decode cX7_drawnLot 42 = .ok (.ireturn, 1) := by decide +kernel
theorem dX7_drawnLot_43 : decode cX7_drawnLot 43 = .ok (.iinc 2 1, 3) := by decide +kernel
theorem dX7_drawnLot_46 : decode cX7_drawnLot 46 = .ok (.goto (-44), 3) := by decide +kernel
theorem dX7_drawnLot_49 : decode cX7_drawnLot 49 = .ok (.iconst 0, 1) := by decide +kernel
theorem dX7_drawnLot_50 : decode cX7_drawnLot 50 = .ok (.ireturn, 1) := by decide +kernel
theorem dX7_layByLots_0 : decode cX7_layByLots 0 = .ok (.aload_n 1, 1) := by decide +kernel
theorem dX7_layByLots_1 : decode cX7_layByLots 1 = .ok (.getfield 158, 3) := by decide +kernel
theorem dX7_layByLots_4 : decode cX7_layByLots 4 = .ok (.iconst 4, 1) := by decide +kernel
theorem dX7_layByLots_5 : decode cX7_layByLots 5 = .ok (.if_icmp .ne 16, 3) := by decide +kernel
theorem dX7_layByLots_8 : decode cX7_layByLots 8 = .ok (.aload_n 2, 1) := by decide +kernel
theorem dX7_layByLots_9 : decode cX7_layByLots 9 = .ok (.aload_n 0, 1) := by decide +kernel
theorem dX7_layByLots_10 : decode cX7_layByLots 10 = .ok (.getfield 53, 3) := by decide +kernel
theorem dX7_layByLots_13 : decode cX7_layByLots 13 = .ok (.iconst 0, 1) := by decide +kernel
theorem dX7_layByLots_14 : decode cX7_layByLots 14 = .ok (.iaload, 1) := by decide +kernel
theorem dX7_layByLots_15 : decode cX7_layByLots 15 = .ok (.invokestatic 279, 3) := by decide +kernel
theorem dX7_layByLots_18 : decode cX7_layByLots 18 = .ok (.goto 12, 3) := by decide +kernel
theorem dX7_layByLots_21 : decode cX7_layByLots 21 = .ok (.aload_n 0, 1) := by decide +kernel
theorem dX7_layByLots_22 : decode cX7_layByLots 22 = .ok (.aload_n 2, 1) := by decide +kernel
theorem dX7_layByLots_23 : decode cX7_layByLots 23 = .ok (.aload_n 1, 1) := by decide +kernel
theorem dX7_layByLots_24 : decode cX7_layByLots 24 = .ok (.getfield 161, 3) := by decide +kernel
theorem dX7_layByLots_27 : decode cX7_layByLots 27 = .ok (.invokevirtual 283, 3) := by decide +kernel
theorem dX7_layByLots_30 : decode cX7_layByLots 30 = .ok (.return_, 1) := by decide +kernel
theorem dX7_layTop_0 : decode cX7_layTop 0 = .ok (.aload_n 0, 1) := by decide +kernel
theorem dX7_layTop_1 : decode cX7_layTop 1 = .ok (.iconst 0, 1) := by decide +kernel
theorem dX7_layTop_2 : decode cX7_layTop 2 = .ok (.iaload, 1) := by decide +kernel
theorem dX7_layTop_3 : decode cX7_layTop 3 = .ok (.istore_n 2, 1) := by decide +kernel
theorem dX7_layTop_4 : decode cX7_layTop 4 = .ok (.iconst 0, 1) := by decide +kernel
theorem dX7_layTop_5 : decode cX7_layTop 5 = .ok (.istore_n 3, 1) := by decide +kernel
theorem dX7_layTop_6 : decode cX7_layTop 6 = .ok (.iload_n 3, 1) := by decide +kernel
theorem dX7_layTop_7 : decode cX7_layTop 7 = .ok (.iload_n 1, 1) := by decide +kernel
theorem dX7_layTop_8 : decode cX7_layTop 8 = .ok (.if_icmp .ge 17, 3) := by decide +kernel
theorem dX7_layTop_11 : decode cX7_layTop 11 = .ok (.aload_n 0, 1) := by decide +kernel
theorem dX7_layTop_12 : decode cX7_layTop 12 = .ok (.iload_n 3, 1) := by decide +kernel
theorem dX7_layTop_13 : decode cX7_layTop 13 = .ok (.aload_n 0, 1) := by decide +kernel
theorem dX7_layTop_14 : decode cX7_layTop 14 = .ok (.iload_n 3, 1) := by decide +kernel
theorem dX7_layTop_15 : decode cX7_layTop 15 = .ok (.iconst 1, 1) := by decide +kernel
theorem dX7_layTop_16 : decode cX7_layTop 16 = .ok (.iadd, 1) := by decide +kernel
theorem dX7_layTop_17 : decode cX7_layTop 17 = .ok (.iaload, 1) := by decide +kernel
theorem dX7_layTop_18 : decode cX7_layTop 18 = .ok (.iastore, 1) := by decide +kernel
theorem dX7_layTop_19 : decode cX7_layTop 19 = .ok (.iinc 3 1, 3) := by decide +kernel
theorem dX7_layTop_22 : decode cX7_layTop 22 = .ok (.goto (-16), 3) := by decide +kernel
theorem dX7_layTop_25 : decode cX7_layTop 25 = .ok (.aload_n 0, 1) := by decide +kernel
theorem dX7_layTop_26 : decode cX7_layTop 26 = .ok (.iload_n 1, 1) := by decide +kernel
theorem dX7_layTop_27 : decode cX7_layTop 27 = .ok (.iload_n 2, 1) := by decide +kernel
theorem dX7_layTop_28 : decode cX7_layTop 28 = .ok (.iastore, 1) := by decide +kernel
theorem dX7_layTop_29 : decode cX7_layTop 29 = .ok (.return_, 1) := by decide +kernel
theorem dX7_layRiffle_0 : decode cX7_layRiffle 0 = .ok (.iconst 0, 1) := by decide +kernel
theorem dX7_layRiffle_1 : decode cX7_layRiffle 1 = .ok (.istore_n 3, 1) := by decide +kernel
theorem dX7_layRiffle_2 : decode cX7_layRiffle 2 = .ok (.iload_n 3, 1) := by decide +kernel
theorem dX7_layRiffle_3 : decode cX7_layRiffle 3 = .ok (.iload_n 2, 1) := by decide +kernel
theorem dX7_layRiffle_4 : decode cX7_layRiffle 4 = .ok (.if_icmp .ge 16, 3) := by decide +kernel
theorem dX7_layRiffle_7 : decode cX7_layRiffle 7 = .ok (.aload_n 0, 1) := by decide +kernel
theorem dX7_layRiffle_8 : decode cX7_layRiffle 8 = .ok (.getfield 56, 3) := by decide +kernel
theorem dX7_layRiffle_11 : decode cX7_layRiffle 11 = .ok (.iload_n 3, 1) := by decide +kernel
theorem dX7_layRiffle_12 : decode cX7_layRiffle 12 = .ok (.iconst 0, 1) := by decide +kernel
theorem dX7_layRiffle_13 : decode cX7_layRiffle 13 = .ok (.iastore, 1) := by decide +kernel
theorem dX7_layRiffle_14 : decode cX7_layRiffle 14 = .ok (.iinc 3 1, 3) := by decide +kernel
theorem dX7_layRiffle_17 : decode cX7_layRiffle 17 = .ok (.goto (-15), 3) := by decide +kernel
theorem dX7_layRiffle_20 : decode cX7_layRiffle 20 = .ok (.iconst 0, 1) := by decide +kernel
theorem dX7_layRiffle_21 : decode cX7_layRiffle 21 = .ok (.istore_n 3, 1) := by decide +kernel
theorem dX7_layRiffle_22 : decode cX7_layRiffle 22 = .ok (.iload_n 3, 1) := by decide +kernel
theorem dX7_layRiffle_23 : decode cX7_layRiffle 23 = .ok (.aload_n 0, 1) := by decide +kernel
theorem dX7_layRiffle_24 : decode cX7_layRiffle 24 = .ok (.getfield 33, 3) := by decide +kernel
theorem dX7_layRiffle_27 : decode cX7_layRiffle 27 = .ok (.if_icmp .ge 33, 3) := by decide +kernel
theorem dX7_layRiffle_30 : decode cX7_layRiffle 30 = .ok (.aload_n 0, 1) := by decide +kernel
theorem dX7_layRiffle_31 : decode cX7_layRiffle 31 = .ok (.getfield 46, 3) := by decide +kernel
theorem dX7_layRiffle_34 : decode cX7_layRiffle 34 = .ok (.iload_n 3, 1) := by decide +kernel
theorem dX7_layRiffle_35 : decode cX7_layRiffle 35 = .ok (.aload_n 1, 1) := by decide +kernel
theorem dX7_layRiffle_36 : decode cX7_layRiffle 36 = .ok (.iload_n 3, 1) := by decide +kernel
theorem dX7_layRiffle_37 : decode cX7_layRiffle 37 = .ok (.iaload, 1) := by decide +kernel
theorem dX7_layRiffle_38 : decode cX7_layRiffle 38 = .ok (.iastore, 1) := by decide +kernel
theorem dX7_layRiffle_39 : decode cX7_layRiffle 39 = .ok (.aload_n 0, 1) := by decide +kernel
theorem dX7_layRiffle_40 : decode cX7_layRiffle 40 = .ok (.getfield 56, 3) := by decide +kernel
theorem dX7_layRiffle_43 : decode cX7_layRiffle 43 = .ok (.aload_n 0, 1) := by decide +kernel
theorem dX7_layRiffle_44 : decode cX7_layRiffle 44 = .ok (.getfield 53, 3) := by decide +kernel
theorem dX7_layRiffle_47 : decode cX7_layRiffle 47 = .ok (.iload_n 3, 1) := by decide +kernel
theorem dX7_layRiffle_48 : decode cX7_layRiffle 48 = .ok (.iaload, 1) := by decide +kernel
theorem dX7_layRiffle_49 : decode cX7_layRiffle 49 = .ok (.dup2, 1) := by decide +kernel
theorem dX7_layRiffle_50 : decode cX7_layRiffle 50 = .ok (.iaload, 1) := by decide +kernel
theorem dX7_layRiffle_51 : decode cX7_layRiffle 51 = .ok (.iconst 1, 1) := by decide +kernel
theorem dX7_layRiffle_52 : decode cX7_layRiffle 52 = .ok (.iadd, 1) := by decide +kernel
theorem dX7_layRiffle_53 : decode cX7_layRiffle 53 = .ok (.iastore, 1) := by decide +kernel
theorem dX7_layRiffle_54 : decode cX7_layRiffle 54 = .ok (.iinc 3 1, 3) := by decide +kernel
theorem dX7_layRiffle_57 : decode cX7_layRiffle 57 = .ok (.goto (-35), 3) := by decide +kernel
theorem dX7_layRiffle_60 : decode cX7_layRiffle 60 = .ok (.iconst 0, 1) := by decide +kernel
theorem dX7_layRiffle_61 : decode cX7_layRiffle 61 = .ok (.istore_n 3, 1) := by decide +kernel
theorem dX7_layRiffle_62 : decode cX7_layRiffle 62 = .ok (.iconst 0, 1) := by decide +kernel
theorem dX7_layRiffle_63 : decode cX7_layRiffle 63 = .ok (.istore 4, 2) := by decide +kernel
theorem dX7_layRiffle_65 : decode cX7_layRiffle 65 = .ok (.iload 4, 2) := by decide +kernel
theorem dX7_layRiffle_67 : decode cX7_layRiffle 67 = .ok (.iload_n 2, 1) := by decide +kernel
theorem dX7_layRiffle_68 : decode cX7_layRiffle 68 = .ok (.if_icmp .ge 31, 3) := by decide +kernel
theorem dX7_layRiffle_71 : decode cX7_layRiffle 71 = .ok (.aload_n 0, 1) := by decide +kernel
theorem dX7_layRiffle_72 : decode cX7_layRiffle 72 = .ok (.getfield 56, 3) := by decide +kernel
theorem dX7_layRiffle_75 : decode cX7_layRiffle 75 = .ok (.iload 4, 2) := by decide +kernel
theorem dX7_layRiffle_77 : decode cX7_layRiffle 77 = .ok (.iaload, 1) := by decide +kernel
theorem dX7_layRiffle_78 : decode cX7_layRiffle 78 = .ok (.istore 5, 2) := by decide +kernel
theorem dX7_layRiffle_80 : decode cX7_layRiffle 80 = .ok (.aload_n 0, 1) := by decide +kernel
theorem dX7_layRiffle_81 : decode cX7_layRiffle 81 = .ok (.getfield 56, 3) := by decide +kernel
theorem dX7_layRiffle_84 : decode cX7_layRiffle 84 = .ok (.iload 4, 2) := by decide +kernel
theorem dX7_layRiffle_86 : decode cX7_layRiffle 86 = .ok (.iload_n 3, 1) := by decide +kernel
theorem dX7_layRiffle_87 : decode cX7_layRiffle 87 = .ok (.iastore, 1) := by decide +kernel
theorem dX7_layRiffle_88 : decode cX7_layRiffle 88 = .ok (.iload_n 3, 1) := by decide +kernel
theorem dX7_layRiffle_89 : decode cX7_layRiffle 89 = .ok (.iload 5, 2) := by decide +kernel
theorem dX7_layRiffle_91 : decode cX7_layRiffle 91 = .ok (.iadd, 1) := by decide +kernel
theorem dX7_layRiffle_92 : decode cX7_layRiffle 92 = .ok (.istore_n 3, 1) := by decide +kernel
theorem dX7_layRiffle_93 : decode cX7_layRiffle 93 = .ok (.iinc 4 1, 3) := by decide +kernel
theorem dX7_layRiffle_96 : decode cX7_layRiffle 96 = .ok (.goto (-31), 3) := by decide +kernel
theorem dX7_layRiffle_99 : decode cX7_layRiffle 99 = .ok (.iconst 0, 1) := by decide +kernel
theorem dX7_layRiffle_100 : decode cX7_layRiffle 100 = .ok (.istore 4, 2) := by decide +kernel
theorem dX7_layRiffle_102 : decode cX7_layRiffle 102 = .ok (.iload 4, 2) := by decide +kernel
theorem dX7_layRiffle_104 : decode cX7_layRiffle 104 = .ok (.aload_n 0, 1) := by decide +kernel
theorem dX7_layRiffle_105 : decode cX7_layRiffle 105 = .ok (.getfield 33, 3) := by decide +kernel
theorem dX7_layRiffle_108 : decode cX7_layRiffle 108 = .ok (.if_icmp .ge 35, 3) := by decide +kernel
theorem dX7_layRiffle_111 : decode cX7_layRiffle 111 = .ok (.aload_n 1, 1) := by decide +kernel
theorem dX7_layRiffle_112 : decode cX7_layRiffle 112 = .ok (.iload 4, 2) := by decide +kernel
theorem dX7_layRiffle_114 : decode cX7_layRiffle 114 = .ok (.aload_n 0, 1) := by decide +kernel
theorem dX7_layRiffle_115 : decode cX7_layRiffle 115 = .ok (.getfield 46, 3) := by decide +kernel
theorem dX7_layRiffle_118 : decode cX7_layRiffle 118 = .ok (.aload_n 0, 1) := by decide +kernel
theorem dX7_layRiffle_119 : decode cX7_layRiffle 119 = .ok (.getfield 56, 3) := by decide +kernel
theorem dX7_layRiffle_122 : decode cX7_layRiffle 122 = .ok (.aload_n 0, 1) := by decide +kernel
theorem dX7_layRiffle_123 : decode cX7_layRiffle 123 = .ok (.getfield 53, 3) := by decide +kernel
theorem dX7_layRiffle_126 : decode cX7_layRiffle 126 = .ok (.iload 4, 2) := by decide +kernel
theorem dX7_layRiffle_128 : decode cX7_layRiffle 128 = .ok (.iaload, 1) := by decide +kernel
theorem dX7_layRiffle_129 : decode cX7_layRiffle 129 = .ok (.dup2, 1) := by decide +kernel
theorem dX7_layRiffle_130 : decode cX7_layRiffle 130 = .ok (.iaload, 1) := by decide +kernel
theorem dX7_layRiffle_131 : decode cX7_layRiffle 131 = .ok (.dup_x2, 1) := by decide +kernel
theorem dX7_layRiffle_132 : decode cX7_layRiffle 132 = .ok (.iconst 1, 1) := by decide +kernel
theorem dX7_layRiffle_133 : decode cX7_layRiffle 133 = .ok (.iadd, 1) := by decide +kernel
theorem dX7_layRiffle_134 : decode cX7_layRiffle 134 = .ok (.iastore, 1) := by decide +kernel
theorem dX7_layRiffle_135 : decode cX7_layRiffle 135 = .ok (.iaload, 1) := by decide +kernel
theorem dX7_layRiffle_136 : decode cX7_layRiffle 136 = .ok (.iastore, 1) := by decide +kernel
theorem dX7_layRiffle_137 : decode cX7_layRiffle 137 = .ok (.iinc 4 1, 3) := by decide +kernel
theorem dX7_layRiffle_140 : decode cX7_layRiffle 140 = .ok (.goto (-38), 3) := by decide +kernel
theorem dX7_layRiffle_143 : decode cX7_layRiffle 143 = .ok (.return_, 1) := by decide +kernel
theorem dX7_hasChances_0 : decode cX7_hasChances 0 = .ok (.aload_n 1, 1) := by decide +kernel
theorem dX7_hasChances_1 : decode cX7_hasChances 1 = .ok (.invokevirtual 151, 3) := by decide +kernel
theorem dX7_hasChances_4 : decode cX7_hasChances 4 = .ok (.ifCond .ne 13, 3) := by decide +kernel
theorem dX7_hasChances_7 : decode cX7_hasChances 7 = .ok (.iload_n 2, 1) := by decide +kernel
theorem dX7_hasChances_8 : decode cX7_hasChances 8 = .ok (.ifCond .lt 9, 3) := by decide +kernel
theorem dX7_hasChances_11 : decode cX7_hasChances 11 = .ok (.iload_n 2, 1) := by decide +kernel
theorem dX7_hasChances_12 : decode cX7_hasChances 12 = .ok (.bipush 6, 2) := by decide +kernel
theorem dX7_hasChances_14 : decode cX7_hasChances 14 = .ok (.if_icmp .le 5, 3) := by decide +kernel
theorem dX7_hasChances_17 : decode cX7_hasChances 17 = .ok (.iconst 0, 1) := by decide +kernel
theorem dX7_hasChances_18 : decode cX7_hasChances 18 = .ok (.ireturn, 1) := by decide +kernel
theorem dX7_hasChances_19 : decode cX7_hasChances 19 = .ok (.aload_n 1, 1) := by decide +kernel
theorem dX7_hasChances_20 : decode cX7_hasChances 20 = .ok (.getfield 158, 3) := by decide +kernel
theorem dX7_hasChances_23 : decode cX7_hasChances 23 = .ok (.iconst 4, 1) := by decide +kernel
theorem dX7_hasChances_24 : decode cX7_hasChances 24 = .ok (.if_icmp .ne 20, 3) := by decide +kernel
theorem dX7_hasChances_27 : decode cX7_hasChances 27 = .ok (.aload_n 0, 1) := by decide +kernel
theorem dX7_hasChances_28 : decode cX7_hasChances 28 = .ok (.getfield 33, 3) := by decide +kernel
theorem dX7_hasChances_31 : decode cX7_hasChances 31 = .ok (.bipush 6, 2) := by decide +kernel
theorem dX7_hasChances_33 : decode cX7_hasChances 33 = .ok (.if_icmp .gt 7, 3) := by decide +kernel
theorem dX7_hasChances_36 : decode cX7_hasChances 36 = .ok (.iconst 1, 1) := by decide +kernel
theorem dX7_hasChances_37 : decode cX7_hasChances 37 = .ok (.goto 28, 3) := by decide +kernel
theorem dX7_hasChances_40 : decode cX7_hasChances 40 = .ok (.iconst 0, 1) := by decide +kernel
theorem dX7_hasChances_41 : decode cX7_hasChances 41 = .ok (.goto 24, 3) := by decide +kernel
theorem dX7_hasChances_44 : decode cX7_hasChances 44 = .ok (.aload_n 1, 1) := by decide +kernel
theorem dX7_hasChances_45 : decode cX7_hasChances 45 = .ok (.getfield 161, 3) := by decide +kernel
theorem dX7_hasChances_48 : decode cX7_hasChances 48 = .ok (.i2l, 1) := by decide +kernel
theorem dX7_hasChances_49 : decode cX7_hasChances 49 = .ok (.iload_n 2, 1) := by decide +kernel
theorem dX7_hasChances_50 : decode cX7_hasChances 50 = .ok (.invokestatic 183, 3) := by decide +kernel
theorem dX7_hasChances_53 : decode cX7_hasChances 53 = .ok (.ldc2_w 286, 3) := by decide +kernel
theorem dX7_hasChances_56 : decode cX7_hasChances 56 = .ok (.lcmp, 1) := by decide +kernel
theorem dX7_hasChances_57 : decode cX7_hasChances 57 = .ok (.ifCond .gt 7, 3) := by decide +kernel
theorem dX7_hasChances_60 : decode cX7_hasChances 60 = .ok (.iconst 1, 1) := by decide +kernel
theorem dX7_hasChances_61 : decode cX7_hasChances 61 = .ok (.goto 4, 3) := by decide +kernel
theorem dX7_hasChances_64 : decode cX7_hasChances 64 = .ok (.iconst 0, 1) := by decide +kernel
theorem dX7_hasChances_65 : decode cX7_hasChances 65 = .ok (.ireturn, 1) := by decide +kernel
theorem dX7_allRows_0 : decode cX7_allRows 0 = .ok (.aload_n 1, 1) := by decide +kernel
theorem dX7_allRows_1 : decode cX7_allRows 1 = .ok (.getfield 161, 3) := by decide +kernel
theorem dX7_allRows_4 : decode cX7_allRows 4 = .ok (.i2l, 1) := by decide +kernel
theorem dX7_allRows_5 : decode cX7_allRows 5 = .ok (.iload_n 2, 1) := by decide +kernel
theorem dX7_allRows_6 : decode cX7_allRows 6 = .ok (.aload_n 0, 1) := by decide +kernel
theorem dX7_allRows_7 : decode cX7_allRows 7 = .ok (.aload_n 1, 1) := by decide +kernel
theorem dX7_allRows_8 : decode cX7_allRows 8 = .ok (.invokevirtual 179, 3) := by decide +kernel
theorem dX7_allRows_11 : decode cX7_allRows 11 = .ok (.imul, 1) := by decide +kernel
theorem dX7_allRows_12 : decode cX7_allRows 12 = .ok (.invokestatic 183, 3) := by decide +kernel
theorem dX7_allRows_15 : decode cX7_allRows 15 = .ok (.lreturn, 1) := by decide +kernel
theorem dX7_levelOf_0 : decode cX7_levelOf 0 = .ok (.aload_n 2, 1) := by decide +kernel
theorem dX7_levelOf_1 : decode cX7_levelOf 1 = .ok (.aload_n 0, 1) := by decide +kernel
theorem dX7_levelOf_2 : decode cX7_levelOf 2 = .ok (.getfield 50, 3) := by decide +kernel
theorem dX7_levelOf_5 : decode cX7_levelOf 5 = .ok (.aload_n 0, 1) := by decide +kernel
theorem dX7_levelOf_6 : decode cX7_levelOf 6 = .ok (.getfield 33, 3) := by decide +kernel
theorem dX7_levelOf_9 : decode cX7_levelOf 9 = .ok (.invokestatic 118, 3) := by decide +kernel
theorem dX7_levelOf_12 : decode cX7_levelOf 12 = .ok (.aload_n 1, 1) := by decide +kernel
theorem dX7_levelOf_13 : decode cX7_levelOf 13 = .ok (.getfield 158, 3) := by decide +kernel
theorem dX7_levelOf_16 : decode cX7_levelOf 16 = .ok (.iconst 4, 1) := by decide +kernel
theorem dX7_levelOf_17 : decode cX7_levelOf 17 = .ok (.if_icmp .ne 17, 3) := by decide +kernel
theorem dX7_levelOf_20 : decode cX7_levelOf 20 = .ok (.aload_n 0, 1) := by decide +kernel
theorem dX7_levelOf_21 : decode cX7_levelOf 21 = .ok (.getfield 50, 3) := by decide +kernel
theorem dX7_levelOf_24 : decode cX7_levelOf 24 = .ok (.aload_n 0, 1) := by decide +kernel
theorem dX7_levelOf_25 : decode cX7_levelOf 25 = .ok (.getfield 33, 3) := by decide +kernel
theorem dX7_levelOf_28 : decode cX7_levelOf 28 = .ok (.invokestatic 288, 3) := by decide +kernel
theorem dX7_levelOf_31 : decode cX7_levelOf 31 = .ok (.goto 16, 3) := by decide +kernel
theorem dX7_levelOf_34 : decode cX7_levelOf 34 = .ok (.aload_n 0, 1) := by decide +kernel
theorem dX7_levelOf_35 : decode cX7_levelOf 35 = .ok (.getfield 50, 3) := by decide +kernel
theorem dX7_levelOf_38 : decode cX7_levelOf 38 = .ok (.aload_n 0, 1) := by decide +kernel
theorem dX7_levelOf_39 : decode cX7_levelOf 39 = .ok (.getfield 33, 3) := by decide +kernel
theorem dX7_levelOf_42 : decode cX7_levelOf 42 = .ok (.invokestatic 126, 3) := by decide +kernel
theorem dX7_levelOf_45 : decode cX7_levelOf 45 = .ok (.iconst 1, 1) := by decide +kernel
theorem dX7_levelOf_46 : decode cX7_levelOf 46 = .ok (.isub, 1) := by decide +kernel
theorem dX7_levelOf_47 : decode cX7_levelOf 47 = .ok (.ireturn, 1) := by decide +kernel
theorem dX7_countLevels_0 : decode cX7_countLevels 0 = .ok (.aload_n 1, 1) := by decide +kernel
theorem dX7_countLevels_1 : decode cX7_countLevels 1 = .ok (.getfield 158, 3) := by decide +kernel
theorem dX7_countLevels_4 : decode cX7_countLevels 4 = .ok (.iconst 4, 1) := by decide +kernel
theorem dX7_countLevels_5 : decode cX7_countLevels 5 = .ok (.if_icmp .ne 17, 3) := by decide +kernel
theorem dX7_countLevels_8 : decode cX7_countLevels 8 = .ok (.aload_n 0, 1) := by decide +kernel
theorem dX7_countLevels_9 : decode cX7_countLevels 9 = .ok (.getfield 59, 3) := by decide +kernel
theorem dX7_countLevels_12 : decode cX7_countLevels 12 = .ok (.aload_n 0, 1) := by decide +kernel
theorem dX7_countLevels_13 : decode cX7_countLevels 13 = .ok (.getfield 33, 3) := by decide +kernel
theorem dX7_countLevels_16 : decode cX7_countLevels 16 = .ok (.invokestatic 291, 3) := by decide +kernel
theorem dX7_countLevels_19 : decode cX7_countLevels 19 = .ok (.goto 14, 3) := by decide +kernel
theorem dX7_countLevels_22 : decode cX7_countLevels 22 = .ok (.aload_n 0, 1) := by decide +kernel
theorem dX7_countLevels_23 : decode cX7_countLevels 23 = .ok (.getfield 59, 3) := by decide +kernel
theorem dX7_countLevels_26 : decode cX7_countLevels 26 = .ok (.aload_n 0, 1) := by decide +kernel
theorem dX7_countLevels_27 : decode cX7_countLevels 27 = .ok (.getfield 33, 3) := by decide +kernel
theorem dX7_countLevels_30 : decode cX7_countLevels 30 = .ok (.invokestatic 244, 3) := by decide +kernel
theorem dX7_countLevels_33 : decode cX7_countLevels 33 = .ok (.return_, 1) := by decide +kernel
theorem dX7_rowsToLevel_0 : decode cX7_rowsToLevel 0 = .ok (.aload_n 1, 1) := by decide +kernel
theorem dX7_rowsToLevel_1 : decode cX7_rowsToLevel 1 = .ok (.getfield 158, 3) := by decide +kernel
theorem dX7_rowsToLevel_4 : decode cX7_rowsToLevel 4 = .ok (.iconst 4, 1) := by decide +kernel
theorem dX7_rowsToLevel_5 : decode cX7_rowsToLevel 5 = .ok (.if_icmp .eq 30, 3) := by decide +kernel
theorem dX7_rowsToLevel_8 : decode cX7_rowsToLevel 8 = .ok (.aload_n 1, 1) := by decide +kernel
theorem dX7_rowsToLevel_9 : decode cX7_rowsToLevel 9 = .ok (.getfield 161, 3) := by decide +kernel
theorem dX7_rowsToLevel_12 : decode cX7_rowsToLevel 12 = .ok (.i2l, 1) := by decide +kernel
theorem dX7_rowsToLevel_13 : decode cX7_rowsToLevel 13 = .ok (.iload_n 2, 1) := by decide +kernel
theorem dX7_rowsToLevel_14 : decode cX7_rowsToLevel 14 = .ok (.invokestatic 183, 3) := by decide +kernel
theorem dX7_rowsToLevel_17 : decode cX7_rowsToLevel 17 = .ok (.l2i, 1) := by decide +kernel
theorem dX7_rowsToLevel_18 : decode cX7_rowsToLevel 18 = .ok (.aload_n 0, 1) := by decide +kernel
theorem dX7_rowsToLevel_19 : decode cX7_rowsToLevel 19 = .ok (.getfield 33, 3) := by decide +kernel
theorem dX7_rowsToLevel_22 : decode cX7_rowsToLevel 22 = .ok (.iadd, 1) := by decide +kernel
theorem dX7_rowsToLevel_23 : decode cX7_rowsToLevel 23 = .ok (.iconst 1, 1) := by decide +kernel
theorem dX7_rowsToLevel_24 : decode cX7_rowsToLevel 24 = .ok (.isub, 1) := by decide +kernel
theorem dX7_rowsToLevel_25 : decode cX7_rowsToLevel 25 = .ok (.iload_n 3, 1) := by decide +kernel
theorem dX7_rowsToLevel_26 : decode cX7_rowsToLevel 26 = .ok (.isub, 1) := by decide +kernel
theorem dX7_rowsToLevel_27 : decode cX7_rowsToLevel 27 = .ok (.aload_n 0, 1) := by decide +kernel
theorem dX7_rowsToLevel_28 : decode cX7_rowsToLevel 28 = .ok (.getfield 33, 3) := by decide +kernel
theorem dX7_rowsToLevel_31 : decode cX7_rowsToLevel 31 = .ok (.invokestatic 294, 3) := by decide +kernel
theorem dX7_rowsToLevel_34 : decode cX7_rowsToLevel 34 = .ok (.lreturn, 1) := by decide +kernel
theorem dX7_rowsToLevel_35 : decode cX7_rowsToLevel 35 = .ok (.aload_n 0, 1) := by decide +kernel
theorem dX7_rowsToLevel_36 : decode cX7_rowsToLevel 36 = .ok (.getfield 63, 3) := by decide +kernel
theorem dX7_rowsToLevel_39 : decode cX7_rowsToLevel 39 = .ok (.aload_n 0, 1) := by decide +kernel
theorem dX7_rowsToLevel_40 : decode cX7_rowsToLevel 40 = .ok (.getfield 33, 3) := by decide +kernel
theorem dX7_rowsToLevel_43 : decode cX7_rowsToLevel 43 = .ok (.iload_n 2, 1) := by decide +kernel
theorem dX7_rowsToLevel_44 : decode cX7_rowsToLevel 44 = .ok (.invokestatic 298, 3) := by decide +kernel
theorem dX7_rowsToLevel_47 : decode cX7_rowsToLevel 47 = .ok (.lconst 0, 1) := by decide +kernel
theorem dX7_rowsToLevel_48 : decode cX7_rowsToLevel 48 = .ok (.lstore 4, 2) := by decide +kernel
theorem dX7_rowsToLevel_50 : decode cX7_rowsToLevel 50 = .ok (.iload_n 3, 1) := by decide +kernel
theorem dX7_rowsToLevel_51 : decode cX7_rowsToLevel 51 = .ok (.istore 6, 2) := by decide +kernel
theorem dX7_rowsToLevel_53 : decode cX7_rowsToLevel 53 = .ok (.iload 6, 2) := by decide +kernel
theorem dX7_rowsToLevel_55 : decode cX7_rowsToLevel 55 = .ok (.aload_n 0, 1) := by decide +kernel
theorem dX7_rowsToLevel_56 : decode cX7_rowsToLevel 56 = .ok (.getfield 33, 3) := by decide +kernel
theorem dX7_rowsToLevel_59 : decode cX7_rowsToLevel 59 = .ok (.if_icmp .gt 21, 3) := by decide +kernel
theorem dX7_rowsToLevel_62 : decode cX7_rowsToLevel 62 = .ok (.lload 4, 2) := by decide +kernel
theorem dX7_rowsToLevel_64 : decode cX7_rowsToLevel 64 = .ok (.aload_n 0, 1) := by decide +kernel
theorem dX7_rowsToLevel_65 : decode cX7_rowsToLevel 65 = .ok (.getfield 63, 3) := by decide +kernel
theorem dX7_rowsToLevel_68 : decode cX7_rowsToLevel 68 = .ok (.iload 6, 2) := by decide +kernel
theorem dX7_rowsToLevel_70 : decode cX7_rowsToLevel 70 = .ok (.laload, 1) := by decide +kernel
theorem dX7_rowsToLevel_71 : decode cX7_rowsToLevel 71 = .ok (.ladd, 1) := by decide +kernel
theorem dX7_rowsToLevel_72 : decode cX7_rowsToLevel 72 = .ok (.lstore 4, 2) := by decide +kernel
theorem dX7_rowsToLevel_74 : decode cX7_rowsToLevel 74 = .ok (.iinc 6 1, 3) := by decide +kernel
theorem dX7_rowsToLevel_77 : decode cX7_rowsToLevel 77 = .ok (.goto (-24), 3) := by decide +kernel
theorem dX7_rowsToLevel_80 : decode cX7_rowsToLevel 80 = .ok (.lload 4, 2) := by decide +kernel
theorem dX7_rowsToLevel_82 : decode cX7_rowsToLevel 82 = .ok (.lreturn, 1) := by decide +kernel
theorem dX7_topLotsToPlace_0 : decode cX7_topLotsToPlace 0 = .ok (.iload_n 1, 1) := by decide +kernel
theorem dX7_topLotsToPlace_1 : decode cX7_topLotsToPlace 1 = .ok (.ifCond .ne 5, 3) := by decide +kernel
theorem dX7_topLotsToPlace_4 : decode cX7_topLotsToPlace 4 = .ok (.iconst 1, 1) := by decide +kernel
theorem dX7_topLotsToPlace_5 : decode cX7_topLotsToPlace 5 = .ok (.ireturn, 1) := by decide +kernel
theorem dX7_topLotsToPlace_6 : decode cX7_topLotsToPlace 6 = .ok (.iload_n 2, 1) := by decide +kernel
theorem dX7_topLotsToPlace_7 : decode cX7_topLotsToPlace 7 = .ok (.iload_n 1, 1) := by decide +kernel
theorem dX7_topLotsToPlace_8 : decode cX7_topLotsToPlace 8 = .ok (.if_icmp .ne 5, 3) := by decide +kernel
theorem dX7_topLotsToPlace_11 : decode cX7_topLotsToPlace 11 = .ok (.iload_n 1, 1) := by decide +kernel
theorem dX7_topLotsToPlace_12 : decode cX7_topLotsToPlace 12 = .ok (.ireturn, 1) := by decide +kernel
theorem dX7_topLotsToPlace_13 : decode cX7_topLotsToPlace 13 = .ok (.iload_n 2, 1) := by decide +kernel
theorem dX7_topLotsToPlace_14 : decode cX7_topLotsToPlace 14 = .ok (.iload_n 1, 1) := by decide +kernel
theorem dX7_topLotsToPlace_15 : decode cX7_topLotsToPlace 15 = .ok (.iconst 1, 1) := by decide +kernel
theorem dX7_topLotsToPlace_16 : decode cX7_topLotsToPlace 16 = .ok (.isub, 1) := by decide +kernel
theorem dX7_topLotsToPlace_17 : decode cX7_topLotsToPlace 17 = .ok (.if_icmp .ne 12, 3) := by decide +kernel
theorem dX7_topLotsToPlace_20 : decode cX7_topLotsToPlace 20 = .ok (.aload_n 0, 1) := by decide +kernel
theorem dX7_topLotsToPlace_21 : decode cX7_topLotsToPlace 21 = .ok (.getfield 33, 3) := by decide +kernel
theorem dX7_topLotsToPlace_24 : decode cX7_topLotsToPlace 24 = .ok (.iload_n 1, 1) := by decide +kernel
theorem dX7_topLotsToPlace_25 : decode cX7_topLotsToPlace 25 = .ok (.isub, 1) := by decide +kernel
theorem dX7_topLotsToPlace_26 : decode cX7_topLotsToPlace 26 = .ok (.goto 4, 3) := by decide +kernel
theorem dX7_topLotsToPlace_29 : decode cX7_topLotsToPlace 29 = .ok (.iconst 0, 1) := by decide +kernel
theorem dX7_topLotsToPlace_30 : decode cX7_topLotsToPlace 30 = .ok (.ireturn, 1) := by decide +kernel
theorem dX7_riffleRowsToPlace_0 : decode cX7_riffleRowsToPlace 0 = .ok (.aload_n 0, 1) := by decide +kernel
theorem dX7_riffleRowsToPlace_1 : decode cX7_riffleRowsToPlace 1 = .ok (.getfield 33, 3) := by decide +kernel
theorem dX7_riffleRowsToPlace_4 : decode cX7_riffleRowsToPlace 4 = .ok (.iconst 1, 1) := by decide +kernel
theorem dX7_riffleRowsToPlace_5 : decode cX7_riffleRowsToPlace 5 = .ok (.isub, 1) := by decide +kernel
theorem dX7_riffleRowsToPlace_6 : decode cX7_riffleRowsToPlace 6 = .ok (.iload_n 3, 1) := by decide +kernel
theorem dX7_riffleRowsToPlace_7 : decode cX7_riffleRowsToPlace 7 = .ok (.isub, 1) := by decide +kernel
theorem dX7_riffleRowsToPlace_8 : decode cX7_riffleRowsToPlace 8 = .ok (.istore 4, 2) := by decide +kernel
theorem dX7_riffleRowsToPlace_10 : decode cX7_riffleRowsToPlace 10 = .ok (.lconst 0, 1) := by decide +kernel
theorem dX7_riffleRowsToPlace_11 : decode cX7_riffleRowsToPlace 11 = .ok (.lstore 5, 2) := by decide +kernel
theorem dX7_riffleRowsToPlace_13 : decode cX7_riffleRowsToPlace 13 = .ok (.iconst 0, 1) := by decide +kernel
theorem dX7_riffleRowsToPlace_14 : decode cX7_riffleRowsToPlace 14 = .ok (.istore 7, 2) := by decide +kernel
theorem dX7_riffleRowsToPlace_16 : decode cX7_riffleRowsToPlace 16 = .ok (.iload 7, 2) := by decide +kernel
theorem dX7_riffleRowsToPlace_18 : decode cX7_riffleRowsToPlace 18 = .ok (.iload_n 1, 1) := by decide +kernel
theorem dX7_riffleRowsToPlace_19 : decode cX7_riffleRowsToPlace 19 = .ok (.if_icmp .ge 72, 3) := by decide +kernel
theorem dX7_riffleRowsToPlace_22 : decode cX7_riffleRowsToPlace 22 = .ok (.iconst 0, 1) := by decide +kernel
theorem dX7_riffleRowsToPlace_23 : decode cX7_riffleRowsToPlace 23 = .ok (.iload_n 2, 1) := by decide +kernel
theorem dX7_riffleRowsToPlace_24 : decode cX7_riffleRowsToPlace 24 = .ok (.iload 4, 2) := by decide +kernel
theorem dX7_riffleRowsToPlace_26 : decode cX7_riffleRowsToPlace 26 = .ok (.isub, 1) := by decide +kernel
theorem dX7_riffleRowsToPlace_27 : decode cX7_riffleRowsToPlace 27 = .ok (.invokestatic 302, 3) := by decide +kernel
theorem dX7_riffleRowsToPlace_30 : decode cX7_riffleRowsToPlace 30 = .ok (.istore 8, 2) := by decide +kernel
theorem dX7_riffleRowsToPlace_32 : decode cX7_riffleRowsToPlace 32 = .ok (.iload 8, 2) := by decide +kernel
theorem dX7_riffleRowsToPlace_34 : decode cX7_riffleRowsToPlace 34 = .ok (.iload_n 2, 1) := by decide +kernel
theorem dX7_riffleRowsToPlace_35 : decode cX7_riffleRowsToPlace 35 = .ok (.iload_n 3, 1) := by decide +kernel
theorem dX7_riffleRowsToPlace_36 : decode cX7_riffleRowsToPlace 36 = .ok (.invokestatic 304, 3) := by decide +kernel
theorem dX7_riffleRowsToPlace_39 : decode cX7_riffleRowsToPlace 39 = .ok (.if_icmp .gt 46, 3) := by decide +kernel
theorem dX7_riffleRowsToPlace_42 : decode cX7_riffleRowsToPlace 42 = .ok (.lload 5, 2) := by decide +kernel
theorem dX7_riffleRowsToPlace_44 : decode cX7_riffleRowsToPlace 44 = .ok (.iload_n 3, 1) := by decide +kernel
theorem dX7_riffleRowsToPlace_45 : decode cX7_riffleRowsToPlace 45 = .ok (.iload 8, 2) := by decide +kernel
theorem dX7_riffleRowsToPlace_47 : decode cX7_riffleRowsToPlace 47 = .ok (.iload 7, 2) := by decide +kernel
theorem dX7_riffleRowsToPlace_49 : decode cX7_riffleRowsToPlace 49 = .ok (.iconst 1, 1) := by decide +kernel
theorem dX7_riffleRowsToPlace_50 : decode cX7_riffleRowsToPlace 50 = .ok (.iadd, 1) := by decide +kernel
theorem dX7_riffleRowsToPlace_51 : decode cX7_riffleRowsToPlace 51 = .ok (.iload_n 1, 1) := by decide +kernel
theorem dX7_riffleRowsToPlace_52 : decode cX7_riffleRowsToPlace 52 = .ok (.iload 7, 2) := by decide +kernel
theorem dX7_riffleRowsToPlace_54 : decode cX7_riffleRowsToPlace 54 = .ok (.isub, 1) := by decide +kernel
theorem dX7_riffleRowsToPlace_55 : decode cX7_riffleRowsToPlace 55 = .ok (.iconst 1, 1) := by decide +kernel
theorem dX7_riffleRowsToPlace_56 : decode cX7_riffleRowsToPlace 56 = .ok (.isub, 1) := by decide +kernel
theorem dX7_riffleRowsToPlace_57 : decode cX7_riffleRowsToPlace 57 = .ok (.invokestatic 307, 3) := by decide +kernel
theorem dX7_riffleRowsToPlace_60 : decode cX7_riffleRowsToPlace 60 = .ok (.iload 4, 2) := by decide +kernel
theorem dX7_riffleRowsToPlace_62 : decode cX7_riffleRowsToPlace 62 = .ok (.iload_n 2, 1) := by decide +kernel
theorem dX7_riffleRowsToPlace_63 : decode cX7_riffleRowsToPlace 63 = .ok (.iload 8, 2) := by decide +kernel
theorem dX7_riffleRowsToPlace_65 : decode cX7_riffleRowsToPlace 65 = .ok (.isub, 1) := by decide +kernel
theorem dX7_riffleRowsToPlace_66 : decode cX7_riffleRowsToPlace 66 = .ok (.iload 7, 2) := by decide +kernel
theorem dX7_riffleRowsToPlace_68 : decode cX7_riffleRowsToPlace 68 = .ok (.iload_n 1, 1) := by decide +kernel
theorem dX7_riffleRowsToPlace_69 : decode cX7_riffleRowsToPlace 69 = .ok (.iload 7, 2) := by decide +kernel
theorem dX7_riffleRowsToPlace_71 : decode cX7_riffleRowsToPlace 71 = .ok (.isub, 1) := by decide +kernel
theorem dX7_riffleRowsToPlace_72 : decode cX7_riffleRowsToPlace 72 = .ok (.invokestatic 307, 3) := by decide +kernel
theorem dX7_riffleRowsToPlace_75 : decode cX7_riffleRowsToPlace 75 = .ok (.lmul, 1) := by decide +kernel
theorem dX7_riffleRowsToPlace_76 : decode cX7_riffleRowsToPlace 76 = .ok (.ladd, 1) := by decide +kernel
theorem dX7_riffleRowsToPlace_77 : decode cX7_riffleRowsToPlace 77 = .ok (.lstore 5, 2) := by decide +kernel
theorem dX7_riffleRowsToPlace_79 : decode cX7_riffleRowsToPlace 79 = .ok (.iinc 8 1, 3) := by decide +kernel
theorem dX7_riffleRowsToPlace_82 : decode cX7_riffleRowsToPlace 82 = .ok (.goto (-50), 3) := by decide +kernel
theorem dX7_riffleRowsToPlace_85 : decode cX7_riffleRowsToPlace 85 = .ok (.iinc 7 1, 3) := by decide +kernel
theorem dX7_riffleRowsToPlace_88 : decode cX7_riffleRowsToPlace 88 = .ok (.goto (-72), 3) := by decide +kernel
theorem dX7_riffleRowsToPlace_91 : decode cX7_riffleRowsToPlace 91 = .ok (.lload 5, 2) := by decide +kernel
theorem dX7_riffleRowsToPlace_93 : decode cX7_riffleRowsToPlace 93 = .ok (.lreturn, 1) := by decide +kernel
end
section
theorem dX8_init_0 : decode cX8_init 0 = .ok (.aload_n 0, 1) := by decide +kernel
theorem dX8_init_1 : decode cX8_init 1 = .ok (.invokespecial 1, 3) := by decide +kernel
theorem dX8_init_4 : decode cX8_init 4 = .ok (.aload_n 0, 1) := by decide +kernel
theorem dX8_init_5 : decode cX8_init 5 = .ok (.iconst 4, 1) := by decide +kernel
theorem dX8_init_6 : decode cX8_init 6 = .ok (.putfield 7, 3) := by decide +kernel
theorem dX8_init_9 : decode cX8_init 9 = .ok (.aload_n 0, 1) := by decide +kernel
theorem dX8_init_10 : decode cX8_init 10 = .ok (.bipush 120, 2) := by decide +kernel
theorem dX8_init_12 : decode cX8_init 12 = .ok (.newarray .int, 2) := by decide +kernel
theorem dX8_init_14 : decode cX8_init 14 = .ok (.putfield 13, 3) := by decide +kernel
theorem dX8_init_17 : decode cX8_init 17 = .ok (.aload_n 0, 1) := by decide +kernel
theorem dX8_init_18 : decode cX8_init 18 = .ok (.bipush 10, 2) := by decide +kernel
theorem dX8_init_20 : decode cX8_init 20 = .ok (.newarray .int, 2) := by decide +kernel
theorem dX8_init_22 : decode cX8_init 22 = .ok (.putfield 17, 3) := by decide +kernel
theorem dX8_init_25 : decode cX8_init 25 = .ok (.aload_n 0, 1) := by decide +kernel
theorem dX8_init_26 : decode cX8_init 26 = .ok (.bipush 10, 2) := by decide +kernel
theorem dX8_init_28 : decode cX8_init 28 = .ok (.newarray .int, 2) := by decide +kernel
theorem dX8_init_30 : decode cX8_init 30 = .ok (.putfield 20, 3) := by decide +kernel
theorem dX8_init_33 : decode cX8_init 33 = .ok (.aload_n 0, 1) := by decide +kernel
theorem dX8_init_34 : decode cX8_init 34 = .ok (.bipush 100, 2) := by decide +kernel
theorem dX8_init_36 : decode cX8_init 36 = .ok (.newarray .int, 2) := by decide +kernel
theorem dX8_init_38 : decode cX8_init 38 = .ok (.putfield 23, 3) := by decide +kernel
theorem dX8_init_41 : decode cX8_init 41 = .ok (.aload_n 0, 1) := by decide +kernel
theorem dX8_init_42 : decode cX8_init 42 = .ok (.bipush 10, 2) := by decide +kernel
theorem dX8_init_44 : decode cX8_init 44 = .ok (.newarray .int, 2) := by decide +kernel
theorem dX8_init_46 : decode cX8_init 46 = .ok (.putfield 26, 3) := by decide +kernel
theorem dX8_init_49 : decode cX8_init 49 = .ok (.aload_n 0, 1) := by decide +kernel
theorem dX8_init_50 : decode cX8_init 50 = .ok (.bipush 10, 2) := by decide +kernel
theorem dX8_init_52 : decode cX8_init 52 = .ok (.newarray .int, 2) := by decide +kernel
theorem dX8_init_54 : decode cX8_init 54 = .ok (.putfield 29, 3) := by decide +kernel
theorem dX8_init_57 : decode cX8_init 57 = .ok (.aload_n 0, 1) := by decide +kernel
theorem dX8_init_58 : decode cX8_init 58 = .ok (.bipush 12, 2) := by decide +kernel
theorem dX8_init_60 : decode cX8_init 60 = .ok (.newarray .long, 2) := by decide +kernel
theorem dX8_init_62 : decode cX8_init 62 = .ok (.putfield 32, 3) := by decide +kernel
theorem dX8_init_65 : decode cX8_init 65 = .ok (.aload_n 0, 1) := by decide +kernel
theorem dX8_init_66 : decode cX8_init 66 = .ok (.bipush 12, 2) := by decide +kernel
theorem dX8_init_68 : decode cX8_init 68 = .ok (.newarray .long, 2) := by decide +kernel
theorem dX8_init_70 : decode cX8_init 70 = .ok (.putfield 36, 3) := by decide +kernel
theorem dX8_init_73 : decode cX8_init 73 = .ok (.aload_n 0, 1) := by decide +kernel
theorem dX8_init_74 : decode cX8_init 74 = .ok (.sipush 720, 3) := by decide +kernel
theorem dX8_init_77 : decode cX8_init 77 = .ok (.newarray .long, 2) := by decide +kernel
theorem dX8_init_79 : decode cX8_init 79 = .ok (.putfield 39, 3) := by decide +kernel
theorem dX8_init_82 : decode cX8_init 82 = .ok (.aload_n 0, 1) := by decide +kernel
theorem dX8_init_83 : decode cX8_init 83 = .ok (.sipush 720, 3) := by decide +kernel
theorem dX8_init_86 : decode cX8_init 86 = .ok (.newarray .long, 2) := by decide +kernel
theorem dX8_init_88 : decode cX8_init 88 = .ok (.putfield 42, 3) := by decide +kernel
theorem dX8_init_91 : decode cX8_init 91 = .ok (.aload_n 0, 1) := by decide +kernel
theorem dX8_init_92 : decode cX8_init 92 = .ok (.bipush 10, 2) := by decide +kernel
theorem dX8_init_94 : decode cX8_init 94 = .ok (.newarray .int, 2) := by decide +kernel
theorem dX8_init_96 : decode cX8_init 96 = .ok (.putfield 45, 3) := by decide +kernel
theorem dX8_init_99 : decode cX8_init 99 = .ok (.aload_n 0, 1) := by decide +kernel
theorem dX8_init_100 : decode cX8_init 100 = .ok (.bipush 11, 2) := by decide +kernel
theorem dX8_init_102 : decode cX8_init 102 = .ok (.newarray .int, 2) := by decide +kernel
theorem dX8_init_104 : decode cX8_init 104 = .ok (.putfield 48, 3) := by decide +kernel
theorem dX8_init_107 : decode cX8_init 107 = .ok (.aload_n 0, 1) := by decide +kernel
theorem dX8_init_108 : decode cX8_init 108 = .ok (.sipush 4200, 3) := by decide +kernel
theorem dX8_init_111 : decode cX8_init 111 = .ok (.newarray .long, 2) := by decide +kernel
theorem dX8_init_113 : decode cX8_init 113 = .ok (.putfield 51, 3) := by decide +kernel
theorem dX8_init_116 : decode cX8_init 116 = .ok (.aload_n 0, 1) := by decide +kernel
theorem dX8_init_117 : decode cX8_init 117 = .ok (.bipush 11, 2) := by decide +kernel
theorem dX8_init_119 : decode cX8_init 119 = .ok (.newarray .long, 2) := by decide +kernel
theorem dX8_init_121 : decode cX8_init 121 = .ok (.putfield 54, 3) := by decide +kernel
theorem dX8_init_124 : decode cX8_init 124 = .ok (.aload_n 0, 1) := by decide +kernel
theorem dX8_init_125 : decode cX8_init 125 = .ok (.iconst 4, 1) := by decide +kernel
theorem dX8_init_126 : decode cX8_init 126 = .ok (.newarray .int, 2) := by decide +kernel
theorem dX8_init_128 : decode cX8_init 128 = .ok (.putfield 57, 3) := by decide +kernel
theorem dX8_init_131 : decode cX8_init 131 = .ok (.aload_n 0, 1) := by decide +kernel
theorem dX8_init_132 : decode cX8_init 132 = .ok (.iconst 4, 1) := by decide +kernel
theorem dX8_init_133 : decode cX8_init 133 = .ok (.newarray .int, 2) := by decide +kernel
theorem dX8_init_135 : decode cX8_init 135 = .ok (.putfield 60, 3) := by decide +kernel
theorem dX8_init_138 : decode cX8_init 138 = .ok (.aload_n 0, 1) := by decide +kernel
theorem dX8_init_139 : decode cX8_init 139 = .ok (.sipush 160, 3) := by decide +kernel
theorem dX8_init_142 : decode cX8_init 142 = .ok (.newarray .int, 2) := by decide +kernel
theorem dX8_init_144 : decode cX8_init 144 = .ok (.putfield 63, 3) := by decide +kernel
theorem dX8_init_147 : decode cX8_init 147 = .ok (.aload_n 0, 1) := by decide +kernel
theorem dX8_init_148 : decode cX8_init 148 = .ok (.bipush 40, 2) := by decide +kernel
theorem dX8_init_150 : decode cX8_init 150 = .ok (.newarray .int, 2) := by decide +kernel
theorem dX8_init_152 : decode cX8_init 152 = .ok (.putfield 66, 3) := by decide +kernel
theorem dX8_init_155 : decode cX8_init 155 = .ok (.aload_n 0, 1) := by decide +kernel
theorem dX8_init_156 : decode cX8_init 156 = .ok (.bipush 40, 2) := by decide +kernel
theorem dX8_init_158 : decode cX8_init 158 = .ok (.newarray .int, 2) := by decide +kernel
theorem dX8_init_160 : decode cX8_init 160 = .ok (.putfield 69, 3) := by decide +kernel
theorem dX8_init_163 : decode cX8_init 163 = .ok (.iconst 0, 1) := by decide +kernel
theorem dX8_init_164 : decode cX8_init 164 = .ok (.istore_n 1, 1) := by decide +kernel
theorem dX8_init_165 : decode cX8_init 165 = .ok (.iload_n 1, 1) := by decide +kernel
theorem dX8_init_166 : decode cX8_init 166 = .ok (.iconst 4, 1) := by decide +kernel
theorem dX8_init_167 : decode cX8_init 167 = .ok (.if_icmp .ge 16, 3) := by decide +kernel
theorem dX8_init_170 : decode cX8_init 170 = .ok (.aload_n 0, 1) := by decide +kernel
theorem dX8_init_171 : decode cX8_init 171 = .ok (.getfield 57, 3) := by decide +kernel
theorem dX8_init_174 : decode cX8_init 174 = .ok (.iload_n 1, 1) := by decide +kernel
theorem dX8_init_175 : decode cX8_init 175 = .ok (.iconst (-1), 1) := by decide +kernel
theorem dX8_init_176 : decode cX8_init 176 = .ok (.iastore, 1) := by decide +kernel
theorem dX8_init_177 : decode cX8_init 177 = .ok (.iinc 1 1, 3) := by decide +kernel
theorem dX8_init_180 : decode cX8_init 180 = .ok (.goto (-15), 3) := by decide +kernel
theorem dX8_init_183 : decode cX8_init 183 = .ok (.return_, 1) := by decide +kernel
theorem dX8_isPack_0 : decode cX8_isPack 0 = .ok (.iload_n 1, 1) := by decide +kernel
theorem dX8_isPack_1 : decode cX8_isPack 1 = .ok (.ifCond .lt 15, 3) := by decide +kernel
theorem dX8_isPack_4 : decode cX8_isPack 4 = .ok (.iload_n 1, 1) := by decide +kernel
theorem dX8_isPack_5 : decode cX8_isPack 5 = .ok (.aload_n 0, 1) := by decide +kernel
theorem dX8_isPack_6 : decode cX8_isPack 6 = .ok (.getfield 72, 3) := by decide +kernel
theorem dX8_isPack_9 : decode cX8_isPack 9 = .ok (.if_icmp .ge 7, 3) := by decide +kernel
theorem dX8_isPack_12 : decode cX8_isPack 12 = .ok (.iconst 1, 1) := by decide +kernel
theorem dX8_isPack_13 : decode cX8_isPack 13 = .ok (.goto 4, 3) := by decide +kernel
theorem dX8_isPack_16 : decode cX8_isPack 16 = .ok (.iconst 0, 1) := by decide +kernel
theorem dX8_isPack_17 : decode cX8_isPack 17 = .ok (.ireturn, 1) := by decide +kernel
theorem dX8_isShuffle_0 : decode cX8_isShuffle 0 = .ok (.iload_n 1, 1) := by decide +kernel
theorem dX8_isShuffle_1 : decode cX8_isShuffle 1 = .ok (.ifCond .lt 15, 3) := by decide +kernel
theorem dX8_isShuffle_4 : decode cX8_isShuffle 4 = .ok (.iload_n 1, 1) := by decide +kernel
theorem dX8_isShuffle_5 : decode cX8_isShuffle 5 = .ok (.aload_n 0, 1) := by decide +kernel
theorem dX8_isShuffle_6 : decode cX8_isShuffle 6 = .ok (.getfield 75, 3) := by decide +kernel
theorem dX8_isShuffle_9 : decode cX8_isShuffle 9 = .ok (.if_icmp .ge 7, 3) := by decide +kernel
theorem dX8_isShuffle_12 : decode cX8_isShuffle 12 = .ok (.iconst 1, 1) := by decide +kernel
theorem dX8_isShuffle_13 : decode cX8_isShuffle 13 = .ok (.goto 4, 3) := by decide +kernel
theorem dX8_isShuffle_16 : decode cX8_isShuffle 16 = .ok (.iconst 0, 1) := by decide +kernel
theorem dX8_isShuffle_17 : decode cX8_isShuffle 17 = .ok (.ireturn, 1) := by decide +kernel
theorem dX8_isPlace_0 : decode cX8_isPlace 0 = .ok (.iload_n 1, 1) := by decide +kernel
theorem dX8_isPlace_1 : decode cX8_isPlace 1 = .ok (.ifCond .lt 15, 3) := by decide +kernel
theorem dX8_isPlace_4 : decode cX8_isPlace 4 = .ok (.iload_n 1, 1) := by decide +kernel
theorem dX8_isPlace_5 : decode cX8_isPlace 5 = .ok (.aload_n 0, 1) := by decide +kernel
theorem dX8_isPlace_6 : decode cX8_isPlace 6 = .ok (.getfield 7, 3) := by decide +kernel
theorem dX8_isPlace_9 : decode cX8_isPlace 9 = .ok (.if_icmp .ge 7, 3) := by decide +kernel
theorem dX8_isPlace_12 : decode cX8_isPlace 12 = .ok (.iconst 1, 1) := by decide +kernel
theorem dX8_isPlace_13 : decode cX8_isPlace 13 = .ok (.goto 4, 3) := by decide +kernel
theorem dX8_isPlace_16 : decode cX8_isPlace 16 = .ok (.iconst 0, 1) := by decide +kernel
theorem dX8_isPlace_17 : decode cX8_isPlace 17 = .ok (.ireturn, 1) := by decide +kernel
theorem dX8_hasMove_0 : decode cX8_hasMove 0 = .ok (.aload_n 0, 1) := by decide +kernel
theorem dX8_hasMove_1 : decode cX8_hasMove 1 = .ok (.getfield 17, 3) := by decide +kernel
theorem dX8_hasMove_4 : decode cX8_hasMove 4 = .ok (.iload_n 1, 1) := by decide +kernel
theorem dX8_hasMove_5 : decode cX8_hasMove 5 = .ok (.iaload, 1) := by decide +kernel
theorem dX8_hasMove_6 : decode cX8_hasMove 6 = .ok (.iconst 3, 1) := by decide +kernel
theorem dX8_hasMove_7 : decode cX8_hasMove 7 = .ok (.if_icmp .ge 7, 3) := by decide +kernel
theorem dX8_hasMove_10 : decode cX8_hasMove 10 = .ok (.iconst 1, 1) := by decide +kernel
theorem dX8_hasMove_11 : decode cX8_hasMove 11 = .ok (.goto 4, 3) := by decide +kernel
theorem dX8_hasMove_14 : decode cX8_hasMove 14 = .ok (.iconst 0, 1) := by decide +kernel
theorem dX8_hasMove_15 : decode cX8_hasMove 15 = .ok (.ireturn, 1) := by decide +kernel
theorem dX8_common_0 : decode cX8_common 0 = .ok (.lload_n 0, 1) := by decide +kernel
theorem dX8_common_1 : decode cX8_common 1 = .ok (.lstore 4, 2) := by decide +kernel
theorem dX8_common_3 : decode cX8_common 3 = .ok (.lload_n 2, 1) := by decide +kernel
theorem dX8_common_4 : decode cX8_common 4 = .ok (.lstore 6, 2) := by decide +kernel
theorem dX8_common_6 : decode cX8_common 6 = .ok (.lload 6, 2) := by decide +kernel
theorem dX8_common_8 : decode cX8_common 8 = .ok (.lconst 0, 1) := by decide +kernel
theorem dX8_common_9 : decode cX8_common 9 = .ok (.lcmp, 1) := by decide +kernel
theorem dX8_common_10 : decode cX8_common 10 = .ok (.ifCond .eq 21, 3) := by decide +kernel
theorem dX8_common_13 : decode cX8_common 13 = .ok (.lload 4, 2) := by decide +kernel
theorem dX8_common_15 : decode cX8_common 15 = .ok (.lload 6, 2) := by decide +kernel
theorem dX8_common_17 : decode cX8_common 17 = .ok (.lrem, 1) := by decide +kernel
theorem dX8_common_18 : decode cX8_common 18 = .ok (.lstore 8, 2) := by decide +kernel
theorem dX8_common_20 : decode cX8_common 20 = .ok (.lload 6, 2) := by decide +kernel
theorem dX8_common_22 : decode cX8_common 22 = .ok (.lstore 4, 2) := by decide +kernel
theorem dX8_common_24 : decode cX8_common 24 = .ok (.lload 8, 2) := by decide +kernel
theorem dX8_common_26 : decode cX8_common 26 = .ok (.lstore 6, 2) := by decide +kernel
theorem dX8_common_28 : decode cX8_common 28 = .ok (.goto (-22), 3) := by decide +kernel
theorem dX8_common_31 : decode cX8_common 31 = .ok (.lload 4, 2) := by decide +kernel
theorem dX8_common_33 : decode cX8_common 33 = .ok (.lreturn, 1) := by decide +kernel
theorem dX8_lowest_0 : decode cX8_lowest 0 = .ok (.lload_n 3, 1) := by decide +kernel
theorem dX8_lowest_1 : decode cX8_lowest 1 = .ok (.lload_n 1, 1) := by decide +kernel
theorem dX8_lowest_2 : decode cX8_lowest 2 = .ok (.invokestatic 78, 3) := by decide +kernel
theorem dX8_lowest_5 : decode cX8_lowest 5 = .ok (.lstore 6, 2) := by decide +kernel
theorem dX8_lowest_7 : decode cX8_lowest 7 = .ok (.iload 5, 2) := by decide +kernel
theorem dX8_lowest_9 : decode cX8_lowest 9 = .ok (.ifCond .ne 10, 3) := by decide +kernel
theorem dX8_lowest_12 : decode cX8_lowest 12 = .ok (.lload_n 1, 1) := by decide +kernel
theorem dX8_lowest_13 : decode cX8_lowest 13 = .ok (.lload 6, 2) := by decide +kernel
theorem dX8_lowest_15 : decode cX8_lowest 15 = .ok (.ldiv, 1) := by decide +kernel
theorem dX8_lowest_16 : decode cX8_lowest 16 = .ok (.goto 7, 3) := by decide +kernel
theorem dX8_lowest_19 : decode cX8_lowest 19 = .ok (.lload_n 3, 1) := by decide +kernel
theorem dX8_lowest_20 : decode cX8_lowest 20 = .ok (.lload 6, 2) := by decide +kernel
theorem dX8_lowest_22 : decode cX8_lowest 22 = .ok (.ldiv, 1) := by decide +kernel
theorem dX8_lowest_23 : decode cX8_lowest 23 = .ok (.lreturn, 1) := by decide +kernel
theorem dX8_power_0 : decode cX8_power 0 = .ok (.lconst 1, 1) := by decide +kernel
theorem dX8_power_1 : decode cX8_power 1 = .ok (.lstore_n 3, 1) := by decide +kernel
theorem dX8_power_2 : decode cX8_power 2 = .ok (.iconst 0, 1) := by decide +kernel
theorem dX8_power_3 : decode cX8_power 3 = .ok (.istore 5, 2) := by decide +kernel
theorem dX8_power_5 : decode cX8_power 5 = .ok (.iload 5, 2) := by decide +kernel
theorem dX8_power_7 : decode cX8_power 7 = .ok (.iload_n 2, 1) := by decide +kernel
theorem dX8_power_8 : decode cX8_power 8 = .ok (.if_icmp .ge 13, 3) := by decide +kernel
theorem dX8_power_11 : decode cX8_power 11 = .ok (.lload_n 3, 1) := by decide +kernel
theorem dX8_power_12 : decode cX8_power 12 = .ok (.lload_n 0, 1) := by decide +kernel
theorem dX8_power_13 : decode cX8_power 13 = .ok (.lmul, 1) := by decide +kernel
theorem dX8_power_14 : decode cX8_power 14 = .ok (.lstore_n 3, 1) := by decide +kernel
theorem dX8_power_15 : decode cX8_power 15 = .ok (.iinc 5 1, 3) := by decide +kernel
theorem dX8_power_18 : decode cX8_power 18 = .ok (.goto (-13), 3) := by decide +kernel
theorem dX8_power_21 : decode cX8_power 21 = .ok (.lload_n 3, 1) := by decide +kernel
theorem dX8_power_22 : decode cX8_power 22 = .ok (.lreturn, 1) := by decide +kernel
theorem dX8_orders_0 : decode cX8_orders 0 = .ok (.iconst 1, 1) := by decide +kernel
theorem dX8_orders_1 : decode cX8_orders 1 = .ok (.istore_n 1, 1) := by decide +kernel
theorem dX8_orders_2 : decode cX8_orders 2 = .ok (.iconst 2, 1) := by decide +kernel
theorem dX8_orders_3 : decode cX8_orders 3 = .ok (.istore_n 2, 1) := by decide +kernel
theorem dX8_orders_4 : decode cX8_orders 4 = .ok (.iload_n 2, 1) := by decide +kernel
theorem dX8_orders_5 : decode cX8_orders 5 = .ok (.iload_n 0, 1) := by decide +kernel
theorem dX8_orders_6 : decode cX8_orders 6 = .ok (.if_icmp .gt 13, 3) := by decide +kernel
theorem dX8_orders_9 : decode cX8_orders 9 = .ok (.iload_n 1, 1) := by decide +kernel
theorem dX8_orders_10 : decode cX8_orders 10 = .ok (.iload_n 2, 1) := by decide +kernel
theorem dX8_orders_11 : decode cX8_orders 11 = .ok (.imul, 1) := by decide +kernel
theorem dX8_orders_12 : decode cX8_orders 12 = .ok (.istore_n 1, 1) := by decide +kernel
theorem dX8_orders_13 : decode cX8_orders 13 = .ok (.iinc 2 1, 3) := by decide +kernel
theorem dX8_orders_16 : decode cX8_orders 16 = .ok (.goto (-12), 3) := by decide +kernel
theorem dX8_orders_19 : decode cX8_orders 19 = .ok (.iload_n 1, 1) := by decide +kernel
theorem dX8_orders_20 : decode cX8_orders 20 = .ok (.ireturn, 1) := by decide +kernel
theorem dX8_begin_0 : decode cX8_begin 0 = .ok (.iload_n 1, 1) := by decide +kernel
theorem dX8_begin_1 : decode cX8_begin 1 = .ok (.iconst 1, 1) := by decide +kernel
theorem dX8_begin_2 : decode cX8_begin 2 = .ok (.if_icmp .lt 9, 3) := by decide +kernel
theorem dX8_begin_5 : decode cX8_begin 5 = .ok (.iload_n 1, 1) := by decide +kernel
theorem dX8_begin_6 : decode cX8_begin 6 = .ok (.bipush 10, 2) := by decide +kernel
theorem dX8_begin_8 : decode cX8_begin 8 = .ok (.if_icmp .le 6, 3) := by decide +kernel
theorem dX8_begin_11 : decode cX8_begin 11 = .ok (.bipush (-2), 2) := by decide +kernel
theorem dX8_begin_13 : decode cX8_begin 13 = .ok (.ireturn, 1) := by decide +kernel
theorem dX8_begin_14 : decode cX8_begin 14 = .ok (.aload_n 0, 1) := by decide +kernel
theorem dX8_begin_15 : decode cX8_begin 15 = .ok (.iload_n 1, 1) := by decide +kernel
theorem dX8_begin_16 : decode cX8_begin 16 = .ok (.putfield 7, 3) := by decide +kernel
theorem dX8_begin_19 : decode cX8_begin 19 = .ok (.aload_n 0, 1) := by decide +kernel
theorem dX8_begin_20 : decode cX8_begin 20 = .ok (.iconst 0, 1) := by decide +kernel
theorem dX8_begin_21 : decode cX8_begin 21 = .ok (.putfield 72, 3) := by decide +kernel
theorem dX8_begin_24 : decode cX8_begin 24 = .ok (.aload_n 0, 1) := by decide +kernel
theorem dX8_begin_25 : decode cX8_begin 25 = .ok (.iconst 0, 1) := by decide +kernel
theorem dX8_begin_26 : decode cX8_begin 26 = .ok (.putfield 75, 3) := by decide +kernel
theorem dX8_begin_29 : decode cX8_begin 29 = .ok (.iconst 1, 1) := by decide +kernel
theorem dX8_begin_30 : decode cX8_begin 30 = .ok (.ireturn, 1) := by decide +kernel
theorem dX8_comes_0 : decode cX8_comes 0 = .ok (.iconst 0, 1) := by decide +kernel
theorem dX8_comes_1 : decode cX8_comes 1 = .ok (.istore_n 1, 1) := by decide +kernel
theorem dX8_comes_2 : decode cX8_comes 2 = .ok (.iload_n 1, 1) := by decide +kernel
theorem dX8_comes_3 : decode cX8_comes 3 = .ok (.aload_n 0, 1) := by decide +kernel
theorem dX8_comes_4 : decode cX8_comes 4 = .ok (.getfield 7, 3) := by decide +kernel
theorem dX8_comes_7 : decode cX8_comes 7 = .ok (.if_icmp .ge 29, 3) := by decide +kernel
theorem dX8_comes_10 : decode cX8_comes 10 = .ok (.aload_n 0, 1) := by decide +kernel
theorem dX8_comes_11 : decode cX8_comes 11 = .ok (.getfield 13, 3) := by decide +kernel
theorem dX8_comes_14 : decode cX8_comes 14 = .ok (.bipush 10, 2) := by decide +kernel
theorem dX8_comes_16 : decode cX8_comes 16 = .ok (.aload_n 0, 1) := by decide +kernel
theorem dX8_comes_17 : decode cX8_comes 17 = .ok (.getfield 72, 3) := by decide +kernel
theorem dX8_comes_20 : decode cX8_comes 20 = .ok (.imul, 1) := by decide +kernel
theorem dX8_comes_21 : decode cX8_comes 21 = .ok (.iload_n 1, 1) := by decide +kernel
theorem dX8_comes_22 : decode cX8_comes 22 = .ok (.iadd, 1) := by decide +kernel
theorem dX8_comes_23 : decode cX8_comes 23 = .ok (.aload_n 0, 1) := by decide +kernel
theorem dX8_comes_24 : decode cX8_comes 24 = .ok (.getfield 26, 3) := by decide +kernel
theorem dX8_comes_27 : decode cX8_comes 27 = .ok (.iload_n 1, 1) := by decide +kernel
theorem dX8_comes_28 : decode cX8_comes 28 = .ok (.iaload, 1) := by decide +kernel
theorem dX8_comes_29 : decode cX8_comes 29 = .ok (.iastore, 1) := by decide +kernel
theorem dX8_comes_30 : decode cX8_comes 30 = .ok (.iinc 1 1, 3) := by decide +kernel
theorem dX8_comes_33 : decode cX8_comes 33 = .ok (.goto (-31), 3) := by decide +kernel
theorem dX8_comes_36 : decode cX8_comes 36 = .ok (.aload_n 0, 1) := by decide +kernel
theorem dX8_comes_37 : decode cX8_comes 37 = .ok (.dup, 1) := by decide +kernel
theorem dX8_comes_38 : decode cX8_comes 38 = .ok (.getfield 72, 3) := by decide +kernel
theorem dX8_comes_41 : decode cX8_comes 41 = .ok (.dup_x1, 1) := by decide +kernel
theorem dX8_comes_42 : decode cX8_comes 42 = .ok (.iconst 1, 1) := by decide +kernel
theorem dX8_comes_43 : decode cX8_comes 43 = .ok (.iadd, 1) := by decide +kernel
theorem dX8_comes_44 : decode cX8_comes 44 = .ok (.putfield 72, 3) := by decide +kernel
theorem dX8_comes_47 : decode cX8_comes 47 = .ok (.ireturn, 1) := by decide +kernel
theorem dX8_ofRank_0 : decode cX8_ofRank 0 = .ok (.iload_n 1, 1) := by decide +kernel
theorem dX8_ofRank_1 : decode cX8_ofRank 1 = .ok (.istore_n 2, 1) := by decide +kernel
theorem dX8_ofRank_2 : decode cX8_ofRank 2 = .ok (.iconst 0, 1) := by decide +kernel
theorem dX8_ofRank_3 : decode cX8_ofRank 3 = .ok (.istore_n 3, 1) := by decide +kernel
theorem dX8_ofRank_4 : decode cX8_ofRank 4 = .ok (.iconst 0, 1) := by decide +kernel
theorem dX8_ofRank_5 : decode cX8_ofRank 5 = .ok (.istore 4, 2) := by decide +kernel
theorem dX8_ofRank_7 : decode cX8_ofRank 7 = .ok (.iload 4, 2) := by decide +kernel
theorem dX8_ofRank_9 : decode cX8_ofRank 9 = .ok (.aload_n 0, 1) := by decide +kernel
theorem dX8_ofRank_10 : decode cX8_ofRank 10 = .ok (.getfield 7, 3) := by decide +kernel
theorem dX8_ofRank_13 : decode cX8_ofRank 13 = .ok (.if_icmp .ge 104, 3) := by decide +kernel
theorem dX8_ofRank_16 : decode cX8_ofRank 16 = .ok (.aload_n 0, 1) := by decide +kernel
theorem dX8_ofRank_17 : decode cX8_ofRank 17 = .ok (.getfield 7, 3) := by decide +kernel
theorem dX8_ofRank_20 : decode cX8_ofRank 20 = .ok (.iconst 1, 1) := by decide +kernel
theorem dX8_ofRank_21 : decode cX8_ofRank 21 = .ok (.isub, 1) := by decide +kernel
theorem dX8_ofRank_22 : decode cX8_ofRank 22 = .ok (.iload 4, 2) := by decide +kernel
theorem dX8_ofRank_24 : decode cX8_ofRank 24 = .ok (.isub, 1) := by decide +kernel
theorem dX8_ofRank_25 : decode cX8_ofRank 25 = .ok (.invokestatic 82, 3) := by decide +kernel
theorem dX8_ofRank_28 : decode cX8_ofRank 28 = .ok (.istore 5, 2) := by decide +kernel
theorem dX8_ofRank_30 : decode cX8_ofRank 30 = .ok (.iload_n 2, 1) := by decide +kernel
theorem dX8_ofRank_31 : decode cX8_ofRank 31 = .ok (.iload 5, 2) := by decide +kernel
theorem dX8_ofRank_33 : decode cX8_ofRank 33 = .ok (.idiv, 1) := by decide +kernel
theorem dX8_ofRank_34 : decode cX8_ofRank 34 = .ok (.istore 6, 2) := by decide +kernel
theorem dX8_ofRank_36 : decode cX8_ofRank 36 = .ok (.iload_n 2, 1) := by decide +kernel
theorem dX8_ofRank_37 : decode cX8_ofRank 37 = .ok (.iload 5, 2) := by decide +kernel
theorem dX8_ofRank_39 : decode cX8_ofRank 39 = .ok (.irem, 1) := by decide +kernel
theorem dX8_ofRank_40 : decode cX8_ofRank 40 = .ok (.istore_n 2, 1) := by decide +kernel
theorem dX8_ofRank_41 : decode cX8_ofRank 41 = .ok (.iconst 0, 1) := by decide +kernel
theorem dX8_ofRank_42 : decode cX8_ofRank 42 = .ok (.istore 7, 2) := by decide +kernel
theorem dX8_ofRank_44 : decode cX8_ofRank 44 = .ok (.iload_n 3, 1) := by decide +kernel
theorem dX8_ofRank_45 : decode cX8_ofRank 45 = .ok (.iload 7, 2) := by decide +kernel
theorem dX8_ofRank_47 : decode cX8_ofRank 47 = .ok (.ishr, 1) := by decide +kernel
theorem dX8_ofRank_48 : decode cX8_ofRank 48 = .ok (.iconst 1, 1) := by decide +kernel
theorem dX8_ofRank_49 : decode cX8_ofRank 49 = .ok (.iand, 1) := by decide +kernel
theorem dX8_ofRank_50 : decode cX8_ofRank 50 = .ok (.iconst 1, 1) := by decide +kernel
theorem dX8_ofRank_51 : decode cX8_ofRank 51 = .ok (.if_icmp .ne 9, 3) := by decide +kernel
theorem dX8_ofRank_54 : decode cX8_ofRank 54 = .ok (.iinc 7 1, 3) := by decide +kernel
theorem dX8_ofRank_57 : decode cX8_ofRank 57 = .ok (.goto (-13), 3) := by decide +kernel
theorem dX8_ofRank_60 : decode cX8_ofRank 60 = .ok (.iconst 0, 1) := by decide +kernel
theorem dX8_ofRank_61 : decode cX8_ofRank 61 = .ok (.istore 8, 2) := by decide +kernel
theorem dX8_ofRank_63 : decode cX8_ofRank 63 = .ok (.iload 8, 2) := by decide +kernel
theorem dX8_ofRank_65 : decode cX8_ofRank 65 = .ok (.iload 6, 2) := by decide +kernel
theorem dX8_ofRank_67 : decode cX8_ofRank 67 = .ok (.if_icmp .ge 28, 3) := by decide +kernel
theorem dX8_ofRank_70 : decode cX8_ofRank 70 = .ok (.iinc 7 1, 3) := by decide +kernel
theorem dX8_ofRank_73 : decode cX8_ofRank 73 = .ok (.iload_n 3, 1) := by decide +kernel
theorem dX8_ofRank_74 : decode cX8_ofRank 74 = .ok (.iload 7, 2) := by decide +kernel
theorem dX8_ofRank_76 : decode cX8_ofRank 76 = .ok (.ishr, 1) := by decide +kernel
theorem dX8_ofRank_77 : decode cX8_ofRank 77 = .ok (.iconst 1, 1) := by decide +kernel
theorem dX8_ofRank_78 : decode cX8_ofRank 78 = .ok (.iand, 1) := by decide +kernel
theorem dX8_ofRank_79 : decode cX8_ofRank 79 = .ok (.iconst 1, 1) := by decide +kernel
theorem dX8_ofRank_80 : decode cX8_ofRank 80 = .ok (.if_icmp .ne 9, 3) := by decide +kernel
theorem dX8_ofRank_83 : decode cX8_ofRank 83 = .ok (.iinc 7 1, 3) := by decide +kernel
theorem dX8_ofRank_86 : decode cX8_ofRank 86 = .ok (.goto (-13), 3) := by decide +kernel
theorem dX8_ofRank_89 : decode cX8_ofRank 89 = .ok (.iinc 8 1, 3) := by decide +kernel
theorem dX8_ofRank_92 : decode cX8_ofRank 92 = .ok (.goto (-29), 3) := by decide +kernel
theorem dX8_ofRank_95 : decode cX8_ofRank 95 = .ok (.aload_n 0, 1) := by decide +kernel
theorem dX8_ofRank_96 : decode cX8_ofRank 96 = .ok (.getfield 26, 3) := by decide +kernel
theorem dX8_ofRank_99 : decode cX8_ofRank 99 = .ok (.iload 4, 2) := by decide +kernel
theorem dX8_ofRank_101 : decode cX8_ofRank 101 = .ok (.iload 7, 2) := by decide +kernel
theorem dX8_ofRank_103 : decode cX8_ofRank 103 = .ok (.iastore, 1) := by decide +kernel
theorem dX8_ofRank_104 : decode cX8_ofRank 104 = .ok (.iload_n 3, 1) := by decide +kernel
theorem dX8_ofRank_105 : decode cX8_ofRank 105 = .ok (.iconst 1, 1) := by decide +kernel
theorem dX8_ofRank_106 : decode cX8_ofRank 106 = .ok (.iload 7, 2) := by decide +kernel
theorem dX8_ofRank_108 : decode cX8_ofRank 108 = .ok (.ishl, 1) := by decide +kernel
theorem dX8_ofRank_109 : decode cX8_ofRank 109 = .ok (.ior, 1) := by decide +kernel
theorem dX8_ofRank_110 : decode cX8_ofRank 110 = .ok (.istore_n 3, 1) := by decide +kernel
theorem dX8_ofRank_111 : decode cX8_ofRank 111 = .ok (.iinc 4 1, 3) := by decide +kernel
theorem dX8_ofRank_114 : decode cX8_ofRank 114 = .ok (.goto (-107), 3) := by decide +kernel
theorem dX8_ofRank_117 : decode cX8_ofRank 117 = .ok (.return_, 1) := by decide +kernel
theorem dX8_rank_0 : decode cX8_rank 0 = .ok (.iconst 0, 1) := by decide +kernel
theorem dX8_rank_1 : decode cX8_rank 1 = .ok (.istore_n 1, 1) := by decide +kernel
theorem dX8_rank_2 : decode cX8_rank 2 = .ok (.iconst 0, 1) := by decide +kernel
theorem dX8_rank_3 : decode cX8_rank 3 = .ok (.istore_n 2, 1) := by decide +kernel
theorem dX8_rank_4 : decode cX8_rank 4 = .ok (.iload_n 2, 1) := by decide +kernel
theorem dX8_rank_5 : decode cX8_rank 5 = .ok (.aload_n 0, 1) := by decide +kernel
theorem dX8_rank_6 : decode cX8_rank 6 = .ok (.getfield 7, 3) := by decide +kernel
theorem dX8_rank_9 : decode cX8_rank 9 = .ok (.if_icmp .ge 66, 3) := by decide +kernel
theorem dX8_rank_12 : decode cX8_rank 12 = .ok (.iconst 0, 1) := by decide +kernel
theorem dX8_rank_13 : decode cX8_rank 13 = .ok (.istore_n 3, 1) := by decide +kernel
theorem dX8_rank_14 : decode cX8_rank 14 = .ok (.iload_n 2, 1) := by decide +kernel
theorem dX8_rank_15 : decode cX8_rank 15 = .ok (.iconst 1, 1) := by decide +kernel
theorem dX8_rank_16 : decode cX8_rank 16 = .ok (.iadd, 1) := by decide +kernel
theorem dX8_rank_17 : decode cX8_rank 17 = .ok (.istore 4, 2) := by decide +kernel
theorem dX8_rank_19 : decode cX8_rank 19 = .ok (.iload 4, 2) := by decide +kernel
theorem dX8_rank_21 : decode cX8_rank 21 = .ok (.aload_n 0, 1) := by decide +kernel
theorem dX8_rank_22 : decode cX8_rank 22 = .ok (.getfield 7, 3) := by decide +kernel
theorem dX8_rank_25 : decode cX8_rank 25 = .ok (.if_icmp .ge 28, 3) := by decide +kernel
theorem dX8_rank_28 : decode cX8_rank 28 = .ok (.aload_n 0, 1) := by decide +kernel
theorem dX8_rank_29 : decode cX8_rank 29 = .ok (.getfield 26, 3) := by decide +kernel
theorem dX8_rank_32 : decode cX8_rank 32 = .ok (.iload 4, 2) := by decide +kernel
theorem dX8_rank_34 : decode cX8_rank 34 = .ok (.iaload, 1) := by decide +kernel
theorem dX8_rank_35 : decode cX8_rank 35 = .ok (.aload_n 0, 1) := by decide +kernel
theorem dX8_rank_36 : decode cX8_rank 36 = .ok (.getfield 26, 3) := by decide +kernel
theorem dX8_rank_39 : decode cX8_rank 39 = .ok (.iload_n 2, 1) := by decide +kernel
theorem dX8_rank_40 : decode cX8_rank 40 = .ok (.iaload, 1) := by decide +kernel
theorem dX8_rank_41 : decode cX8_rank 41 = .ok (.if_icmp .ge 6, 3) := by decide +kernel
theorem dX8_rank_44 : decode cX8_rank 44 = .ok (.iinc 3 1, 3) := by decide +kernel
theorem dX8_rank_47 : decode cX8_rank 47 = .ok (.iinc 4 1, 3) := by decide +kernel
theorem dX8_rank_50 : decode cX8_rank 50 = .ok (.goto (-31), 3) := by decide +kernel
theorem dX8_rank_53 : decode cX8_rank 53 = .ok (.iload_n 1, 1) := by decide +kernel
theorem dX8_rank_54 : decode cX8_rank 54 = .ok (.iload_n 3, 1) := by decide +kernel
theorem dX8_rank_55 : decode cX8_rank 55 = .ok (.aload_n 0, 1) := by decide +kernel
theorem dX8_rank_56 : decode cX8_rank 56 = .ok (.getfield 7, 3) := by decide +kernel
theorem dX8_rank_59 : decode cX8_rank 59 = .ok (.iconst 1, 1) := by decide +kernel
theorem dX8_rank_60 : decode cX8_rank 60 = .ok (.isub, 1) := by decide +kernel
theorem dX8_rank_61 : decode cX8_rank 61 = .ok (.iload_n 2, 1) := by decide +kernel
theorem dX8_rank_62 : decode cX8_rank 62 = .ok (.isub, 1) := by decide +kernel
theorem dX8_rank_63 : decode cX8_rank 63 = .ok (.invokestatic 82, 3) := by decide +kernel
theorem dX8_rank_66 : decode cX8_rank 66 = .ok (.imul, 1) := by decide +kernel
theorem dX8_rank_67 : decode cX8_rank 67 = .ok (.iadd, 1) := by decide +kernel
theorem dX8_rank_68 : decode cX8_rank 68 = .ok (.istore_n 1, 1) := by decide +kernel
theorem dX8_rank_69 : decode cX8_rank 69 = .ok (.iinc 2 1, 3) := by decide +kernel
theorem dX8_rank_72 : decode cX8_rank 72 = .ok (.goto (-68), 3) := by decide +kernel
theorem dX8_rank_75 : decode cX8_rank 75 = .ok (.iload_n 1, 1) := by decide +kernel
theorem dX8_rank_76 : decode cX8_rank 76 = .ok (.ireturn, 1) := by decide +kernel
theorem dX8_takes_0 : decode cX8_takes 0 = .ok (.iconst 0, 1) := by decide +kernel
theorem dX8_takes_1 : decode cX8_takes 1 = .ok (.istore_n 2, 1) := by decide +kernel
theorem dX8_takes_2 : decode cX8_takes 2 = .ok (.iload_n 2, 1) := by decide +kernel
theorem dX8_takes_3 : decode cX8_takes 3 = .ok (.aload_n 0, 1) := by decide +kernel
theorem dX8_takes_4 : decode cX8_takes 4 = .ok (.getfield 7, 3) := by decide +kernel
theorem dX8_takes_7 : decode cX8_takes 7 = .ok (.if_icmp .ge 26, 3) := by decide +kernel
theorem dX8_takes_10 : decode cX8_takes 10 = .ok (.aload_n 0, 1) := by decide +kernel
theorem dX8_takes_11 : decode cX8_takes 11 = .ok (.getfield 26, 3) := by decide +kernel
theorem dX8_takes_14 : decode cX8_takes 14 = .ok (.iload_n 2, 1) := by decide +kernel
theorem dX8_takes_15 : decode cX8_takes 15 = .ok (.aload_n 0, 1) := by decide +kernel
theorem dX8_takes_16 : decode cX8_takes 16 = .ok (.getfield 13, 3) := by decide +kernel
theorem dX8_takes_19 : decode cX8_takes 19 = .ok (.bipush 10, 2) := by decide +kernel
theorem dX8_takes_21 : decode cX8_takes 21 = .ok (.iload_n 1, 1) := by decide +kernel
theorem dX8_takes_22 : decode cX8_takes 22 = .ok (.imul, 1) := by decide +kernel
theorem dX8_takes_23 : decode cX8_takes 23 = .ok (.iload_n 2, 1) := by decide +kernel
theorem dX8_takes_24 : decode cX8_takes 24 = .ok (.iadd, 1) := by decide +kernel
theorem dX8_takes_25 : decode cX8_takes 25 = .ok (.iaload, 1) := by decide +kernel
theorem dX8_takes_26 : decode cX8_takes 26 = .ok (.iastore, 1) := by decide +kernel
theorem dX8_takes_27 : decode cX8_takes 27 = .ok (.iinc 2 1, 3) := by decide +kernel
theorem dX8_takes_30 : decode cX8_takes 30 = .ok (.goto (-28), 3) := by decide +kernel
theorem dX8_takes_33 : decode cX8_takes 33 = .ok (.return_, 1) := by decide +kernel
theorem dX8_puts_0 : decode cX8_puts 0 = .ok (.iconst 0, 1) := by decide +kernel
theorem dX8_puts_1 : decode cX8_puts 1 = .ok (.istore_n 2, 1) := by decide +kernel
theorem dX8_puts_2 : decode cX8_puts 2 = .ok (.iload_n 2, 1) := by decide +kernel
theorem dX8_puts_3 : decode cX8_puts 3 = .ok (.aload_n 0, 1) := by decide +kernel
theorem dX8_puts_4 : decode cX8_puts 4 = .ok (.getfield 7, 3) := by decide +kernel
theorem dX8_puts_7 : decode cX8_puts 7 = .ok (.if_icmp .ge 26, 3) := by decide +kernel
theorem dX8_puts_10 : decode cX8_puts 10 = .ok (.aload_n 0, 1) := by decide +kernel
theorem dX8_puts_11 : decode cX8_puts 11 = .ok (.getfield 13, 3) := by decide +kernel
theorem dX8_puts_14 : decode cX8_puts 14 = .ok (.bipush 10, 2) := by decide +kernel
theorem dX8_puts_16 : decode cX8_puts 16 = .ok (.iload_n 1, 1) := by decide +kernel
theorem dX8_puts_17 : decode cX8_puts 17 = .ok (.imul, 1) := by decide +kernel
theorem dX8_puts_18 : decode cX8_puts 18 = .ok (.iload_n 2, 1) := by decide +kernel
theorem dX8_puts_19 : decode cX8_puts 19 = .ok (.iadd, 1) := by decide +kernel
theorem dX8_puts_20 : decode cX8_puts 20 = .ok (.aload_n 0, 1) := by decide +kernel
theorem dX8_puts_21 : decode cX8_puts 21 = .ok (.getfield 26, 3) := by decide +kernel
theorem dX8_puts_24 : decode cX8_puts 24 = .ok (.iload_n 2, 1) := by decide +kernel
theorem dX8_puts_25 : decode cX8_puts 25 = .ok (.iaload, 1) := by decide +kernel
theorem dX8_puts_26 : decode cX8_puts 26 = .ok (.iastore, 1) := by decide +kernel
theorem dX8_puts_27 : decode cX8_puts 27 = .ok (.iinc 2 1, 3) := by decide +kernel
theorem dX8_puts_30 : decode cX8_puts 30 = .ok (.goto (-28), 3) := by decide +kernel
theorem dX8_puts_33 : decode cX8_puts 33 = .ok (.return_, 1) := by decide +kernel
theorem dX8_pack_0 : decode cX8_pack 0 = .ok (.aload_n 0, 1) := by decide +kernel
theorem dX8_pack_1 : decode cX8_pack 1 = .ok (.getfield 72, 3) := by decide +kernel
theorem dX8_pack_4 : decode cX8_pack 4 = .ok (.bipush 12, 2) := by decide +kernel
theorem dX8_pack_6 : decode cX8_pack 6 = .ok (.if_icmp .ne 6, 3) := by decide +kernel
theorem dX8_pack_9 : decode cX8_pack 9 = .ok (.bipush (-4), 2) := by decide +kernel
theorem dX8_pack_11 : decode cX8_pack 11 = .ok (.ireturn, 1) := by decide +kernel
theorem dX8_pack_12 : decode cX8_pack 12 = .ok (.iconst 0, 1) := by decide +kernel
theorem dX8_pack_13 : decode cX8_pack 13 = .ok (.istore_n 1, 1) := by decide +kernel
theorem dX8_pack_14 : decode cX8_pack 14 = .ok (.iload_n 1, 1) := by decide +kernel
theorem dX8_pack_15 : decode cX8_pack 15 = .ok (.aload_n 0, 1) := by decide +kernel
theorem dX8_pack_16 : decode cX8_pack 16 = .ok (.getfield 7, 3) := by decide +kernel
theorem dX8_pack_19 : decode cX8_pack 19 = .ok (.if_icmp .ge 16, 3) := by decide +kernel
theorem dX8_pack_22 : decode cX8_pack 22 = .ok (.aload_n 0, 1) := by decide +kernel
theorem dX8_pack_23 : decode cX8_pack 23 = .ok (.getfield 26, 3) := by decide +kernel
theorem dX8_pack_26 : decode cX8_pack 26 = .ok (.iload_n 1, 1) := by decide +kernel
theorem dX8_pack_27 : decode cX8_pack 27 = .ok (.iload_n 1, 1) := by decide +kernel
theorem dX8_pack_28 : decode cX8_pack 28 = .ok (.iastore, 1) := by decide +kernel
theorem dX8_pack_29 : decode cX8_pack 29 = .ok (.iinc 1 1, 3) := by decide +kernel
theorem dX8_pack_32 : decode cX8_pack 32 = .ok (.goto (-18), 3) := by decide +kernel
theorem dX8_pack_35 : decode cX8_pack 35 = .ok (.aload_n 0, 1) := by decide +kernel
theorem dX8_pack_36 : decode cX8_pack 36 = .ok (.invokevirtual 86, 3) := by decide +kernel
theorem dX8_pack_39 : decode cX8_pack 39 = .ok (.ireturn, 1) := by decide +kernel
theorem dX8_ranked_0 : decode cX8_ranked 0 = .ok (.iload_n 1, 1) := by decide +kernel
theorem dX8_ranked_1 : decode cX8_ranked 1 = .ok (.ifCond .lt 14, 3) := by decide +kernel
theorem dX8_ranked_4 : decode cX8_ranked 4 = .ok (.iload_n 1, 1) := by decide +kernel
theorem dX8_ranked_5 : decode cX8_ranked 5 = .ok (.aload_n 0, 1) := by decide +kernel
theorem dX8_ranked_6 : decode cX8_ranked 6 = .ok (.getfield 7, 3) := by decide +kernel
theorem dX8_ranked_9 : decode cX8_ranked 9 = .ok (.invokestatic 82, 3) := by decide +kernel
theorem dX8_ranked_12 : decode cX8_ranked 12 = .ok (.if_icmp .lt 6, 3) := by decide +kernel
theorem dX8_ranked_15 : decode cX8_ranked 15 = .ok (.bipush (-2), 2) := by decide +kernel
theorem dX8_ranked_17 : decode cX8_ranked 17 = .ok (.ireturn, 1) := by decide +kernel
theorem dX8_ranked_18 : decode cX8_ranked 18 = .ok (.aload_n 0, 1) := by decide +kernel
theorem dX8_ranked_19 : decode cX8_ranked 19 = .ok (.getfield 72, 3) := by decide +kernel
theorem dX8_ranked_22 : decode cX8_ranked 22 = .ok (.bipush 12, 2) := by decide +kernel
theorem dX8_ranked_24 : decode cX8_ranked 24 = .ok (.if_icmp .ne 6, 3) := by decide +kernel
theorem dX8_ranked_27 : decode cX8_ranked 27 = .ok (.bipush (-4), 2) := by decide +kernel
theorem dX8_ranked_29 : decode cX8_ranked 29 = .ok (.ireturn, 1) := by decide +kernel
theorem dX8_ranked_30 : decode cX8_ranked 30 = .ok (.aload_n 0, 1) := by decide +kernel
theorem dX8_ranked_31 : decode cX8_ranked 31 = .ok (.iload_n 1, 1) := by decide +kernel
theorem dX8_ranked_32 : decode cX8_ranked 32 = .ok (.invokevirtual 90, 3) := by decide +kernel
theorem dX8_ranked_35 : decode cX8_ranked 35 = .ok (.aload_n 0, 1) := by decide +kernel
theorem dX8_ranked_36 : decode cX8_ranked 36 = .ok (.invokevirtual 86, 3) := by decide +kernel
theorem dX8_ranked_39 : decode cX8_ranked 39 = .ok (.ireturn, 1) := by decide +kernel
theorem dX8_told_0 : decode cX8_told 0 = .ok (.iload_n 1, 1) := by decide +kernel
theorem dX8_told_1 : decode cX8_told 1 = .ok (.invokestatic 94, 3) := by decide +kernel
theorem dX8_told_4 : decode cX8_told 4 = .ok (.ifCond .eq 12, 3) := by decide +kernel
theorem dX8_told_7 : decode cX8_told 7 = .ok (.iload_n 2, 1) := by decide +kernel
theorem dX8_told_8 : decode cX8_told 8 = .ok (.ifCond .lt 8, 3) := by decide +kernel
theorem dX8_told_11 : decode cX8_told 11 = .ok (.iload_n 2, 1) := by decide +kernel
theorem dX8_told_12 : decode cX8_told 12 = .ok (.iconst 2, 1) := by decide +kernel
theorem dX8_told_13 : decode cX8_told 13 = .ok (.if_icmp .le 6, 3) := by decide +kernel
theorem dX8_told_16 : decode cX8_told 16 = .ok (.bipush (-2), 2) := by decide +kernel
theorem dX8_told_18 : decode cX8_told 18 = .ok (.ireturn, 1) := by decide +kernel
theorem dX8_told_19 : decode cX8_told 19 = .ok (.aload_n 0, 1) := by decide +kernel
theorem dX8_told_20 : decode cX8_told 20 = .ok (.getfield 57, 3) := by decide +kernel
theorem dX8_told_23 : decode cX8_told 23 = .ok (.iload_n 1, 1) := by decide +kernel
theorem dX8_told_24 : decode cX8_told 24 = .ok (.iaload, 1) := by decide +kernel
theorem dX8_told_25 : decode cX8_told 25 = .ok (.ifCond .lt 16, 3) := by decide +kernel
theorem dX8_told_28 : decode cX8_told 28 = .ok (.aload_n 0, 1) := by decide +kernel
theorem dX8_told_29 : decode cX8_told 29 = .ok (.getfield 57, 3) := by decide +kernel
theorem dX8_told_32 : decode cX8_told 32 = .ok (.iload_n 1, 1) := by decide +kernel
theorem dX8_told_33 : decode cX8_told 33 = .ok (.iaload, 1) := by decide +kernel
theorem dX8_told_34 : decode cX8_told 34 = .ok (.iload_n 2, 1) := by decide +kernel
theorem dX8_told_35 : decode cX8_told 35 = .ok (.if_icmp .eq 6, 3) := by decide +kernel
theorem dX8_told_38 : decode cX8_told 38 = .ok (.bipush (-13), 2) := by decide +kernel
theorem dX8_told_40 : decode cX8_told 40 = .ok (.ireturn, 1) := by decide +kernel
theorem dX8_told_41 : decode cX8_told 41 = .ok (.aload_n 0, 1) := by decide +kernel
theorem dX8_told_42 : decode cX8_told 42 = .ok (.getfield 57, 3) := by decide +kernel
theorem dX8_told_45 : decode cX8_told 45 = .ok (.iload_n 1, 1) := by decide +kernel
theorem dX8_told_46 : decode cX8_told 46 = .ok (.iaload, 1) := by decide +kernel
theorem dX8_told_47 : decode cX8_told 47 = .ok (.ifCond .ge 6, 3) := by decide +kernel
theorem dX8_told_50 : decode cX8_told 50 = .ok (.bipush (-11), 2) := by decide +kernel
theorem dX8_told_52 : decode cX8_told 52 = .ok (.ireturn, 1) := by decide +kernel
theorem dX8_told_53 : decode cX8_told 53 = .ok (.iload_n 3, 1) := by decide +kernel
theorem dX8_told_54 : decode cX8_told 54 = .ok (.ifCond .lt 18, 3) := by decide +kernel
theorem dX8_told_57 : decode cX8_told 57 = .ok (.iload_n 3, 1) := by decide +kernel
theorem dX8_told_58 : decode cX8_told 58 = .ok (.aload_n 0, 1) := by decide +kernel
theorem dX8_told_59 : decode cX8_told 59 = .ok (.getfield 60, 3) := by decide +kernel
theorem dX8_told_62 : decode cX8_told 62 = .ok (.iload_n 1, 1) := by decide +kernel
theorem dX8_told_63 : decode cX8_told 63 = .ok (.iaload, 1) := by decide +kernel
theorem dX8_told_64 : decode cX8_told 64 = .ok (.aload_n 0, 1) := by decide +kernel
theorem dX8_told_65 : decode cX8_told 65 = .ok (.getfield 7, 3) := by decide +kernel
theorem dX8_told_68 : decode cX8_told 68 = .ok (.isub, 1) := by decide +kernel
theorem dX8_told_69 : decode cX8_told 69 = .ok (.if_icmp .le 6, 3) := by decide +kernel
theorem dX8_told_72 : decode cX8_told 72 = .ok (.bipush (-12), 2) := by decide +kernel
theorem dX8_told_74 : decode cX8_told 74 = .ok (.ireturn, 1) := by decide +kernel
theorem dX8_told_75 : decode cX8_told 75 = .ok (.iconst 0, 1) := by decide +kernel
theorem dX8_told_76 : decode cX8_told 76 = .ok (.istore 4, 2) := by decide +kernel
theorem dX8_told_78 : decode cX8_told 78 = .ok (.iconst 0, 1) := by decide +kernel
theorem dX8_told_79 : decode cX8_told 79 = .ok (.istore 5, 2) := by decide +kernel
theorem dX8_told_81 : decode cX8_told 81 = .ok (.iload 5, 2) := by decide +kernel
theorem dX8_told_83 : decode cX8_told 83 = .ok (.aload_n 0, 1) := by decide +kernel
theorem dX8_told_84 : decode cX8_told 84 = .ok (.getfield 7, 3) := by decide +kernel
theorem dX8_told_87 : decode cX8_told 87 = .ok (.if_icmp .ge 57, 3) := by decide +kernel
theorem dX8_told_90 : decode cX8_told 90 = .ok (.aload_n 0, 1) := by decide +kernel
theorem dX8_told_91 : decode cX8_told 91 = .ok (.getfield 63, 3) := by decide +kernel
theorem dX8_told_94 : decode cX8_told 94 = .ok (.bipush 40, 2) := by decide +kernel
theorem dX8_told_96 : decode cX8_told 96 = .ok (.iload_n 1, 1) := by decide +kernel
theorem dX8_told_97 : decode cX8_told 97 = .ok (.imul, 1) := by decide +kernel
theorem dX8_told_98 : decode cX8_told 98 = .ok (.iload_n 3, 1) := by decide +kernel
theorem dX8_told_99 : decode cX8_told 99 = .ok (.iadd, 1) := by decide +kernel
theorem dX8_told_100 : decode cX8_told 100 = .ok (.iload 5, 2) := by decide +kernel
theorem dX8_told_102 : decode cX8_told 102 = .ok (.iadd, 1) := by decide +kernel
theorem dX8_told_103 : decode cX8_told 103 = .ok (.iaload, 1) := by decide +kernel
theorem dX8_told_104 : decode cX8_told 104 = .ok (.istore 6, 2) := by decide +kernel
theorem dX8_told_106 : decode cX8_told 106 = .ok (.aload_n 0, 1) := by decide +kernel
theorem dX8_told_107 : decode cX8_told 107 = .ok (.iload 6, 2) := by decide +kernel
theorem dX8_told_109 : decode cX8_told 109 = .ok (.invokevirtual 98, 3) := by decide +kernel
theorem dX8_told_112 : decode cX8_told 112 = .ok (.ifCond .eq 14, 3) := by decide +kernel
theorem dX8_told_115 : decode cX8_told 115 = .ok (.iload 4, 2) := by decide +kernel
theorem dX8_told_117 : decode cX8_told 117 = .ok (.iload 6, 2) := by decide +kernel
theorem dX8_told_119 : decode cX8_told 119 = .ok (.ishr, 1) := by decide +kernel
theorem dX8_told_120 : decode cX8_told 120 = .ok (.iconst 1, 1) := by decide +kernel
theorem dX8_told_121 : decode cX8_told 121 = .ok (.iand, 1) := by decide +kernel
theorem dX8_told_122 : decode cX8_told 122 = .ok (.iconst 1, 1) := by decide +kernel
theorem dX8_told_123 : decode cX8_told 123 = .ok (.if_icmp .ne 6, 3) := by decide +kernel
theorem dX8_told_126 : decode cX8_told 126 = .ok (.bipush (-3), 2) := by decide +kernel
theorem dX8_told_128 : decode cX8_told 128 = .ok (.ireturn, 1) := by decide +kernel
theorem dX8_told_129 : decode cX8_told 129 = .ok (.iload 4, 2) := by decide +kernel
theorem dX8_told_131 : decode cX8_told 131 = .ok (.iconst 1, 1) := by decide +kernel
theorem dX8_told_132 : decode cX8_told 132 = .ok (.iload 6, 2) := by decide +kernel
theorem dX8_told_134 : decode cX8_told 134 = .ok (.ishl, 1) := by decide +kernel
theorem dX8_told_135 : decode cX8_told 135 = .ok (.ior, 1) := by decide +kernel
theorem dX8_told_136 : decode cX8_told 136 = .ok (.istore 4, 2) := by decide +kernel
theorem dX8_told_138 : decode cX8_told 138 = .ok (.iinc 5 1, 3) := by decide +kernel
theorem dX8_told_141 : decode cX8_told 141 = .ok (.goto (-60), 3) := by decide +kernel
theorem dX8_told_144 : decode cX8_told 144 = .ok (.aload_n 0, 1) := by decide +kernel
theorem dX8_told_145 : decode cX8_told 145 = .ok (.getfield 72, 3) := by decide +kernel
theorem dX8_told_148 : decode cX8_told 148 = .ok (.bipush 12, 2) := by decide +kernel
theorem dX8_told_150 : decode cX8_told 150 = .ok (.if_icmp .ne 6, 3) := by decide +kernel
theorem dX8_told_153 : decode cX8_told 153 = .ok (.bipush (-4), 2) := by decide +kernel
theorem dX8_told_155 : decode cX8_told 155 = .ok (.ireturn, 1) := by decide +kernel
theorem dX8_told_156 : decode cX8_told 156 = .ok (.iconst 0, 1) := by decide +kernel
theorem dX8_told_157 : decode cX8_told 157 = .ok (.istore 5, 2) := by decide +kernel
theorem dX8_told_159 : decode cX8_told 159 = .ok (.iload 5, 2) := by decide +kernel
theorem dX8_told_161 : decode cX8_told 161 = .ok (.aload_n 0, 1) := by decide +kernel
theorem dX8_told_162 : decode cX8_told 162 = .ok (.getfield 7, 3) := by decide +kernel
theorem dX8_told_165 : decode cX8_told 165 = .ok (.if_icmp .ge 30, 3) := by decide +kernel
theorem dX8_told_168 : decode cX8_told 168 = .ok (.aload_n 0, 1) := by decide +kernel
theorem dX8_told_169 : decode cX8_told 169 = .ok (.getfield 26, 3) := by decide +kernel
theorem dX8_told_172 : decode cX8_told 172 = .ok (.iload 5, 2) := by decide +kernel
theorem dX8_told_174 : decode cX8_told 174 = .ok (.aload_n 0, 1) := by decide +kernel
theorem dX8_told_175 : decode cX8_told 175 = .ok (.getfield 63, 3) := by decide +kernel
theorem dX8_told_178 : decode cX8_told 178 = .ok (.bipush 40, 2) := by decide +kernel
theorem dX8_told_180 : decode cX8_told 180 = .ok (.iload_n 1, 1) := by decide +kernel
theorem dX8_told_181 : decode cX8_told 181 = .ok (.imul, 1) := by decide +kernel
theorem dX8_told_182 : decode cX8_told 182 = .ok (.iload_n 3, 1) := by decide +kernel
theorem dX8_told_183 : decode cX8_told 183 = .ok (.iadd, 1) := by decide +kernel
theorem dX8_told_184 : decode cX8_told 184 = .ok (.iload 5, 2) := by decide +kernel
theorem dX8_told_186 : decode cX8_told 186 = .ok (.iadd, 1) := by decide +kernel
theorem dX8_told_187 : decode cX8_told 187 = .ok (.iaload, 1) := by decide +kernel
theorem dX8_told_188 : decode cX8_told 188 = .ok (.iastore, 1) := by decide +kernel
theorem dX8_told_189 : decode cX8_told 189 = .ok (.iinc 5 1, 3) := by decide +kernel
theorem dX8_told_192 : decode cX8_told 192 = .ok (.goto (-33), 3) := by decide +kernel
theorem dX8_told_195 : decode cX8_told 195 = .ok (.aload_n 0, 1) := by decide +kernel
theorem dX8_told_196 : decode cX8_told 196 = .ok (.invokevirtual 86, 3) := by decide +kernel
theorem dX8_told_199 : decode cX8_told 199 = .ok (.ireturn, 1) := by decide +kernel
theorem dX8_card_0 : decode cX8_card 0 = .ok (.aload_n 0, 1) := by decide +kernel
theorem dX8_card_1 : decode cX8_card 1 = .ok (.iload_n 1, 1) := by decide +kernel
theorem dX8_card_2 : decode cX8_card 2 = .ok (.invokevirtual 101, 3) := by decide +kernel
theorem dX8_card_5 : decode cX8_card 5 = .ok (.ifCond .eq 25, 3) := by decide +kernel
theorem dX8_card_8 : decode cX8_card 8 = .ok (.aload_n 0, 1) := by decide +kernel
theorem dX8_card_9 : decode cX8_card 9 = .ok (.iload_n 2, 1) := by decide +kernel
theorem dX8_card_10 : decode cX8_card 10 = .ok (.invokevirtual 98, 3) := by decide +kernel
theorem dX8_card_13 : decode cX8_card 13 = .ok (.ifCond .eq 17, 3) := by decide +kernel
theorem dX8_card_16 : decode cX8_card 16 = .ok (.aload_n 0, 1) := by decide +kernel
theorem dX8_card_17 : decode cX8_card 17 = .ok (.getfield 13, 3) := by decide +kernel
theorem dX8_card_20 : decode cX8_card 20 = .ok (.bipush 10, 2) := by decide +kernel
theorem dX8_card_22 : decode cX8_card 22 = .ok (.iload_n 1, 1) := by decide +kernel
theorem dX8_card_23 : decode cX8_card 23 = .ok (.imul, 1) := by decide +kernel
theorem dX8_card_24 : decode cX8_card 24 = .ok (.iload_n 2, 1) := by decide +kernel
theorem dX8_card_25 : decode cX8_card 25 = .ok (.iadd, 1) := by decide +kernel
theorem dX8_card_26 : decode cX8_card 26 = .ok (.iaload, 1) := by decide +kernel
theorem dX8_card_27 : decode cX8_card 27 = .ok (.goto 5, 3) := by decide +kernel
theorem dX8_card_30 : decode cX8_card 30 = .ok (.bipush (-2), 2) := by decide +kernel
theorem dX8_card_32 : decode cX8_card 32 = .ok (.ireturn, 1) := by decide +kernel
theorem dX8_placeOf_0 : decode cX8_placeOf 0 = .ok (.iconst 0, 1) := by decide +kernel
theorem dX8_placeOf_1 : decode cX8_placeOf 1 = .ok (.istore_n 2, 1) := by decide +kernel
theorem dX8_placeOf_2 : decode cX8_placeOf 2 = .ok (.aload_n 0, 1) := by decide +kernel
theorem dX8_placeOf_3 : decode cX8_placeOf 3 = .ok (.getfield 26, 3) := by decide +kernel
theorem dX8_placeOf_6 : decode cX8_placeOf 6 = .ok (.iload_n 2, 1) := by decide +kernel
theorem dX8_placeOf_7 : decode cX8_placeOf 7 = .ok (.iaload, 1) := by decide +kernel
theorem dX8_placeOf_8 : decode cX8_placeOf 8 = .ok (.iload_n 1, 1) := by decide +kernel
theorem dX8_placeOf_9 : decode cX8_placeOf 9 = .ok (.if_icmp .eq 9, 3) := by decide +kernel
theorem dX8_placeOf_12 : decode cX8_placeOf 12 = .ok (.iinc 2 1, 3) := by decide +kernel
theorem dX8_placeOf_15 : decode cX8_placeOf 15 = .ok (.goto (-13), 3) := by decide +kernel
theorem dX8_placeOf_18 : decode cX8_placeOf 18 = .ok (.iload_n 2, 1) := by decide +kernel
theorem dX8_placeOf_19 : decode cX8_placeOf 19 = .ok (.ireturn, 1) := by decide +kernel
theorem dX8_runsOf_0 : decode cX8_runsOf 0 = .ok (.iconst 1, 1) := by decide +kernel
theorem dX8_runsOf_1 : decode cX8_runsOf 1 = .ok (.istore_n 1, 1) := by decide +kernel
theorem dX8_runsOf_2 : decode cX8_runsOf 2 = .ok (.iconst 1, 1) := by decide +kernel
theorem dX8_runsOf_3 : decode cX8_runsOf 3 = .ok (.istore_n 2, 1) := by decide +kernel
theorem dX8_runsOf_4 : decode cX8_runsOf 4 = .ok (.iload_n 2, 1) := by decide +kernel
theorem dX8_runsOf_5 : decode cX8_runsOf 5 = .ok (.aload_n 0, 1) := by decide +kernel
theorem dX8_runsOf_6 : decode cX8_runsOf 6 = .ok (.getfield 7, 3) := by decide +kernel
theorem dX8_runsOf_9 : decode cX8_runsOf 9 = .ok (.if_icmp .ge 27, 3) := by decide +kernel
theorem dX8_runsOf_12 : decode cX8_runsOf 12 = .ok (.aload_n 0, 1) := by decide +kernel
theorem dX8_runsOf_13 : decode cX8_runsOf 13 = .ok (.iload_n 2, 1) := by decide +kernel
theorem dX8_runsOf_14 : decode cX8_runsOf 14 = .ok (.invokevirtual 104, 3) := by decide +kernel
theorem dX8_runsOf_17 : decode cX8_runsOf 17 = .ok (.aload_n 0, 1) := by decide +kernel
theorem dX8_runsOf_18 : decode cX8_runsOf 18 = .ok (.iload_n 2, 1) := by decide +kernel
theorem dX8_runsOf_19 : decode cX8_runsOf 19 = .ok (.iconst 1, 1) := by decide +kernel
theorem dX8_runsOf_20 : decode cX8_runsOf 20 = .ok (.isub, 1) := by decide +kernel
theorem dX8_runsOf_21 : decode cX8_runsOf 21 = .ok (.invokevirtual 104, 3) := by decide +kernel
theorem dX8_runsOf_24 : decode cX8_runsOf 24 = .ok (.if_icmp .ge 6, 3) := by decide +kernel
theorem dX8_runsOf_27 : decode cX8_runsOf 27 = .ok (.iinc 1 1, 3) := by decide +kernel
theorem dX8_runsOf_30 : decode cX8_runsOf 30 = .ok (.iinc 2 1, 3) := by decide +kernel
theorem dX8_runsOf_33 : decode cX8_runsOf 33 = .ok (.goto (-29), 3) := by decide +kernel
theorem dX8_runsOf_36 : decode cX8_runsOf 36 = .ok (.iload_n 1, 1) := by decide +kernel
theorem dX8_runsOf_37 : decode cX8_runsOf 37 = .ok (.ireturn, 1) := by decide +kernel
theorem dX8_packTold_0 : decode cX8_packTold 0 = .ok (.aload_n 0, 1) := by decide +kernel
theorem dX8_packTold_1 : decode cX8_packTold 1 = .ok (.iload_n 1, 1) := by decide +kernel
theorem dX8_packTold_2 : decode cX8_packTold 2 = .ok (.invokevirtual 101, 3) := by decide +kernel
theorem dX8_packTold_5 : decode cX8_packTold 5 = .ok (.ifCond .ne 6, 3) := by decide +kernel
theorem dX8_packTold_8 : decode cX8_packTold 8 = .ok (.bipush (-2), 2) := by decide +kernel
theorem dX8_packTold_10 : decode cX8_packTold 10 = .ok (.ireturn, 1) := by decide +kernel
theorem dX8_packTold_11 : decode cX8_packTold 11 = .ok (.aload_n 0, 1) := by decide +kernel
theorem dX8_packTold_12 : decode cX8_packTold 12 = .ok (.iload_n 1, 1) := by decide +kernel
theorem dX8_packTold_13 : decode cX8_packTold 13 = .ok (.invokevirtual 107, 3) := by decide +kernel
theorem dX8_packTold_16 : decode cX8_packTold 16 = .ok (.iload_n 2, 1) := by decide +kernel
theorem dX8_packTold_17 : decode cX8_packTold 17 = .ok (.ifCond .ne 10, 3) := by decide +kernel
theorem dX8_packTold_20 : decode cX8_packTold 20 = .ok (.aload_n 0, 1) := by decide +kernel
theorem dX8_packTold_21 : decode cX8_packTold 21 = .ok (.invokevirtual 110, 3) := by decide +kernel
theorem dX8_packTold_24 : decode cX8_packTold 24 = .ok (.goto 30, 3) := by decide +kernel
theorem dX8_packTold_27 : decode cX8_packTold 27 = .ok (.iload_n 2, 1) := by decide +kernel
theorem dX8_packTold_28 : decode cX8_packTold 28 = .ok (.iconst 1, 1) := by decide +kernel
theorem dX8_packTold_29 : decode cX8_packTold 29 = .ok (.if_icmp .ne 10, 3) := by decide +kernel
theorem dX8_packTold_32 : decode cX8_packTold 32 = .ok (.aload_n 0, 1) := by decide +kernel
theorem dX8_packTold_33 : decode cX8_packTold 33 = .ok (.invokevirtual 113, 3) := by decide +kernel
theorem dX8_packTold_36 : decode cX8_packTold 36 = .ok (.goto 18, 3) := by decide +kernel
theorem dX8_packTold_39 : decode cX8_packTold 39 = .ok (.iload_n 2, 1) := by decide +kernel
theorem dX8_packTold_40 : decode cX8_packTold 40 = .ok (.iconst 2, 1) := by decide +kernel
theorem dX8_packTold_41 : decode cX8_packTold 41 = .ok (.if_icmp .ne 11, 3) := by decide +kernel
theorem dX8_packTold_44 : decode cX8_packTold 44 = .ok (.aload_n 0, 1) := by decide +kernel
theorem dX8_packTold_45 : decode cX8_packTold 45 = .ok (.iconst 0, 1) := by decide +kernel
theorem dX8_packTold_46 : decode cX8_packTold 46 = .ok (.invokevirtual 104, 3) := by decide +kernel
theorem dX8_packTold_49 : decode cX8_packTold 49 = .ok (.goto 5, 3) := by decide +kernel
theorem dX8_packTold_52 : decode cX8_packTold 52 = .ok (.bipush (-2), 2) := by decide +kernel
theorem dX8_packTold_54 : decode cX8_packTold 54 = .ok (.ireturn, 1) := by decide +kernel
theorem dX8_makes_0 : decode cX8_makes 0 = .ok (.aload_n 0, 1) := by decide +kernel
theorem dX8_makes_1 : decode cX8_makes 1 = .ok (.getfield 17, 3) := by decide +kernel
theorem dX8_makes_4 : decode cX8_makes 4 = .ok (.aload_n 0, 1) := by decide +kernel
theorem dX8_makes_5 : decode cX8_makes 5 = .ok (.getfield 75, 3) := by decide +kernel
theorem dX8_makes_8 : decode cX8_makes 8 = .ok (.iload_n 1, 1) := by decide +kernel
theorem dX8_makes_9 : decode cX8_makes 9 = .ok (.iastore, 1) := by decide +kernel
theorem dX8_makes_10 : decode cX8_makes 10 = .ok (.aload_n 0, 1) := by decide +kernel
theorem dX8_makes_11 : decode cX8_makes 11 = .ok (.getfield 20, 3) := by decide +kernel
theorem dX8_makes_14 : decode cX8_makes 14 = .ok (.aload_n 0, 1) := by decide +kernel
theorem dX8_makes_15 : decode cX8_makes 15 = .ok (.getfield 75, 3) := by decide +kernel
theorem dX8_makes_18 : decode cX8_makes 18 = .ok (.iload_n 2, 1) := by decide +kernel
theorem dX8_makes_19 : decode cX8_makes 19 = .ok (.iastore, 1) := by decide +kernel
theorem dX8_makes_20 : decode cX8_makes 20 = .ok (.iconst 0, 1) := by decide +kernel
theorem dX8_makes_21 : decode cX8_makes 21 = .ok (.istore_n 3, 1) := by decide +kernel
theorem dX8_makes_22 : decode cX8_makes 22 = .ok (.iload_n 3, 1) := by decide +kernel
theorem dX8_makes_23 : decode cX8_makes 23 = .ok (.aload_n 0, 1) := by decide +kernel
theorem dX8_makes_24 : decode cX8_makes 24 = .ok (.getfield 7, 3) := by decide +kernel
theorem dX8_makes_27 : decode cX8_makes 27 = .ok (.if_icmp .ge 29, 3) := by decide +kernel
theorem dX8_makes_30 : decode cX8_makes 30 = .ok (.aload_n 0, 1) := by decide +kernel
theorem dX8_makes_31 : decode cX8_makes 31 = .ok (.getfield 23, 3) := by decide +kernel
theorem dX8_makes_34 : decode cX8_makes 34 = .ok (.bipush 10, 2) := by decide +kernel
theorem dX8_makes_36 : decode cX8_makes 36 = .ok (.aload_n 0, 1) := by decide +kernel
theorem dX8_makes_37 : decode cX8_makes 37 = .ok (.getfield 75, 3) := by decide +kernel
theorem dX8_makes_40 : decode cX8_makes 40 = .ok (.imul, 1) := by decide +kernel
theorem dX8_makes_41 : decode cX8_makes 41 = .ok (.iload_n 3, 1) := by decide +kernel
theorem dX8_makes_42 : decode cX8_makes 42 = .ok (.iadd, 1) := by decide +kernel
theorem dX8_makes_43 : decode cX8_makes 43 = .ok (.aload_n 0, 1) := by decide +kernel
theorem dX8_makes_44 : decode cX8_makes 44 = .ok (.getfield 26, 3) := by decide +kernel
theorem dX8_makes_47 : decode cX8_makes 47 = .ok (.iload_n 3, 1) := by decide +kernel
theorem dX8_makes_48 : decode cX8_makes 48 = .ok (.iaload, 1) := by decide +kernel
theorem dX8_makes_49 : decode cX8_makes 49 = .ok (.iastore, 1) := by decide +kernel
theorem dX8_makes_50 : decode cX8_makes 50 = .ok (.iinc 3 1, 3) := by decide +kernel
theorem dX8_makes_53 : decode cX8_makes 53 = .ok (.goto (-31), 3) := by decide +kernel
theorem dX8_makes_56 : decode cX8_makes 56 = .ok (.aload_n 0, 1) := by decide +kernel
theorem dX8_makes_57 : decode cX8_makes 57 = .ok (.dup, 1) := by decide +kernel
theorem dX8_makes_58 : decode cX8_makes 58 = .ok (.getfield 75, 3) := by decide +kernel
theorem dX8_makes_61 : decode cX8_makes 61 = .ok (.dup_x1, 1) := by decide +kernel
theorem dX8_makes_62 : decode cX8_makes 62 = .ok (.iconst 1, 1) := by decide +kernel
theorem dX8_makes_63 : decode cX8_makes 63 = .ok (.iadd, 1) := by decide +kernel
theorem dX8_makes_64 : decode cX8_makes 64 = .ok (.putfield 75, 3) := by decide +kernel
theorem dX8_makes_67 : decode cX8_makes 67 = .ok (.ireturn, 1) := by decide +kernel
theorem dX8_move_0 : decode cX8_move 0 = .ok (.aload_n 0, 1) := by decide +kernel
theorem dX8_move_1 : decode cX8_move 1 = .ok (.iload_n 1, 1) := by decide +kernel
theorem dX8_move_2 : decode cX8_move 2 = .ok (.invokevirtual 101, 3) := by decide +kernel
theorem dX8_move_5 : decode cX8_move 5 = .ok (.ifCond .ne 6, 3) := by decide +kernel
theorem dX8_move_8 : decode cX8_move 8 = .ok (.bipush (-2), 2) := by decide +kernel
theorem dX8_move_10 : decode cX8_move 10 = .ok (.ireturn, 1) := by decide +kernel
theorem dX8_move_11 : decode cX8_move 11 = .ok (.aload_n 0, 1) := by decide +kernel
theorem dX8_move_12 : decode cX8_move 12 = .ok (.getfield 75, 3) := by decide +kernel
theorem dX8_move_15 : decode cX8_move 15 = .ok (.bipush 10, 2) := by decide +kernel
theorem dX8_move_17 : decode cX8_move 17 = .ok (.if_icmp .ne 6, 3) := by decide +kernel
theorem dX8_move_20 : decode cX8_move 20 = .ok (.bipush (-4), 2) := by decide +kernel
theorem dX8_move_22 : decode cX8_move 22 = .ok (.ireturn, 1) := by decide +kernel
theorem dX8_move_23 : decode cX8_move 23 = .ok (.aload_n 0, 1) := by decide +kernel
theorem dX8_move_24 : decode cX8_move 24 = .ok (.iload_n 1, 1) := by decide +kernel
theorem dX8_move_25 : decode cX8_move 25 = .ok (.invokevirtual 107, 3) := by decide +kernel
theorem dX8_move_28 : decode cX8_move 28 = .ok (.aload_n 0, 1) := by decide +kernel
theorem dX8_move_29 : decode cX8_move 29 = .ok (.iconst 0, 1) := by decide +kernel
theorem dX8_move_30 : decode cX8_move 30 = .ok (.iconst 2, 1) := by decide +kernel
theorem dX8_move_31 : decode cX8_move 31 = .ok (.invokevirtual 116, 3) := by decide +kernel
theorem dX8_move_34 : decode cX8_move 34 = .ok (.ireturn, 1) := by decide +kernel
theorem dX8_goes_0 : decode cX8_goes 0 = .ok (.iload_n 2, 1) := by decide +kernel
theorem dX8_goes_1 : decode cX8_goes 1 = .ok (.aload_n 0, 1) := by decide +kernel
theorem dX8_goes_2 : decode cX8_goes 2 = .ok (.getfield 7, 3) := by decide +kernel
theorem dX8_goes_5 : decode cX8_goes 5 = .ok (.iconst 2, 1) := by decide +kernel
theorem dX8_goes_6 : decode cX8_goes 6 = .ok (.idiv, 1) := by decide +kernel
theorem dX8_goes_7 : decode cX8_goes 7 = .ok (.if_icmp .ge 9, 3) := by decide +kernel
theorem dX8_goes_10 : decode cX8_goes 10 = .ok (.iconst 2, 1) := by decide +kernel
theorem dX8_goes_11 : decode cX8_goes 11 = .ok (.iload_n 2, 1) := by decide +kernel
theorem dX8_goes_12 : decode cX8_goes 12 = .ok (.imul, 1) := by decide +kernel
theorem dX8_goes_13 : decode cX8_goes 13 = .ok (.iload_n 1, 1) := by decide +kernel
theorem dX8_goes_14 : decode cX8_goes 14 = .ok (.iadd, 1) := by decide +kernel
theorem dX8_goes_15 : decode cX8_goes 15 = .ok (.ireturn, 1) := by decide +kernel
theorem dX8_goes_16 : decode cX8_goes 16 = .ok (.iconst 2, 1) := by decide +kernel
theorem dX8_goes_17 : decode cX8_goes 17 = .ok (.iload_n 2, 1) := by decide +kernel
theorem dX8_goes_18 : decode cX8_goes 18 = .ok (.aload_n 0, 1) := by decide +kernel
theorem dX8_goes_19 : decode cX8_goes 19 = .ok (.getfield 7, 3) := by decide +kernel
theorem dX8_goes_22 : decode cX8_goes 22 = .ok (.iconst 2, 1) := by decide +kernel
theorem dX8_goes_23 : decode cX8_goes 23 = .ok (.idiv, 1) := by decide +kernel
theorem dX8_goes_24 : decode cX8_goes 24 = .ok (.isub, 1) := by decide +kernel
theorem dX8_goes_25 : decode cX8_goes 25 = .ok (.imul, 1) := by decide +kernel
theorem dX8_goes_26 : decode cX8_goes 26 = .ok (.iconst 1, 1) := by decide +kernel
theorem dX8_goes_27 : decode cX8_goes 27 = .ok (.iadd, 1) := by decide +kernel
theorem dX8_goes_28 : decode cX8_goes 28 = .ok (.iload_n 1, 1) := by decide +kernel
theorem dX8_goes_29 : decode cX8_goes 29 = .ok (.isub, 1) := by decide +kernel
theorem dX8_goes_30 : decode cX8_goes 30 = .ok (.ireturn, 1) := by decide +kernel
theorem dX8_perfect_0 : decode cX8_perfect 0 = .ok (.iload_n 1, 1) := by decide +kernel
theorem dX8_perfect_1 : decode cX8_perfect 1 = .ok (.ifCond .eq 11, 3) := by decide +kernel
theorem dX8_perfect_4 : decode cX8_perfect 4 = .ok (.iload_n 1, 1) := by decide +kernel
theorem dX8_perfect_5 : decode cX8_perfect 5 = .ok (.iconst 1, 1) := by decide +kernel
theorem dX8_perfect_6 : decode cX8_perfect 6 = .ok (.if_icmp .eq 6, 3) := by decide +kernel
theorem dX8_perfect_9 : decode cX8_perfect 9 = .ok (.bipush (-2), 2) := by decide +kernel
theorem dX8_perfect_11 : decode cX8_perfect 11 = .ok (.ireturn, 1) := by decide +kernel
theorem dX8_perfect_12 : decode cX8_perfect 12 = .ok (.aload_n 0, 1) := by decide +kernel
theorem dX8_perfect_13 : decode cX8_perfect 13 = .ok (.getfield 7, 3) := by decide +kernel
theorem dX8_perfect_16 : decode cX8_perfect 16 = .ok (.iconst 2, 1) := by decide +kernel
theorem dX8_perfect_17 : decode cX8_perfect 17 = .ok (.irem, 1) := by decide +kernel
theorem dX8_perfect_18 : decode cX8_perfect 18 = .ok (.iconst 1, 1) := by decide +kernel
theorem dX8_perfect_19 : decode cX8_perfect 19 = .ok (.if_icmp .ne 6, 3) := by decide +kernel
theorem dX8_perfect_22 : decode cX8_perfect 22 = .ok (.bipush (-3), 2) := by decide +kernel
theorem dX8_perfect_24 : decode cX8_perfect 24 = .ok (.ireturn, 1) := by decide +kernel
theorem dX8_perfect_25 : decode cX8_perfect 25 = .ok (.aload_n 0, 1) := by decide +kernel
theorem dX8_perfect_26 : decode cX8_perfect 26 = .ok (.getfield 75, 3) := by decide +kernel
theorem dX8_perfect_29 : decode cX8_perfect 29 = .ok (.bipush 10, 2) := by decide +kernel
theorem dX8_perfect_31 : decode cX8_perfect 31 = .ok (.if_icmp .ne 6, 3) := by decide +kernel
theorem dX8_perfect_34 : decode cX8_perfect 34 = .ok (.bipush (-4), 2) := by decide +kernel
theorem dX8_perfect_36 : decode cX8_perfect 36 = .ok (.ireturn, 1) := by decide +kernel
theorem dX8_perfect_37 : decode cX8_perfect 37 = .ok (.iconst 0, 1) := by decide +kernel
theorem dX8_perfect_38 : decode cX8_perfect 38 = .ok (.istore_n 2, 1) := by decide +kernel
theorem dX8_perfect_39 : decode cX8_perfect 39 = .ok (.iload_n 2, 1) := by decide +kernel
theorem dX8_perfect_40 : decode cX8_perfect 40 = .ok (.aload_n 0, 1) := by decide +kernel
theorem dX8_perfect_41 : decode cX8_perfect 41 = .ok (.getfield 7, 3) := by decide +kernel
theorem dX8_perfect_44 : decode cX8_perfect 44 = .ok (.if_icmp .ge 21, 3) := by decide +kernel
theorem dX8_perfect_47 : decode cX8_perfect 47 = .ok (.aload_n 0, 1) := by decide +kernel
theorem dX8_perfect_48 : decode cX8_perfect 48 = .ok (.getfield 26, 3) := by decide +kernel
theorem dX8_perfect_51 : decode cX8_perfect 51 = .ok (.aload_n 0, 1) := by decide +kernel
theorem dX8_perfect_52 : decode cX8_perfect 52 = .ok (.iload_n 1, 1) := by decide +kernel
theorem dX8_perfect_53 : decode cX8_perfect 53 = .ok (.iload_n 2, 1) := by decide +kernel
theorem dX8_perfect_54 : decode cX8_perfect 54 = .ok (.invokevirtual 120, 3) := by decide +kernel
theorem dX8_perfect_57 : decode cX8_perfect 57 = .ok (.iload_n 2, 1) := by decide +kernel
theorem dX8_perfect_58 : decode cX8_perfect 58 = .ok (.iastore, 1) := by decide +kernel
theorem dX8_perfect_59 : decode cX8_perfect 59 = .ok (.iinc 2 1, 3) := by decide +kernel
theorem dX8_perfect_62 : decode cX8_perfect 62 = .ok (.goto (-23), 3) := by decide +kernel
theorem dX8_perfect_65 : decode cX8_perfect 65 = .ok (.aload_n 0, 1) := by decide +kernel
theorem dX8_perfect_66 : decode cX8_perfect 66 = .ok (.iconst 1, 1) := by decide +kernel
theorem dX8_perfect_67 : decode cX8_perfect 67 = .ok (.iconst 2, 1) := by decide +kernel
theorem dX8_perfect_68 : decode cX8_perfect 68 = .ok (.invokevirtual 116, 3) := by decide +kernel
theorem dX8_perfect_71 : decode cX8_perfect 71 = .ok (.ireturn, 1) := by decide +kernel
theorem dX8_deal_0 : decode cX8_deal 0 = .ok (.iload_n 1, 1) := by decide +kernel
theorem dX8_deal_1 : decode cX8_deal 1 = .ok (.iconst 1, 1) := by decide +kernel
theorem dX8_deal_2 : decode cX8_deal 2 = .ok (.if_icmp .lt 11, 3) := by decide +kernel
theorem dX8_deal_5 : decode cX8_deal 5 = .ok (.iload_n 1, 1) := by decide +kernel
theorem dX8_deal_6 : decode cX8_deal 6 = .ok (.aload_n 0, 1) := by decide +kernel
theorem dX8_deal_7 : decode cX8_deal 7 = .ok (.getfield 7, 3) := by decide +kernel
theorem dX8_deal_10 : decode cX8_deal 10 = .ok (.if_icmp .le 6, 3) := by decide +kernel
theorem dX8_deal_13 : decode cX8_deal 13 = .ok (.bipush (-2), 2) := by decide +kernel
theorem dX8_deal_15 : decode cX8_deal 15 = .ok (.ireturn, 1) := by decide +kernel
theorem dX8_deal_16 : decode cX8_deal 16 = .ok (.aload_n 0, 1) := by decide +kernel
theorem dX8_deal_17 : decode cX8_deal 17 = .ok (.getfield 75, 3) := by decide +kernel
theorem dX8_deal_20 : decode cX8_deal 20 = .ok (.bipush 10, 2) := by decide +kernel
theorem dX8_deal_22 : decode cX8_deal 22 = .ok (.if_icmp .ne 6, 3) := by decide +kernel
theorem dX8_deal_25 : decode cX8_deal 25 = .ok (.bipush (-4), 2) := by decide +kernel
theorem dX8_deal_27 : decode cX8_deal 27 = .ok (.ireturn, 1) := by decide +kernel
theorem dX8_deal_28 : decode cX8_deal 28 = .ok (.iconst 0, 1) := by decide +kernel
theorem dX8_deal_29 : decode cX8_deal 29 = .ok (.istore_n 2, 1) := by decide +kernel
theorem dX8_deal_30 : decode cX8_deal 30 = .ok (.iconst 0, 1) := by decide +kernel
theorem dX8_deal_31 : decode cX8_deal 31 = .ok (.istore_n 3, 1) := by decide +kernel
theorem dX8_deal_32 : decode cX8_deal 32 = .ok (.iload_n 3, 1) := by decide +kernel
theorem dX8_deal_33 : decode cX8_deal 33 = .ok (.iload_n 1, 1) := by decide +kernel
theorem dX8_deal_34 : decode cX8_deal 34 = .ok (.if_icmp .ge 47, 3) := by decide +kernel
theorem dX8_deal_37 : decode cX8_deal 37 = .ok (.aload_n 0, 1) := by decide +kernel
theorem dX8_deal_38 : decode cX8_deal 38 = .ok (.getfield 7, 3) := by decide +kernel
theorem dX8_deal_41 : decode cX8_deal 41 = .ok (.iconst 1, 1) := by decide +kernel
theorem dX8_deal_42 : decode cX8_deal 42 = .ok (.isub, 1) := by decide +kernel
theorem dX8_deal_43 : decode cX8_deal 43 = .ok (.istore 4, 2) := by decide +kernel
theorem dX8_deal_45 : decode cX8_deal 45 = .ok (.iload 4, 2) := by decide +kernel
theorem dX8_deal_47 : decode cX8_deal 47 = .ok (.ifCond .lt 28, 3) := by decide +kernel
theorem dX8_deal_50 : decode cX8_deal 50 = .ok (.iload 4, 2) := by decide +kernel
theorem dX8_deal_52 : decode cX8_deal 52 = .ok (.iload_n 1, 1) := by decide +kernel
theorem dX8_deal_53 : decode cX8_deal 53 = .ok (.irem, 1) := by decide +kernel
theorem dX8_deal_54 : decode cX8_deal 54 = .ok (.iload_n 3, 1) := by decide +kernel
theorem dX8_deal_55 : decode cX8_deal 55 = .ok (.if_icmp .ne 14, 3) := by decide +kernel
theorem dX8_deal_58 : decode cX8_deal 58 = .ok (.aload_n 0, 1) := by decide +kernel
theorem dX8_deal_59 : decode cX8_deal 59 = .ok (.getfield 26, 3) := by decide +kernel
theorem dX8_deal_62 : decode cX8_deal 62 = .ok (.iload_n 2, 1) := by decide +kernel
theorem dX8_deal_63 : decode cX8_deal 63 = .ok (.iinc 2 1, 3) := by decide +kernel
theorem dX8_deal_66 : decode cX8_deal 66 = .ok (.iload 4, 2) := by decide +kernel
theorem dX8_deal_68 : decode cX8_deal 68 = .ok (.iastore, 1) := by decide +kernel
theorem dX8_deal_69 : decode cX8_deal 69 = .ok (.iinc 4 (-1), 3) := by decide +kernel
theorem dX8_deal_72 : decode cX8_deal 72 = .ok (.goto (-27), 3) := by decide +kernel
theorem dX8_deal_75 : decode cX8_deal 75 = .ok (.iinc 3 1, 3) := by decide +kernel
theorem dX8_deal_78 : decode cX8_deal 78 = .ok (.goto (-46), 3) := by decide +kernel
theorem dX8_deal_81 : decode cX8_deal 81 = .ok (.aload_n 0, 1) := by decide +kernel
theorem dX8_deal_82 : decode cX8_deal 82 = .ok (.iconst 2, 1) := by decide +kernel
theorem dX8_deal_83 : decode cX8_deal 83 = .ok (.iload_n 1, 1) := by decide +kernel
theorem dX8_deal_84 : decode cX8_deal 84 = .ok (.invokevirtual 116, 3) := by decide +kernel
theorem dX8_deal_87 : decode cX8_deal 87 = .ok (.ireturn, 1) := by decide +kernel
theorem dX8_riffle_0 : decode cX8_riffle 0 = .ok (.iload_n 1, 1) := by decide +kernel
theorem dX8_riffle_1 : decode cX8_riffle 1 = .ok (.iconst 1, 1) := by decide +kernel
theorem dX8_riffle_2 : decode cX8_riffle 2 = .ok (.if_icmp .lt 9, 3) := by decide +kernel
theorem dX8_riffle_5 : decode cX8_riffle 5 = .ok (.iload_n 1, 1) := by decide +kernel
theorem dX8_riffle_6 : decode cX8_riffle 6 = .ok (.bipush 10, 2) := by decide +kernel
theorem dX8_riffle_8 : decode cX8_riffle 8 = .ok (.if_icmp .le 6, 3) := by decide +kernel
theorem dX8_riffle_11 : decode cX8_riffle 11 = .ok (.bipush (-2), 2) := by decide +kernel
theorem dX8_riffle_13 : decode cX8_riffle 13 = .ok (.ireturn, 1) := by decide +kernel
theorem dX8_riffle_14 : decode cX8_riffle 14 = .ok (.aload_n 0, 1) := by decide +kernel
theorem dX8_riffle_15 : decode cX8_riffle 15 = .ok (.getfield 75, 3) := by decide +kernel
theorem dX8_riffle_18 : decode cX8_riffle 18 = .ok (.bipush 10, 2) := by decide +kernel
theorem dX8_riffle_20 : decode cX8_riffle 20 = .ok (.if_icmp .ne 8, 3) := by decide +kernel
theorem dX8_riffle_23 : decode cX8_riffle 23 = .ok (.bipush (-4), 2) := by decide +kernel
theorem dX8_riffle_25 : decode cX8_riffle 25 = .ok (.goto 9, 3) := by decide +kernel
theorem dX8_riffle_28 : decode cX8_riffle 28 = .ok (.aload_n 0, 1) := by decide +kernel
theorem dX8_riffle_29 : decode cX8_riffle 29 = .ok (.iconst 3, 1) := by decide +kernel
theorem dX8_riffle_30 : decode cX8_riffle 30 = .ok (.iload_n 1, 1) := by decide +kernel
theorem dX8_riffle_31 : decode cX8_riffle 31 = .ok (.invokevirtual 116, 3) := by decide +kernel
theorem dX8_riffle_34 : decode cX8_riffle 34 = .ok (.ireturn, 1) := by decide +kernel
theorem dX8_top_0 : decode cX8_top 0 = .ok (.aload_n 0, 1) := by decide +kernel
theorem dX8_top_1 : decode cX8_top 1 = .ok (.getfield 75, 3) := by decide +kernel
theorem dX8_top_4 : decode cX8_top 4 = .ok (.bipush 10, 2) := by decide +kernel
theorem dX8_top_6 : decode cX8_top 6 = .ok (.if_icmp .ne 8, 3) := by decide +kernel
theorem dX8_top_9 : decode cX8_top 9 = .ok (.bipush (-4), 2) := by decide +kernel
theorem dX8_top_11 : decode cX8_top 11 = .ok (.goto 12, 3) := by decide +kernel
theorem dX8_top_14 : decode cX8_top 14 = .ok (.aload_n 0, 1) := by decide +kernel
theorem dX8_top_15 : decode cX8_top 15 = .ok (.iconst 4, 1) := by decide +kernel
theorem dX8_top_16 : decode cX8_top 16 = .ok (.aload_n 0, 1) := by decide +kernel
theorem dX8_top_17 : decode cX8_top 17 = .ok (.getfield 7, 3) := by decide +kernel
theorem dX8_top_20 : decode cX8_top 20 = .ok (.invokevirtual 116, 3) := by decide +kernel
theorem dX8_top_23 : decode cX8_top 23 = .ok (.ireturn, 1) := by decide +kernel
theorem dX8_behind_0 : decode cX8_behind 0 = .ok (.aload_n 0, 1) := by decide +kernel
theorem dX8_behind_1 : decode cX8_behind 1 = .ok (.iload_n 1, 1) := by decide +kernel
theorem dX8_behind_2 : decode cX8_behind 2 = .ok (.invokevirtual 123, 3) := by decide +kernel
theorem dX8_behind_5 : decode cX8_behind 5 = .ok (.ifCond .eq 11, 3) := by decide +kernel
theorem dX8_behind_8 : decode cX8_behind 8 = .ok (.aload_n 0, 1) := by decide +kernel
theorem dX8_behind_9 : decode cX8_behind 9 = .ok (.iload_n 2, 1) := by decide +kernel
theorem dX8_behind_10 : decode cX8_behind 10 = .ok (.invokevirtual 123, 3) := by decide +kernel
theorem dX8_behind_13 : decode cX8_behind 13 = .ok (.ifCond .ne 6, 3) := by decide +kernel
theorem dX8_behind_16 : decode cX8_behind 16 = .ok (.bipush (-2), 2) := by decide +kernel
theorem dX8_behind_18 : decode cX8_behind 18 = .ok (.ireturn, 1) := by decide +kernel
theorem dX8_behind_19 : decode cX8_behind 19 = .ok (.aload_n 0, 1) := by decide +kernel
theorem dX8_behind_20 : decode cX8_behind 20 = .ok (.iload_n 1, 1) := by decide +kernel
theorem dX8_behind_21 : decode cX8_behind 21 = .ok (.invokevirtual 126, 3) := by decide +kernel
theorem dX8_behind_24 : decode cX8_behind 24 = .ok (.ifCond .eq 11, 3) := by decide +kernel
theorem dX8_behind_27 : decode cX8_behind 27 = .ok (.aload_n 0, 1) := by decide +kernel
theorem dX8_behind_28 : decode cX8_behind 28 = .ok (.iload_n 2, 1) := by decide +kernel
theorem dX8_behind_29 : decode cX8_behind 29 = .ok (.invokevirtual 126, 3) := by decide +kernel
theorem dX8_behind_32 : decode cX8_behind 32 = .ok (.ifCond .ne 6, 3) := by decide +kernel
theorem dX8_behind_35 : decode cX8_behind 35 = .ok (.bipush (-3), 2) := by decide +kernel
theorem dX8_behind_37 : decode cX8_behind 37 = .ok (.ireturn, 1) := by decide +kernel
theorem dX8_behind_38 : decode cX8_behind 38 = .ok (.aload_n 0, 1) := by decide +kernel
theorem dX8_behind_39 : decode cX8_behind 39 = .ok (.getfield 75, 3) := by decide +kernel
theorem dX8_behind_42 : decode cX8_behind 42 = .ok (.bipush 10, 2) := by decide +kernel
theorem dX8_behind_44 : decode cX8_behind 44 = .ok (.if_icmp .ne 6, 3) := by decide +kernel
theorem dX8_behind_47 : decode cX8_behind 47 = .ok (.bipush (-4), 2) := by decide +kernel
theorem dX8_behind_49 : decode cX8_behind 49 = .ok (.ireturn, 1) := by decide +kernel
theorem dX8_behind_50 : decode cX8_behind 50 = .ok (.iconst 0, 1) := by decide +kernel
theorem dX8_behind_51 : decode cX8_behind 51 = .ok (.istore_n 3, 1) := by decide +kernel
theorem dX8_behind_52 : decode cX8_behind 52 = .ok (.iload_n 3, 1) := by decide +kernel
theorem dX8_behind_53 : decode cX8_behind 53 = .ok (.aload_n 0, 1) := by decide +kernel
theorem dX8_behind_54 : decode cX8_behind 54 = .ok (.getfield 7, 3) := by decide +kernel
theorem dX8_behind_57 : decode cX8_behind 57 = .ok (.if_icmp .ge 36, 3) := by decide +kernel
theorem dX8_behind_60 : decode cX8_behind 60 = .ok (.aload_n 0, 1) := by decide +kernel
theorem dX8_behind_61 : decode cX8_behind 61 = .ok (.getfield 26, 3) := by decide +kernel
theorem dX8_behind_64 : decode cX8_behind 64 = .ok (.iload_n 3, 1) := by decide +kernel
theorem dX8_behind_65 : decode cX8_behind 65 = .ok (.aload_n 0, 1) := by decide +kernel
theorem dX8_behind_66 : decode cX8_behind 66 = .ok (.getfield 23, 3) := by decide +kernel
theorem dX8_behind_69 : decode cX8_behind 69 = .ok (.bipush 10, 2) := by decide +kernel
theorem dX8_behind_71 : decode cX8_behind 71 = .ok (.iload_n 1, 1) := by decide +kernel
theorem dX8_behind_72 : decode cX8_behind 72 = .ok (.imul, 1) := by decide +kernel
theorem dX8_behind_73 : decode cX8_behind 73 = .ok (.aload_n 0, 1) := by decide +kernel
theorem dX8_behind_74 : decode cX8_behind 74 = .ok (.getfield 23, 3) := by decide +kernel
theorem dX8_behind_77 : decode cX8_behind 77 = .ok (.bipush 10, 2) := by decide +kernel
theorem dX8_behind_79 : decode cX8_behind 79 = .ok (.iload_n 2, 1) := by decide +kernel
theorem dX8_behind_80 : decode cX8_behind 80 = .ok (.imul, 1) := by decide +kernel
theorem dX8_behind_81 : decode cX8_behind 81 = .ok (.iload_n 3, 1) := by decide +kernel
theorem dX8_behind_82 : decode cX8_behind 82 = .ok (.iadd, 1) := by decide +kernel
theorem dX8_behind_83 : decode cX8_behind 83 = .ok (.iaload, 1) := by decide +kernel
theorem dX8_behind_84 : decode cX8_behind 84 = .ok (.iadd, 1) := by decide +kernel
theorem dX8_behind_85 : decode cX8_behind 85 = .ok (.iaload, 1) := by decide +kernel
theorem dX8_behind_86 : decode cX8_behind 86 = .ok (.iastore, 1) := by decide +kernel
theorem dX8_behind_87 : decode cX8_behind 87 = .ok (.iinc 3 1, 3) := by decide +kernel
theorem dX8_behind_90 : decode cX8_behind 90 = .ok (.goto (-38), 3) := by decide +kernel
theorem dX8_behind_93 : decode cX8_behind 93 = .ok (.aload_n 0, 1) := by decide +kernel
theorem dX8_behind_94 : decode cX8_behind 94 = .ok (.iconst 0, 1) := by decide +kernel
theorem dX8_behind_95 : decode cX8_behind 95 = .ok (.iconst 2, 1) := by decide +kernel
theorem dX8_behind_96 : decode cX8_behind 96 = .ok (.invokevirtual 116, 3) := by decide +kernel
theorem dX8_behind_99 : decode cX8_behind 99 = .ok (.ireturn, 1) := by decide +kernel
theorem dX8_back_0 : decode cX8_back 0 = .ok (.aload_n 0, 1) := by decide +kernel
theorem dX8_back_1 : decode cX8_back 1 = .ok (.iload_n 1, 1) := by decide +kernel
theorem dX8_back_2 : decode cX8_back 2 = .ok (.invokevirtual 123, 3) := by decide +kernel
theorem dX8_back_5 : decode cX8_back 5 = .ok (.ifCond .ne 6, 3) := by decide +kernel
theorem dX8_back_8 : decode cX8_back 8 = .ok (.bipush (-2), 2) := by decide +kernel
theorem dX8_back_10 : decode cX8_back 10 = .ok (.ireturn, 1) := by decide +kernel
theorem dX8_back_11 : decode cX8_back 11 = .ok (.aload_n 0, 1) := by decide +kernel
theorem dX8_back_12 : decode cX8_back 12 = .ok (.iload_n 1, 1) := by decide +kernel
theorem dX8_back_13 : decode cX8_back 13 = .ok (.invokevirtual 126, 3) := by decide +kernel
theorem dX8_back_16 : decode cX8_back 16 = .ok (.ifCond .ne 6, 3) := by decide +kernel
theorem dX8_back_19 : decode cX8_back 19 = .ok (.bipush (-3), 2) := by decide +kernel
theorem dX8_back_21 : decode cX8_back 21 = .ok (.ireturn, 1) := by decide +kernel
theorem dX8_back_22 : decode cX8_back 22 = .ok (.aload_n 0, 1) := by decide +kernel
theorem dX8_back_23 : decode cX8_back 23 = .ok (.getfield 75, 3) := by decide +kernel
theorem dX8_back_26 : decode cX8_back 26 = .ok (.bipush 10, 2) := by decide +kernel
theorem dX8_back_28 : decode cX8_back 28 = .ok (.if_icmp .ne 6, 3) := by decide +kernel
theorem dX8_back_31 : decode cX8_back 31 = .ok (.bipush (-4), 2) := by decide +kernel
theorem dX8_back_33 : decode cX8_back 33 = .ok (.ireturn, 1) := by decide +kernel
theorem dX8_back_34 : decode cX8_back 34 = .ok (.iconst 0, 1) := by decide +kernel
theorem dX8_back_35 : decode cX8_back 35 = .ok (.istore_n 2, 1) := by decide +kernel
theorem dX8_back_36 : decode cX8_back 36 = .ok (.iload_n 2, 1) := by decide +kernel
theorem dX8_back_37 : decode cX8_back 37 = .ok (.aload_n 0, 1) := by decide +kernel
theorem dX8_back_38 : decode cX8_back 38 = .ok (.getfield 7, 3) := by decide +kernel
theorem dX8_back_41 : decode cX8_back 41 = .ok (.if_icmp .ge 26, 3) := by decide +kernel
theorem dX8_back_44 : decode cX8_back 44 = .ok (.aload_n 0, 1) := by decide +kernel
theorem dX8_back_45 : decode cX8_back 45 = .ok (.getfield 26, 3) := by decide +kernel
theorem dX8_back_48 : decode cX8_back 48 = .ok (.aload_n 0, 1) := by decide +kernel
theorem dX8_back_49 : decode cX8_back 49 = .ok (.getfield 23, 3) := by decide +kernel
theorem dX8_back_52 : decode cX8_back 52 = .ok (.bipush 10, 2) := by decide +kernel
theorem dX8_back_54 : decode cX8_back 54 = .ok (.iload_n 1, 1) := by decide +kernel
theorem dX8_back_55 : decode cX8_back 55 = .ok (.imul, 1) := by decide +kernel
theorem dX8_back_56 : decode cX8_back 56 = .ok (.iload_n 2, 1) := by decide +kernel
theorem dX8_back_57 : decode cX8_back 57 = .ok (.iadd, 1) := by decide +kernel
theorem dX8_back_58 : decode cX8_back 58 = .ok (.iaload, 1) := by decide +kernel
theorem dX8_back_59 : decode cX8_back 59 = .ok (.iload_n 2, 1) := by decide +kernel
theorem dX8_back_60 : decode cX8_back 60 = .ok (.iastore, 1) := by decide +kernel
theorem dX8_back_61 : decode cX8_back 61 = .ok (.iinc 2 1, 3) := by decide +kernel
theorem dX8_back_64 : decode cX8_back 64 = .ok (.goto (-28), 3) := by decide +kernel
theorem dX8_back_67 : decode cX8_back 67 = .ok (.aload_n 0, 1) := by decide +kernel
theorem dX8_back_68 : decode cX8_back 68 = .ok (.iconst 0, 1) := by decide +kernel
theorem dX8_back_69 : decode cX8_back 69 = .ok (.iconst 2, 1) := by decide +kernel
theorem dX8_back_70 : decode cX8_back 70 = .ok (.invokevirtual 116, 3) := by decide +kernel
theorem dX8_back_73 : decode cX8_back 73 = .ok (.ireturn, 1) := by decide +kernel
theorem dX8_moves_0 : decode cX8_moves 0 = .ok (.aload_n 0, 1) := by decide +kernel
theorem dX8_moves_1 : decode cX8_moves 1 = .ok (.iload_n 1, 1) := by decide +kernel
theorem dX8_moves_2 : decode cX8_moves 2 = .ok (.invokevirtual 123, 3) := by decide +kernel
theorem dX8_moves_5 : decode cX8_moves 5 = .ok (.ifCond .eq 11, 3) := by decide +kernel
theorem dX8_moves_8 : decode cX8_moves 8 = .ok (.aload_n 0, 1) := by decide +kernel
theorem dX8_moves_9 : decode cX8_moves 9 = .ok (.iload_n 2, 1) := by decide +kernel
theorem dX8_moves_10 : decode cX8_moves 10 = .ok (.invokevirtual 98, 3) := by decide +kernel
theorem dX8_moves_13 : decode cX8_moves 13 = .ok (.ifCond .ne 6, 3) := by decide +kernel
theorem dX8_moves_16 : decode cX8_moves 16 = .ok (.bipush (-2), 2) := by decide +kernel
theorem dX8_moves_18 : decode cX8_moves 18 = .ok (.ireturn, 1) := by decide +kernel
theorem dX8_moves_19 : decode cX8_moves 19 = .ok (.aload_n 0, 1) := by decide +kernel
theorem dX8_moves_20 : decode cX8_moves 20 = .ok (.iload_n 1, 1) := by decide +kernel
theorem dX8_moves_21 : decode cX8_moves 21 = .ok (.invokevirtual 126, 3) := by decide +kernel
theorem dX8_moves_24 : decode cX8_moves 24 = .ok (.ifCond .eq 17, 3) := by decide +kernel
theorem dX8_moves_27 : decode cX8_moves 27 = .ok (.aload_n 0, 1) := by decide +kernel
theorem dX8_moves_28 : decode cX8_moves 28 = .ok (.getfield 23, 3) := by decide +kernel
theorem dX8_moves_31 : decode cX8_moves 31 = .ok (.bipush 10, 2) := by decide +kernel
theorem dX8_moves_33 : decode cX8_moves 33 = .ok (.iload_n 1, 1) := by decide +kernel
theorem dX8_moves_34 : decode cX8_moves 34 = .ok (.imul, 1) := by decide +kernel
theorem dX8_moves_35 : decode cX8_moves 35 = .ok (.iload_n 2, 1) := by decide +kernel
theorem dX8_moves_36 : decode cX8_moves 36 = .ok (.iadd, 1) := by decide +kernel
theorem dX8_moves_37 : decode cX8_moves 37 = .ok (.iaload, 1) := by decide +kernel
theorem dX8_moves_38 : decode cX8_moves 38 = .ok (.goto 4, 3) := by decide +kernel
theorem dX8_moves_41 : decode cX8_moves 41 = .ok (.iconst (-1), 1) := by decide +kernel
theorem dX8_moves_42 : decode cX8_moves 42 = .ok (.ireturn, 1) := by decide +kernel
theorem dX8_roundOf_0 : decode cX8_roundOf 0 = .ok (.iconst 1, 1) := by decide +kernel
theorem dX8_roundOf_1 : decode cX8_roundOf 1 = .ok (.istore_n 3, 1) := by decide +kernel
theorem dX8_roundOf_2 : decode cX8_roundOf 2 = .ok (.aload_n 0, 1) := by decide +kernel
theorem dX8_roundOf_3 : decode cX8_roundOf 3 = .ok (.getfield 23, 3) := by decide +kernel
theorem dX8_roundOf_6 : decode cX8_roundOf 6 = .ok (.bipush 10, 2) := by decide +kernel
theorem dX8_roundOf_8 : decode cX8_roundOf 8 = .ok (.iload_n 1, 1) := by decide +kernel
theorem dX8_roundOf_9 : decode cX8_roundOf 9 = .ok (.imul, 1) := by decide +kernel
theorem dX8_roundOf_10 : decode cX8_roundOf 10 = .ok (.iload_n 2, 1) := by decide +kernel
theorem dX8_roundOf_11 : decode cX8_roundOf 11 = .ok (.iadd, 1) := by decide +kernel
theorem dX8_roundOf_12 : decode cX8_roundOf 12 = .ok (.iaload, 1) := by decide +kernel
theorem dX8_roundOf_13 : decode cX8_roundOf 13 = .ok (.istore 4, 2) := by decide +kernel
theorem dX8_roundOf_15 : decode cX8_roundOf 15 = .ok (.iload 4, 2) := by decide +kernel
theorem dX8_roundOf_17 : decode cX8_roundOf 17 = .ok (.iload_n 2, 1) := by decide +kernel
theorem dX8_roundOf_18 : decode cX8_roundOf 18 = .ok (.if_icmp .eq 23, 3) := by decide +kernel
theorem dX8_roundOf_21 : decode cX8_roundOf 21 = .ok (.aload_n 0, 1) := by decide +kernel
theorem dX8_roundOf_22 : decode cX8_roundOf 22 = .ok (.getfield 23, 3) := by decide +kernel
theorem dX8_roundOf_25 : decode cX8_roundOf 25 = .ok (.bipush 10, 2) := by decide +kernel
theorem dX8_roundOf_27 : decode cX8_roundOf 27 = .ok (.iload_n 1, 1) := by decide +kernel
theorem dX8_roundOf_28 : decode cX8_roundOf 28 = .ok (.imul, 1) := by decide +kernel
theorem dX8_roundOf_29 : decode cX8_roundOf 29 = .ok (.iload 4, 2) := by decide +kernel
theorem dX8_roundOf_31 : decode cX8_roundOf 31 = .ok (.iadd, 1) := by decide +kernel
theorem dX8_roundOf_32 : decode cX8_roundOf 32 = .ok (.iaload, 1) := by decide +kernel
theorem dX8_roundOf_33 : decode cX8_roundOf 33 = .ok (.istore 4, 2) := by decide +kernel
theorem dX8_roundOf_35 : decode cX8_roundOf 35 = .ok (.iinc 3 1, 3) := by decide +kernel
theorem dX8_roundOf_38 : decode cX8_roundOf 38 = .ok (.goto (-23), 3) := by decide +kernel
theorem dX8_roundOf_41 : decode cX8_roundOf 41 = .ok (.iload_n 3, 1) := by decide +kernel
theorem dX8_roundOf_42 : decode cX8_roundOf 42 = .ok (.ireturn, 1) := by decide +kernel
theorem dX8_rounds_0 : decode cX8_rounds 0 = .ok (.iconst 0, 1) := by decide +kernel
theorem dX8_rounds_1 : decode cX8_rounds 1 = .ok (.istore_n 2, 1) := by decide +kernel
theorem dX8_rounds_2 : decode cX8_rounds 2 = .ok (.iconst 0, 1) := by decide +kernel
theorem dX8_rounds_3 : decode cX8_rounds 3 = .ok (.istore_n 3, 1) := by decide +kernel
theorem dX8_rounds_4 : decode cX8_rounds 4 = .ok (.iload_n 3, 1) := by decide +kernel
theorem dX8_rounds_5 : decode cX8_rounds 5 = .ok (.aload_n 0, 1) := by decide +kernel
theorem dX8_rounds_6 : decode cX8_rounds 6 = .ok (.getfield 7, 3) := by decide +kernel
theorem dX8_rounds_9 : decode cX8_rounds 9 = .ok (.if_icmp .ge 65, 3) := by decide +kernel
theorem dX8_rounds_12 : decode cX8_rounds 12 = .ok (.iconst 1, 1) := by decide +kernel
theorem dX8_rounds_13 : decode cX8_rounds 13 = .ok (.istore 4, 2) := by decide +kernel
theorem dX8_rounds_15 : decode cX8_rounds 15 = .ok (.aload_n 0, 1) := by decide +kernel
theorem dX8_rounds_16 : decode cX8_rounds 16 = .ok (.getfield 23, 3) := by decide +kernel
theorem dX8_rounds_19 : decode cX8_rounds 19 = .ok (.bipush 10, 2) := by decide +kernel
theorem dX8_rounds_21 : decode cX8_rounds 21 = .ok (.iload_n 1, 1) := by decide +kernel
theorem dX8_rounds_22 : decode cX8_rounds 22 = .ok (.imul, 1) := by decide +kernel
theorem dX8_rounds_23 : decode cX8_rounds 23 = .ok (.iload_n 3, 1) := by decide +kernel
theorem dX8_rounds_24 : decode cX8_rounds 24 = .ok (.iadd, 1) := by decide +kernel
theorem dX8_rounds_25 : decode cX8_rounds 25 = .ok (.iaload, 1) := by decide +kernel
theorem dX8_rounds_26 : decode cX8_rounds 26 = .ok (.istore 5, 2) := by decide +kernel
theorem dX8_rounds_28 : decode cX8_rounds 28 = .ok (.iload 5, 2) := by decide +kernel
theorem dX8_rounds_30 : decode cX8_rounds 30 = .ok (.iload_n 3, 1) := by decide +kernel
theorem dX8_rounds_31 : decode cX8_rounds 31 = .ok (.if_icmp .eq 29, 3) := by decide +kernel
theorem dX8_rounds_34 : decode cX8_rounds 34 = .ok (.iload 5, 2) := by decide +kernel
theorem dX8_rounds_36 : decode cX8_rounds 36 = .ok (.iload_n 3, 1) := by decide +kernel
theorem dX8_rounds_37 : decode cX8_rounds 37 = .ok (.if_icmp .ge 6, 3) := by decide +kernel
theorem dX8_rounds_40 : decode cX8_rounds 40 = .ok (.iconst 0, 1) := by decide +kernel
theorem dX8_rounds_41 : decode cX8_rounds 41 = .ok (.istore 4, 2) := by decide +kernel
theorem dX8_rounds_43 : decode cX8_rounds 43 = .ok (.aload_n 0, 1) := by decide +kernel
theorem dX8_rounds_44 : decode cX8_rounds 44 = .ok (.getfield 23, 3) := by decide +kernel
theorem dX8_rounds_47 : decode cX8_rounds 47 = .ok (.bipush 10, 2) := by decide +kernel
theorem dX8_rounds_49 : decode cX8_rounds 49 = .ok (.iload_n 1, 1) := by decide +kernel
theorem dX8_rounds_50 : decode cX8_rounds 50 = .ok (.imul, 1) := by decide +kernel
theorem dX8_rounds_51 : decode cX8_rounds 51 = .ok (.iload 5, 2) := by decide +kernel
theorem dX8_rounds_53 : decode cX8_rounds 53 = .ok (.iadd, 1) := by decide +kernel
theorem dX8_rounds_54 : decode cX8_rounds 54 = .ok (.iaload, 1) := by decide +kernel
theorem dX8_rounds_55 : decode cX8_rounds 55 = .ok (.istore 5, 2) := by decide +kernel
theorem dX8_rounds_57 : decode cX8_rounds 57 = .ok (.goto (-29), 3) := by decide +kernel
theorem dX8_rounds_60 : decode cX8_rounds 60 = .ok (.iload 4, 2) := by decide +kernel
theorem dX8_rounds_62 : decode cX8_rounds 62 = .ok (.ifCond .eq 6, 3) := by decide +kernel
theorem dX8_rounds_65 : decode cX8_rounds 65 = .ok (.iinc 2 1, 3) := by decide +kernel
theorem dX8_rounds_68 : decode cX8_rounds 68 = .ok (.iinc 3 1, 3) := by decide +kernel
theorem dX8_rounds_71 : decode cX8_rounds 71 = .ok (.goto (-67), 3) := by decide +kernel
theorem dX8_rounds_74 : decode cX8_rounds 74 = .ok (.iload_n 2, 1) := by decide +kernel
theorem dX8_rounds_75 : decode cX8_rounds 75 = .ok (.ireturn, 1) := by decide +kernel
theorem dX8_whole_0 : decode cX8_whole 0 = .ok (.iconst 1, 1) := by decide +kernel
theorem dX8_whole_1 : decode cX8_whole 1 = .ok (.istore_n 2, 1) := by decide +kernel
theorem dX8_whole_2 : decode cX8_whole 2 = .ok (.iconst 0, 1) := by decide +kernel
theorem dX8_whole_3 : decode cX8_whole 3 = .ok (.istore_n 3, 1) := by decide +kernel
theorem dX8_whole_4 : decode cX8_whole 4 = .ok (.iload_n 3, 1) := by decide +kernel
theorem dX8_whole_5 : decode cX8_whole 5 = .ok (.aload_n 0, 1) := by decide +kernel
theorem dX8_whole_6 : decode cX8_whole 6 = .ok (.getfield 7, 3) := by decide +kernel
theorem dX8_whole_9 : decode cX8_whole 9 = .ok (.if_icmp .ge 40, 3) := by decide +kernel
theorem dX8_whole_12 : decode cX8_whole 12 = .ok (.aload_n 0, 1) := by decide +kernel
theorem dX8_whole_13 : decode cX8_whole 13 = .ok (.iload_n 1, 1) := by decide +kernel
theorem dX8_whole_14 : decode cX8_whole 14 = .ok (.iload_n 3, 1) := by decide +kernel
theorem dX8_whole_15 : decode cX8_whole 15 = .ok (.invokevirtual 129, 3) := by decide +kernel
theorem dX8_whole_18 : decode cX8_whole 18 = .ok (.istore 4, 2) := by decide +kernel
theorem dX8_whole_20 : decode cX8_whole 20 = .ok (.iload_n 2, 1) := by decide +kernel
theorem dX8_whole_21 : decode cX8_whole 21 = .ok (.istore 5, 2) := by decide +kernel
theorem dX8_whole_23 : decode cX8_whole 23 = .ok (.iload 5, 2) := by decide +kernel
theorem dX8_whole_25 : decode cX8_whole 25 = .ok (.iload 4, 2) := by decide +kernel
theorem dX8_whole_27 : decode cX8_whole 27 = .ok (.irem, 1) := by decide +kernel
theorem dX8_whole_28 : decode cX8_whole 28 = .ok (.ifCond .eq 12, 3) := by decide +kernel
theorem dX8_whole_31 : decode cX8_whole 31 = .ok (.iload 5, 2) := by decide +kernel
theorem dX8_whole_33 : decode cX8_whole 33 = .ok (.iload_n 2, 1) := by decide +kernel
theorem dX8_whole_34 : decode cX8_whole 34 = .ok (.iadd, 1) := by decide +kernel
theorem dX8_whole_35 : decode cX8_whole 35 = .ok (.istore 5, 2) := by decide +kernel
theorem dX8_whole_37 : decode cX8_whole 37 = .ok (.goto (-14), 3) := by decide +kernel
theorem dX8_whole_40 : decode cX8_whole 40 = .ok (.iload 5, 2) := by decide +kernel
theorem dX8_whole_42 : decode cX8_whole 42 = .ok (.istore_n 2, 1) := by decide +kernel
theorem dX8_whole_43 : decode cX8_whole 43 = .ok (.iinc 3 1, 3) := by decide +kernel
theorem dX8_whole_46 : decode cX8_whole 46 = .ok (.goto (-42), 3) := by decide +kernel
theorem dX8_whole_49 : decode cX8_whole 49 = .ok (.iload_n 2, 1) := by decide +kernel
theorem dX8_whole_50 : decode cX8_whole 50 = .ok (.ireturn, 1) := by decide +kernel
theorem dX8_shuffleTold_0 : decode cX8_shuffleTold 0 = .ok (.aload_n 0, 1) := by decide +kernel
theorem dX8_shuffleTold_1 : decode cX8_shuffleTold 1 = .ok (.iload_n 1, 1) := by decide +kernel
theorem dX8_shuffleTold_2 : decode cX8_shuffleTold 2 = .ok (.invokevirtual 123, 3) := by decide +kernel
theorem dX8_shuffleTold_5 : decode cX8_shuffleTold 5 = .ok (.ifCond .ne 6, 3) := by decide +kernel
theorem dX8_shuffleTold_8 : decode cX8_shuffleTold 8 = .ok (.bipush (-2), 2) := by decide +kernel
theorem dX8_shuffleTold_10 : decode cX8_shuffleTold 10 = .ok (.ireturn, 1) := by decide +kernel
theorem dX8_shuffleTold_11 : decode cX8_shuffleTold 11 = .ok (.iload_n 2, 1) := by decide +kernel
theorem dX8_shuffleTold_12 : decode cX8_shuffleTold 12 = .ok (.tableswitch 82 0 3 #[32, 39, 46, 64], 32) := by decide +kernel
theorem dX8_shuffleTold_44 : decode cX8_shuffleTold 44 = .ok (.aload_n 0, 1) := by decide +kernel
theorem dX8_shuffleTold_45 : decode cX8_shuffleTold 45 = .ok (.getfield 17, 3) := by decide +kernel
theorem dX8_shuffleTold_48 : decode cX8_shuffleTold 48 = .ok (.iload_n 1, 1) := by decide +kernel
theorem dX8_shuffleTold_49 : decode cX8_shuffleTold 49 = .ok (.iaload, 1) := by decide +kernel
theorem dX8_shuffleTold_50 : decode cX8_shuffleTold 50 = .ok (.ireturn, 1) := by decide +kernel
theorem dX8_shuffleTold_51 : decode cX8_shuffleTold 51 = .ok (.aload_n 0, 1) := by decide +kernel
theorem dX8_shuffleTold_52 : decode cX8_shuffleTold 52 = .ok (.getfield 20, 3) := by decide +kernel
theorem dX8_shuffleTold_55 : decode cX8_shuffleTold 55 = .ok (.iload_n 1, 1) := by decide +kernel
theorem dX8_shuffleTold_56 : decode cX8_shuffleTold 56 = .ok (.iaload, 1) := by decide +kernel
theorem dX8_shuffleTold_57 : decode cX8_shuffleTold 57 = .ok (.ireturn, 1) := by decide +kernel
theorem dX8_shuffleTold_58 : decode cX8_shuffleTold 58 = .ok (.aload_n 0, 1) := by decide +kernel
theorem dX8_shuffleTold_59 : decode cX8_shuffleTold 59 = .ok (.iload_n 1, 1) := by decide +kernel
theorem dX8_shuffleTold_60 : decode cX8_shuffleTold 60 = .ok (.invokevirtual 126, 3) := by decide +kernel
theorem dX8_shuffleTold_63 : decode cX8_shuffleTold 63 = .ok (.ifCond .eq 11, 3) := by decide +kernel
theorem dX8_shuffleTold_66 : decode cX8_shuffleTold 66 = .ok (.aload_n 0, 1) := by decide +kernel
theorem dX8_shuffleTold_67 : decode cX8_shuffleTold 67 = .ok (.iload_n 1, 1) := by decide +kernel
theorem dX8_shuffleTold_68 : decode cX8_shuffleTold 68 = .ok (.invokevirtual 132, 3) := by decide +kernel
theorem dX8_shuffleTold_71 : decode cX8_shuffleTold 71 = .ok (.goto 4, 3) := by decide +kernel
theorem dX8_shuffleTold_74 : decode cX8_shuffleTold 74 = .ok (.iconst (-1), 1) := by decide +kernel
theorem dX8_shuffleTold_75 : decode cX8_shuffleTold 75 = .ok (.ireturn, 1) := by decide +kernel
theorem dX8_shuffleTold_76 : decode cX8_shuffleTold 76 = .ok (.aload_n 0, 1) := by decide +kernel
theorem dX8_shuffleTold_77 : decode cX8_shuffleTold 77 = .ok (.iload_n 1, 1) := by decide +kernel
theorem dX8_shuffleTold_78 : decode cX8_shuffleTold 78 = .ok (.invokevirtual 126, 3) := by decide +kernel
theorem dX8_shuffleTold_81 : decode cX8_shuffleTold 81 = .ok (.ifCond .eq 11, 3) := by decide +kernel
theorem dX8_shuffleTold_84 : decode cX8_shuffleTold 84 = .ok (.aload_n 0, 1) := by decide +kernel
theorem dX8_shuffleTold_85 : decode cX8_shuffleTold 85 = .ok (.iload_n 1, 1) := by decide +kernel
theorem dX8_shuffleTold_86 : decode cX8_shuffleTold 86 = .ok (.invokevirtual 135, 3) := by decide +kernel
theorem dX8_shuffleTold_89 : decode cX8_shuffleTold 89 = .ok (.goto 4, 3) := by decide +kernel
theorem dX8_shuffleTold_92 : decode cX8_shuffleTold 92 = .ok (.iconst (-1), 1) := by decide +kernel
theorem dX8_shuffleTold_93 : decode cX8_shuffleTold 93 = .ok (.ireturn, 1) := by decide +kernel
theorem dX8_shuffleTold_94 : decode cX8_shuffleTold 94 = .ok (.bipush (-2), 2) := by decide +kernel
theorem dX8_shuffleTold_96 : decode cX8_shuffleTold 96 = .ok (.ireturn, 1) := by decide +kernel
theorem dX8_power__0 : decode cX8_power_ 0 = .ok (.aload_n 0, 1) := by decide +kernel
theorem dX8_power__1 : decode cX8_power_ 1 = .ok (.iload_n 1, 1) := by decide +kernel
theorem dX8_power__2 : decode cX8_power_ 2 = .ok (.invokevirtual 123, 3) := by decide +kernel
theorem dX8_power__5 : decode cX8_power_ 5 = .ok (.ifCond .eq 18, 3) := by decide +kernel
theorem dX8_power__8 : decode cX8_power_ 8 = .ok (.lload_n 2, 1) := by decide +kernel
theorem dX8_power__9 : decode cX8_power_ 9 = .ok (.lconst 0, 1) := by decide +kernel
theorem dX8_power__10 : decode cX8_power_ 10 = .ok (.lcmp, 1) := by decide +kernel
theorem dX8_power__11 : decode cX8_power_ 11 = .ok (.ifCond .lt 12, 3) := by decide +kernel
theorem dX8_power__14 : decode cX8_power_ 14 = .ok (.aload_n 0, 1) := by decide +kernel
theorem dX8_power__15 : decode cX8_power_ 15 = .ok (.iload 4, 2) := by decide +kernel
theorem dX8_power__17 : decode cX8_power_ 17 = .ok (.invokevirtual 98, 3) := by decide +kernel
theorem dX8_power__20 : decode cX8_power_ 20 = .ok (.ifCond .ne 6, 3) := by decide +kernel
theorem dX8_power__23 : decode cX8_power_ 23 = .ok (.bipush (-2), 2) := by decide +kernel
theorem dX8_power__25 : decode cX8_power_ 25 = .ok (.ireturn, 1) := by decide +kernel
theorem dX8_power__26 : decode cX8_power_ 26 = .ok (.aload_n 0, 1) := by decide +kernel
theorem dX8_power__27 : decode cX8_power_ 27 = .ok (.iload_n 1, 1) := by decide +kernel
theorem dX8_power__28 : decode cX8_power_ 28 = .ok (.invokevirtual 126, 3) := by decide +kernel
theorem dX8_power__31 : decode cX8_power_ 31 = .ok (.ifCond .ne 5, 3) := by decide +kernel
theorem dX8_power__34 : decode cX8_power_ 34 = .ok (.iconst (-1), 1) := by decide +kernel
theorem dX8_power__35 : decode cX8_power_ 35 = .ok (.ireturn, 1) := by decide +kernel
theorem dX8_power__36 : decode cX8_power_ 36 = .ok (.lload_n 2, 1) := by decide +kernel
theorem dX8_power__37 : decode cX8_power_ 37 = .ok (.aload_n 0, 1) := by decide +kernel
theorem dX8_power__38 : decode cX8_power_ 38 = .ok (.iload_n 1, 1) := by decide +kernel
theorem dX8_power__39 : decode cX8_power_ 39 = .ok (.iload 4, 2) := by decide +kernel
theorem dX8_power__41 : decode cX8_power_ 41 = .ok (.invokevirtual 129, 3) := by decide +kernel
theorem dX8_power__44 : decode cX8_power_ 44 = .ok (.i2l, 1) := by decide +kernel
theorem dX8_power__45 : decode cX8_power_ 45 = .ok (.lrem, 1) := by decide +kernel
theorem dX8_power__46 : decode cX8_power_ 46 = .ok (.l2i, 1) := by decide +kernel
theorem dX8_power__47 : decode cX8_power_ 47 = .ok (.istore 5, 2) := by decide +kernel
theorem dX8_power__49 : decode cX8_power_ 49 = .ok (.iload 4, 2) := by decide +kernel
theorem dX8_power__51 : decode cX8_power_ 51 = .ok (.istore 6, 2) := by decide +kernel
theorem dX8_power__53 : decode cX8_power_ 53 = .ok (.iconst 0, 1) := by decide +kernel
theorem dX8_power__54 : decode cX8_power_ 54 = .ok (.istore 7, 2) := by decide +kernel
theorem dX8_power__56 : decode cX8_power_ 56 = .ok (.iload 7, 2) := by decide +kernel
theorem dX8_power__58 : decode cX8_power_ 58 = .ok (.iload 5, 2) := by decide +kernel
theorem dX8_power__60 : decode cX8_power_ 60 = .ok (.if_icmp .ge 23, 3) := by decide +kernel
theorem dX8_power__63 : decode cX8_power_ 63 = .ok (.aload_n 0, 1) := by decide +kernel
theorem dX8_power__64 : decode cX8_power_ 64 = .ok (.getfield 23, 3) := by decide +kernel
theorem dX8_power__67 : decode cX8_power_ 67 = .ok (.bipush 10, 2) := by decide +kernel
theorem dX8_power__69 : decode cX8_power_ 69 = .ok (.iload_n 1, 1) := by decide +kernel
theorem dX8_power__70 : decode cX8_power_ 70 = .ok (.imul, 1) := by decide +kernel
theorem dX8_power__71 : decode cX8_power_ 71 = .ok (.iload 6, 2) := by decide +kernel
theorem dX8_power__73 : decode cX8_power_ 73 = .ok (.iadd, 1) := by decide +kernel
theorem dX8_power__74 : decode cX8_power_ 74 = .ok (.iaload, 1) := by decide +kernel
theorem dX8_power__75 : decode cX8_power_ 75 = .ok (.istore 6, 2) := by decide +kernel
theorem dX8_power__77 : decode cX8_power_ 77 = .ok (.iinc 7 1, 3) := by decide +kernel
theorem dX8_power__80 : decode cX8_power_ 80 = .ok (.goto (-24), 3) := by decide +kernel
theorem dX8_power__83 : decode cX8_power_ 83 = .ok (.iload 6, 2) := by decide +kernel
theorem dX8_power__85 : decode cX8_power_ 85 = .ok (.ireturn, 1) := by decide +kernel
theorem dX8_does_0 : decode cX8_does 0 = .ok (.aload_n 0, 1) := by decide +kernel
theorem dX8_does_1 : decode cX8_does 1 = .ok (.iload_n 1, 1) := by decide +kernel
theorem dX8_does_2 : decode cX8_does 2 = .ok (.invokevirtual 123, 3) := by decide +kernel
theorem dX8_does_5 : decode cX8_does 5 = .ok (.ifCond .eq 11, 3) := by decide +kernel
theorem dX8_does_8 : decode cX8_does 8 = .ok (.aload_n 0, 1) := by decide +kernel
theorem dX8_does_9 : decode cX8_does 9 = .ok (.iload_n 2, 1) := by decide +kernel
theorem dX8_does_10 : decode cX8_does 10 = .ok (.invokevirtual 101, 3) := by decide +kernel
theorem dX8_does_13 : decode cX8_does 13 = .ok (.ifCond .ne 6, 3) := by decide +kernel
theorem dX8_does_16 : decode cX8_does 16 = .ok (.bipush (-2), 2) := by decide +kernel
theorem dX8_does_18 : decode cX8_does 18 = .ok (.ireturn, 1) := by decide +kernel
theorem dX8_does_19 : decode cX8_does 19 = .ok (.aload_n 0, 1) := by decide +kernel
theorem dX8_does_20 : decode cX8_does 20 = .ok (.iload_n 1, 1) := by decide +kernel
theorem dX8_does_21 : decode cX8_does 21 = .ok (.invokevirtual 126, 3) := by decide +kernel
theorem dX8_does_24 : decode cX8_does 24 = .ok (.ifCond .ne 6, 3) := by decide +kernel
theorem dX8_does_27 : decode cX8_does 27 = .ok (.bipush (-3), 2) := by decide +kernel
theorem dX8_does_29 : decode cX8_does 29 = .ok (.ireturn, 1) := by decide +kernel
theorem dX8_does_30 : decode cX8_does 30 = .ok (.iconst 0, 1) := by decide +kernel
theorem dX8_does_31 : decode cX8_does 31 = .ok (.istore_n 3, 1) := by decide +kernel
theorem dX8_does_32 : decode cX8_does 32 = .ok (.iload_n 3, 1) := by decide +kernel
theorem dX8_does_33 : decode cX8_does 33 = .ok (.aload_n 0, 1) := by decide +kernel
theorem dX8_does_34 : decode cX8_does 34 = .ok (.getfield 7, 3) := by decide +kernel
theorem dX8_does_37 : decode cX8_does 37 = .ok (.if_icmp .ge 36, 3) := by decide +kernel
theorem dX8_does_40 : decode cX8_does 40 = .ok (.aload_n 0, 1) := by decide +kernel
theorem dX8_does_41 : decode cX8_does 41 = .ok (.getfield 26, 3) := by decide +kernel
theorem dX8_does_44 : decode cX8_does 44 = .ok (.iload_n 3, 1) := by decide +kernel
theorem dX8_does_45 : decode cX8_does 45 = .ok (.aload_n 0, 1) := by decide +kernel
theorem dX8_does_46 : decode cX8_does 46 = .ok (.getfield 13, 3) := by decide +kernel
theorem dX8_does_49 : decode cX8_does 49 = .ok (.bipush 10, 2) := by decide +kernel
theorem dX8_does_51 : decode cX8_does 51 = .ok (.iload_n 2, 1) := by decide +kernel
theorem dX8_does_52 : decode cX8_does 52 = .ok (.imul, 1) := by decide +kernel
theorem dX8_does_53 : decode cX8_does 53 = .ok (.aload_n 0, 1) := by decide +kernel
theorem dX8_does_54 : decode cX8_does 54 = .ok (.getfield 23, 3) := by decide +kernel
theorem dX8_does_57 : decode cX8_does 57 = .ok (.bipush 10, 2) := by decide +kernel
theorem dX8_does_59 : decode cX8_does 59 = .ok (.iload_n 1, 1) := by decide +kernel
theorem dX8_does_60 : decode cX8_does 60 = .ok (.imul, 1) := by decide +kernel
theorem dX8_does_61 : decode cX8_does 61 = .ok (.iload_n 3, 1) := by decide +kernel
theorem dX8_does_62 : decode cX8_does 62 = .ok (.iadd, 1) := by decide +kernel
theorem dX8_does_63 : decode cX8_does 63 = .ok (.iaload, 1) := by decide +kernel
theorem dX8_does_64 : decode cX8_does 64 = .ok (.iadd, 1) := by decide +kernel
theorem dX8_does_65 : decode cX8_does 65 = .ok (.iaload, 1) := by decide +kernel
theorem dX8_does_66 : decode cX8_does 66 = .ok (.iastore, 1) := by decide +kernel
theorem dX8_does_67 : decode cX8_does 67 = .ok (.iinc 3 1, 3) := by decide +kernel
theorem dX8_does_70 : decode cX8_does 70 = .ok (.goto (-38), 3) := by decide +kernel
theorem dX8_does_73 : decode cX8_does 73 = .ok (.aload_n 0, 1) := by decide +kernel
theorem dX8_does_74 : decode cX8_does 74 = .ok (.iload_n 2, 1) := by decide +kernel
theorem dX8_does_75 : decode cX8_does 75 = .ok (.invokevirtual 138, 3) := by decide +kernel
theorem dX8_does_78 : decode cX8_does 78 = .ok (.iconst 1, 1) := by decide +kernel
theorem dX8_does_79 : decode cX8_does 79 = .ok (.ireturn, 1) := by decide +kernel
theorem dX8_lays_0 : decode cX8_lays 0 = .ok (.aload_n 0, 1) := by decide +kernel
theorem dX8_lays_1 : decode cX8_lays 1 = .ok (.iload_n 2, 1) := by decide +kernel
theorem dX8_lays_2 : decode cX8_lays 2 = .ok (.invokevirtual 107, 3) := by decide +kernel
theorem dX8_lays_5 : decode cX8_lays 5 = .ok (.aload_n 0, 1) := by decide +kernel
theorem dX8_lays_6 : decode cX8_lays 6 = .ok (.getfield 17, 3) := by decide +kernel
theorem dX8_lays_9 : decode cX8_lays 9 = .ok (.iload_n 1, 1) := by decide +kernel
theorem dX8_lays_10 : decode cX8_lays 10 = .ok (.iaload, 1) := by decide +kernel
theorem dX8_lays_11 : decode cX8_lays 11 = .ok (.iconst 4, 1) := by decide +kernel
theorem dX8_lays_12 : decode cX8_lays 12 = .ok (.if_icmp .ne 62, 3) := by decide +kernel
theorem dX8_lays_15 : decode cX8_lays 15 = .ok (.lload_n 3, 1) := by decide +kernel
theorem dX8_lays_16 : decode cX8_lays 16 = .ok (.l2i, 1) := by decide +kernel
theorem dX8_lays_17 : decode cX8_lays 17 = .ok (.istore 5, 2) := by decide +kernel
theorem dX8_lays_19 : decode cX8_lays 19 = .ok (.aload_n 0, 1) := by decide +kernel
theorem dX8_lays_20 : decode cX8_lays 20 = .ok (.getfield 26, 3) := by decide +kernel
theorem dX8_lays_23 : decode cX8_lays 23 = .ok (.iconst 0, 1) := by decide +kernel
theorem dX8_lays_24 : decode cX8_lays 24 = .ok (.iaload, 1) := by decide +kernel
theorem dX8_lays_25 : decode cX8_lays 25 = .ok (.istore 6, 2) := by decide +kernel
theorem dX8_lays_27 : decode cX8_lays 27 = .ok (.iconst 0, 1) := by decide +kernel
theorem dX8_lays_28 : decode cX8_lays 28 = .ok (.istore 7, 2) := by decide +kernel
theorem dX8_lays_30 : decode cX8_lays 30 = .ok (.iload 7, 2) := by decide +kernel
theorem dX8_lays_32 : decode cX8_lays 32 = .ok (.iload 5, 2) := by decide +kernel
theorem dX8_lays_34 : decode cX8_lays 34 = .ok (.if_icmp .ge 25, 3) := by decide +kernel
theorem dX8_lays_37 : decode cX8_lays 37 = .ok (.aload_n 0, 1) := by decide +kernel
theorem dX8_lays_38 : decode cX8_lays 38 = .ok (.getfield 26, 3) := by decide +kernel
theorem dX8_lays_41 : decode cX8_lays 41 = .ok (.iload 7, 2) := by decide +kernel
theorem dX8_lays_43 : decode cX8_lays 43 = .ok (.aload_n 0, 1) := by decide +kernel
theorem dX8_lays_44 : decode cX8_lays 44 = .ok (.getfield 26, 3) := by decide +kernel
theorem dX8_lays_47 : decode cX8_lays 47 = .ok (.iload 7, 2) := by decide +kernel
theorem dX8_lays_49 : decode cX8_lays 49 = .ok (.iconst 1, 1) := by decide +kernel
theorem dX8_lays_50 : decode cX8_lays 50 = .ok (.iadd, 1) := by decide +kernel
theorem dX8_lays_51 : decode cX8_lays 51 = .ok (.iaload, 1) := by decide +kernel
theorem dX8_lays_52 : decode cX8_lays 52 = .ok (.iastore, 1) := by decide +kernel
theorem dX8_lays_53 : decode cX8_lays 53 = .ok (.iinc 7 1, 3) := by decide +kernel
theorem dX8_lays_56 : decode cX8_lays 56 = .ok (.goto (-26), 3) := by decide +kernel
theorem dX8_lays_59 : decode cX8_lays 59 = .ok (.aload_n 0, 1) := by decide +kernel
theorem dX8_lays_60 : decode cX8_lays 60 = .ok (.getfield 26, 3) := by decide +kernel
theorem dX8_lays_63 : decode cX8_lays 63 = .ok (.iload 5, 2) := by decide +kernel
theorem dX8_lays_65 : decode cX8_lays 65 = .ok (.iload 6, 2) := by decide +kernel
theorem dX8_lays_67 : decode cX8_lays 67 = .ok (.iastore, 1) := by decide +kernel
theorem dX8_lays_68 : decode cX8_lays 68 = .ok (.aload_n 0, 1) := by decide +kernel
theorem dX8_lays_69 : decode cX8_lays 69 = .ok (.iload_n 2, 1) := by decide +kernel
theorem dX8_lays_70 : decode cX8_lays 70 = .ok (.invokevirtual 138, 3) := by decide +kernel
theorem dX8_lays_73 : decode cX8_lays 73 = .ok (.return_, 1) := by decide +kernel
theorem dX8_lays_74 : decode cX8_lays 74 = .ok (.aload_n 0, 1) := by decide +kernel
theorem dX8_lays_75 : decode cX8_lays 75 = .ok (.getfield 20, 3) := by decide +kernel
theorem dX8_lays_78 : decode cX8_lays 78 = .ok (.iload_n 1, 1) := by decide +kernel
theorem dX8_lays_79 : decode cX8_lays 79 = .ok (.iaload, 1) := by decide +kernel
theorem dX8_lays_80 : decode cX8_lays 80 = .ok (.istore 5, 2) := by decide +kernel
theorem dX8_lays_82 : decode cX8_lays 82 = .ok (.iconst 0, 1) := by decide +kernel
theorem dX8_lays_83 : decode cX8_lays 83 = .ok (.istore 6, 2) := by decide +kernel
theorem dX8_lays_85 : decode cX8_lays 85 = .ok (.iload 6, 2) := by decide +kernel
theorem dX8_lays_87 : decode cX8_lays 87 = .ok (.aload_n 0, 1) := by decide +kernel
theorem dX8_lays_88 : decode cX8_lays 88 = .ok (.getfield 7, 3) := by decide +kernel
theorem dX8_lays_91 : decode cX8_lays 91 = .ok (.if_icmp .ge 93, 3) := by decide +kernel
theorem dX8_lays_94 : decode cX8_lays 94 = .ok (.lload_n 3, 1) := by decide +kernel
theorem dX8_lays_95 : decode cX8_lays 95 = .ok (.iload 5, 2) := by decide +kernel
theorem dX8_lays_97 : decode cX8_lays 97 = .ok (.iload 6, 2) := by decide +kernel
theorem dX8_lays_99 : decode cX8_lays 99 = .ok (.invokestatic 141, 3) := by decide +kernel
theorem dX8_lays_102 : decode cX8_lays 102 = .ok (.istore 7, 2) := by decide +kernel
theorem dX8_lays_104 : decode cX8_lays 104 = .ok (.iconst 0, 1) := by decide +kernel
theorem dX8_lays_105 : decode cX8_lays 105 = .ok (.istore 8, 2) := by decide +kernel
theorem dX8_lays_107 : decode cX8_lays 107 = .ok (.iconst 0, 1) := by decide +kernel
theorem dX8_lays_108 : decode cX8_lays 108 = .ok (.istore 9, 2) := by decide +kernel
theorem dX8_lays_110 : decode cX8_lays 110 = .ok (.iload 9, 2) := by decide +kernel
theorem dX8_lays_112 : decode cX8_lays 112 = .ok (.aload_n 0, 1) := by decide +kernel
theorem dX8_lays_113 : decode cX8_lays 113 = .ok (.getfield 7, 3) := by decide +kernel
theorem dX8_lays_116 : decode cX8_lays 116 = .ok (.if_icmp .ge 43, 3) := by decide +kernel
theorem dX8_lays_119 : decode cX8_lays 119 = .ok (.lload_n 3, 1) := by decide +kernel
theorem dX8_lays_120 : decode cX8_lays 120 = .ok (.iload 5, 2) := by decide +kernel
theorem dX8_lays_122 : decode cX8_lays 122 = .ok (.iload 9, 2) := by decide +kernel
theorem dX8_lays_124 : decode cX8_lays 124 = .ok (.invokestatic 141, 3) := by decide +kernel
theorem dX8_lays_127 : decode cX8_lays 127 = .ok (.istore 10, 2) := by decide +kernel
theorem dX8_lays_129 : decode cX8_lays 129 = .ok (.iload 10, 2) := by decide +kernel
theorem dX8_lays_131 : decode cX8_lays 131 = .ok (.iload 7, 2) := by decide +kernel
theorem dX8_lays_133 : decode cX8_lays 133 = .ok (.if_icmp .lt 17, 3) := by decide +kernel
theorem dX8_lays_136 : decode cX8_lays 136 = .ok (.iload 10, 2) := by decide +kernel
theorem dX8_lays_138 : decode cX8_lays 138 = .ok (.iload 7, 2) := by decide +kernel
theorem dX8_lays_140 : decode cX8_lays 140 = .ok (.if_icmp .ne 13, 3) := by decide +kernel
theorem dX8_lays_143 : decode cX8_lays 143 = .ok (.iload 9, 2) := by decide +kernel
theorem dX8_lays_145 : decode cX8_lays 145 = .ok (.iload 6, 2) := by decide +kernel
theorem dX8_lays_147 : decode cX8_lays 147 = .ok (.if_icmp .ge 6, 3) := by decide +kernel
theorem dX8_lays_150 : decode cX8_lays 150 = .ok (.iinc 8 1, 3) := by decide +kernel
theorem dX8_lays_153 : decode cX8_lays 153 = .ok (.iinc 9 1, 3) := by decide +kernel
theorem dX8_lays_156 : decode cX8_lays 156 = .ok (.goto (-46), 3) := by decide +kernel
theorem dX8_lays_159 : decode cX8_lays 159 = .ok (.aload_n 0, 1) := by decide +kernel
theorem dX8_lays_160 : decode cX8_lays 160 = .ok (.getfield 13, 3) := by decide +kernel
theorem dX8_lays_163 : decode cX8_lays 163 = .ok (.bipush 10, 2) := by decide +kernel
theorem dX8_lays_165 : decode cX8_lays 165 = .ok (.iload_n 2, 1) := by decide +kernel
theorem dX8_lays_166 : decode cX8_lays 166 = .ok (.imul, 1) := by decide +kernel
theorem dX8_lays_167 : decode cX8_lays 167 = .ok (.iload 6, 2) := by decide +kernel
theorem dX8_lays_169 : decode cX8_lays 169 = .ok (.iadd, 1) := by decide +kernel
theorem dX8_lays_170 : decode cX8_lays 170 = .ok (.aload_n 0, 1) := by decide +kernel
theorem dX8_lays_171 : decode cX8_lays 171 = .ok (.getfield 26, 3) := by decide +kernel
theorem dX8_lays_174 : decode cX8_lays 174 = .ok (.iload 8, 2) := by decide +kernel
theorem dX8_lays_176 : decode cX8_lays 176 = .ok (.iaload, 1) := by decide +kernel
theorem dX8_lays_177 : decode cX8_lays 177 = .ok (.iastore, 1) := by decide +kernel
theorem dX8_lays_178 : decode cX8_lays 178 = .ok (.iinc 6 1, 3) := by decide +kernel
theorem dX8_lays_181 : decode cX8_lays 181 = .ok (.goto (-96), 3) := by decide +kernel
theorem dX8_lays_184 : decode cX8_lays 184 = .ok (.return_, 1) := by decide +kernel
theorem dX8_lot_0 : decode cX8_lot 0 = .ok (.lload_n 0, 1) := by decide +kernel
theorem dX8_lot_1 : decode cX8_lot 1 = .ok (.lstore 4, 2) := by decide +kernel
theorem dX8_lot_3 : decode cX8_lot 3 = .ok (.iconst 0, 1) := by decide +kernel
theorem dX8_lot_4 : decode cX8_lot 4 = .ok (.istore 6, 2) := by decide +kernel
theorem dX8_lot_6 : decode cX8_lot 6 = .ok (.iload 6, 2) := by decide +kernel
theorem dX8_lot_8 : decode cX8_lot 8 = .ok (.iload_n 3, 1) := by decide +kernel
theorem dX8_lot_9 : decode cX8_lot 9 = .ok (.if_icmp .ge 16, 3) := by decide +kernel
theorem dX8_lot_12 : decode cX8_lot 12 = .ok (.lload 4, 2) := by decide +kernel
theorem dX8_lot_14 : decode cX8_lot 14 = .ok (.iload_n 2, 1) := by decide +kernel
theorem dX8_lot_15 : decode cX8_lot 15 = .ok (.i2l, 1) := by decide +kernel
theorem dX8_lot_16 : decode cX8_lot 16 = .ok (.ldiv, 1) := by decide +kernel
theorem dX8_lot_17 : decode cX8_lot 17 = .ok (.lstore 4, 2) := by decide +kernel
theorem dX8_lot_19 : decode cX8_lot 19 = .ok (.iinc 6 1, 3) := by decide +kernel
theorem dX8_lot_22 : decode cX8_lot 22 = .ok (.goto (-16), 3) := by decide +kernel
theorem dX8_lot_25 : decode cX8_lot 25 = .ok (.lload 4, 2) := by decide +kernel
theorem dX8_lot_27 : decode cX8_lot 27 = .ok (.iload_n 2, 1) := by decide +kernel
theorem dX8_lot_28 : decode cX8_lot 28 = .ok (.i2l, 1) := by decide +kernel
theorem dX8_lot_29 : decode cX8_lot 29 = .ok (.lrem, 1) := by decide +kernel
theorem dX8_lot_30 : decode cX8_lot 30 = .ok (.l2i, 1) := by decide +kernel
theorem dX8_lot_31 : decode cX8_lot 31 = .ok (.ireturn, 1) := by decide +kernel
theorem dX8_lots_0 : decode cX8_lots 0 = .ok (.aload_n 0, 1) := by decide +kernel
theorem dX8_lots_1 : decode cX8_lots 1 = .ok (.iload_n 1, 1) := by decide +kernel
theorem dX8_lots_2 : decode cX8_lots 2 = .ok (.invokevirtual 123, 3) := by decide +kernel
theorem dX8_lots_5 : decode cX8_lots 5 = .ok (.ifCond .eq 11, 3) := by decide +kernel
theorem dX8_lots_8 : decode cX8_lots 8 = .ok (.aload_n 0, 1) := by decide +kernel
theorem dX8_lots_9 : decode cX8_lots 9 = .ok (.iload_n 2, 1) := by decide +kernel
theorem dX8_lots_10 : decode cX8_lots 10 = .ok (.invokevirtual 101, 3) := by decide +kernel
theorem dX8_lots_13 : decode cX8_lots 13 = .ok (.ifCond .ne 6, 3) := by decide +kernel
theorem dX8_lots_16 : decode cX8_lots 16 = .ok (.bipush (-2), 2) := by decide +kernel
theorem dX8_lots_18 : decode cX8_lots 18 = .ok (.ireturn, 1) := by decide +kernel
theorem dX8_lots_19 : decode cX8_lots 19 = .ok (.aload_n 0, 1) := by decide +kernel
theorem dX8_lots_20 : decode cX8_lots 20 = .ok (.iload_n 1, 1) := by decide +kernel
theorem dX8_lots_21 : decode cX8_lots 21 = .ok (.invokevirtual 126, 3) := by decide +kernel
theorem dX8_lots_24 : decode cX8_lots 24 = .ok (.ifCond .eq 6, 3) := by decide +kernel
theorem dX8_lots_27 : decode cX8_lots 27 = .ok (.bipush (-3), 2) := by decide +kernel
theorem dX8_lots_29 : decode cX8_lots 29 = .ok (.ireturn, 1) := by decide +kernel
theorem dX8_lots_30 : decode cX8_lots 30 = .ok (.lload_n 3, 1) := by decide +kernel
theorem dX8_lots_31 : decode cX8_lots 31 = .ok (.lconst 0, 1) := by decide +kernel
theorem dX8_lots_32 : decode cX8_lots 32 = .ok (.lcmp, 1) := by decide +kernel
theorem dX8_lots_33 : decode cX8_lots 33 = .ok (.ifCond .lt 40, 3) := by decide +kernel
theorem dX8_lots_36 : decode cX8_lots 36 = .ok (.lload_n 3, 1) := by decide +kernel
theorem dX8_lots_37 : decode cX8_lots 37 = .ok (.aload_n 0, 1) := by decide +kernel
theorem dX8_lots_38 : decode cX8_lots 38 = .ok (.getfield 17, 3) := by decide +kernel
theorem dX8_lots_41 : decode cX8_lots 41 = .ok (.iload_n 1, 1) := by decide +kernel
theorem dX8_lots_42 : decode cX8_lots 42 = .ok (.iaload, 1) := by decide +kernel
theorem dX8_lots_43 : decode cX8_lots 43 = .ok (.iconst 4, 1) := by decide +kernel
theorem dX8_lots_44 : decode cX8_lots 44 = .ok (.if_icmp .ne 11, 3) := by decide +kernel
theorem dX8_lots_47 : decode cX8_lots 47 = .ok (.aload_n 0, 1) := by decide +kernel
theorem dX8_lots_48 : decode cX8_lots 48 = .ok (.getfield 7, 3) := by decide +kernel
theorem dX8_lots_51 : decode cX8_lots 51 = .ok (.i2l, 1) := by decide +kernel
theorem dX8_lots_52 : decode cX8_lots 52 = .ok (.goto 17, 3) := by decide +kernel
theorem dX8_lots_55 : decode cX8_lots 55 = .ok (.aload_n 0, 1) := by decide +kernel
theorem dX8_lots_56 : decode cX8_lots 56 = .ok (.getfield 20, 3) := by decide +kernel
theorem dX8_lots_59 : decode cX8_lots 59 = .ok (.iload_n 1, 1) := by decide +kernel
theorem dX8_lots_60 : decode cX8_lots 60 = .ok (.iaload, 1) := by decide +kernel
theorem dX8_lots_61 : decode cX8_lots 61 = .ok (.i2l, 1) := by decide +kernel
theorem dX8_lots_62 : decode cX8_lots 62 = .ok (.aload_n 0, 1) := by decide +kernel
theorem dX8_lots_63 : decode cX8_lots 63 = .ok (.getfield 7, 3) := by decide +kernel
theorem dX8_lots_66 : decode cX8_lots 66 = .ok (.invokestatic 145, 3) := by decide +kernel
theorem dX8_lots_69 : decode cX8_lots 69 = .ok (.lcmp, 1) := by decide +kernel
theorem dX8_lots_70 : decode cX8_lots 70 = .ok (.ifCond .lt 6, 3) := by decide +kernel
theorem dX8_lots_73 : decode cX8_lots 73 = .ok (.bipush (-2), 2) := by decide +kernel
theorem dX8_lots_75 : decode cX8_lots 75 = .ok (.ireturn, 1) := by decide +kernel
theorem dX8_lots_76 : decode cX8_lots 76 = .ok (.aload_n 0, 1) := by decide +kernel
theorem dX8_lots_77 : decode cX8_lots 77 = .ok (.iload_n 1, 1) := by decide +kernel
theorem dX8_lots_78 : decode cX8_lots 78 = .ok (.iload_n 2, 1) := by decide +kernel
theorem dX8_lots_79 : decode cX8_lots 79 = .ok (.lload_n 3, 1) := by decide +kernel
theorem dX8_lots_80 : decode cX8_lots 80 = .ok (.invokevirtual 149, 3) := by decide +kernel
theorem dX8_lots_83 : decode cX8_lots 83 = .ok (.iconst 1, 1) := by decide +kernel
theorem dX8_lots_84 : decode cX8_lots 84 = .ok (.ireturn, 1) := by decide +kernel
theorem dX8_drawn_0 : decode cX8_drawn 0 = .ok (.iload_n 1, 1) := by decide +kernel
theorem dX8_drawn_1 : decode cX8_drawn 1 = .ok (.istore_n 2, 1) := by decide +kernel
theorem dX8_drawn_2 : decode cX8_drawn 2 = .ok (.iload_n 2, 1) := by decide +kernel
theorem dX8_drawn_3 : decode cX8_drawn 3 = .ok (.iload_n 1, 1) := by decide +kernel
theorem dX8_drawn_4 : decode cX8_drawn 4 = .ok (.if_icmp .lt 32, 3) := by decide +kernel
theorem dX8_drawn_7 : decode cX8_drawn 7 = .ok (.aload_n 0, 1) := by decide +kernel
theorem dX8_drawn_8 : decode cX8_drawn 8 = .ok (.aload_n 0, 1) := by decide +kernel
theorem dX8_drawn_9 : decode cX8_drawn 9 = .ok (.getfield 153, 3) := by decide +kernel
theorem dX8_drawn_12 : decode cX8_drawn 12 = .ok (.ldc 156, 2) := by decide +kernel
theorem dX8_drawn_14 : decode cX8_drawn 14 = .ok (.imul, 1) := by decide +kernel
theorem dX8_drawn_15 : decode cX8_drawn 15 = .ok (.sipush 12345, 3) := by decide +kernel
theorem dX8_drawn_18 : decode cX8_drawn 18 = .ok (.iadd, 1) := by decide +kernel
theorem dX8_drawn_19 : decode cX8_drawn 19 = .ok (.putfield 153, 3) := by decide +kernel
theorem dX8_drawn_22 : decode cX8_drawn 22 = .ok (.aload_n 0, 1) := by decide +kernel
theorem dX8_drawn_23 : decode cX8_drawn 23 = .ok (.getfield 153, 3) := by decide +kernel
theorem dX8_drawn_26 : decode cX8_drawn 26 = .ok (.bipush 16, 2) := by decide +kernel
theorem dX8_drawn_28 : decode cX8_drawn 28 = .ok (.iushr, 1) := by decide +kernel
theorem dX8_drawn_29 : decode cX8_drawn 29 = .ok (.bipush 15, 2) := by decide +kernel
theorem dX8_drawn_31 : decode cX8_drawn 31 = .ok (.iand, 1) := by decide +kernel
theorem dX8_drawn_32 : decode cX8_drawn 32 = .ok (.istore_n 2, 1) := by decide +kernel
theorem dX8_drawn_33 : decode cX8_drawn 33 = .ok (.goto (-31), 3) := by decide +kernel
theorem dX8_drawn_36 : decode cX8_drawn 36 = .ok (.iload_n 2, 1) := by decide +kernel
theorem dX8_drawn_37 : decode cX8_drawn 37 = .ok (.ireturn, 1) := by decide +kernel
theorem dX8_draw_0 : decode cX8_draw 0 = .ok (.aload_n 0, 1) := by decide +kernel
theorem dX8_draw_1 : decode cX8_draw 1 = .ok (.iload_n 1, 1) := by decide +kernel
theorem dX8_draw_2 : decode cX8_draw 2 = .ok (.invokevirtual 123, 3) := by decide +kernel
theorem dX8_draw_5 : decode cX8_draw 5 = .ok (.ifCond .eq 19, 3) := by decide +kernel
theorem dX8_draw_8 : decode cX8_draw 8 = .ok (.aload_n 0, 1) := by decide +kernel
theorem dX8_draw_9 : decode cX8_draw 9 = .ok (.iload_n 2, 1) := by decide +kernel
theorem dX8_draw_10 : decode cX8_draw 10 = .ok (.invokevirtual 101, 3) := by decide +kernel
theorem dX8_draw_13 : decode cX8_draw 13 = .ok (.ifCond .eq 11, 3) := by decide +kernel
theorem dX8_draw_16 : decode cX8_draw 16 = .ok (.aload_n 0, 1) := by decide +kernel
theorem dX8_draw_17 : decode cX8_draw 17 = .ok (.iload_n 1, 1) := by decide +kernel
theorem dX8_draw_18 : decode cX8_draw 18 = .ok (.invokevirtual 126, 3) := by decide +kernel
theorem dX8_draw_21 : decode cX8_draw 21 = .ok (.ifCond .eq 7, 3) := by decide +kernel
theorem dX8_draw_24 : decode cX8_draw 24 = .ok (.ldc2_w 157, 3) := by decide +kernel
theorem dX8_draw_27 : decode cX8_draw 27 = .ok (.lreturn, 1) := by decide +kernel
theorem dX8_draw_28 : decode cX8_draw 28 = .ok (.lconst 0, 1) := by decide +kernel
theorem dX8_draw_29 : decode cX8_draw 29 = .ok (.lstore_n 3, 1) := by decide +kernel
theorem dX8_draw_30 : decode cX8_draw 30 = .ok (.aload_n 0, 1) := by decide +kernel
theorem dX8_draw_31 : decode cX8_draw 31 = .ok (.getfield 17, 3) := by decide +kernel
theorem dX8_draw_34 : decode cX8_draw 34 = .ok (.iload_n 1, 1) := by decide +kernel
theorem dX8_draw_35 : decode cX8_draw 35 = .ok (.iaload, 1) := by decide +kernel
theorem dX8_draw_36 : decode cX8_draw 36 = .ok (.iconst 4, 1) := by decide +kernel
theorem dX8_draw_37 : decode cX8_draw 37 = .ok (.if_icmp .ne 16, 3) := by decide +kernel
theorem dX8_draw_40 : decode cX8_draw 40 = .ok (.aload_n 0, 1) := by decide +kernel
theorem dX8_draw_41 : decode cX8_draw 41 = .ok (.aload_n 0, 1) := by decide +kernel
theorem dX8_draw_42 : decode cX8_draw 42 = .ok (.getfield 7, 3) := by decide +kernel
theorem dX8_draw_45 : decode cX8_draw 45 = .ok (.invokevirtual 159, 3) := by decide +kernel
theorem dX8_draw_48 : decode cX8_draw 48 = .ok (.i2l, 1) := by decide +kernel
theorem dX8_draw_49 : decode cX8_draw 49 = .ok (.lstore_n 3, 1) := by decide +kernel
theorem dX8_draw_50 : decode cX8_draw 50 = .ok (.goto 53, 3) := by decide +kernel
theorem dX8_draw_53 : decode cX8_draw 53 = .ok (.lconst 1, 1) := by decide +kernel
theorem dX8_draw_54 : decode cX8_draw 54 = .ok (.lstore 5, 2) := by decide +kernel
theorem dX8_draw_56 : decode cX8_draw 56 = .ok (.iconst 0, 1) := by decide +kernel
theorem dX8_draw_57 : decode cX8_draw 57 = .ok (.istore 7, 2) := by decide +kernel
theorem dX8_draw_59 : decode cX8_draw 59 = .ok (.iload 7, 2) := by decide +kernel
theorem dX8_draw_61 : decode cX8_draw 61 = .ok (.aload_n 0, 1) := by decide +kernel
theorem dX8_draw_62 : decode cX8_draw 62 = .ok (.getfield 7, 3) := by decide +kernel
theorem dX8_draw_65 : decode cX8_draw 65 = .ok (.if_icmp .ge 38, 3) := by decide +kernel
theorem dX8_draw_68 : decode cX8_draw 68 = .ok (.lload_n 3, 1) := by decide +kernel
theorem dX8_draw_69 : decode cX8_draw 69 = .ok (.aload_n 0, 1) := by decide +kernel
theorem dX8_draw_70 : decode cX8_draw 70 = .ok (.aload_n 0, 1) := by decide +kernel
theorem dX8_draw_71 : decode cX8_draw 71 = .ok (.getfield 20, 3) := by decide +kernel
theorem dX8_draw_74 : decode cX8_draw 74 = .ok (.iload_n 1, 1) := by decide +kernel
theorem dX8_draw_75 : decode cX8_draw 75 = .ok (.iaload, 1) := by decide +kernel
theorem dX8_draw_76 : decode cX8_draw 76 = .ok (.invokevirtual 159, 3) := by decide +kernel
theorem dX8_draw_79 : decode cX8_draw 79 = .ok (.i2l, 1) := by decide +kernel
theorem dX8_draw_80 : decode cX8_draw 80 = .ok (.lload 5, 2) := by decide +kernel
theorem dX8_draw_82 : decode cX8_draw 82 = .ok (.lmul, 1) := by decide +kernel
theorem dX8_draw_83 : decode cX8_draw 83 = .ok (.ladd, 1) := by decide +kernel
theorem dX8_draw_84 : decode cX8_draw 84 = .ok (.lstore_n 3, 1) := by decide +kernel
theorem dX8_draw_85 : decode cX8_draw 85 = .ok (.lload 5, 2) := by decide +kernel
theorem dX8_draw_87 : decode cX8_draw 87 = .ok (.aload_n 0, 1) := by decide +kernel
theorem dX8_draw_88 : decode cX8_draw 88 = .ok (.getfield 20, 3) := by decide +kernel
theorem dX8_draw_91 : decode cX8_draw 91 = .ok (.iload_n 1, 1) := by decide +kernel
theorem dX8_draw_92 : decode cX8_draw 92 = .ok (.iaload, 1) := by decide +kernel
theorem dX8_draw_93 : decode cX8_draw 93 = .ok (.i2l, 1) := by decide +kernel
theorem dX8_draw_94 : decode cX8_draw 94 = .ok (.lmul, 1) := by decide +kernel
theorem dX8_draw_95 : decode cX8_draw 95 = .ok (.lstore 5, 2) := by decide +kernel
theorem dX8_draw_97 : decode cX8_draw 97 = .ok (.iinc 7 1, 3) := by decide +kernel
theorem dX8_draw_100 : decode cX8_draw 100 = .ok (.goto (-41), 3) := by decide +kernel
theorem dX8_draw_103 : decode cX8_draw 103 = .ok (.aload_n 0, 1) := by decide +kernel
theorem dX8_draw_104 : decode cX8_draw 104 = .ok (.iload_n 1, 1) := by decide +kernel
theorem dX8_draw_105 : decode cX8_draw 105 = .ok (.iload_n 2, 1) := by decide +kernel
theorem dX8_draw_106 : decode cX8_draw 106 = .ok (.lload_n 3, 1) := by decide +kernel
theorem dX8_draw_107 : decode cX8_draw 107 = .ok (.invokevirtual 149, 3) := by decide +kernel
theorem dX8_draw_110 : decode cX8_draw 110 = .ok (.lload_n 3, 1) := by decide +kernel
theorem dX8_draw_111 : decode cX8_draw 111 = .ok (.lreturn, 1) := by decide +kernel
theorem dX8_seed_0 : decode cX8_seed 0 = .ok (.aload_n 0, 1) := by decide +kernel
theorem dX8_seed_1 : decode cX8_seed 1 = .ok (.getfield 153, 3) := by decide +kernel
theorem dX8_seed_4 : decode cX8_seed 4 = .ok (.istore_n 2, 1) := by decide +kernel
theorem dX8_seed_5 : decode cX8_seed 5 = .ok (.aload_n 0, 1) := by decide +kernel
theorem dX8_seed_6 : decode cX8_seed 6 = .ok (.iload_n 1, 1) := by decide +kernel
theorem dX8_seed_7 : decode cX8_seed 7 = .ok (.putfield 153, 3) := by decide +kernel
theorem dX8_seed_10 : decode cX8_seed 10 = .ok (.iload_n 2, 1) := by decide +kernel
theorem dX8_seed_11 : decode cX8_seed 11 = .ok (.ireturn, 1) := by decide +kernel
theorem dX8_isChance_0 : decode cX8_isChance 0 = .ok (.aload_n 0, 1) := by decide +kernel
theorem dX8_isChance_1 : decode cX8_isChance 1 = .ok (.iload_n 1, 1) := by decide +kernel
theorem dX8_isChance_2 : decode cX8_isChance 2 = .ok (.invokevirtual 123, 3) := by decide +kernel
theorem dX8_isChance_5 : decode cX8_isChance 5 = .ok (.ifCond .eq 21, 3) := by decide +kernel
theorem dX8_isChance_8 : decode cX8_isChance 8 = .ok (.aload_n 0, 1) := by decide +kernel
theorem dX8_isChance_9 : decode cX8_isChance 9 = .ok (.iload_n 1, 1) := by decide +kernel
theorem dX8_isChance_10 : decode cX8_isChance 10 = .ok (.invokevirtual 126, 3) := by decide +kernel
theorem dX8_isChance_13 : decode cX8_isChance 13 = .ok (.ifCond .ne 13, 3) := by decide +kernel
theorem dX8_isChance_16 : decode cX8_isChance 16 = .ok (.iload_n 2, 1) := by decide +kernel
theorem dX8_isChance_17 : decode cX8_isChance 17 = .ok (.ifCond .lt 9, 3) := by decide +kernel
theorem dX8_isChance_20 : decode cX8_isChance 20 = .ok (.iload_n 2, 1) := by decide +kernel
theorem dX8_isChance_21 : decode cX8_isChance 21 = .ok (.bipush 6, 2) := by decide +kernel
theorem dX8_isChance_23 : decode cX8_isChance 23 = .ok (.if_icmp .le 5, 3) := by decide +kernel
theorem dX8_isChance_26 : decode cX8_isChance 26 = .ok (.iconst 0, 1) := by decide +kernel
theorem dX8_isChance_27 : decode cX8_isChance 27 = .ok (.ireturn, 1) := by decide +kernel
theorem dX8_isChance_28 : decode cX8_isChance 28 = .ok (.aload_n 0, 1) := by decide +kernel
theorem dX8_isChance_29 : decode cX8_isChance 29 = .ok (.getfield 17, 3) := by decide +kernel
theorem dX8_isChance_32 : decode cX8_isChance 32 = .ok (.iload_n 1, 1) := by decide +kernel
theorem dX8_isChance_33 : decode cX8_isChance 33 = .ok (.iaload, 1) := by decide +kernel
theorem dX8_isChance_34 : decode cX8_isChance 34 = .ok (.iconst 4, 1) := by decide +kernel
theorem dX8_isChance_35 : decode cX8_isChance 35 = .ok (.if_icmp .ne 20, 3) := by decide +kernel
theorem dX8_isChance_38 : decode cX8_isChance 38 = .ok (.aload_n 0, 1) := by decide +kernel
theorem dX8_isChance_39 : decode cX8_isChance 39 = .ok (.getfield 7, 3) := by decide +kernel
theorem dX8_isChance_42 : decode cX8_isChance 42 = .ok (.bipush 6, 2) := by decide +kernel
theorem dX8_isChance_44 : decode cX8_isChance 44 = .ok (.if_icmp .gt 7, 3) := by decide +kernel
theorem dX8_isChance_47 : decode cX8_isChance 47 = .ok (.iconst 1, 1) := by decide +kernel
theorem dX8_isChance_48 : decode cX8_isChance 48 = .ok (.goto 30, 3) := by decide +kernel
theorem dX8_isChance_51 : decode cX8_isChance 51 = .ok (.iconst 0, 1) := by decide +kernel
theorem dX8_isChance_52 : decode cX8_isChance 52 = .ok (.goto 26, 3) := by decide +kernel
theorem dX8_isChance_55 : decode cX8_isChance 55 = .ok (.aload_n 0, 1) := by decide +kernel
theorem dX8_isChance_56 : decode cX8_isChance 56 = .ok (.getfield 20, 3) := by decide +kernel
theorem dX8_isChance_59 : decode cX8_isChance 59 = .ok (.iload_n 1, 1) := by decide +kernel
theorem dX8_isChance_60 : decode cX8_isChance 60 = .ok (.iaload, 1) := by decide +kernel
theorem dX8_isChance_61 : decode cX8_isChance 61 = .ok (.i2l, 1) := by decide +kernel
theorem dX8_isChance_62 : decode cX8_isChance 62 = .ok (.iload_n 2, 1) := by decide +kernel
theorem dX8_isChance_63 : decode cX8_isChance 63 = .ok (.invokestatic 145, 3) := by decide +kernel
theorem dX8_isChance_66 : decode cX8_isChance 66 = .ok (.ldc2_w 162, 3) := by decide +kernel
theorem dX8_isChance_69 : decode cX8_isChance 69 = .ok (.lcmp, 1) := by decide +kernel
theorem dX8_isChance_70 : decode cX8_isChance 70 = .ok (.ifCond .gt 7, 3) := by decide +kernel
theorem dX8_isChance_73 : decode cX8_isChance 73 = .ok (.iconst 1, 1) := by decide +kernel
theorem dX8_isChance_74 : decode cX8_isChance 74 = .ok (.goto 4, 3) := by decide +kernel
theorem dX8_isChance_77 : decode cX8_isChance 77 = .ok (.iconst 0, 1) := by decide +kernel
theorem dX8_isChance_78 : decode cX8_isChance 78 = .ok (.ireturn, 1) := by decide +kernel
theorem dX8_heapWays_0 : decode cX8_heapWays 0 = .ok (.iconst 0, 1) := by decide +kernel
theorem dX8_heapWays_1 : decode cX8_heapWays 1 = .ok (.istore_n 3, 1) := by decide +kernel
theorem dX8_heapWays_2 : decode cX8_heapWays 2 = .ok (.iload_n 3, 1) := by decide +kernel
theorem dX8_heapWays_3 : decode cX8_heapWays 3 = .ok (.iload_n 1, 1) := by decide +kernel
theorem dX8_heapWays_4 : decode cX8_heapWays 4 = .ok (.if_icmp .ge 16, 3) := by decide +kernel
theorem dX8_heapWays_7 : decode cX8_heapWays 7 = .ok (.aload_n 0, 1) := by decide +kernel
theorem dX8_heapWays_8 : decode cX8_heapWays 8 = .ok (.getfield 32, 3) := by decide +kernel
theorem dX8_heapWays_11 : decode cX8_heapWays 11 = .ok (.iload_n 3, 1) := by decide +kernel
theorem dX8_heapWays_12 : decode cX8_heapWays 12 = .ok (.lconst 1, 1) := by decide +kernel
theorem dX8_heapWays_13 : decode cX8_heapWays 13 = .ok (.lastore, 1) := by decide +kernel
theorem dX8_heapWays_14 : decode cX8_heapWays 14 = .ok (.iinc 3 1, 3) := by decide +kernel
theorem dX8_heapWays_17 : decode cX8_heapWays 17 = .ok (.goto (-15), 3) := by decide +kernel
theorem dX8_heapWays_20 : decode cX8_heapWays 20 = .ok (.iconst 1, 1) := by decide +kernel
theorem dX8_heapWays_21 : decode cX8_heapWays 21 = .ok (.istore_n 3, 1) := by decide +kernel
theorem dX8_heapWays_22 : decode cX8_heapWays 22 = .ok (.iload_n 3, 1) := by decide +kernel
theorem dX8_heapWays_23 : decode cX8_heapWays 23 = .ok (.aload_n 0, 1) := by decide +kernel
theorem dX8_heapWays_24 : decode cX8_heapWays 24 = .ok (.getfield 7, 3) := by decide +kernel
theorem dX8_heapWays_27 : decode cX8_heapWays 27 = .ok (.if_icmp .ge 106, 3) := by decide +kernel
theorem dX8_heapWays_30 : decode cX8_heapWays 30 = .ok (.lconst 0, 1) := by decide +kernel
theorem dX8_heapWays_31 : decode cX8_heapWays 31 = .ok (.lstore 4, 2) := by decide +kernel
theorem dX8_heapWays_33 : decode cX8_heapWays 33 = .ok (.iconst 0, 1) := by decide +kernel
theorem dX8_heapWays_34 : decode cX8_heapWays 34 = .ok (.istore 6, 2) := by decide +kernel
theorem dX8_heapWays_36 : decode cX8_heapWays 36 = .ok (.iload 6, 2) := by decide +kernel
theorem dX8_heapWays_38 : decode cX8_heapWays 38 = .ok (.iload_n 1, 1) := by decide +kernel
theorem dX8_heapWays_39 : decode cX8_heapWays 39 = .ok (.if_icmp .ge 59, 3) := by decide +kernel
theorem dX8_heapWays_42 : decode cX8_heapWays 42 = .ok (.iload_n 3, 1) := by decide +kernel
theorem dX8_heapWays_43 : decode cX8_heapWays 43 = .ok (.iload_n 2, 1) := by decide +kernel
theorem dX8_heapWays_44 : decode cX8_heapWays 44 = .ok (.if_icmp .gt 27, 3) := by decide +kernel
theorem dX8_heapWays_47 : decode cX8_heapWays 47 = .ok (.aload_n 0, 1) := by decide +kernel
theorem dX8_heapWays_48 : decode cX8_heapWays 48 = .ok (.getfield 36, 3) := by decide +kernel
theorem dX8_heapWays_51 : decode cX8_heapWays 51 = .ok (.iload 6, 2) := by decide +kernel
theorem dX8_heapWays_53 : decode cX8_heapWays 53 = .ok (.lload 4, 2) := by decide +kernel
theorem dX8_heapWays_55 : decode cX8_heapWays 55 = .ok (.lastore, 1) := by decide +kernel
theorem dX8_heapWays_56 : decode cX8_heapWays 56 = .ok (.lload 4, 2) := by decide +kernel
theorem dX8_heapWays_58 : decode cX8_heapWays 58 = .ok (.aload_n 0, 1) := by decide +kernel
theorem dX8_heapWays_59 : decode cX8_heapWays 59 = .ok (.getfield 32, 3) := by decide +kernel
theorem dX8_heapWays_62 : decode cX8_heapWays 62 = .ok (.iload 6, 2) := by decide +kernel
theorem dX8_heapWays_64 : decode cX8_heapWays 64 = .ok (.laload, 1) := by decide +kernel
theorem dX8_heapWays_65 : decode cX8_heapWays 65 = .ok (.ladd, 1) := by decide +kernel
theorem dX8_heapWays_66 : decode cX8_heapWays 66 = .ok (.lstore 4, 2) := by decide +kernel
theorem dX8_heapWays_68 : decode cX8_heapWays 68 = .ok (.goto 24, 3) := by decide +kernel
theorem dX8_heapWays_71 : decode cX8_heapWays 71 = .ok (.lload 4, 2) := by decide +kernel
theorem dX8_heapWays_73 : decode cX8_heapWays 73 = .ok (.aload_n 0, 1) := by decide +kernel
theorem dX8_heapWays_74 : decode cX8_heapWays 74 = .ok (.getfield 32, 3) := by decide +kernel
theorem dX8_heapWays_77 : decode cX8_heapWays 77 = .ok (.iload 6, 2) := by decide +kernel
theorem dX8_heapWays_79 : decode cX8_heapWays 79 = .ok (.laload, 1) := by decide +kernel
theorem dX8_heapWays_80 : decode cX8_heapWays 80 = .ok (.ladd, 1) := by decide +kernel
theorem dX8_heapWays_81 : decode cX8_heapWays 81 = .ok (.lstore 4, 2) := by decide +kernel
theorem dX8_heapWays_83 : decode cX8_heapWays 83 = .ok (.aload_n 0, 1) := by decide +kernel
theorem dX8_heapWays_84 : decode cX8_heapWays 84 = .ok (.getfield 36, 3) := by decide +kernel
theorem dX8_heapWays_87 : decode cX8_heapWays 87 = .ok (.iload 6, 2) := by decide +kernel
theorem dX8_heapWays_89 : decode cX8_heapWays 89 = .ok (.lload 4, 2) := by decide +kernel
theorem dX8_heapWays_91 : decode cX8_heapWays 91 = .ok (.lastore, 1) := by decide +kernel
end
section
theorem dX8_heapWays_92 : decode cX8_heapWays 92 = .ok (.iinc 6 1, 3) := by decide +kernel
theorem dX8_heapWays_95 : decode cX8_heapWays 95 = .ok (.goto (-59), 3) := by decide +kernel
theorem dX8_heapWays_98 : decode cX8_heapWays 98 = .ok (.iconst 0, 1) := by decide +kernel
theorem dX8_heapWays_99 : decode cX8_heapWays 99 = .ok (.istore 6, 2) := by decide +kernel
theorem dX8_heapWays_101 : decode cX8_heapWays 101 = .ok (.iload 6, 2) := by decide +kernel
theorem dX8_heapWays_103 : decode cX8_heapWays 103 = .ok (.iload_n 1, 1) := by decide +kernel
theorem dX8_heapWays_104 : decode cX8_heapWays 104 = .ok (.if_icmp .ge 23, 3) := by decide +kernel
theorem dX8_heapWays_107 : decode cX8_heapWays 107 = .ok (.aload_n 0, 1) := by decide +kernel
theorem dX8_heapWays_108 : decode cX8_heapWays 108 = .ok (.getfield 32, 3) := by decide +kernel
theorem dX8_heapWays_111 : decode cX8_heapWays 111 = .ok (.iload 6, 2) := by decide +kernel
theorem dX8_heapWays_113 : decode cX8_heapWays 113 = .ok (.aload_n 0, 1) := by decide +kernel
theorem dX8_heapWays_114 : decode cX8_heapWays 114 = .ok (.getfield 36, 3) := by decide +kernel
theorem dX8_heapWays_117 : decode cX8_heapWays 117 = .ok (.iload 6, 2) := by decide +kernel
theorem dX8_heapWays_119 : decode cX8_heapWays 119 = .ok (.laload, 1) := by decide +kernel
theorem dX8_heapWays_120 : decode cX8_heapWays 120 = .ok (.lastore, 1) := by decide +kernel
theorem dX8_heapWays_121 : decode cX8_heapWays 121 = .ok (.iinc 6 1, 3) := by decide +kernel
theorem dX8_heapWays_124 : decode cX8_heapWays 124 = .ok (.goto (-23), 3) := by decide +kernel
theorem dX8_heapWays_127 : decode cX8_heapWays 127 = .ok (.iinc 3 1, 3) := by decide +kernel
theorem dX8_heapWays_130 : decode cX8_heapWays 130 = .ok (.goto (-108), 3) := by decide +kernel
theorem dX8_heapWays_133 : decode cX8_heapWays 133 = .ok (.lconst 0, 1) := by decide +kernel
theorem dX8_heapWays_134 : decode cX8_heapWays 134 = .ok (.lstore_n 3, 1) := by decide +kernel
theorem dX8_heapWays_135 : decode cX8_heapWays 135 = .ok (.iconst 0, 1) := by decide +kernel
theorem dX8_heapWays_136 : decode cX8_heapWays 136 = .ok (.istore 5, 2) := by decide +kernel
theorem dX8_heapWays_138 : decode cX8_heapWays 138 = .ok (.iload 5, 2) := by decide +kernel
theorem dX8_heapWays_140 : decode cX8_heapWays 140 = .ok (.iload_n 1, 1) := by decide +kernel
theorem dX8_heapWays_141 : decode cX8_heapWays 141 = .ok (.if_icmp .ge 19, 3) := by decide +kernel
theorem dX8_heapWays_144 : decode cX8_heapWays 144 = .ok (.lload_n 3, 1) := by decide +kernel
theorem dX8_heapWays_145 : decode cX8_heapWays 145 = .ok (.aload_n 0, 1) := by decide +kernel
theorem dX8_heapWays_146 : decode cX8_heapWays 146 = .ok (.getfield 32, 3) := by decide +kernel
theorem dX8_heapWays_149 : decode cX8_heapWays 149 = .ok (.iload 5, 2) := by decide +kernel
theorem dX8_heapWays_151 : decode cX8_heapWays 151 = .ok (.laload, 1) := by decide +kernel
theorem dX8_heapWays_152 : decode cX8_heapWays 152 = .ok (.ladd, 1) := by decide +kernel
theorem dX8_heapWays_153 : decode cX8_heapWays 153 = .ok (.lstore_n 3, 1) := by decide +kernel
theorem dX8_heapWays_154 : decode cX8_heapWays 154 = .ok (.iinc 5 1, 3) := by decide +kernel
theorem dX8_heapWays_157 : decode cX8_heapWays 157 = .ok (.goto (-19), 3) := by decide +kernel
theorem dX8_heapWays_160 : decode cX8_heapWays 160 = .ok (.lload_n 3, 1) := by decide +kernel
theorem dX8_heapWays_161 : decode cX8_heapWays 161 = .ok (.lreturn, 1) := by decide +kernel
theorem dX8_tops_0 : decode cX8_tops 0 = .ok (.aload_n 0, 1) := by decide +kernel
theorem dX8_tops_1 : decode cX8_tops 1 = .ok (.getfield 7, 3) := by decide +kernel
theorem dX8_tops_4 : decode cX8_tops 4 = .ok (.invokestatic 82, 3) := by decide +kernel
theorem dX8_tops_7 : decode cX8_tops 7 = .ok (.istore_n 2, 1) := by decide +kernel
theorem dX8_tops_8 : decode cX8_tops 8 = .ok (.iconst 0, 1) := by decide +kernel
theorem dX8_tops_9 : decode cX8_tops 9 = .ok (.istore_n 3, 1) := by decide +kernel
theorem dX8_tops_10 : decode cX8_tops 10 = .ok (.iload_n 3, 1) := by decide +kernel
theorem dX8_tops_11 : decode cX8_tops 11 = .ok (.iload_n 2, 1) := by decide +kernel
theorem dX8_tops_12 : decode cX8_tops 12 = .ok (.if_icmp .ge 24, 3) := by decide +kernel
theorem dX8_tops_15 : decode cX8_tops 15 = .ok (.aload_n 0, 1) := by decide +kernel
theorem dX8_tops_16 : decode cX8_tops 16 = .ok (.getfield 39, 3) := by decide +kernel
theorem dX8_tops_19 : decode cX8_tops 19 = .ok (.iload_n 3, 1) := by decide +kernel
theorem dX8_tops_20 : decode cX8_tops 20 = .ok (.iload_n 3, 1) := by decide +kernel
theorem dX8_tops_21 : decode cX8_tops 21 = .ok (.ifCond .ne 7, 3) := by decide +kernel
theorem dX8_tops_24 : decode cX8_tops 24 = .ok (.lconst 1, 1) := by decide +kernel
theorem dX8_tops_25 : decode cX8_tops 25 = .ok (.goto 4, 3) := by decide +kernel
theorem dX8_tops_28 : decode cX8_tops 28 = .ok (.lconst 0, 1) := by decide +kernel
theorem dX8_tops_29 : decode cX8_tops 29 = .ok (.lastore, 1) := by decide +kernel
theorem dX8_tops_30 : decode cX8_tops 30 = .ok (.iinc 3 1, 3) := by decide +kernel
theorem dX8_tops_33 : decode cX8_tops 33 = .ok (.goto (-23), 3) := by decide +kernel
theorem dX8_tops_36 : decode cX8_tops 36 = .ok (.iconst 0, 1) := by decide +kernel
theorem dX8_tops_37 : decode cX8_tops 37 = .ok (.istore_n 3, 1) := by decide +kernel
theorem dX8_tops_38 : decode cX8_tops 38 = .ok (.iload_n 3, 1) := by decide +kernel
theorem dX8_tops_39 : decode cX8_tops 39 = .ok (.iload_n 1, 1) := by decide +kernel
theorem dX8_tops_40 : decode cX8_tops 40 = .ok (.if_icmp .ge 175, 3) := by decide +kernel
theorem dX8_tops_43 : decode cX8_tops 43 = .ok (.iconst 0, 1) := by decide +kernel
theorem dX8_tops_44 : decode cX8_tops 44 = .ok (.istore 4, 2) := by decide +kernel
theorem dX8_tops_46 : decode cX8_tops 46 = .ok (.iload 4, 2) := by decide +kernel
theorem dX8_tops_48 : decode cX8_tops 48 = .ok (.iload_n 2, 1) := by decide +kernel
theorem dX8_tops_49 : decode cX8_tops 49 = .ok (.if_icmp .ge 17, 3) := by decide +kernel
theorem dX8_tops_52 : decode cX8_tops 52 = .ok (.aload_n 0, 1) := by decide +kernel
theorem dX8_tops_53 : decode cX8_tops 53 = .ok (.getfield 42, 3) := by decide +kernel
theorem dX8_tops_56 : decode cX8_tops 56 = .ok (.iload 4, 2) := by decide +kernel
theorem dX8_tops_58 : decode cX8_tops 58 = .ok (.lconst 0, 1) := by decide +kernel
theorem dX8_tops_59 : decode cX8_tops 59 = .ok (.lastore, 1) := by decide +kernel
theorem dX8_tops_60 : decode cX8_tops 60 = .ok (.iinc 4 1, 3) := by decide +kernel
theorem dX8_tops_63 : decode cX8_tops 63 = .ok (.goto (-17), 3) := by decide +kernel
theorem dX8_tops_66 : decode cX8_tops 66 = .ok (.iconst 0, 1) := by decide +kernel
theorem dX8_tops_67 : decode cX8_tops 67 = .ok (.istore 4, 2) := by decide +kernel
theorem dX8_tops_69 : decode cX8_tops 69 = .ok (.iload 4, 2) := by decide +kernel
theorem dX8_tops_71 : decode cX8_tops 71 = .ok (.iload_n 2, 1) := by decide +kernel
theorem dX8_tops_72 : decode cX8_tops 72 = .ok (.if_icmp .ge 108, 3) := by decide +kernel
theorem dX8_tops_75 : decode cX8_tops 75 = .ok (.aload_n 0, 1) := by decide +kernel
theorem dX8_tops_76 : decode cX8_tops 76 = .ok (.getfield 39, 3) := by decide +kernel
theorem dX8_tops_79 : decode cX8_tops 79 = .ok (.iload 4, 2) := by decide +kernel
theorem dX8_tops_81 : decode cX8_tops 81 = .ok (.laload, 1) := by decide +kernel
theorem dX8_tops_82 : decode cX8_tops 82 = .ok (.lconst 0, 1) := by decide +kernel
theorem dX8_tops_83 : decode cX8_tops 83 = .ok (.lcmp, 1) := by decide +kernel
theorem dX8_tops_84 : decode cX8_tops 84 = .ok (.ifCond .ne 6, 3) := by decide +kernel
theorem dX8_tops_87 : decode cX8_tops 87 = .ok (.goto 87, 3) := by decide +kernel
theorem dX8_tops_90 : decode cX8_tops 90 = .ok (.aload_n 0, 1) := by decide +kernel
theorem dX8_tops_91 : decode cX8_tops 91 = .ok (.iload 4, 2) := by decide +kernel
theorem dX8_tops_93 : decode cX8_tops 93 = .ok (.invokevirtual 90, 3) := by decide +kernel
theorem dX8_tops_96 : decode cX8_tops 96 = .ok (.iconst 0, 1) := by decide +kernel
theorem dX8_tops_97 : decode cX8_tops 97 = .ok (.istore 5, 2) := by decide +kernel
theorem dX8_tops_99 : decode cX8_tops 99 = .ok (.iload 5, 2) := by decide +kernel
theorem dX8_tops_101 : decode cX8_tops 101 = .ok (.aload_n 0, 1) := by decide +kernel
theorem dX8_tops_102 : decode cX8_tops 102 = .ok (.getfield 7, 3) := by decide +kernel
theorem dX8_tops_105 : decode cX8_tops 105 = .ok (.if_icmp .ge 69, 3) := by decide +kernel
theorem dX8_tops_108 : decode cX8_tops 108 = .ok (.iload 5, 2) := by decide +kernel
theorem dX8_tops_110 : decode cX8_tops 110 = .ok (.ifCond .le 39, 3) := by decide +kernel
theorem dX8_tops_113 : decode cX8_tops 113 = .ok (.aload_n 0, 1) := by decide +kernel
theorem dX8_tops_114 : decode cX8_tops 114 = .ok (.getfield 26, 3) := by decide +kernel
theorem dX8_tops_117 : decode cX8_tops 117 = .ok (.iload 5, 2) := by decide +kernel
theorem dX8_tops_119 : decode cX8_tops 119 = .ok (.iaload, 1) := by decide +kernel
theorem dX8_tops_120 : decode cX8_tops 120 = .ok (.istore 6, 2) := by decide +kernel
theorem dX8_tops_122 : decode cX8_tops 122 = .ok (.aload_n 0, 1) := by decide +kernel
theorem dX8_tops_123 : decode cX8_tops 123 = .ok (.getfield 26, 3) := by decide +kernel
theorem dX8_tops_126 : decode cX8_tops 126 = .ok (.iload 5, 2) := by decide +kernel
theorem dX8_tops_128 : decode cX8_tops 128 = .ok (.aload_n 0, 1) := by decide +kernel
theorem dX8_tops_129 : decode cX8_tops 129 = .ok (.getfield 26, 3) := by decide +kernel
theorem dX8_tops_132 : decode cX8_tops 132 = .ok (.iload 5, 2) := by decide +kernel
theorem dX8_tops_134 : decode cX8_tops 134 = .ok (.iconst 1, 1) := by decide +kernel
theorem dX8_tops_135 : decode cX8_tops 135 = .ok (.isub, 1) := by decide +kernel
theorem dX8_tops_136 : decode cX8_tops 136 = .ok (.iaload, 1) := by decide +kernel
theorem dX8_tops_137 : decode cX8_tops 137 = .ok (.iastore, 1) := by decide +kernel
theorem dX8_tops_138 : decode cX8_tops 138 = .ok (.aload_n 0, 1) := by decide +kernel
theorem dX8_tops_139 : decode cX8_tops 139 = .ok (.getfield 26, 3) := by decide +kernel
theorem dX8_tops_142 : decode cX8_tops 142 = .ok (.iload 5, 2) := by decide +kernel
theorem dX8_tops_144 : decode cX8_tops 144 = .ok (.iconst 1, 1) := by decide +kernel
theorem dX8_tops_145 : decode cX8_tops 145 = .ok (.isub, 1) := by decide +kernel
theorem dX8_tops_146 : decode cX8_tops 146 = .ok (.iload 6, 2) := by decide +kernel
theorem dX8_tops_148 : decode cX8_tops 148 = .ok (.iastore, 1) := by decide +kernel
theorem dX8_tops_149 : decode cX8_tops 149 = .ok (.aload_n 0, 1) := by decide +kernel
theorem dX8_tops_150 : decode cX8_tops 150 = .ok (.getfield 42, 3) := by decide +kernel
theorem dX8_tops_153 : decode cX8_tops 153 = .ok (.aload_n 0, 1) := by decide +kernel
theorem dX8_tops_154 : decode cX8_tops 154 = .ok (.invokevirtual 110, 3) := by decide +kernel
theorem dX8_tops_157 : decode cX8_tops 157 = .ok (.dup2, 1) := by decide +kernel
theorem dX8_tops_158 : decode cX8_tops 158 = .ok (.laload, 1) := by decide +kernel
theorem dX8_tops_159 : decode cX8_tops 159 = .ok (.aload_n 0, 1) := by decide +kernel
theorem dX8_tops_160 : decode cX8_tops 160 = .ok (.getfield 39, 3) := by decide +kernel
theorem dX8_tops_163 : decode cX8_tops 163 = .ok (.iload 4, 2) := by decide +kernel
theorem dX8_tops_165 : decode cX8_tops 165 = .ok (.laload, 1) := by decide +kernel
theorem dX8_tops_166 : decode cX8_tops 166 = .ok (.ladd, 1) := by decide +kernel
theorem dX8_tops_167 : decode cX8_tops 167 = .ok (.lastore, 1) := by decide +kernel
theorem dX8_tops_168 : decode cX8_tops 168 = .ok (.iinc 5 1, 3) := by decide +kernel
theorem dX8_tops_171 : decode cX8_tops 171 = .ok (.goto (-72), 3) := by decide +kernel
theorem dX8_tops_174 : decode cX8_tops 174 = .ok (.iinc 4 1, 3) := by decide +kernel
theorem dX8_tops_177 : decode cX8_tops 177 = .ok (.goto (-108), 3) := by decide +kernel
theorem dX8_tops_180 : decode cX8_tops 180 = .ok (.iconst 0, 1) := by decide +kernel
theorem dX8_tops_181 : decode cX8_tops 181 = .ok (.istore 4, 2) := by decide +kernel
theorem dX8_tops_183 : decode cX8_tops 183 = .ok (.iload 4, 2) := by decide +kernel
theorem dX8_tops_185 : decode cX8_tops 185 = .ok (.iload_n 2, 1) := by decide +kernel
theorem dX8_tops_186 : decode cX8_tops 186 = .ok (.if_icmp .ge 23, 3) := by decide +kernel
theorem dX8_tops_189 : decode cX8_tops 189 = .ok (.aload_n 0, 1) := by decide +kernel
theorem dX8_tops_190 : decode cX8_tops 190 = .ok (.getfield 39, 3) := by decide +kernel
theorem dX8_tops_193 : decode cX8_tops 193 = .ok (.iload 4, 2) := by decide +kernel
theorem dX8_tops_195 : decode cX8_tops 195 = .ok (.aload_n 0, 1) := by decide +kernel
theorem dX8_tops_196 : decode cX8_tops 196 = .ok (.getfield 42, 3) := by decide +kernel
theorem dX8_tops_199 : decode cX8_tops 199 = .ok (.iload 4, 2) := by decide +kernel
theorem dX8_tops_201 : decode cX8_tops 201 = .ok (.laload, 1) := by decide +kernel
theorem dX8_tops_202 : decode cX8_tops 202 = .ok (.lastore, 1) := by decide +kernel
theorem dX8_tops_203 : decode cX8_tops 203 = .ok (.iinc 4 1, 3) := by decide +kernel
theorem dX8_tops_206 : decode cX8_tops 206 = .ok (.goto (-23), 3) := by decide +kernel
theorem dX8_tops_209 : decode cX8_tops 209 = .ok (.iinc 3 1, 3) := by decide +kernel
theorem dX8_tops_212 : decode cX8_tops 212 = .ok (.goto (-174), 3) := by decide +kernel
theorem dX8_tops_215 : decode cX8_tops 215 = .ok (.return_, 1) := by decide +kernel
theorem dX8_chance_0 : decode cX8_chance 0 = .ok (.aload_n 0, 1) := by decide +kernel
theorem dX8_chance_1 : decode cX8_chance 1 = .ok (.iload_n 1, 1) := by decide +kernel
theorem dX8_chance_2 : decode cX8_chance 2 = .ok (.iload_n 2, 1) := by decide +kernel
theorem dX8_chance_3 : decode cX8_chance 3 = .ok (.invokevirtual 164, 3) := by decide +kernel
theorem dX8_chance_6 : decode cX8_chance 6 = .ok (.ifCond .eq 22, 3) := by decide +kernel
theorem dX8_chance_9 : decode cX8_chance 9 = .ok (.aload_n 0, 1) := by decide +kernel
theorem dX8_chance_10 : decode cX8_chance 10 = .ok (.iload_n 3, 1) := by decide +kernel
theorem dX8_chance_11 : decode cX8_chance 11 = .ok (.invokevirtual 101, 3) := by decide +kernel
theorem dX8_chance_14 : decode cX8_chance 14 = .ok (.ifCond .eq 14, 3) := by decide +kernel
theorem dX8_chance_17 : decode cX8_chance 17 = .ok (.iload 4, 2) := by decide +kernel
theorem dX8_chance_19 : decode cX8_chance 19 = .ok (.ifCond .lt 9, 3) := by decide +kernel
theorem dX8_chance_22 : decode cX8_chance 22 = .ok (.iload 4, 2) := by decide +kernel
theorem dX8_chance_24 : decode cX8_chance 24 = .ok (.iconst 1, 1) := by decide +kernel
theorem dX8_chance_25 : decode cX8_chance 25 = .ok (.if_icmp .le 7, 3) := by decide +kernel
theorem dX8_chance_28 : decode cX8_chance 28 = .ok (.ldc2_w 157, 3) := by decide +kernel
theorem dX8_chance_31 : decode cX8_chance 31 = .ok (.lreturn, 1) := by decide +kernel
theorem dX8_chance_32 : decode cX8_chance 32 = .ok (.aload_n 0, 1) := by decide +kernel
theorem dX8_chance_33 : decode cX8_chance 33 = .ok (.iload_n 3, 1) := by decide +kernel
theorem dX8_chance_34 : decode cX8_chance 34 = .ok (.invokevirtual 107, 3) := by decide +kernel
theorem dX8_chance_37 : decode cX8_chance 37 = .ok (.aload_n 0, 1) := by decide +kernel
theorem dX8_chance_38 : decode cX8_chance 38 = .ok (.getfield 17, 3) := by decide +kernel
theorem dX8_chance_41 : decode cX8_chance 41 = .ok (.iload_n 1, 1) := by decide +kernel
theorem dX8_chance_42 : decode cX8_chance 42 = .ok (.iaload, 1) := by decide +kernel
theorem dX8_chance_43 : decode cX8_chance 43 = .ok (.iconst 4, 1) := by decide +kernel
theorem dX8_chance_44 : decode cX8_chance 44 = .ok (.if_icmp .ne 37, 3) := by decide +kernel
theorem dX8_chance_47 : decode cX8_chance 47 = .ok (.aload_n 0, 1) := by decide +kernel
theorem dX8_chance_48 : decode cX8_chance 48 = .ok (.invokevirtual 110, 3) := by decide +kernel
theorem dX8_chance_51 : decode cX8_chance 51 = .ok (.istore 5, 2) := by decide +kernel
theorem dX8_chance_53 : decode cX8_chance 53 = .ok (.aload_n 0, 1) := by decide +kernel
theorem dX8_chance_54 : decode cX8_chance 54 = .ok (.iload_n 2, 1) := by decide +kernel
theorem dX8_chance_55 : decode cX8_chance 55 = .ok (.invokevirtual 168, 3) := by decide +kernel
theorem dX8_chance_58 : decode cX8_chance 58 = .ok (.aload_n 0, 1) := by decide +kernel
theorem dX8_chance_59 : decode cX8_chance 59 = .ok (.aload_n 0, 1) := by decide +kernel
theorem dX8_chance_60 : decode cX8_chance 60 = .ok (.getfield 39, 3) := by decide +kernel
theorem dX8_chance_63 : decode cX8_chance 63 = .ok (.iload 5, 2) := by decide +kernel
theorem dX8_chance_65 : decode cX8_chance 65 = .ok (.laload, 1) := by decide +kernel
theorem dX8_chance_66 : decode cX8_chance 66 = .ok (.aload_n 0, 1) := by decide +kernel
theorem dX8_chance_67 : decode cX8_chance 67 = .ok (.getfield 7, 3) := by decide +kernel
theorem dX8_chance_70 : decode cX8_chance 70 = .ok (.i2l, 1) := by decide +kernel
theorem dX8_chance_71 : decode cX8_chance 71 = .ok (.iload_n 2, 1) := by decide +kernel
theorem dX8_chance_72 : decode cX8_chance 72 = .ok (.invokestatic 145, 3) := by decide +kernel
theorem dX8_chance_75 : decode cX8_chance 75 = .ok (.iload 4, 2) := by decide +kernel
theorem dX8_chance_77 : decode cX8_chance 77 = .ok (.invokevirtual 171, 3) := by decide +kernel
theorem dX8_chance_80 : decode cX8_chance 80 = .ok (.lreturn, 1) := by decide +kernel
theorem dX8_chance_81 : decode cX8_chance 81 = .ok (.aload_n 0, 1) := by decide +kernel
theorem dX8_chance_82 : decode cX8_chance 82 = .ok (.getfield 20, 3) := by decide +kernel
theorem dX8_chance_85 : decode cX8_chance 85 = .ok (.iload_n 1, 1) := by decide +kernel
theorem dX8_chance_86 : decode cX8_chance 86 = .ok (.iaload, 1) := by decide +kernel
theorem dX8_chance_87 : decode cX8_chance 87 = .ok (.i2l, 1) := by decide +kernel
theorem dX8_chance_88 : decode cX8_chance 88 = .ok (.iload_n 2, 1) := by decide +kernel
theorem dX8_chance_89 : decode cX8_chance 89 = .ok (.invokestatic 145, 3) := by decide +kernel
theorem dX8_chance_92 : decode cX8_chance 92 = .ok (.l2i, 1) := by decide +kernel
theorem dX8_chance_93 : decode cX8_chance 93 = .ok (.istore 5, 2) := by decide +kernel
theorem dX8_chance_95 : decode cX8_chance 95 = .ok (.aload_n 0, 1) := by decide +kernel
theorem dX8_chance_96 : decode cX8_chance 96 = .ok (.aload_n 0, 1) := by decide +kernel
theorem dX8_chance_97 : decode cX8_chance 97 = .ok (.iload 5, 2) := by decide +kernel
theorem dX8_chance_99 : decode cX8_chance 99 = .ok (.aload_n 0, 1) := by decide +kernel
theorem dX8_chance_100 : decode cX8_chance 100 = .ok (.invokevirtual 113, 3) := by decide +kernel
theorem dX8_chance_103 : decode cX8_chance 103 = .ok (.iconst 1, 1) := by decide +kernel
theorem dX8_chance_104 : decode cX8_chance 104 = .ok (.isub, 1) := by decide +kernel
theorem dX8_chance_105 : decode cX8_chance 105 = .ok (.invokevirtual 175, 3) := by decide +kernel
theorem dX8_chance_108 : decode cX8_chance 108 = .ok (.iload 5, 2) := by decide +kernel
theorem dX8_chance_110 : decode cX8_chance 110 = .ok (.i2l, 1) := by decide +kernel
theorem dX8_chance_111 : decode cX8_chance 111 = .ok (.aload_n 0, 1) := by decide +kernel
theorem dX8_chance_112 : decode cX8_chance 112 = .ok (.getfield 7, 3) := by decide +kernel
theorem dX8_chance_115 : decode cX8_chance 115 = .ok (.invokestatic 145, 3) := by decide +kernel
theorem dX8_chance_118 : decode cX8_chance 118 = .ok (.iload 4, 2) := by decide +kernel
theorem dX8_chance_120 : decode cX8_chance 120 = .ok (.invokevirtual 171, 3) := by decide +kernel
theorem dX8_chance_123 : decode cX8_chance 123 = .ok (.lreturn, 1) := by decide +kernel
theorem dX8_place_0 : decode cX8_place 0 = .ok (.aload_n 0, 1) := by decide +kernel
theorem dX8_place_1 : decode cX8_place 1 = .ok (.iload_n 1, 1) := by decide +kernel
theorem dX8_place_2 : decode cX8_place 2 = .ok (.invokevirtual 123, 3) := by decide +kernel
theorem dX8_place_5 : decode cX8_place 5 = .ok (.ifCond .eq 38, 3) := by decide +kernel
theorem dX8_place_8 : decode cX8_place 8 = .ok (.aload_n 0, 1) := by decide +kernel
theorem dX8_place_9 : decode cX8_place 9 = .ok (.iload_n 1, 1) := by decide +kernel
theorem dX8_place_10 : decode cX8_place 10 = .ok (.invokevirtual 126, 3) := by decide +kernel
theorem dX8_place_13 : decode cX8_place 13 = .ok (.ifCond .ne 30, 3) := by decide +kernel
theorem dX8_place_16 : decode cX8_place 16 = .ok (.aload_n 0, 1) := by decide +kernel
theorem dX8_place_17 : decode cX8_place 17 = .ok (.iload_n 2, 1) := by decide +kernel
theorem dX8_place_18 : decode cX8_place 18 = .ok (.invokevirtual 98, 3) := by decide +kernel
theorem dX8_place_21 : decode cX8_place 21 = .ok (.ifCond .eq 22, 3) := by decide +kernel
theorem dX8_place_24 : decode cX8_place 24 = .ok (.aload_n 0, 1) := by decide +kernel
theorem dX8_place_25 : decode cX8_place 25 = .ok (.iload_n 3, 1) := by decide +kernel
theorem dX8_place_26 : decode cX8_place 26 = .ok (.invokevirtual 98, 3) := by decide +kernel
theorem dX8_place_29 : decode cX8_place 29 = .ok (.ifCond .eq 14, 3) := by decide +kernel
theorem dX8_place_32 : decode cX8_place 32 = .ok (.iload 4, 2) := by decide +kernel
theorem dX8_place_34 : decode cX8_place 34 = .ok (.ifCond .lt 9, 3) := by decide +kernel
theorem dX8_place_37 : decode cX8_place 37 = .ok (.iload 4, 2) := by decide +kernel
theorem dX8_place_39 : decode cX8_place 39 = .ok (.iconst 1, 1) := by decide +kernel
theorem dX8_place_40 : decode cX8_place 40 = .ok (.if_icmp .le 7, 3) := by decide +kernel
theorem dX8_place_43 : decode cX8_place 43 = .ok (.ldc2_w 157, 3) := by decide +kernel
theorem dX8_place_46 : decode cX8_place 46 = .ok (.lreturn, 1) := by decide +kernel
theorem dX8_place_47 : decode cX8_place 47 = .ok (.aload_n 0, 1) := by decide +kernel
theorem dX8_place_48 : decode cX8_place 48 = .ok (.getfield 17, 3) := by decide +kernel
theorem dX8_place_51 : decode cX8_place 51 = .ok (.iload_n 1, 1) := by decide +kernel
theorem dX8_place_52 : decode cX8_place 52 = .ok (.iaload, 1) := by decide +kernel
theorem dX8_place_53 : decode cX8_place 53 = .ok (.iconst 4, 1) := by decide +kernel
theorem dX8_place_54 : decode cX8_place 54 = .ok (.if_icmp .ne 72, 3) := by decide +kernel
theorem dX8_place_57 : decode cX8_place 57 = .ok (.iconst 0, 1) := by decide +kernel
theorem dX8_place_58 : decode cX8_place 58 = .ok (.istore 5, 2) := by decide +kernel
theorem dX8_place_60 : decode cX8_place 60 = .ok (.iconst 0, 1) := by decide +kernel
theorem dX8_place_61 : decode cX8_place 61 = .ok (.istore 6, 2) := by decide +kernel
theorem dX8_place_63 : decode cX8_place 63 = .ok (.iload 6, 2) := by decide +kernel
theorem dX8_place_65 : decode cX8_place 65 = .ok (.aload_n 0, 1) := by decide +kernel
theorem dX8_place_66 : decode cX8_place 66 = .ok (.getfield 7, 3) := by decide +kernel
theorem dX8_place_69 : decode cX8_place 69 = .ok (.if_icmp .ge 42, 3) := by decide +kernel
theorem dX8_place_72 : decode cX8_place 72 = .ok (.iload_n 2, 1) := by decide +kernel
theorem dX8_place_73 : decode cX8_place 73 = .ok (.ifCond .ne 8, 3) := by decide +kernel
theorem dX8_place_76 : decode cX8_place 76 = .ok (.iload 6, 2) := by decide +kernel
theorem dX8_place_78 : decode cX8_place 78 = .ok (.goto 16, 3) := by decide +kernel
theorem dX8_place_81 : decode cX8_place 81 = .ok (.iload_n 2, 1) := by decide +kernel
theorem dX8_place_82 : decode cX8_place 82 = .ok (.iload 6, 2) := by decide +kernel
theorem dX8_place_84 : decode cX8_place 84 = .ok (.if_icmp .gt 9, 3) := by decide +kernel
theorem dX8_place_87 : decode cX8_place 87 = .ok (.iload_n 2, 1) := by decide +kernel
theorem dX8_place_88 : decode cX8_place 88 = .ok (.iconst 1, 1) := by decide +kernel
theorem dX8_place_89 : decode cX8_place 89 = .ok (.isub, 1) := by decide +kernel
theorem dX8_place_90 : decode cX8_place 90 = .ok (.goto 4, 3) := by decide +kernel
theorem dX8_place_93 : decode cX8_place 93 = .ok (.iload_n 2, 1) := by decide +kernel
theorem dX8_place_94 : decode cX8_place 94 = .ok (.istore 7, 2) := by decide +kernel
theorem dX8_place_96 : decode cX8_place 96 = .ok (.iload 7, 2) := by decide +kernel
theorem dX8_place_98 : decode cX8_place 98 = .ok (.iload_n 3, 1) := by decide +kernel
theorem dX8_place_99 : decode cX8_place 99 = .ok (.if_icmp .ne 6, 3) := by decide +kernel
theorem dX8_place_102 : decode cX8_place 102 = .ok (.iinc 5 1, 3) := by decide +kernel
theorem dX8_place_105 : decode cX8_place 105 = .ok (.iinc 6 1, 3) := by decide +kernel
theorem dX8_place_108 : decode cX8_place 108 = .ok (.goto (-45), 3) := by decide +kernel
theorem dX8_place_111 : decode cX8_place 111 = .ok (.aload_n 0, 1) := by decide +kernel
theorem dX8_place_112 : decode cX8_place 112 = .ok (.iload 5, 2) := by decide +kernel
theorem dX8_place_114 : decode cX8_place 114 = .ok (.i2l, 1) := by decide +kernel
theorem dX8_place_115 : decode cX8_place 115 = .ok (.aload_n 0, 1) := by decide +kernel
theorem dX8_place_116 : decode cX8_place 116 = .ok (.getfield 7, 3) := by decide +kernel
theorem dX8_place_119 : decode cX8_place 119 = .ok (.i2l, 1) := by decide +kernel
theorem dX8_place_120 : decode cX8_place 120 = .ok (.iload 4, 2) := by decide +kernel
theorem dX8_place_122 : decode cX8_place 122 = .ok (.invokevirtual 171, 3) := by decide +kernel
theorem dX8_place_125 : decode cX8_place 125 = .ok (.lreturn, 1) := by decide +kernel
theorem dX8_place_126 : decode cX8_place 126 = .ok (.aload_n 0, 1) := by decide +kernel
theorem dX8_place_127 : decode cX8_place 127 = .ok (.getfield 20, 3) := by decide +kernel
theorem dX8_place_130 : decode cX8_place 130 = .ok (.iload_n 1, 1) := by decide +kernel
theorem dX8_place_131 : decode cX8_place 131 = .ok (.iaload, 1) := by decide +kernel
theorem dX8_place_132 : decode cX8_place 132 = .ok (.istore 5, 2) := by decide +kernel
theorem dX8_place_134 : decode cX8_place 134 = .ok (.lconst 0, 1) := by decide +kernel
theorem dX8_place_135 : decode cX8_place 135 = .ok (.lstore 6, 2) := by decide +kernel
theorem dX8_place_137 : decode cX8_place 137 = .ok (.iconst 0, 1) := by decide +kernel
theorem dX8_place_138 : decode cX8_place 138 = .ok (.istore 8, 2) := by decide +kernel
theorem dX8_place_140 : decode cX8_place 140 = .ok (.iload 8, 2) := by decide +kernel
theorem dX8_place_142 : decode cX8_place 142 = .ok (.iload 5, 2) := by decide +kernel
theorem dX8_place_144 : decode cX8_place 144 = .ok (.if_icmp .ge 160, 3) := by decide +kernel
theorem dX8_place_147 : decode cX8_place 147 = .ok (.iconst 0, 1) := by decide +kernel
theorem dX8_place_148 : decode cX8_place 148 = .ok (.istore 9, 2) := by decide +kernel
theorem dX8_place_150 : decode cX8_place 150 = .ok (.iload 9, 2) := by decide +kernel
theorem dX8_place_152 : decode cX8_place 152 = .ok (.aload_n 0, 1) := by decide +kernel
theorem dX8_place_153 : decode cX8_place 153 = .ok (.getfield 7, 3) := by decide +kernel
theorem dX8_place_156 : decode cX8_place 156 = .ok (.if_icmp .gt 26, 3) := by decide +kernel
theorem dX8_place_159 : decode cX8_place 159 = .ok (.aload_n 0, 1) := by decide +kernel
theorem dX8_place_160 : decode cX8_place 160 = .ok (.getfield 32, 3) := by decide +kernel
theorem dX8_place_163 : decode cX8_place 163 = .ok (.iload 9, 2) := by decide +kernel
theorem dX8_place_165 : decode cX8_place 165 = .ok (.iload 9, 2) := by decide +kernel
theorem dX8_place_167 : decode cX8_place 167 = .ok (.ifCond .ne 7, 3) := by decide +kernel
theorem dX8_place_170 : decode cX8_place 170 = .ok (.lconst 1, 1) := by decide +kernel
theorem dX8_place_171 : decode cX8_place 171 = .ok (.goto 4, 3) := by decide +kernel
theorem dX8_place_174 : decode cX8_place 174 = .ok (.lconst 0, 1) := by decide +kernel
theorem dX8_place_175 : decode cX8_place 175 = .ok (.lastore, 1) := by decide +kernel
theorem dX8_place_176 : decode cX8_place 176 = .ok (.iinc 9 1, 3) := by decide +kernel
theorem dX8_place_179 : decode cX8_place 179 = .ok (.goto (-29), 3) := by decide +kernel
theorem dX8_place_182 : decode cX8_place 182 = .ok (.iconst 0, 1) := by decide +kernel
theorem dX8_place_183 : decode cX8_place 183 = .ok (.istore 9, 2) := by decide +kernel
theorem dX8_place_185 : decode cX8_place 185 = .ok (.iload 9, 2) := by decide +kernel
theorem dX8_place_187 : decode cX8_place 187 = .ok (.aload_n 0, 1) := by decide +kernel
theorem dX8_place_188 : decode cX8_place 188 = .ok (.getfield 7, 3) := by decide +kernel
theorem dX8_place_191 : decode cX8_place 191 = .ok (.if_icmp .ge 96, 3) := by decide +kernel
theorem dX8_place_194 : decode cX8_place 194 = .ok (.iload 9, 2) := by decide +kernel
theorem dX8_place_196 : decode cX8_place 196 = .ok (.iload_n 3, 1) := by decide +kernel
theorem dX8_place_197 : decode cX8_place 197 = .ok (.if_icmp .ne 6, 3) := by decide +kernel
theorem dX8_place_200 : decode cX8_place 200 = .ok (.goto 81, 3) := by decide +kernel
theorem dX8_place_203 : decode cX8_place 203 = .ok (.iload 9, 2) := by decide +kernel
theorem dX8_place_205 : decode cX8_place 205 = .ok (.iload_n 3, 1) := by decide +kernel
theorem dX8_place_206 : decode cX8_place 206 = .ok (.if_icmp .ge 10, 3) := by decide +kernel
theorem dX8_place_209 : decode cX8_place 209 = .ok (.iload 8, 2) := by decide +kernel
theorem dX8_place_211 : decode cX8_place 211 = .ok (.iconst 1, 1) := by decide +kernel
theorem dX8_place_212 : decode cX8_place 212 = .ok (.iadd, 1) := by decide +kernel
theorem dX8_place_213 : decode cX8_place 213 = .ok (.goto 5, 3) := by decide +kernel
theorem dX8_place_216 : decode cX8_place 216 = .ok (.iload 8, 2) := by decide +kernel
theorem dX8_place_218 : decode cX8_place 218 = .ok (.istore 10, 2) := by decide +kernel
theorem dX8_place_220 : decode cX8_place 220 = .ok (.aload_n 0, 1) := by decide +kernel
theorem dX8_place_221 : decode cX8_place 221 = .ok (.getfield 7, 3) := by decide +kernel
theorem dX8_place_224 : decode cX8_place 224 = .ok (.istore 11, 2) := by decide +kernel
theorem dX8_place_226 : decode cX8_place 226 = .ok (.iload 11, 2) := by decide +kernel
theorem dX8_place_228 : decode cX8_place 228 = .ok (.ifCond .lt 53, 3) := by decide +kernel
theorem dX8_place_231 : decode cX8_place 231 = .ok (.aload_n 0, 1) := by decide +kernel
theorem dX8_place_232 : decode cX8_place 232 = .ok (.getfield 32, 3) := by decide +kernel
theorem dX8_place_235 : decode cX8_place 235 = .ok (.iload 11, 2) := by decide +kernel
theorem dX8_place_237 : decode cX8_place 237 = .ok (.aload_n 0, 1) := by decide +kernel
theorem dX8_place_238 : decode cX8_place 238 = .ok (.getfield 32, 3) := by decide +kernel
theorem dX8_place_241 : decode cX8_place 241 = .ok (.iload 11, 2) := by decide +kernel
theorem dX8_place_243 : decode cX8_place 243 = .ok (.laload, 1) := by decide +kernel
theorem dX8_place_244 : decode cX8_place 244 = .ok (.iload 5, 2) := by decide +kernel
theorem dX8_place_246 : decode cX8_place 246 = .ok (.iload 10, 2) := by decide +kernel
theorem dX8_place_248 : decode cX8_place 248 = .ok (.isub, 1) := by decide +kernel
theorem dX8_place_249 : decode cX8_place 249 = .ok (.i2l, 1) := by decide +kernel
theorem dX8_place_250 : decode cX8_place 250 = .ok (.lmul, 1) := by decide +kernel
theorem dX8_place_251 : decode cX8_place 251 = .ok (.iload 11, 2) := by decide +kernel
theorem dX8_place_253 : decode cX8_place 253 = .ok (.ifCond .le 19, 3) := by decide +kernel
theorem dX8_place_256 : decode cX8_place 256 = .ok (.aload_n 0, 1) := by decide +kernel
theorem dX8_place_257 : decode cX8_place 257 = .ok (.getfield 32, 3) := by decide +kernel
theorem dX8_place_260 : decode cX8_place 260 = .ok (.iload 11, 2) := by decide +kernel
theorem dX8_place_262 : decode cX8_place 262 = .ok (.iconst 1, 1) := by decide +kernel
theorem dX8_place_263 : decode cX8_place 263 = .ok (.isub, 1) := by decide +kernel
theorem dX8_place_264 : decode cX8_place 264 = .ok (.laload, 1) := by decide +kernel
theorem dX8_place_265 : decode cX8_place 265 = .ok (.iload 10, 2) := by decide +kernel
theorem dX8_place_267 : decode cX8_place 267 = .ok (.i2l, 1) := by decide +kernel
theorem dX8_place_268 : decode cX8_place 268 = .ok (.lmul, 1) := by decide +kernel
theorem dX8_place_269 : decode cX8_place 269 = .ok (.goto 4, 3) := by decide +kernel
theorem dX8_place_272 : decode cX8_place 272 = .ok (.lconst 0, 1) := by decide +kernel
theorem dX8_place_273 : decode cX8_place 273 = .ok (.ladd, 1) := by decide +kernel
theorem dX8_place_274 : decode cX8_place 274 = .ok (.lastore, 1) := by decide +kernel
theorem dX8_place_275 : decode cX8_place 275 = .ok (.iinc 11 (-1), 3) := by decide +kernel
theorem dX8_place_278 : decode cX8_place 278 = .ok (.goto (-52), 3) := by decide +kernel
theorem dX8_place_281 : decode cX8_place 281 = .ok (.iinc 9 1, 3) := by decide +kernel
theorem dX8_place_284 : decode cX8_place 284 = .ok (.goto (-99), 3) := by decide +kernel
theorem dX8_place_287 : decode cX8_place 287 = .ok (.lload 6, 2) := by decide +kernel
theorem dX8_place_289 : decode cX8_place 289 = .ok (.aload_n 0, 1) := by decide +kernel
theorem dX8_place_290 : decode cX8_place 290 = .ok (.getfield 32, 3) := by decide +kernel
theorem dX8_place_293 : decode cX8_place 293 = .ok (.iload_n 2, 1) := by decide +kernel
theorem dX8_place_294 : decode cX8_place 294 = .ok (.laload, 1) := by decide +kernel
theorem dX8_place_295 : decode cX8_place 295 = .ok (.ladd, 1) := by decide +kernel
theorem dX8_place_296 : decode cX8_place 296 = .ok (.lstore 6, 2) := by decide +kernel
theorem dX8_place_298 : decode cX8_place 298 = .ok (.iinc 8 1, 3) := by decide +kernel
theorem dX8_place_301 : decode cX8_place 301 = .ok (.goto (-161), 3) := by decide +kernel
theorem dX8_place_304 : decode cX8_place 304 = .ok (.aload_n 0, 1) := by decide +kernel
theorem dX8_place_305 : decode cX8_place 305 = .ok (.lload 6, 2) := by decide +kernel
theorem dX8_place_307 : decode cX8_place 307 = .ok (.iload 5, 2) := by decide +kernel
theorem dX8_place_309 : decode cX8_place 309 = .ok (.i2l, 1) := by decide +kernel
theorem dX8_place_310 : decode cX8_place 310 = .ok (.aload_n 0, 1) := by decide +kernel
theorem dX8_place_311 : decode cX8_place 311 = .ok (.getfield 7, 3) := by decide +kernel
theorem dX8_place_314 : decode cX8_place 314 = .ok (.invokestatic 145, 3) := by decide +kernel
theorem dX8_place_317 : decode cX8_place 317 = .ok (.iload 4, 2) := by decide +kernel
theorem dX8_place_319 : decode cX8_place 319 = .ok (.invokevirtual 171, 3) := by decide +kernel
theorem dX8_place_322 : decode cX8_place 322 = .ok (.lreturn, 1) := by decide +kernel
theorem dX8_far_0 : decode cX8_far 0 = .ok (.aload_n 0, 1) := by decide +kernel
theorem dX8_far_1 : decode cX8_far 1 = .ok (.iload_n 1, 1) := by decide +kernel
theorem dX8_far_2 : decode cX8_far 2 = .ok (.iload_n 2, 1) := by decide +kernel
theorem dX8_far_3 : decode cX8_far 3 = .ok (.invokevirtual 164, 3) := by decide +kernel
theorem dX8_far_6 : decode cX8_far 6 = .ok (.ifCond .eq 12, 3) := by decide +kernel
theorem dX8_far_9 : decode cX8_far 9 = .ok (.iload_n 3, 1) := by decide +kernel
theorem dX8_far_10 : decode cX8_far 10 = .ok (.ifCond .lt 8, 3) := by decide +kernel
theorem dX8_far_13 : decode cX8_far 13 = .ok (.iload_n 3, 1) := by decide +kernel
theorem dX8_far_14 : decode cX8_far 14 = .ok (.iconst 1, 1) := by decide +kernel
theorem dX8_far_15 : decode cX8_far 15 = .ok (.if_icmp .le 7, 3) := by decide +kernel
theorem dX8_far_18 : decode cX8_far 18 = .ok (.ldc2_w 157, 3) := by decide +kernel
theorem dX8_far_21 : decode cX8_far 21 = .ok (.lreturn, 1) := by decide +kernel
theorem dX8_far_22 : decode cX8_far 22 = .ok (.aload_n 0, 1) := by decide +kernel
theorem dX8_far_23 : decode cX8_far 23 = .ok (.getfield 7, 3) := by decide +kernel
theorem dX8_far_26 : decode cX8_far 26 = .ok (.invokestatic 82, 3) := by decide +kernel
theorem dX8_far_29 : decode cX8_far 29 = .ok (.i2l, 1) := by decide +kernel
theorem dX8_far_30 : decode cX8_far 30 = .ok (.lstore 4, 2) := by decide +kernel
theorem dX8_far_32 : decode cX8_far 32 = .ok (.lconst 0, 1) := by decide +kernel
theorem dX8_far_33 : decode cX8_far 33 = .ok (.lstore 6, 2) := by decide +kernel
theorem dX8_far_35 : decode cX8_far 35 = .ok (.aload_n 0, 1) := by decide +kernel
theorem dX8_far_36 : decode cX8_far 36 = .ok (.getfield 17, 3) := by decide +kernel
theorem dX8_far_39 : decode cX8_far 39 = .ok (.iload_n 1, 1) := by decide +kernel
theorem dX8_far_40 : decode cX8_far 40 = .ok (.iaload, 1) := by decide +kernel
theorem dX8_far_41 : decode cX8_far 41 = .ok (.iconst 4, 1) := by decide +kernel
theorem dX8_far_42 : decode cX8_far 42 = .ok (.if_icmp .ne 75, 3) := by decide +kernel
theorem dX8_far_45 : decode cX8_far 45 = .ok (.aload_n 0, 1) := by decide +kernel
theorem dX8_far_46 : decode cX8_far 46 = .ok (.getfield 7, 3) := by decide +kernel
theorem dX8_far_49 : decode cX8_far 49 = .ok (.i2l, 1) := by decide +kernel
theorem dX8_far_50 : decode cX8_far 50 = .ok (.iload_n 2, 1) := by decide +kernel
theorem dX8_far_51 : decode cX8_far 51 = .ok (.invokestatic 145, 3) := by decide +kernel
theorem dX8_far_54 : decode cX8_far 54 = .ok (.lstore 8, 2) := by decide +kernel
theorem dX8_far_56 : decode cX8_far 56 = .ok (.aload_n 0, 1) := by decide +kernel
theorem dX8_far_57 : decode cX8_far 57 = .ok (.iload_n 2, 1) := by decide +kernel
theorem dX8_far_58 : decode cX8_far 58 = .ok (.invokevirtual 168, 3) := by decide +kernel
theorem dX8_far_61 : decode cX8_far 61 = .ok (.iconst 0, 1) := by decide +kernel
theorem dX8_far_62 : decode cX8_far 62 = .ok (.istore 10, 2) := by decide +kernel
theorem dX8_far_64 : decode cX8_far 64 = .ok (.iload 10, 2) := by decide +kernel
theorem dX8_far_66 : decode cX8_far 66 = .ok (.i2l, 1) := by decide +kernel
theorem dX8_far_67 : decode cX8_far 67 = .ok (.lload 4, 2) := by decide +kernel
theorem dX8_far_69 : decode cX8_far 69 = .ok (.lcmp, 1) := by decide +kernel
theorem dX8_far_70 : decode cX8_far 70 = .ok (.ifCond .ge 30, 3) := by decide +kernel
theorem dX8_far_73 : decode cX8_far 73 = .ok (.lload 6, 2) := by decide +kernel
theorem dX8_far_75 : decode cX8_far 75 = .ok (.aload_n 0, 1) := by decide +kernel
theorem dX8_far_76 : decode cX8_far 76 = .ok (.getfield 39, 3) := by decide +kernel
theorem dX8_far_79 : decode cX8_far 79 = .ok (.iload 10, 2) := by decide +kernel
theorem dX8_far_81 : decode cX8_far 81 = .ok (.laload, 1) := by decide +kernel
theorem dX8_far_82 : decode cX8_far 82 = .ok (.lload 4, 2) := by decide +kernel
theorem dX8_far_84 : decode cX8_far 84 = .ok (.lmul, 1) := by decide +kernel
theorem dX8_far_85 : decode cX8_far 85 = .ok (.lload 8, 2) := by decide +kernel
theorem dX8_far_87 : decode cX8_far 87 = .ok (.lsub, 1) := by decide +kernel
theorem dX8_far_88 : decode cX8_far 88 = .ok (.invokestatic 179, 3) := by decide +kernel
theorem dX8_far_91 : decode cX8_far 91 = .ok (.ladd, 1) := by decide +kernel
theorem dX8_far_92 : decode cX8_far 92 = .ok (.lstore 6, 2) := by decide +kernel
theorem dX8_far_94 : decode cX8_far 94 = .ok (.iinc 10 1, 3) := by decide +kernel
theorem dX8_far_97 : decode cX8_far 97 = .ok (.goto (-33), 3) := by decide +kernel
theorem dX8_far_100 : decode cX8_far 100 = .ok (.aload_n 0, 1) := by decide +kernel
theorem dX8_far_101 : decode cX8_far 101 = .ok (.lload 6, 2) := by decide +kernel
theorem dX8_far_103 : decode cX8_far 103 = .ok (.ldc2_w 183, 3) := by decide +kernel
theorem dX8_far_106 : decode cX8_far 106 = .ok (.lload 8, 2) := by decide +kernel
theorem dX8_far_108 : decode cX8_far 108 = .ok (.lmul, 1) := by decide +kernel
theorem dX8_far_109 : decode cX8_far 109 = .ok (.lload 4, 2) := by decide +kernel
theorem dX8_far_111 : decode cX8_far 111 = .ok (.lmul, 1) := by decide +kernel
theorem dX8_far_112 : decode cX8_far 112 = .ok (.iload_n 3, 1) := by decide +kernel
theorem dX8_far_113 : decode cX8_far 113 = .ok (.invokevirtual 171, 3) := by decide +kernel
theorem dX8_far_116 : decode cX8_far 116 = .ok (.lreturn, 1) := by decide +kernel
theorem dX8_far_117 : decode cX8_far 117 = .ok (.aload_n 0, 1) := by decide +kernel
theorem dX8_far_118 : decode cX8_far 118 = .ok (.getfield 20, 3) := by decide +kernel
theorem dX8_far_121 : decode cX8_far 121 = .ok (.iload_n 1, 1) := by decide +kernel
theorem dX8_far_122 : decode cX8_far 122 = .ok (.iaload, 1) := by decide +kernel
theorem dX8_far_123 : decode cX8_far 123 = .ok (.i2l, 1) := by decide +kernel
theorem dX8_far_124 : decode cX8_far 124 = .ok (.iload_n 2, 1) := by decide +kernel
theorem dX8_far_125 : decode cX8_far 125 = .ok (.invokestatic 145, 3) := by decide +kernel
theorem dX8_far_128 : decode cX8_far 128 = .ok (.l2i, 1) := by decide +kernel
theorem dX8_far_129 : decode cX8_far 129 = .ok (.istore 8, 2) := by decide +kernel
theorem dX8_far_131 : decode cX8_far 131 = .ok (.iload 8, 2) := by decide +kernel
theorem dX8_far_133 : decode cX8_far 133 = .ok (.i2l, 1) := by decide +kernel
theorem dX8_far_134 : decode cX8_far 134 = .ok (.aload_n 0, 1) := by decide +kernel
theorem dX8_far_135 : decode cX8_far 135 = .ok (.getfield 7, 3) := by decide +kernel
theorem dX8_far_138 : decode cX8_far 138 = .ok (.invokestatic 145, 3) := by decide +kernel
theorem dX8_far_141 : decode cX8_far 141 = .ok (.lstore 9, 2) := by decide +kernel
theorem dX8_far_143 : decode cX8_far 143 = .ok (.iconst 1, 1) := by decide +kernel
theorem dX8_far_144 : decode cX8_far 144 = .ok (.istore 11, 2) := by decide +kernel
theorem dX8_far_146 : decode cX8_far 146 = .ok (.iload 11, 2) := by decide +kernel
theorem dX8_far_148 : decode cX8_far 148 = .ok (.aload_n 0, 1) := by decide +kernel
theorem dX8_far_149 : decode cX8_far 149 = .ok (.getfield 7, 3) := by decide +kernel
theorem dX8_far_152 : decode cX8_far 152 = .ok (.if_icmp .gt 40, 3) := by decide +kernel
theorem dX8_far_155 : decode cX8_far 155 = .ok (.lload 6, 2) := by decide +kernel
theorem dX8_far_157 : decode cX8_far 157 = .ok (.aload_n 0, 1) := by decide +kernel
theorem dX8_far_158 : decode cX8_far 158 = .ok (.iload 11, 2) := by decide +kernel
theorem dX8_far_160 : decode cX8_far 160 = .ok (.invokevirtual 185, 3) := by decide +kernel
theorem dX8_far_163 : decode cX8_far 163 = .ok (.aload_n 0, 1) := by decide +kernel
theorem dX8_far_164 : decode cX8_far 164 = .ok (.iload 8, 2) := by decide +kernel
theorem dX8_far_166 : decode cX8_far 166 = .ok (.iload 11, 2) := by decide +kernel
theorem dX8_far_168 : decode cX8_far 168 = .ok (.iconst 1, 1) := by decide +kernel
theorem dX8_far_169 : decode cX8_far 169 = .ok (.isub, 1) := by decide +kernel
theorem dX8_far_170 : decode cX8_far 170 = .ok (.invokevirtual 175, 3) := by decide +kernel
theorem dX8_far_173 : decode cX8_far 173 = .ok (.lload 4, 2) := by decide +kernel
theorem dX8_far_175 : decode cX8_far 175 = .ok (.lmul, 1) := by decide +kernel
theorem dX8_far_176 : decode cX8_far 176 = .ok (.lload 9, 2) := by decide +kernel
theorem dX8_far_178 : decode cX8_far 178 = .ok (.lsub, 1) := by decide +kernel
theorem dX8_far_179 : decode cX8_far 179 = .ok (.invokestatic 179, 3) := by decide +kernel
theorem dX8_far_182 : decode cX8_far 182 = .ok (.lmul, 1) := by decide +kernel
theorem dX8_far_183 : decode cX8_far 183 = .ok (.ladd, 1) := by decide +kernel
theorem dX8_far_184 : decode cX8_far 184 = .ok (.lstore 6, 2) := by decide +kernel
theorem dX8_far_186 : decode cX8_far 186 = .ok (.iinc 11 1, 3) := by decide +kernel
theorem dX8_far_189 : decode cX8_far 189 = .ok (.goto (-43), 3) := by decide +kernel
theorem dX8_far_192 : decode cX8_far 192 = .ok (.aload_n 0, 1) := by decide +kernel
theorem dX8_far_193 : decode cX8_far 193 = .ok (.lload 6, 2) := by decide +kernel
theorem dX8_far_195 : decode cX8_far 195 = .ok (.ldc2_w 183, 3) := by decide +kernel
theorem dX8_far_198 : decode cX8_far 198 = .ok (.lload 9, 2) := by decide +kernel
theorem dX8_far_200 : decode cX8_far 200 = .ok (.lmul, 1) := by decide +kernel
theorem dX8_far_201 : decode cX8_far 201 = .ok (.lload 4, 2) := by decide +kernel
theorem dX8_far_203 : decode cX8_far 203 = .ok (.lmul, 1) := by decide +kernel
theorem dX8_far_204 : decode cX8_far 204 = .ok (.iload_n 3, 1) := by decide +kernel
theorem dX8_far_205 : decode cX8_far 205 = .ok (.invokevirtual 171, 3) := by decide +kernel
theorem dX8_far_208 : decode cX8_far 208 = .ok (.lreturn, 1) := by decide +kernel
theorem dX8_size_0 : decode cX8_size 0 = .ok (.lload_n 0, 1) := by decide +kernel
theorem dX8_size_1 : decode cX8_size 1 = .ok (.lconst 0, 1) := by decide +kernel
theorem dX8_size_2 : decode cX8_size 2 = .ok (.lcmp, 1) := by decide +kernel
theorem dX8_size_3 : decode cX8_size 3 = .ok (.ifCond .ge 8, 3) := by decide +kernel
theorem dX8_size_6 : decode cX8_size 6 = .ok (.lload_n 0, 1) := by decide +kernel
theorem dX8_size_7 : decode cX8_size 7 = .ok (.lneg, 1) := by decide +kernel
theorem dX8_size_8 : decode cX8_size 8 = .ok (.goto 4, 3) := by decide +kernel
theorem dX8_size_11 : decode cX8_size 11 = .ok (.lload_n 0, 1) := by decide +kernel
theorem dX8_size_12 : decode cX8_size 12 = .ok (.lreturn, 1) := by decide +kernel
theorem dX8_unlike_0 : decode cX8_unlike 0 = .ok (.aload_n 0, 1) := by decide +kernel
theorem dX8_unlike_1 : decode cX8_unlike 1 = .ok (.iload_n 1, 1) := by decide +kernel
theorem dX8_unlike_2 : decode cX8_unlike 2 = .ok (.invokevirtual 123, 3) := by decide +kernel
theorem dX8_unlike_5 : decode cX8_unlike 5 = .ok (.ifCond .eq 50, 3) := by decide +kernel
theorem dX8_unlike_8 : decode cX8_unlike 8 = .ok (.aload_n 0, 1) := by decide +kernel
theorem dX8_unlike_9 : decode cX8_unlike 9 = .ok (.getfield 17, 3) := by decide +kernel
theorem dX8_unlike_12 : decode cX8_unlike 12 = .ok (.iload_n 1, 1) := by decide +kernel
theorem dX8_unlike_13 : decode cX8_unlike 13 = .ok (.iaload, 1) := by decide +kernel
theorem dX8_unlike_14 : decode cX8_unlike 14 = .ok (.iconst 3, 1) := by decide +kernel
theorem dX8_unlike_15 : decode cX8_unlike 15 = .ok (.if_icmp .ne 40, 3) := by decide +kernel
theorem dX8_unlike_18 : decode cX8_unlike 18 = .ok (.iload_n 2, 1) := by decide +kernel
theorem dX8_unlike_19 : decode cX8_unlike 19 = .ok (.ifCond .lt 36, 3) := by decide +kernel
theorem dX8_unlike_22 : decode cX8_unlike 22 = .ok (.iload_n 2, 1) := by decide +kernel
theorem dX8_unlike_23 : decode cX8_unlike 23 = .ok (.bipush 6, 2) := by decide +kernel
theorem dX8_unlike_25 : decode cX8_unlike 25 = .ok (.if_icmp .gt 30, 3) := by decide +kernel
theorem dX8_unlike_28 : decode cX8_unlike 28 = .ok (.aload_n 0, 1) := by decide +kernel
theorem dX8_unlike_29 : decode cX8_unlike 29 = .ok (.getfield 20, 3) := by decide +kernel
theorem dX8_unlike_32 : decode cX8_unlike 32 = .ok (.iload_n 1, 1) := by decide +kernel
theorem dX8_unlike_33 : decode cX8_unlike 33 = .ok (.iaload, 1) := by decide +kernel
theorem dX8_unlike_34 : decode cX8_unlike 34 = .ok (.i2l, 1) := by decide +kernel
theorem dX8_unlike_35 : decode cX8_unlike 35 = .ok (.iload_n 2, 1) := by decide +kernel
theorem dX8_unlike_36 : decode cX8_unlike 36 = .ok (.invokestatic 145, 3) := by decide +kernel
theorem dX8_unlike_39 : decode cX8_unlike 39 = .ok (.ldc2_w 162, 3) := by decide +kernel
theorem dX8_unlike_42 : decode cX8_unlike 42 = .ok (.lcmp, 1) := by decide +kernel
theorem dX8_unlike_43 : decode cX8_unlike 43 = .ok (.ifCond .gt 12, 3) := by decide +kernel
theorem dX8_unlike_46 : decode cX8_unlike 46 = .ok (.iload_n 3, 1) := by decide +kernel
theorem dX8_unlike_47 : decode cX8_unlike 47 = .ok (.ifCond .lt 8, 3) := by decide +kernel
theorem dX8_unlike_50 : decode cX8_unlike 50 = .ok (.iload_n 3, 1) := by decide +kernel
theorem dX8_unlike_51 : decode cX8_unlike 51 = .ok (.iconst 1, 1) := by decide +kernel
theorem dX8_unlike_52 : decode cX8_unlike 52 = .ok (.if_icmp .le 7, 3) := by decide +kernel
theorem dX8_unlike_55 : decode cX8_unlike 55 = .ok (.ldc2_w 157, 3) := by decide +kernel
theorem dX8_unlike_58 : decode cX8_unlike 58 = .ok (.lreturn, 1) := by decide +kernel
theorem dX8_unlike_59 : decode cX8_unlike 59 = .ok (.aload_n 0, 1) := by decide +kernel
theorem dX8_unlike_60 : decode cX8_unlike 60 = .ok (.getfield 20, 3) := by decide +kernel
theorem dX8_unlike_63 : decode cX8_unlike 63 = .ok (.iload_n 1, 1) := by decide +kernel
theorem dX8_unlike_64 : decode cX8_unlike 64 = .ok (.iaload, 1) := by decide +kernel
theorem dX8_unlike_65 : decode cX8_unlike 65 = .ok (.i2l, 1) := by decide +kernel
theorem dX8_unlike_66 : decode cX8_unlike 66 = .ok (.iload_n 2, 1) := by decide +kernel
theorem dX8_unlike_67 : decode cX8_unlike 67 = .ok (.invokestatic 145, 3) := by decide +kernel
theorem dX8_unlike_70 : decode cX8_unlike 70 = .ok (.lstore 4, 2) := by decide +kernel
theorem dX8_unlike_72 : decode cX8_unlike 72 = .ok (.lconst 1, 1) := by decide +kernel
theorem dX8_unlike_73 : decode cX8_unlike 73 = .ok (.lstore 6, 2) := by decide +kernel
theorem dX8_unlike_75 : decode cX8_unlike 75 = .ok (.iconst 0, 1) := by decide +kernel
theorem dX8_unlike_76 : decode cX8_unlike 76 = .ok (.istore 8, 2) := by decide +kernel
theorem dX8_unlike_78 : decode cX8_unlike 78 = .ok (.iload 8, 2) := by decide +kernel
theorem dX8_unlike_80 : decode cX8_unlike 80 = .ok (.aload_n 0, 1) := by decide +kernel
theorem dX8_unlike_81 : decode cX8_unlike 81 = .ok (.getfield 7, 3) := by decide +kernel
theorem dX8_unlike_84 : decode cX8_unlike 84 = .ok (.if_icmp .ge 33, 3) := by decide +kernel
theorem dX8_unlike_87 : decode cX8_unlike 87 = .ok (.lload 6, 2) := by decide +kernel
theorem dX8_unlike_89 : decode cX8_unlike 89 = .ok (.lload 4, 2) := by decide +kernel
theorem dX8_unlike_91 : decode cX8_unlike 91 = .ok (.iload 8, 2) := by decide +kernel
theorem dX8_unlike_93 : decode cX8_unlike 93 = .ok (.i2l, 1) := by decide +kernel
theorem dX8_unlike_94 : decode cX8_unlike 94 = .ok (.lcmp, 1) := by decide +kernel
theorem dX8_unlike_95 : decode cX8_unlike 95 = .ok (.ifCond .le 12, 3) := by decide +kernel
theorem dX8_unlike_98 : decode cX8_unlike 98 = .ok (.lload 4, 2) := by decide +kernel
theorem dX8_unlike_100 : decode cX8_unlike 100 = .ok (.iload 8, 2) := by decide +kernel
theorem dX8_unlike_102 : decode cX8_unlike 102 = .ok (.i2l, 1) := by decide +kernel
theorem dX8_unlike_103 : decode cX8_unlike 103 = .ok (.lsub, 1) := by decide +kernel
theorem dX8_unlike_104 : decode cX8_unlike 104 = .ok (.goto 4, 3) := by decide +kernel
theorem dX8_unlike_107 : decode cX8_unlike 107 = .ok (.lconst 0, 1) := by decide +kernel
theorem dX8_unlike_108 : decode cX8_unlike 108 = .ok (.lmul, 1) := by decide +kernel
theorem dX8_unlike_109 : decode cX8_unlike 109 = .ok (.lstore 6, 2) := by decide +kernel
theorem dX8_unlike_111 : decode cX8_unlike 111 = .ok (.iinc 8 1, 3) := by decide +kernel
theorem dX8_unlike_114 : decode cX8_unlike 114 = .ok (.goto (-36), 3) := by decide +kernel
theorem dX8_unlike_117 : decode cX8_unlike 117 = .ok (.aload_n 0, 1) := by decide +kernel
theorem dX8_unlike_118 : decode cX8_unlike 118 = .ok (.lload 6, 2) := by decide +kernel
theorem dX8_unlike_120 : decode cX8_unlike 120 = .ok (.lload 4, 2) := by decide +kernel
theorem dX8_unlike_122 : decode cX8_unlike 122 = .ok (.aload_n 0, 1) := by decide +kernel
theorem dX8_unlike_123 : decode cX8_unlike 123 = .ok (.getfield 7, 3) := by decide +kernel
theorem dX8_unlike_126 : decode cX8_unlike 126 = .ok (.invokestatic 145, 3) := by decide +kernel
theorem dX8_unlike_129 : decode cX8_unlike 129 = .ok (.iload_n 3, 1) := by decide +kernel
theorem dX8_unlike_130 : decode cX8_unlike 130 = .ok (.invokevirtual 171, 3) := by decide +kernel
theorem dX8_unlike_133 : decode cX8_unlike 133 = .ok (.lreturn, 1) := by decide +kernel
theorem dX8_runs_0 : decode cX8_runs 0 = .ok (.iload_n 1, 1) := by decide +kernel
theorem dX8_runs_1 : decode cX8_runs 1 = .ok (.iconst 1, 1) := by decide +kernel
theorem dX8_runs_2 : decode cX8_runs 2 = .ok (.if_icmp .lt 11, 3) := by decide +kernel
theorem dX8_runs_5 : decode cX8_runs 5 = .ok (.iload_n 1, 1) := by decide +kernel
theorem dX8_runs_6 : decode cX8_runs 6 = .ok (.aload_n 0, 1) := by decide +kernel
theorem dX8_runs_7 : decode cX8_runs 7 = .ok (.getfield 7, 3) := by decide +kernel
theorem dX8_runs_10 : decode cX8_runs 10 = .ok (.if_icmp .le 7, 3) := by decide +kernel
theorem dX8_runs_13 : decode cX8_runs 13 = .ok (.ldc2_w 157, 3) := by decide +kernel
theorem dX8_runs_16 : decode cX8_runs 16 = .ok (.lreturn, 1) := by decide +kernel
theorem dX8_runs_17 : decode cX8_runs 17 = .ok (.iconst 1, 1) := by decide +kernel
theorem dX8_runs_18 : decode cX8_runs 18 = .ok (.istore_n 2, 1) := by decide +kernel
theorem dX8_runs_19 : decode cX8_runs 19 = .ok (.iload_n 2, 1) := by decide +kernel
theorem dX8_runs_20 : decode cX8_runs 20 = .ok (.iload_n 1, 1) := by decide +kernel
theorem dX8_runs_21 : decode cX8_runs 21 = .ok (.if_icmp .gt 61, 3) := by decide +kernel
theorem dX8_runs_24 : decode cX8_runs 24 = .ok (.iload_n 2, 1) := by decide +kernel
theorem dX8_runs_25 : decode cX8_runs 25 = .ok (.i2l, 1) := by decide +kernel
theorem dX8_runs_26 : decode cX8_runs 26 = .ok (.aload_n 0, 1) := by decide +kernel
theorem dX8_runs_27 : decode cX8_runs 27 = .ok (.getfield 7, 3) := by decide +kernel
theorem dX8_runs_30 : decode cX8_runs 30 = .ok (.invokestatic 145, 3) := by decide +kernel
theorem dX8_runs_33 : decode cX8_runs 33 = .ok (.lstore_n 3, 1) := by decide +kernel
theorem dX8_runs_34 : decode cX8_runs 34 = .ok (.iconst 1, 1) := by decide +kernel
theorem dX8_runs_35 : decode cX8_runs 35 = .ok (.istore 5, 2) := by decide +kernel
theorem dX8_runs_37 : decode cX8_runs 37 = .ok (.iload 5, 2) := by decide +kernel
theorem dX8_runs_39 : decode cX8_runs 39 = .ok (.iload_n 2, 1) := by decide +kernel
theorem dX8_runs_40 : decode cX8_runs 40 = .ok (.if_icmp .ge 29, 3) := by decide +kernel
theorem dX8_runs_43 : decode cX8_runs 43 = .ok (.lload_n 3, 1) := by decide +kernel
theorem dX8_runs_44 : decode cX8_runs 44 = .ok (.aload_n 0, 1) := by decide +kernel
theorem dX8_runs_45 : decode cX8_runs 45 = .ok (.getfield 54, 3) := by decide +kernel
theorem dX8_runs_48 : decode cX8_runs 48 = .ok (.iload 5, 2) := by decide +kernel
theorem dX8_runs_50 : decode cX8_runs 50 = .ok (.laload, 1) := by decide +kernel
theorem dX8_runs_51 : decode cX8_runs 51 = .ok (.aload_n 0, 1) := by decide +kernel
theorem dX8_runs_52 : decode cX8_runs 52 = .ok (.iload_n 2, 1) := by decide +kernel
theorem dX8_runs_53 : decode cX8_runs 53 = .ok (.iload 5, 2) := by decide +kernel
theorem dX8_runs_55 : decode cX8_runs 55 = .ok (.iconst 1, 1) := by decide +kernel
theorem dX8_runs_56 : decode cX8_runs 56 = .ok (.isub, 1) := by decide +kernel
theorem dX8_runs_57 : decode cX8_runs 57 = .ok (.invokevirtual 175, 3) := by decide +kernel
theorem dX8_runs_60 : decode cX8_runs 60 = .ok (.lmul, 1) := by decide +kernel
theorem dX8_runs_61 : decode cX8_runs 61 = .ok (.lsub, 1) := by decide +kernel
theorem dX8_runs_62 : decode cX8_runs 62 = .ok (.lstore_n 3, 1) := by decide +kernel
theorem dX8_runs_63 : decode cX8_runs 63 = .ok (.iinc 5 1, 3) := by decide +kernel
theorem dX8_runs_66 : decode cX8_runs 66 = .ok (.goto (-29), 3) := by decide +kernel
theorem dX8_runs_69 : decode cX8_runs 69 = .ok (.aload_n 0, 1) := by decide +kernel
theorem dX8_runs_70 : decode cX8_runs 70 = .ok (.getfield 54, 3) := by decide +kernel
theorem dX8_runs_73 : decode cX8_runs 73 = .ok (.iload_n 2, 1) := by decide +kernel
theorem dX8_runs_74 : decode cX8_runs 74 = .ok (.lload_n 3, 1) := by decide +kernel
theorem dX8_runs_75 : decode cX8_runs 75 = .ok (.lastore, 1) := by decide +kernel
theorem dX8_runs_76 : decode cX8_runs 76 = .ok (.iinc 2 1, 3) := by decide +kernel
theorem dX8_runs_79 : decode cX8_runs 79 = .ok (.goto (-60), 3) := by decide +kernel
theorem dX8_runs_82 : decode cX8_runs 82 = .ok (.aload_n 0, 1) := by decide +kernel
theorem dX8_runs_83 : decode cX8_runs 83 = .ok (.getfield 54, 3) := by decide +kernel
theorem dX8_runs_86 : decode cX8_runs 86 = .ok (.iload_n 1, 1) := by decide +kernel
theorem dX8_runs_87 : decode cX8_runs 87 = .ok (.laload, 1) := by decide +kernel
theorem dX8_runs_88 : decode cX8_runs 88 = .ok (.lreturn, 1) := by decide +kernel
theorem dX8_fars_0 : decode cX8_fars 0 = .ok (.iconst 0, 1) := by decide +kernel
theorem dX8_fars_1 : decode cX8_fars 1 = .ok (.istore_n 2, 1) := by decide +kernel
theorem dX8_fars_2 : decode cX8_fars 2 = .ok (.iload_n 2, 1) := by decide +kernel
theorem dX8_fars_3 : decode cX8_fars 3 = .ok (.aload_n 0, 1) := by decide +kernel
theorem dX8_fars_4 : decode cX8_fars 4 = .ok (.getfield 7, 3) := by decide +kernel
theorem dX8_fars_7 : decode cX8_fars 7 = .ok (.if_icmp .ge 25, 3) := by decide +kernel
theorem dX8_fars_10 : decode cX8_fars 10 = .ok (.aload_n 0, 1) := by decide +kernel
theorem dX8_fars_11 : decode cX8_fars 11 = .ok (.getfield 45, 3) := by decide +kernel
theorem dX8_fars_14 : decode cX8_fars 14 = .ok (.iload_n 2, 1) := by decide +kernel
theorem dX8_fars_15 : decode cX8_fars 15 = .ok (.iload_n 2, 1) := by decide +kernel
theorem dX8_fars_16 : decode cX8_fars 16 = .ok (.iload_n 1, 1) := by decide +kernel
theorem dX8_fars_17 : decode cX8_fars 17 = .ok (.if_icmp .ne 7, 3) := by decide +kernel
theorem dX8_fars_20 : decode cX8_fars 20 = .ok (.iconst 0, 1) := by decide +kernel
theorem dX8_fars_21 : decode cX8_fars 21 = .ok (.goto 4, 3) := by decide +kernel
theorem dX8_fars_24 : decode cX8_fars 24 = .ok (.iconst (-1), 1) := by decide +kernel
theorem dX8_fars_25 : decode cX8_fars 25 = .ok (.iastore, 1) := by decide +kernel
theorem dX8_fars_26 : decode cX8_fars 26 = .ok (.iinc 2 1, 3) := by decide +kernel
theorem dX8_fars_29 : decode cX8_fars 29 = .ok (.goto (-27), 3) := by decide +kernel
theorem dX8_fars_32 : decode cX8_fars 32 = .ok (.iconst 1, 1) := by decide +kernel
theorem dX8_fars_33 : decode cX8_fars 33 = .ok (.istore_n 2, 1) := by decide +kernel
theorem dX8_fars_34 : decode cX8_fars 34 = .ok (.iconst 0, 1) := by decide +kernel
theorem dX8_fars_35 : decode cX8_fars 35 = .ok (.istore_n 3, 1) := by decide +kernel
theorem dX8_fars_36 : decode cX8_fars 36 = .ok (.iload_n 2, 1) := by decide +kernel
theorem dX8_fars_37 : decode cX8_fars 37 = .ok (.ifCond .eq 84, 3) := by decide +kernel
theorem dX8_fars_40 : decode cX8_fars 40 = .ok (.iconst 0, 1) := by decide +kernel
theorem dX8_fars_41 : decode cX8_fars 41 = .ok (.istore_n 2, 1) := by decide +kernel
theorem dX8_fars_42 : decode cX8_fars 42 = .ok (.iconst 0, 1) := by decide +kernel
theorem dX8_fars_43 : decode cX8_fars 43 = .ok (.istore 4, 2) := by decide +kernel
theorem dX8_fars_45 : decode cX8_fars 45 = .ok (.iload 4, 2) := by decide +kernel
theorem dX8_fars_47 : decode cX8_fars 47 = .ok (.aload_n 0, 1) := by decide +kernel
theorem dX8_fars_48 : decode cX8_fars 48 = .ok (.getfield 7, 3) := by decide +kernel
theorem dX8_fars_51 : decode cX8_fars 51 = .ok (.if_icmp .ge 64, 3) := by decide +kernel
theorem dX8_fars_54 : decode cX8_fars 54 = .ok (.aload_n 0, 1) := by decide +kernel
theorem dX8_fars_55 : decode cX8_fars 55 = .ok (.getfield 45, 3) := by decide +kernel
theorem dX8_fars_58 : decode cX8_fars 58 = .ok (.iload 4, 2) := by decide +kernel
theorem dX8_fars_60 : decode cX8_fars 60 = .ok (.iaload, 1) := by decide +kernel
theorem dX8_fars_61 : decode cX8_fars 61 = .ok (.iconst (-1), 1) := by decide +kernel
theorem dX8_fars_62 : decode cX8_fars 62 = .ok (.if_icmp .ne 47, 3) := by decide +kernel
theorem dX8_fars_65 : decode cX8_fars 65 = .ok (.aload_n 0, 1) := by decide +kernel
theorem dX8_fars_66 : decode cX8_fars 66 = .ok (.getfield 45, 3) := by decide +kernel
theorem dX8_fars_69 : decode cX8_fars 69 = .ok (.aload_n 0, 1) := by decide +kernel
theorem dX8_fars_70 : decode cX8_fars 70 = .ok (.iconst 0, 1) := by decide +kernel
theorem dX8_fars_71 : decode cX8_fars 71 = .ok (.iload 4, 2) := by decide +kernel
theorem dX8_fars_73 : decode cX8_fars 73 = .ok (.invokevirtual 120, 3) := by decide +kernel
theorem dX8_fars_76 : decode cX8_fars 76 = .ok (.iaload, 1) := by decide +kernel
theorem dX8_fars_77 : decode cX8_fars 77 = .ok (.iload_n 3, 1) := by decide +kernel
theorem dX8_fars_78 : decode cX8_fars 78 = .ok (.if_icmp .eq 19, 3) := by decide +kernel
theorem dX8_fars_81 : decode cX8_fars 81 = .ok (.aload_n 0, 1) := by decide +kernel
theorem dX8_fars_82 : decode cX8_fars 82 = .ok (.getfield 45, 3) := by decide +kernel
theorem dX8_fars_85 : decode cX8_fars 85 = .ok (.aload_n 0, 1) := by decide +kernel
theorem dX8_fars_86 : decode cX8_fars 86 = .ok (.iconst 1, 1) := by decide +kernel
theorem dX8_fars_87 : decode cX8_fars 87 = .ok (.iload 4, 2) := by decide +kernel
theorem dX8_fars_89 : decode cX8_fars 89 = .ok (.invokevirtual 120, 3) := by decide +kernel
theorem dX8_fars_92 : decode cX8_fars 92 = .ok (.iaload, 1) := by decide +kernel
theorem dX8_fars_93 : decode cX8_fars 93 = .ok (.iload_n 3, 1) := by decide +kernel
theorem dX8_fars_94 : decode cX8_fars 94 = .ok (.if_icmp .ne 15, 3) := by decide +kernel
theorem dX8_fars_97 : decode cX8_fars 97 = .ok (.aload_n 0, 1) := by decide +kernel
theorem dX8_fars_98 : decode cX8_fars 98 = .ok (.getfield 45, 3) := by decide +kernel
theorem dX8_fars_101 : decode cX8_fars 101 = .ok (.iload 4, 2) := by decide +kernel
theorem dX8_fars_103 : decode cX8_fars 103 = .ok (.iload_n 3, 1) := by decide +kernel
theorem dX8_fars_104 : decode cX8_fars 104 = .ok (.iconst 1, 1) := by decide +kernel
theorem dX8_fars_105 : decode cX8_fars 105 = .ok (.iadd, 1) := by decide +kernel
theorem dX8_fars_106 : decode cX8_fars 106 = .ok (.iastore, 1) := by decide +kernel
theorem dX8_fars_107 : decode cX8_fars 107 = .ok (.iconst 1, 1) := by decide +kernel
theorem dX8_fars_108 : decode cX8_fars 108 = .ok (.istore_n 2, 1) := by decide +kernel
theorem dX8_fars_109 : decode cX8_fars 109 = .ok (.iinc 4 1, 3) := by decide +kernel
theorem dX8_fars_112 : decode cX8_fars 112 = .ok (.goto (-67), 3) := by decide +kernel
theorem dX8_fars_115 : decode cX8_fars 115 = .ok (.iinc 3 1, 3) := by decide +kernel
theorem dX8_fars_118 : decode cX8_fars 118 = .ok (.goto (-82), 3) := by decide +kernel
theorem dX8_fars_121 : decode cX8_fars 121 = .ok (.return_, 1) := by decide +kernel
theorem dX8_leads_0 : decode cX8_leads 0 = .ok (.aload_n 0, 1) := by decide +kernel
theorem dX8_leads_1 : decode cX8_leads 1 = .ok (.iload_n 1, 1) := by decide +kernel
theorem dX8_leads_2 : decode cX8_leads 2 = .ok (.invokevirtual 98, 3) := by decide +kernel
theorem dX8_leads_5 : decode cX8_leads 5 = .ok (.ifCond .eq 11, 3) := by decide +kernel
theorem dX8_leads_8 : decode cX8_leads 8 = .ok (.aload_n 0, 1) := by decide +kernel
theorem dX8_leads_9 : decode cX8_leads 9 = .ok (.iload_n 2, 1) := by decide +kernel
theorem dX8_leads_10 : decode cX8_leads 10 = .ok (.invokevirtual 98, 3) := by decide +kernel
theorem dX8_leads_13 : decode cX8_leads 13 = .ok (.ifCond .ne 6, 3) := by decide +kernel
theorem dX8_leads_16 : decode cX8_leads 16 = .ok (.bipush (-2), 2) := by decide +kernel
theorem dX8_leads_18 : decode cX8_leads 18 = .ok (.ireturn, 1) := by decide +kernel
theorem dX8_leads_19 : decode cX8_leads 19 = .ok (.aload_n 0, 1) := by decide +kernel
theorem dX8_leads_20 : decode cX8_leads 20 = .ok (.getfield 7, 3) := by decide +kernel
theorem dX8_leads_23 : decode cX8_leads 23 = .ok (.iconst 2, 1) := by decide +kernel
theorem dX8_leads_24 : decode cX8_leads 24 = .ok (.irem, 1) := by decide +kernel
theorem dX8_leads_25 : decode cX8_leads 25 = .ok (.iconst 1, 1) := by decide +kernel
theorem dX8_leads_26 : decode cX8_leads 26 = .ok (.if_icmp .ne 6, 3) := by decide +kernel
theorem dX8_leads_29 : decode cX8_leads 29 = .ok (.bipush (-3), 2) := by decide +kernel
theorem dX8_leads_31 : decode cX8_leads 31 = .ok (.ireturn, 1) := by decide +kernel
theorem dX8_leads_32 : decode cX8_leads 32 = .ok (.aload_n 0, 1) := by decide +kernel
theorem dX8_leads_33 : decode cX8_leads 33 = .ok (.iload_n 2, 1) := by decide +kernel
theorem dX8_leads_34 : decode cX8_leads 34 = .ok (.invokevirtual 189, 3) := by decide +kernel
theorem dX8_leads_37 : decode cX8_leads 37 = .ok (.aload_n 0, 1) := by decide +kernel
theorem dX8_leads_38 : decode cX8_leads 38 = .ok (.getfield 45, 3) := by decide +kernel
theorem dX8_leads_41 : decode cX8_leads 41 = .ok (.iload_n 1, 1) := by decide +kernel
theorem dX8_leads_42 : decode cX8_leads 42 = .ok (.iaload, 1) := by decide +kernel
theorem dX8_leads_43 : decode cX8_leads 43 = .ok (.ireturn, 1) := by decide +kernel
theorem dX8_lead_0 : decode cX8_lead 0 = .ok (.aload_n 0, 1) := by decide +kernel
theorem dX8_lead_1 : decode cX8_lead 1 = .ok (.iload_n 1, 1) := by decide +kernel
theorem dX8_lead_2 : decode cX8_lead 2 = .ok (.invokevirtual 98, 3) := by decide +kernel
theorem dX8_lead_5 : decode cX8_lead 5 = .ok (.ifCond .eq 11, 3) := by decide +kernel
theorem dX8_lead_8 : decode cX8_lead 8 = .ok (.aload_n 0, 1) := by decide +kernel
theorem dX8_lead_9 : decode cX8_lead 9 = .ok (.iload_n 2, 1) := by decide +kernel
theorem dX8_lead_10 : decode cX8_lead 10 = .ok (.invokevirtual 98, 3) := by decide +kernel
theorem dX8_lead_13 : decode cX8_lead 13 = .ok (.ifCond .ne 6, 3) := by decide +kernel
theorem dX8_lead_16 : decode cX8_lead 16 = .ok (.bipush (-2), 2) := by decide +kernel
theorem dX8_lead_18 : decode cX8_lead 18 = .ok (.ireturn, 1) := by decide +kernel
theorem dX8_lead_19 : decode cX8_lead 19 = .ok (.aload_n 0, 1) := by decide +kernel
theorem dX8_lead_20 : decode cX8_lead 20 = .ok (.getfield 7, 3) := by decide +kernel
theorem dX8_lead_23 : decode cX8_lead 23 = .ok (.iconst 2, 1) := by decide +kernel
theorem dX8_lead_24 : decode cX8_lead 24 = .ok (.irem, 1) := by decide +kernel
theorem dX8_lead_25 : decode cX8_lead 25 = .ok (.iconst 1, 1) := by decide +kernel
theorem dX8_lead_26 : decode cX8_lead 26 = .ok (.if_icmp .ne 6, 3) := by decide +kernel
theorem dX8_lead_29 : decode cX8_lead 29 = .ok (.bipush (-3), 2) := by decide +kernel
theorem dX8_lead_31 : decode cX8_lead 31 = .ok (.ireturn, 1) := by decide +kernel
theorem dX8_lead_32 : decode cX8_lead 32 = .ok (.aload_n 0, 1) := by decide +kernel
theorem dX8_lead_33 : decode cX8_lead 33 = .ok (.iload_n 2, 1) := by decide +kernel
theorem dX8_lead_34 : decode cX8_lead 34 = .ok (.invokevirtual 189, 3) := by decide +kernel
theorem dX8_lead_37 : decode cX8_lead 37 = .ok (.iload_n 1, 1) := by decide +kernel
theorem dX8_lead_38 : decode cX8_lead 38 = .ok (.istore 4, 2) := by decide +kernel
theorem dX8_lead_40 : decode cX8_lead 40 = .ok (.iconst 0, 1) := by decide +kernel
theorem dX8_lead_41 : decode cX8_lead 41 = .ok (.istore 5, 2) := by decide +kernel
theorem dX8_lead_43 : decode cX8_lead 43 = .ok (.aload_n 0, 1) := by decide +kernel
theorem dX8_lead_44 : decode cX8_lead 44 = .ok (.getfield 45, 3) := by decide +kernel
theorem dX8_lead_47 : decode cX8_lead 47 = .ok (.iload 4, 2) := by decide +kernel
theorem dX8_lead_49 : decode cX8_lead 49 = .ok (.iaload, 1) := by decide +kernel
theorem dX8_lead_50 : decode cX8_lead 50 = .ok (.ifCond .le 59, 3) := by decide +kernel
theorem dX8_lead_53 : decode cX8_lead 53 = .ok (.aload_n 0, 1) := by decide +kernel
theorem dX8_lead_54 : decode cX8_lead 54 = .ok (.getfield 45, 3) := by decide +kernel
theorem dX8_lead_57 : decode cX8_lead 57 = .ok (.aload_n 0, 1) := by decide +kernel
theorem dX8_lead_58 : decode cX8_lead 58 = .ok (.iconst 0, 1) := by decide +kernel
theorem dX8_lead_59 : decode cX8_lead 59 = .ok (.iload 4, 2) := by decide +kernel
theorem dX8_lead_61 : decode cX8_lead 61 = .ok (.invokevirtual 120, 3) := by decide +kernel
theorem dX8_lead_64 : decode cX8_lead 64 = .ok (.iaload, 1) := by decide +kernel
theorem dX8_lead_65 : decode cX8_lead 65 = .ok (.aload_n 0, 1) := by decide +kernel
theorem dX8_lead_66 : decode cX8_lead 66 = .ok (.getfield 45, 3) := by decide +kernel
theorem dX8_lead_69 : decode cX8_lead 69 = .ok (.iload 4, 2) := by decide +kernel
theorem dX8_lead_71 : decode cX8_lead 71 = .ok (.iaload, 1) := by decide +kernel
theorem dX8_lead_72 : decode cX8_lead 72 = .ok (.iconst 1, 1) := by decide +kernel
theorem dX8_lead_73 : decode cX8_lead 73 = .ok (.isub, 1) := by decide +kernel
theorem dX8_lead_74 : decode cX8_lead 74 = .ok (.if_icmp .ne 7, 3) := by decide +kernel
theorem dX8_lead_77 : decode cX8_lead 77 = .ok (.iconst 0, 1) := by decide +kernel
theorem dX8_lead_78 : decode cX8_lead 78 = .ok (.goto 4, 3) := by decide +kernel
theorem dX8_lead_81 : decode cX8_lead 81 = .ok (.iconst 1, 1) := by decide +kernel
theorem dX8_lead_82 : decode cX8_lead 82 = .ok (.istore 6, 2) := by decide +kernel
theorem dX8_lead_84 : decode cX8_lead 84 = .ok (.iload 5, 2) := by decide +kernel
theorem dX8_lead_86 : decode cX8_lead 86 = .ok (.iload_n 3, 1) := by decide +kernel
theorem dX8_lead_87 : decode cX8_lead 87 = .ok (.if_icmp .ne 6, 3) := by decide +kernel
theorem dX8_lead_90 : decode cX8_lead 90 = .ok (.iload 6, 2) := by decide +kernel
theorem dX8_lead_92 : decode cX8_lead 92 = .ok (.ireturn, 1) := by decide +kernel
theorem dX8_lead_93 : decode cX8_lead 93 = .ok (.aload_n 0, 1) := by decide +kernel
theorem dX8_lead_94 : decode cX8_lead 94 = .ok (.iload 6, 2) := by decide +kernel
theorem dX8_lead_96 : decode cX8_lead 96 = .ok (.iload 4, 2) := by decide +kernel
theorem dX8_lead_98 : decode cX8_lead 98 = .ok (.invokevirtual 120, 3) := by decide +kernel
theorem dX8_lead_101 : decode cX8_lead 101 = .ok (.istore 4, 2) := by decide +kernel
theorem dX8_lead_103 : decode cX8_lead 103 = .ok (.iinc 5 1, 3) := by decide +kernel
theorem dX8_lead_106 : decode cX8_lead 106 = .ok (.goto (-63), 3) := by decide +kernel
theorem dX8_lead_109 : decode cX8_lead 109 = .ok (.iconst (-1), 1) := by decide +kernel
theorem dX8_lead_110 : decode cX8_lead 110 = .ok (.ireturn, 1) := by decide +kernel
theorem dX8_packed_0 : decode cX8_packed 0 = .ok (.lconst 0, 1) := by decide +kernel
theorem dX8_packed_1 : decode cX8_packed 1 = .ok (.lstore_n 1, 1) := by decide +kernel
theorem dX8_packed_2 : decode cX8_packed 2 = .ok (.iconst 0, 1) := by decide +kernel
theorem dX8_packed_3 : decode cX8_packed 3 = .ok (.istore_n 3, 1) := by decide +kernel
theorem dX8_packed_4 : decode cX8_packed 4 = .ok (.iload_n 3, 1) := by decide +kernel
theorem dX8_packed_5 : decode cX8_packed 5 = .ok (.aload_n 0, 1) := by decide +kernel
theorem dX8_packed_6 : decode cX8_packed 6 = .ok (.getfield 7, 3) := by decide +kernel
theorem dX8_packed_9 : decode cX8_packed 9 = .ok (.if_icmp .ge 21, 3) := by decide +kernel
theorem dX8_packed_12 : decode cX8_packed 12 = .ok (.lload_n 1, 1) := by decide +kernel
theorem dX8_packed_13 : decode cX8_packed 13 = .ok (.iconst 4, 1) := by decide +kernel
theorem dX8_packed_14 : decode cX8_packed 14 = .ok (.lshl, 1) := by decide +kernel
theorem dX8_packed_15 : decode cX8_packed 15 = .ok (.aload_n 0, 1) := by decide +kernel
theorem dX8_packed_16 : decode cX8_packed 16 = .ok (.getfield 26, 3) := by decide +kernel
theorem dX8_packed_19 : decode cX8_packed 19 = .ok (.iload_n 3, 1) := by decide +kernel
theorem dX8_packed_20 : decode cX8_packed 20 = .ok (.iaload, 1) := by decide +kernel
theorem dX8_packed_21 : decode cX8_packed 21 = .ok (.i2l, 1) := by decide +kernel
theorem dX8_packed_22 : decode cX8_packed 22 = .ok (.lor, 1) := by decide +kernel
theorem dX8_packed_23 : decode cX8_packed 23 = .ok (.lstore_n 1, 1) := by decide +kernel
theorem dX8_packed_24 : decode cX8_packed 24 = .ok (.iinc 3 1, 3) := by decide +kernel
theorem dX8_packed_27 : decode cX8_packed 27 = .ok (.goto (-23), 3) := by decide +kernel
theorem dX8_packed_30 : decode cX8_packed 30 = .ok (.lload_n 1, 1) := by decide +kernel
theorem dX8_packed_31 : decode cX8_packed 31 = .ok (.lreturn, 1) := by decide +kernel
theorem dX8_group_0 : decode cX8_group 0 = .ok (.aload_n 0, 1) := by decide +kernel
theorem dX8_group_1 : decode cX8_group 1 = .ok (.getfield 7, 3) := by decide +kernel
theorem dX8_group_4 : decode cX8_group 4 = .ok (.iconst 2, 1) := by decide +kernel
theorem dX8_group_5 : decode cX8_group 5 = .ok (.irem, 1) := by decide +kernel
theorem dX8_group_6 : decode cX8_group 6 = .ok (.iconst 1, 1) := by decide +kernel
theorem dX8_group_7 : decode cX8_group 7 = .ok (.if_icmp .ne 6, 3) := by decide +kernel
theorem dX8_group_10 : decode cX8_group 10 = .ok (.bipush (-3), 2) := by decide +kernel
theorem dX8_group_12 : decode cX8_group 12 = .ok (.ireturn, 1) := by decide +kernel
theorem dX8_group_13 : decode cX8_group 13 = .ok (.aload_n 0, 1) := by decide +kernel
theorem dX8_group_14 : decode cX8_group 14 = .ok (.getfield 48, 3) := by decide +kernel
theorem dX8_group_17 : decode cX8_group 17 = .ok (.aload_n 0, 1) := by decide +kernel
theorem dX8_group_18 : decode cX8_group 18 = .ok (.getfield 7, 3) := by decide +kernel
theorem dX8_group_21 : decode cX8_group 21 = .ok (.iaload, 1) := by decide +kernel
theorem dX8_group_22 : decode cX8_group 22 = .ok (.ifCond .ne 16, 3) := by decide +kernel
theorem dX8_group_25 : decode cX8_group 25 = .ok (.aload_n 0, 1) := by decide +kernel
theorem dX8_group_26 : decode cX8_group 26 = .ok (.getfield 48, 3) := by decide +kernel
theorem dX8_group_29 : decode cX8_group 29 = .ok (.aload_n 0, 1) := by decide +kernel
theorem dX8_group_30 : decode cX8_group 30 = .ok (.getfield 7, 3) := by decide +kernel
theorem dX8_group_33 : decode cX8_group 33 = .ok (.aload_n 0, 1) := by decide +kernel
theorem dX8_group_34 : decode cX8_group 34 = .ok (.invokevirtual 192, 3) := by decide +kernel
theorem dX8_group_37 : decode cX8_group 37 = .ok (.iastore, 1) := by decide +kernel
theorem dX8_group_38 : decode cX8_group 38 = .ok (.aload_n 0, 1) := by decide +kernel
theorem dX8_group_39 : decode cX8_group 39 = .ok (.getfield 48, 3) := by decide +kernel
theorem dX8_group_42 : decode cX8_group 42 = .ok (.aload_n 0, 1) := by decide +kernel
theorem dX8_group_43 : decode cX8_group 43 = .ok (.getfield 7, 3) := by decide +kernel
theorem dX8_group_46 : decode cX8_group 46 = .ok (.iaload, 1) := by decide +kernel
theorem dX8_group_47 : decode cX8_group 47 = .ok (.ireturn, 1) := by decide +kernel
theorem dX8_orbit_0 : decode cX8_orbit 0 = .ok (.iconst 0, 1) := by decide +kernel
theorem dX8_orbit_1 : decode cX8_orbit 1 = .ok (.istore_n 1, 1) := by decide +kernel
theorem dX8_orbit_2 : decode cX8_orbit 2 = .ok (.iload_n 1, 1) := by decide +kernel
theorem dX8_orbit_3 : decode cX8_orbit 3 = .ok (.aload_n 0, 1) := by decide +kernel
theorem dX8_orbit_4 : decode cX8_orbit 4 = .ok (.getfield 7, 3) := by decide +kernel
theorem dX8_orbit_7 : decode cX8_orbit 7 = .ok (.if_icmp .ge 16, 3) := by decide +kernel
theorem dX8_orbit_10 : decode cX8_orbit 10 = .ok (.aload_n 0, 1) := by decide +kernel
theorem dX8_orbit_11 : decode cX8_orbit 11 = .ok (.getfield 26, 3) := by decide +kernel
theorem dX8_orbit_14 : decode cX8_orbit 14 = .ok (.iload_n 1, 1) := by decide +kernel
theorem dX8_orbit_15 : decode cX8_orbit 15 = .ok (.iload_n 1, 1) := by decide +kernel
theorem dX8_orbit_16 : decode cX8_orbit 16 = .ok (.iastore, 1) := by decide +kernel
theorem dX8_orbit_17 : decode cX8_orbit 17 = .ok (.iinc 1 1, 3) := by decide +kernel
theorem dX8_orbit_20 : decode cX8_orbit 20 = .ok (.goto (-18), 3) := by decide +kernel
theorem dX8_orbit_23 : decode cX8_orbit 23 = .ok (.iconst 1, 1) := by decide +kernel
theorem dX8_orbit_24 : decode cX8_orbit 24 = .ok (.istore_n 1, 1) := by decide +kernel
theorem dX8_orbit_25 : decode cX8_orbit 25 = .ok (.aload_n 0, 1) := by decide +kernel
theorem dX8_orbit_26 : decode cX8_orbit 26 = .ok (.getfield 51, 3) := by decide +kernel
theorem dX8_orbit_29 : decode cX8_orbit 29 = .ok (.iconst 0, 1) := by decide +kernel
theorem dX8_orbit_30 : decode cX8_orbit 30 = .ok (.aload_n 0, 1) := by decide +kernel
theorem dX8_orbit_31 : decode cX8_orbit 31 = .ok (.invokevirtual 195, 3) := by decide +kernel
theorem dX8_orbit_34 : decode cX8_orbit 34 = .ok (.lastore, 1) := by decide +kernel
theorem dX8_orbit_35 : decode cX8_orbit 35 = .ok (.iconst 1, 1) := by decide +kernel
theorem dX8_orbit_36 : decode cX8_orbit 36 = .ok (.istore_n 2, 1) := by decide +kernel
theorem dX8_orbit_37 : decode cX8_orbit 37 = .ok (.iload_n 2, 1) := by decide +kernel
theorem dX8_orbit_38 : decode cX8_orbit 38 = .ok (.ifCond .eq 144, 3) := by decide +kernel
theorem dX8_orbit_41 : decode cX8_orbit 41 = .ok (.iconst 0, 1) := by decide +kernel
theorem dX8_orbit_42 : decode cX8_orbit 42 = .ok (.istore_n 2, 1) := by decide +kernel
theorem dX8_orbit_43 : decode cX8_orbit 43 = .ok (.iload_n 1, 1) := by decide +kernel
theorem dX8_orbit_44 : decode cX8_orbit 44 = .ok (.istore_n 3, 1) := by decide +kernel
theorem dX8_orbit_45 : decode cX8_orbit 45 = .ok (.iconst 0, 1) := by decide +kernel
theorem dX8_orbit_46 : decode cX8_orbit 46 = .ok (.istore 4, 2) := by decide +kernel
theorem dX8_orbit_48 : decode cX8_orbit 48 = .ok (.iload 4, 2) := by decide +kernel
theorem dX8_orbit_50 : decode cX8_orbit 50 = .ok (.iload_n 3, 1) := by decide +kernel
theorem dX8_orbit_51 : decode cX8_orbit 51 = .ok (.if_icmp .ge 123, 3) := by decide +kernel
theorem dX8_orbit_54 : decode cX8_orbit 54 = .ok (.aload_n 0, 1) := by decide +kernel
theorem dX8_orbit_55 : decode cX8_orbit 55 = .ok (.getfield 51, 3) := by decide +kernel
theorem dX8_orbit_58 : decode cX8_orbit 58 = .ok (.iload 4, 2) := by decide +kernel
theorem dX8_orbit_60 : decode cX8_orbit 60 = .ok (.laload, 1) := by decide +kernel
theorem dX8_orbit_61 : decode cX8_orbit 61 = .ok (.lstore 5, 2) := by decide +kernel
theorem dX8_orbit_63 : decode cX8_orbit 63 = .ok (.iconst 0, 1) := by decide +kernel
theorem dX8_orbit_64 : decode cX8_orbit 64 = .ok (.istore 7, 2) := by decide +kernel
theorem dX8_orbit_66 : decode cX8_orbit 66 = .ok (.iload 7, 2) := by decide +kernel
theorem dX8_orbit_68 : decode cX8_orbit 68 = .ok (.iconst 2, 1) := by decide +kernel
theorem dX8_orbit_69 : decode cX8_orbit 69 = .ok (.if_icmp .ge 99, 3) := by decide +kernel
theorem dX8_orbit_72 : decode cX8_orbit 72 = .ok (.iconst 0, 1) := by decide +kernel
theorem dX8_orbit_73 : decode cX8_orbit 73 = .ok (.istore 8, 2) := by decide +kernel
theorem dX8_orbit_75 : decode cX8_orbit 75 = .ok (.iload 8, 2) := by decide +kernel
theorem dX8_orbit_77 : decode cX8_orbit 77 = .ok (.aload_n 0, 1) := by decide +kernel
theorem dX8_orbit_78 : decode cX8_orbit 78 = .ok (.getfield 7, 3) := by decide +kernel
theorem dX8_orbit_81 : decode cX8_orbit 81 = .ok (.if_icmp .ge 41, 3) := by decide +kernel
theorem dX8_orbit_84 : decode cX8_orbit 84 = .ok (.aload_n 0, 1) := by decide +kernel
theorem dX8_orbit_85 : decode cX8_orbit 85 = .ok (.getfield 26, 3) := by decide +kernel
theorem dX8_orbit_88 : decode cX8_orbit 88 = .ok (.aload_n 0, 1) := by decide +kernel
theorem dX8_orbit_89 : decode cX8_orbit 89 = .ok (.iload 7, 2) := by decide +kernel
theorem dX8_orbit_91 : decode cX8_orbit 91 = .ok (.iload 8, 2) := by decide +kernel
theorem dX8_orbit_93 : decode cX8_orbit 93 = .ok (.invokevirtual 120, 3) := by decide +kernel
theorem dX8_orbit_96 : decode cX8_orbit 96 = .ok (.lload 5, 2) := by decide +kernel
theorem dX8_orbit_98 : decode cX8_orbit 98 = .ok (.iconst 4, 1) := by decide +kernel
theorem dX8_orbit_99 : decode cX8_orbit 99 = .ok (.aload_n 0, 1) := by decide +kernel
theorem dX8_orbit_100 : decode cX8_orbit 100 = .ok (.getfield 7, 3) := by decide +kernel
theorem dX8_orbit_103 : decode cX8_orbit 103 = .ok (.iconst 1, 1) := by decide +kernel
theorem dX8_orbit_104 : decode cX8_orbit 104 = .ok (.isub, 1) := by decide +kernel
theorem dX8_orbit_105 : decode cX8_orbit 105 = .ok (.iload 8, 2) := by decide +kernel
theorem dX8_orbit_107 : decode cX8_orbit 107 = .ok (.isub, 1) := by decide +kernel
theorem dX8_orbit_108 : decode cX8_orbit 108 = .ok (.imul, 1) := by decide +kernel
theorem dX8_orbit_109 : decode cX8_orbit 109 = .ok (.lshr, 1) := by decide +kernel
theorem dX8_orbit_110 : decode cX8_orbit 110 = .ok (.ldc2_w 199, 3) := by decide +kernel
theorem dX8_orbit_113 : decode cX8_orbit 113 = .ok (.land, 1) := by decide +kernel
theorem dX8_orbit_114 : decode cX8_orbit 114 = .ok (.l2i, 1) := by decide +kernel
theorem dX8_orbit_115 : decode cX8_orbit 115 = .ok (.iastore, 1) := by decide +kernel
theorem dX8_orbit_116 : decode cX8_orbit 116 = .ok (.iinc 8 1, 3) := by decide +kernel
theorem dX8_orbit_119 : decode cX8_orbit 119 = .ok (.goto (-44), 3) := by decide +kernel
theorem dX8_orbit_122 : decode cX8_orbit 122 = .ok (.aload_n 0, 1) := by decide +kernel
theorem dX8_orbit_123 : decode cX8_orbit 123 = .ok (.invokevirtual 195, 3) := by decide +kernel
theorem dX8_orbit_126 : decode cX8_orbit 126 = .ok (.lstore 8, 2) := by decide +kernel
theorem dX8_orbit_128 : decode cX8_orbit 128 = .ok (.aload_n 0, 1) := by decide +kernel
theorem dX8_orbit_129 : decode cX8_orbit 129 = .ok (.lload 8, 2) := by decide +kernel
theorem dX8_orbit_131 : decode cX8_orbit 131 = .ok (.iload_n 3, 1) := by decide +kernel
theorem dX8_orbit_132 : decode cX8_orbit 132 = .ok (.invokevirtual 201, 3) := by decide +kernel
theorem dX8_orbit_135 : decode cX8_orbit 135 = .ok (.ifCond .ne 27, 3) := by decide +kernel
theorem dX8_orbit_138 : decode cX8_orbit 138 = .ok (.aload_n 0, 1) := by decide +kernel
theorem dX8_orbit_139 : decode cX8_orbit 139 = .ok (.lload 8, 2) := by decide +kernel
theorem dX8_orbit_141 : decode cX8_orbit 141 = .ok (.iload_n 3, 1) := by decide +kernel
theorem dX8_orbit_142 : decode cX8_orbit 142 = .ok (.iload_n 1, 1) := by decide +kernel
theorem dX8_orbit_143 : decode cX8_orbit 143 = .ok (.invokevirtual 205, 3) := by decide +kernel
theorem dX8_orbit_146 : decode cX8_orbit 146 = .ok (.ifCond .ne 16, 3) := by decide +kernel
theorem dX8_orbit_149 : decode cX8_orbit 149 = .ok (.aload_n 0, 1) := by decide +kernel
theorem dX8_orbit_150 : decode cX8_orbit 150 = .ok (.getfield 51, 3) := by decide +kernel
theorem dX8_orbit_153 : decode cX8_orbit 153 = .ok (.iload_n 1, 1) := by decide +kernel
theorem dX8_orbit_154 : decode cX8_orbit 154 = .ok (.iinc 1 1, 3) := by decide +kernel
theorem dX8_orbit_157 : decode cX8_orbit 157 = .ok (.lload 8, 2) := by decide +kernel
theorem dX8_orbit_159 : decode cX8_orbit 159 = .ok (.lastore, 1) := by decide +kernel
theorem dX8_orbit_160 : decode cX8_orbit 160 = .ok (.iconst 1, 1) := by decide +kernel
theorem dX8_orbit_161 : decode cX8_orbit 161 = .ok (.istore_n 2, 1) := by decide +kernel
theorem dX8_orbit_162 : decode cX8_orbit 162 = .ok (.iinc 7 1, 3) := by decide +kernel
theorem dX8_orbit_165 : decode cX8_orbit 165 = .ok (.goto (-99), 3) := by decide +kernel
theorem dX8_orbit_168 : decode cX8_orbit 168 = .ok (.iinc 4 1, 3) := by decide +kernel
theorem dX8_orbit_171 : decode cX8_orbit 171 = .ok (.goto (-123), 3) := by decide +kernel
theorem dX8_orbit_174 : decode cX8_orbit 174 = .ok (.aload_n 0, 1) := by decide +kernel
theorem dX8_orbit_175 : decode cX8_orbit 175 = .ok (.iload_n 1, 1) := by decide +kernel
theorem dX8_orbit_176 : decode cX8_orbit 176 = .ok (.invokevirtual 209, 3) := by decide +kernel
theorem dX8_orbit_179 : decode cX8_orbit 179 = .ok (.goto (-142), 3) := by decide +kernel
theorem dX8_orbit_182 : decode cX8_orbit 182 = .ok (.iload_n 1, 1) := by decide +kernel
theorem dX8_orbit_183 : decode cX8_orbit 183 = .ok (.ireturn, 1) := by decide +kernel
theorem dX8_isFound_0 : decode cX8_isFound 0 = .ok (.iconst 0, 1) := by decide +kernel
theorem dX8_isFound_1 : decode cX8_isFound 1 = .ok (.istore 4, 2) := by decide +kernel
theorem dX8_isFound_3 : decode cX8_isFound 3 = .ok (.iload_n 3, 1) := by decide +kernel
theorem dX8_isFound_4 : decode cX8_isFound 4 = .ok (.iconst 1, 1) := by decide +kernel
theorem dX8_isFound_5 : decode cX8_isFound 5 = .ok (.isub, 1) := by decide +kernel
theorem dX8_isFound_6 : decode cX8_isFound 6 = .ok (.istore 5, 2) := by decide +kernel
theorem dX8_isFound_8 : decode cX8_isFound 8 = .ok (.iload 4, 2) := by decide +kernel
theorem dX8_isFound_10 : decode cX8_isFound 10 = .ok (.iload 5, 2) := by decide +kernel
theorem dX8_isFound_12 : decode cX8_isFound 12 = .ok (.if_icmp .gt 56, 3) := by decide +kernel
theorem dX8_isFound_15 : decode cX8_isFound 15 = .ok (.iload 4, 2) := by decide +kernel
theorem dX8_isFound_17 : decode cX8_isFound 17 = .ok (.iload 5, 2) := by decide +kernel
theorem dX8_isFound_19 : decode cX8_isFound 19 = .ok (.iadd, 1) := by decide +kernel
theorem dX8_isFound_20 : decode cX8_isFound 20 = .ok (.iconst 2, 1) := by decide +kernel
theorem dX8_isFound_21 : decode cX8_isFound 21 = .ok (.idiv, 1) := by decide +kernel
theorem dX8_isFound_22 : decode cX8_isFound 22 = .ok (.istore 6, 2) := by decide +kernel
theorem dX8_isFound_24 : decode cX8_isFound 24 = .ok (.aload_n 0, 1) := by decide +kernel
theorem dX8_isFound_25 : decode cX8_isFound 25 = .ok (.getfield 51, 3) := by decide +kernel
theorem dX8_isFound_28 : decode cX8_isFound 28 = .ok (.iload 6, 2) := by decide +kernel
theorem dX8_isFound_30 : decode cX8_isFound 30 = .ok (.laload, 1) := by decide +kernel
theorem dX8_isFound_31 : decode cX8_isFound 31 = .ok (.lload_n 1, 1) := by decide +kernel
theorem dX8_isFound_32 : decode cX8_isFound 32 = .ok (.lcmp, 1) := by decide +kernel
theorem dX8_isFound_33 : decode cX8_isFound 33 = .ok (.ifCond .ne 5, 3) := by decide +kernel
theorem dX8_isFound_36 : decode cX8_isFound 36 = .ok (.iconst 1, 1) := by decide +kernel
theorem dX8_isFound_37 : decode cX8_isFound 37 = .ok (.ireturn, 1) := by decide +kernel
theorem dX8_isFound_38 : decode cX8_isFound 38 = .ok (.aload_n 0, 1) := by decide +kernel
theorem dX8_isFound_39 : decode cX8_isFound 39 = .ok (.getfield 51, 3) := by decide +kernel
theorem dX8_isFound_42 : decode cX8_isFound 42 = .ok (.iload 6, 2) := by decide +kernel
theorem dX8_isFound_44 : decode cX8_isFound 44 = .ok (.laload, 1) := by decide +kernel
theorem dX8_isFound_45 : decode cX8_isFound 45 = .ok (.lload_n 1, 1) := by decide +kernel
theorem dX8_isFound_46 : decode cX8_isFound 46 = .ok (.lcmp, 1) := by decide +kernel
theorem dX8_isFound_47 : decode cX8_isFound 47 = .ok (.ifCond .ge 12, 3) := by decide +kernel
theorem dX8_isFound_50 : decode cX8_isFound 50 = .ok (.iload 6, 2) := by decide +kernel
theorem dX8_isFound_52 : decode cX8_isFound 52 = .ok (.iconst 1, 1) := by decide +kernel
theorem dX8_isFound_53 : decode cX8_isFound 53 = .ok (.iadd, 1) := by decide +kernel
theorem dX8_isFound_54 : decode cX8_isFound 54 = .ok (.istore 4, 2) := by decide +kernel
theorem dX8_isFound_56 : decode cX8_isFound 56 = .ok (.goto 9, 3) := by decide +kernel
theorem dX8_isFound_59 : decode cX8_isFound 59 = .ok (.iload 6, 2) := by decide +kernel
theorem dX8_isFound_61 : decode cX8_isFound 61 = .ok (.iconst 1, 1) := by decide +kernel
theorem dX8_isFound_62 : decode cX8_isFound 62 = .ok (.isub, 1) := by decide +kernel
theorem dX8_isFound_63 : decode cX8_isFound 63 = .ok (.istore 5, 2) := by decide +kernel
theorem dX8_isFound_65 : decode cX8_isFound 65 = .ok (.goto (-57), 3) := by decide +kernel
theorem dX8_isFound_68 : decode cX8_isFound 68 = .ok (.iconst 0, 1) := by decide +kernel
theorem dX8_isFound_69 : decode cX8_isFound 69 = .ok (.ireturn, 1) := by decide +kernel
theorem dX8_isListed_0 : decode cX8_isListed 0 = .ok (.iload_n 3, 1) := by decide +kernel
theorem dX8_isListed_1 : decode cX8_isListed 1 = .ok (.istore 5, 2) := by decide +kernel
theorem dX8_isListed_3 : decode cX8_isListed 3 = .ok (.iload 5, 2) := by decide +kernel
theorem dX8_isListed_5 : decode cX8_isListed 5 = .ok (.iload 4, 2) := by decide +kernel
theorem dX8_isListed_7 : decode cX8_isListed 7 = .ok (.if_icmp .ge 23, 3) := by decide +kernel
theorem dX8_isListed_10 : decode cX8_isListed 10 = .ok (.aload_n 0, 1) := by decide +kernel
theorem dX8_isListed_11 : decode cX8_isListed 11 = .ok (.getfield 51, 3) := by decide +kernel
theorem dX8_isListed_14 : decode cX8_isListed 14 = .ok (.iload 5, 2) := by decide +kernel
theorem dX8_isListed_16 : decode cX8_isListed 16 = .ok (.laload, 1) := by decide +kernel
theorem dX8_isListed_17 : decode cX8_isListed 17 = .ok (.lload_n 1, 1) := by decide +kernel
theorem dX8_isListed_18 : decode cX8_isListed 18 = .ok (.lcmp, 1) := by decide +kernel
theorem dX8_isListed_19 : decode cX8_isListed 19 = .ok (.ifCond .ne 5, 3) := by decide +kernel
theorem dX8_isListed_22 : decode cX8_isListed 22 = .ok (.iconst 1, 1) := by decide +kernel
theorem dX8_isListed_23 : decode cX8_isListed 23 = .ok (.ireturn, 1) := by decide +kernel
theorem dX8_isListed_24 : decode cX8_isListed 24 = .ok (.iinc 5 1, 3) := by decide +kernel
theorem dX8_isListed_27 : decode cX8_isListed 27 = .ok (.goto (-24), 3) := by decide +kernel
theorem dX8_isListed_30 : decode cX8_isListed 30 = .ok (.iconst 0, 1) := by decide +kernel
theorem dX8_isListed_31 : decode cX8_isListed 31 = .ok (.ireturn, 1) := by decide +kernel
theorem dX8_sorts_0 : decode cX8_sorts 0 = .ok (.iconst 1, 1) := by decide +kernel
theorem dX8_sorts_1 : decode cX8_sorts 1 = .ok (.istore_n 2, 1) := by decide +kernel
theorem dX8_sorts_2 : decode cX8_sorts 2 = .ok (.iload_n 2, 1) := by decide +kernel
theorem dX8_sorts_3 : decode cX8_sorts 3 = .ok (.iload_n 1, 1) := by decide +kernel
theorem dX8_sorts_4 : decode cX8_sorts 4 = .ok (.if_icmp .ge 68, 3) := by decide +kernel
theorem dX8_sorts_7 : decode cX8_sorts 7 = .ok (.aload_n 0, 1) := by decide +kernel
theorem dX8_sorts_8 : decode cX8_sorts 8 = .ok (.getfield 51, 3) := by decide +kernel
theorem dX8_sorts_11 : decode cX8_sorts 11 = .ok (.iload_n 2, 1) := by decide +kernel
theorem dX8_sorts_12 : decode cX8_sorts 12 = .ok (.laload, 1) := by decide +kernel
theorem dX8_sorts_13 : decode cX8_sorts 13 = .ok (.lstore_n 3, 1) := by decide +kernel
theorem dX8_sorts_14 : decode cX8_sorts 14 = .ok (.iload_n 2, 1) := by decide +kernel
theorem dX8_sorts_15 : decode cX8_sorts 15 = .ok (.istore 5, 2) := by decide +kernel
theorem dX8_sorts_17 : decode cX8_sorts 17 = .ok (.iload 5, 2) := by decide +kernel
theorem dX8_sorts_19 : decode cX8_sorts 19 = .ok (.ifCond .le 39, 3) := by decide +kernel
theorem dX8_sorts_22 : decode cX8_sorts 22 = .ok (.aload_n 0, 1) := by decide +kernel
theorem dX8_sorts_23 : decode cX8_sorts 23 = .ok (.getfield 51, 3) := by decide +kernel
theorem dX8_sorts_26 : decode cX8_sorts 26 = .ok (.iload 5, 2) := by decide +kernel
theorem dX8_sorts_28 : decode cX8_sorts 28 = .ok (.iconst 1, 1) := by decide +kernel
theorem dX8_sorts_29 : decode cX8_sorts 29 = .ok (.isub, 1) := by decide +kernel
theorem dX8_sorts_30 : decode cX8_sorts 30 = .ok (.laload, 1) := by decide +kernel
theorem dX8_sorts_31 : decode cX8_sorts 31 = .ok (.lload_n 3, 1) := by decide +kernel
theorem dX8_sorts_32 : decode cX8_sorts 32 = .ok (.lcmp, 1) := by decide +kernel
theorem dX8_sorts_33 : decode cX8_sorts 33 = .ok (.ifCond .le 25, 3) := by decide +kernel
theorem dX8_sorts_36 : decode cX8_sorts 36 = .ok (.aload_n 0, 1) := by decide +kernel
theorem dX8_sorts_37 : decode cX8_sorts 37 = .ok (.getfield 51, 3) := by decide +kernel
theorem dX8_sorts_40 : decode cX8_sorts 40 = .ok (.iload 5, 2) := by decide +kernel
theorem dX8_sorts_42 : decode cX8_sorts 42 = .ok (.aload_n 0, 1) := by decide +kernel
theorem dX8_sorts_43 : decode cX8_sorts 43 = .ok (.getfield 51, 3) := by decide +kernel
theorem dX8_sorts_46 : decode cX8_sorts 46 = .ok (.iload 5, 2) := by decide +kernel
theorem dX8_sorts_48 : decode cX8_sorts 48 = .ok (.iconst 1, 1) := by decide +kernel
theorem dX8_sorts_49 : decode cX8_sorts 49 = .ok (.isub, 1) := by decide +kernel
theorem dX8_sorts_50 : decode cX8_sorts 50 = .ok (.laload, 1) := by decide +kernel
theorem dX8_sorts_51 : decode cX8_sorts 51 = .ok (.lastore, 1) := by decide +kernel
theorem dX8_sorts_52 : decode cX8_sorts 52 = .ok (.iinc 5 (-1), 3) := by decide +kernel
theorem dX8_sorts_55 : decode cX8_sorts 55 = .ok (.goto (-38), 3) := by decide +kernel
theorem dX8_sorts_58 : decode cX8_sorts 58 = .ok (.aload_n 0, 1) := by decide +kernel
theorem dX8_sorts_59 : decode cX8_sorts 59 = .ok (.getfield 51, 3) := by decide +kernel
theorem dX8_sorts_62 : decode cX8_sorts 62 = .ok (.iload 5, 2) := by decide +kernel
theorem dX8_sorts_64 : decode cX8_sorts 64 = .ok (.lload_n 3, 1) := by decide +kernel
theorem dX8_sorts_65 : decode cX8_sorts 65 = .ok (.lastore, 1) := by decide +kernel
theorem dX8_sorts_66 : decode cX8_sorts 66 = .ok (.iinc 2 1, 3) := by decide +kernel
theorem dX8_sorts_69 : decode cX8_sorts 69 = .ok (.goto (-67), 3) := by decide +kernel
theorem dX8_sorts_72 : decode cX8_sorts 72 = .ok (.return_, 1) := by decide +kernel
theorem dX8_ran_0 : decode cX8_ran 0 = .ok (.aload_n 0, 1) := by decide +kernel
theorem dX8_ran_1 : decode cX8_ran 1 = .ok (.getfield 212, 3) := by decide +kernel
theorem dX8_ran_4 : decode cX8_ran 4 = .ok (.bipush 40, 2) := by decide +kernel
theorem dX8_ran_6 : decode cX8_ran 6 = .ok (.if_icmp .ge 13, 3) := by decide +kernel
theorem dX8_ran_9 : decode cX8_ran 9 = .ok (.aload_n 0, 1) := by decide +kernel
theorem dX8_ran_10 : decode cX8_ran 10 = .ok (.getfield 69, 3) := by decide +kernel
theorem dX8_ran_13 : decode cX8_ran 13 = .ok (.aload_n 0, 1) := by decide +kernel
theorem dX8_ran_14 : decode cX8_ran 14 = .ok (.getfield 212, 3) := by decide +kernel
theorem dX8_ran_17 : decode cX8_ran 17 = .ok (.iload_n 1, 1) := by decide +kernel
theorem dX8_ran_18 : decode cX8_ran 18 = .ok (.iastore, 1) := by decide +kernel
theorem dX8_ran_19 : decode cX8_ran 19 = .ok (.aload_n 0, 1) := by decide +kernel
theorem dX8_ran_20 : decode cX8_ran 20 = .ok (.dup, 1) := by decide +kernel
theorem dX8_ran_21 : decode cX8_ran 21 = .ok (.getfield 212, 3) := by decide +kernel
theorem dX8_ran_24 : decode cX8_ran 24 = .ok (.iconst 1, 1) := by decide +kernel
theorem dX8_ran_25 : decode cX8_ran 25 = .ok (.iadd, 1) := by decide +kernel
theorem dX8_ran_26 : decode cX8_ran 26 = .ok (.putfield 212, 3) := by decide +kernel
theorem dX8_ran_29 : decode cX8_ran 29 = .ok (.return_, 1) := by decide +kernel
theorem dX8_laysMove_0 : decode cX8_laysMove 0 = .ok (.aload_n 0, 1) := by decide +kernel
theorem dX8_laysMove_1 : decode cX8_laysMove 1 = .ok (.bipush 10, 2) := by decide +kernel
theorem dX8_laysMove_3 : decode cX8_laysMove 3 = .ok (.invokevirtual 215, 3) := by decide +kernel
theorem dX8_laysMove_6 : decode cX8_laysMove 6 = .ok (.iload_n 2, 1) := by decide +kernel
theorem dX8_laysMove_7 : decode cX8_laysMove 7 = .ok (.iload_n 1, 1) := by decide +kernel
theorem dX8_laysMove_8 : decode cX8_laysMove 8 = .ok (.iadd, 1) := by decide +kernel
theorem dX8_laysMove_9 : decode cX8_laysMove 9 = .ok (.ireturn, 1) := by decide +kernel
theorem dX8_laysDeal_0 : decode cX8_laysDeal 0 = .ok (.aload_n 0, 1) := by decide +kernel
theorem dX8_laysDeal_1 : decode cX8_laysDeal 1 = .ok (.bipush 30, 2) := by decide +kernel
theorem dX8_laysDeal_3 : decode cX8_laysDeal 3 = .ok (.invokevirtual 215, 3) := by decide +kernel
theorem dX8_laysDeal_6 : decode cX8_laysDeal 6 = .ok (.aload_n 0, 1) := by decide +kernel
theorem dX8_laysDeal_7 : decode cX8_laysDeal 7 = .ok (.iload_n 1, 1) := by decide +kernel
theorem dX8_laysDeal_8 : decode cX8_laysDeal 8 = .ok (.iload_n 2, 1) := by decide +kernel
theorem dX8_laysDeal_9 : decode cX8_laysDeal 9 = .ok (.invokevirtual 218, 3) := by decide +kernel
theorem dX8_laysDeal_12 : decode cX8_laysDeal 12 = .ok (.aload_n 0, 1) := by decide +kernel
theorem dX8_laysDeal_13 : decode cX8_laysDeal 13 = .ok (.getfield 20, 3) := by decide +kernel
theorem dX8_laysDeal_16 : decode cX8_laysDeal 16 = .ok (.iload_n 1, 1) := by decide +kernel
theorem dX8_laysDeal_17 : decode cX8_laysDeal 17 = .ok (.iaload, 1) := by decide +kernel
theorem dX8_laysDeal_18 : decode cX8_laysDeal 18 = .ok (.isub, 1) := by decide +kernel
theorem dX8_laysDeal_19 : decode cX8_laysDeal 19 = .ok (.ireturn, 1) := by decide +kernel
theorem dX8_laysNow_0 : decode cX8_laysNow 0 = .ok (.aload_n 0, 1) := by decide +kernel
theorem dX8_laysNow_1 : decode cX8_laysNow 1 = .ok (.getfield 17, 3) := by decide +kernel
theorem dX8_laysNow_4 : decode cX8_laysNow 4 = .ok (.iload_n 1, 1) := by decide +kernel
theorem dX8_laysNow_5 : decode cX8_laysNow 5 = .ok (.iaload, 1) := by decide +kernel
theorem dX8_laysNow_6 : decode cX8_laysNow 6 = .ok (.iconst 2, 1) := by decide +kernel
theorem dX8_laysNow_7 : decode cX8_laysNow 7 = .ok (.if_icmp .ge 10, 3) := by decide +kernel
theorem dX8_laysNow_10 : decode cX8_laysNow 10 = .ok (.aload_n 0, 1) := by decide +kernel
theorem dX8_laysNow_11 : decode cX8_laysNow 11 = .ok (.iload_n 1, 1) := by decide +kernel
theorem dX8_laysNow_12 : decode cX8_laysNow 12 = .ok (.iload_n 2, 1) := by decide +kernel
theorem dX8_laysNow_13 : decode cX8_laysNow 13 = .ok (.invokevirtual 218, 3) := by decide +kernel
theorem dX8_laysNow_16 : decode cX8_laysNow 16 = .ok (.ireturn, 1) := by decide +kernel
theorem dX8_laysNow_17 : decode cX8_laysNow 17 = .ok (.aload_n 0, 1) := by decide +kernel
theorem dX8_laysNow_18 : decode cX8_laysNow 18 = .ok (.getfield 17, 3) := by decide +kernel
theorem dX8_laysNow_21 : decode cX8_laysNow 21 = .ok (.iload_n 1, 1) := by decide +kernel
theorem dX8_laysNow_22 : decode cX8_laysNow 22 = .ok (.iaload, 1) := by decide +kernel
theorem dX8_laysNow_23 : decode cX8_laysNow 23 = .ok (.iconst 4, 1) := by decide +kernel
theorem dX8_laysNow_24 : decode cX8_laysNow 24 = .ok (.if_icmp .ge 10, 3) := by decide +kernel
theorem dX8_laysNow_27 : decode cX8_laysNow 27 = .ok (.aload_n 0, 1) := by decide +kernel
theorem dX8_laysNow_28 : decode cX8_laysNow 28 = .ok (.iload_n 1, 1) := by decide +kernel
theorem dX8_laysNow_29 : decode cX8_laysNow 29 = .ok (.iload_n 2, 1) := by decide +kernel
theorem dX8_laysNow_30 : decode cX8_laysNow 30 = .ok (.invokevirtual 221, 3) := by decide +kernel
theorem dX8_laysNow_33 : decode cX8_laysNow 33 = .ok (.ireturn, 1) := by decide +kernel
theorem dX8_laysNow_34 : decode cX8_laysNow 34 = .ok (.aload_n 0, 1) := by decide +kernel
theorem dX8_laysNow_35 : decode cX8_laysNow 35 = .ok (.bipush 50, 2) := by decide +kernel
theorem dX8_laysNow_37 : decode cX8_laysNow 37 = .ok (.invokevirtual 215, 3) := by decide +kernel
theorem dX8_laysNow_40 : decode cX8_laysNow 40 = .ok (.aload_n 0, 1) := by decide +kernel
theorem dX8_laysNow_41 : decode cX8_laysNow 41 = .ok (.iload_n 1, 1) := by decide +kernel
theorem dX8_laysNow_42 : decode cX8_laysNow 42 = .ok (.iload_n 2, 1) := by decide +kernel
theorem dX8_laysNow_43 : decode cX8_laysNow 43 = .ok (.iconst 3, 1) := by decide +kernel
theorem dX8_laysNow_44 : decode cX8_laysNow 44 = .ok (.imul, 1) := by decide +kernel
theorem dX8_laysNow_45 : decode cX8_laysNow 45 = .ok (.invokevirtual 221, 3) := by decide +kernel
theorem dX8_laysNow_48 : decode cX8_laysNow 48 = .ok (.ireturn, 1) := by decide +kernel
theorem dX8_cutsMove_0 : decode cX8_cutsMove 0 = .ok (.aload_n 0, 1) := by decide +kernel
theorem dX8_cutsMove_1 : decode cX8_cutsMove 1 = .ok (.bipush 11, 2) := by decide +kernel
theorem dX8_cutsMove_3 : decode cX8_cutsMove 3 = .ok (.invokevirtual 215, 3) := by decide +kernel
theorem dX8_cutsMove_6 : decode cX8_cutsMove 6 = .ok (.aload_n 0, 1) := by decide +kernel
theorem dX8_cutsMove_7 : decode cX8_cutsMove 7 = .ok (.iload_n 1, 1) := by decide +kernel
theorem dX8_cutsMove_8 : decode cX8_cutsMove 8 = .ok (.iload_n 2, 1) := by decide +kernel
theorem dX8_cutsMove_9 : decode cX8_cutsMove 9 = .ok (.invokevirtual 224, 3) := by decide +kernel
theorem dX8_cutsMove_12 : decode cX8_cutsMove 12 = .ok (.aload_n 0, 1) := by decide +kernel
theorem dX8_cutsMove_13 : decode cX8_cutsMove 13 = .ok (.getfield 20, 3) := by decide +kernel
theorem dX8_cutsMove_16 : decode cX8_cutsMove 16 = .ok (.iload_n 1, 1) := by decide +kernel
theorem dX8_cutsMove_17 : decode cX8_cutsMove 17 = .ok (.iaload, 1) := by decide +kernel
theorem dX8_cutsMove_18 : decode cX8_cutsMove 18 = .ok (.imul, 1) := by decide +kernel
theorem dX8_cutsMove_19 : decode cX8_cutsMove 19 = .ok (.ireturn, 1) := by decide +kernel
theorem dX8_cutsNow_0 : decode cX8_cutsNow 0 = .ok (.aload_n 0, 1) := by decide +kernel
theorem dX8_cutsNow_1 : decode cX8_cutsNow 1 = .ok (.getfield 17, 3) := by decide +kernel
theorem dX8_cutsNow_4 : decode cX8_cutsNow 4 = .ok (.iload_n 1, 1) := by decide +kernel
theorem dX8_cutsNow_5 : decode cX8_cutsNow 5 = .ok (.iaload, 1) := by decide +kernel
theorem dX8_cutsNow_6 : decode cX8_cutsNow 6 = .ok (.iconst 1, 1) := by decide +kernel
theorem dX8_cutsNow_7 : decode cX8_cutsNow 7 = .ok (.if_icmp .ne 18, 3) := by decide +kernel
theorem dX8_cutsNow_10 : decode cX8_cutsNow 10 = .ok (.aload_n 0, 1) := by decide +kernel
theorem dX8_cutsNow_11 : decode cX8_cutsNow 11 = .ok (.bipush 20, 2) := by decide +kernel
theorem dX8_cutsNow_13 : decode cX8_cutsNow 13 = .ok (.invokevirtual 215, 3) := by decide +kernel
theorem dX8_cutsNow_16 : decode cX8_cutsNow 16 = .ok (.aload_n 0, 1) := by decide +kernel
theorem dX8_cutsNow_17 : decode cX8_cutsNow 17 = .ok (.iload_n 1, 1) := by decide +kernel
theorem dX8_cutsNow_18 : decode cX8_cutsNow 18 = .ok (.iload_n 2, 1) := by decide +kernel
theorem dX8_cutsNow_19 : decode cX8_cutsNow 19 = .ok (.invokevirtual 227, 3) := by decide +kernel
theorem dX8_cutsNow_22 : decode cX8_cutsNow 22 = .ok (.iconst 1, 1) := by decide +kernel
theorem dX8_cutsNow_23 : decode cX8_cutsNow 23 = .ok (.iadd, 1) := by decide +kernel
theorem dX8_cutsNow_24 : decode cX8_cutsNow 24 = .ok (.ireturn, 1) := by decide +kernel
theorem dX8_cutsNow_25 : decode cX8_cutsNow 25 = .ok (.aload_n 0, 1) := by decide +kernel
theorem dX8_cutsNow_26 : decode cX8_cutsNow 26 = .ok (.getfield 17, 3) := by decide +kernel
theorem dX8_cutsNow_29 : decode cX8_cutsNow 29 = .ok (.iload_n 1, 1) := by decide +kernel
theorem dX8_cutsNow_30 : decode cX8_cutsNow 30 = .ok (.iaload, 1) := by decide +kernel
theorem dX8_cutsNow_31 : decode cX8_cutsNow 31 = .ok (.iconst 3, 1) := by decide +kernel
theorem dX8_cutsNow_32 : decode cX8_cutsNow 32 = .ok (.if_icmp .ge 10, 3) := by decide +kernel
theorem dX8_cutsNow_35 : decode cX8_cutsNow 35 = .ok (.aload_n 0, 1) := by decide +kernel
theorem dX8_cutsNow_36 : decode cX8_cutsNow 36 = .ok (.iload_n 1, 1) := by decide +kernel
theorem dX8_cutsNow_37 : decode cX8_cutsNow 37 = .ok (.iload_n 2, 1) := by decide +kernel
theorem dX8_cutsNow_38 : decode cX8_cutsNow 38 = .ok (.invokevirtual 227, 3) := by decide +kernel
theorem dX8_cutsNow_41 : decode cX8_cutsNow 41 = .ok (.ireturn, 1) := by decide +kernel
theorem dX8_cutsNow_42 : decode cX8_cutsNow 42 = .ok (.aload_n 0, 1) := by decide +kernel
theorem dX8_cutsNow_43 : decode cX8_cutsNow 43 = .ok (.bipush 40, 2) := by decide +kernel
theorem dX8_cutsNow_45 : decode cX8_cutsNow 45 = .ok (.invokevirtual 215, 3) := by decide +kernel
theorem dX8_cutsNow_48 : decode cX8_cutsNow 48 = .ok (.aload_n 0, 1) := by decide +kernel
theorem dX8_cutsNow_49 : decode cX8_cutsNow 49 = .ok (.iload_n 1, 1) := by decide +kernel
theorem dX8_cutsNow_50 : decode cX8_cutsNow 50 = .ok (.iload_n 2, 1) := by decide +kernel
theorem dX8_cutsNow_51 : decode cX8_cutsNow 51 = .ok (.invokevirtual 227, 3) := by decide +kernel
theorem dX8_cutsNow_54 : decode cX8_cutsNow 54 = .ok (.istore_n 3, 1) := by decide +kernel
theorem dX8_cutsNow_55 : decode cX8_cutsNow 55 = .ok (.iload_n 3, 1) := by decide +kernel
theorem dX8_cutsNow_56 : decode cX8_cutsNow 56 = .ok (.aload_n 0, 1) := by decide +kernel
theorem dX8_cutsNow_57 : decode cX8_cutsNow 57 = .ok (.iload_n 1, 1) := by decide +kernel
theorem dX8_cutsNow_58 : decode cX8_cutsNow 58 = .ok (.iload_n 2, 1) := by decide +kernel
theorem dX8_cutsNow_59 : decode cX8_cutsNow 59 = .ok (.invokevirtual 221, 3) := by decide +kernel
theorem dX8_cutsNow_62 : decode cX8_cutsNow 62 = .ok (.iadd, 1) := by decide +kernel
theorem dX8_cutsNow_63 : decode cX8_cutsNow 63 = .ok (.ireturn, 1) := by decide +kernel
theorem dX8_turnsMove_0 : decode cX8_turnsMove 0 = .ok (.aload_n 0, 1) := by decide +kernel
theorem dX8_turnsMove_1 : decode cX8_turnsMove 1 = .ok (.bipush 12, 2) := by decide +kernel
theorem dX8_turnsMove_3 : decode cX8_turnsMove 3 = .ok (.invokevirtual 215, 3) := by decide +kernel
theorem dX8_turnsMove_6 : decode cX8_turnsMove 6 = .ok (.aload_n 0, 1) := by decide +kernel
theorem dX8_turnsMove_7 : decode cX8_turnsMove 7 = .ok (.iload_n 1, 1) := by decide +kernel
theorem dX8_turnsMove_8 : decode cX8_turnsMove 8 = .ok (.iload_n 2, 1) := by decide +kernel
theorem dX8_turnsMove_9 : decode cX8_turnsMove 9 = .ok (.invokevirtual 230, 3) := by decide +kernel
theorem dX8_turnsMove_12 : decode cX8_turnsMove 12 = .ok (.istore_n 3, 1) := by decide +kernel
theorem dX8_turnsMove_13 : decode cX8_turnsMove 13 = .ok (.iload_n 3, 1) := by decide +kernel
theorem dX8_turnsMove_14 : decode cX8_turnsMove 14 = .ok (.aload_n 0, 1) := by decide +kernel
theorem dX8_turnsMove_15 : decode cX8_turnsMove 15 = .ok (.iload_n 1, 1) := by decide +kernel
theorem dX8_turnsMove_16 : decode cX8_turnsMove 16 = .ok (.iload_n 2, 1) := by decide +kernel
theorem dX8_turnsMove_17 : decode cX8_turnsMove 17 = .ok (.iconst 1, 1) := by decide +kernel
theorem dX8_turnsMove_18 : decode cX8_turnsMove 18 = .ok (.iadd, 1) := by decide +kernel
theorem dX8_turnsMove_19 : decode cX8_turnsMove 19 = .ok (.invokevirtual 224, 3) := by decide +kernel
theorem dX8_turnsMove_22 : decode cX8_turnsMove 22 = .ok (.ixor, 1) := by decide +kernel
theorem dX8_turnsMove_23 : decode cX8_turnsMove 23 = .ok (.ireturn, 1) := by decide +kernel
theorem dX8_turnsDeal_0 : decode cX8_turnsDeal 0 = .ok (.aload_n 0, 1) := by decide +kernel
theorem dX8_turnsDeal_1 : decode cX8_turnsDeal 1 = .ok (.bipush 31, 2) := by decide +kernel
theorem dX8_turnsDeal_3 : decode cX8_turnsDeal 3 = .ok (.invokevirtual 215, 3) := by decide +kernel
theorem dX8_turnsDeal_6 : decode cX8_turnsDeal 6 = .ok (.aload_n 0, 1) := by decide +kernel
theorem dX8_turnsDeal_7 : decode cX8_turnsDeal 7 = .ok (.iload_n 1, 1) := by decide +kernel
theorem dX8_turnsDeal_8 : decode cX8_turnsDeal 8 = .ok (.iload_n 2, 1) := by decide +kernel
theorem dX8_turnsDeal_9 : decode cX8_turnsDeal 9 = .ok (.invokevirtual 233, 3) := by decide +kernel
theorem dX8_turnsDeal_12 : decode cX8_turnsDeal 12 = .ok (.iconst 2, 1) := by decide +kernel
theorem dX8_turnsDeal_13 : decode cX8_turnsDeal 13 = .ok (.imul, 1) := by decide +kernel
theorem dX8_turnsDeal_14 : decode cX8_turnsDeal 14 = .ok (.ireturn, 1) := by decide +kernel
theorem dX8_turnsNow_0 : decode cX8_turnsNow 0 = .ok (.aload_n 0, 1) := by decide +kernel
theorem dX8_turnsNow_1 : decode cX8_turnsNow 1 = .ok (.getfield 17, 3) := by decide +kernel
theorem dX8_turnsNow_4 : decode cX8_turnsNow 4 = .ok (.iload_n 1, 1) := by decide +kernel
theorem dX8_turnsNow_5 : decode cX8_turnsNow 5 = .ok (.iaload, 1) := by decide +kernel
theorem dX8_turnsNow_6 : decode cX8_turnsNow 6 = .ok (.iconst 2, 1) := by decide +kernel
theorem dX8_turnsNow_7 : decode cX8_turnsNow 7 = .ok (.if_icmp .ge 10, 3) := by decide +kernel
theorem dX8_turnsNow_10 : decode cX8_turnsNow 10 = .ok (.aload_n 0, 1) := by decide +kernel
theorem dX8_turnsNow_11 : decode cX8_turnsNow 11 = .ok (.iload_n 1, 1) := by decide +kernel
theorem dX8_turnsNow_12 : decode cX8_turnsNow 12 = .ok (.iload_n 2, 1) := by decide +kernel
theorem dX8_turnsNow_13 : decode cX8_turnsNow 13 = .ok (.invokevirtual 233, 3) := by decide +kernel
theorem dX8_turnsNow_16 : decode cX8_turnsNow 16 = .ok (.ireturn, 1) := by decide +kernel
theorem dX8_turnsNow_17 : decode cX8_turnsNow 17 = .ok (.aload_n 0, 1) := by decide +kernel
theorem dX8_turnsNow_18 : decode cX8_turnsNow 18 = .ok (.getfield 17, 3) := by decide +kernel
theorem dX8_turnsNow_21 : decode cX8_turnsNow 21 = .ok (.iload_n 1, 1) := by decide +kernel
theorem dX8_turnsNow_22 : decode cX8_turnsNow 22 = .ok (.iaload, 1) := by decide +kernel
theorem dX8_turnsNow_23 : decode cX8_turnsNow 23 = .ok (.iconst 4, 1) := by decide +kernel
theorem dX8_turnsNow_24 : decode cX8_turnsNow 24 = .ok (.if_icmp .ge 10, 3) := by decide +kernel
theorem dX8_turnsNow_27 : decode cX8_turnsNow 27 = .ok (.aload_n 0, 1) := by decide +kernel
theorem dX8_turnsNow_28 : decode cX8_turnsNow 28 = .ok (.iload_n 1, 1) := by decide +kernel
theorem dX8_turnsNow_29 : decode cX8_turnsNow 29 = .ok (.iload_n 2, 1) := by decide +kernel
theorem dX8_turnsNow_30 : decode cX8_turnsNow 30 = .ok (.invokevirtual 236, 3) := by decide +kernel
theorem dX8_turnsNow_33 : decode cX8_turnsNow 33 = .ok (.ireturn, 1) := by decide +kernel
theorem dX8_turnsNow_34 : decode cX8_turnsNow 34 = .ok (.aload_n 0, 1) := by decide +kernel
theorem dX8_turnsNow_35 : decode cX8_turnsNow 35 = .ok (.bipush 51, 2) := by decide +kernel
theorem dX8_turnsNow_37 : decode cX8_turnsNow 37 = .ok (.invokevirtual 215, 3) := by decide +kernel
theorem dX8_turnsNow_40 : decode cX8_turnsNow 40 = .ok (.aload_n 0, 1) := by decide +kernel
theorem dX8_turnsNow_41 : decode cX8_turnsNow 41 = .ok (.iload_n 1, 1) := by decide +kernel
theorem dX8_turnsNow_42 : decode cX8_turnsNow 42 = .ok (.iload_n 2, 1) := by decide +kernel
theorem dX8_turnsNow_43 : decode cX8_turnsNow 43 = .ok (.invokevirtual 230, 3) := by decide +kernel
theorem dX8_turnsNow_46 : decode cX8_turnsNow 46 = .ok (.istore_n 3, 1) := by decide +kernel
theorem dX8_turnsNow_47 : decode cX8_turnsNow 47 = .ok (.iload_n 3, 1) := by decide +kernel
theorem dX8_turnsNow_48 : decode cX8_turnsNow 48 = .ok (.aload_n 0, 1) := by decide +kernel
theorem dX8_turnsNow_49 : decode cX8_turnsNow 49 = .ok (.iload_n 1, 1) := by decide +kernel
theorem dX8_turnsNow_50 : decode cX8_turnsNow 50 = .ok (.iload_n 2, 1) := by decide +kernel
theorem dX8_turnsNow_51 : decode cX8_turnsNow 51 = .ok (.invokevirtual 236, 3) := by decide +kernel
theorem dX8_turnsNow_54 : decode cX8_turnsNow 54 = .ok (.isub, 1) := by decide +kernel
theorem dX8_turnsNow_55 : decode cX8_turnsNow 55 = .ok (.ireturn, 1) := by decide +kernel
theorem dX8_act_0 : decode cX8_act 0 = .ok (.aload_n 0, 1) := by decide +kernel
theorem dX8_act_1 : decode cX8_act 1 = .ok (.iconst 0, 1) := by decide +kernel
theorem dX8_act_2 : decode cX8_act 2 = .ok (.putfield 212, 3) := by decide +kernel
theorem dX8_act_5 : decode cX8_act 5 = .ok (.aload_n 0, 1) := by decide +kernel
theorem dX8_act_6 : decode cX8_act 6 = .ok (.iload_n 1, 1) := by decide +kernel
theorem dX8_act_7 : decode cX8_act 7 = .ok (.invokevirtual 123, 3) := by decide +kernel
theorem dX8_act_10 : decode cX8_act 10 = .ok (.ifCond .eq 12, 3) := by decide +kernel
theorem dX8_act_13 : decode cX8_act 13 = .ok (.iload_n 2, 1) := by decide +kernel
theorem dX8_act_14 : decode cX8_act 14 = .ok (.ifCond .lt 8, 3) := by decide +kernel
theorem dX8_act_17 : decode cX8_act 17 = .ok (.iload_n 2, 1) := by decide +kernel
theorem dX8_act_18 : decode cX8_act 18 = .ok (.iconst 2, 1) := by decide +kernel
theorem dX8_act_19 : decode cX8_act 19 = .ok (.if_icmp .le 5, 3) := by decide +kernel
theorem dX8_act_22 : decode cX8_act 22 = .ok (.iconst 0, 1) := by decide +kernel
theorem dX8_act_23 : decode cX8_act 23 = .ok (.ireturn, 1) := by decide +kernel
theorem dX8_act_24 : decode cX8_act 24 = .ok (.iload_n 2, 1) := by decide +kernel
theorem dX8_act_25 : decode cX8_act 25 = .ok (.ifCond .ne 12, 3) := by decide +kernel
theorem dX8_act_28 : decode cX8_act 28 = .ok (.aload_n 0, 1) := by decide +kernel
theorem dX8_act_29 : decode cX8_act 29 = .ok (.iload_n 1, 1) := by decide +kernel
theorem dX8_act_30 : decode cX8_act 30 = .ok (.iload_n 3, 1) := by decide +kernel
theorem dX8_act_31 : decode cX8_act 31 = .ok (.invokevirtual 224, 3) := by decide +kernel
theorem dX8_act_34 : decode cX8_act 34 = .ok (.goto 23, 3) := by decide +kernel
theorem dX8_act_37 : decode cX8_act 37 = .ok (.iload_n 2, 1) := by decide +kernel
theorem dX8_act_38 : decode cX8_act 38 = .ok (.iconst 1, 1) := by decide +kernel
theorem dX8_act_39 : decode cX8_act 39 = .ok (.if_icmp .ne 12, 3) := by decide +kernel
theorem dX8_act_42 : decode cX8_act 42 = .ok (.aload_n 0, 1) := by decide +kernel
theorem dX8_act_43 : decode cX8_act 43 = .ok (.iload_n 1, 1) := by decide +kernel
theorem dX8_act_44 : decode cX8_act 44 = .ok (.iload_n 3, 1) := by decide +kernel
theorem dX8_act_45 : decode cX8_act 45 = .ok (.invokevirtual 230, 3) := by decide +kernel
theorem dX8_act_48 : decode cX8_act 48 = .ok (.goto 9, 3) := by decide +kernel
theorem dX8_act_51 : decode cX8_act 51 = .ok (.aload_n 0, 1) := by decide +kernel
theorem dX8_act_52 : decode cX8_act 52 = .ok (.iload_n 1, 1) := by decide +kernel
theorem dX8_act_53 : decode cX8_act 53 = .ok (.iload_n 3, 1) := by decide +kernel
theorem dX8_act_54 : decode cX8_act 54 = .ok (.invokevirtual 239, 3) := by decide +kernel
theorem dX8_act_57 : decode cX8_act 57 = .ok (.ireturn, 1) := by decide +kernel
theorem dX8_trace_0 : decode cX8_trace 0 = .ok (.iload_n 1, 1) := by decide +kernel
theorem dX8_trace_1 : decode cX8_trace 1 = .ok (.ifCond .lt 26, 3) := by decide +kernel
theorem dX8_trace_4 : decode cX8_trace 4 = .ok (.iload_n 1, 1) := by decide +kernel
theorem dX8_trace_5 : decode cX8_trace 5 = .ok (.aload_n 0, 1) := by decide +kernel
theorem dX8_trace_6 : decode cX8_trace 6 = .ok (.getfield 212, 3) := by decide +kernel
theorem dX8_trace_9 : decode cX8_trace 9 = .ok (.if_icmp .ge 18, 3) := by decide +kernel
theorem dX8_trace_12 : decode cX8_trace 12 = .ok (.iload_n 1, 1) := by decide +kernel
theorem dX8_trace_13 : decode cX8_trace 13 = .ok (.bipush 40, 2) := by decide +kernel
theorem dX8_trace_15 : decode cX8_trace 15 = .ok (.if_icmp .ge 12, 3) := by decide +kernel
theorem dX8_trace_18 : decode cX8_trace 18 = .ok (.aload_n 0, 1) := by decide +kernel
theorem dX8_trace_19 : decode cX8_trace 19 = .ok (.getfield 69, 3) := by decide +kernel
theorem dX8_trace_22 : decode cX8_trace 22 = .ok (.iload_n 1, 1) := by decide +kernel
theorem dX8_trace_23 : decode cX8_trace 23 = .ok (.iaload, 1) := by decide +kernel
theorem dX8_trace_24 : decode cX8_trace 24 = .ok (.goto 4, 3) := by decide +kernel
theorem dX8_trace_27 : decode cX8_trace 27 = .ok (.iconst (-1), 1) := by decide +kernel
theorem dX8_trace_28 : decode cX8_trace 28 = .ok (.ireturn, 1) := by decide +kernel
theorem dX8_count_0 : decode cX8_count 0 = .ok (.iload_n 1, 1) := by decide +kernel
theorem dX8_count_1 : decode cX8_count 1 = .ok (.ifCond .ne 10, 3) := by decide +kernel
theorem dX8_count_4 : decode cX8_count 4 = .ok (.aload_n 0, 1) := by decide +kernel
theorem dX8_count_5 : decode cX8_count 5 = .ok (.getfield 7, 3) := by decide +kernel
theorem dX8_count_8 : decode cX8_count 8 = .ok (.goto 41, 3) := by decide +kernel
theorem dX8_count_11 : decode cX8_count 11 = .ok (.iload_n 1, 1) := by decide +kernel
theorem dX8_count_12 : decode cX8_count 12 = .ok (.iconst 1, 1) := by decide +kernel
theorem dX8_count_13 : decode cX8_count 13 = .ok (.if_icmp .ne 10, 3) := by decide +kernel
theorem dX8_count_16 : decode cX8_count 16 = .ok (.aload_n 0, 1) := by decide +kernel
theorem dX8_count_17 : decode cX8_count 17 = .ok (.getfield 72, 3) := by decide +kernel
theorem dX8_count_20 : decode cX8_count 20 = .ok (.goto 29, 3) := by decide +kernel
theorem dX8_count_23 : decode cX8_count 23 = .ok (.iload_n 1, 1) := by decide +kernel
theorem dX8_count_24 : decode cX8_count 24 = .ok (.iconst 2, 1) := by decide +kernel
theorem dX8_count_25 : decode cX8_count 25 = .ok (.if_icmp .ne 10, 3) := by decide +kernel
theorem dX8_count_28 : decode cX8_count 28 = .ok (.aload_n 0, 1) := by decide +kernel
theorem dX8_count_29 : decode cX8_count 29 = .ok (.getfield 75, 3) := by decide +kernel
theorem dX8_count_32 : decode cX8_count 32 = .ok (.goto 17, 3) := by decide +kernel
theorem dX8_count_35 : decode cX8_count 35 = .ok (.iload_n 1, 1) := by decide +kernel
theorem dX8_count_36 : decode cX8_count 36 = .ok (.iconst 3, 1) := by decide +kernel
theorem dX8_count_37 : decode cX8_count 37 = .ok (.if_icmp .ne 10, 3) := by decide +kernel
theorem dX8_count_40 : decode cX8_count 40 = .ok (.aload_n 0, 1) := by decide +kernel
theorem dX8_count_41 : decode cX8_count 41 = .ok (.getfield 212, 3) := by decide +kernel
theorem dX8_count_44 : decode cX8_count 44 = .ok (.goto 5, 3) := by decide +kernel
theorem dX8_count_47 : decode cX8_count 47 = .ok (.bipush (-2), 2) := by decide +kernel
theorem dX8_count_49 : decode cX8_count 49 = .ok (.ireturn, 1) := by decide +kernel
theorem dX8_isTray_0 : decode cX8_isTray 0 = .ok (.iload_n 0, 1) := by decide +kernel
theorem dX8_isTray_1 : decode cX8_isTray 1 = .ok (.ifCond .lt 12, 3) := by decide +kernel
theorem dX8_isTray_4 : decode cX8_isTray 4 = .ok (.iload_n 0, 1) := by decide +kernel
theorem dX8_isTray_5 : decode cX8_isTray 5 = .ok (.iconst 4, 1) := by decide +kernel
theorem dX8_isTray_6 : decode cX8_isTray 6 = .ok (.if_icmp .ge 7, 3) := by decide +kernel
theorem dX8_isTray_9 : decode cX8_isTray 9 = .ok (.iconst 1, 1) := by decide +kernel
theorem dX8_isTray_10 : decode cX8_isTray 10 = .ok (.goto 4, 3) := by decide +kernel
theorem dX8_isTray_13 : decode cX8_isTray 13 = .ok (.iconst 0, 1) := by decide +kernel
theorem dX8_isTray_14 : decode cX8_isTray 14 = .ok (.ireturn, 1) := by decide +kernel
theorem dX8_tray_0 : decode cX8_tray 0 = .ok (.iload_n 1, 1) := by decide +kernel
theorem dX8_tray_1 : decode cX8_tray 1 = .ok (.invokestatic 94, 3) := by decide +kernel
theorem dX8_tray_4 : decode cX8_tray 4 = .ok (.ifCond .eq 23, 3) := by decide +kernel
theorem dX8_tray_7 : decode cX8_tray 7 = .ok (.iload_n 2, 1) := by decide +kernel
theorem dX8_tray_8 : decode cX8_tray 8 = .ok (.iconst (-1), 1) := by decide +kernel
theorem dX8_tray_9 : decode cX8_tray 9 = .ok (.if_icmp .lt 18, 3) := by decide +kernel
theorem dX8_tray_12 : decode cX8_tray 12 = .ok (.iload_n 2, 1) := by decide +kernel
theorem dX8_tray_13 : decode cX8_tray 13 = .ok (.iconst 2, 1) := by decide +kernel
theorem dX8_tray_14 : decode cX8_tray 14 = .ok (.if_icmp .gt 13, 3) := by decide +kernel
theorem dX8_tray_17 : decode cX8_tray 17 = .ok (.iload_n 2, 1) := by decide +kernel
theorem dX8_tray_18 : decode cX8_tray 18 = .ok (.ifCond .lt 12, 3) := by decide +kernel
theorem dX8_tray_21 : decode cX8_tray 21 = .ok (.iload_n 3, 1) := by decide +kernel
theorem dX8_tray_22 : decode cX8_tray 22 = .ok (.bipush 40, 2) := by decide +kernel
theorem dX8_tray_24 : decode cX8_tray 24 = .ok (.if_icmp .le 6, 3) := by decide +kernel
theorem dX8_tray_27 : decode cX8_tray 27 = .ok (.bipush (-2), 2) := by decide +kernel
theorem dX8_tray_29 : decode cX8_tray 29 = .ok (.ireturn, 1) := by decide +kernel
theorem dX8_tray_30 : decode cX8_tray 30 = .ok (.iload_n 2, 1) := by decide +kernel
theorem dX8_tray_31 : decode cX8_tray 31 = .ok (.ifCond .lt 10, 3) := by decide +kernel
theorem dX8_tray_34 : decode cX8_tray 34 = .ok (.iload_n 3, 1) := by decide +kernel
theorem dX8_tray_35 : decode cX8_tray 35 = .ok (.ifCond .ge 6, 3) := by decide +kernel
theorem dX8_tray_38 : decode cX8_tray 38 = .ok (.bipush (-14), 2) := by decide +kernel
theorem dX8_tray_40 : decode cX8_tray 40 = .ok (.ireturn, 1) := by decide +kernel
theorem dX8_tray_41 : decode cX8_tray 41 = .ok (.aload_n 0, 1) := by decide +kernel
theorem dX8_tray_42 : decode cX8_tray 42 = .ok (.getfield 57, 3) := by decide +kernel
theorem dX8_tray_45 : decode cX8_tray 45 = .ok (.iload_n 1, 1) := by decide +kernel
theorem dX8_tray_46 : decode cX8_tray 46 = .ok (.iload_n 2, 1) := by decide +kernel
theorem dX8_tray_47 : decode cX8_tray 47 = .ok (.iastore, 1) := by decide +kernel
theorem dX8_tray_48 : decode cX8_tray 48 = .ok (.aload_n 0, 1) := by decide +kernel
theorem dX8_tray_49 : decode cX8_tray 49 = .ok (.getfield 60, 3) := by decide +kernel
theorem dX8_tray_52 : decode cX8_tray 52 = .ok (.iload_n 1, 1) := by decide +kernel
theorem dX8_tray_53 : decode cX8_tray 53 = .ok (.iload_n 2, 1) := by decide +kernel
theorem dX8_tray_54 : decode cX8_tray 54 = .ok (.ifCond .ge 7, 3) := by decide +kernel
theorem dX8_tray_57 : decode cX8_tray 57 = .ok (.iconst 0, 1) := by decide +kernel
theorem dX8_tray_58 : decode cX8_tray 58 = .ok (.goto 4, 3) := by decide +kernel
theorem dX8_tray_61 : decode cX8_tray 61 = .ok (.iload_n 3, 1) := by decide +kernel
theorem dX8_tray_62 : decode cX8_tray 62 = .ok (.iastore, 1) := by decide +kernel
theorem dX8_tray_63 : decode cX8_tray 63 = .ok (.iconst 0, 1) := by decide +kernel
theorem dX8_tray_64 : decode cX8_tray 64 = .ok (.istore 4, 2) := by decide +kernel
theorem dX8_tray_66 : decode cX8_tray 66 = .ok (.iload 4, 2) := by decide +kernel
theorem dX8_tray_68 : decode cX8_tray 68 = .ok (.bipush 40, 2) := by decide +kernel
theorem dX8_tray_70 : decode cX8_tray 70 = .ok (.if_icmp .ge 22, 3) := by decide +kernel
theorem dX8_tray_73 : decode cX8_tray 73 = .ok (.aload_n 0, 1) := by decide +kernel
theorem dX8_tray_74 : decode cX8_tray 74 = .ok (.getfield 63, 3) := by decide +kernel
theorem dX8_tray_77 : decode cX8_tray 77 = .ok (.bipush 40, 2) := by decide +kernel
theorem dX8_tray_79 : decode cX8_tray 79 = .ok (.iload_n 1, 1) := by decide +kernel
theorem dX8_tray_80 : decode cX8_tray 80 = .ok (.imul, 1) := by decide +kernel
theorem dX8_tray_81 : decode cX8_tray 81 = .ok (.iload 4, 2) := by decide +kernel
theorem dX8_tray_83 : decode cX8_tray 83 = .ok (.iadd, 1) := by decide +kernel
theorem dX8_tray_84 : decode cX8_tray 84 = .ok (.iconst 0, 1) := by decide +kernel
theorem dX8_tray_85 : decode cX8_tray 85 = .ok (.iastore, 1) := by decide +kernel
theorem dX8_tray_86 : decode cX8_tray 86 = .ok (.iinc 4 1, 3) := by decide +kernel
theorem dX8_tray_89 : decode cX8_tray 89 = .ok (.goto (-23), 3) := by decide +kernel
theorem dX8_tray_92 : decode cX8_tray 92 = .ok (.iconst 1, 1) := by decide +kernel
theorem dX8_tray_93 : decode cX8_tray 93 = .ok (.ireturn, 1) := by decide +kernel
theorem dX8_cell_0 : decode cX8_cell 0 = .ok (.iload_n 1, 1) := by decide +kernel
theorem dX8_cell_1 : decode cX8_cell 1 = .ok (.invokestatic 94, 3) := by decide +kernel
theorem dX8_cell_4 : decode cX8_cell 4 = .ok (.ifCond .ne 6, 3) := by decide +kernel
theorem dX8_cell_7 : decode cX8_cell 7 = .ok (.bipush (-2), 2) := by decide +kernel
theorem dX8_cell_9 : decode cX8_cell 9 = .ok (.ireturn, 1) := by decide +kernel
theorem dX8_cell_10 : decode cX8_cell 10 = .ok (.aload_n 0, 1) := by decide +kernel
theorem dX8_cell_11 : decode cX8_cell 11 = .ok (.getfield 57, 3) := by decide +kernel
theorem dX8_cell_14 : decode cX8_cell 14 = .ok (.iload_n 1, 1) := by decide +kernel
theorem dX8_cell_15 : decode cX8_cell 15 = .ok (.iaload, 1) := by decide +kernel
theorem dX8_cell_16 : decode cX8_cell 16 = .ok (.ifCond .ge 6, 3) := by decide +kernel
theorem dX8_cell_19 : decode cX8_cell 19 = .ok (.bipush (-11), 2) := by decide +kernel
theorem dX8_cell_21 : decode cX8_cell 21 = .ok (.ireturn, 1) := by decide +kernel
theorem dX8_cell_22 : decode cX8_cell 22 = .ok (.iload_n 2, 1) := by decide +kernel
theorem dX8_cell_23 : decode cX8_cell 23 = .ok (.ifCond .lt 13, 3) := by decide +kernel
theorem dX8_cell_26 : decode cX8_cell 26 = .ok (.iload_n 2, 1) := by decide +kernel
theorem dX8_cell_27 : decode cX8_cell 27 = .ok (.aload_n 0, 1) := by decide +kernel
theorem dX8_cell_28 : decode cX8_cell 28 = .ok (.getfield 60, 3) := by decide +kernel
theorem dX8_cell_31 : decode cX8_cell 31 = .ok (.iload_n 1, 1) := by decide +kernel
theorem dX8_cell_32 : decode cX8_cell 32 = .ok (.iaload, 1) := by decide +kernel
theorem dX8_cell_33 : decode cX8_cell 33 = .ok (.if_icmp .lt 6, 3) := by decide +kernel
theorem dX8_cell_36 : decode cX8_cell 36 = .ok (.bipush (-12), 2) := by decide +kernel
theorem dX8_cell_38 : decode cX8_cell 38 = .ok (.ireturn, 1) := by decide +kernel
theorem dX8_cell_39 : decode cX8_cell 39 = .ok (.aload_n 0, 1) := by decide +kernel
theorem dX8_cell_40 : decode cX8_cell 40 = .ok (.getfield 63, 3) := by decide +kernel
theorem dX8_cell_43 : decode cX8_cell 43 = .ok (.bipush 40, 2) := by decide +kernel
theorem dX8_cell_45 : decode cX8_cell 45 = .ok (.iload_n 1, 1) := by decide +kernel
theorem dX8_cell_46 : decode cX8_cell 46 = .ok (.imul, 1) := by decide +kernel
theorem dX8_cell_47 : decode cX8_cell 47 = .ok (.iload_n 2, 1) := by decide +kernel
theorem dX8_cell_48 : decode cX8_cell 48 = .ok (.iadd, 1) := by decide +kernel
theorem dX8_cell_49 : decode cX8_cell 49 = .ok (.aload_n 0, 1) := by decide +kernel
theorem dX8_cell_50 : decode cX8_cell 50 = .ok (.getfield 57, 3) := by decide +kernel
theorem dX8_cell_53 : decode cX8_cell 53 = .ok (.iload_n 1, 1) := by decide +kernel
theorem dX8_cell_54 : decode cX8_cell 54 = .ok (.iaload, 1) := by decide +kernel
theorem dX8_cell_55 : decode cX8_cell 55 = .ok (.ifCond .ne 8, 3) := by decide +kernel
theorem dX8_cell_58 : decode cX8_cell 58 = .ok (.iload_n 3, 1) := by decide +kernel
theorem dX8_cell_59 : decode cX8_cell 59 = .ok (.i2b, 1) := by decide +kernel
theorem dX8_cell_60 : decode cX8_cell 60 = .ok (.goto 19, 3) := by decide +kernel
theorem dX8_cell_63 : decode cX8_cell 63 = .ok (.aload_n 0, 1) := by decide +kernel
theorem dX8_cell_64 : decode cX8_cell 64 = .ok (.getfield 57, 3) := by decide +kernel
theorem dX8_cell_67 : decode cX8_cell 67 = .ok (.iload_n 1, 1) := by decide +kernel
theorem dX8_cell_68 : decode cX8_cell 68 = .ok (.iaload, 1) := by decide +kernel
theorem dX8_cell_69 : decode cX8_cell 69 = .ok (.iconst 1, 1) := by decide +kernel
theorem dX8_cell_70 : decode cX8_cell 70 = .ok (.if_icmp .ne 8, 3) := by decide +kernel
theorem dX8_cell_73 : decode cX8_cell 73 = .ok (.iload_n 3, 1) := by decide +kernel
theorem dX8_cell_74 : decode cX8_cell 74 = .ok (.i2s, 1) := by decide +kernel
theorem dX8_cell_75 : decode cX8_cell 75 = .ok (.goto 4, 3) := by decide +kernel
theorem dX8_cell_78 : decode cX8_cell 78 = .ok (.iload_n 3, 1) := by decide +kernel
theorem dX8_cell_79 : decode cX8_cell 79 = .ok (.iastore, 1) := by decide +kernel
theorem dX8_cell_80 : decode cX8_cell 80 = .ok (.iconst 1, 1) := by decide +kernel
theorem dX8_cell_81 : decode cX8_cell 81 = .ok (.ireturn, 1) := by decide +kernel
theorem dX8_copy_0 : decode cX8_copy 0 = .ok (.iload_n 1, 1) := by decide +kernel
theorem dX8_copy_1 : decode cX8_copy 1 = .ok (.invokestatic 94, 3) := by decide +kernel
theorem dX8_copy_4 : decode cX8_copy 4 = .ok (.ifCond .eq 10, 3) := by decide +kernel
theorem dX8_copy_7 : decode cX8_copy 7 = .ok (.iload_n 3, 1) := by decide +kernel
theorem dX8_copy_8 : decode cX8_copy 8 = .ok (.invokestatic 94, 3) := by decide +kernel
theorem dX8_copy_11 : decode cX8_copy 11 = .ok (.ifCond .ne 6, 3) := by decide +kernel
theorem dX8_copy_14 : decode cX8_copy 14 = .ok (.bipush (-2), 2) := by decide +kernel
theorem dX8_copy_16 : decode cX8_copy 16 = .ok (.ireturn, 1) := by decide +kernel
theorem dX8_copy_17 : decode cX8_copy 17 = .ok (.aload_n 0, 1) := by decide +kernel
theorem dX8_copy_18 : decode cX8_copy 18 = .ok (.getfield 57, 3) := by decide +kernel
theorem dX8_copy_21 : decode cX8_copy 21 = .ok (.iload_n 1, 1) := by decide +kernel
theorem dX8_copy_22 : decode cX8_copy 22 = .ok (.iaload, 1) := by decide +kernel
theorem dX8_copy_23 : decode cX8_copy 23 = .ok (.ifCond .lt 12, 3) := by decide +kernel
theorem dX8_copy_26 : decode cX8_copy 26 = .ok (.aload_n 0, 1) := by decide +kernel
theorem dX8_copy_27 : decode cX8_copy 27 = .ok (.getfield 57, 3) := by decide +kernel
theorem dX8_copy_30 : decode cX8_copy 30 = .ok (.iload_n 3, 1) := by decide +kernel
theorem dX8_copy_31 : decode cX8_copy 31 = .ok (.iaload, 1) := by decide +kernel
theorem dX8_copy_32 : decode cX8_copy 32 = .ok (.ifCond .ge 6, 3) := by decide +kernel
theorem dX8_copy_35 : decode cX8_copy 35 = .ok (.bipush (-11), 2) := by decide +kernel
theorem dX8_copy_37 : decode cX8_copy 37 = .ok (.ireturn, 1) := by decide +kernel
theorem dX8_copy_38 : decode cX8_copy 38 = .ok (.aload_n 0, 1) := by decide +kernel
theorem dX8_copy_39 : decode cX8_copy 39 = .ok (.getfield 57, 3) := by decide +kernel
theorem dX8_copy_42 : decode cX8_copy 42 = .ok (.iload_n 1, 1) := by decide +kernel
theorem dX8_copy_43 : decode cX8_copy 43 = .ok (.iaload, 1) := by decide +kernel
theorem dX8_copy_44 : decode cX8_copy 44 = .ok (.aload_n 0, 1) := by decide +kernel
theorem dX8_copy_45 : decode cX8_copy 45 = .ok (.getfield 57, 3) := by decide +kernel
theorem dX8_copy_48 : decode cX8_copy 48 = .ok (.iload_n 3, 1) := by decide +kernel
theorem dX8_copy_49 : decode cX8_copy 49 = .ok (.iaload, 1) := by decide +kernel
theorem dX8_copy_50 : decode cX8_copy 50 = .ok (.if_icmp .eq 6, 3) := by decide +kernel
theorem dX8_copy_53 : decode cX8_copy 53 = .ok (.bipush (-13), 2) := by decide +kernel
theorem dX8_copy_55 : decode cX8_copy 55 = .ok (.ireturn, 1) := by decide +kernel
theorem dX8_copy_56 : decode cX8_copy 56 = .ok (.iload 5, 2) := by decide +kernel
theorem dX8_copy_58 : decode cX8_copy 58 = .ok (.ifCond .lt 39, 3) := by decide +kernel
theorem dX8_copy_61 : decode cX8_copy 61 = .ok (.iload_n 2, 1) := by decide +kernel
theorem dX8_copy_62 : decode cX8_copy 62 = .ok (.ifCond .lt 35, 3) := by decide +kernel
theorem dX8_copy_65 : decode cX8_copy 65 = .ok (.iload 4, 2) := by decide +kernel
theorem dX8_copy_67 : decode cX8_copy 67 = .ok (.ifCond .lt 30, 3) := by decide +kernel
theorem dX8_copy_70 : decode cX8_copy 70 = .ok (.iload_n 2, 1) := by decide +kernel
theorem dX8_copy_71 : decode cX8_copy 71 = .ok (.aload_n 0, 1) := by decide +kernel
theorem dX8_copy_72 : decode cX8_copy 72 = .ok (.getfield 60, 3) := by decide +kernel
theorem dX8_copy_75 : decode cX8_copy 75 = .ok (.iload_n 1, 1) := by decide +kernel
theorem dX8_copy_76 : decode cX8_copy 76 = .ok (.iaload, 1) := by decide +kernel
theorem dX8_copy_77 : decode cX8_copy 77 = .ok (.iload 5, 2) := by decide +kernel
theorem dX8_copy_79 : decode cX8_copy 79 = .ok (.isub, 1) := by decide +kernel
theorem dX8_copy_80 : decode cX8_copy 80 = .ok (.if_icmp .gt 17, 3) := by decide +kernel
theorem dX8_copy_83 : decode cX8_copy 83 = .ok (.iload 4, 2) := by decide +kernel
theorem dX8_copy_85 : decode cX8_copy 85 = .ok (.aload_n 0, 1) := by decide +kernel
theorem dX8_copy_86 : decode cX8_copy 86 = .ok (.getfield 60, 3) := by decide +kernel
theorem dX8_copy_89 : decode cX8_copy 89 = .ok (.iload_n 3, 1) := by decide +kernel
theorem dX8_copy_90 : decode cX8_copy 90 = .ok (.iaload, 1) := by decide +kernel
theorem dX8_copy_91 : decode cX8_copy 91 = .ok (.iload 5, 2) := by decide +kernel
theorem dX8_copy_93 : decode cX8_copy 93 = .ok (.isub, 1) := by decide +kernel
theorem dX8_copy_94 : decode cX8_copy 94 = .ok (.if_icmp .le 6, 3) := by decide +kernel
theorem dX8_copy_97 : decode cX8_copy 97 = .ok (.bipush (-12), 2) := by decide +kernel
theorem dX8_copy_99 : decode cX8_copy 99 = .ok (.ireturn, 1) := by decide +kernel
theorem dX8_copy_100 : decode cX8_copy 100 = .ok (.iconst 0, 1) := by decide +kernel
theorem dX8_copy_101 : decode cX8_copy 101 = .ok (.istore 6, 2) := by decide +kernel
theorem dX8_copy_103 : decode cX8_copy 103 = .ok (.iload 6, 2) := by decide +kernel
theorem dX8_copy_105 : decode cX8_copy 105 = .ok (.iload 5, 2) := by decide +kernel
theorem dX8_copy_107 : decode cX8_copy 107 = .ok (.if_icmp .ge 30, 3) := by decide +kernel
theorem dX8_copy_110 : decode cX8_copy 110 = .ok (.aload_n 0, 1) := by decide +kernel
theorem dX8_copy_111 : decode cX8_copy 111 = .ok (.getfield 66, 3) := by decide +kernel
theorem dX8_copy_114 : decode cX8_copy 114 = .ok (.iload 6, 2) := by decide +kernel
theorem dX8_copy_116 : decode cX8_copy 116 = .ok (.aload_n 0, 1) := by decide +kernel
theorem dX8_copy_117 : decode cX8_copy 117 = .ok (.getfield 63, 3) := by decide +kernel
theorem dX8_copy_120 : decode cX8_copy 120 = .ok (.bipush 40, 2) := by decide +kernel
theorem dX8_copy_122 : decode cX8_copy 122 = .ok (.iload_n 1, 1) := by decide +kernel
theorem dX8_copy_123 : decode cX8_copy 123 = .ok (.imul, 1) := by decide +kernel
theorem dX8_copy_124 : decode cX8_copy 124 = .ok (.iload_n 2, 1) := by decide +kernel
theorem dX8_copy_125 : decode cX8_copy 125 = .ok (.iadd, 1) := by decide +kernel
theorem dX8_copy_126 : decode cX8_copy 126 = .ok (.iload 6, 2) := by decide +kernel
theorem dX8_copy_128 : decode cX8_copy 128 = .ok (.iadd, 1) := by decide +kernel
theorem dX8_copy_129 : decode cX8_copy 129 = .ok (.iaload, 1) := by decide +kernel
theorem dX8_copy_130 : decode cX8_copy 130 = .ok (.iastore, 1) := by decide +kernel
theorem dX8_copy_131 : decode cX8_copy 131 = .ok (.iinc 6 1, 3) := by decide +kernel
theorem dX8_copy_134 : decode cX8_copy 134 = .ok (.goto (-31), 3) := by decide +kernel
theorem dX8_copy_137 : decode cX8_copy 137 = .ok (.iconst 0, 1) := by decide +kernel
theorem dX8_copy_138 : decode cX8_copy 138 = .ok (.istore 6, 2) := by decide +kernel
theorem dX8_copy_140 : decode cX8_copy 140 = .ok (.iload 6, 2) := by decide +kernel
theorem dX8_copy_142 : decode cX8_copy 142 = .ok (.iload 5, 2) := by decide +kernel
theorem dX8_copy_144 : decode cX8_copy 144 = .ok (.if_icmp .ge 31, 3) := by decide +kernel
theorem dX8_copy_147 : decode cX8_copy 147 = .ok (.aload_n 0, 1) := by decide +kernel
theorem dX8_copy_148 : decode cX8_copy 148 = .ok (.getfield 63, 3) := by decide +kernel
theorem dX8_copy_151 : decode cX8_copy 151 = .ok (.bipush 40, 2) := by decide +kernel
theorem dX8_copy_153 : decode cX8_copy 153 = .ok (.iload_n 3, 1) := by decide +kernel
theorem dX8_copy_154 : decode cX8_copy 154 = .ok (.imul, 1) := by decide +kernel
theorem dX8_copy_155 : decode cX8_copy 155 = .ok (.iload 4, 2) := by decide +kernel
theorem dX8_copy_157 : decode cX8_copy 157 = .ok (.iadd, 1) := by decide +kernel
theorem dX8_copy_158 : decode cX8_copy 158 = .ok (.iload 6, 2) := by decide +kernel
theorem dX8_copy_160 : decode cX8_copy 160 = .ok (.iadd, 1) := by decide +kernel
theorem dX8_copy_161 : decode cX8_copy 161 = .ok (.aload_n 0, 1) := by decide +kernel
theorem dX8_copy_162 : decode cX8_copy 162 = .ok (.getfield 66, 3) := by decide +kernel
theorem dX8_copy_165 : decode cX8_copy 165 = .ok (.iload 6, 2) := by decide +kernel
theorem dX8_copy_167 : decode cX8_copy 167 = .ok (.iaload, 1) := by decide +kernel
theorem dX8_copy_168 : decode cX8_copy 168 = .ok (.iastore, 1) := by decide +kernel
theorem dX8_copy_169 : decode cX8_copy 169 = .ok (.iinc 6 1, 3) := by decide +kernel
theorem dX8_copy_172 : decode cX8_copy 172 = .ok (.goto (-32), 3) := by decide +kernel
theorem dX8_copy_175 : decode cX8_copy 175 = .ok (.iload 5, 2) := by decide +kernel
theorem dX8_copy_177 : decode cX8_copy 177 = .ok (.ireturn, 1) := by decide +kernel
theorem dX8_taken_0 : decode cX8_taken 0 = .ok (.iload_n 2, 1) := by decide +kernel
theorem dX8_taken_1 : decode cX8_taken 1 = .ok (.ifCond .lt 8, 3) := by decide +kernel
theorem dX8_taken_4 : decode cX8_taken 4 = .ok (.iload_n 2, 1) := by decide +kernel
theorem dX8_taken_5 : decode cX8_taken 5 = .ok (.iconst 4, 1) := by decide +kernel
theorem dX8_taken_6 : decode cX8_taken 6 = .ok (.if_icmp .le 6, 3) := by decide +kernel
theorem dX8_taken_9 : decode cX8_taken 9 = .ok (.bipush (-2), 2) := by decide +kernel
theorem dX8_taken_11 : decode cX8_taken 11 = .ok (.ireturn, 1) := by decide +kernel
theorem dX8_taken_12 : decode cX8_taken 12 = .ok (.aload_n 0, 1) := by decide +kernel
theorem dX8_taken_13 : decode cX8_taken 13 = .ok (.iload_n 1, 1) := by decide +kernel
theorem dX8_taken_14 : decode cX8_taken 14 = .ok (.invokevirtual 123, 3) := by decide +kernel
theorem dX8_taken_17 : decode cX8_taken 17 = .ok (.ifCond .ne 6, 3) := by decide +kernel
theorem dX8_taken_20 : decode cX8_taken 20 = .ok (.bipush (-11), 2) := by decide +kernel
theorem dX8_taken_22 : decode cX8_taken 22 = .ok (.ireturn, 1) := by decide +kernel
theorem dX8_taken_23 : decode cX8_taken 23 = .ok (.iload_n 2, 1) := by decide +kernel
theorem dX8_taken_24 : decode cX8_taken 24 = .ok (.ifCond .eq 28, 3) := by decide +kernel
theorem dX8_taken_27 : decode cX8_taken 27 = .ok (.aload_n 0, 1) := by decide +kernel
theorem dX8_taken_28 : decode cX8_taken 28 = .ok (.getfield 17, 3) := by decide +kernel
theorem dX8_taken_31 : decode cX8_taken 31 = .ok (.iload_n 1, 1) := by decide +kernel
theorem dX8_taken_32 : decode cX8_taken 32 = .ok (.iaload, 1) := by decide +kernel
theorem dX8_taken_33 : decode cX8_taken 33 = .ok (.iload_n 2, 1) := by decide +kernel
theorem dX8_taken_34 : decode cX8_taken 34 = .ok (.if_icmp .eq 18, 3) := by decide +kernel
theorem dX8_taken_37 : decode cX8_taken 37 = .ok (.iload_n 2, 1) := by decide +kernel
theorem dX8_taken_38 : decode cX8_taken 38 = .ok (.iconst 1, 1) := by decide +kernel
theorem dX8_taken_39 : decode cX8_taken 39 = .ok (.if_icmp .le 17, 3) := by decide +kernel
theorem dX8_taken_42 : decode cX8_taken 42 = .ok (.aload_n 0, 1) := by decide +kernel
theorem dX8_taken_43 : decode cX8_taken 43 = .ok (.getfield 17, 3) := by decide +kernel
theorem dX8_taken_46 : decode cX8_taken 46 = .ok (.iload_n 1, 1) := by decide +kernel
theorem dX8_taken_47 : decode cX8_taken 47 = .ok (.iaload, 1) := by decide +kernel
theorem dX8_taken_48 : decode cX8_taken 48 = .ok (.iload_n 2, 1) := by decide +kernel
theorem dX8_taken_49 : decode cX8_taken 49 = .ok (.if_icmp .le 7, 3) := by decide +kernel
theorem dX8_taken_52 : decode cX8_taken 52 = .ok (.iconst 1, 1) := by decide +kernel
theorem dX8_taken_53 : decode cX8_taken 53 = .ok (.goto 4, 3) := by decide +kernel
theorem dX8_taken_56 : decode cX8_taken 56 = .ok (.iconst 0, 1) := by decide +kernel
theorem dX8_taken_57 : decode cX8_taken 57 = .ok (.istore_n 3, 1) := by decide +kernel
theorem dX8_taken_58 : decode cX8_taken 58 = .ok (.iload_n 3, 1) := by decide +kernel
theorem dX8_taken_59 : decode cX8_taken 59 = .ok (.ifCond .eq 12, 3) := by decide +kernel
theorem dX8_taken_62 : decode cX8_taken 62 = .ok (.aload_n 0, 1) := by decide +kernel
theorem dX8_taken_63 : decode cX8_taken 63 = .ok (.getfield 20, 3) := by decide +kernel
theorem dX8_taken_66 : decode cX8_taken 66 = .ok (.iload_n 1, 1) := by decide +kernel
theorem dX8_taken_67 : decode cX8_taken 67 = .ok (.iaload, 1) := by decide +kernel
theorem dX8_taken_68 : decode cX8_taken 68 = .ok (.goto 5, 3) := by decide +kernel
theorem dX8_taken_71 : decode cX8_taken 71 = .ok (.bipush (-13), 2) := by decide +kernel
theorem dX8_taken_73 : decode cX8_taken 73 = .ok (.ireturn, 1) := by decide +kernel
end
section
theorem dL_law_0 : decode cL_law 0 = .ok (.new 7, 3) := by decide +kernel
theorem dL_law_3 : decode cL_law 3 = .ok (.dup, 1) := by decide +kernel
theorem dL_law_4 : decode cL_law 4 = .ok (.invokespecial 9, 3) := by decide +kernel
theorem dL_law_7 : decode cL_law 7 = .ok (.astore_n 1, 1) := by decide +kernel
theorem dL_law_8 : decode cL_law 8 = .ok (.new 10, 3) := by decide +kernel
theorem dL_law_11 : decode cL_law 11 = .ok (.dup, 1) := by decide +kernel
theorem dL_law_12 : decode cL_law 12 = .ok (.invokespecial 12, 3) := by decide +kernel
theorem dL_law_15 : decode cL_law 15 = .ok (.astore_n 2, 1) := by decide +kernel
theorem dL_law_16 : decode cL_law 16 = .ok (.iconst 0, 1) := by decide +kernel
theorem dL_law_17 : decode cL_law 17 = .ok (.istore_n 3, 1) := by decide +kernel
theorem dL_law_18 : decode cL_law 18 = .ok (.iload_n 3, 1) := by decide +kernel
theorem dL_law_19 : decode cL_law 19 = .ok (.aload_n 0, 1) := by decide +kernel
theorem dL_law_20 : decode cL_law 20 = .ok (.arraylength, 1) := by decide +kernel
theorem dL_law_21 : decode cL_law 21 = .ok (.bipush 6, 2) := by decide +kernel
theorem dL_law_23 : decode cL_law 23 = .ok (.isub, 1) := by decide +kernel
theorem dL_law_24 : decode cL_law 24 = .ok (.if_icmp .gt 1381, 3) := by decide +kernel
theorem dL_law_27 : decode cL_law 27 = .ok (.aload_n 0, 1) := by decide +kernel
theorem dL_law_28 : decode cL_law 28 = .ok (.iload_n 3, 1) := by decide +kernel
theorem dL_law_29 : decode cL_law 29 = .ok (.iaload, 1) := by decide +kernel
theorem dL_law_30 : decode cL_law 30 = .ok (.bipush 63, 2) := by decide +kernel
theorem dL_law_32 : decode cL_law 32 = .ok (.iand, 1) := by decide +kernel
theorem dL_law_33 : decode cL_law 33 = .ok (.tableswitch 1366 0 34 #[155, 178, 191, 214, 257, 290, 323, 346, 369, 392, 415, 428, 461, 484, 517, 550, 623, 656, 729, 763, 786, 840, 894, 938, 982, 1006, 1039, 1082, 1095, 1138, 1161, 1184, 1227, 1270, 1333], 155) := by decide +kernel
theorem dL_law_188 : decode cL_law 188 = .ok (.aload_n 1, 1) := by decide +kernel
theorem dL_law_189 : decode cL_law 189 = .ok (.aload_n 0, 1) := by decide +kernel
theorem dL_law_190 : decode cL_law 190 = .ok (.iload_n 3, 1) := by decide +kernel
theorem dL_law_191 : decode cL_law 191 = .ok (.iconst 1, 1) := by decide +kernel
theorem dL_law_192 : decode cL_law 192 = .ok (.iadd, 1) := by decide +kernel
theorem dL_law_193 : decode cL_law 193 = .ok (.iaload, 1) := by decide +kernel
theorem dL_law_194 : decode cL_law 194 = .ok (.invokevirtual 13, 3) := by decide +kernel
theorem dL_law_197 : decode cL_law 197 = .ok (.aload_n 2, 1) := by decide +kernel
theorem dL_law_198 : decode cL_law 198 = .ok (.aload_n 0, 1) := by decide +kernel
theorem dL_law_199 : decode cL_law 199 = .ok (.iload_n 3, 1) := by decide +kernel
theorem dL_law_200 : decode cL_law 200 = .ok (.iconst 1, 1) := by decide +kernel
theorem dL_law_201 : decode cL_law 201 = .ok (.iadd, 1) := by decide +kernel
theorem dL_law_202 : decode cL_law 202 = .ok (.iaload, 1) := by decide +kernel
theorem dL_law_203 : decode cL_law 203 = .ok (.invokevirtual 17, 3) := by decide +kernel
theorem dL_law_206 : decode cL_law 206 = .ok (.if_icmp .eq 1193, 3) := by decide +kernel
theorem dL_law_209 : decode cL_law 209 = .ok (.iconst 0, 1) := by decide +kernel
theorem dL_law_210 : decode cL_law 210 = .ok (.ireturn, 1) := by decide +kernel
theorem dL_law_211 : decode cL_law 211 = .ok (.aload_n 1, 1) := by decide +kernel
theorem dL_law_212 : decode cL_law 212 = .ok (.invokevirtual 18, 3) := by decide +kernel
theorem dL_law_215 : decode cL_law 215 = .ok (.aload_n 2, 1) := by decide +kernel
theorem dL_law_216 : decode cL_law 216 = .ok (.invokevirtual 22, 3) := by decide +kernel
theorem dL_law_219 : decode cL_law 219 = .ok (.if_icmp .eq 1180, 3) := by decide +kernel
theorem dL_law_222 : decode cL_law 222 = .ok (.iconst 0, 1) := by decide +kernel
theorem dL_law_223 : decode cL_law 223 = .ok (.ireturn, 1) := by decide +kernel
theorem dL_law_224 : decode cL_law 224 = .ok (.aload_n 1, 1) := by decide +kernel
theorem dL_law_225 : decode cL_law 225 = .ok (.aload_n 0, 1) := by decide +kernel
theorem dL_law_226 : decode cL_law 226 = .ok (.iload_n 3, 1) := by decide +kernel
theorem dL_law_227 : decode cL_law 227 = .ok (.iconst 1, 1) := by decide +kernel
theorem dL_law_228 : decode cL_law 228 = .ok (.iadd, 1) := by decide +kernel
theorem dL_law_229 : decode cL_law 229 = .ok (.iaload, 1) := by decide +kernel
theorem dL_law_230 : decode cL_law 230 = .ok (.invokevirtual 23, 3) := by decide +kernel
theorem dL_law_233 : decode cL_law 233 = .ok (.aload_n 2, 1) := by decide +kernel
theorem dL_law_234 : decode cL_law 234 = .ok (.aload_n 0, 1) := by decide +kernel
theorem dL_law_235 : decode cL_law 235 = .ok (.iload_n 3, 1) := by decide +kernel
theorem dL_law_236 : decode cL_law 236 = .ok (.iconst 1, 1) := by decide +kernel
theorem dL_law_237 : decode cL_law 237 = .ok (.iadd, 1) := by decide +kernel
theorem dL_law_238 : decode cL_law 238 = .ok (.iaload, 1) := by decide +kernel
theorem dL_law_239 : decode cL_law 239 = .ok (.invokevirtual 26, 3) := by decide +kernel
theorem dL_law_242 : decode cL_law 242 = .ok (.if_icmp .eq 1157, 3) := by decide +kernel
theorem dL_law_245 : decode cL_law 245 = .ok (.iconst 0, 1) := by decide +kernel
theorem dL_law_246 : decode cL_law 246 = .ok (.ireturn, 1) := by decide +kernel
theorem dL_law_247 : decode cL_law 247 = .ok (.aload_n 1, 1) := by decide +kernel
theorem dL_law_248 : decode cL_law 248 = .ok (.aload_n 0, 1) := by decide +kernel
theorem dL_law_249 : decode cL_law 249 = .ok (.iload_n 3, 1) := by decide +kernel
theorem dL_law_250 : decode cL_law 250 = .ok (.iconst 1, 1) := by decide +kernel
theorem dL_law_251 : decode cL_law 251 = .ok (.iadd, 1) := by decide +kernel
theorem dL_law_252 : decode cL_law 252 = .ok (.iaload, 1) := by decide +kernel
theorem dL_law_253 : decode cL_law 253 = .ok (.aload_n 0, 1) := by decide +kernel
theorem dL_law_254 : decode cL_law 254 = .ok (.iload_n 3, 1) := by decide +kernel
theorem dL_law_255 : decode cL_law 255 = .ok (.iconst 2, 1) := by decide +kernel
theorem dL_law_256 : decode cL_law 256 = .ok (.iadd, 1) := by decide +kernel
theorem dL_law_257 : decode cL_law 257 = .ok (.iaload, 1) := by decide +kernel
theorem dL_law_258 : decode cL_law 258 = .ok (.aload_n 0, 1) := by decide +kernel
theorem dL_law_259 : decode cL_law 259 = .ok (.iload_n 3, 1) := by decide +kernel
theorem dL_law_260 : decode cL_law 260 = .ok (.iconst 3, 1) := by decide +kernel
theorem dL_law_261 : decode cL_law 261 = .ok (.iadd, 1) := by decide +kernel
theorem dL_law_262 : decode cL_law 262 = .ok (.iaload, 1) := by decide +kernel
theorem dL_law_263 : decode cL_law 263 = .ok (.invokevirtual 27, 3) := by decide +kernel
theorem dL_law_266 : decode cL_law 266 = .ok (.aload_n 2, 1) := by decide +kernel
theorem dL_law_267 : decode cL_law 267 = .ok (.aload_n 0, 1) := by decide +kernel
theorem dL_law_268 : decode cL_law 268 = .ok (.iload_n 3, 1) := by decide +kernel
theorem dL_law_269 : decode cL_law 269 = .ok (.iconst 1, 1) := by decide +kernel
theorem dL_law_270 : decode cL_law 270 = .ok (.iadd, 1) := by decide +kernel
theorem dL_law_271 : decode cL_law 271 = .ok (.iaload, 1) := by decide +kernel
theorem dL_law_272 : decode cL_law 272 = .ok (.aload_n 0, 1) := by decide +kernel
theorem dL_law_273 : decode cL_law 273 = .ok (.iload_n 3, 1) := by decide +kernel
theorem dL_law_274 : decode cL_law 274 = .ok (.iconst 2, 1) := by decide +kernel
theorem dL_law_275 : decode cL_law 275 = .ok (.iadd, 1) := by decide +kernel
theorem dL_law_276 : decode cL_law 276 = .ok (.iaload, 1) := by decide +kernel
theorem dL_law_277 : decode cL_law 277 = .ok (.aload_n 0, 1) := by decide +kernel
theorem dL_law_278 : decode cL_law 278 = .ok (.iload_n 3, 1) := by decide +kernel
theorem dL_law_279 : decode cL_law 279 = .ok (.iconst 3, 1) := by decide +kernel
theorem dL_law_280 : decode cL_law 280 = .ok (.iadd, 1) := by decide +kernel
theorem dL_law_281 : decode cL_law 281 = .ok (.iaload, 1) := by decide +kernel
theorem dL_law_282 : decode cL_law 282 = .ok (.invokevirtual 31, 3) := by decide +kernel
theorem dL_law_285 : decode cL_law 285 = .ok (.if_icmp .eq 1114, 3) := by decide +kernel
theorem dL_law_288 : decode cL_law 288 = .ok (.iconst 0, 1) := by decide +kernel
theorem dL_law_289 : decode cL_law 289 = .ok (.ireturn, 1) := by decide +kernel
theorem dL_law_290 : decode cL_law 290 = .ok (.aload_n 1, 1) := by decide +kernel
theorem dL_law_291 : decode cL_law 291 = .ok (.aload_n 0, 1) := by decide +kernel
theorem dL_law_292 : decode cL_law 292 = .ok (.iload_n 3, 1) := by decide +kernel
theorem dL_law_293 : decode cL_law 293 = .ok (.iconst 1, 1) := by decide +kernel
theorem dL_law_294 : decode cL_law 294 = .ok (.iadd, 1) := by decide +kernel
theorem dL_law_295 : decode cL_law 295 = .ok (.iaload, 1) := by decide +kernel
theorem dL_law_296 : decode cL_law 296 = .ok (.aload_n 0, 1) := by decide +kernel
theorem dL_law_297 : decode cL_law 297 = .ok (.iload_n 3, 1) := by decide +kernel
theorem dL_law_298 : decode cL_law 298 = .ok (.iconst 2, 1) := by decide +kernel
theorem dL_law_299 : decode cL_law 299 = .ok (.iadd, 1) := by decide +kernel
theorem dL_law_300 : decode cL_law 300 = .ok (.iaload, 1) := by decide +kernel
theorem dL_law_301 : decode cL_law 301 = .ok (.invokevirtual 32, 3) := by decide +kernel
theorem dL_law_304 : decode cL_law 304 = .ok (.aload_n 2, 1) := by decide +kernel
theorem dL_law_305 : decode cL_law 305 = .ok (.aload_n 0, 1) := by decide +kernel
theorem dL_law_306 : decode cL_law 306 = .ok (.iload_n 3, 1) := by decide +kernel
theorem dL_law_307 : decode cL_law 307 = .ok (.iconst 1, 1) := by decide +kernel
theorem dL_law_308 : decode cL_law 308 = .ok (.iadd, 1) := by decide +kernel
theorem dL_law_309 : decode cL_law 309 = .ok (.iaload, 1) := by decide +kernel
theorem dL_law_310 : decode cL_law 310 = .ok (.aload_n 0, 1) := by decide +kernel
theorem dL_law_311 : decode cL_law 311 = .ok (.iload_n 3, 1) := by decide +kernel
theorem dL_law_312 : decode cL_law 312 = .ok (.iconst 2, 1) := by decide +kernel
theorem dL_law_313 : decode cL_law 313 = .ok (.iadd, 1) := by decide +kernel
theorem dL_law_314 : decode cL_law 314 = .ok (.iaload, 1) := by decide +kernel
theorem dL_law_315 : decode cL_law 315 = .ok (.invokevirtual 36, 3) := by decide +kernel
theorem dL_law_318 : decode cL_law 318 = .ok (.if_icmp .eq 1081, 3) := by decide +kernel
theorem dL_law_321 : decode cL_law 321 = .ok (.iconst 0, 1) := by decide +kernel
theorem dL_law_322 : decode cL_law 322 = .ok (.ireturn, 1) := by decide +kernel
theorem dL_law_323 : decode cL_law 323 = .ok (.aload_n 1, 1) := by decide +kernel
theorem dL_law_324 : decode cL_law 324 = .ok (.aload_n 0, 1) := by decide +kernel
theorem dL_law_325 : decode cL_law 325 = .ok (.iload_n 3, 1) := by decide +kernel
theorem dL_law_326 : decode cL_law 326 = .ok (.iconst 1, 1) := by decide +kernel
theorem dL_law_327 : decode cL_law 327 = .ok (.iadd, 1) := by decide +kernel
theorem dL_law_328 : decode cL_law 328 = .ok (.iaload, 1) := by decide +kernel
theorem dL_law_329 : decode cL_law 329 = .ok (.aload_n 0, 1) := by decide +kernel
theorem dL_law_330 : decode cL_law 330 = .ok (.iload_n 3, 1) := by decide +kernel
theorem dL_law_331 : decode cL_law 331 = .ok (.iconst 2, 1) := by decide +kernel
theorem dL_law_332 : decode cL_law 332 = .ok (.iadd, 1) := by decide +kernel
theorem dL_law_333 : decode cL_law 333 = .ok (.iaload, 1) := by decide +kernel
theorem dL_law_334 : decode cL_law 334 = .ok (.invokevirtual 37, 3) := by decide +kernel
theorem dL_law_337 : decode cL_law 337 = .ok (.aload_n 2, 1) := by decide +kernel
theorem dL_law_338 : decode cL_law 338 = .ok (.aload_n 0, 1) := by decide +kernel
theorem dL_law_339 : decode cL_law 339 = .ok (.iload_n 3, 1) := by decide +kernel
theorem dL_law_340 : decode cL_law 340 = .ok (.iconst 1, 1) := by decide +kernel
theorem dL_law_341 : decode cL_law 341 = .ok (.iadd, 1) := by decide +kernel
theorem dL_law_342 : decode cL_law 342 = .ok (.iaload, 1) := by decide +kernel
theorem dL_law_343 : decode cL_law 343 = .ok (.aload_n 0, 1) := by decide +kernel
theorem dL_law_344 : decode cL_law 344 = .ok (.iload_n 3, 1) := by decide +kernel
theorem dL_law_345 : decode cL_law 345 = .ok (.iconst 2, 1) := by decide +kernel
theorem dL_law_346 : decode cL_law 346 = .ok (.iadd, 1) := by decide +kernel
theorem dL_law_347 : decode cL_law 347 = .ok (.iaload, 1) := by decide +kernel
theorem dL_law_348 : decode cL_law 348 = .ok (.invokevirtual 40, 3) := by decide +kernel
theorem dL_law_351 : decode cL_law 351 = .ok (.if_icmp .eq 1048, 3) := by decide +kernel
theorem dL_law_354 : decode cL_law 354 = .ok (.iconst 0, 1) := by decide +kernel
theorem dL_law_355 : decode cL_law 355 = .ok (.ireturn, 1) := by decide +kernel
theorem dL_law_356 : decode cL_law 356 = .ok (.aload_n 1, 1) := by decide +kernel
theorem dL_law_357 : decode cL_law 357 = .ok (.aload_n 0, 1) := by decide +kernel
theorem dL_law_358 : decode cL_law 358 = .ok (.iload_n 3, 1) := by decide +kernel
theorem dL_law_359 : decode cL_law 359 = .ok (.iconst 1, 1) := by decide +kernel
theorem dL_law_360 : decode cL_law 360 = .ok (.iadd, 1) := by decide +kernel
theorem dL_law_361 : decode cL_law 361 = .ok (.iaload, 1) := by decide +kernel
theorem dL_law_362 : decode cL_law 362 = .ok (.invokevirtual 41, 3) := by decide +kernel
theorem dL_law_365 : decode cL_law 365 = .ok (.aload_n 2, 1) := by decide +kernel
theorem dL_law_366 : decode cL_law 366 = .ok (.aload_n 0, 1) := by decide +kernel
theorem dL_law_367 : decode cL_law 367 = .ok (.iload_n 3, 1) := by decide +kernel
theorem dL_law_368 : decode cL_law 368 = .ok (.iconst 1, 1) := by decide +kernel
theorem dL_law_369 : decode cL_law 369 = .ok (.iadd, 1) := by decide +kernel
theorem dL_law_370 : decode cL_law 370 = .ok (.iaload, 1) := by decide +kernel
theorem dL_law_371 : decode cL_law 371 = .ok (.invokevirtual 44, 3) := by decide +kernel
theorem dL_law_374 : decode cL_law 374 = .ok (.if_icmp .eq 1025, 3) := by decide +kernel
theorem dL_law_377 : decode cL_law 377 = .ok (.iconst 0, 1) := by decide +kernel
theorem dL_law_378 : decode cL_law 378 = .ok (.ireturn, 1) := by decide +kernel
theorem dL_law_379 : decode cL_law 379 = .ok (.aload_n 1, 1) := by decide +kernel
theorem dL_law_380 : decode cL_law 380 = .ok (.aload_n 0, 1) := by decide +kernel
theorem dL_law_381 : decode cL_law 381 = .ok (.iload_n 3, 1) := by decide +kernel
theorem dL_law_382 : decode cL_law 382 = .ok (.iconst 1, 1) := by decide +kernel
theorem dL_law_383 : decode cL_law 383 = .ok (.iadd, 1) := by decide +kernel
theorem dL_law_384 : decode cL_law 384 = .ok (.iaload, 1) := by decide +kernel
theorem dL_law_385 : decode cL_law 385 = .ok (.invokevirtual 45, 3) := by decide +kernel
theorem dL_law_388 : decode cL_law 388 = .ok (.aload_n 2, 1) := by decide +kernel
theorem dL_law_389 : decode cL_law 389 = .ok (.aload_n 0, 1) := by decide +kernel
theorem dL_law_390 : decode cL_law 390 = .ok (.iload_n 3, 1) := by decide +kernel
theorem dL_law_391 : decode cL_law 391 = .ok (.iconst 1, 1) := by decide +kernel
theorem dL_law_392 : decode cL_law 392 = .ok (.iadd, 1) := by decide +kernel
theorem dL_law_393 : decode cL_law 393 = .ok (.iaload, 1) := by decide +kernel
theorem dL_law_394 : decode cL_law 394 = .ok (.invokevirtual 48, 3) := by decide +kernel
theorem dL_law_397 : decode cL_law 397 = .ok (.if_icmp .eq 1002, 3) := by decide +kernel
theorem dL_law_400 : decode cL_law 400 = .ok (.iconst 0, 1) := by decide +kernel
theorem dL_law_401 : decode cL_law 401 = .ok (.ireturn, 1) := by decide +kernel
theorem dL_law_402 : decode cL_law 402 = .ok (.aload_n 1, 1) := by decide +kernel
theorem dL_law_403 : decode cL_law 403 = .ok (.aload_n 0, 1) := by decide +kernel
theorem dL_law_404 : decode cL_law 404 = .ok (.iload_n 3, 1) := by decide +kernel
theorem dL_law_405 : decode cL_law 405 = .ok (.iconst 1, 1) := by decide +kernel
theorem dL_law_406 : decode cL_law 406 = .ok (.iadd, 1) := by decide +kernel
theorem dL_law_407 : decode cL_law 407 = .ok (.iaload, 1) := by decide +kernel
theorem dL_law_408 : decode cL_law 408 = .ok (.invokevirtual 49, 3) := by decide +kernel
theorem dL_law_411 : decode cL_law 411 = .ok (.aload_n 2, 1) := by decide +kernel
theorem dL_law_412 : decode cL_law 412 = .ok (.aload_n 0, 1) := by decide +kernel
theorem dL_law_413 : decode cL_law 413 = .ok (.iload_n 3, 1) := by decide +kernel
theorem dL_law_414 : decode cL_law 414 = .ok (.iconst 1, 1) := by decide +kernel
theorem dL_law_415 : decode cL_law 415 = .ok (.iadd, 1) := by decide +kernel
theorem dL_law_416 : decode cL_law 416 = .ok (.iaload, 1) := by decide +kernel
theorem dL_law_417 : decode cL_law 417 = .ok (.invokevirtual 52, 3) := by decide +kernel
theorem dL_law_420 : decode cL_law 420 = .ok (.if_icmp .eq 979, 3) := by decide +kernel
theorem dL_law_423 : decode cL_law 423 = .ok (.iconst 0, 1) := by decide +kernel
theorem dL_law_424 : decode cL_law 424 = .ok (.ireturn, 1) := by decide +kernel
theorem dL_law_425 : decode cL_law 425 = .ok (.aload_n 1, 1) := by decide +kernel
theorem dL_law_426 : decode cL_law 426 = .ok (.aload_n 0, 1) := by decide +kernel
theorem dL_law_427 : decode cL_law 427 = .ok (.iload_n 3, 1) := by decide +kernel
theorem dL_law_428 : decode cL_law 428 = .ok (.iconst 1, 1) := by decide +kernel
theorem dL_law_429 : decode cL_law 429 = .ok (.iadd, 1) := by decide +kernel
theorem dL_law_430 : decode cL_law 430 = .ok (.iaload, 1) := by decide +kernel
theorem dL_law_431 : decode cL_law 431 = .ok (.invokevirtual 53, 3) := by decide +kernel
theorem dL_law_434 : decode cL_law 434 = .ok (.aload_n 2, 1) := by decide +kernel
theorem dL_law_435 : decode cL_law 435 = .ok (.aload_n 0, 1) := by decide +kernel
theorem dL_law_436 : decode cL_law 436 = .ok (.iload_n 3, 1) := by decide +kernel
theorem dL_law_437 : decode cL_law 437 = .ok (.iconst 1, 1) := by decide +kernel
theorem dL_law_438 : decode cL_law 438 = .ok (.iadd, 1) := by decide +kernel
theorem dL_law_439 : decode cL_law 439 = .ok (.iaload, 1) := by decide +kernel
theorem dL_law_440 : decode cL_law 440 = .ok (.invokevirtual 56, 3) := by decide +kernel
theorem dL_law_443 : decode cL_law 443 = .ok (.if_icmp .eq 956, 3) := by decide +kernel
theorem dL_law_446 : decode cL_law 446 = .ok (.iconst 0, 1) := by decide +kernel
theorem dL_law_447 : decode cL_law 447 = .ok (.ireturn, 1) := by decide +kernel
theorem dL_law_448 : decode cL_law 448 = .ok (.aload_n 1, 1) := by decide +kernel
theorem dL_law_449 : decode cL_law 449 = .ok (.invokevirtual 57, 3) := by decide +kernel
theorem dL_law_452 : decode cL_law 452 = .ok (.aload_n 2, 1) := by decide +kernel
theorem dL_law_453 : decode cL_law 453 = .ok (.invokevirtual 60, 3) := by decide +kernel
theorem dL_law_456 : decode cL_law 456 = .ok (.if_icmp .eq 943, 3) := by decide +kernel
theorem dL_law_459 : decode cL_law 459 = .ok (.iconst 0, 1) := by decide +kernel
theorem dL_law_460 : decode cL_law 460 = .ok (.ireturn, 1) := by decide +kernel
theorem dL_law_461 : decode cL_law 461 = .ok (.aload_n 1, 1) := by decide +kernel
theorem dL_law_462 : decode cL_law 462 = .ok (.aload_n 0, 1) := by decide +kernel
theorem dL_law_463 : decode cL_law 463 = .ok (.iload_n 3, 1) := by decide +kernel
theorem dL_law_464 : decode cL_law 464 = .ok (.iconst 1, 1) := by decide +kernel
theorem dL_law_465 : decode cL_law 465 = .ok (.iadd, 1) := by decide +kernel
theorem dL_law_466 : decode cL_law 466 = .ok (.iaload, 1) := by decide +kernel
theorem dL_law_467 : decode cL_law 467 = .ok (.aload_n 0, 1) := by decide +kernel
theorem dL_law_468 : decode cL_law 468 = .ok (.iload_n 3, 1) := by decide +kernel
theorem dL_law_469 : decode cL_law 469 = .ok (.iconst 2, 1) := by decide +kernel
theorem dL_law_470 : decode cL_law 470 = .ok (.iadd, 1) := by decide +kernel
theorem dL_law_471 : decode cL_law 471 = .ok (.iaload, 1) := by decide +kernel
theorem dL_law_472 : decode cL_law 472 = .ok (.invokevirtual 61, 3) := by decide +kernel
theorem dL_law_475 : decode cL_law 475 = .ok (.aload_n 2, 1) := by decide +kernel
theorem dL_law_476 : decode cL_law 476 = .ok (.aload_n 0, 1) := by decide +kernel
theorem dL_law_477 : decode cL_law 477 = .ok (.iload_n 3, 1) := by decide +kernel
theorem dL_law_478 : decode cL_law 478 = .ok (.iconst 1, 1) := by decide +kernel
theorem dL_law_479 : decode cL_law 479 = .ok (.iadd, 1) := by decide +kernel
theorem dL_law_480 : decode cL_law 480 = .ok (.iaload, 1) := by decide +kernel
theorem dL_law_481 : decode cL_law 481 = .ok (.aload_n 0, 1) := by decide +kernel
theorem dL_law_482 : decode cL_law 482 = .ok (.iload_n 3, 1) := by decide +kernel
theorem dL_law_483 : decode cL_law 483 = .ok (.iconst 2, 1) := by decide +kernel
theorem dL_law_484 : decode cL_law 484 = .ok (.iadd, 1) := by decide +kernel
theorem dL_law_485 : decode cL_law 485 = .ok (.iaload, 1) := by decide +kernel
theorem dL_law_486 : decode cL_law 486 = .ok (.invokevirtual 64, 3) := by decide +kernel
theorem dL_law_489 : decode cL_law 489 = .ok (.if_icmp .eq 910, 3) := by decide +kernel
theorem dL_law_492 : decode cL_law 492 = .ok (.iconst 0, 1) := by decide +kernel
theorem dL_law_493 : decode cL_law 493 = .ok (.ireturn, 1) := by decide +kernel
theorem dL_law_494 : decode cL_law 494 = .ok (.aload_n 1, 1) := by decide +kernel
theorem dL_law_495 : decode cL_law 495 = .ok (.aload_n 0, 1) := by decide +kernel
theorem dL_law_496 : decode cL_law 496 = .ok (.iload_n 3, 1) := by decide +kernel
theorem dL_law_497 : decode cL_law 497 = .ok (.iconst 1, 1) := by decide +kernel
theorem dL_law_498 : decode cL_law 498 = .ok (.iadd, 1) := by decide +kernel
theorem dL_law_499 : decode cL_law 499 = .ok (.iaload, 1) := by decide +kernel
theorem dL_law_500 : decode cL_law 500 = .ok (.invokevirtual 65, 3) := by decide +kernel
theorem dL_law_503 : decode cL_law 503 = .ok (.aload_n 2, 1) := by decide +kernel
theorem dL_law_504 : decode cL_law 504 = .ok (.aload_n 0, 1) := by decide +kernel
theorem dL_law_505 : decode cL_law 505 = .ok (.iload_n 3, 1) := by decide +kernel
theorem dL_law_506 : decode cL_law 506 = .ok (.iconst 1, 1) := by decide +kernel
theorem dL_law_507 : decode cL_law 507 = .ok (.iadd, 1) := by decide +kernel
theorem dL_law_508 : decode cL_law 508 = .ok (.iaload, 1) := by decide +kernel
theorem dL_law_509 : decode cL_law 509 = .ok (.invokevirtual 68, 3) := by decide +kernel
theorem dL_law_512 : decode cL_law 512 = .ok (.if_icmp .eq 887, 3) := by decide +kernel
theorem dL_law_515 : decode cL_law 515 = .ok (.iconst 0, 1) := by decide +kernel
theorem dL_law_516 : decode cL_law 516 = .ok (.ireturn, 1) := by decide +kernel
theorem dL_law_517 : decode cL_law 517 = .ok (.aload_n 1, 1) := by decide +kernel
theorem dL_law_518 : decode cL_law 518 = .ok (.aload_n 0, 1) := by decide +kernel
theorem dL_law_519 : decode cL_law 519 = .ok (.iload_n 3, 1) := by decide +kernel
theorem dL_law_520 : decode cL_law 520 = .ok (.iconst 1, 1) := by decide +kernel
theorem dL_law_521 : decode cL_law 521 = .ok (.iadd, 1) := by decide +kernel
theorem dL_law_522 : decode cL_law 522 = .ok (.iaload, 1) := by decide +kernel
theorem dL_law_523 : decode cL_law 523 = .ok (.aload_n 0, 1) := by decide +kernel
theorem dL_law_524 : decode cL_law 524 = .ok (.iload_n 3, 1) := by decide +kernel
theorem dL_law_525 : decode cL_law 525 = .ok (.iconst 2, 1) := by decide +kernel
theorem dL_law_526 : decode cL_law 526 = .ok (.iadd, 1) := by decide +kernel
theorem dL_law_527 : decode cL_law 527 = .ok (.iaload, 1) := by decide +kernel
theorem dL_law_528 : decode cL_law 528 = .ok (.invokevirtual 69, 3) := by decide +kernel
theorem dL_law_531 : decode cL_law 531 = .ok (.aload_n 2, 1) := by decide +kernel
theorem dL_law_532 : decode cL_law 532 = .ok (.aload_n 0, 1) := by decide +kernel
theorem dL_law_533 : decode cL_law 533 = .ok (.iload_n 3, 1) := by decide +kernel
theorem dL_law_534 : decode cL_law 534 = .ok (.iconst 1, 1) := by decide +kernel
theorem dL_law_535 : decode cL_law 535 = .ok (.iadd, 1) := by decide +kernel
theorem dL_law_536 : decode cL_law 536 = .ok (.iaload, 1) := by decide +kernel
theorem dL_law_537 : decode cL_law 537 = .ok (.aload_n 0, 1) := by decide +kernel
theorem dL_law_538 : decode cL_law 538 = .ok (.iload_n 3, 1) := by decide +kernel
theorem dL_law_539 : decode cL_law 539 = .ok (.iconst 2, 1) := by decide +kernel
theorem dL_law_540 : decode cL_law 540 = .ok (.iadd, 1) := by decide +kernel
theorem dL_law_541 : decode cL_law 541 = .ok (.iaload, 1) := by decide +kernel
theorem dL_law_542 : decode cL_law 542 = .ok (.invokevirtual 72, 3) := by decide +kernel
theorem dL_law_545 : decode cL_law 545 = .ok (.if_icmp .eq 854, 3) := by decide +kernel
theorem dL_law_548 : decode cL_law 548 = .ok (.iconst 0, 1) := by decide +kernel
theorem dL_law_549 : decode cL_law 549 = .ok (.ireturn, 1) := by decide +kernel
theorem dL_law_550 : decode cL_law 550 = .ok (.aload_n 1, 1) := by decide +kernel
theorem dL_law_551 : decode cL_law 551 = .ok (.aload_n 0, 1) := by decide +kernel
theorem dL_law_552 : decode cL_law 552 = .ok (.iload_n 3, 1) := by decide +kernel
theorem dL_law_553 : decode cL_law 553 = .ok (.iconst 1, 1) := by decide +kernel
theorem dL_law_554 : decode cL_law 554 = .ok (.iadd, 1) := by decide +kernel
theorem dL_law_555 : decode cL_law 555 = .ok (.iaload, 1) := by decide +kernel
theorem dL_law_556 : decode cL_law 556 = .ok (.aload_n 0, 1) := by decide +kernel
theorem dL_law_557 : decode cL_law 557 = .ok (.iload_n 3, 1) := by decide +kernel
theorem dL_law_558 : decode cL_law 558 = .ok (.iconst 2, 1) := by decide +kernel
theorem dL_law_559 : decode cL_law 559 = .ok (.iadd, 1) := by decide +kernel
theorem dL_law_560 : decode cL_law 560 = .ok (.iaload, 1) := by decide +kernel
theorem dL_law_561 : decode cL_law 561 = .ok (.invokevirtual 73, 3) := by decide +kernel
theorem dL_law_564 : decode cL_law 564 = .ok (.aload_n 2, 1) := by decide +kernel
theorem dL_law_565 : decode cL_law 565 = .ok (.aload_n 0, 1) := by decide +kernel
theorem dL_law_566 : decode cL_law 566 = .ok (.iload_n 3, 1) := by decide +kernel
theorem dL_law_567 : decode cL_law 567 = .ok (.iconst 1, 1) := by decide +kernel
theorem dL_law_568 : decode cL_law 568 = .ok (.iadd, 1) := by decide +kernel
theorem dL_law_569 : decode cL_law 569 = .ok (.iaload, 1) := by decide +kernel
theorem dL_law_570 : decode cL_law 570 = .ok (.aload_n 0, 1) := by decide +kernel
theorem dL_law_571 : decode cL_law 571 = .ok (.iload_n 3, 1) := by decide +kernel
theorem dL_law_572 : decode cL_law 572 = .ok (.iconst 2, 1) := by decide +kernel
theorem dL_law_573 : decode cL_law 573 = .ok (.iadd, 1) := by decide +kernel
theorem dL_law_574 : decode cL_law 574 = .ok (.iaload, 1) := by decide +kernel
theorem dL_law_575 : decode cL_law 575 = .ok (.invokevirtual 76, 3) := by decide +kernel
theorem dL_law_578 : decode cL_law 578 = .ok (.if_icmp .eq 821, 3) := by decide +kernel
theorem dL_law_581 : decode cL_law 581 = .ok (.iconst 0, 1) := by decide +kernel
theorem dL_law_582 : decode cL_law 582 = .ok (.ireturn, 1) := by decide +kernel
theorem dL_law_583 : decode cL_law 583 = .ok (.aload_n 1, 1) := by decide +kernel
theorem dL_law_584 : decode cL_law 584 = .ok (.aload_n 0, 1) := by decide +kernel
theorem dL_law_585 : decode cL_law 585 = .ok (.iload_n 3, 1) := by decide +kernel
theorem dL_law_586 : decode cL_law 586 = .ok (.iconst 1, 1) := by decide +kernel
theorem dL_law_587 : decode cL_law 587 = .ok (.iadd, 1) := by decide +kernel
theorem dL_law_588 : decode cL_law 588 = .ok (.iaload, 1) := by decide +kernel
theorem dL_law_589 : decode cL_law 589 = .ok (.aload_n 0, 1) := by decide +kernel
theorem dL_law_590 : decode cL_law 590 = .ok (.iload_n 3, 1) := by decide +kernel
theorem dL_law_591 : decode cL_law 591 = .ok (.iconst 2, 1) := by decide +kernel
theorem dL_law_592 : decode cL_law 592 = .ok (.iadd, 1) := by decide +kernel
theorem dL_law_593 : decode cL_law 593 = .ok (.iaload, 1) := by decide +kernel
theorem dL_law_594 : decode cL_law 594 = .ok (.i2l, 1) := by decide +kernel
theorem dL_law_595 : decode cL_law 595 = .ok (.bipush 32, 2) := by decide +kernel
theorem dL_law_597 : decode cL_law 597 = .ok (.lshl, 1) := by decide +kernel
theorem dL_law_598 : decode cL_law 598 = .ok (.aload_n 0, 1) := by decide +kernel
theorem dL_law_599 : decode cL_law 599 = .ok (.iload_n 3, 1) := by decide +kernel
theorem dL_law_600 : decode cL_law 600 = .ok (.iconst 3, 1) := by decide +kernel
theorem dL_law_601 : decode cL_law 601 = .ok (.iadd, 1) := by decide +kernel
theorem dL_law_602 : decode cL_law 602 = .ok (.iaload, 1) := by decide +kernel
theorem dL_law_603 : decode cL_law 603 = .ok (.i2l, 1) := by decide +kernel
theorem dL_law_604 : decode cL_law 604 = .ok (.ldc2_w 77, 3) := by decide +kernel
theorem dL_law_607 : decode cL_law 607 = .ok (.land, 1) := by decide +kernel
theorem dL_law_608 : decode cL_law 608 = .ok (.lor, 1) := by decide +kernel
theorem dL_law_609 : decode cL_law 609 = .ok (.aload_n 0, 1) := by decide +kernel
theorem dL_law_610 : decode cL_law 610 = .ok (.iload_n 3, 1) := by decide +kernel
theorem dL_law_611 : decode cL_law 611 = .ok (.iconst 4, 1) := by decide +kernel
theorem dL_law_612 : decode cL_law 612 = .ok (.iadd, 1) := by decide +kernel
theorem dL_law_613 : decode cL_law 613 = .ok (.iaload, 1) := by decide +kernel
theorem dL_law_614 : decode cL_law 614 = .ok (.invokevirtual 79, 3) := by decide +kernel
theorem dL_law_617 : decode cL_law 617 = .ok (.aload_n 2, 1) := by decide +kernel
theorem dL_law_618 : decode cL_law 618 = .ok (.aload_n 0, 1) := by decide +kernel
theorem dL_law_619 : decode cL_law 619 = .ok (.iload_n 3, 1) := by decide +kernel
theorem dL_law_620 : decode cL_law 620 = .ok (.iconst 1, 1) := by decide +kernel
theorem dL_law_621 : decode cL_law 621 = .ok (.iadd, 1) := by decide +kernel
theorem dL_law_622 : decode cL_law 622 = .ok (.iaload, 1) := by decide +kernel
theorem dL_law_623 : decode cL_law 623 = .ok (.aload_n 0, 1) := by decide +kernel
theorem dL_law_624 : decode cL_law 624 = .ok (.iload_n 3, 1) := by decide +kernel
theorem dL_law_625 : decode cL_law 625 = .ok (.iconst 2, 1) := by decide +kernel
theorem dL_law_626 : decode cL_law 626 = .ok (.iadd, 1) := by decide +kernel
theorem dL_law_627 : decode cL_law 627 = .ok (.iaload, 1) := by decide +kernel
theorem dL_law_628 : decode cL_law 628 = .ok (.i2l, 1) := by decide +kernel
theorem dL_law_629 : decode cL_law 629 = .ok (.bipush 32, 2) := by decide +kernel
theorem dL_law_631 : decode cL_law 631 = .ok (.lshl, 1) := by decide +kernel
theorem dL_law_632 : decode cL_law 632 = .ok (.aload_n 0, 1) := by decide +kernel
theorem dL_law_633 : decode cL_law 633 = .ok (.iload_n 3, 1) := by decide +kernel
theorem dL_law_634 : decode cL_law 634 = .ok (.iconst 3, 1) := by decide +kernel
theorem dL_law_635 : decode cL_law 635 = .ok (.iadd, 1) := by decide +kernel
theorem dL_law_636 : decode cL_law 636 = .ok (.iaload, 1) := by decide +kernel
theorem dL_law_637 : decode cL_law 637 = .ok (.i2l, 1) := by decide +kernel
theorem dL_law_638 : decode cL_law 638 = .ok (.ldc2_w 77, 3) := by decide +kernel
theorem dL_law_641 : decode cL_law 641 = .ok (.land, 1) := by decide +kernel
theorem dL_law_642 : decode cL_law 642 = .ok (.lor, 1) := by decide +kernel
theorem dL_law_643 : decode cL_law 643 = .ok (.aload_n 0, 1) := by decide +kernel
theorem dL_law_644 : decode cL_law 644 = .ok (.iload_n 3, 1) := by decide +kernel
theorem dL_law_645 : decode cL_law 645 = .ok (.iconst 4, 1) := by decide +kernel
theorem dL_law_646 : decode cL_law 646 = .ok (.iadd, 1) := by decide +kernel
theorem dL_law_647 : decode cL_law 647 = .ok (.iaload, 1) := by decide +kernel
theorem dL_law_648 : decode cL_law 648 = .ok (.invokevirtual 83, 3) := by decide +kernel
theorem dL_law_651 : decode cL_law 651 = .ok (.if_icmp .eq 748, 3) := by decide +kernel
theorem dL_law_654 : decode cL_law 654 = .ok (.iconst 0, 1) := by decide +kernel
theorem dL_law_655 : decode cL_law 655 = .ok (.ireturn, 1) := by decide +kernel
theorem dL_law_656 : decode cL_law 656 = .ok (.aload_n 1, 1) := by decide +kernel
theorem dL_law_657 : decode cL_law 657 = .ok (.aload_n 0, 1) := by decide +kernel
theorem dL_law_658 : decode cL_law 658 = .ok (.iload_n 3, 1) := by decide +kernel
theorem dL_law_659 : decode cL_law 659 = .ok (.iconst 1, 1) := by decide +kernel
theorem dL_law_660 : decode cL_law 660 = .ok (.iadd, 1) := by decide +kernel
theorem dL_law_661 : decode cL_law 661 = .ok (.iaload, 1) := by decide +kernel
theorem dL_law_662 : decode cL_law 662 = .ok (.aload_n 0, 1) := by decide +kernel
theorem dL_law_663 : decode cL_law 663 = .ok (.iload_n 3, 1) := by decide +kernel
theorem dL_law_664 : decode cL_law 664 = .ok (.iconst 2, 1) := by decide +kernel
theorem dL_law_665 : decode cL_law 665 = .ok (.iadd, 1) := by decide +kernel
theorem dL_law_666 : decode cL_law 666 = .ok (.iaload, 1) := by decide +kernel
theorem dL_law_667 : decode cL_law 667 = .ok (.invokevirtual 84, 3) := by decide +kernel
theorem dL_law_670 : decode cL_law 670 = .ok (.aload_n 2, 1) := by decide +kernel
theorem dL_law_671 : decode cL_law 671 = .ok (.aload_n 0, 1) := by decide +kernel
theorem dL_law_672 : decode cL_law 672 = .ok (.iload_n 3, 1) := by decide +kernel
theorem dL_law_673 : decode cL_law 673 = .ok (.iconst 1, 1) := by decide +kernel
theorem dL_law_674 : decode cL_law 674 = .ok (.iadd, 1) := by decide +kernel
theorem dL_law_675 : decode cL_law 675 = .ok (.iaload, 1) := by decide +kernel
theorem dL_law_676 : decode cL_law 676 = .ok (.aload_n 0, 1) := by decide +kernel
theorem dL_law_677 : decode cL_law 677 = .ok (.iload_n 3, 1) := by decide +kernel
theorem dL_law_678 : decode cL_law 678 = .ok (.iconst 2, 1) := by decide +kernel
theorem dL_law_679 : decode cL_law 679 = .ok (.iadd, 1) := by decide +kernel
theorem dL_law_680 : decode cL_law 680 = .ok (.iaload, 1) := by decide +kernel
theorem dL_law_681 : decode cL_law 681 = .ok (.invokevirtual 87, 3) := by decide +kernel
theorem dL_law_684 : decode cL_law 684 = .ok (.if_icmp .eq 715, 3) := by decide +kernel
theorem dL_law_687 : decode cL_law 687 = .ok (.iconst 0, 1) := by decide +kernel
theorem dL_law_688 : decode cL_law 688 = .ok (.ireturn, 1) := by decide +kernel
theorem dL_law_689 : decode cL_law 689 = .ok (.aload_n 1, 1) := by decide +kernel
theorem dL_law_690 : decode cL_law 690 = .ok (.aload_n 0, 1) := by decide +kernel
theorem dL_law_691 : decode cL_law 691 = .ok (.iload_n 3, 1) := by decide +kernel
theorem dL_law_692 : decode cL_law 692 = .ok (.iconst 1, 1) := by decide +kernel
theorem dL_law_693 : decode cL_law 693 = .ok (.iadd, 1) := by decide +kernel
theorem dL_law_694 : decode cL_law 694 = .ok (.iaload, 1) := by decide +kernel
theorem dL_law_695 : decode cL_law 695 = .ok (.aload_n 0, 1) := by decide +kernel
theorem dL_law_696 : decode cL_law 696 = .ok (.iload_n 3, 1) := by decide +kernel
theorem dL_law_697 : decode cL_law 697 = .ok (.iconst 2, 1) := by decide +kernel
theorem dL_law_698 : decode cL_law 698 = .ok (.iadd, 1) := by decide +kernel
theorem dL_law_699 : decode cL_law 699 = .ok (.iaload, 1) := by decide +kernel
theorem dL_law_700 : decode cL_law 700 = .ok (.aload_n 0, 1) := by decide +kernel
theorem dL_law_701 : decode cL_law 701 = .ok (.iload_n 3, 1) := by decide +kernel
theorem dL_law_702 : decode cL_law 702 = .ok (.iconst 3, 1) := by decide +kernel
theorem dL_law_703 : decode cL_law 703 = .ok (.iadd, 1) := by decide +kernel
theorem dL_law_704 : decode cL_law 704 = .ok (.iaload, 1) := by decide +kernel
theorem dL_law_705 : decode cL_law 705 = .ok (.i2l, 1) := by decide +kernel
theorem dL_law_706 : decode cL_law 706 = .ok (.bipush 32, 2) := by decide +kernel
theorem dL_law_708 : decode cL_law 708 = .ok (.lshl, 1) := by decide +kernel
theorem dL_law_709 : decode cL_law 709 = .ok (.aload_n 0, 1) := by decide +kernel
theorem dL_law_710 : decode cL_law 710 = .ok (.iload_n 3, 1) := by decide +kernel
theorem dL_law_711 : decode cL_law 711 = .ok (.iconst 4, 1) := by decide +kernel
theorem dL_law_712 : decode cL_law 712 = .ok (.iadd, 1) := by decide +kernel
theorem dL_law_713 : decode cL_law 713 = .ok (.iaload, 1) := by decide +kernel
theorem dL_law_714 : decode cL_law 714 = .ok (.i2l, 1) := by decide +kernel
theorem dL_law_715 : decode cL_law 715 = .ok (.ldc2_w 77, 3) := by decide +kernel
theorem dL_law_718 : decode cL_law 718 = .ok (.land, 1) := by decide +kernel
theorem dL_law_719 : decode cL_law 719 = .ok (.lor, 1) := by decide +kernel
theorem dL_law_720 : decode cL_law 720 = .ok (.invokevirtual 88, 3) := by decide +kernel
theorem dL_law_723 : decode cL_law 723 = .ok (.aload_n 2, 1) := by decide +kernel
theorem dL_law_724 : decode cL_law 724 = .ok (.aload_n 0, 1) := by decide +kernel
theorem dL_law_725 : decode cL_law 725 = .ok (.iload_n 3, 1) := by decide +kernel
theorem dL_law_726 : decode cL_law 726 = .ok (.iconst 1, 1) := by decide +kernel
theorem dL_law_727 : decode cL_law 727 = .ok (.iadd, 1) := by decide +kernel
theorem dL_law_728 : decode cL_law 728 = .ok (.iaload, 1) := by decide +kernel
theorem dL_law_729 : decode cL_law 729 = .ok (.aload_n 0, 1) := by decide +kernel
theorem dL_law_730 : decode cL_law 730 = .ok (.iload_n 3, 1) := by decide +kernel
theorem dL_law_731 : decode cL_law 731 = .ok (.iconst 2, 1) := by decide +kernel
theorem dL_law_732 : decode cL_law 732 = .ok (.iadd, 1) := by decide +kernel
theorem dL_law_733 : decode cL_law 733 = .ok (.iaload, 1) := by decide +kernel
theorem dL_law_734 : decode cL_law 734 = .ok (.aload_n 0, 1) := by decide +kernel
theorem dL_law_735 : decode cL_law 735 = .ok (.iload_n 3, 1) := by decide +kernel
theorem dL_law_736 : decode cL_law 736 = .ok (.iconst 3, 1) := by decide +kernel
theorem dL_law_737 : decode cL_law 737 = .ok (.iadd, 1) := by decide +kernel
theorem dL_law_738 : decode cL_law 738 = .ok (.iaload, 1) := by decide +kernel
theorem dL_law_739 : decode cL_law 739 = .ok (.i2l, 1) := by decide +kernel
theorem dL_law_740 : decode cL_law 740 = .ok (.bipush 32, 2) := by decide +kernel
theorem dL_law_742 : decode cL_law 742 = .ok (.lshl, 1) := by decide +kernel
theorem dL_law_743 : decode cL_law 743 = .ok (.aload_n 0, 1) := by decide +kernel
theorem dL_law_744 : decode cL_law 744 = .ok (.iload_n 3, 1) := by decide +kernel
theorem dL_law_745 : decode cL_law 745 = .ok (.iconst 4, 1) := by decide +kernel
theorem dL_law_746 : decode cL_law 746 = .ok (.iadd, 1) := by decide +kernel
theorem dL_law_747 : decode cL_law 747 = .ok (.iaload, 1) := by decide +kernel
theorem dL_law_748 : decode cL_law 748 = .ok (.i2l, 1) := by decide +kernel
theorem dL_law_749 : decode cL_law 749 = .ok (.ldc2_w 77, 3) := by decide +kernel
theorem dL_law_752 : decode cL_law 752 = .ok (.land, 1) := by decide +kernel
theorem dL_law_753 : decode cL_law 753 = .ok (.lor, 1) := by decide +kernel
theorem dL_law_754 : decode cL_law 754 = .ok (.invokevirtual 92, 3) := by decide +kernel
theorem dL_law_757 : decode cL_law 757 = .ok (.if_icmp .eq 642, 3) := by decide +kernel
theorem dL_law_760 : decode cL_law 760 = .ok (.iconst 0, 1) := by decide +kernel
theorem dL_law_761 : decode cL_law 761 = .ok (.ireturn, 1) := by decide +kernel
theorem dL_law_762 : decode cL_law 762 = .ok (.aload_n 1, 1) := by decide +kernel
theorem dL_law_763 : decode cL_law 763 = .ok (.aload_n 0, 1) := by decide +kernel
theorem dL_law_764 : decode cL_law 764 = .ok (.iload_n 3, 1) := by decide +kernel
theorem dL_law_765 : decode cL_law 765 = .ok (.iconst 1, 1) := by decide +kernel
theorem dL_law_766 : decode cL_law 766 = .ok (.iadd, 1) := by decide +kernel
theorem dL_law_767 : decode cL_law 767 = .ok (.iaload, 1) := by decide +kernel
theorem dL_law_768 : decode cL_law 768 = .ok (.aload_n 0, 1) := by decide +kernel
theorem dL_law_769 : decode cL_law 769 = .ok (.iload_n 3, 1) := by decide +kernel
theorem dL_law_770 : decode cL_law 770 = .ok (.iconst 2, 1) := by decide +kernel
theorem dL_law_771 : decode cL_law 771 = .ok (.iadd, 1) := by decide +kernel
theorem dL_law_772 : decode cL_law 772 = .ok (.iaload, 1) := by decide +kernel
theorem dL_law_773 : decode cL_law 773 = .ok (.invokevirtual 93, 3) := by decide +kernel
theorem dL_law_776 : decode cL_law 776 = .ok (.aload_n 2, 1) := by decide +kernel
theorem dL_law_777 : decode cL_law 777 = .ok (.aload_n 0, 1) := by decide +kernel
theorem dL_law_778 : decode cL_law 778 = .ok (.iload_n 3, 1) := by decide +kernel
theorem dL_law_779 : decode cL_law 779 = .ok (.iconst 1, 1) := by decide +kernel
theorem dL_law_780 : decode cL_law 780 = .ok (.iadd, 1) := by decide +kernel
theorem dL_law_781 : decode cL_law 781 = .ok (.iaload, 1) := by decide +kernel
theorem dL_law_782 : decode cL_law 782 = .ok (.aload_n 0, 1) := by decide +kernel
theorem dL_law_783 : decode cL_law 783 = .ok (.iload_n 3, 1) := by decide +kernel
theorem dL_law_784 : decode cL_law 784 = .ok (.iconst 2, 1) := by decide +kernel
theorem dL_law_785 : decode cL_law 785 = .ok (.iadd, 1) := by decide +kernel
theorem dL_law_786 : decode cL_law 786 = .ok (.iaload, 1) := by decide +kernel
theorem dL_law_787 : decode cL_law 787 = .ok (.invokevirtual 97, 3) := by decide +kernel
theorem dL_law_790 : decode cL_law 790 = .ok (.lcmp, 1) := by decide +kernel
theorem dL_law_791 : decode cL_law 791 = .ok (.ifCond .eq 608, 3) := by decide +kernel
theorem dL_law_794 : decode cL_law 794 = .ok (.iconst 0, 1) := by decide +kernel
theorem dL_law_795 : decode cL_law 795 = .ok (.ireturn, 1) := by decide +kernel
theorem dL_law_796 : decode cL_law 796 = .ok (.aload_n 1, 1) := by decide +kernel
theorem dL_law_797 : decode cL_law 797 = .ok (.aload_n 0, 1) := by decide +kernel
theorem dL_law_798 : decode cL_law 798 = .ok (.iload_n 3, 1) := by decide +kernel
theorem dL_law_799 : decode cL_law 799 = .ok (.iconst 1, 1) := by decide +kernel
theorem dL_law_800 : decode cL_law 800 = .ok (.iadd, 1) := by decide +kernel
theorem dL_law_801 : decode cL_law 801 = .ok (.iaload, 1) := by decide +kernel
theorem dL_law_802 : decode cL_law 802 = .ok (.invokevirtual 98, 3) := by decide +kernel
theorem dL_law_805 : decode cL_law 805 = .ok (.aload_n 2, 1) := by decide +kernel
theorem dL_law_806 : decode cL_law 806 = .ok (.aload_n 0, 1) := by decide +kernel
theorem dL_law_807 : decode cL_law 807 = .ok (.iload_n 3, 1) := by decide +kernel
theorem dL_law_808 : decode cL_law 808 = .ok (.iconst 1, 1) := by decide +kernel
theorem dL_law_809 : decode cL_law 809 = .ok (.iadd, 1) := by decide +kernel
theorem dL_law_810 : decode cL_law 810 = .ok (.iaload, 1) := by decide +kernel
theorem dL_law_811 : decode cL_law 811 = .ok (.invokevirtual 101, 3) := by decide +kernel
theorem dL_law_814 : decode cL_law 814 = .ok (.if_icmp .eq 585, 3) := by decide +kernel
theorem dL_law_817 : decode cL_law 817 = .ok (.iconst 0, 1) := by decide +kernel
theorem dL_law_818 : decode cL_law 818 = .ok (.ireturn, 1) := by decide +kernel
theorem dL_law_819 : decode cL_law 819 = .ok (.aload_n 1, 1) := by decide +kernel
theorem dL_law_820 : decode cL_law 820 = .ok (.aload_n 0, 1) := by decide +kernel
theorem dL_law_821 : decode cL_law 821 = .ok (.iload_n 3, 1) := by decide +kernel
theorem dL_law_822 : decode cL_law 822 = .ok (.iconst 1, 1) := by decide +kernel
theorem dL_law_823 : decode cL_law 823 = .ok (.iadd, 1) := by decide +kernel
theorem dL_law_824 : decode cL_law 824 = .ok (.iaload, 1) := by decide +kernel
theorem dL_law_825 : decode cL_law 825 = .ok (.aload_n 0, 1) := by decide +kernel
theorem dL_law_826 : decode cL_law 826 = .ok (.iload_n 3, 1) := by decide +kernel
theorem dL_law_827 : decode cL_law 827 = .ok (.iconst 2, 1) := by decide +kernel
theorem dL_law_828 : decode cL_law 828 = .ok (.iadd, 1) := by decide +kernel
theorem dL_law_829 : decode cL_law 829 = .ok (.iaload, 1) := by decide +kernel
theorem dL_law_830 : decode cL_law 830 = .ok (.aload_n 0, 1) := by decide +kernel
theorem dL_law_831 : decode cL_law 831 = .ok (.iload_n 3, 1) := by decide +kernel
theorem dL_law_832 : decode cL_law 832 = .ok (.iconst 3, 1) := by decide +kernel
theorem dL_law_833 : decode cL_law 833 = .ok (.iadd, 1) := by decide +kernel
theorem dL_law_834 : decode cL_law 834 = .ok (.iaload, 1) := by decide +kernel
theorem dL_law_835 : decode cL_law 835 = .ok (.aload_n 0, 1) := by decide +kernel
theorem dL_law_836 : decode cL_law 836 = .ok (.iload_n 3, 1) := by decide +kernel
theorem dL_law_837 : decode cL_law 837 = .ok (.iconst 4, 1) := by decide +kernel
theorem dL_law_838 : decode cL_law 838 = .ok (.iadd, 1) := by decide +kernel
theorem dL_law_839 : decode cL_law 839 = .ok (.iaload, 1) := by decide +kernel
theorem dL_law_840 : decode cL_law 840 = .ok (.invokevirtual 102, 3) := by decide +kernel
theorem dL_law_843 : decode cL_law 843 = .ok (.aload_n 2, 1) := by decide +kernel
theorem dL_law_844 : decode cL_law 844 = .ok (.aload_n 0, 1) := by decide +kernel
theorem dL_law_845 : decode cL_law 845 = .ok (.iload_n 3, 1) := by decide +kernel
theorem dL_law_846 : decode cL_law 846 = .ok (.iconst 1, 1) := by decide +kernel
theorem dL_law_847 : decode cL_law 847 = .ok (.iadd, 1) := by decide +kernel
theorem dL_law_848 : decode cL_law 848 = .ok (.iaload, 1) := by decide +kernel
theorem dL_law_849 : decode cL_law 849 = .ok (.aload_n 0, 1) := by decide +kernel
theorem dL_law_850 : decode cL_law 850 = .ok (.iload_n 3, 1) := by decide +kernel
theorem dL_law_851 : decode cL_law 851 = .ok (.iconst 2, 1) := by decide +kernel
theorem dL_law_852 : decode cL_law 852 = .ok (.iadd, 1) := by decide +kernel
theorem dL_law_853 : decode cL_law 853 = .ok (.iaload, 1) := by decide +kernel
theorem dL_law_854 : decode cL_law 854 = .ok (.aload_n 0, 1) := by decide +kernel
theorem dL_law_855 : decode cL_law 855 = .ok (.iload_n 3, 1) := by decide +kernel
theorem dL_law_856 : decode cL_law 856 = .ok (.iconst 3, 1) := by decide +kernel
theorem dL_law_857 : decode cL_law 857 = .ok (.iadd, 1) := by decide +kernel
theorem dL_law_858 : decode cL_law 858 = .ok (.iaload, 1) := by decide +kernel
theorem dL_law_859 : decode cL_law 859 = .ok (.aload_n 0, 1) := by decide +kernel
theorem dL_law_860 : decode cL_law 860 = .ok (.iload_n 3, 1) := by decide +kernel
theorem dL_law_861 : decode cL_law 861 = .ok (.iconst 4, 1) := by decide +kernel
theorem dL_law_862 : decode cL_law 862 = .ok (.iadd, 1) := by decide +kernel
theorem dL_law_863 : decode cL_law 863 = .ok (.iaload, 1) := by decide +kernel
theorem dL_law_864 : decode cL_law 864 = .ok (.invokevirtual 106, 3) := by decide +kernel
theorem dL_law_867 : decode cL_law 867 = .ok (.lcmp, 1) := by decide +kernel
theorem dL_law_868 : decode cL_law 868 = .ok (.ifCond .eq 531, 3) := by decide +kernel
theorem dL_law_871 : decode cL_law 871 = .ok (.iconst 0, 1) := by decide +kernel
theorem dL_law_872 : decode cL_law 872 = .ok (.ireturn, 1) := by decide +kernel
theorem dL_law_873 : decode cL_law 873 = .ok (.aload_n 1, 1) := by decide +kernel
theorem dL_law_874 : decode cL_law 874 = .ok (.aload_n 0, 1) := by decide +kernel
theorem dL_law_875 : decode cL_law 875 = .ok (.iload_n 3, 1) := by decide +kernel
theorem dL_law_876 : decode cL_law 876 = .ok (.iconst 1, 1) := by decide +kernel
theorem dL_law_877 : decode cL_law 877 = .ok (.iadd, 1) := by decide +kernel
theorem dL_law_878 : decode cL_law 878 = .ok (.iaload, 1) := by decide +kernel
theorem dL_law_879 : decode cL_law 879 = .ok (.aload_n 0, 1) := by decide +kernel
theorem dL_law_880 : decode cL_law 880 = .ok (.iload_n 3, 1) := by decide +kernel
theorem dL_law_881 : decode cL_law 881 = .ok (.iconst 2, 1) := by decide +kernel
theorem dL_law_882 : decode cL_law 882 = .ok (.iadd, 1) := by decide +kernel
theorem dL_law_883 : decode cL_law 883 = .ok (.iaload, 1) := by decide +kernel
theorem dL_law_884 : decode cL_law 884 = .ok (.aload_n 0, 1) := by decide +kernel
theorem dL_law_885 : decode cL_law 885 = .ok (.iload_n 3, 1) := by decide +kernel
theorem dL_law_886 : decode cL_law 886 = .ok (.iconst 3, 1) := by decide +kernel
theorem dL_law_887 : decode cL_law 887 = .ok (.iadd, 1) := by decide +kernel
theorem dL_law_888 : decode cL_law 888 = .ok (.iaload, 1) := by decide +kernel
theorem dL_law_889 : decode cL_law 889 = .ok (.aload_n 0, 1) := by decide +kernel
theorem dL_law_890 : decode cL_law 890 = .ok (.iload_n 3, 1) := by decide +kernel
theorem dL_law_891 : decode cL_law 891 = .ok (.iconst 4, 1) := by decide +kernel
theorem dL_law_892 : decode cL_law 892 = .ok (.iadd, 1) := by decide +kernel
theorem dL_law_893 : decode cL_law 893 = .ok (.iaload, 1) := by decide +kernel
theorem dL_law_894 : decode cL_law 894 = .ok (.invokevirtual 107, 3) := by decide +kernel
theorem dL_law_897 : decode cL_law 897 = .ok (.aload_n 2, 1) := by decide +kernel
theorem dL_law_898 : decode cL_law 898 = .ok (.aload_n 0, 1) := by decide +kernel
theorem dL_law_899 : decode cL_law 899 = .ok (.iload_n 3, 1) := by decide +kernel
theorem dL_law_900 : decode cL_law 900 = .ok (.iconst 1, 1) := by decide +kernel
theorem dL_law_901 : decode cL_law 901 = .ok (.iadd, 1) := by decide +kernel
theorem dL_law_902 : decode cL_law 902 = .ok (.iaload, 1) := by decide +kernel
theorem dL_law_903 : decode cL_law 903 = .ok (.aload_n 0, 1) := by decide +kernel
theorem dL_law_904 : decode cL_law 904 = .ok (.iload_n 3, 1) := by decide +kernel
theorem dL_law_905 : decode cL_law 905 = .ok (.iconst 2, 1) := by decide +kernel
theorem dL_law_906 : decode cL_law 906 = .ok (.iadd, 1) := by decide +kernel
theorem dL_law_907 : decode cL_law 907 = .ok (.iaload, 1) := by decide +kernel
theorem dL_law_908 : decode cL_law 908 = .ok (.aload_n 0, 1) := by decide +kernel
theorem dL_law_909 : decode cL_law 909 = .ok (.iload_n 3, 1) := by decide +kernel
theorem dL_law_910 : decode cL_law 910 = .ok (.iconst 3, 1) := by decide +kernel
theorem dL_law_911 : decode cL_law 911 = .ok (.iadd, 1) := by decide +kernel
theorem dL_law_912 : decode cL_law 912 = .ok (.iaload, 1) := by decide +kernel
theorem dL_law_913 : decode cL_law 913 = .ok (.aload_n 0, 1) := by decide +kernel
theorem dL_law_914 : decode cL_law 914 = .ok (.iload_n 3, 1) := by decide +kernel
theorem dL_law_915 : decode cL_law 915 = .ok (.iconst 4, 1) := by decide +kernel
theorem dL_law_916 : decode cL_law 916 = .ok (.iadd, 1) := by decide +kernel
theorem dL_law_917 : decode cL_law 917 = .ok (.iaload, 1) := by decide +kernel
theorem dL_law_918 : decode cL_law 918 = .ok (.invokevirtual 110, 3) := by decide +kernel
theorem dL_law_921 : decode cL_law 921 = .ok (.lcmp, 1) := by decide +kernel
theorem dL_law_922 : decode cL_law 922 = .ok (.ifCond .eq 477, 3) := by decide +kernel
theorem dL_law_925 : decode cL_law 925 = .ok (.iconst 0, 1) := by decide +kernel
theorem dL_law_926 : decode cL_law 926 = .ok (.ireturn, 1) := by decide +kernel
theorem dL_law_927 : decode cL_law 927 = .ok (.aload_n 1, 1) := by decide +kernel
theorem dL_law_928 : decode cL_law 928 = .ok (.aload_n 0, 1) := by decide +kernel
theorem dL_law_929 : decode cL_law 929 = .ok (.iload_n 3, 1) := by decide +kernel
theorem dL_law_930 : decode cL_law 930 = .ok (.iconst 1, 1) := by decide +kernel
theorem dL_law_931 : decode cL_law 931 = .ok (.iadd, 1) := by decide +kernel
theorem dL_law_932 : decode cL_law 932 = .ok (.iaload, 1) := by decide +kernel
theorem dL_law_933 : decode cL_law 933 = .ok (.aload_n 0, 1) := by decide +kernel
theorem dL_law_934 : decode cL_law 934 = .ok (.iload_n 3, 1) := by decide +kernel
theorem dL_law_935 : decode cL_law 935 = .ok (.iconst 2, 1) := by decide +kernel
theorem dL_law_936 : decode cL_law 936 = .ok (.iadd, 1) := by decide +kernel
theorem dL_law_937 : decode cL_law 937 = .ok (.iaload, 1) := by decide +kernel
theorem dL_law_938 : decode cL_law 938 = .ok (.aload_n 0, 1) := by decide +kernel
theorem dL_law_939 : decode cL_law 939 = .ok (.iload_n 3, 1) := by decide +kernel
theorem dL_law_940 : decode cL_law 940 = .ok (.iconst 3, 1) := by decide +kernel
theorem dL_law_941 : decode cL_law 941 = .ok (.iadd, 1) := by decide +kernel
theorem dL_law_942 : decode cL_law 942 = .ok (.iaload, 1) := by decide +kernel
theorem dL_law_943 : decode cL_law 943 = .ok (.invokevirtual 111, 3) := by decide +kernel
theorem dL_law_946 : decode cL_law 946 = .ok (.aload_n 2, 1) := by decide +kernel
theorem dL_law_947 : decode cL_law 947 = .ok (.aload_n 0, 1) := by decide +kernel
theorem dL_law_948 : decode cL_law 948 = .ok (.iload_n 3, 1) := by decide +kernel
theorem dL_law_949 : decode cL_law 949 = .ok (.iconst 1, 1) := by decide +kernel
theorem dL_law_950 : decode cL_law 950 = .ok (.iadd, 1) := by decide +kernel
theorem dL_law_951 : decode cL_law 951 = .ok (.iaload, 1) := by decide +kernel
theorem dL_law_952 : decode cL_law 952 = .ok (.aload_n 0, 1) := by decide +kernel
theorem dL_law_953 : decode cL_law 953 = .ok (.iload_n 3, 1) := by decide +kernel
theorem dL_law_954 : decode cL_law 954 = .ok (.iconst 2, 1) := by decide +kernel
theorem dL_law_955 : decode cL_law 955 = .ok (.iadd, 1) := by decide +kernel
theorem dL_law_956 : decode cL_law 956 = .ok (.iaload, 1) := by decide +kernel
theorem dL_law_957 : decode cL_law 957 = .ok (.aload_n 0, 1) := by decide +kernel
theorem dL_law_958 : decode cL_law 958 = .ok (.iload_n 3, 1) := by decide +kernel
theorem dL_law_959 : decode cL_law 959 = .ok (.iconst 3, 1) := by decide +kernel
theorem dL_law_960 : decode cL_law 960 = .ok (.iadd, 1) := by decide +kernel
theorem dL_law_961 : decode cL_law 961 = .ok (.iaload, 1) := by decide +kernel
theorem dL_law_962 : decode cL_law 962 = .ok (.invokevirtual 115, 3) := by decide +kernel
theorem dL_law_965 : decode cL_law 965 = .ok (.lcmp, 1) := by decide +kernel
theorem dL_law_966 : decode cL_law 966 = .ok (.ifCond .eq 433, 3) := by decide +kernel
theorem dL_law_969 : decode cL_law 969 = .ok (.iconst 0, 1) := by decide +kernel
theorem dL_law_970 : decode cL_law 970 = .ok (.ireturn, 1) := by decide +kernel
theorem dL_law_971 : decode cL_law 971 = .ok (.aload_n 1, 1) := by decide +kernel
theorem dL_law_972 : decode cL_law 972 = .ok (.aload_n 0, 1) := by decide +kernel
theorem dL_law_973 : decode cL_law 973 = .ok (.iload_n 3, 1) := by decide +kernel
theorem dL_law_974 : decode cL_law 974 = .ok (.iconst 1, 1) := by decide +kernel
theorem dL_law_975 : decode cL_law 975 = .ok (.iadd, 1) := by decide +kernel
theorem dL_law_976 : decode cL_law 976 = .ok (.iaload, 1) := by decide +kernel
theorem dL_law_977 : decode cL_law 977 = .ok (.aload_n 0, 1) := by decide +kernel
theorem dL_law_978 : decode cL_law 978 = .ok (.iload_n 3, 1) := by decide +kernel
theorem dL_law_979 : decode cL_law 979 = .ok (.iconst 2, 1) := by decide +kernel
theorem dL_law_980 : decode cL_law 980 = .ok (.iadd, 1) := by decide +kernel
theorem dL_law_981 : decode cL_law 981 = .ok (.iaload, 1) := by decide +kernel
theorem dL_law_982 : decode cL_law 982 = .ok (.aload_n 0, 1) := by decide +kernel
theorem dL_law_983 : decode cL_law 983 = .ok (.iload_n 3, 1) := by decide +kernel
theorem dL_law_984 : decode cL_law 984 = .ok (.iconst 3, 1) := by decide +kernel
theorem dL_law_985 : decode cL_law 985 = .ok (.iadd, 1) := by decide +kernel
theorem dL_law_986 : decode cL_law 986 = .ok (.iaload, 1) := by decide +kernel
theorem dL_law_987 : decode cL_law 987 = .ok (.invokevirtual 116, 3) := by decide +kernel
theorem dL_law_990 : decode cL_law 990 = .ok (.aload_n 2, 1) := by decide +kernel
theorem dL_law_991 : decode cL_law 991 = .ok (.aload_n 0, 1) := by decide +kernel
theorem dL_law_992 : decode cL_law 992 = .ok (.iload_n 3, 1) := by decide +kernel
theorem dL_law_993 : decode cL_law 993 = .ok (.iconst 1, 1) := by decide +kernel
theorem dL_law_994 : decode cL_law 994 = .ok (.iadd, 1) := by decide +kernel
theorem dL_law_995 : decode cL_law 995 = .ok (.iaload, 1) := by decide +kernel
theorem dL_law_996 : decode cL_law 996 = .ok (.aload_n 0, 1) := by decide +kernel
theorem dL_law_997 : decode cL_law 997 = .ok (.iload_n 3, 1) := by decide +kernel
theorem dL_law_998 : decode cL_law 998 = .ok (.iconst 2, 1) := by decide +kernel
theorem dL_law_999 : decode cL_law 999 = .ok (.iadd, 1) := by decide +kernel
theorem dL_law_1000 : decode cL_law 1000 = .ok (.iaload, 1) := by decide +kernel
theorem dL_law_1001 : decode cL_law 1001 = .ok (.aload_n 0, 1) := by decide +kernel
theorem dL_law_1002 : decode cL_law 1002 = .ok (.iload_n 3, 1) := by decide +kernel
theorem dL_law_1003 : decode cL_law 1003 = .ok (.iconst 3, 1) := by decide +kernel
theorem dL_law_1004 : decode cL_law 1004 = .ok (.iadd, 1) := by decide +kernel
theorem dL_law_1005 : decode cL_law 1005 = .ok (.iaload, 1) := by decide +kernel
theorem dL_law_1006 : decode cL_law 1006 = .ok (.invokevirtual 119, 3) := by decide +kernel
theorem dL_law_1009 : decode cL_law 1009 = .ok (.lcmp, 1) := by decide +kernel
theorem dL_law_1010 : decode cL_law 1010 = .ok (.ifCond .eq 389, 3) := by decide +kernel
theorem dL_law_1013 : decode cL_law 1013 = .ok (.iconst 0, 1) := by decide +kernel
theorem dL_law_1014 : decode cL_law 1014 = .ok (.ireturn, 1) := by decide +kernel
theorem dL_law_1015 : decode cL_law 1015 = .ok (.aload_n 1, 1) := by decide +kernel
theorem dL_law_1016 : decode cL_law 1016 = .ok (.aload_n 0, 1) := by decide +kernel
theorem dL_law_1017 : decode cL_law 1017 = .ok (.iload_n 3, 1) := by decide +kernel
theorem dL_law_1018 : decode cL_law 1018 = .ok (.iconst 1, 1) := by decide +kernel
theorem dL_law_1019 : decode cL_law 1019 = .ok (.iadd, 1) := by decide +kernel
theorem dL_law_1020 : decode cL_law 1020 = .ok (.iaload, 1) := by decide +kernel
theorem dL_law_1021 : decode cL_law 1021 = .ok (.invokevirtual 120, 3) := by decide +kernel
theorem dL_law_1024 : decode cL_law 1024 = .ok (.aload_n 2, 1) := by decide +kernel
theorem dL_law_1025 : decode cL_law 1025 = .ok (.aload_n 0, 1) := by decide +kernel
theorem dL_law_1026 : decode cL_law 1026 = .ok (.iload_n 3, 1) := by decide +kernel
theorem dL_law_1027 : decode cL_law 1027 = .ok (.iconst 1, 1) := by decide +kernel
theorem dL_law_1028 : decode cL_law 1028 = .ok (.iadd, 1) := by decide +kernel
theorem dL_law_1029 : decode cL_law 1029 = .ok (.iaload, 1) := by decide +kernel
theorem dL_law_1030 : decode cL_law 1030 = .ok (.invokevirtual 124, 3) := by decide +kernel
theorem dL_law_1033 : decode cL_law 1033 = .ok (.lcmp, 1) := by decide +kernel
theorem dL_law_1034 : decode cL_law 1034 = .ok (.ifCond .eq 365, 3) := by decide +kernel
theorem dL_law_1037 : decode cL_law 1037 = .ok (.iconst 0, 1) := by decide +kernel
theorem dL_law_1038 : decode cL_law 1038 = .ok (.ireturn, 1) := by decide +kernel
theorem dL_law_1039 : decode cL_law 1039 = .ok (.aload_n 1, 1) := by decide +kernel
theorem dL_law_1040 : decode cL_law 1040 = .ok (.aload_n 0, 1) := by decide +kernel
theorem dL_law_1041 : decode cL_law 1041 = .ok (.iload_n 3, 1) := by decide +kernel
theorem dL_law_1042 : decode cL_law 1042 = .ok (.iconst 1, 1) := by decide +kernel
theorem dL_law_1043 : decode cL_law 1043 = .ok (.iadd, 1) := by decide +kernel
theorem dL_law_1044 : decode cL_law 1044 = .ok (.iaload, 1) := by decide +kernel
theorem dL_law_1045 : decode cL_law 1045 = .ok (.aload_n 0, 1) := by decide +kernel
theorem dL_law_1046 : decode cL_law 1046 = .ok (.iload_n 3, 1) := by decide +kernel
theorem dL_law_1047 : decode cL_law 1047 = .ok (.iconst 2, 1) := by decide +kernel
theorem dL_law_1048 : decode cL_law 1048 = .ok (.iadd, 1) := by decide +kernel
theorem dL_law_1049 : decode cL_law 1049 = .ok (.iaload, 1) := by decide +kernel
theorem dL_law_1050 : decode cL_law 1050 = .ok (.invokevirtual 125, 3) := by decide +kernel
theorem dL_law_1053 : decode cL_law 1053 = .ok (.aload_n 2, 1) := by decide +kernel
theorem dL_law_1054 : decode cL_law 1054 = .ok (.aload_n 0, 1) := by decide +kernel
theorem dL_law_1055 : decode cL_law 1055 = .ok (.iload_n 3, 1) := by decide +kernel
theorem dL_law_1056 : decode cL_law 1056 = .ok (.iconst 1, 1) := by decide +kernel
theorem dL_law_1057 : decode cL_law 1057 = .ok (.iadd, 1) := by decide +kernel
theorem dL_law_1058 : decode cL_law 1058 = .ok (.iaload, 1) := by decide +kernel
theorem dL_law_1059 : decode cL_law 1059 = .ok (.aload_n 0, 1) := by decide +kernel
theorem dL_law_1060 : decode cL_law 1060 = .ok (.iload_n 3, 1) := by decide +kernel
theorem dL_law_1061 : decode cL_law 1061 = .ok (.iconst 2, 1) := by decide +kernel
theorem dL_law_1062 : decode cL_law 1062 = .ok (.iadd, 1) := by decide +kernel
theorem dL_law_1063 : decode cL_law 1063 = .ok (.iaload, 1) := by decide +kernel
theorem dL_law_1064 : decode cL_law 1064 = .ok (.invokevirtual 128, 3) := by decide +kernel
theorem dL_law_1067 : decode cL_law 1067 = .ok (.if_icmp .eq 332, 3) := by decide +kernel
theorem dL_law_1070 : decode cL_law 1070 = .ok (.iconst 0, 1) := by decide +kernel
theorem dL_law_1071 : decode cL_law 1071 = .ok (.ireturn, 1) := by decide +kernel
theorem dL_law_1072 : decode cL_law 1072 = .ok (.aload_n 1, 1) := by decide +kernel
theorem dL_law_1073 : decode cL_law 1073 = .ok (.aload_n 0, 1) := by decide +kernel
theorem dL_law_1074 : decode cL_law 1074 = .ok (.iload_n 3, 1) := by decide +kernel
theorem dL_law_1075 : decode cL_law 1075 = .ok (.iconst 1, 1) := by decide +kernel
theorem dL_law_1076 : decode cL_law 1076 = .ok (.iadd, 1) := by decide +kernel
theorem dL_law_1077 : decode cL_law 1077 = .ok (.iaload, 1) := by decide +kernel
theorem dL_law_1078 : decode cL_law 1078 = .ok (.aload_n 0, 1) := by decide +kernel
theorem dL_law_1079 : decode cL_law 1079 = .ok (.iload_n 3, 1) := by decide +kernel
theorem dL_law_1080 : decode cL_law 1080 = .ok (.iconst 2, 1) := by decide +kernel
theorem dL_law_1081 : decode cL_law 1081 = .ok (.iadd, 1) := by decide +kernel
theorem dL_law_1082 : decode cL_law 1082 = .ok (.iaload, 1) := by decide +kernel
theorem dL_law_1083 : decode cL_law 1083 = .ok (.aload_n 0, 1) := by decide +kernel
theorem dL_law_1084 : decode cL_law 1084 = .ok (.iload_n 3, 1) := by decide +kernel
theorem dL_law_1085 : decode cL_law 1085 = .ok (.iconst 3, 1) := by decide +kernel
theorem dL_law_1086 : decode cL_law 1086 = .ok (.iadd, 1) := by decide +kernel
theorem dL_law_1087 : decode cL_law 1087 = .ok (.iaload, 1) := by decide +kernel
theorem dL_law_1088 : decode cL_law 1088 = .ok (.invokevirtual 129, 3) := by decide +kernel
theorem dL_law_1091 : decode cL_law 1091 = .ok (.aload_n 2, 1) := by decide +kernel
theorem dL_law_1092 : decode cL_law 1092 = .ok (.aload_n 0, 1) := by decide +kernel
theorem dL_law_1093 : decode cL_law 1093 = .ok (.iload_n 3, 1) := by decide +kernel
theorem dL_law_1094 : decode cL_law 1094 = .ok (.iconst 1, 1) := by decide +kernel
theorem dL_law_1095 : decode cL_law 1095 = .ok (.iadd, 1) := by decide +kernel
theorem dL_law_1096 : decode cL_law 1096 = .ok (.iaload, 1) := by decide +kernel
theorem dL_law_1097 : decode cL_law 1097 = .ok (.aload_n 0, 1) := by decide +kernel
theorem dL_law_1098 : decode cL_law 1098 = .ok (.iload_n 3, 1) := by decide +kernel
theorem dL_law_1099 : decode cL_law 1099 = .ok (.iconst 2, 1) := by decide +kernel
theorem dL_law_1100 : decode cL_law 1100 = .ok (.iadd, 1) := by decide +kernel
theorem dL_law_1101 : decode cL_law 1101 = .ok (.iaload, 1) := by decide +kernel
theorem dL_law_1102 : decode cL_law 1102 = .ok (.aload_n 0, 1) := by decide +kernel
theorem dL_law_1103 : decode cL_law 1103 = .ok (.iload_n 3, 1) := by decide +kernel
theorem dL_law_1104 : decode cL_law 1104 = .ok (.iconst 3, 1) := by decide +kernel
theorem dL_law_1105 : decode cL_law 1105 = .ok (.iadd, 1) := by decide +kernel
theorem dL_law_1106 : decode cL_law 1106 = .ok (.iaload, 1) := by decide +kernel
theorem dL_law_1107 : decode cL_law 1107 = .ok (.invokevirtual 132, 3) := by decide +kernel
theorem dL_law_1110 : decode cL_law 1110 = .ok (.if_icmp .eq 289, 3) := by decide +kernel
theorem dL_law_1113 : decode cL_law 1113 = .ok (.iconst 0, 1) := by decide +kernel
theorem dL_law_1114 : decode cL_law 1114 = .ok (.ireturn, 1) := by decide +kernel
theorem dL_law_1115 : decode cL_law 1115 = .ok (.aload_n 1, 1) := by decide +kernel
theorem dL_law_1116 : decode cL_law 1116 = .ok (.invokevirtual 133, 3) := by decide +kernel
theorem dL_law_1119 : decode cL_law 1119 = .ok (.aload_n 2, 1) := by decide +kernel
theorem dL_law_1120 : decode cL_law 1120 = .ok (.invokevirtual 136, 3) := by decide +kernel
theorem dL_law_1123 : decode cL_law 1123 = .ok (.if_icmp .eq 276, 3) := by decide +kernel
theorem dL_law_1126 : decode cL_law 1126 = .ok (.iconst 0, 1) := by decide +kernel
theorem dL_law_1127 : decode cL_law 1127 = .ok (.ireturn, 1) := by decide +kernel
theorem dL_law_1128 : decode cL_law 1128 = .ok (.aload_n 1, 1) := by decide +kernel
theorem dL_law_1129 : decode cL_law 1129 = .ok (.aload_n 0, 1) := by decide +kernel
theorem dL_law_1130 : decode cL_law 1130 = .ok (.iload_n 3, 1) := by decide +kernel
theorem dL_law_1131 : decode cL_law 1131 = .ok (.iconst 1, 1) := by decide +kernel
theorem dL_law_1132 : decode cL_law 1132 = .ok (.iadd, 1) := by decide +kernel
theorem dL_law_1133 : decode cL_law 1133 = .ok (.iaload, 1) := by decide +kernel
theorem dL_law_1134 : decode cL_law 1134 = .ok (.aload_n 0, 1) := by decide +kernel
theorem dL_law_1135 : decode cL_law 1135 = .ok (.iload_n 3, 1) := by decide +kernel
theorem dL_law_1136 : decode cL_law 1136 = .ok (.iconst 2, 1) := by decide +kernel
theorem dL_law_1137 : decode cL_law 1137 = .ok (.iadd, 1) := by decide +kernel
theorem dL_law_1138 : decode cL_law 1138 = .ok (.iaload, 1) := by decide +kernel
theorem dL_law_1139 : decode cL_law 1139 = .ok (.aload_n 0, 1) := by decide +kernel
theorem dL_law_1140 : decode cL_law 1140 = .ok (.iload_n 3, 1) := by decide +kernel
theorem dL_law_1141 : decode cL_law 1141 = .ok (.iconst 3, 1) := by decide +kernel
theorem dL_law_1142 : decode cL_law 1142 = .ok (.iadd, 1) := by decide +kernel
theorem dL_law_1143 : decode cL_law 1143 = .ok (.iaload, 1) := by decide +kernel
theorem dL_law_1144 : decode cL_law 1144 = .ok (.invokevirtual 137, 3) := by decide +kernel
theorem dL_law_1147 : decode cL_law 1147 = .ok (.aload_n 2, 1) := by decide +kernel
theorem dL_law_1148 : decode cL_law 1148 = .ok (.aload_n 0, 1) := by decide +kernel
theorem dL_law_1149 : decode cL_law 1149 = .ok (.iload_n 3, 1) := by decide +kernel
theorem dL_law_1150 : decode cL_law 1150 = .ok (.iconst 1, 1) := by decide +kernel
theorem dL_law_1151 : decode cL_law 1151 = .ok (.iadd, 1) := by decide +kernel
theorem dL_law_1152 : decode cL_law 1152 = .ok (.iaload, 1) := by decide +kernel
theorem dL_law_1153 : decode cL_law 1153 = .ok (.aload_n 0, 1) := by decide +kernel
theorem dL_law_1154 : decode cL_law 1154 = .ok (.iload_n 3, 1) := by decide +kernel
theorem dL_law_1155 : decode cL_law 1155 = .ok (.iconst 2, 1) := by decide +kernel
theorem dL_law_1156 : decode cL_law 1156 = .ok (.iadd, 1) := by decide +kernel
theorem dL_law_1157 : decode cL_law 1157 = .ok (.iaload, 1) := by decide +kernel
theorem dL_law_1158 : decode cL_law 1158 = .ok (.aload_n 0, 1) := by decide +kernel
theorem dL_law_1159 : decode cL_law 1159 = .ok (.iload_n 3, 1) := by decide +kernel
theorem dL_law_1160 : decode cL_law 1160 = .ok (.iconst 3, 1) := by decide +kernel
theorem dL_law_1161 : decode cL_law 1161 = .ok (.iadd, 1) := by decide +kernel
theorem dL_law_1162 : decode cL_law 1162 = .ok (.iaload, 1) := by decide +kernel
theorem dL_law_1163 : decode cL_law 1163 = .ok (.invokevirtual 140, 3) := by decide +kernel
theorem dL_law_1166 : decode cL_law 1166 = .ok (.if_icmp .eq 233, 3) := by decide +kernel
theorem dL_law_1169 : decode cL_law 1169 = .ok (.iconst 0, 1) := by decide +kernel
theorem dL_law_1170 : decode cL_law 1170 = .ok (.ireturn, 1) := by decide +kernel
theorem dL_law_1171 : decode cL_law 1171 = .ok (.aload_n 1, 1) := by decide +kernel
theorem dL_law_1172 : decode cL_law 1172 = .ok (.aload_n 0, 1) := by decide +kernel
theorem dL_law_1173 : decode cL_law 1173 = .ok (.iload_n 3, 1) := by decide +kernel
theorem dL_law_1174 : decode cL_law 1174 = .ok (.iconst 1, 1) := by decide +kernel
theorem dL_law_1175 : decode cL_law 1175 = .ok (.iadd, 1) := by decide +kernel
theorem dL_law_1176 : decode cL_law 1176 = .ok (.iaload, 1) := by decide +kernel
theorem dL_law_1177 : decode cL_law 1177 = .ok (.invokevirtual 141, 3) := by decide +kernel
theorem dL_law_1180 : decode cL_law 1180 = .ok (.aload_n 2, 1) := by decide +kernel
theorem dL_law_1181 : decode cL_law 1181 = .ok (.aload_n 0, 1) := by decide +kernel
theorem dL_law_1182 : decode cL_law 1182 = .ok (.iload_n 3, 1) := by decide +kernel
theorem dL_law_1183 : decode cL_law 1183 = .ok (.iconst 1, 1) := by decide +kernel
theorem dL_law_1184 : decode cL_law 1184 = .ok (.iadd, 1) := by decide +kernel
theorem dL_law_1185 : decode cL_law 1185 = .ok (.iaload, 1) := by decide +kernel
theorem dL_law_1186 : decode cL_law 1186 = .ok (.invokevirtual 144, 3) := by decide +kernel
theorem dL_law_1189 : decode cL_law 1189 = .ok (.if_icmp .eq 210, 3) := by decide +kernel
theorem dL_law_1192 : decode cL_law 1192 = .ok (.iconst 0, 1) := by decide +kernel
theorem dL_law_1193 : decode cL_law 1193 = .ok (.ireturn, 1) := by decide +kernel
theorem dL_law_1194 : decode cL_law 1194 = .ok (.aload_n 1, 1) := by decide +kernel
theorem dL_law_1195 : decode cL_law 1195 = .ok (.aload_n 0, 1) := by decide +kernel
theorem dL_law_1196 : decode cL_law 1196 = .ok (.iload_n 3, 1) := by decide +kernel
theorem dL_law_1197 : decode cL_law 1197 = .ok (.iconst 1, 1) := by decide +kernel
theorem dL_law_1198 : decode cL_law 1198 = .ok (.iadd, 1) := by decide +kernel
theorem dL_law_1199 : decode cL_law 1199 = .ok (.iaload, 1) := by decide +kernel
theorem dL_law_1200 : decode cL_law 1200 = .ok (.invokevirtual 145, 3) := by decide +kernel
theorem dL_law_1203 : decode cL_law 1203 = .ok (.aload_n 2, 1) := by decide +kernel
theorem dL_law_1204 : decode cL_law 1204 = .ok (.aload_n 0, 1) := by decide +kernel
theorem dL_law_1205 : decode cL_law 1205 = .ok (.iload_n 3, 1) := by decide +kernel
theorem dL_law_1206 : decode cL_law 1206 = .ok (.iconst 1, 1) := by decide +kernel
theorem dL_law_1207 : decode cL_law 1207 = .ok (.iadd, 1) := by decide +kernel
theorem dL_law_1208 : decode cL_law 1208 = .ok (.iaload, 1) := by decide +kernel
theorem dL_law_1209 : decode cL_law 1209 = .ok (.invokevirtual 148, 3) := by decide +kernel
theorem dL_law_1212 : decode cL_law 1212 = .ok (.if_icmp .eq 187, 3) := by decide +kernel
theorem dL_law_1215 : decode cL_law 1215 = .ok (.iconst 0, 1) := by decide +kernel
theorem dL_law_1216 : decode cL_law 1216 = .ok (.ireturn, 1) := by decide +kernel
theorem dL_law_1217 : decode cL_law 1217 = .ok (.aload_n 1, 1) := by decide +kernel
theorem dL_law_1218 : decode cL_law 1218 = .ok (.aload_n 0, 1) := by decide +kernel
theorem dL_law_1219 : decode cL_law 1219 = .ok (.iload_n 3, 1) := by decide +kernel
theorem dL_law_1220 : decode cL_law 1220 = .ok (.iconst 1, 1) := by decide +kernel
theorem dL_law_1221 : decode cL_law 1221 = .ok (.iadd, 1) := by decide +kernel
theorem dL_law_1222 : decode cL_law 1222 = .ok (.iaload, 1) := by decide +kernel
theorem dL_law_1223 : decode cL_law 1223 = .ok (.aload_n 0, 1) := by decide +kernel
theorem dL_law_1224 : decode cL_law 1224 = .ok (.iload_n 3, 1) := by decide +kernel
theorem dL_law_1225 : decode cL_law 1225 = .ok (.iconst 2, 1) := by decide +kernel
theorem dL_law_1226 : decode cL_law 1226 = .ok (.iadd, 1) := by decide +kernel
theorem dL_law_1227 : decode cL_law 1227 = .ok (.iaload, 1) := by decide +kernel
theorem dL_law_1228 : decode cL_law 1228 = .ok (.aload_n 0, 1) := by decide +kernel
theorem dL_law_1229 : decode cL_law 1229 = .ok (.iload_n 3, 1) := by decide +kernel
theorem dL_law_1230 : decode cL_law 1230 = .ok (.iconst 3, 1) := by decide +kernel
theorem dL_law_1231 : decode cL_law 1231 = .ok (.iadd, 1) := by decide +kernel
theorem dL_law_1232 : decode cL_law 1232 = .ok (.iaload, 1) := by decide +kernel
theorem dL_law_1233 : decode cL_law 1233 = .ok (.invokevirtual 149, 3) := by decide +kernel
theorem dL_law_1236 : decode cL_law 1236 = .ok (.aload_n 2, 1) := by decide +kernel
theorem dL_law_1237 : decode cL_law 1237 = .ok (.aload_n 0, 1) := by decide +kernel
theorem dL_law_1238 : decode cL_law 1238 = .ok (.iload_n 3, 1) := by decide +kernel
theorem dL_law_1239 : decode cL_law 1239 = .ok (.iconst 1, 1) := by decide +kernel
theorem dL_law_1240 : decode cL_law 1240 = .ok (.iadd, 1) := by decide +kernel
theorem dL_law_1241 : decode cL_law 1241 = .ok (.iaload, 1) := by decide +kernel
theorem dL_law_1242 : decode cL_law 1242 = .ok (.aload_n 0, 1) := by decide +kernel
theorem dL_law_1243 : decode cL_law 1243 = .ok (.iload_n 3, 1) := by decide +kernel
theorem dL_law_1244 : decode cL_law 1244 = .ok (.iconst 2, 1) := by decide +kernel
theorem dL_law_1245 : decode cL_law 1245 = .ok (.iadd, 1) := by decide +kernel
theorem dL_law_1246 : decode cL_law 1246 = .ok (.iaload, 1) := by decide +kernel
theorem dL_law_1247 : decode cL_law 1247 = .ok (.aload_n 0, 1) := by decide +kernel
theorem dL_law_1248 : decode cL_law 1248 = .ok (.iload_n 3, 1) := by decide +kernel
theorem dL_law_1249 : decode cL_law 1249 = .ok (.iconst 3, 1) := by decide +kernel
theorem dL_law_1250 : decode cL_law 1250 = .ok (.iadd, 1) := by decide +kernel
theorem dL_law_1251 : decode cL_law 1251 = .ok (.iaload, 1) := by decide +kernel
theorem dL_law_1252 : decode cL_law 1252 = .ok (.invokevirtual 152, 3) := by decide +kernel
theorem dL_law_1255 : decode cL_law 1255 = .ok (.if_icmp .eq 144, 3) := by decide +kernel
theorem dL_law_1258 : decode cL_law 1258 = .ok (.iconst 0, 1) := by decide +kernel
theorem dL_law_1259 : decode cL_law 1259 = .ok (.ireturn, 1) := by decide +kernel
theorem dL_law_1260 : decode cL_law 1260 = .ok (.aload_n 1, 1) := by decide +kernel
theorem dL_law_1261 : decode cL_law 1261 = .ok (.aload_n 0, 1) := by decide +kernel
theorem dL_law_1262 : decode cL_law 1262 = .ok (.iload_n 3, 1) := by decide +kernel
theorem dL_law_1263 : decode cL_law 1263 = .ok (.iconst 1, 1) := by decide +kernel
theorem dL_law_1264 : decode cL_law 1264 = .ok (.iadd, 1) := by decide +kernel
theorem dL_law_1265 : decode cL_law 1265 = .ok (.iaload, 1) := by decide +kernel
theorem dL_law_1266 : decode cL_law 1266 = .ok (.aload_n 0, 1) := by decide +kernel
theorem dL_law_1267 : decode cL_law 1267 = .ok (.iload_n 3, 1) := by decide +kernel
theorem dL_law_1268 : decode cL_law 1268 = .ok (.iconst 2, 1) := by decide +kernel
theorem dL_law_1269 : decode cL_law 1269 = .ok (.iadd, 1) := by decide +kernel
theorem dL_law_1270 : decode cL_law 1270 = .ok (.iaload, 1) := by decide +kernel
theorem dL_law_1271 : decode cL_law 1271 = .ok (.aload_n 0, 1) := by decide +kernel
theorem dL_law_1272 : decode cL_law 1272 = .ok (.iload_n 3, 1) := by decide +kernel
theorem dL_law_1273 : decode cL_law 1273 = .ok (.iconst 3, 1) := by decide +kernel
theorem dL_law_1274 : decode cL_law 1274 = .ok (.iadd, 1) := by decide +kernel
theorem dL_law_1275 : decode cL_law 1275 = .ok (.iaload, 1) := by decide +kernel
theorem dL_law_1276 : decode cL_law 1276 = .ok (.invokevirtual 153, 3) := by decide +kernel
theorem dL_law_1279 : decode cL_law 1279 = .ok (.aload_n 2, 1) := by decide +kernel
theorem dL_law_1280 : decode cL_law 1280 = .ok (.aload_n 0, 1) := by decide +kernel
theorem dL_law_1281 : decode cL_law 1281 = .ok (.iload_n 3, 1) := by decide +kernel
theorem dL_law_1282 : decode cL_law 1282 = .ok (.iconst 1, 1) := by decide +kernel
theorem dL_law_1283 : decode cL_law 1283 = .ok (.iadd, 1) := by decide +kernel
theorem dL_law_1284 : decode cL_law 1284 = .ok (.iaload, 1) := by decide +kernel
theorem dL_law_1285 : decode cL_law 1285 = .ok (.aload_n 0, 1) := by decide +kernel
theorem dL_law_1286 : decode cL_law 1286 = .ok (.iload_n 3, 1) := by decide +kernel
theorem dL_law_1287 : decode cL_law 1287 = .ok (.iconst 2, 1) := by decide +kernel
theorem dL_law_1288 : decode cL_law 1288 = .ok (.iadd, 1) := by decide +kernel
theorem dL_law_1289 : decode cL_law 1289 = .ok (.iaload, 1) := by decide +kernel
theorem dL_law_1290 : decode cL_law 1290 = .ok (.aload_n 0, 1) := by decide +kernel
theorem dL_law_1291 : decode cL_law 1291 = .ok (.iload_n 3, 1) := by decide +kernel
theorem dL_law_1292 : decode cL_law 1292 = .ok (.iconst 3, 1) := by decide +kernel
theorem dL_law_1293 : decode cL_law 1293 = .ok (.iadd, 1) := by decide +kernel
theorem dL_law_1294 : decode cL_law 1294 = .ok (.iaload, 1) := by decide +kernel
theorem dL_law_1295 : decode cL_law 1295 = .ok (.invokevirtual 156, 3) := by decide +kernel
theorem dL_law_1298 : decode cL_law 1298 = .ok (.if_icmp .eq 101, 3) := by decide +kernel
theorem dL_law_1301 : decode cL_law 1301 = .ok (.iconst 0, 1) := by decide +kernel
theorem dL_law_1302 : decode cL_law 1302 = .ok (.ireturn, 1) := by decide +kernel
theorem dL_law_1303 : decode cL_law 1303 = .ok (.aload_n 1, 1) := by decide +kernel
theorem dL_law_1304 : decode cL_law 1304 = .ok (.aload_n 0, 1) := by decide +kernel
theorem dL_law_1305 : decode cL_law 1305 = .ok (.iload_n 3, 1) := by decide +kernel
theorem dL_law_1306 : decode cL_law 1306 = .ok (.iconst 1, 1) := by decide +kernel
theorem dL_law_1307 : decode cL_law 1307 = .ok (.iadd, 1) := by decide +kernel
theorem dL_law_1308 : decode cL_law 1308 = .ok (.iaload, 1) := by decide +kernel
theorem dL_law_1309 : decode cL_law 1309 = .ok (.aload_n 0, 1) := by decide +kernel
theorem dL_law_1310 : decode cL_law 1310 = .ok (.iload_n 3, 1) := by decide +kernel
theorem dL_law_1311 : decode cL_law 1311 = .ok (.iconst 2, 1) := by decide +kernel
theorem dL_law_1312 : decode cL_law 1312 = .ok (.iadd, 1) := by decide +kernel
theorem dL_law_1313 : decode cL_law 1313 = .ok (.iaload, 1) := by decide +kernel
theorem dL_law_1314 : decode cL_law 1314 = .ok (.aload_n 0, 1) := by decide +kernel
theorem dL_law_1315 : decode cL_law 1315 = .ok (.iload_n 3, 1) := by decide +kernel
theorem dL_law_1316 : decode cL_law 1316 = .ok (.iconst 3, 1) := by decide +kernel
theorem dL_law_1317 : decode cL_law 1317 = .ok (.iadd, 1) := by decide +kernel
theorem dL_law_1318 : decode cL_law 1318 = .ok (.iaload, 1) := by decide +kernel
theorem dL_law_1319 : decode cL_law 1319 = .ok (.aload_n 0, 1) := by decide +kernel
theorem dL_law_1320 : decode cL_law 1320 = .ok (.iload_n 3, 1) := by decide +kernel
theorem dL_law_1321 : decode cL_law 1321 = .ok (.iconst 4, 1) := by decide +kernel
theorem dL_law_1322 : decode cL_law 1322 = .ok (.iadd, 1) := by decide +kernel
theorem dL_law_1323 : decode cL_law 1323 = .ok (.iaload, 1) := by decide +kernel
theorem dL_law_1324 : decode cL_law 1324 = .ok (.aload_n 0, 1) := by decide +kernel
theorem dL_law_1325 : decode cL_law 1325 = .ok (.iload_n 3, 1) := by decide +kernel
theorem dL_law_1326 : decode cL_law 1326 = .ok (.iconst 5, 1) := by decide +kernel
theorem dL_law_1327 : decode cL_law 1327 = .ok (.iadd, 1) := by decide +kernel
theorem dL_law_1328 : decode cL_law 1328 = .ok (.iaload, 1) := by decide +kernel
theorem dL_law_1329 : decode cL_law 1329 = .ok (.invokevirtual 157, 3) := by decide +kernel
theorem dL_law_1332 : decode cL_law 1332 = .ok (.aload_n 2, 1) := by decide +kernel
theorem dL_law_1333 : decode cL_law 1333 = .ok (.aload_n 0, 1) := by decide +kernel
theorem dL_law_1334 : decode cL_law 1334 = .ok (.iload_n 3, 1) := by decide +kernel
theorem dL_law_1335 : decode cL_law 1335 = .ok (.iconst 1, 1) := by decide +kernel
theorem dL_law_1336 : decode cL_law 1336 = .ok (.iadd, 1) := by decide +kernel
theorem dL_law_1337 : decode cL_law 1337 = .ok (.iaload, 1) := by decide +kernel
theorem dL_law_1338 : decode cL_law 1338 = .ok (.aload_n 0, 1) := by decide +kernel
theorem dL_law_1339 : decode cL_law 1339 = .ok (.iload_n 3, 1) := by decide +kernel
theorem dL_law_1340 : decode cL_law 1340 = .ok (.iconst 2, 1) := by decide +kernel
theorem dL_law_1341 : decode cL_law 1341 = .ok (.iadd, 1) := by decide +kernel
theorem dL_law_1342 : decode cL_law 1342 = .ok (.iaload, 1) := by decide +kernel
theorem dL_law_1343 : decode cL_law 1343 = .ok (.aload_n 0, 1) := by decide +kernel
theorem dL_law_1344 : decode cL_law 1344 = .ok (.iload_n 3, 1) := by decide +kernel
theorem dL_law_1345 : decode cL_law 1345 = .ok (.iconst 3, 1) := by decide +kernel
theorem dL_law_1346 : decode cL_law 1346 = .ok (.iadd, 1) := by decide +kernel
theorem dL_law_1347 : decode cL_law 1347 = .ok (.iaload, 1) := by decide +kernel
theorem dL_law_1348 : decode cL_law 1348 = .ok (.aload_n 0, 1) := by decide +kernel
theorem dL_law_1349 : decode cL_law 1349 = .ok (.iload_n 3, 1) := by decide +kernel
theorem dL_law_1350 : decode cL_law 1350 = .ok (.iconst 4, 1) := by decide +kernel
theorem dL_law_1351 : decode cL_law 1351 = .ok (.iadd, 1) := by decide +kernel
theorem dL_law_1352 : decode cL_law 1352 = .ok (.iaload, 1) := by decide +kernel
theorem dL_law_1353 : decode cL_law 1353 = .ok (.aload_n 0, 1) := by decide +kernel
theorem dL_law_1354 : decode cL_law 1354 = .ok (.iload_n 3, 1) := by decide +kernel
theorem dL_law_1355 : decode cL_law 1355 = .ok (.iconst 5, 1) := by decide +kernel
theorem dL_law_1356 : decode cL_law 1356 = .ok (.iadd, 1) := by decide +kernel
theorem dL_law_1357 : decode cL_law 1357 = .ok (.iaload, 1) := by decide +kernel
theorem dL_law_1358 : decode cL_law 1358 = .ok (.invokevirtual 161, 3) := by decide +kernel
theorem dL_law_1361 : decode cL_law 1361 = .ok (.if_icmp .eq 38, 3) := by decide +kernel
theorem dL_law_1364 : decode cL_law 1364 = .ok (.iconst 0, 1) := by decide +kernel
theorem dL_law_1365 : decode cL_law 1365 = .ok (.ireturn, 1) := by decide +kernel
theorem dL_law_1366 : decode cL_law 1366 = .ok (.aload_n 1, 1) := by decide +kernel
theorem dL_law_1367 : decode cL_law 1367 = .ok (.aload_n 0, 1) := by decide +kernel
theorem dL_law_1368 : decode cL_law 1368 = .ok (.iload_n 3, 1) := by decide +kernel
theorem dL_law_1369 : decode cL_law 1369 = .ok (.iconst 1, 1) := by decide +kernel
theorem dL_law_1370 : decode cL_law 1370 = .ok (.iadd, 1) := by decide +kernel
theorem dL_law_1371 : decode cL_law 1371 = .ok (.iaload, 1) := by decide +kernel
theorem dL_law_1372 : decode cL_law 1372 = .ok (.aload_n 0, 1) := by decide +kernel
theorem dL_law_1373 : decode cL_law 1373 = .ok (.iload_n 3, 1) := by decide +kernel
theorem dL_law_1374 : decode cL_law 1374 = .ok (.iconst 2, 1) := by decide +kernel
theorem dL_law_1375 : decode cL_law 1375 = .ok (.iadd, 1) := by decide +kernel
theorem dL_law_1376 : decode cL_law 1376 = .ok (.iaload, 1) := by decide +kernel
theorem dL_law_1377 : decode cL_law 1377 = .ok (.invokevirtual 162, 3) := by decide +kernel
theorem dL_law_1380 : decode cL_law 1380 = .ok (.aload_n 2, 1) := by decide +kernel
theorem dL_law_1381 : decode cL_law 1381 = .ok (.aload_n 0, 1) := by decide +kernel
theorem dL_law_1382 : decode cL_law 1382 = .ok (.iload_n 3, 1) := by decide +kernel
theorem dL_law_1383 : decode cL_law 1383 = .ok (.iconst 1, 1) := by decide +kernel
theorem dL_law_1384 : decode cL_law 1384 = .ok (.iadd, 1) := by decide +kernel
theorem dL_law_1385 : decode cL_law 1385 = .ok (.iaload, 1) := by decide +kernel
theorem dL_law_1386 : decode cL_law 1386 = .ok (.aload_n 0, 1) := by decide +kernel
theorem dL_law_1387 : decode cL_law 1387 = .ok (.iload_n 3, 1) := by decide +kernel
theorem dL_law_1388 : decode cL_law 1388 = .ok (.iconst 2, 1) := by decide +kernel
theorem dL_law_1389 : decode cL_law 1389 = .ok (.iadd, 1) := by decide +kernel
theorem dL_law_1390 : decode cL_law 1390 = .ok (.iaload, 1) := by decide +kernel
theorem dL_law_1391 : decode cL_law 1391 = .ok (.invokevirtual 165, 3) := by decide +kernel
theorem dL_law_1394 : decode cL_law 1394 = .ok (.if_icmp .eq 5, 3) := by decide +kernel
theorem dL_law_1397 : decode cL_law 1397 = .ok (.iconst 0, 1) := by decide +kernel
theorem dL_law_1398 : decode cL_law 1398 = .ok (.ireturn, 1) := by decide +kernel
theorem dL_law_1399 : decode cL_law 1399 = .ok (.iinc 3 6, 3) := by decide +kernel
theorem dL_law_1402 : decode cL_law 1402 = .ok (.goto (-1384), 3) := by decide +kernel
theorem dL_law_1405 : decode cL_law 1405 = .ok (.iconst 1, 1) := by decide +kernel
theorem dL_law_1406 : decode cL_law 1406 = .ok (.ireturn, 1) := by decide +kernel
end
section
/-! ===== the pure machine: a heap is a list of cells, a reference is a place in it; .float u stands for the u-th static table ===== -/
/-- the words that hold at every later state too -/
def lw_g : List Cond := lw_tbl.filter goodWord
abbrev PA : Type := (Nat → Int32) ⊕ ((Nat → Int64) ⊕ (Nat × (Nat → Option Nat)))
abbrev PCell : Type := (Nat × PA) ⊕ (Nat × List Value)
abbrev PH : Type := List PCell
abbrev pI (n : Nat) (f : Nat → Int32) : PCell := .inl (n, .inl f)
abbrev pJ (n : Nat) (f : Nat → Int64) : PCell := .inl (n, .inr (.inl f))
abbrev pR (n t : Nat) (f : Nat → Option Nat) : PCell := .inl (n, .inr (.inr (t, f)))
abbrev pO (ci : Nat) (fs : List Value) : PCell := .inr (ci, fs)
def pcv (ad : Nat → Nat) (sa : UInt32 → Nat) : Value → Value
  | .ref k => .ref (ad k)
  | .float u => .ref (sa u)
  | v => v
def pce (ta : Nat → ClassId) (ad : Nat → Nat) (sa : UInt32 → Nat) : PCell → va_E
  | .inl (n, .inl f) => .inl (ta 0, n, .inl f)
  | .inl (n, .inr (.inl g)) => .inl (ta 1, n, .inr (.inl g))
  | .inl (n, .inr (.inr (t, r))) => .inl (ta t, n, .inr (.inr (.inr (.inr (fun j => (r j).map ad)))))
  | .inr (ci, fs) => .inr (ci, fs.map (pcv ad sa))
def pcw (ta : Nat → ClassId) (ad : Nat → Nat) (sa : UInt32 → Nat) (h : PH) : va_W := h.mapIdx (fun k c => (ad k, pce ta ad sa c))
theorem pcw_get {ta : Nat → ClassId} {ad : Nat → Nat} {sa : UInt32 → Nat} {h : PH} {k : Nat} {c : PCell} (hk : h[k]? = some c) : (pcw ta ad sa h)[k]? = some (ad k, pce ta ad sa c) := by
  simp [pcw, List.getElem?_mapIdx, hk]
theorem pcw_set {ta : Nat → ClassId} {ad : Nat → Nat} {sa : UInt32 → Nat} {h : PH} {k : Nat} {c : PCell} : pcw ta ad sa (h.set k c) = (pcw ta ad sa h).set k (ad k, pce ta ad sa c) := by
  apply List.ext_getElem?
  intro i
  simp only [pcw, List.getElem?_mapIdx, List.getElem?_set, List.length_mapIdx]
  by_cases hi : k = i
  · subst hi
    by_cases hl : k < h.length <;> simp [hl]
  · simp [hi]
theorem pcv_cat {ad : Nat → Nat} {sa : UInt32 → Nat} {v : Value} (h : v.category = 1) : (pcv ad sa v).category = 1 := by
  cases v <;> first | exact h | rfl
theorem pcv_cat2 {ad : Nat → Nat} {sa : UInt32 → Nat} {v : Value} (h : (pcv ad sa v).category = 2) : v.category = 2 := by
  cases v <;> first | exact h | cases h
theorem pcv_catE {ad : Nat → Nat} {sa : UInt32 → Nat} (v : Value) : (pcv ad sa v).category = v.category := by
  cases v <;> rfl
def ptys (ta : Nat → ClassId) : List (ClassId × FieldType) := [(ta 0, .int), (ta 1, .long), (ta 2, .array .int), (ta 3, .object RX4), (ta 4, .object RX5)]
def psN (u : UInt32) : String := if u = 0 then "FACTORIALS" else if u = 1 then "GROUPS" else if u = 2 then "ABOVE" else "BODIES"
def psV (u : UInt32) : List Int32 := if u = 0 then [1, 1, 2, 6, 24, 120, 720, 5040, 40320, 362880, 3628800] else if u = 1 then [0, 2, 8, 24, 24, 1920] else if u = 2 then [-1, 0, 0, 2, 3] else [10, 11, 12, 0, 20, 0, 30, 0, 31, 0, 40, 0, 50, 0, 51]
def PS (sa : UInt32 → Nat) (A : Nat → Prop) (U : State) (H : Heap) : Prop := ∀ u ∈ ([0, 1, 2, 3] : List UInt32), va_Z "ShuffleDesk" (psN u) "[I" (.ref (sa u)) A U H ∧ va_T .int (sa u) (psV u).length (fun j => .int ((psV u).getD j 0)) A U H
theorem PS.narrow {sa : UInt32 → Nat} {A B : Nat → Prop} {U : State} {H : Heap} (h : PS sa A U H) (hAB : ∀ q, B q → A q) : PS sa B U H := fun u hu => ⟨(h u hu).1.narrow hAB, (h u hu).2.narrow hAB⟩
theorem PS.moved {sa : UInt32 → Nat} {A : Nat → Prop} {u U : State} {H : Heap} (hvm : u.vm.Alike U.vm) (h : PS sa A u H) : PS sa A U H := fun i hi => ⟨(h i hi).1.moved hvm, (h i hi).2.moved hvm⟩
theorem PS.kept {sa : UInt32 → Nat} {A : Nat → Prop} {U : State} {H H1 : Heap} (h : PS sa A U H) (hq : ∀ a : Nat, a < H.size → ¬ A a → H1[a]? = H[a]?) : PS sa A U H1 := fun i hi => ⟨(h i hi).1.kept hq, (h i hi).2.kept hq⟩
/-- locals, by their places -/
def pl_has (cv : Value → Value) (ls : Array Slot) (nL : Nat) (lv : List (Option Value)) : Prop := ls.size = nL ∧ lv_wf ls ∧ ∀ (i : Nat) (v : Value), lv[i]? = some (some v) → ls[i]? = some (.val (cv v))
def pl_prs (cv : Value → Value) : Nat → List (Option Value) → List (Nat × Value)
  | _, [] => []
  | i, none :: l => pl_prs cv (i + 1) l
  | i, some v :: l => (i, cv v) :: pl_prs cv (i + 1) l
theorem pl_prs_mem {cv : Value → Value} : ∀ (l : List (Option Value)) (i j : Nat) (v : Value), l[j]? = some (some v) → (i + j, cv v) ∈ pl_prs cv i l
  | [], i, j, v, h => by simp at h
  | x :: l, i, 0, v, h => by
    have hx : x = some v := by simpa using h
    subst hx
    simp [pl_prs]
  | x :: l, i, j + 1, v, h => by
    have h1 : l[j]? = some (some v) := by simpa using h
    have h2 := pl_prs_mem (cv := cv) l (i + 1) j v h1
    have e : i + 1 + j = i + (j + 1) := by omega
    rw [e] at h2
    cases x with
    | none => exact h2
    | some w => exact List.mem_cons_of_mem _ h2
theorem pl_prs_of {cv : Value → Value} {ls : Array Slot} : ∀ (l : List (Option Value)) (i : Nat), (∀ (j : Nat) (v : Value), l[j]? = some (some v) → ls[i + j]? = some (.val (cv v))) → ∀ q ∈ pl_prs cv i l, ls[q.1]? = some (.val q.2)
  | [], i, _, q, hq => by cases hq
  | none :: l, i, h, q, hq => pl_prs_of l (i + 1) (fun j v hj => by have := h (j + 1) v (by simpa using hj); rw [show i + 1 + j = i + (j + 1) by omega]; exact this) q hq
  | some w :: l, i, h, q, hq => by
    rcases List.mem_cons.mp hq with rfl | hq
    · exact h 0 w (by simp)
    · exact pl_prs_of l (i + 1) (fun j v hj => by have := h (j + 1) v (by simpa using hj); rw [show i + 1 + j = i + (j + 1) by omega]; exact this) q hq
theorem pl_has.kit {cv : Value → Value} {ls : Array Slot} {nL : Nat} {lv : List (Option Value)} (h : pl_has cv ls nL lv) : lv_has ls nL (pl_prs cv 0 lv) := ⟨h.1, h.2.1, pl_prs_of lv 0 (fun j v hj => by rw [Nat.zero_add]; exact h.2.2 j v hj)⟩
theorem pl_put1 {cv : Value → Value} {ls' : Array Slot} {nL i : Nat} {lv : List (Option Value)} {v : Value} (hl : lv_has ls' nL ((i, cv v) :: (pl_prs cv 0 lv).filter (fun q => !(q.1 == i) && !(q.1 + 1 == i && q.2.category == 2)))) (hi : i < lv.length) (hnl : ∀ (j : Nat) (w : Value), j + 1 = i → lv[j]? = some (some w) → ¬ (cv w).category = 2) : pl_has cv ls' nL (lv.set i (some v)) := by
  refine ⟨hl.1, hl.2.1, fun j w hj => ?_⟩
  by_cases e : i = j
  · subst e
    rw [List.getElem?_set_self hi] at hj
    cases hj
    exact hl.2.2 (i, cv v) (List.mem_cons_self)
  · rw [List.getElem?_set_ne e] at hj
    refine hl.2.2 (j, cv w) (List.mem_cons_of_mem _ (List.mem_filter.mpr ⟨?_, ?_⟩))
    · have := pl_prs_mem (cv := cv) lv 0 j w hj
      rwa [Nat.zero_add] at this
    · have h1 : ¬ j = i := fun h => e h.symm
      by_cases h2 : j + 1 = i
      · have := hnl j w h2 hj
        simp [h1, this]
      · simp [h1, h2]
theorem pl_put2 {cv : Value → Value} {ls' : Array Slot} {nL i : Nat} {lv : List (Option Value)} {v : Value} (hl : lv_has ls' nL ((i, cv v) :: (pl_prs cv 0 lv).filter (fun q => !(q.1 == i) && (!(q.1 == i + 1) && !(q.1 + 1 == i && q.2.category == 2))))) (hi : i < lv.length) (hnl : ∀ (j : Nat) (w : Value), j + 1 = i → lv[j]? = some (some w) → ¬ (cv w).category = 2) : pl_has cv ls' nL ((lv.set i (some v)).set (i + 1) none) := by
  refine ⟨hl.1, hl.2.1, fun j w hj => ?_⟩
  by_cases e0 : i + 1 = j
  · exfalso
    subst e0
    rw [List.getElem?_set] at hj
    simp at hj
  · rw [List.getElem?_set_ne e0] at hj
    by_cases e : i = j
    · subst e
      rw [List.getElem?_set_self hi] at hj
      cases hj
      exact hl.2.2 (i, cv v) (List.mem_cons_self)
    · rw [List.getElem?_set_ne e] at hj
      refine hl.2.2 (j, cv w) (List.mem_cons_of_mem _ (List.mem_filter.mpr ⟨?_, ?_⟩))
      · have := pl_prs_mem (cv := cv) lv 0 j w hj
        rwa [Nat.zero_add] at this
      · have h1 : ¬ j = i := fun h => e h.symm
        have h3 : ¬ j = i + 1 := fun h => e0 h.symm
        by_cases h2 : j + 1 = i
        · have := hnl j w h2 hj
          simp [h1, h3, this]
        · simp [h1, h2, h3]
/-- a value that takes one word, or none at all -/
def pnl : Option Value → Bool
  | some v => !(v.category == 2)
  | none => true
theorem pnl_ok {ad : Nat → Nat} {sa : UInt32 → Nat} {lv : List (Option Value)} {i : Nat} (h : ∀ j, j + 1 = i → ∀ x, lv[j]? = some x → pnl x = true) : ∀ (j : Nat) (w : Value), j + 1 = i → lv[j]? = some (some w) → ¬ (pcv ad sa w).category = 2 := by
  intro j w h1 h2 h3
  have h4 := h j h1 (some w) h2
  rw [pcv_catE] at h3
  simp [pnl, h3] at h4
theorem pnl_at {ad : Nat → Nat} {sa : UInt32 → Nat} {lv : List (Option Value)} {i : Nat} {x : Option Value} (hx : lv[i]? = some x) (hn : pnl x = true) : ∀ (j : Nat) (w : Value), j + 1 = i + 1 → lv[j]? = some (some w) → ¬ (pcv ad sa w).category = 2 :=
  pnl_ok (fun j hj x2 hx2 => by
    have e : j = i := by omega
    subst e
    have e2 : x = x2 := Option.some.inj (hx.symm.trans hx2)
    subst e2
    exact hn)
theorem pl_le {cv : Value → Value} {ls : Array Slot} {nL : Nat} {lv lv' : List (Option Value)} (h : pl_has cv ls nL lv') (hle : ∀ (i : Nat) (v : Value), lv[i]? = some (some v) → lv'[i]? = some (some v)) : pl_has cv ls nL lv := ⟨h.1, h.2.1, fun i v hi => h.2.2 i v (hle i v hi)⟩
/-! ===== the context of a method's body ===== -/
abbrev GT : Type := (Program × Launch × Env × Room × State × MethodId) × (Array Value × List Frame × Method × Code) × (va_G × (Nat → ClassId) × (Nat → Nat) × (UInt32 → Nat) × (Nat → Prop)) × Nat × Nat × (State → Prop)
def PB : GT → Nat → List (Option Value) → List Value → PH → Prop
  | ((p, l, e, R, s, m), (args, below, meth, c), (D, ta, ad, sa, A), cl, sl, Z), pc, lv, st, h =>
    ∀ (H : Heap) (locs : List Loc) (ls : Array Slot), va_P D vwCl (pcw ta ad sa h) H → va_D A (pcw ta ad sa h) → va_S A s.heap H locs → pl_has (pcv ad sa) ls c.maxLocals lv → W p l e R s m args below meth c H locs cl sl Z (F0 m pc ls (st.map (pcv ad sa)))
def GM : GT → MethodName → ByteArray → Nat → Option FieldType → Nat → Prop
  | ((p, l, e, R, s, m), (args, below, meth, c), (D, ta, ad, sa, A), cl, sl, Z), y, cc, nL, rt, k =>
    p.tables.exec = Jvm.exec ∧ c.code = cc ∧ c.maxLocals = nL ∧ meth.sig.returnType = rt ∧ meth.locks = false ∧ s.vm.findClass y.cls = some m.cls ∧ (∀ w ∈ lw_g, w.before args s = true) ∧ (k ≤ R.frames ∧ 60 * k ≤ R.locals ∧ cl ≤ R.cells ∧ sl ≤ R.slots) ∧ va_K D vwCl (ptys ta) s ∧ (∀ q, s.heap.size ≤ q → A q) ∧ PS sa A s s.heap
/-- how a method's end is told -/
def PQ (D : va_G) (ta : Nat → ClassId) (ad : Nat → Nat) (sa : UInt32 → Nat) (A : Nat → Prop) (Q : Option Value → PH → Prop) : Array Value → State → Outcome → State → Prop := fun _ st oc t => (∃ (r : Option Value) (h' : PH), oc = .returned (r.map (pcv ad sa)) ∧ Q r h' ∧ va_P D vwCl (pcw ta ad sa h') t.heap ∧ va_K D vwCl (ptys ta) t ∧ va_D A (pcw ta ad sa h')) ∧ va_F A st t
def GZ : GT → (Option Value → PH → Prop) → Prop
  | ((p, l, e, R, s, m), (args, below, meth, c), (D, ta, ad, sa, A), cl, sl, Z), Q => Z = MQ below (PQ D ta ad sa A Q) args s cl sl A
def pws (y : MethodName) (cc : ByteArray) (nL : Nat) (rt : Option FieldType) : List Cond := Cond.code y cc nL rt :: lw_g
def prm (k : Nat) : Room := { frames := k, cells := 0, slots := 0, locals := 60 * k }
def pst (D : va_G) (ta : Nat → ClassId) (ad : Nat → Nat) (sa : UInt32 → Nat) (h : PH) (sz : Nat) (U : State) : Prop := U.heap.size = sz ∧ va_P D vwCl (pcw ta ad sa h) U.heap ∧ va_K D vwCl (ptys ta) U ∧ va_D (fun _ => True) (pcw ta ad sa h) ∧ PS sa (va_A (pcw ta ad sa h) sz) U U.heap
/-- the contract of a method that makes no cell: called with these arguments over this heap it returns, with Q -/
def Runs (y : MethodName) (cc : ByteArray) (nL : Nat) (rt : Option FieldType) (k : Nat) (av : List Value) (h : PH) (Q : Option Value → PH → Prop) : Prop := ∀ (l : Launch) (D : va_G) (ta : Nat → ClassId) (ad : Nat → Nat) (sa : UInt32 → Nat) (sz : Nat), Met l y (pws y cc nL rt) (prm k) (va_Pc (av.map (pcv ad sa)) (pst D ta ad sa h sz)) (PQ D ta ad sa (va_A (pcw ta ad sa h) sz) Q) 0 0 (va_A (pcw ta ad sa h) sz)
def pl_ent : List Value → List (Option Value)
  | [] => []
  | v :: vs => if v.category = 2 then some v :: none :: pl_ent vs else some v :: pl_ent vs
theorem pl_ent_at {cv : Value → Value} (hcv : ∀ v, (cv v).category = v.category) : ∀ (vs : List Value) (i j : Nat) (v : Value), (pl_ent vs)[j]? = some (some v) → (i + j, cv v) ∈ lv_args i (vs.map cv)
  | [], i, j, v, h => by simp [pl_ent] at h
  | x :: vs, i, j, v, h => by
    simp only [List.map_cons, lv_args, hcv]
    by_cases hc : x.category = 2
    · simp only [pl_ent, hc, if_true] at h ⊢
      match j, h with
      | 0, h =>
        have hx : x = v := by simpa using h
        subst hx
        exact List.mem_cons_self
      | 1, h => simp at h
      | j + 2, h =>
        have h1 : (pl_ent vs)[j]? = some (some v) := by simpa using h
        have h2 := pl_ent_at hcv vs (i + 2) j v h1
        rw [show i + 2 + j = i + (j + 2) by omega] at h2
        exact List.mem_cons_of_mem _ h2
    · simp only [pl_ent, hc, if_false] at h ⊢
      match j, h with
      | 0, h =>
        have hx : x = v := by simpa using h
        subst hx
        exact List.mem_cons_self
      | j + 1, h =>
        have h1 : (pl_ent vs)[j]? = some (some v) := by simpa using h
        have h2 := pl_ent_at hcv vs (i + 1) j v h1
        rw [show i + 1 + j = i + (j + 1) by omega] at h2
        exact List.mem_cons_of_mem _ h2
theorem lg_sl_len {cv : Value → Value} (hcv : ∀ v, (cv v).category = v.category) : ∀ vs : List Value, (lg_sl (vs.map cv)).length = (vs.map fun v => v.category).sum
  | [] => rfl
  | v :: vs => by
    have ih := lg_sl_len hcv vs
    simp only [lg_sl, List.map_cons, List.flatMap_cons, List.length_append, List.sum_cons] at ih ⊢
    rw [ih, ← hcv v]
    congr 1
    cases cv v <;> rfl
theorem Runs.of {y : MethodName} {cc : ByteArray} {nL : Nat} {rt : Option FieldType} {k : Nat} {av : List Value} {h : PH} {Q : Option Value → PH → Prop} (hy : plainName y.cls = true) (hlen : (av.map fun v => v.category).sum ≤ nL) (lv : List (Option Value)) (mm : Nat) (hlv : pl_ent av ++ List.replicate mm none = lv)
    (body : ∀ Γ : GT, GM Γ y cc nL rt k → GZ Γ Q → PB Γ 0 lv [] h) : Runs y cc nL rt k av h Q := by
  intro l D ta ad sa sz
  refine Met.ofW (cc := cc) (maxL := nL) (ret := rt) hy rfl ?_
  intro p e s m args below meth c s₁ B hml hv
  obtain ⟨rfl, hsz, hP, hK, hD0, hPS⟩ := hv
  subst hsz
  have hts0 := atoms_spec (ws := pws y cc nL rt) B.pre
  have hts : ∀ w ∈ lw_g, w.before (av.map (pcv ad sa)).toArray s = true := fun w hw => hts0 w (List.mem_cons_of_mem _ hw)
  have hown : s.vm.findClass y.cls = some m.cls := findClass_of_methodNamed B.named
  have hb := body ((p, l, e, (headSpec (pws y cc nL rt) (prm k)).room, s, m), ((av.map (pcv ad sa)).toArray, below, meth, c), (D, ta, ad, sa, va_A (pcw ta ad sa h) s.heap.size), 0, 0, MQ below (PQ D ta ad sa (va_A (pcw ta ad sa h) s.heap.size) Q) (av.map (pcv ad sa)).toArray s 0 0 (va_A (pcw ta ad sa h) s.heap.size)) ⟨B.exec, B.bytes, hml, B.returns, B.notSynchronized, hown, hts, ⟨Nat.le_refl _, Nat.le_refl _, Nat.zero_le _, Nat.zero_le _⟩, hK, fun q hq => Or.inr hq, hPS⟩ rfl
  rw [lg_entry_eq]
  have hl0 := lv_entry (av.map (pcv ad sa)) (n := nL) (by rw [lg_sl_len pcv_catE]; exact hlen)
  refine hb s.heap [] _ hP hD0.self va_S.rf ⟨by rw [hml]; exact hl0.1, hl0.2.1, fun i v hi => ?_⟩
  have hi2 : (pl_ent av)[i]? = some (some v) := by
    subst hlv
    by_cases hlt : i < (pl_ent av).length
    · rwa [List.getElem?_append_left hlt] at hi
    · exfalso
      rw [List.getElem?_append_right (by omega)] at hi
      have := List.eq_of_mem_replicate (List.mem_of_getElem? hi)
      cases this
  have h2 := pl_ent_at (cv := pcv ad sa) pcv_catE av 0 i v hi2
  rw [Nat.zero_add] at h2
  exact hl0.2.2 (i, pcv ad sa v) h2

section PBS
variable {Γ : GT} {y : MethodName} {cc : ByteArray} {nL : Nat} {rt : Option FieldType} {k pc : Nat} {lv : List (Option Value)} {st : List Value} {h : PH} {Q : Option Value → PH → Prop}
theorem PB.forget (lv' : List (Option Value)) (hle : ∀ (i : Nat) (v : Value), lv'[i]? = some (some v) → lv[i]? = some (some v)) (kk : PB Γ pc lv' st h) : PB Γ pc lv st h := by
  obtain ⟨⟨p, l, e, R, s, m⟩, ⟨args, below, meth, c⟩, ⟨D, ta, ad, sa, A⟩, cl, sl, Z⟩ := Γ
  intro H locs ls hP hD hS hl
  exact kk H locs ls hP hD hS (pl_le hl hle)
theorem pb_iconst (g : GM Γ y cc nL rt k) {n : Int} {v : Int32} (hdg : decode cc pc = .ok (.iconst n, 1)) (hv : Int32.ofInt n = v) (kk : PB Γ (pc + 1) lv (.int v :: st) h) : PB Γ pc lv (st) h := by
  obtain ⟨⟨p, l, e, R, s, m⟩, ⟨args, below, meth, c⟩, ⟨D, ta, ad, sa, A⟩, cl, sl, Z⟩ := Γ
  obtain ⟨hx, hb, hml, hr, hlk, hown, hts, hR, hK, hA, hPS⟩ := g
  intro H locs ls hP hD hS hl
  exact lv_iconst hx hb hdg hv (kk H locs ls hP hD hS hl)
theorem pb_bipush (g : GM Γ y cc nL rt k) {n : Int} {v : Int32} (hdg : decode cc pc = .ok (.bipush n, 2)) (hv : (Int8.ofInt n).toInt32 = v) (kk : PB Γ (pc + 2) lv (.int v :: st) h) : PB Γ pc lv (st) h := by
  obtain ⟨⟨p, l, e, R, s, m⟩, ⟨args, below, meth, c⟩, ⟨D, ta, ad, sa, A⟩, cl, sl, Z⟩ := Γ
  obtain ⟨hx, hb, hml, hr, hlk, hown, hts, hR, hK, hA, hPS⟩ := g
  intro H locs ls hP hD hS hl
  exact lv_bipush hx hb hdg hv (kk H locs ls hP hD hS hl)
theorem pb_sipush (g : GM Γ y cc nL rt k) {n : Int} {v : Int32} (hdg : decode cc pc = .ok (.sipush n, 3)) (hv : (Int16.ofInt n).toInt32 = v) (kk : PB Γ (pc + 3) lv (.int v :: st) h) : PB Γ pc lv (st) h := by
  obtain ⟨⟨p, l, e, R, s, m⟩, ⟨args, below, meth, c⟩, ⟨D, ta, ad, sa, A⟩, cl, sl, Z⟩ := Γ
  obtain ⟨hx, hb, hml, hr, hlk, hown, hts, hR, hK, hA, hPS⟩ := g
  intro H locs ls hP hD hS hl
  exact lv_sipush hx hb hdg hv (kk H locs ls hP hD hS hl)
theorem pb_lconst (g : GM Γ y cc nL rt k) {n : Fin 2} {v : Int64} (hdg : decode cc pc = .ok (.lconst n, 1)) (hv : Int64.ofNat (n : Nat) = v) (kk : PB Γ (pc + 1) lv (.long v :: st) h) : PB Γ pc lv (st) h := by
  obtain ⟨⟨p, l, e, R, s, m⟩, ⟨args, below, meth, c⟩, ⟨D, ta, ad, sa, A⟩, cl, sl, Z⟩ := Γ
  obtain ⟨hx, hb, hml, hr, hlk, hown, hts, hR, hK, hA, hPS⟩ := g
  intro H locs ls hP hD hS hl
  exact lv_lconst hx hb hdg hv (kk H locs ls hP hD hS hl)
theorem pb_iadd (g : GM Γ y cc nL rt k) {x z : Int32} (hdg : decode cc pc = .ok (.iadd, 1))  (kk : PB Γ (pc + 1) lv (.int (x + z) :: st) h) : PB Γ pc lv (.int z :: .int x :: st) h := by
  obtain ⟨⟨p, l, e, R, s, m⟩, ⟨args, below, meth, c⟩, ⟨D, ta, ad, sa, A⟩, cl, sl, Z⟩ := Γ
  obtain ⟨hx, hb, hml, hr, hlk, hown, hts, hR, hK, hA, hPS⟩ := g
  intro H locs ls hP hD hS hl
  exact lv_iadd hx hb hdg  (kk H locs ls hP hD hS hl)
theorem pb_isub (g : GM Γ y cc nL rt k) {x z : Int32} (hdg : decode cc pc = .ok (.isub, 1))  (kk : PB Γ (pc + 1) lv (.int (x - z) :: st) h) : PB Γ pc lv (.int z :: .int x :: st) h := by
  obtain ⟨⟨p, l, e, R, s, m⟩, ⟨args, below, meth, c⟩, ⟨D, ta, ad, sa, A⟩, cl, sl, Z⟩ := Γ
  obtain ⟨hx, hb, hml, hr, hlk, hown, hts, hR, hK, hA, hPS⟩ := g
  intro H locs ls hP hD hS hl
  exact lv_isub hx hb hdg  (kk H locs ls hP hD hS hl)
theorem pb_imul (g : GM Γ y cc nL rt k) {x z : Int32} (hdg : decode cc pc = .ok (.imul, 1))  (kk : PB Γ (pc + 1) lv (.int (x * z) :: st) h) : PB Γ pc lv (.int z :: .int x :: st) h := by
  obtain ⟨⟨p, l, e, R, s, m⟩, ⟨args, below, meth, c⟩, ⟨D, ta, ad, sa, A⟩, cl, sl, Z⟩ := Γ
  obtain ⟨hx, hb, hml, hr, hlk, hown, hts, hR, hK, hA, hPS⟩ := g
  intro H locs ls hP hD hS hl
  exact lv_imul hx hb hdg  (kk H locs ls hP hD hS hl)
theorem pb_iand (g : GM Γ y cc nL rt k) {x z : Int32} (hdg : decode cc pc = .ok (.iand, 1))  (kk : PB Γ (pc + 1) lv (.int (x &&& z) :: st) h) : PB Γ pc lv (.int z :: .int x :: st) h := by
  obtain ⟨⟨p, l, e, R, s, m⟩, ⟨args, below, meth, c⟩, ⟨D, ta, ad, sa, A⟩, cl, sl, Z⟩ := Γ
  obtain ⟨hx, hb, hml, hr, hlk, hown, hts, hR, hK, hA, hPS⟩ := g
  intro H locs ls hP hD hS hl
  exact lv_iand hx hb hdg  (kk H locs ls hP hD hS hl)
theorem pb_ior (g : GM Γ y cc nL rt k) {x z : Int32} (hdg : decode cc pc = .ok (.ior, 1))  (kk : PB Γ (pc + 1) lv (.int (x ||| z) :: st) h) : PB Γ pc lv (.int z :: .int x :: st) h := by
  obtain ⟨⟨p, l, e, R, s, m⟩, ⟨args, below, meth, c⟩, ⟨D, ta, ad, sa, A⟩, cl, sl, Z⟩ := Γ
  obtain ⟨hx, hb, hml, hr, hlk, hown, hts, hR, hK, hA, hPS⟩ := g
  intro H locs ls hP hD hS hl
  exact lv_ior hx hb hdg  (kk H locs ls hP hD hS hl)
theorem pb_ixor (g : GM Γ y cc nL rt k) {x z : Int32} (hdg : decode cc pc = .ok (.ixor, 1))  (kk : PB Γ (pc + 1) lv (.int (x ^^^ z) :: st) h) : PB Γ pc lv (.int z :: .int x :: st) h := by
  obtain ⟨⟨p, l, e, R, s, m⟩, ⟨args, below, meth, c⟩, ⟨D, ta, ad, sa, A⟩, cl, sl, Z⟩ := Γ
  obtain ⟨hx, hb, hml, hr, hlk, hown, hts, hR, hK, hA, hPS⟩ := g
  intro H locs ls hP hD hS hl
  exact lv_ixor hx hb hdg  (kk H locs ls hP hD hS hl)
theorem pb_ladd (g : GM Γ y cc nL rt k) {x z : Int64} (hdg : decode cc pc = .ok (.ladd, 1))  (kk : PB Γ (pc + 1) lv (.long (x + z) :: st) h) : PB Γ pc lv (.long z :: .long x :: st) h := by
  obtain ⟨⟨p, l, e, R, s, m⟩, ⟨args, below, meth, c⟩, ⟨D, ta, ad, sa, A⟩, cl, sl, Z⟩ := Γ
  obtain ⟨hx, hb, hml, hr, hlk, hown, hts, hR, hK, hA, hPS⟩ := g
  intro H locs ls hP hD hS hl
  exact lv_ladd hx hb hdg  (kk H locs ls hP hD hS hl)
theorem pb_lsub (g : GM Γ y cc nL rt k) {x z : Int64} (hdg : decode cc pc = .ok (.lsub, 1))  (kk : PB Γ (pc + 1) lv (.long (x - z) :: st) h) : PB Γ pc lv (.long z :: .long x :: st) h := by
  obtain ⟨⟨p, l, e, R, s, m⟩, ⟨args, below, meth, c⟩, ⟨D, ta, ad, sa, A⟩, cl, sl, Z⟩ := Γ
  obtain ⟨hx, hb, hml, hr, hlk, hown, hts, hR, hK, hA, hPS⟩ := g
  intro H locs ls hP hD hS hl
  exact lv_lsub hx hb hdg  (kk H locs ls hP hD hS hl)
theorem pb_lmul (g : GM Γ y cc nL rt k) {x z : Int64} (hdg : decode cc pc = .ok (.lmul, 1))  (kk : PB Γ (pc + 1) lv (.long (x * z) :: st) h) : PB Γ pc lv (.long z :: .long x :: st) h := by
  obtain ⟨⟨p, l, e, R, s, m⟩, ⟨args, below, meth, c⟩, ⟨D, ta, ad, sa, A⟩, cl, sl, Z⟩ := Γ
  obtain ⟨hx, hb, hml, hr, hlk, hown, hts, hR, hK, hA, hPS⟩ := g
  intro H locs ls hP hD hS hl
  exact lv_lmul hx hb hdg  (kk H locs ls hP hD hS hl)
theorem pb_land (g : GM Γ y cc nL rt k) {x z : Int64} (hdg : decode cc pc = .ok (.land, 1))  (kk : PB Γ (pc + 1) lv (.long (x &&& z) :: st) h) : PB Γ pc lv (.long z :: .long x :: st) h := by
  obtain ⟨⟨p, l, e, R, s, m⟩, ⟨args, below, meth, c⟩, ⟨D, ta, ad, sa, A⟩, cl, sl, Z⟩ := Γ
  obtain ⟨hx, hb, hml, hr, hlk, hown, hts, hR, hK, hA, hPS⟩ := g
  intro H locs ls hP hD hS hl
  exact lv_land hx hb hdg  (kk H locs ls hP hD hS hl)
theorem pb_lor (g : GM Γ y cc nL rt k) {x z : Int64} (hdg : decode cc pc = .ok (.lor, 1))  (kk : PB Γ (pc + 1) lv (.long (x ||| z) :: st) h) : PB Γ pc lv (.long z :: .long x :: st) h := by
  obtain ⟨⟨p, l, e, R, s, m⟩, ⟨args, below, meth, c⟩, ⟨D, ta, ad, sa, A⟩, cl, sl, Z⟩ := Γ
  obtain ⟨hx, hb, hml, hr, hlk, hown, hts, hR, hK, hA, hPS⟩ := g
  intro H locs ls hP hD hS hl
  exact lv_lor hx hb hdg  (kk H locs ls hP hD hS hl)
theorem pb_idiv (g : GM Γ y cc nL rt k) {x z : Int32} (hdg : decode cc pc = .ok (.idiv, 1)) (hne : ¬ z = 0) (kk : PB Γ (pc + 1) lv (.int (x / z) :: st) h) : PB Γ pc lv (.int z :: .int x :: st) h := by
  obtain ⟨⟨p, l, e, R, s, m⟩, ⟨args, below, meth, c⟩, ⟨D, ta, ad, sa, A⟩, cl, sl, Z⟩ := Γ
  obtain ⟨hx, hb, hml, hr, hlk, hown, hts, hR, hK, hA, hPS⟩ := g
  intro H locs ls hP hD hS hl
  exact lv_idiv hx hb hdg hne (kk H locs ls hP hD hS hl)
theorem pb_irem (g : GM Γ y cc nL rt k) {x z : Int32} (hdg : decode cc pc = .ok (.irem, 1)) (hne : ¬ z = 0) (kk : PB Γ (pc + 1) lv (.int (x - x / z * z) :: st) h) : PB Γ pc lv (.int z :: .int x :: st) h := by
  obtain ⟨⟨p, l, e, R, s, m⟩, ⟨args, below, meth, c⟩, ⟨D, ta, ad, sa, A⟩, cl, sl, Z⟩ := Γ
  obtain ⟨hx, hb, hml, hr, hlk, hown, hts, hR, hK, hA, hPS⟩ := g
  intro H locs ls hP hD hS hl
  exact lv_irem hx hb hdg hne (kk H locs ls hP hD hS hl)
theorem pb_ldiv (g : GM Γ y cc nL rt k) {x z : Int64} (hdg : decode cc pc = .ok (.ldiv, 1)) (hne : ¬ z = 0) (kk : PB Γ (pc + 1) lv (.long (x / z) :: st) h) : PB Γ pc lv (.long z :: .long x :: st) h := by
  obtain ⟨⟨p, l, e, R, s, m⟩, ⟨args, below, meth, c⟩, ⟨D, ta, ad, sa, A⟩, cl, sl, Z⟩ := Γ
  obtain ⟨hx, hb, hml, hr, hlk, hown, hts, hR, hK, hA, hPS⟩ := g
  intro H locs ls hP hD hS hl
  exact lv_ldiv hx hb hdg hne (kk H locs ls hP hD hS hl)
theorem pb_lrem (g : GM Γ y cc nL rt k) {x z : Int64} (hdg : decode cc pc = .ok (.lrem, 1)) (hne : ¬ z = 0) (kk : PB Γ (pc + 1) lv (.long (x - x / z * z) :: st) h) : PB Γ pc lv (.long z :: .long x :: st) h := by
  obtain ⟨⟨p, l, e, R, s, m⟩, ⟨args, below, meth, c⟩, ⟨D, ta, ad, sa, A⟩, cl, sl, Z⟩ := Γ
  obtain ⟨hx, hb, hml, hr, hlk, hown, hts, hR, hK, hA, hPS⟩ := g
  intro H locs ls hP hD hS hl
  exact lv_lrem hx hb hdg hne (kk H locs ls hP hD hS hl)
theorem pb_lneg (g : GM Γ y cc nL rt k) {x : Int64} (hdg : decode cc pc = .ok (.lneg, 1))  (kk : PB Γ (pc + 1) lv (.long (-x) :: st) h) : PB Γ pc lv (.long x :: st) h := by
  obtain ⟨⟨p, l, e, R, s, m⟩, ⟨args, below, meth, c⟩, ⟨D, ta, ad, sa, A⟩, cl, sl, Z⟩ := Γ
  obtain ⟨hx, hb, hml, hr, hlk, hown, hts, hR, hK, hA, hPS⟩ := g
  intro H locs ls hP hD hS hl
  exact lv_lneg hx hb hdg  (kk H locs ls hP hD hS hl)
theorem pb_ishl (g : GM Γ y cc nL rt k) {x z : Int32} (hdg : decode cc pc = .ok (.ishl, 1))  (kk : PB Γ (pc + 1) lv (.int (x <<< (z &&& 31)) :: st) h) : PB Γ pc lv (.int z :: .int x :: st) h := by
  obtain ⟨⟨p, l, e, R, s, m⟩, ⟨args, below, meth, c⟩, ⟨D, ta, ad, sa, A⟩, cl, sl, Z⟩ := Γ
  obtain ⟨hx, hb, hml, hr, hlk, hown, hts, hR, hK, hA, hPS⟩ := g
  intro H locs ls hP hD hS hl
  exact lv_ishl hx hb hdg  (kk H locs ls hP hD hS hl)
theorem pb_ishr (g : GM Γ y cc nL rt k) {x z : Int32} (hdg : decode cc pc = .ok (.ishr, 1))  (kk : PB Γ (pc + 1) lv (.int (x >>> (z &&& 31)) :: st) h) : PB Γ pc lv (.int z :: .int x :: st) h := by
  obtain ⟨⟨p, l, e, R, s, m⟩, ⟨args, below, meth, c⟩, ⟨D, ta, ad, sa, A⟩, cl, sl, Z⟩ := Γ
  obtain ⟨hx, hb, hml, hr, hlk, hown, hts, hR, hK, hA, hPS⟩ := g
  intro H locs ls hP hD hS hl
  exact lv_ishr hx hb hdg  (kk H locs ls hP hD hS hl)
theorem pb_iushr (g : GM Γ y cc nL rt k) {x z : Int32} (hdg : decode cc pc = .ok (.iushr, 1))  (kk : PB Γ (pc + 1) lv (.int ((x.toUInt32 >>> (z.toUInt32 &&& Int32.toUInt32 31)).toInt32) :: st) h) : PB Γ pc lv (.int z :: .int x :: st) h := by
  obtain ⟨⟨p, l, e, R, s, m⟩, ⟨args, below, meth, c⟩, ⟨D, ta, ad, sa, A⟩, cl, sl, Z⟩ := Γ
  obtain ⟨hx, hb, hml, hr, hlk, hown, hts, hR, hK, hA, hPS⟩ := g
  intro H locs ls hP hD hS hl
  exact lv_iushr hx hb hdg rfl (kk H locs ls hP hD hS hl)
theorem pb_lshl (g : GM Γ y cc nL rt k) {x : Int64} {z : Int32} (hdg : decode cc pc = .ok (.lshl, 1))  (kk : PB Γ (pc + 1) lv (.long (x <<< (z.toInt64 &&& 63)) :: st) h) : PB Γ pc lv (.int z :: .long x :: st) h := by
  obtain ⟨⟨p, l, e, R, s, m⟩, ⟨args, below, meth, c⟩, ⟨D, ta, ad, sa, A⟩, cl, sl, Z⟩ := Γ
  obtain ⟨hx, hb, hml, hr, hlk, hown, hts, hR, hK, hA, hPS⟩ := g
  intro H locs ls hP hD hS hl
  exact lv_lshl hx hb hdg rfl (kk H locs ls hP hD hS hl)
theorem pb_lshr (g : GM Γ y cc nL rt k) {x : Int64} {z : Int32} (hdg : decode cc pc = .ok (.lshr, 1))  (kk : PB Γ (pc + 1) lv (.long (x >>> (z.toInt64 &&& 63)) :: st) h) : PB Γ pc lv (.int z :: .long x :: st) h := by
  obtain ⟨⟨p, l, e, R, s, m⟩, ⟨args, below, meth, c⟩, ⟨D, ta, ad, sa, A⟩, cl, sl, Z⟩ := Γ
  obtain ⟨hx, hb, hml, hr, hlk, hown, hts, hR, hK, hA, hPS⟩ := g
  intro H locs ls hP hD hS hl
  exact lv_lshr hx hb hdg rfl (kk H locs ls hP hD hS hl)
theorem pb_i2l (g : GM Γ y cc nL rt k) {x : Int32} (hdg : decode cc pc = .ok (.i2l, 1))  (kk : PB Γ (pc + 1) lv (.long x.toInt64 :: st) h) : PB Γ pc lv (.int x :: st) h := by
  obtain ⟨⟨p, l, e, R, s, m⟩, ⟨args, below, meth, c⟩, ⟨D, ta, ad, sa, A⟩, cl, sl, Z⟩ := Γ
  obtain ⟨hx, hb, hml, hr, hlk, hown, hts, hR, hK, hA, hPS⟩ := g
  intro H locs ls hP hD hS hl
  exact lv_i2l hx hb hdg rfl (kk H locs ls hP hD hS hl)
theorem pb_l2i (g : GM Γ y cc nL rt k) {x : Int64} (hdg : decode cc pc = .ok (.l2i, 1))  (kk : PB Γ (pc + 1) lv (.int x.toInt32 :: st) h) : PB Γ pc lv (.long x :: st) h := by
  obtain ⟨⟨p, l, e, R, s, m⟩, ⟨args, below, meth, c⟩, ⟨D, ta, ad, sa, A⟩, cl, sl, Z⟩ := Γ
  obtain ⟨hx, hb, hml, hr, hlk, hown, hts, hR, hK, hA, hPS⟩ := g
  intro H locs ls hP hD hS hl
  exact lv_l2i hx hb hdg rfl (kk H locs ls hP hD hS hl)
theorem pb_i2b (g : GM Γ y cc nL rt k) {x : Int32} (hdg : decode cc pc = .ok (.i2b, 1))  (kk : PB Γ (pc + 1) lv (.int x.toInt8.toInt32 :: st) h) : PB Γ pc lv (.int x :: st) h := by
  obtain ⟨⟨p, l, e, R, s, m⟩, ⟨args, below, meth, c⟩, ⟨D, ta, ad, sa, A⟩, cl, sl, Z⟩ := Γ
  obtain ⟨hx, hb, hml, hr, hlk, hown, hts, hR, hK, hA, hPS⟩ := g
  intro H locs ls hP hD hS hl
  exact lv_i2b hx hb hdg rfl (kk H locs ls hP hD hS hl)
theorem pb_i2s (g : GM Γ y cc nL rt k) {x : Int32} (hdg : decode cc pc = .ok (.i2s, 1))  (kk : PB Γ (pc + 1) lv (.int x.toInt16.toInt32 :: st) h) : PB Γ pc lv (.int x :: st) h := by
  obtain ⟨⟨p, l, e, R, s, m⟩, ⟨args, below, meth, c⟩, ⟨D, ta, ad, sa, A⟩, cl, sl, Z⟩ := Γ
  obtain ⟨hx, hb, hml, hr, hlk, hown, hts, hR, hK, hA, hPS⟩ := g
  intro H locs ls hP hD hS hl
  exact lv_i2s hx hb hdg rfl (kk H locs ls hP hD hS hl)
theorem pb_dup (g : GM Γ y cc nL rt k) {v : Value} (hdg : decode cc pc = .ok (.dup, 1)) (hv : v.category = 1) (kk : PB Γ (pc + 1) lv (v :: v :: st) h) : PB Γ pc lv (v :: st) h := by
  obtain ⟨⟨p, l, e, R, s, m⟩, ⟨args, below, meth, c⟩, ⟨D, ta, ad, sa, A⟩, cl, sl, Z⟩ := Γ
  obtain ⟨hx, hb, hml, hr, hlk, hown, hts, hR, hK, hA, hPS⟩ := g
  intro H locs ls hP hD hS hl
  exact lv_dup hx hb hdg (pcv_cat hv) (kk H locs ls hP hD hS hl)
theorem pb_dup_x1 (g : GM Γ y cc nL rt k) {v w : Value} (hdg : decode cc pc = .ok (.dup_x1, 1)) (hv : v.category = 1) (hw : w.category = 1) (kk : PB Γ (pc + 1) lv (v :: w :: v :: st) h) : PB Γ pc lv (v :: w :: st) h := by
  obtain ⟨⟨p, l, e, R, s, m⟩, ⟨args, below, meth, c⟩, ⟨D, ta, ad, sa, A⟩, cl, sl, Z⟩ := Γ
  obtain ⟨hx, hb, hml, hr, hlk, hown, hts, hR, hK, hA, hPS⟩ := g
  intro H locs ls hP hD hS hl
  exact lv_dup_x1 hx hb hdg (pcv_cat hv) (pcv_cat hw) (kk H locs ls hP hD hS hl)
theorem pb_dup_x2 (g : GM Γ y cc nL rt k) {v w z : Value} (hdg : decode cc pc = .ok (.dup_x2, 1)) (hv : v.category = 1) (hw : w.category = 1) (hz : z.category = 1) (kk : PB Γ (pc + 1) lv (v :: w :: z :: v :: st) h) : PB Γ pc lv (v :: w :: z :: st) h := by
  obtain ⟨⟨p, l, e, R, s, m⟩, ⟨args, below, meth, c⟩, ⟨D, ta, ad, sa, A⟩, cl, sl, Z⟩ := Γ
  obtain ⟨hx, hb, hml, hr, hlk, hown, hts, hR, hK, hA, hPS⟩ := g
  intro H locs ls hP hD hS hl
  exact lv_dup_x2 hx hb hdg (pcv_cat hv) (pcv_cat hw) (pcv_cat hz) (kk H locs ls hP hD hS hl)
theorem pb_dup2 (g : GM Γ y cc nL rt k) {v w : Value} (hdg : decode cc pc = .ok (.dup2, 1)) (hv : v.category = 1) (hw : w.category = 1) (kk : PB Γ (pc + 1) lv (v :: w :: v :: w :: st) h) : PB Γ pc lv (v :: w :: st) h := by
  obtain ⟨⟨p, l, e, R, s, m⟩, ⟨args, below, meth, c⟩, ⟨D, ta, ad, sa, A⟩, cl, sl, Z⟩ := Γ
  obtain ⟨hx, hb, hml, hr, hlk, hown, hts, hR, hK, hA, hPS⟩ := g
  intro H locs ls hP hD hS hl
  exact lv_dup2_11 hx hb hdg (pcv_cat hv) (pcv_cat hw) (kk H locs ls hP hD hS hl)
theorem pb_pop (g : GM Γ y cc nL rt k) {v : Value} (hdg : decode cc pc = .ok (.pop, 1)) (hv : v.category = 1) (kk : PB Γ (pc + 1) lv (st) h) : PB Γ pc lv (v :: st) h := by
  obtain ⟨⟨p, l, e, R, s, m⟩, ⟨args, below, meth, c⟩, ⟨D, ta, ad, sa, A⟩, cl, sl, Z⟩ := Γ
  obtain ⟨hx, hb, hml, hr, hlk, hown, hts, hR, hK, hA, hPS⟩ := g
  intro H locs ls hP hD hS hl
  exact lv_pop hx hb hdg (pcv_cat hv) (kk H locs ls hP hD hS hl)
theorem pb_lcmp (g : GM Γ y cc nL rt k) {x z : Int64} (hdg : decode cc pc = .ok (.lcmp, 1)) (kk : PB Γ (pc + 1) lv (.int (lg_cmp x z) :: st) h) : PB Γ pc lv (.long z :: .long x :: st) h := by
  obtain ⟨⟨p, l, e, R, s, m⟩, ⟨args, below, meth, c⟩, ⟨D, ta, ad, sa, A⟩, cl, sl, Z⟩ := Γ
  obtain ⟨hx, hb, hml, hr, hlk, hown, hts, hR, hK, hA, hPS⟩ := g
  intro H locs ls hP hD hS hl
  exact W.lcmp hx hb hdg (kk H locs ls hP hD hS hl)
theorem pb_if_eq (g : GM Γ y cc nL rt k) {x : Int32} {off : Int} (tgt : Nat) (hdg : decode cc pc = .ok (.ifCond .eq off, 3)) (ht : (pc : Int) + off = (tgt : Int)) (kt : x = 0 → PB Γ tgt lv st h) (kf : ¬ x = 0 → PB Γ (pc + 3) lv st h) : PB Γ pc lv (.int x :: st) h := by
  obtain ⟨⟨p, l, e, R, s, m⟩, ⟨args, below, meth, c⟩, ⟨D, ta, ad, sa, A⟩, cl, sl, Z⟩ := Γ
  obtain ⟨hx, hb, hml, hr, hlk, hown, hts, hR, hK, hA, hPS⟩ := g
  intro H locs ls hP hD hS hl
  exact lv_if_eq hx hb hdg ht (fun q => kt q H locs ls hP hD hS hl) (fun q => kf q H locs ls hP hD hS hl)
theorem pb_if_ne (g : GM Γ y cc nL rt k) {x : Int32} {off : Int} (tgt : Nat) (hdg : decode cc pc = .ok (.ifCond .ne off, 3)) (ht : (pc : Int) + off = (tgt : Int)) (kt : ¬ x = 0 → PB Γ tgt lv st h) (kf : x = 0 → PB Γ (pc + 3) lv st h) : PB Γ pc lv (.int x :: st) h := by
  obtain ⟨⟨p, l, e, R, s, m⟩, ⟨args, below, meth, c⟩, ⟨D, ta, ad, sa, A⟩, cl, sl, Z⟩ := Γ
  obtain ⟨hx, hb, hml, hr, hlk, hown, hts, hR, hK, hA, hPS⟩ := g
  intro H locs ls hP hD hS hl
  exact lv_if_ne hx hb hdg ht (fun q => kt q H locs ls hP hD hS hl) (fun q => kf q H locs ls hP hD hS hl)
theorem pb_if_lt (g : GM Γ y cc nL rt k) {x : Int32} {off : Int} (tgt : Nat) (hdg : decode cc pc = .ok (.ifCond .lt off, 3)) (ht : (pc : Int) + off = (tgt : Int)) (kt : x < 0 → PB Γ tgt lv st h) (kf : ¬ x < 0 → PB Γ (pc + 3) lv st h) : PB Γ pc lv (.int x :: st) h := by
  obtain ⟨⟨p, l, e, R, s, m⟩, ⟨args, below, meth, c⟩, ⟨D, ta, ad, sa, A⟩, cl, sl, Z⟩ := Γ
  obtain ⟨hx, hb, hml, hr, hlk, hown, hts, hR, hK, hA, hPS⟩ := g
  intro H locs ls hP hD hS hl
  exact lv_if_lt hx hb hdg ht (fun q => kt q H locs ls hP hD hS hl) (fun q => kf q H locs ls hP hD hS hl)
theorem pb_if_ge (g : GM Γ y cc nL rt k) {x : Int32} {off : Int} (tgt : Nat) (hdg : decode cc pc = .ok (.ifCond .ge off, 3)) (ht : (pc : Int) + off = (tgt : Int)) (kt : 0 ≤ x → PB Γ tgt lv st h) (kf : ¬ 0 ≤ x → PB Γ (pc + 3) lv st h) : PB Γ pc lv (.int x :: st) h := by
  obtain ⟨⟨p, l, e, R, s, m⟩, ⟨args, below, meth, c⟩, ⟨D, ta, ad, sa, A⟩, cl, sl, Z⟩ := Γ
  obtain ⟨hx, hb, hml, hr, hlk, hown, hts, hR, hK, hA, hPS⟩ := g
  intro H locs ls hP hD hS hl
  exact lv_if_ge hx hb hdg ht (fun q => kt q H locs ls hP hD hS hl) (fun q => kf q H locs ls hP hD hS hl)
theorem pb_if_gt (g : GM Γ y cc nL rt k) {x : Int32} {off : Int} (tgt : Nat) (hdg : decode cc pc = .ok (.ifCond .gt off, 3)) (ht : (pc : Int) + off = (tgt : Int)) (kt : 0 < x → PB Γ tgt lv st h) (kf : ¬ 0 < x → PB Γ (pc + 3) lv st h) : PB Γ pc lv (.int x :: st) h := by
  obtain ⟨⟨p, l, e, R, s, m⟩, ⟨args, below, meth, c⟩, ⟨D, ta, ad, sa, A⟩, cl, sl, Z⟩ := Γ
  obtain ⟨hx, hb, hml, hr, hlk, hown, hts, hR, hK, hA, hPS⟩ := g
  intro H locs ls hP hD hS hl
  exact lv_if_gt hx hb hdg ht (fun q => kt q H locs ls hP hD hS hl) (fun q => kf q H locs ls hP hD hS hl)
theorem pb_if_le (g : GM Γ y cc nL rt k) {x : Int32} {off : Int} (tgt : Nat) (hdg : decode cc pc = .ok (.ifCond .le off, 3)) (ht : (pc : Int) + off = (tgt : Int)) (kt : x ≤ 0 → PB Γ tgt lv st h) (kf : ¬ x ≤ 0 → PB Γ (pc + 3) lv st h) : PB Γ pc lv (.int x :: st) h := by
  obtain ⟨⟨p, l, e, R, s, m⟩, ⟨args, below, meth, c⟩, ⟨D, ta, ad, sa, A⟩, cl, sl, Z⟩ := Γ
  obtain ⟨hx, hb, hml, hr, hlk, hown, hts, hR, hK, hA, hPS⟩ := g
  intro H locs ls hP hD hS hl
  exact lv_if_le hx hb hdg ht (fun q => kt q H locs ls hP hD hS hl) (fun q => kf q H locs ls hP hD hS hl)
theorem pb_icmp_eq (g : GM Γ y cc nL rt k) {x z : Int32} {off : Int} (tgt : Nat) (hdg : decode cc pc = .ok (.if_icmp .eq off, 3)) (ht : (pc : Int) + off = (tgt : Int)) (kt : x = z → PB Γ tgt lv st h) (kf : ¬ x = z → PB Γ (pc + 3) lv st h) : PB Γ pc lv (.int z :: .int x :: st) h := by
  obtain ⟨⟨p, l, e, R, s, m⟩, ⟨args, below, meth, c⟩, ⟨D, ta, ad, sa, A⟩, cl, sl, Z⟩ := Γ
  obtain ⟨hx, hb, hml, hr, hlk, hown, hts, hR, hK, hA, hPS⟩ := g
  intro H locs ls hP hD hS hl
  exact lv_icmp_eq hx hb hdg ht (fun q => kt q H locs ls hP hD hS hl) (fun q => kf q H locs ls hP hD hS hl)
theorem pb_icmp_ne (g : GM Γ y cc nL rt k) {x z : Int32} {off : Int} (tgt : Nat) (hdg : decode cc pc = .ok (.if_icmp .ne off, 3)) (ht : (pc : Int) + off = (tgt : Int)) (kt : ¬ x = z → PB Γ tgt lv st h) (kf : x = z → PB Γ (pc + 3) lv st h) : PB Γ pc lv (.int z :: .int x :: st) h := by
  obtain ⟨⟨p, l, e, R, s, m⟩, ⟨args, below, meth, c⟩, ⟨D, ta, ad, sa, A⟩, cl, sl, Z⟩ := Γ
  obtain ⟨hx, hb, hml, hr, hlk, hown, hts, hR, hK, hA, hPS⟩ := g
  intro H locs ls hP hD hS hl
  exact lv_icmp_ne hx hb hdg ht (fun q => kt q H locs ls hP hD hS hl) (fun q => kf q H locs ls hP hD hS hl)
theorem pb_icmp_lt (g : GM Γ y cc nL rt k) {x z : Int32} {off : Int} (tgt : Nat) (hdg : decode cc pc = .ok (.if_icmp .lt off, 3)) (ht : (pc : Int) + off = (tgt : Int)) (kt : x < z → PB Γ tgt lv st h) (kf : ¬ x < z → PB Γ (pc + 3) lv st h) : PB Γ pc lv (.int z :: .int x :: st) h := by
  obtain ⟨⟨p, l, e, R, s, m⟩, ⟨args, below, meth, c⟩, ⟨D, ta, ad, sa, A⟩, cl, sl, Z⟩ := Γ
  obtain ⟨hx, hb, hml, hr, hlk, hown, hts, hR, hK, hA, hPS⟩ := g
  intro H locs ls hP hD hS hl
  exact lv_icmp_lt hx hb hdg ht (fun q => kt q H locs ls hP hD hS hl) (fun q => kf q H locs ls hP hD hS hl)
theorem pb_icmp_ge (g : GM Γ y cc nL rt k) {x z : Int32} {off : Int} (tgt : Nat) (hdg : decode cc pc = .ok (.if_icmp .ge off, 3)) (ht : (pc : Int) + off = (tgt : Int)) (kt : z ≤ x → PB Γ tgt lv st h) (kf : ¬ z ≤ x → PB Γ (pc + 3) lv st h) : PB Γ pc lv (.int z :: .int x :: st) h := by
  obtain ⟨⟨p, l, e, R, s, m⟩, ⟨args, below, meth, c⟩, ⟨D, ta, ad, sa, A⟩, cl, sl, Z⟩ := Γ
  obtain ⟨hx, hb, hml, hr, hlk, hown, hts, hR, hK, hA, hPS⟩ := g
  intro H locs ls hP hD hS hl
  exact lv_icmp_ge hx hb hdg ht (fun q => kt q H locs ls hP hD hS hl) (fun q => kf q H locs ls hP hD hS hl)
theorem pb_icmp_gt (g : GM Γ y cc nL rt k) {x z : Int32} {off : Int} (tgt : Nat) (hdg : decode cc pc = .ok (.if_icmp .gt off, 3)) (ht : (pc : Int) + off = (tgt : Int)) (kt : z < x → PB Γ tgt lv st h) (kf : ¬ z < x → PB Γ (pc + 3) lv st h) : PB Γ pc lv (.int z :: .int x :: st) h := by
  obtain ⟨⟨p, l, e, R, s, m⟩, ⟨args, below, meth, c⟩, ⟨D, ta, ad, sa, A⟩, cl, sl, Z⟩ := Γ
  obtain ⟨hx, hb, hml, hr, hlk, hown, hts, hR, hK, hA, hPS⟩ := g
  intro H locs ls hP hD hS hl
  exact lv_icmp_gt hx hb hdg ht (fun q => kt q H locs ls hP hD hS hl) (fun q => kf q H locs ls hP hD hS hl)
theorem pb_icmp_le (g : GM Γ y cc nL rt k) {x z : Int32} {off : Int} (tgt : Nat) (hdg : decode cc pc = .ok (.if_icmp .le off, 3)) (ht : (pc : Int) + off = (tgt : Int)) (kt : x ≤ z → PB Γ tgt lv st h) (kf : ¬ x ≤ z → PB Γ (pc + 3) lv st h) : PB Γ pc lv (.int z :: .int x :: st) h := by
  obtain ⟨⟨p, l, e, R, s, m⟩, ⟨args, below, meth, c⟩, ⟨D, ta, ad, sa, A⟩, cl, sl, Z⟩ := Γ
  obtain ⟨hx, hb, hml, hr, hlk, hown, hts, hR, hK, hA, hPS⟩ := g
  intro H locs ls hP hD hS hl
  exact lv_icmp_le hx hb hdg ht (fun q => kt q H locs ls hP hD hS hl) (fun q => kf q H locs ls hP hD hS hl)
theorem pb_goto (g : GM Γ y cc nL rt k) {off : Int} (tgt : Nat) (hdg : decode cc pc = .ok (.goto off, 3)) (ht : (pc : Int) + off = (tgt : Int)) (kk : PB Γ tgt lv st h) : PB Γ pc lv st h := by
  obtain ⟨⟨p, l, e, R, s, m⟩, ⟨args, below, meth, c⟩, ⟨D, ta, ad, sa, A⟩, cl, sl, Z⟩ := Γ
  obtain ⟨hx, hb, hml, hr, hlk, hown, hts, hR, hK, hA, hPS⟩ := g
  intro H locs ls hP hD hS hl
  exact lv_goto hx hb hdg ht (kk H locs ls hP hD hS hl)
theorem pb_iaddN (g : GM Γ y cc nL rt k) {a b : Nat} (hdg : decode cc pc = .ok (.iadd, 1))  (kk : PB Γ (pc + 1) lv (.int (nI (a + b)) :: st) h) : PB Γ pc lv (.int (nI b) :: .int (nI a) :: st) h := pb_iadd g hdg (by rw [nI_add]; exact kk)
theorem pb_imulN (g : GM Γ y cc nL rt k) {a b : Nat} (hdg : decode cc pc = .ok (.imul, 1))  (kk : PB Γ (pc + 1) lv (.int (nI (a * b)) :: st) h) : PB Γ pc lv (.int (nI b) :: .int (nI a) :: st) h := pb_imul g hdg (by rw [pk_mul]; exact kk)
theorem pb_isubN (g : GM Γ y cc nL rt k) {a b : Nat} (hdg : decode cc pc = .ok (.isub, 1)) (hle : b ≤ a) (kk : PB Γ (pc + 1) lv (.int (nI (a - b)) :: st) h) : PB Γ pc lv (.int (nI b) :: .int (nI a) :: st) h := pb_isub g hdg (by rw [pk_sub hle]; exact kk)
theorem pb_idivN (g : GM Γ y cc nL rt k) {a b : Nat} (hdg : decode cc pc = .ok (.idiv, 1)) (ha : a < 2 ^ 31) (h0 : 0 < b) (hb : b < 2 ^ 31) (kk : PB Γ (pc + 1) lv (.int (nI (a / b)) :: st) h) : PB Γ pc lv (.int (nI b) :: .int (nI a) :: st) h := pb_idiv g hdg (nI_ne0 h0 hb) (by rw [pk_div ha h0 hb]; exact kk)
theorem pb_iremN (g : GM Γ y cc nL rt k) {a b : Nat} (hdg : decode cc pc = .ok (.irem, 1)) (ha : a < 2 ^ 31) (h0 : 0 < b) (hb : b < 2 ^ 31) (kk : PB Γ (pc + 1) lv (.int (nI (a % b)) :: st) h) : PB Γ pc lv (.int (nI b) :: .int (nI a) :: st) h := pb_irem g hdg (nI_ne0 h0 hb) (by rw [pk_rem ha h0 hb]; exact kk)
theorem pb_icmp_eqN (g : GM Γ y cc nL rt k) {a b : Nat} {off : Int} (tgt : Nat) (hdg : decode cc pc = .ok (.if_icmp .eq off, 3)) (ht : (pc : Int) + off = (tgt : Int)) (ha : a < 2 ^ 31) (hb : b < 2 ^ 31) (kt : a = b → PB Γ tgt lv st h) (kf : ¬ a = b → PB Γ (pc + 3) lv st h) : PB Γ pc lv (.int (nI b) :: .int (nI a) :: st) h := pb_icmp_eq g tgt hdg ht (fun q => kt ((nI_eq ha hb).mp q)) (fun q => kf (fun z => q ((nI_eq ha hb).mpr z)))
theorem pb_icmp_neN (g : GM Γ y cc nL rt k) {a b : Nat} {off : Int} (tgt : Nat) (hdg : decode cc pc = .ok (.if_icmp .ne off, 3)) (ht : (pc : Int) + off = (tgt : Int)) (ha : a < 2 ^ 31) (hb : b < 2 ^ 31) (kt : ¬ a = b → PB Γ tgt lv st h) (kf : a = b → PB Γ (pc + 3) lv st h) : PB Γ pc lv (.int (nI b) :: .int (nI a) :: st) h := pb_icmp_ne g tgt hdg ht (fun q => kt (fun z => q ((nI_eq ha hb).mpr z))) (fun q => kf ((nI_eq ha hb).mp q))
theorem pb_icmp_ltN (g : GM Γ y cc nL rt k) {a b : Nat} {off : Int} (tgt : Nat) (hdg : decode cc pc = .ok (.if_icmp .lt off, 3)) (ht : (pc : Int) + off = (tgt : Int)) (ha : a < 2 ^ 31) (hb : b < 2 ^ 31) (kt : a < b → PB Γ tgt lv st h) (kf : b ≤ a → PB Γ (pc + 3) lv st h) : PB Γ pc lv (.int (nI b) :: .int (nI a) :: st) h := pb_icmp_lt g tgt hdg ht (fun q => kt ((nI_ltI ha hb).mp q)) (fun q => kf (Nat.not_lt.mp fun z => q ((nI_ltI ha hb).mpr z)))
theorem pb_icmp_geN (g : GM Γ y cc nL rt k) {a b : Nat} {off : Int} (tgt : Nat) (hdg : decode cc pc = .ok (.if_icmp .ge off, 3)) (ht : (pc : Int) + off = (tgt : Int)) (ha : a < 2 ^ 31) (hb : b < 2 ^ 31) (kt : b ≤ a → PB Γ tgt lv st h) (kf : a < b → PB Γ (pc + 3) lv st h) : PB Γ pc lv (.int (nI b) :: .int (nI a) :: st) h := pb_icmp_ge g tgt hdg ht (fun q => kt ((nI_leI hb ha).mp q)) (fun q => kf (Nat.not_le.mp fun z => q ((nI_leI hb ha).mpr z)))
theorem pb_icmp_gtN (g : GM Γ y cc nL rt k) {a b : Nat} {off : Int} (tgt : Nat) (hdg : decode cc pc = .ok (.if_icmp .gt off, 3)) (ht : (pc : Int) + off = (tgt : Int)) (ha : a < 2 ^ 31) (hb : b < 2 ^ 31) (kt : b < a → PB Γ tgt lv st h) (kf : a ≤ b → PB Γ (pc + 3) lv st h) : PB Γ pc lv (.int (nI b) :: .int (nI a) :: st) h := pb_icmp_gt g tgt hdg ht (fun q => kt ((nI_ltI hb ha).mp q)) (fun q => kf (Nat.not_lt.mp fun z => q ((nI_ltI hb ha).mpr z)))
theorem pb_icmp_leN (g : GM Γ y cc nL rt k) {a b : Nat} {off : Int} (tgt : Nat) (hdg : decode cc pc = .ok (.if_icmp .le off, 3)) (ht : (pc : Int) + off = (tgt : Int)) (ha : a < 2 ^ 31) (hb : b < 2 ^ 31) (kt : a ≤ b → PB Γ tgt lv st h) (kf : b < a → PB Γ (pc + 3) lv st h) : PB Γ pc lv (.int (nI b) :: .int (nI a) :: st) h := pb_icmp_le g tgt hdg ht (fun q => kt ((nI_leI ha hb).mp q)) (fun q => kf (Nat.not_le.mp fun z => q ((nI_leI ha hb).mpr z)))
theorem pb_if_eqN (g : GM Γ y cc nL rt k) {a : Nat} {off : Int} (tgt : Nat) (hdg : decode cc pc = .ok (.ifCond .eq off, 3)) (ht : (pc : Int) + off = (tgt : Int)) (ha : a < 2 ^ 31) (kt : a = 0 → PB Γ tgt lv st h) (kf : ¬ a = 0 → PB Γ (pc + 3) lv st h) : PB Γ pc lv (.int (nI a) :: st) h := pb_if_eq g tgt hdg ht (fun q => kt ((nI_eq ha (by decide)).mp q)) (fun q => kf (fun z => q ((nI_eq ha (by decide)).mpr z)))
theorem pb_if_neN (g : GM Γ y cc nL rt k) {a : Nat} {off : Int} (tgt : Nat) (hdg : decode cc pc = .ok (.ifCond .ne off, 3)) (ht : (pc : Int) + off = (tgt : Int)) (ha : a < 2 ^ 31) (kt : ¬ a = 0 → PB Γ tgt lv st h) (kf : a = 0 → PB Γ (pc + 3) lv st h) : PB Γ pc lv (.int (nI a) :: st) h := pb_if_ne g tgt hdg ht (fun q => kt (fun z => q ((nI_eq ha (by decide)).mpr z))) (fun q => kf ((nI_eq ha (by decide)).mp q))
theorem pb_if_ltN (g : GM Γ y cc nL rt k) {a : Nat} {off : Int} (tgt : Nat) (hdg : decode cc pc = .ok (.ifCond .lt off, 3)) (ht : (pc : Int) + off = (tgt : Int)) (ha : a < 2 ^ 31) (kf : PB Γ (pc + 3) lv st h) : PB Γ pc lv (.int (nI a) :: st) h := pb_if_lt g tgt hdg ht (fun q => absurd q (nI_pos ha)) (fun _ => kf)
theorem pb_if_geN (g : GM Γ y cc nL rt k) {a : Nat} {off : Int} (tgt : Nat) (hdg : decode cc pc = .ok (.ifCond .ge off, 3)) (ht : (pc : Int) + off = (tgt : Int)) (ha : a < 2 ^ 31) (kt : PB Γ tgt lv st h) : PB Γ pc lv (.int (nI a) :: st) h := pb_if_ge g tgt hdg ht (fun _ => kt) (fun q => absurd (nI_pos' ha) q)
theorem pb_if_leN (g : GM Γ y cc nL rt k) {a : Nat} {off : Int} (tgt : Nat) (hdg : decode cc pc = .ok (.ifCond .le off, 3)) (ht : (pc : Int) + off = (tgt : Int)) (ha : a < 2 ^ 31) (kt : a = 0 → PB Γ tgt lv st h) (kf : 0 < a → PB Γ (pc + 3) lv st h) : PB Γ pc lv (.int (nI a) :: st) h := pb_if_le g tgt hdg ht (fun q => kt (Nat.le_zero.mp ((nI_leI ha (by decide)).mp q))) (fun q => kf (Nat.pos_of_ne_zero fun z => q (by rw [z]; exact Int32.le_refl 0)))
theorem pb_if_gtN (g : GM Γ y cc nL rt k) {a : Nat} {off : Int} (tgt : Nat) (hdg : decode cc pc = .ok (.ifCond .gt off, 3)) (ht : (pc : Int) + off = (tgt : Int)) (ha : a < 2 ^ 31) (kt : 0 < a → PB Γ tgt lv st h) (kf : a = 0 → PB Γ (pc + 3) lv st h) : PB Γ pc lv (.int (nI a) :: st) h := pb_if_gt g tgt hdg ht (fun q => kt ((nI_ltI (by decide) ha).mp q)) (fun q => kf (Nat.eq_zero_of_not_pos fun z => q ((nI_ltI (by decide) ha).mpr z)))
theorem pb_iload0 (g : GM Γ y cc nL rt k)  {x : Int32} {tl : List (Option Value)} (hdg : decode cc pc = .ok (.iload 0, 2)) (kk : PB Γ (pc + 2) (some (.int x) :: tl) (.int x :: st) h) : PB Γ pc (some (.int x) :: tl) st h := by
  obtain ⟨⟨p, l, e, R, s, m⟩, ⟨args, below, meth, c⟩, ⟨D, ta, ad, sa, A⟩, cl, sl, Z⟩ := Γ
  obtain ⟨hx, hb, hml, hr, hlk, hown, hts, hR, hK, hA, hPS⟩ := g
  intro H locs ls hP hD hS hl
  exact lv_iload hx hb hdg (hl.2.2 0 _ rfl) (kk H locs ls hP hD hS hl)
theorem pb_lload0 (g : GM Γ y cc nL rt k)  {x : Int64} {tl : List (Option Value)} (hdg : decode cc pc = .ok (.lload 0, 2)) (kk : PB Γ (pc + 2) (some (.long x) :: tl) (.long x :: st) h) : PB Γ pc (some (.long x) :: tl) st h := by
  obtain ⟨⟨p, l, e, R, s, m⟩, ⟨args, below, meth, c⟩, ⟨D, ta, ad, sa, A⟩, cl, sl, Z⟩ := Γ
  obtain ⟨hx, hb, hml, hr, hlk, hown, hts, hR, hK, hA, hPS⟩ := g
  intro H locs ls hP hD hS hl
  exact lv_lload hx hb hdg (hl.2.2 0 _ rfl) (kk H locs ls hP hD hS hl)
theorem pb_aload0 (g : GM Γ y cc nL rt k)  {x : Nat} {tl : List (Option Value)} (hdg : decode cc pc = .ok (.aload 0, 2)) (kk : PB Γ (pc + 2) (some (.ref x) :: tl) (.ref x :: st) h) : PB Γ pc (some (.ref x) :: tl) st h := by
  obtain ⟨⟨p, l, e, R, s, m⟩, ⟨args, below, meth, c⟩, ⟨D, ta, ad, sa, A⟩, cl, sl, Z⟩ := Γ
  obtain ⟨hx, hb, hml, hr, hlk, hown, hts, hR, hK, hA, hPS⟩ := g
  intro H locs ls hP hD hS hl
  exact lv_aload hx hb hdg (hl.2.2 0 _ rfl) (kk H locs ls hP hD hS hl)
theorem pb_istore0 (g : GM Γ y cc nL rt k)  {x : Int32} {b : Option Value} {tl : List (Option Value)} (hdg : decode cc pc = .ok (.istore 0, 2)) (hn : 0 < nL) (kk : PB Γ (pc + 2) (some (.int x) :: tl) st h)  : PB Γ pc (b :: tl) (.int x :: st) h := by
  obtain ⟨⟨p, l, e, R, s, m⟩, ⟨args, below, meth, c⟩, ⟨D, ta, ad, sa, A⟩, cl, sl, Z⟩ := Γ
  obtain ⟨hx, hb, hml, hr, hlk, hown, hts, hR, hK, hA, hPS⟩ := g
  intro H locs ls hP hD hS hl
  subst hml
  exact lv_istore hx hb hdg hl.kit hn rfl (fun ls' hl' => kk H locs ls' hP hD hS (pl_put1 (i := 0) (lv := b :: tl) (v := .int x) hl' (by simp) (fun j w hj _ => absurd hj (by omega))))
theorem pb_astore0 (g : GM Γ y cc nL rt k)  {x : Nat} {b : Option Value} {tl : List (Option Value)} (hdg : decode cc pc = .ok (.astore 0, 2)) (hn : 0 < nL) (kk : PB Γ (pc + 2) (some (.ref x) :: tl) st h)  : PB Γ pc (b :: tl) (.ref x :: st) h := by
  obtain ⟨⟨p, l, e, R, s, m⟩, ⟨args, below, meth, c⟩, ⟨D, ta, ad, sa, A⟩, cl, sl, Z⟩ := Γ
  obtain ⟨hx, hb, hml, hr, hlk, hown, hts, hR, hK, hA, hPS⟩ := g
  intro H locs ls hP hD hS hl
  subst hml
  exact lv_astore hx hb hdg hl.kit hn rfl (fun ls' hl' => kk H locs ls' hP hD hS (pl_put1 (i := 0) (lv := b :: tl) (v := .ref x) hl' (by simp) (fun j w hj _ => absurd hj (by omega))))
theorem pb_lstore0 (g : GM Γ y cc nL rt k)  {x : Int64} {b d : Option Value} {tl : List (Option Value)} (hdg : decode cc pc = .ok (.lstore 0, 2)) (hn : 0 + 1 < nL) (kk : PB Γ (pc + 2) (some (.long x) :: none :: tl) st h)  : PB Γ pc (b :: d :: tl) (.long x :: st) h := by
  obtain ⟨⟨p, l, e, R, s, m⟩, ⟨args, below, meth, c⟩, ⟨D, ta, ad, sa, A⟩, cl, sl, Z⟩ := Γ
  obtain ⟨hx, hb, hml, hr, hlk, hown, hts, hR, hK, hA, hPS⟩ := g
  intro H locs ls hP hD hS hl
  subst hml
  exact lv_lstore hx hb hdg hl.kit hn rfl (fun ls' hl' => kk H locs ls' hP hD hS (pl_put2 (i := 0) (lv := b :: d :: tl) (v := .long x) hl' (by simp) (fun j w hj _ => absurd hj (by omega))))
theorem pb_iload_n0 (g : GM Γ y cc nL rt k)  {x : Int32} {tl : List (Option Value)} (hdg : decode cc pc = .ok (.iload_n 0, 1)) (kk : PB Γ (pc + 1) (some (.int x) :: tl) (.int x :: st) h) : PB Γ pc (some (.int x) :: tl) st h := by
  obtain ⟨⟨p, l, e, R, s, m⟩, ⟨args, below, meth, c⟩, ⟨D, ta, ad, sa, A⟩, cl, sl, Z⟩ := Γ
  obtain ⟨hx, hb, hml, hr, hlk, hown, hts, hR, hK, hA, hPS⟩ := g
  intro H locs ls hP hD hS hl
  exact lv_iload_n hx hb hdg rfl (hl.2.2 0 _ rfl) (kk H locs ls hP hD hS hl)
theorem pb_lload_n0 (g : GM Γ y cc nL rt k)  {x : Int64} {tl : List (Option Value)} (hdg : decode cc pc = .ok (.lload_n 0, 1)) (kk : PB Γ (pc + 1) (some (.long x) :: tl) (.long x :: st) h) : PB Γ pc (some (.long x) :: tl) st h := by
  obtain ⟨⟨p, l, e, R, s, m⟩, ⟨args, below, meth, c⟩, ⟨D, ta, ad, sa, A⟩, cl, sl, Z⟩ := Γ
  obtain ⟨hx, hb, hml, hr, hlk, hown, hts, hR, hK, hA, hPS⟩ := g
  intro H locs ls hP hD hS hl
  exact lv_lload_n hx hb hdg rfl (hl.2.2 0 _ rfl) (kk H locs ls hP hD hS hl)
theorem pb_aload_n0 (g : GM Γ y cc nL rt k)  {x : Nat} {tl : List (Option Value)} (hdg : decode cc pc = .ok (.aload_n 0, 1)) (kk : PB Γ (pc + 1) (some (.ref x) :: tl) (.ref x :: st) h) : PB Γ pc (some (.ref x) :: tl) st h := by
  obtain ⟨⟨p, l, e, R, s, m⟩, ⟨args, below, meth, c⟩, ⟨D, ta, ad, sa, A⟩, cl, sl, Z⟩ := Γ
  obtain ⟨hx, hb, hml, hr, hlk, hown, hts, hR, hK, hA, hPS⟩ := g
  intro H locs ls hP hD hS hl
  exact lv_aload_n hx hb hdg rfl (hl.2.2 0 _ rfl) (kk H locs ls hP hD hS hl)
theorem pb_istore_n0 (g : GM Γ y cc nL rt k)  {x : Int32} {b : Option Value} {tl : List (Option Value)} (hdg : decode cc pc = .ok (.istore_n 0, 1)) (hn : 0 < nL) (kk : PB Γ (pc + 1) (some (.int x) :: tl) st h)  : PB Γ pc (b :: tl) (.int x :: st) h := by
  obtain ⟨⟨p, l, e, R, s, m⟩, ⟨args, below, meth, c⟩, ⟨D, ta, ad, sa, A⟩, cl, sl, Z⟩ := Γ
  obtain ⟨hx, hb, hml, hr, hlk, hown, hts, hR, hK, hA, hPS⟩ := g
  intro H locs ls hP hD hS hl
  subst hml
  exact lv_istore_n hx hb hdg rfl hl.kit hn rfl (fun ls' hl' => kk H locs ls' hP hD hS (pl_put1 (i := 0) (lv := b :: tl) (v := .int x) hl' (by simp) (fun j w hj _ => absurd hj (by omega))))
theorem pb_astore_n0 (g : GM Γ y cc nL rt k)  {x : Nat} {b : Option Value} {tl : List (Option Value)} (hdg : decode cc pc = .ok (.astore_n 0, 1)) (hn : 0 < nL) (kk : PB Γ (pc + 1) (some (.ref x) :: tl) st h)  : PB Γ pc (b :: tl) (.ref x :: st) h := by
  obtain ⟨⟨p, l, e, R, s, m⟩, ⟨args, below, meth, c⟩, ⟨D, ta, ad, sa, A⟩, cl, sl, Z⟩ := Γ
  obtain ⟨hx, hb, hml, hr, hlk, hown, hts, hR, hK, hA, hPS⟩ := g
  intro H locs ls hP hD hS hl
  subst hml
  exact lv_astore_n hx hb hdg rfl hl.kit hn rfl (fun ls' hl' => kk H locs ls' hP hD hS (pl_put1 (i := 0) (lv := b :: tl) (v := .ref x) hl' (by simp) (fun j w hj _ => absurd hj (by omega))))
theorem pb_lstore_n0 (g : GM Γ y cc nL rt k)  {x : Int64} {b d : Option Value} {tl : List (Option Value)} (hdg : decode cc pc = .ok (.lstore_n 0, 1)) (hn : 0 + 1 < nL) (kk : PB Γ (pc + 1) (some (.long x) :: none :: tl) st h)  : PB Γ pc (b :: d :: tl) (.long x :: st) h := by
  obtain ⟨⟨p, l, e, R, s, m⟩, ⟨args, below, meth, c⟩, ⟨D, ta, ad, sa, A⟩, cl, sl, Z⟩ := Γ
  obtain ⟨hx, hb, hml, hr, hlk, hown, hts, hR, hK, hA, hPS⟩ := g
  intro H locs ls hP hD hS hl
  subst hml
  exact lv_lstore_n hx hb hdg rfl hl.kit hn rfl (fun ls' hl' => kk H locs ls' hP hD hS (pl_put2 (i := 0) (lv := b :: d :: tl) (v := .long x) hl' (by simp) (fun j w hj _ => absurd hj (by omega))))
theorem pb_iload1 (g : GM Γ y cc nL rt k) {a0 : Option Value} {x : Int32} {tl : List (Option Value)} (hdg : decode cc pc = .ok (.iload 1, 2)) (kk : PB Γ (pc + 2) (a0 :: some (.int x) :: tl) (.int x :: st) h) : PB Γ pc (a0 :: some (.int x) :: tl) st h := by
  obtain ⟨⟨p, l, e, R, s, m⟩, ⟨args, below, meth, c⟩, ⟨D, ta, ad, sa, A⟩, cl, sl, Z⟩ := Γ
  obtain ⟨hx, hb, hml, hr, hlk, hown, hts, hR, hK, hA, hPS⟩ := g
  intro H locs ls hP hD hS hl
  exact lv_iload hx hb hdg (hl.2.2 1 _ rfl) (kk H locs ls hP hD hS hl)
theorem pb_lload1 (g : GM Γ y cc nL rt k) {a0 : Option Value} {x : Int64} {tl : List (Option Value)} (hdg : decode cc pc = .ok (.lload 1, 2)) (kk : PB Γ (pc + 2) (a0 :: some (.long x) :: tl) (.long x :: st) h) : PB Γ pc (a0 :: some (.long x) :: tl) st h := by
  obtain ⟨⟨p, l, e, R, s, m⟩, ⟨args, below, meth, c⟩, ⟨D, ta, ad, sa, A⟩, cl, sl, Z⟩ := Γ
  obtain ⟨hx, hb, hml, hr, hlk, hown, hts, hR, hK, hA, hPS⟩ := g
  intro H locs ls hP hD hS hl
  exact lv_lload hx hb hdg (hl.2.2 1 _ rfl) (kk H locs ls hP hD hS hl)
theorem pb_aload1 (g : GM Γ y cc nL rt k) {a0 : Option Value} {x : Nat} {tl : List (Option Value)} (hdg : decode cc pc = .ok (.aload 1, 2)) (kk : PB Γ (pc + 2) (a0 :: some (.ref x) :: tl) (.ref x :: st) h) : PB Γ pc (a0 :: some (.ref x) :: tl) st h := by
  obtain ⟨⟨p, l, e, R, s, m⟩, ⟨args, below, meth, c⟩, ⟨D, ta, ad, sa, A⟩, cl, sl, Z⟩ := Γ
  obtain ⟨hx, hb, hml, hr, hlk, hown, hts, hR, hK, hA, hPS⟩ := g
  intro H locs ls hP hD hS hl
  exact lv_aload hx hb hdg (hl.2.2 1 _ rfl) (kk H locs ls hP hD hS hl)
theorem pb_istore1 (g : GM Γ y cc nL rt k) {a0 : Option Value} {x : Int32} {b : Option Value} {tl : List (Option Value)} (hdg : decode cc pc = .ok (.istore 1, 2)) (hn : 1 < nL) (kk : PB Γ (pc + 2) (a0 :: some (.int x) :: tl) st h) (hnl : pnl a0 = true := by rfl) : PB Γ pc (a0 :: b :: tl) (.int x :: st) h := by
  obtain ⟨⟨p, l, e, R, s, m⟩, ⟨args, below, meth, c⟩, ⟨D, ta, ad, sa, A⟩, cl, sl, Z⟩ := Γ
  obtain ⟨hx, hb, hml, hr, hlk, hown, hts, hR, hK, hA, hPS⟩ := g
  intro H locs ls hP hD hS hl
  subst hml
  exact lv_istore hx hb hdg hl.kit hn rfl (fun ls' hl' => kk H locs ls' hP hD hS (pl_put1 (i := 1) (lv := a0 :: b :: tl) (v := .int x) hl' (by simp) (pnl_at (i := 0) rfl hnl)))
theorem pb_astore1 (g : GM Γ y cc nL rt k) {a0 : Option Value} {x : Nat} {b : Option Value} {tl : List (Option Value)} (hdg : decode cc pc = .ok (.astore 1, 2)) (hn : 1 < nL) (kk : PB Γ (pc + 2) (a0 :: some (.ref x) :: tl) st h) (hnl : pnl a0 = true := by rfl) : PB Γ pc (a0 :: b :: tl) (.ref x :: st) h := by
  obtain ⟨⟨p, l, e, R, s, m⟩, ⟨args, below, meth, c⟩, ⟨D, ta, ad, sa, A⟩, cl, sl, Z⟩ := Γ
  obtain ⟨hx, hb, hml, hr, hlk, hown, hts, hR, hK, hA, hPS⟩ := g
  intro H locs ls hP hD hS hl
  subst hml
  exact lv_astore hx hb hdg hl.kit hn rfl (fun ls' hl' => kk H locs ls' hP hD hS (pl_put1 (i := 1) (lv := a0 :: b :: tl) (v := .ref x) hl' (by simp) (pnl_at (i := 0) rfl hnl)))
theorem pb_lstore1 (g : GM Γ y cc nL rt k) {a0 : Option Value} {x : Int64} {b d : Option Value} {tl : List (Option Value)} (hdg : decode cc pc = .ok (.lstore 1, 2)) (hn : 1 + 1 < nL) (kk : PB Γ (pc + 2) (a0 :: some (.long x) :: none :: tl) st h) (hnl : pnl a0 = true := by rfl) : PB Γ pc (a0 :: b :: d :: tl) (.long x :: st) h := by
  obtain ⟨⟨p, l, e, R, s, m⟩, ⟨args, below, meth, c⟩, ⟨D, ta, ad, sa, A⟩, cl, sl, Z⟩ := Γ
  obtain ⟨hx, hb, hml, hr, hlk, hown, hts, hR, hK, hA, hPS⟩ := g
  intro H locs ls hP hD hS hl
  subst hml
  exact lv_lstore hx hb hdg hl.kit hn rfl (fun ls' hl' => kk H locs ls' hP hD hS (pl_put2 (i := 1) (lv := a0 :: b :: d :: tl) (v := .long x) hl' (by simp) (pnl_at (i := 0) rfl hnl)))
theorem pb_iload_n1 (g : GM Γ y cc nL rt k) {a0 : Option Value} {x : Int32} {tl : List (Option Value)} (hdg : decode cc pc = .ok (.iload_n 1, 1)) (kk : PB Γ (pc + 1) (a0 :: some (.int x) :: tl) (.int x :: st) h) : PB Γ pc (a0 :: some (.int x) :: tl) st h := by
  obtain ⟨⟨p, l, e, R, s, m⟩, ⟨args, below, meth, c⟩, ⟨D, ta, ad, sa, A⟩, cl, sl, Z⟩ := Γ
  obtain ⟨hx, hb, hml, hr, hlk, hown, hts, hR, hK, hA, hPS⟩ := g
  intro H locs ls hP hD hS hl
  exact lv_iload_n hx hb hdg rfl (hl.2.2 1 _ rfl) (kk H locs ls hP hD hS hl)
theorem pb_lload_n1 (g : GM Γ y cc nL rt k) {a0 : Option Value} {x : Int64} {tl : List (Option Value)} (hdg : decode cc pc = .ok (.lload_n 1, 1)) (kk : PB Γ (pc + 1) (a0 :: some (.long x) :: tl) (.long x :: st) h) : PB Γ pc (a0 :: some (.long x) :: tl) st h := by
  obtain ⟨⟨p, l, e, R, s, m⟩, ⟨args, below, meth, c⟩, ⟨D, ta, ad, sa, A⟩, cl, sl, Z⟩ := Γ
  obtain ⟨hx, hb, hml, hr, hlk, hown, hts, hR, hK, hA, hPS⟩ := g
  intro H locs ls hP hD hS hl
  exact lv_lload_n hx hb hdg rfl (hl.2.2 1 _ rfl) (kk H locs ls hP hD hS hl)
theorem pb_aload_n1 (g : GM Γ y cc nL rt k) {a0 : Option Value} {x : Nat} {tl : List (Option Value)} (hdg : decode cc pc = .ok (.aload_n 1, 1)) (kk : PB Γ (pc + 1) (a0 :: some (.ref x) :: tl) (.ref x :: st) h) : PB Γ pc (a0 :: some (.ref x) :: tl) st h := by
  obtain ⟨⟨p, l, e, R, s, m⟩, ⟨args, below, meth, c⟩, ⟨D, ta, ad, sa, A⟩, cl, sl, Z⟩ := Γ
  obtain ⟨hx, hb, hml, hr, hlk, hown, hts, hR, hK, hA, hPS⟩ := g
  intro H locs ls hP hD hS hl
  exact lv_aload_n hx hb hdg rfl (hl.2.2 1 _ rfl) (kk H locs ls hP hD hS hl)
theorem pb_istore_n1 (g : GM Γ y cc nL rt k) {a0 : Option Value} {x : Int32} {b : Option Value} {tl : List (Option Value)} (hdg : decode cc pc = .ok (.istore_n 1, 1)) (hn : 1 < nL) (kk : PB Γ (pc + 1) (a0 :: some (.int x) :: tl) st h) (hnl : pnl a0 = true := by rfl) : PB Γ pc (a0 :: b :: tl) (.int x :: st) h := by
  obtain ⟨⟨p, l, e, R, s, m⟩, ⟨args, below, meth, c⟩, ⟨D, ta, ad, sa, A⟩, cl, sl, Z⟩ := Γ
  obtain ⟨hx, hb, hml, hr, hlk, hown, hts, hR, hK, hA, hPS⟩ := g
  intro H locs ls hP hD hS hl
  subst hml
  exact lv_istore_n hx hb hdg rfl hl.kit hn rfl (fun ls' hl' => kk H locs ls' hP hD hS (pl_put1 (i := 1) (lv := a0 :: b :: tl) (v := .int x) hl' (by simp) (pnl_at (i := 0) rfl hnl)))
theorem pb_astore_n1 (g : GM Γ y cc nL rt k) {a0 : Option Value} {x : Nat} {b : Option Value} {tl : List (Option Value)} (hdg : decode cc pc = .ok (.astore_n 1, 1)) (hn : 1 < nL) (kk : PB Γ (pc + 1) (a0 :: some (.ref x) :: tl) st h) (hnl : pnl a0 = true := by rfl) : PB Γ pc (a0 :: b :: tl) (.ref x :: st) h := by
  obtain ⟨⟨p, l, e, R, s, m⟩, ⟨args, below, meth, c⟩, ⟨D, ta, ad, sa, A⟩, cl, sl, Z⟩ := Γ
  obtain ⟨hx, hb, hml, hr, hlk, hown, hts, hR, hK, hA, hPS⟩ := g
  intro H locs ls hP hD hS hl
  subst hml
  exact lv_astore_n hx hb hdg rfl hl.kit hn rfl (fun ls' hl' => kk H locs ls' hP hD hS (pl_put1 (i := 1) (lv := a0 :: b :: tl) (v := .ref x) hl' (by simp) (pnl_at (i := 0) rfl hnl)))
theorem pb_lstore_n1 (g : GM Γ y cc nL rt k) {a0 : Option Value} {x : Int64} {b d : Option Value} {tl : List (Option Value)} (hdg : decode cc pc = .ok (.lstore_n 1, 1)) (hn : 1 + 1 < nL) (kk : PB Γ (pc + 1) (a0 :: some (.long x) :: none :: tl) st h) (hnl : pnl a0 = true := by rfl) : PB Γ pc (a0 :: b :: d :: tl) (.long x :: st) h := by
  obtain ⟨⟨p, l, e, R, s, m⟩, ⟨args, below, meth, c⟩, ⟨D, ta, ad, sa, A⟩, cl, sl, Z⟩ := Γ
  obtain ⟨hx, hb, hml, hr, hlk, hown, hts, hR, hK, hA, hPS⟩ := g
  intro H locs ls hP hD hS hl
  subst hml
  exact lv_lstore_n hx hb hdg rfl hl.kit hn rfl (fun ls' hl' => kk H locs ls' hP hD hS (pl_put2 (i := 1) (lv := a0 :: b :: d :: tl) (v := .long x) hl' (by simp) (pnl_at (i := 0) rfl hnl)))
theorem pb_iload2 (g : GM Γ y cc nL rt k) {a0 : Option Value} {a1 : Option Value} {x : Int32} {tl : List (Option Value)} (hdg : decode cc pc = .ok (.iload 2, 2)) (kk : PB Γ (pc + 2) (a0 :: a1 :: some (.int x) :: tl) (.int x :: st) h) : PB Γ pc (a0 :: a1 :: some (.int x) :: tl) st h := by
  obtain ⟨⟨p, l, e, R, s, m⟩, ⟨args, below, meth, c⟩, ⟨D, ta, ad, sa, A⟩, cl, sl, Z⟩ := Γ
  obtain ⟨hx, hb, hml, hr, hlk, hown, hts, hR, hK, hA, hPS⟩ := g
  intro H locs ls hP hD hS hl
  exact lv_iload hx hb hdg (hl.2.2 2 _ rfl) (kk H locs ls hP hD hS hl)
theorem pb_lload2 (g : GM Γ y cc nL rt k) {a0 : Option Value} {a1 : Option Value} {x : Int64} {tl : List (Option Value)} (hdg : decode cc pc = .ok (.lload 2, 2)) (kk : PB Γ (pc + 2) (a0 :: a1 :: some (.long x) :: tl) (.long x :: st) h) : PB Γ pc (a0 :: a1 :: some (.long x) :: tl) st h := by
  obtain ⟨⟨p, l, e, R, s, m⟩, ⟨args, below, meth, c⟩, ⟨D, ta, ad, sa, A⟩, cl, sl, Z⟩ := Γ
  obtain ⟨hx, hb, hml, hr, hlk, hown, hts, hR, hK, hA, hPS⟩ := g
  intro H locs ls hP hD hS hl
  exact lv_lload hx hb hdg (hl.2.2 2 _ rfl) (kk H locs ls hP hD hS hl)
theorem pb_aload2 (g : GM Γ y cc nL rt k) {a0 : Option Value} {a1 : Option Value} {x : Nat} {tl : List (Option Value)} (hdg : decode cc pc = .ok (.aload 2, 2)) (kk : PB Γ (pc + 2) (a0 :: a1 :: some (.ref x) :: tl) (.ref x :: st) h) : PB Γ pc (a0 :: a1 :: some (.ref x) :: tl) st h := by
  obtain ⟨⟨p, l, e, R, s, m⟩, ⟨args, below, meth, c⟩, ⟨D, ta, ad, sa, A⟩, cl, sl, Z⟩ := Γ
  obtain ⟨hx, hb, hml, hr, hlk, hown, hts, hR, hK, hA, hPS⟩ := g
  intro H locs ls hP hD hS hl
  exact lv_aload hx hb hdg (hl.2.2 2 _ rfl) (kk H locs ls hP hD hS hl)
theorem pb_istore2 (g : GM Γ y cc nL rt k) {a0 : Option Value} {a1 : Option Value} {x : Int32} {b : Option Value} {tl : List (Option Value)} (hdg : decode cc pc = .ok (.istore 2, 2)) (hn : 2 < nL) (kk : PB Γ (pc + 2) (a0 :: a1 :: some (.int x) :: tl) st h) (hnl : pnl a1 = true := by rfl) : PB Γ pc (a0 :: a1 :: b :: tl) (.int x :: st) h := by
  obtain ⟨⟨p, l, e, R, s, m⟩, ⟨args, below, meth, c⟩, ⟨D, ta, ad, sa, A⟩, cl, sl, Z⟩ := Γ
  obtain ⟨hx, hb, hml, hr, hlk, hown, hts, hR, hK, hA, hPS⟩ := g
  intro H locs ls hP hD hS hl
  subst hml
  exact lv_istore hx hb hdg hl.kit hn rfl (fun ls' hl' => kk H locs ls' hP hD hS (pl_put1 (i := 2) (lv := a0 :: a1 :: b :: tl) (v := .int x) hl' (by simp) (pnl_at (i := 1) rfl hnl)))
theorem pb_astore2 (g : GM Γ y cc nL rt k) {a0 : Option Value} {a1 : Option Value} {x : Nat} {b : Option Value} {tl : List (Option Value)} (hdg : decode cc pc = .ok (.astore 2, 2)) (hn : 2 < nL) (kk : PB Γ (pc + 2) (a0 :: a1 :: some (.ref x) :: tl) st h) (hnl : pnl a1 = true := by rfl) : PB Γ pc (a0 :: a1 :: b :: tl) (.ref x :: st) h := by
  obtain ⟨⟨p, l, e, R, s, m⟩, ⟨args, below, meth, c⟩, ⟨D, ta, ad, sa, A⟩, cl, sl, Z⟩ := Γ
  obtain ⟨hx, hb, hml, hr, hlk, hown, hts, hR, hK, hA, hPS⟩ := g
  intro H locs ls hP hD hS hl
  subst hml
  exact lv_astore hx hb hdg hl.kit hn rfl (fun ls' hl' => kk H locs ls' hP hD hS (pl_put1 (i := 2) (lv := a0 :: a1 :: b :: tl) (v := .ref x) hl' (by simp) (pnl_at (i := 1) rfl hnl)))
theorem pb_lstore2 (g : GM Γ y cc nL rt k) {a0 : Option Value} {a1 : Option Value} {x : Int64} {b d : Option Value} {tl : List (Option Value)} (hdg : decode cc pc = .ok (.lstore 2, 2)) (hn : 2 + 1 < nL) (kk : PB Γ (pc + 2) (a0 :: a1 :: some (.long x) :: none :: tl) st h) (hnl : pnl a1 = true := by rfl) : PB Γ pc (a0 :: a1 :: b :: d :: tl) (.long x :: st) h := by
  obtain ⟨⟨p, l, e, R, s, m⟩, ⟨args, below, meth, c⟩, ⟨D, ta, ad, sa, A⟩, cl, sl, Z⟩ := Γ
  obtain ⟨hx, hb, hml, hr, hlk, hown, hts, hR, hK, hA, hPS⟩ := g
  intro H locs ls hP hD hS hl
  subst hml
  exact lv_lstore hx hb hdg hl.kit hn rfl (fun ls' hl' => kk H locs ls' hP hD hS (pl_put2 (i := 2) (lv := a0 :: a1 :: b :: d :: tl) (v := .long x) hl' (by simp) (pnl_at (i := 1) rfl hnl)))
theorem pb_iload_n2 (g : GM Γ y cc nL rt k) {a0 : Option Value} {a1 : Option Value} {x : Int32} {tl : List (Option Value)} (hdg : decode cc pc = .ok (.iload_n 2, 1)) (kk : PB Γ (pc + 1) (a0 :: a1 :: some (.int x) :: tl) (.int x :: st) h) : PB Γ pc (a0 :: a1 :: some (.int x) :: tl) st h := by
  obtain ⟨⟨p, l, e, R, s, m⟩, ⟨args, below, meth, c⟩, ⟨D, ta, ad, sa, A⟩, cl, sl, Z⟩ := Γ
  obtain ⟨hx, hb, hml, hr, hlk, hown, hts, hR, hK, hA, hPS⟩ := g
  intro H locs ls hP hD hS hl
  exact lv_iload_n hx hb hdg rfl (hl.2.2 2 _ rfl) (kk H locs ls hP hD hS hl)
theorem pb_lload_n2 (g : GM Γ y cc nL rt k) {a0 : Option Value} {a1 : Option Value} {x : Int64} {tl : List (Option Value)} (hdg : decode cc pc = .ok (.lload_n 2, 1)) (kk : PB Γ (pc + 1) (a0 :: a1 :: some (.long x) :: tl) (.long x :: st) h) : PB Γ pc (a0 :: a1 :: some (.long x) :: tl) st h := by
  obtain ⟨⟨p, l, e, R, s, m⟩, ⟨args, below, meth, c⟩, ⟨D, ta, ad, sa, A⟩, cl, sl, Z⟩ := Γ
  obtain ⟨hx, hb, hml, hr, hlk, hown, hts, hR, hK, hA, hPS⟩ := g
  intro H locs ls hP hD hS hl
  exact lv_lload_n hx hb hdg rfl (hl.2.2 2 _ rfl) (kk H locs ls hP hD hS hl)
theorem pb_aload_n2 (g : GM Γ y cc nL rt k) {a0 : Option Value} {a1 : Option Value} {x : Nat} {tl : List (Option Value)} (hdg : decode cc pc = .ok (.aload_n 2, 1)) (kk : PB Γ (pc + 1) (a0 :: a1 :: some (.ref x) :: tl) (.ref x :: st) h) : PB Γ pc (a0 :: a1 :: some (.ref x) :: tl) st h := by
  obtain ⟨⟨p, l, e, R, s, m⟩, ⟨args, below, meth, c⟩, ⟨D, ta, ad, sa, A⟩, cl, sl, Z⟩ := Γ
  obtain ⟨hx, hb, hml, hr, hlk, hown, hts, hR, hK, hA, hPS⟩ := g
  intro H locs ls hP hD hS hl
  exact lv_aload_n hx hb hdg rfl (hl.2.2 2 _ rfl) (kk H locs ls hP hD hS hl)
theorem pb_istore_n2 (g : GM Γ y cc nL rt k) {a0 : Option Value} {a1 : Option Value} {x : Int32} {b : Option Value} {tl : List (Option Value)} (hdg : decode cc pc = .ok (.istore_n 2, 1)) (hn : 2 < nL) (kk : PB Γ (pc + 1) (a0 :: a1 :: some (.int x) :: tl) st h) (hnl : pnl a1 = true := by rfl) : PB Γ pc (a0 :: a1 :: b :: tl) (.int x :: st) h := by
  obtain ⟨⟨p, l, e, R, s, m⟩, ⟨args, below, meth, c⟩, ⟨D, ta, ad, sa, A⟩, cl, sl, Z⟩ := Γ
  obtain ⟨hx, hb, hml, hr, hlk, hown, hts, hR, hK, hA, hPS⟩ := g
  intro H locs ls hP hD hS hl
  subst hml
  exact lv_istore_n hx hb hdg rfl hl.kit hn rfl (fun ls' hl' => kk H locs ls' hP hD hS (pl_put1 (i := 2) (lv := a0 :: a1 :: b :: tl) (v := .int x) hl' (by simp) (pnl_at (i := 1) rfl hnl)))
theorem pb_astore_n2 (g : GM Γ y cc nL rt k) {a0 : Option Value} {a1 : Option Value} {x : Nat} {b : Option Value} {tl : List (Option Value)} (hdg : decode cc pc = .ok (.astore_n 2, 1)) (hn : 2 < nL) (kk : PB Γ (pc + 1) (a0 :: a1 :: some (.ref x) :: tl) st h) (hnl : pnl a1 = true := by rfl) : PB Γ pc (a0 :: a1 :: b :: tl) (.ref x :: st) h := by
  obtain ⟨⟨p, l, e, R, s, m⟩, ⟨args, below, meth, c⟩, ⟨D, ta, ad, sa, A⟩, cl, sl, Z⟩ := Γ
  obtain ⟨hx, hb, hml, hr, hlk, hown, hts, hR, hK, hA, hPS⟩ := g
  intro H locs ls hP hD hS hl
  subst hml
  exact lv_astore_n hx hb hdg rfl hl.kit hn rfl (fun ls' hl' => kk H locs ls' hP hD hS (pl_put1 (i := 2) (lv := a0 :: a1 :: b :: tl) (v := .ref x) hl' (by simp) (pnl_at (i := 1) rfl hnl)))
theorem pb_lstore_n2 (g : GM Γ y cc nL rt k) {a0 : Option Value} {a1 : Option Value} {x : Int64} {b d : Option Value} {tl : List (Option Value)} (hdg : decode cc pc = .ok (.lstore_n 2, 1)) (hn : 2 + 1 < nL) (kk : PB Γ (pc + 1) (a0 :: a1 :: some (.long x) :: none :: tl) st h) (hnl : pnl a1 = true := by rfl) : PB Γ pc (a0 :: a1 :: b :: d :: tl) (.long x :: st) h := by
  obtain ⟨⟨p, l, e, R, s, m⟩, ⟨args, below, meth, c⟩, ⟨D, ta, ad, sa, A⟩, cl, sl, Z⟩ := Γ
  obtain ⟨hx, hb, hml, hr, hlk, hown, hts, hR, hK, hA, hPS⟩ := g
  intro H locs ls hP hD hS hl
  subst hml
  exact lv_lstore_n hx hb hdg rfl hl.kit hn rfl (fun ls' hl' => kk H locs ls' hP hD hS (pl_put2 (i := 2) (lv := a0 :: a1 :: b :: d :: tl) (v := .long x) hl' (by simp) (pnl_at (i := 1) rfl hnl)))
theorem pb_iload3 (g : GM Γ y cc nL rt k) {a0 : Option Value} {a1 : Option Value} {a2 : Option Value} {x : Int32} {tl : List (Option Value)} (hdg : decode cc pc = .ok (.iload 3, 2)) (kk : PB Γ (pc + 2) (a0 :: a1 :: a2 :: some (.int x) :: tl) (.int x :: st) h) : PB Γ pc (a0 :: a1 :: a2 :: some (.int x) :: tl) st h := by
  obtain ⟨⟨p, l, e, R, s, m⟩, ⟨args, below, meth, c⟩, ⟨D, ta, ad, sa, A⟩, cl, sl, Z⟩ := Γ
  obtain ⟨hx, hb, hml, hr, hlk, hown, hts, hR, hK, hA, hPS⟩ := g
  intro H locs ls hP hD hS hl
  exact lv_iload hx hb hdg (hl.2.2 3 _ rfl) (kk H locs ls hP hD hS hl)
theorem pb_lload3 (g : GM Γ y cc nL rt k) {a0 : Option Value} {a1 : Option Value} {a2 : Option Value} {x : Int64} {tl : List (Option Value)} (hdg : decode cc pc = .ok (.lload 3, 2)) (kk : PB Γ (pc + 2) (a0 :: a1 :: a2 :: some (.long x) :: tl) (.long x :: st) h) : PB Γ pc (a0 :: a1 :: a2 :: some (.long x) :: tl) st h := by
  obtain ⟨⟨p, l, e, R, s, m⟩, ⟨args, below, meth, c⟩, ⟨D, ta, ad, sa, A⟩, cl, sl, Z⟩ := Γ
  obtain ⟨hx, hb, hml, hr, hlk, hown, hts, hR, hK, hA, hPS⟩ := g
  intro H locs ls hP hD hS hl
  exact lv_lload hx hb hdg (hl.2.2 3 _ rfl) (kk H locs ls hP hD hS hl)
theorem pb_aload3 (g : GM Γ y cc nL rt k) {a0 : Option Value} {a1 : Option Value} {a2 : Option Value} {x : Nat} {tl : List (Option Value)} (hdg : decode cc pc = .ok (.aload 3, 2)) (kk : PB Γ (pc + 2) (a0 :: a1 :: a2 :: some (.ref x) :: tl) (.ref x :: st) h) : PB Γ pc (a0 :: a1 :: a2 :: some (.ref x) :: tl) st h := by
  obtain ⟨⟨p, l, e, R, s, m⟩, ⟨args, below, meth, c⟩, ⟨D, ta, ad, sa, A⟩, cl, sl, Z⟩ := Γ
  obtain ⟨hx, hb, hml, hr, hlk, hown, hts, hR, hK, hA, hPS⟩ := g
  intro H locs ls hP hD hS hl
  exact lv_aload hx hb hdg (hl.2.2 3 _ rfl) (kk H locs ls hP hD hS hl)
theorem pb_istore3 (g : GM Γ y cc nL rt k) {a0 : Option Value} {a1 : Option Value} {a2 : Option Value} {x : Int32} {b : Option Value} {tl : List (Option Value)} (hdg : decode cc pc = .ok (.istore 3, 2)) (hn : 3 < nL) (kk : PB Γ (pc + 2) (a0 :: a1 :: a2 :: some (.int x) :: tl) st h) (hnl : pnl a2 = true := by rfl) : PB Γ pc (a0 :: a1 :: a2 :: b :: tl) (.int x :: st) h := by
  obtain ⟨⟨p, l, e, R, s, m⟩, ⟨args, below, meth, c⟩, ⟨D, ta, ad, sa, A⟩, cl, sl, Z⟩ := Γ
  obtain ⟨hx, hb, hml, hr, hlk, hown, hts, hR, hK, hA, hPS⟩ := g
  intro H locs ls hP hD hS hl
  subst hml
  exact lv_istore hx hb hdg hl.kit hn rfl (fun ls' hl' => kk H locs ls' hP hD hS (pl_put1 (i := 3) (lv := a0 :: a1 :: a2 :: b :: tl) (v := .int x) hl' (by simp) (pnl_at (i := 2) rfl hnl)))
theorem pb_astore3 (g : GM Γ y cc nL rt k) {a0 : Option Value} {a1 : Option Value} {a2 : Option Value} {x : Nat} {b : Option Value} {tl : List (Option Value)} (hdg : decode cc pc = .ok (.astore 3, 2)) (hn : 3 < nL) (kk : PB Γ (pc + 2) (a0 :: a1 :: a2 :: some (.ref x) :: tl) st h) (hnl : pnl a2 = true := by rfl) : PB Γ pc (a0 :: a1 :: a2 :: b :: tl) (.ref x :: st) h := by
  obtain ⟨⟨p, l, e, R, s, m⟩, ⟨args, below, meth, c⟩, ⟨D, ta, ad, sa, A⟩, cl, sl, Z⟩ := Γ
  obtain ⟨hx, hb, hml, hr, hlk, hown, hts, hR, hK, hA, hPS⟩ := g
  intro H locs ls hP hD hS hl
  subst hml
  exact lv_astore hx hb hdg hl.kit hn rfl (fun ls' hl' => kk H locs ls' hP hD hS (pl_put1 (i := 3) (lv := a0 :: a1 :: a2 :: b :: tl) (v := .ref x) hl' (by simp) (pnl_at (i := 2) rfl hnl)))
theorem pb_lstore3 (g : GM Γ y cc nL rt k) {a0 : Option Value} {a1 : Option Value} {a2 : Option Value} {x : Int64} {b d : Option Value} {tl : List (Option Value)} (hdg : decode cc pc = .ok (.lstore 3, 2)) (hn : 3 + 1 < nL) (kk : PB Γ (pc + 2) (a0 :: a1 :: a2 :: some (.long x) :: none :: tl) st h) (hnl : pnl a2 = true := by rfl) : PB Γ pc (a0 :: a1 :: a2 :: b :: d :: tl) (.long x :: st) h := by
  obtain ⟨⟨p, l, e, R, s, m⟩, ⟨args, below, meth, c⟩, ⟨D, ta, ad, sa, A⟩, cl, sl, Z⟩ := Γ
  obtain ⟨hx, hb, hml, hr, hlk, hown, hts, hR, hK, hA, hPS⟩ := g
  intro H locs ls hP hD hS hl
  subst hml
  exact lv_lstore hx hb hdg hl.kit hn rfl (fun ls' hl' => kk H locs ls' hP hD hS (pl_put2 (i := 3) (lv := a0 :: a1 :: a2 :: b :: d :: tl) (v := .long x) hl' (by simp) (pnl_at (i := 2) rfl hnl)))
theorem pb_iload_n3 (g : GM Γ y cc nL rt k) {a0 : Option Value} {a1 : Option Value} {a2 : Option Value} {x : Int32} {tl : List (Option Value)} (hdg : decode cc pc = .ok (.iload_n 3, 1)) (kk : PB Γ (pc + 1) (a0 :: a1 :: a2 :: some (.int x) :: tl) (.int x :: st) h) : PB Γ pc (a0 :: a1 :: a2 :: some (.int x) :: tl) st h := by
  obtain ⟨⟨p, l, e, R, s, m⟩, ⟨args, below, meth, c⟩, ⟨D, ta, ad, sa, A⟩, cl, sl, Z⟩ := Γ
  obtain ⟨hx, hb, hml, hr, hlk, hown, hts, hR, hK, hA, hPS⟩ := g
  intro H locs ls hP hD hS hl
  exact lv_iload_n hx hb hdg rfl (hl.2.2 3 _ rfl) (kk H locs ls hP hD hS hl)
theorem pb_lload_n3 (g : GM Γ y cc nL rt k) {a0 : Option Value} {a1 : Option Value} {a2 : Option Value} {x : Int64} {tl : List (Option Value)} (hdg : decode cc pc = .ok (.lload_n 3, 1)) (kk : PB Γ (pc + 1) (a0 :: a1 :: a2 :: some (.long x) :: tl) (.long x :: st) h) : PB Γ pc (a0 :: a1 :: a2 :: some (.long x) :: tl) st h := by
  obtain ⟨⟨p, l, e, R, s, m⟩, ⟨args, below, meth, c⟩, ⟨D, ta, ad, sa, A⟩, cl, sl, Z⟩ := Γ
  obtain ⟨hx, hb, hml, hr, hlk, hown, hts, hR, hK, hA, hPS⟩ := g
  intro H locs ls hP hD hS hl
  exact lv_lload_n hx hb hdg rfl (hl.2.2 3 _ rfl) (kk H locs ls hP hD hS hl)
theorem pb_aload_n3 (g : GM Γ y cc nL rt k) {a0 : Option Value} {a1 : Option Value} {a2 : Option Value} {x : Nat} {tl : List (Option Value)} (hdg : decode cc pc = .ok (.aload_n 3, 1)) (kk : PB Γ (pc + 1) (a0 :: a1 :: a2 :: some (.ref x) :: tl) (.ref x :: st) h) : PB Γ pc (a0 :: a1 :: a2 :: some (.ref x) :: tl) st h := by
  obtain ⟨⟨p, l, e, R, s, m⟩, ⟨args, below, meth, c⟩, ⟨D, ta, ad, sa, A⟩, cl, sl, Z⟩ := Γ
  obtain ⟨hx, hb, hml, hr, hlk, hown, hts, hR, hK, hA, hPS⟩ := g
  intro H locs ls hP hD hS hl
  exact lv_aload_n hx hb hdg rfl (hl.2.2 3 _ rfl) (kk H locs ls hP hD hS hl)
theorem pb_istore_n3 (g : GM Γ y cc nL rt k) {a0 : Option Value} {a1 : Option Value} {a2 : Option Value} {x : Int32} {b : Option Value} {tl : List (Option Value)} (hdg : decode cc pc = .ok (.istore_n 3, 1)) (hn : 3 < nL) (kk : PB Γ (pc + 1) (a0 :: a1 :: a2 :: some (.int x) :: tl) st h) (hnl : pnl a2 = true := by rfl) : PB Γ pc (a0 :: a1 :: a2 :: b :: tl) (.int x :: st) h := by
  obtain ⟨⟨p, l, e, R, s, m⟩, ⟨args, below, meth, c⟩, ⟨D, ta, ad, sa, A⟩, cl, sl, Z⟩ := Γ
  obtain ⟨hx, hb, hml, hr, hlk, hown, hts, hR, hK, hA, hPS⟩ := g
  intro H locs ls hP hD hS hl
  subst hml
  exact lv_istore_n hx hb hdg rfl hl.kit hn rfl (fun ls' hl' => kk H locs ls' hP hD hS (pl_put1 (i := 3) (lv := a0 :: a1 :: a2 :: b :: tl) (v := .int x) hl' (by simp) (pnl_at (i := 2) rfl hnl)))
theorem pb_astore_n3 (g : GM Γ y cc nL rt k) {a0 : Option Value} {a1 : Option Value} {a2 : Option Value} {x : Nat} {b : Option Value} {tl : List (Option Value)} (hdg : decode cc pc = .ok (.astore_n 3, 1)) (hn : 3 < nL) (kk : PB Γ (pc + 1) (a0 :: a1 :: a2 :: some (.ref x) :: tl) st h) (hnl : pnl a2 = true := by rfl) : PB Γ pc (a0 :: a1 :: a2 :: b :: tl) (.ref x :: st) h := by
  obtain ⟨⟨p, l, e, R, s, m⟩, ⟨args, below, meth, c⟩, ⟨D, ta, ad, sa, A⟩, cl, sl, Z⟩ := Γ
  obtain ⟨hx, hb, hml, hr, hlk, hown, hts, hR, hK, hA, hPS⟩ := g
  intro H locs ls hP hD hS hl
  subst hml
  exact lv_astore_n hx hb hdg rfl hl.kit hn rfl (fun ls' hl' => kk H locs ls' hP hD hS (pl_put1 (i := 3) (lv := a0 :: a1 :: a2 :: b :: tl) (v := .ref x) hl' (by simp) (pnl_at (i := 2) rfl hnl)))
theorem pb_lstore_n3 (g : GM Γ y cc nL rt k) {a0 : Option Value} {a1 : Option Value} {a2 : Option Value} {x : Int64} {b d : Option Value} {tl : List (Option Value)} (hdg : decode cc pc = .ok (.lstore_n 3, 1)) (hn : 3 + 1 < nL) (kk : PB Γ (pc + 1) (a0 :: a1 :: a2 :: some (.long x) :: none :: tl) st h) (hnl : pnl a2 = true := by rfl) : PB Γ pc (a0 :: a1 :: a2 :: b :: d :: tl) (.long x :: st) h := by
  obtain ⟨⟨p, l, e, R, s, m⟩, ⟨args, below, meth, c⟩, ⟨D, ta, ad, sa, A⟩, cl, sl, Z⟩ := Γ
  obtain ⟨hx, hb, hml, hr, hlk, hown, hts, hR, hK, hA, hPS⟩ := g
  intro H locs ls hP hD hS hl
  subst hml
  exact lv_lstore_n hx hb hdg rfl hl.kit hn rfl (fun ls' hl' => kk H locs ls' hP hD hS (pl_put2 (i := 3) (lv := a0 :: a1 :: a2 :: b :: d :: tl) (v := .long x) hl' (by simp) (pnl_at (i := 2) rfl hnl)))
theorem pb_iload4 (g : GM Γ y cc nL rt k) {a0 : Option Value} {a1 : Option Value} {a2 : Option Value} {a3 : Option Value} {x : Int32} {tl : List (Option Value)} (hdg : decode cc pc = .ok (.iload 4, 2)) (kk : PB Γ (pc + 2) (a0 :: a1 :: a2 :: a3 :: some (.int x) :: tl) (.int x :: st) h) : PB Γ pc (a0 :: a1 :: a2 :: a3 :: some (.int x) :: tl) st h := by
  obtain ⟨⟨p, l, e, R, s, m⟩, ⟨args, below, meth, c⟩, ⟨D, ta, ad, sa, A⟩, cl, sl, Z⟩ := Γ
  obtain ⟨hx, hb, hml, hr, hlk, hown, hts, hR, hK, hA, hPS⟩ := g
  intro H locs ls hP hD hS hl
  exact lv_iload hx hb hdg (hl.2.2 4 _ rfl) (kk H locs ls hP hD hS hl)
theorem pb_lload4 (g : GM Γ y cc nL rt k) {a0 : Option Value} {a1 : Option Value} {a2 : Option Value} {a3 : Option Value} {x : Int64} {tl : List (Option Value)} (hdg : decode cc pc = .ok (.lload 4, 2)) (kk : PB Γ (pc + 2) (a0 :: a1 :: a2 :: a3 :: some (.long x) :: tl) (.long x :: st) h) : PB Γ pc (a0 :: a1 :: a2 :: a3 :: some (.long x) :: tl) st h := by
  obtain ⟨⟨p, l, e, R, s, m⟩, ⟨args, below, meth, c⟩, ⟨D, ta, ad, sa, A⟩, cl, sl, Z⟩ := Γ
  obtain ⟨hx, hb, hml, hr, hlk, hown, hts, hR, hK, hA, hPS⟩ := g
  intro H locs ls hP hD hS hl
  exact lv_lload hx hb hdg (hl.2.2 4 _ rfl) (kk H locs ls hP hD hS hl)
theorem pb_aload4 (g : GM Γ y cc nL rt k) {a0 : Option Value} {a1 : Option Value} {a2 : Option Value} {a3 : Option Value} {x : Nat} {tl : List (Option Value)} (hdg : decode cc pc = .ok (.aload 4, 2)) (kk : PB Γ (pc + 2) (a0 :: a1 :: a2 :: a3 :: some (.ref x) :: tl) (.ref x :: st) h) : PB Γ pc (a0 :: a1 :: a2 :: a3 :: some (.ref x) :: tl) st h := by
  obtain ⟨⟨p, l, e, R, s, m⟩, ⟨args, below, meth, c⟩, ⟨D, ta, ad, sa, A⟩, cl, sl, Z⟩ := Γ
  obtain ⟨hx, hb, hml, hr, hlk, hown, hts, hR, hK, hA, hPS⟩ := g
  intro H locs ls hP hD hS hl
  exact lv_aload hx hb hdg (hl.2.2 4 _ rfl) (kk H locs ls hP hD hS hl)
theorem pb_istore4 (g : GM Γ y cc nL rt k) {a0 : Option Value} {a1 : Option Value} {a2 : Option Value} {a3 : Option Value} {x : Int32} {b : Option Value} {tl : List (Option Value)} (hdg : decode cc pc = .ok (.istore 4, 2)) (hn : 4 < nL) (kk : PB Γ (pc + 2) (a0 :: a1 :: a2 :: a3 :: some (.int x) :: tl) st h) (hnl : pnl a3 = true := by rfl) : PB Γ pc (a0 :: a1 :: a2 :: a3 :: b :: tl) (.int x :: st) h := by
  obtain ⟨⟨p, l, e, R, s, m⟩, ⟨args, below, meth, c⟩, ⟨D, ta, ad, sa, A⟩, cl, sl, Z⟩ := Γ
  obtain ⟨hx, hb, hml, hr, hlk, hown, hts, hR, hK, hA, hPS⟩ := g
  intro H locs ls hP hD hS hl
  subst hml
  exact lv_istore hx hb hdg hl.kit hn rfl (fun ls' hl' => kk H locs ls' hP hD hS (pl_put1 (i := 4) (lv := a0 :: a1 :: a2 :: a3 :: b :: tl) (v := .int x) hl' (by simp) (pnl_at (i := 3) rfl hnl)))
theorem pb_astore4 (g : GM Γ y cc nL rt k) {a0 : Option Value} {a1 : Option Value} {a2 : Option Value} {a3 : Option Value} {x : Nat} {b : Option Value} {tl : List (Option Value)} (hdg : decode cc pc = .ok (.astore 4, 2)) (hn : 4 < nL) (kk : PB Γ (pc + 2) (a0 :: a1 :: a2 :: a3 :: some (.ref x) :: tl) st h) (hnl : pnl a3 = true := by rfl) : PB Γ pc (a0 :: a1 :: a2 :: a3 :: b :: tl) (.ref x :: st) h := by
  obtain ⟨⟨p, l, e, R, s, m⟩, ⟨args, below, meth, c⟩, ⟨D, ta, ad, sa, A⟩, cl, sl, Z⟩ := Γ
  obtain ⟨hx, hb, hml, hr, hlk, hown, hts, hR, hK, hA, hPS⟩ := g
  intro H locs ls hP hD hS hl
  subst hml
  exact lv_astore hx hb hdg hl.kit hn rfl (fun ls' hl' => kk H locs ls' hP hD hS (pl_put1 (i := 4) (lv := a0 :: a1 :: a2 :: a3 :: b :: tl) (v := .ref x) hl' (by simp) (pnl_at (i := 3) rfl hnl)))
theorem pb_lstore4 (g : GM Γ y cc nL rt k) {a0 : Option Value} {a1 : Option Value} {a2 : Option Value} {a3 : Option Value} {x : Int64} {b d : Option Value} {tl : List (Option Value)} (hdg : decode cc pc = .ok (.lstore 4, 2)) (hn : 4 + 1 < nL) (kk : PB Γ (pc + 2) (a0 :: a1 :: a2 :: a3 :: some (.long x) :: none :: tl) st h) (hnl : pnl a3 = true := by rfl) : PB Γ pc (a0 :: a1 :: a2 :: a3 :: b :: d :: tl) (.long x :: st) h := by
  obtain ⟨⟨p, l, e, R, s, m⟩, ⟨args, below, meth, c⟩, ⟨D, ta, ad, sa, A⟩, cl, sl, Z⟩ := Γ
  obtain ⟨hx, hb, hml, hr, hlk, hown, hts, hR, hK, hA, hPS⟩ := g
  intro H locs ls hP hD hS hl
  subst hml
  exact lv_lstore hx hb hdg hl.kit hn rfl (fun ls' hl' => kk H locs ls' hP hD hS (pl_put2 (i := 4) (lv := a0 :: a1 :: a2 :: a3 :: b :: d :: tl) (v := .long x) hl' (by simp) (pnl_at (i := 3) rfl hnl)))
theorem pb_iload5 (g : GM Γ y cc nL rt k) {a0 : Option Value} {a1 : Option Value} {a2 : Option Value} {a3 : Option Value} {a4 : Option Value} {x : Int32} {tl : List (Option Value)} (hdg : decode cc pc = .ok (.iload 5, 2)) (kk : PB Γ (pc + 2) (a0 :: a1 :: a2 :: a3 :: a4 :: some (.int x) :: tl) (.int x :: st) h) : PB Γ pc (a0 :: a1 :: a2 :: a3 :: a4 :: some (.int x) :: tl) st h := by
  obtain ⟨⟨p, l, e, R, s, m⟩, ⟨args, below, meth, c⟩, ⟨D, ta, ad, sa, A⟩, cl, sl, Z⟩ := Γ
  obtain ⟨hx, hb, hml, hr, hlk, hown, hts, hR, hK, hA, hPS⟩ := g
  intro H locs ls hP hD hS hl
  exact lv_iload hx hb hdg (hl.2.2 5 _ rfl) (kk H locs ls hP hD hS hl)
theorem pb_lload5 (g : GM Γ y cc nL rt k) {a0 : Option Value} {a1 : Option Value} {a2 : Option Value} {a3 : Option Value} {a4 : Option Value} {x : Int64} {tl : List (Option Value)} (hdg : decode cc pc = .ok (.lload 5, 2)) (kk : PB Γ (pc + 2) (a0 :: a1 :: a2 :: a3 :: a4 :: some (.long x) :: tl) (.long x :: st) h) : PB Γ pc (a0 :: a1 :: a2 :: a3 :: a4 :: some (.long x) :: tl) st h := by
  obtain ⟨⟨p, l, e, R, s, m⟩, ⟨args, below, meth, c⟩, ⟨D, ta, ad, sa, A⟩, cl, sl, Z⟩ := Γ
  obtain ⟨hx, hb, hml, hr, hlk, hown, hts, hR, hK, hA, hPS⟩ := g
  intro H locs ls hP hD hS hl
  exact lv_lload hx hb hdg (hl.2.2 5 _ rfl) (kk H locs ls hP hD hS hl)
theorem pb_aload5 (g : GM Γ y cc nL rt k) {a0 : Option Value} {a1 : Option Value} {a2 : Option Value} {a3 : Option Value} {a4 : Option Value} {x : Nat} {tl : List (Option Value)} (hdg : decode cc pc = .ok (.aload 5, 2)) (kk : PB Γ (pc + 2) (a0 :: a1 :: a2 :: a3 :: a4 :: some (.ref x) :: tl) (.ref x :: st) h) : PB Γ pc (a0 :: a1 :: a2 :: a3 :: a4 :: some (.ref x) :: tl) st h := by
  obtain ⟨⟨p, l, e, R, s, m⟩, ⟨args, below, meth, c⟩, ⟨D, ta, ad, sa, A⟩, cl, sl, Z⟩ := Γ
  obtain ⟨hx, hb, hml, hr, hlk, hown, hts, hR, hK, hA, hPS⟩ := g
  intro H locs ls hP hD hS hl
  exact lv_aload hx hb hdg (hl.2.2 5 _ rfl) (kk H locs ls hP hD hS hl)
theorem pb_istore5 (g : GM Γ y cc nL rt k) {a0 : Option Value} {a1 : Option Value} {a2 : Option Value} {a3 : Option Value} {a4 : Option Value} {x : Int32} {b : Option Value} {tl : List (Option Value)} (hdg : decode cc pc = .ok (.istore 5, 2)) (hn : 5 < nL) (kk : PB Γ (pc + 2) (a0 :: a1 :: a2 :: a3 :: a4 :: some (.int x) :: tl) st h) (hnl : pnl a4 = true := by rfl) : PB Γ pc (a0 :: a1 :: a2 :: a3 :: a4 :: b :: tl) (.int x :: st) h := by
  obtain ⟨⟨p, l, e, R, s, m⟩, ⟨args, below, meth, c⟩, ⟨D, ta, ad, sa, A⟩, cl, sl, Z⟩ := Γ
  obtain ⟨hx, hb, hml, hr, hlk, hown, hts, hR, hK, hA, hPS⟩ := g
  intro H locs ls hP hD hS hl
  subst hml
  exact lv_istore hx hb hdg hl.kit hn rfl (fun ls' hl' => kk H locs ls' hP hD hS (pl_put1 (i := 5) (lv := a0 :: a1 :: a2 :: a3 :: a4 :: b :: tl) (v := .int x) hl' (by simp) (pnl_at (i := 4) rfl hnl)))
theorem pb_astore5 (g : GM Γ y cc nL rt k) {a0 : Option Value} {a1 : Option Value} {a2 : Option Value} {a3 : Option Value} {a4 : Option Value} {x : Nat} {b : Option Value} {tl : List (Option Value)} (hdg : decode cc pc = .ok (.astore 5, 2)) (hn : 5 < nL) (kk : PB Γ (pc + 2) (a0 :: a1 :: a2 :: a3 :: a4 :: some (.ref x) :: tl) st h) (hnl : pnl a4 = true := by rfl) : PB Γ pc (a0 :: a1 :: a2 :: a3 :: a4 :: b :: tl) (.ref x :: st) h := by
  obtain ⟨⟨p, l, e, R, s, m⟩, ⟨args, below, meth, c⟩, ⟨D, ta, ad, sa, A⟩, cl, sl, Z⟩ := Γ
  obtain ⟨hx, hb, hml, hr, hlk, hown, hts, hR, hK, hA, hPS⟩ := g
  intro H locs ls hP hD hS hl
  subst hml
  exact lv_astore hx hb hdg hl.kit hn rfl (fun ls' hl' => kk H locs ls' hP hD hS (pl_put1 (i := 5) (lv := a0 :: a1 :: a2 :: a3 :: a4 :: b :: tl) (v := .ref x) hl' (by simp) (pnl_at (i := 4) rfl hnl)))
theorem pb_lstore5 (g : GM Γ y cc nL rt k) {a0 : Option Value} {a1 : Option Value} {a2 : Option Value} {a3 : Option Value} {a4 : Option Value} {x : Int64} {b d : Option Value} {tl : List (Option Value)} (hdg : decode cc pc = .ok (.lstore 5, 2)) (hn : 5 + 1 < nL) (kk : PB Γ (pc + 2) (a0 :: a1 :: a2 :: a3 :: a4 :: some (.long x) :: none :: tl) st h) (hnl : pnl a4 = true := by rfl) : PB Γ pc (a0 :: a1 :: a2 :: a3 :: a4 :: b :: d :: tl) (.long x :: st) h := by
  obtain ⟨⟨p, l, e, R, s, m⟩, ⟨args, below, meth, c⟩, ⟨D, ta, ad, sa, A⟩, cl, sl, Z⟩ := Γ
  obtain ⟨hx, hb, hml, hr, hlk, hown, hts, hR, hK, hA, hPS⟩ := g
  intro H locs ls hP hD hS hl
  subst hml
  exact lv_lstore hx hb hdg hl.kit hn rfl (fun ls' hl' => kk H locs ls' hP hD hS (pl_put2 (i := 5) (lv := a0 :: a1 :: a2 :: a3 :: a4 :: b :: d :: tl) (v := .long x) hl' (by simp) (pnl_at (i := 4) rfl hnl)))
theorem pb_iload6 (g : GM Γ y cc nL rt k) {a0 : Option Value} {a1 : Option Value} {a2 : Option Value} {a3 : Option Value} {a4 : Option Value} {a5 : Option Value} {x : Int32} {tl : List (Option Value)} (hdg : decode cc pc = .ok (.iload 6, 2)) (kk : PB Γ (pc + 2) (a0 :: a1 :: a2 :: a3 :: a4 :: a5 :: some (.int x) :: tl) (.int x :: st) h) : PB Γ pc (a0 :: a1 :: a2 :: a3 :: a4 :: a5 :: some (.int x) :: tl) st h := by
  obtain ⟨⟨p, l, e, R, s, m⟩, ⟨args, below, meth, c⟩, ⟨D, ta, ad, sa, A⟩, cl, sl, Z⟩ := Γ
  obtain ⟨hx, hb, hml, hr, hlk, hown, hts, hR, hK, hA, hPS⟩ := g
  intro H locs ls hP hD hS hl
  exact lv_iload hx hb hdg (hl.2.2 6 _ rfl) (kk H locs ls hP hD hS hl)
theorem pb_lload6 (g : GM Γ y cc nL rt k) {a0 : Option Value} {a1 : Option Value} {a2 : Option Value} {a3 : Option Value} {a4 : Option Value} {a5 : Option Value} {x : Int64} {tl : List (Option Value)} (hdg : decode cc pc = .ok (.lload 6, 2)) (kk : PB Γ (pc + 2) (a0 :: a1 :: a2 :: a3 :: a4 :: a5 :: some (.long x) :: tl) (.long x :: st) h) : PB Γ pc (a0 :: a1 :: a2 :: a3 :: a4 :: a5 :: some (.long x) :: tl) st h := by
  obtain ⟨⟨p, l, e, R, s, m⟩, ⟨args, below, meth, c⟩, ⟨D, ta, ad, sa, A⟩, cl, sl, Z⟩ := Γ
  obtain ⟨hx, hb, hml, hr, hlk, hown, hts, hR, hK, hA, hPS⟩ := g
  intro H locs ls hP hD hS hl
  exact lv_lload hx hb hdg (hl.2.2 6 _ rfl) (kk H locs ls hP hD hS hl)
theorem pb_aload6 (g : GM Γ y cc nL rt k) {a0 : Option Value} {a1 : Option Value} {a2 : Option Value} {a3 : Option Value} {a4 : Option Value} {a5 : Option Value} {x : Nat} {tl : List (Option Value)} (hdg : decode cc pc = .ok (.aload 6, 2)) (kk : PB Γ (pc + 2) (a0 :: a1 :: a2 :: a3 :: a4 :: a5 :: some (.ref x) :: tl) (.ref x :: st) h) : PB Γ pc (a0 :: a1 :: a2 :: a3 :: a4 :: a5 :: some (.ref x) :: tl) st h := by
  obtain ⟨⟨p, l, e, R, s, m⟩, ⟨args, below, meth, c⟩, ⟨D, ta, ad, sa, A⟩, cl, sl, Z⟩ := Γ
  obtain ⟨hx, hb, hml, hr, hlk, hown, hts, hR, hK, hA, hPS⟩ := g
  intro H locs ls hP hD hS hl
  exact lv_aload hx hb hdg (hl.2.2 6 _ rfl) (kk H locs ls hP hD hS hl)
theorem pb_istore6 (g : GM Γ y cc nL rt k) {a0 : Option Value} {a1 : Option Value} {a2 : Option Value} {a3 : Option Value} {a4 : Option Value} {a5 : Option Value} {x : Int32} {b : Option Value} {tl : List (Option Value)} (hdg : decode cc pc = .ok (.istore 6, 2)) (hn : 6 < nL) (kk : PB Γ (pc + 2) (a0 :: a1 :: a2 :: a3 :: a4 :: a5 :: some (.int x) :: tl) st h) (hnl : pnl a5 = true := by rfl) : PB Γ pc (a0 :: a1 :: a2 :: a3 :: a4 :: a5 :: b :: tl) (.int x :: st) h := by
  obtain ⟨⟨p, l, e, R, s, m⟩, ⟨args, below, meth, c⟩, ⟨D, ta, ad, sa, A⟩, cl, sl, Z⟩ := Γ
  obtain ⟨hx, hb, hml, hr, hlk, hown, hts, hR, hK, hA, hPS⟩ := g
  intro H locs ls hP hD hS hl
  subst hml
  exact lv_istore hx hb hdg hl.kit hn rfl (fun ls' hl' => kk H locs ls' hP hD hS (pl_put1 (i := 6) (lv := a0 :: a1 :: a2 :: a3 :: a4 :: a5 :: b :: tl) (v := .int x) hl' (by simp) (pnl_at (i := 5) rfl hnl)))
theorem pb_astore6 (g : GM Γ y cc nL rt k) {a0 : Option Value} {a1 : Option Value} {a2 : Option Value} {a3 : Option Value} {a4 : Option Value} {a5 : Option Value} {x : Nat} {b : Option Value} {tl : List (Option Value)} (hdg : decode cc pc = .ok (.astore 6, 2)) (hn : 6 < nL) (kk : PB Γ (pc + 2) (a0 :: a1 :: a2 :: a3 :: a4 :: a5 :: some (.ref x) :: tl) st h) (hnl : pnl a5 = true := by rfl) : PB Γ pc (a0 :: a1 :: a2 :: a3 :: a4 :: a5 :: b :: tl) (.ref x :: st) h := by
  obtain ⟨⟨p, l, e, R, s, m⟩, ⟨args, below, meth, c⟩, ⟨D, ta, ad, sa, A⟩, cl, sl, Z⟩ := Γ
  obtain ⟨hx, hb, hml, hr, hlk, hown, hts, hR, hK, hA, hPS⟩ := g
  intro H locs ls hP hD hS hl
  subst hml
  exact lv_astore hx hb hdg hl.kit hn rfl (fun ls' hl' => kk H locs ls' hP hD hS (pl_put1 (i := 6) (lv := a0 :: a1 :: a2 :: a3 :: a4 :: a5 :: b :: tl) (v := .ref x) hl' (by simp) (pnl_at (i := 5) rfl hnl)))
theorem pb_lstore6 (g : GM Γ y cc nL rt k) {a0 : Option Value} {a1 : Option Value} {a2 : Option Value} {a3 : Option Value} {a4 : Option Value} {a5 : Option Value} {x : Int64} {b d : Option Value} {tl : List (Option Value)} (hdg : decode cc pc = .ok (.lstore 6, 2)) (hn : 6 + 1 < nL) (kk : PB Γ (pc + 2) (a0 :: a1 :: a2 :: a3 :: a4 :: a5 :: some (.long x) :: none :: tl) st h) (hnl : pnl a5 = true := by rfl) : PB Γ pc (a0 :: a1 :: a2 :: a3 :: a4 :: a5 :: b :: d :: tl) (.long x :: st) h := by
  obtain ⟨⟨p, l, e, R, s, m⟩, ⟨args, below, meth, c⟩, ⟨D, ta, ad, sa, A⟩, cl, sl, Z⟩ := Γ
  obtain ⟨hx, hb, hml, hr, hlk, hown, hts, hR, hK, hA, hPS⟩ := g
  intro H locs ls hP hD hS hl
  subst hml
  exact lv_lstore hx hb hdg hl.kit hn rfl (fun ls' hl' => kk H locs ls' hP hD hS (pl_put2 (i := 6) (lv := a0 :: a1 :: a2 :: a3 :: a4 :: a5 :: b :: d :: tl) (v := .long x) hl' (by simp) (pnl_at (i := 5) rfl hnl)))
theorem pb_iload7 (g : GM Γ y cc nL rt k) {a0 : Option Value} {a1 : Option Value} {a2 : Option Value} {a3 : Option Value} {a4 : Option Value} {a5 : Option Value} {a6 : Option Value} {x : Int32} {tl : List (Option Value)} (hdg : decode cc pc = .ok (.iload 7, 2)) (kk : PB Γ (pc + 2) (a0 :: a1 :: a2 :: a3 :: a4 :: a5 :: a6 :: some (.int x) :: tl) (.int x :: st) h) : PB Γ pc (a0 :: a1 :: a2 :: a3 :: a4 :: a5 :: a6 :: some (.int x) :: tl) st h := by
  obtain ⟨⟨p, l, e, R, s, m⟩, ⟨args, below, meth, c⟩, ⟨D, ta, ad, sa, A⟩, cl, sl, Z⟩ := Γ
  obtain ⟨hx, hb, hml, hr, hlk, hown, hts, hR, hK, hA, hPS⟩ := g
  intro H locs ls hP hD hS hl
  exact lv_iload hx hb hdg (hl.2.2 7 _ rfl) (kk H locs ls hP hD hS hl)
theorem pb_lload7 (g : GM Γ y cc nL rt k) {a0 : Option Value} {a1 : Option Value} {a2 : Option Value} {a3 : Option Value} {a4 : Option Value} {a5 : Option Value} {a6 : Option Value} {x : Int64} {tl : List (Option Value)} (hdg : decode cc pc = .ok (.lload 7, 2)) (kk : PB Γ (pc + 2) (a0 :: a1 :: a2 :: a3 :: a4 :: a5 :: a6 :: some (.long x) :: tl) (.long x :: st) h) : PB Γ pc (a0 :: a1 :: a2 :: a3 :: a4 :: a5 :: a6 :: some (.long x) :: tl) st h := by
  obtain ⟨⟨p, l, e, R, s, m⟩, ⟨args, below, meth, c⟩, ⟨D, ta, ad, sa, A⟩, cl, sl, Z⟩ := Γ
  obtain ⟨hx, hb, hml, hr, hlk, hown, hts, hR, hK, hA, hPS⟩ := g
  intro H locs ls hP hD hS hl
  exact lv_lload hx hb hdg (hl.2.2 7 _ rfl) (kk H locs ls hP hD hS hl)
theorem pb_aload7 (g : GM Γ y cc nL rt k) {a0 : Option Value} {a1 : Option Value} {a2 : Option Value} {a3 : Option Value} {a4 : Option Value} {a5 : Option Value} {a6 : Option Value} {x : Nat} {tl : List (Option Value)} (hdg : decode cc pc = .ok (.aload 7, 2)) (kk : PB Γ (pc + 2) (a0 :: a1 :: a2 :: a3 :: a4 :: a5 :: a6 :: some (.ref x) :: tl) (.ref x :: st) h) : PB Γ pc (a0 :: a1 :: a2 :: a3 :: a4 :: a5 :: a6 :: some (.ref x) :: tl) st h := by
  obtain ⟨⟨p, l, e, R, s, m⟩, ⟨args, below, meth, c⟩, ⟨D, ta, ad, sa, A⟩, cl, sl, Z⟩ := Γ
  obtain ⟨hx, hb, hml, hr, hlk, hown, hts, hR, hK, hA, hPS⟩ := g
  intro H locs ls hP hD hS hl
  exact lv_aload hx hb hdg (hl.2.2 7 _ rfl) (kk H locs ls hP hD hS hl)
theorem pb_istore7 (g : GM Γ y cc nL rt k) {a0 : Option Value} {a1 : Option Value} {a2 : Option Value} {a3 : Option Value} {a4 : Option Value} {a5 : Option Value} {a6 : Option Value} {x : Int32} {b : Option Value} {tl : List (Option Value)} (hdg : decode cc pc = .ok (.istore 7, 2)) (hn : 7 < nL) (kk : PB Γ (pc + 2) (a0 :: a1 :: a2 :: a3 :: a4 :: a5 :: a6 :: some (.int x) :: tl) st h) (hnl : pnl a6 = true := by rfl) : PB Γ pc (a0 :: a1 :: a2 :: a3 :: a4 :: a5 :: a6 :: b :: tl) (.int x :: st) h := by
  obtain ⟨⟨p, l, e, R, s, m⟩, ⟨args, below, meth, c⟩, ⟨D, ta, ad, sa, A⟩, cl, sl, Z⟩ := Γ
  obtain ⟨hx, hb, hml, hr, hlk, hown, hts, hR, hK, hA, hPS⟩ := g
  intro H locs ls hP hD hS hl
  subst hml
  exact lv_istore hx hb hdg hl.kit hn rfl (fun ls' hl' => kk H locs ls' hP hD hS (pl_put1 (i := 7) (lv := a0 :: a1 :: a2 :: a3 :: a4 :: a5 :: a6 :: b :: tl) (v := .int x) hl' (by simp) (pnl_at (i := 6) rfl hnl)))
theorem pb_astore7 (g : GM Γ y cc nL rt k) {a0 : Option Value} {a1 : Option Value} {a2 : Option Value} {a3 : Option Value} {a4 : Option Value} {a5 : Option Value} {a6 : Option Value} {x : Nat} {b : Option Value} {tl : List (Option Value)} (hdg : decode cc pc = .ok (.astore 7, 2)) (hn : 7 < nL) (kk : PB Γ (pc + 2) (a0 :: a1 :: a2 :: a3 :: a4 :: a5 :: a6 :: some (.ref x) :: tl) st h) (hnl : pnl a6 = true := by rfl) : PB Γ pc (a0 :: a1 :: a2 :: a3 :: a4 :: a5 :: a6 :: b :: tl) (.ref x :: st) h := by
  obtain ⟨⟨p, l, e, R, s, m⟩, ⟨args, below, meth, c⟩, ⟨D, ta, ad, sa, A⟩, cl, sl, Z⟩ := Γ
  obtain ⟨hx, hb, hml, hr, hlk, hown, hts, hR, hK, hA, hPS⟩ := g
  intro H locs ls hP hD hS hl
  subst hml
  exact lv_astore hx hb hdg hl.kit hn rfl (fun ls' hl' => kk H locs ls' hP hD hS (pl_put1 (i := 7) (lv := a0 :: a1 :: a2 :: a3 :: a4 :: a5 :: a6 :: b :: tl) (v := .ref x) hl' (by simp) (pnl_at (i := 6) rfl hnl)))
theorem pb_lstore7 (g : GM Γ y cc nL rt k) {a0 : Option Value} {a1 : Option Value} {a2 : Option Value} {a3 : Option Value} {a4 : Option Value} {a5 : Option Value} {a6 : Option Value} {x : Int64} {b d : Option Value} {tl : List (Option Value)} (hdg : decode cc pc = .ok (.lstore 7, 2)) (hn : 7 + 1 < nL) (kk : PB Γ (pc + 2) (a0 :: a1 :: a2 :: a3 :: a4 :: a5 :: a6 :: some (.long x) :: none :: tl) st h) (hnl : pnl a6 = true := by rfl) : PB Γ pc (a0 :: a1 :: a2 :: a3 :: a4 :: a5 :: a6 :: b :: d :: tl) (.long x :: st) h := by
  obtain ⟨⟨p, l, e, R, s, m⟩, ⟨args, below, meth, c⟩, ⟨D, ta, ad, sa, A⟩, cl, sl, Z⟩ := Γ
  obtain ⟨hx, hb, hml, hr, hlk, hown, hts, hR, hK, hA, hPS⟩ := g
  intro H locs ls hP hD hS hl
  subst hml
  exact lv_lstore hx hb hdg hl.kit hn rfl (fun ls' hl' => kk H locs ls' hP hD hS (pl_put2 (i := 7) (lv := a0 :: a1 :: a2 :: a3 :: a4 :: a5 :: a6 :: b :: d :: tl) (v := .long x) hl' (by simp) (pnl_at (i := 6) rfl hnl)))
theorem pb_iload8 (g : GM Γ y cc nL rt k) {a0 : Option Value} {a1 : Option Value} {a2 : Option Value} {a3 : Option Value} {a4 : Option Value} {a5 : Option Value} {a6 : Option Value} {a7 : Option Value} {x : Int32} {tl : List (Option Value)} (hdg : decode cc pc = .ok (.iload 8, 2)) (kk : PB Γ (pc + 2) (a0 :: a1 :: a2 :: a3 :: a4 :: a5 :: a6 :: a7 :: some (.int x) :: tl) (.int x :: st) h) : PB Γ pc (a0 :: a1 :: a2 :: a3 :: a4 :: a5 :: a6 :: a7 :: some (.int x) :: tl) st h := by
  obtain ⟨⟨p, l, e, R, s, m⟩, ⟨args, below, meth, c⟩, ⟨D, ta, ad, sa, A⟩, cl, sl, Z⟩ := Γ
  obtain ⟨hx, hb, hml, hr, hlk, hown, hts, hR, hK, hA, hPS⟩ := g
  intro H locs ls hP hD hS hl
  exact lv_iload hx hb hdg (hl.2.2 8 _ rfl) (kk H locs ls hP hD hS hl)
theorem pb_lload8 (g : GM Γ y cc nL rt k) {a0 : Option Value} {a1 : Option Value} {a2 : Option Value} {a3 : Option Value} {a4 : Option Value} {a5 : Option Value} {a6 : Option Value} {a7 : Option Value} {x : Int64} {tl : List (Option Value)} (hdg : decode cc pc = .ok (.lload 8, 2)) (kk : PB Γ (pc + 2) (a0 :: a1 :: a2 :: a3 :: a4 :: a5 :: a6 :: a7 :: some (.long x) :: tl) (.long x :: st) h) : PB Γ pc (a0 :: a1 :: a2 :: a3 :: a4 :: a5 :: a6 :: a7 :: some (.long x) :: tl) st h := by
  obtain ⟨⟨p, l, e, R, s, m⟩, ⟨args, below, meth, c⟩, ⟨D, ta, ad, sa, A⟩, cl, sl, Z⟩ := Γ
  obtain ⟨hx, hb, hml, hr, hlk, hown, hts, hR, hK, hA, hPS⟩ := g
  intro H locs ls hP hD hS hl
  exact lv_lload hx hb hdg (hl.2.2 8 _ rfl) (kk H locs ls hP hD hS hl)
theorem pb_aload8 (g : GM Γ y cc nL rt k) {a0 : Option Value} {a1 : Option Value} {a2 : Option Value} {a3 : Option Value} {a4 : Option Value} {a5 : Option Value} {a6 : Option Value} {a7 : Option Value} {x : Nat} {tl : List (Option Value)} (hdg : decode cc pc = .ok (.aload 8, 2)) (kk : PB Γ (pc + 2) (a0 :: a1 :: a2 :: a3 :: a4 :: a5 :: a6 :: a7 :: some (.ref x) :: tl) (.ref x :: st) h) : PB Γ pc (a0 :: a1 :: a2 :: a3 :: a4 :: a5 :: a6 :: a7 :: some (.ref x) :: tl) st h := by
  obtain ⟨⟨p, l, e, R, s, m⟩, ⟨args, below, meth, c⟩, ⟨D, ta, ad, sa, A⟩, cl, sl, Z⟩ := Γ
  obtain ⟨hx, hb, hml, hr, hlk, hown, hts, hR, hK, hA, hPS⟩ := g
  intro H locs ls hP hD hS hl
  exact lv_aload hx hb hdg (hl.2.2 8 _ rfl) (kk H locs ls hP hD hS hl)
theorem pb_istore8 (g : GM Γ y cc nL rt k) {a0 : Option Value} {a1 : Option Value} {a2 : Option Value} {a3 : Option Value} {a4 : Option Value} {a5 : Option Value} {a6 : Option Value} {a7 : Option Value} {x : Int32} {b : Option Value} {tl : List (Option Value)} (hdg : decode cc pc = .ok (.istore 8, 2)) (hn : 8 < nL) (kk : PB Γ (pc + 2) (a0 :: a1 :: a2 :: a3 :: a4 :: a5 :: a6 :: a7 :: some (.int x) :: tl) st h) (hnl : pnl a7 = true := by rfl) : PB Γ pc (a0 :: a1 :: a2 :: a3 :: a4 :: a5 :: a6 :: a7 :: b :: tl) (.int x :: st) h := by
  obtain ⟨⟨p, l, e, R, s, m⟩, ⟨args, below, meth, c⟩, ⟨D, ta, ad, sa, A⟩, cl, sl, Z⟩ := Γ
  obtain ⟨hx, hb, hml, hr, hlk, hown, hts, hR, hK, hA, hPS⟩ := g
  intro H locs ls hP hD hS hl
  subst hml
  exact lv_istore hx hb hdg hl.kit hn rfl (fun ls' hl' => kk H locs ls' hP hD hS (pl_put1 (i := 8) (lv := a0 :: a1 :: a2 :: a3 :: a4 :: a5 :: a6 :: a7 :: b :: tl) (v := .int x) hl' (by simp) (pnl_at (i := 7) rfl hnl)))
theorem pb_astore8 (g : GM Γ y cc nL rt k) {a0 : Option Value} {a1 : Option Value} {a2 : Option Value} {a3 : Option Value} {a4 : Option Value} {a5 : Option Value} {a6 : Option Value} {a7 : Option Value} {x : Nat} {b : Option Value} {tl : List (Option Value)} (hdg : decode cc pc = .ok (.astore 8, 2)) (hn : 8 < nL) (kk : PB Γ (pc + 2) (a0 :: a1 :: a2 :: a3 :: a4 :: a5 :: a6 :: a7 :: some (.ref x) :: tl) st h) (hnl : pnl a7 = true := by rfl) : PB Γ pc (a0 :: a1 :: a2 :: a3 :: a4 :: a5 :: a6 :: a7 :: b :: tl) (.ref x :: st) h := by
  obtain ⟨⟨p, l, e, R, s, m⟩, ⟨args, below, meth, c⟩, ⟨D, ta, ad, sa, A⟩, cl, sl, Z⟩ := Γ
  obtain ⟨hx, hb, hml, hr, hlk, hown, hts, hR, hK, hA, hPS⟩ := g
  intro H locs ls hP hD hS hl
  subst hml
  exact lv_astore hx hb hdg hl.kit hn rfl (fun ls' hl' => kk H locs ls' hP hD hS (pl_put1 (i := 8) (lv := a0 :: a1 :: a2 :: a3 :: a4 :: a5 :: a6 :: a7 :: b :: tl) (v := .ref x) hl' (by simp) (pnl_at (i := 7) rfl hnl)))
theorem pb_lstore8 (g : GM Γ y cc nL rt k) {a0 : Option Value} {a1 : Option Value} {a2 : Option Value} {a3 : Option Value} {a4 : Option Value} {a5 : Option Value} {a6 : Option Value} {a7 : Option Value} {x : Int64} {b d : Option Value} {tl : List (Option Value)} (hdg : decode cc pc = .ok (.lstore 8, 2)) (hn : 8 + 1 < nL) (kk : PB Γ (pc + 2) (a0 :: a1 :: a2 :: a3 :: a4 :: a5 :: a6 :: a7 :: some (.long x) :: none :: tl) st h) (hnl : pnl a7 = true := by rfl) : PB Γ pc (a0 :: a1 :: a2 :: a3 :: a4 :: a5 :: a6 :: a7 :: b :: d :: tl) (.long x :: st) h := by
  obtain ⟨⟨p, l, e, R, s, m⟩, ⟨args, below, meth, c⟩, ⟨D, ta, ad, sa, A⟩, cl, sl, Z⟩ := Γ
  obtain ⟨hx, hb, hml, hr, hlk, hown, hts, hR, hK, hA, hPS⟩ := g
  intro H locs ls hP hD hS hl
  subst hml
  exact lv_lstore hx hb hdg hl.kit hn rfl (fun ls' hl' => kk H locs ls' hP hD hS (pl_put2 (i := 8) (lv := a0 :: a1 :: a2 :: a3 :: a4 :: a5 :: a6 :: a7 :: b :: d :: tl) (v := .long x) hl' (by simp) (pnl_at (i := 7) rfl hnl)))
theorem pb_iload9 (g : GM Γ y cc nL rt k) {a0 : Option Value} {a1 : Option Value} {a2 : Option Value} {a3 : Option Value} {a4 : Option Value} {a5 : Option Value} {a6 : Option Value} {a7 : Option Value} {a8 : Option Value} {x : Int32} {tl : List (Option Value)} (hdg : decode cc pc = .ok (.iload 9, 2)) (kk : PB Γ (pc + 2) (a0 :: a1 :: a2 :: a3 :: a4 :: a5 :: a6 :: a7 :: a8 :: some (.int x) :: tl) (.int x :: st) h) : PB Γ pc (a0 :: a1 :: a2 :: a3 :: a4 :: a5 :: a6 :: a7 :: a8 :: some (.int x) :: tl) st h := by
  obtain ⟨⟨p, l, e, R, s, m⟩, ⟨args, below, meth, c⟩, ⟨D, ta, ad, sa, A⟩, cl, sl, Z⟩ := Γ
  obtain ⟨hx, hb, hml, hr, hlk, hown, hts, hR, hK, hA, hPS⟩ := g
  intro H locs ls hP hD hS hl
  exact lv_iload hx hb hdg (hl.2.2 9 _ rfl) (kk H locs ls hP hD hS hl)
theorem pb_lload9 (g : GM Γ y cc nL rt k) {a0 : Option Value} {a1 : Option Value} {a2 : Option Value} {a3 : Option Value} {a4 : Option Value} {a5 : Option Value} {a6 : Option Value} {a7 : Option Value} {a8 : Option Value} {x : Int64} {tl : List (Option Value)} (hdg : decode cc pc = .ok (.lload 9, 2)) (kk : PB Γ (pc + 2) (a0 :: a1 :: a2 :: a3 :: a4 :: a5 :: a6 :: a7 :: a8 :: some (.long x) :: tl) (.long x :: st) h) : PB Γ pc (a0 :: a1 :: a2 :: a3 :: a4 :: a5 :: a6 :: a7 :: a8 :: some (.long x) :: tl) st h := by
  obtain ⟨⟨p, l, e, R, s, m⟩, ⟨args, below, meth, c⟩, ⟨D, ta, ad, sa, A⟩, cl, sl, Z⟩ := Γ
  obtain ⟨hx, hb, hml, hr, hlk, hown, hts, hR, hK, hA, hPS⟩ := g
  intro H locs ls hP hD hS hl
  exact lv_lload hx hb hdg (hl.2.2 9 _ rfl) (kk H locs ls hP hD hS hl)
theorem pb_aload9 (g : GM Γ y cc nL rt k) {a0 : Option Value} {a1 : Option Value} {a2 : Option Value} {a3 : Option Value} {a4 : Option Value} {a5 : Option Value} {a6 : Option Value} {a7 : Option Value} {a8 : Option Value} {x : Nat} {tl : List (Option Value)} (hdg : decode cc pc = .ok (.aload 9, 2)) (kk : PB Γ (pc + 2) (a0 :: a1 :: a2 :: a3 :: a4 :: a5 :: a6 :: a7 :: a8 :: some (.ref x) :: tl) (.ref x :: st) h) : PB Γ pc (a0 :: a1 :: a2 :: a3 :: a4 :: a5 :: a6 :: a7 :: a8 :: some (.ref x) :: tl) st h := by
  obtain ⟨⟨p, l, e, R, s, m⟩, ⟨args, below, meth, c⟩, ⟨D, ta, ad, sa, A⟩, cl, sl, Z⟩ := Γ
  obtain ⟨hx, hb, hml, hr, hlk, hown, hts, hR, hK, hA, hPS⟩ := g
  intro H locs ls hP hD hS hl
  exact lv_aload hx hb hdg (hl.2.2 9 _ rfl) (kk H locs ls hP hD hS hl)
theorem pb_istore9 (g : GM Γ y cc nL rt k) {a0 : Option Value} {a1 : Option Value} {a2 : Option Value} {a3 : Option Value} {a4 : Option Value} {a5 : Option Value} {a6 : Option Value} {a7 : Option Value} {a8 : Option Value} {x : Int32} {b : Option Value} {tl : List (Option Value)} (hdg : decode cc pc = .ok (.istore 9, 2)) (hn : 9 < nL) (kk : PB Γ (pc + 2) (a0 :: a1 :: a2 :: a3 :: a4 :: a5 :: a6 :: a7 :: a8 :: some (.int x) :: tl) st h) (hnl : pnl a8 = true := by rfl) : PB Γ pc (a0 :: a1 :: a2 :: a3 :: a4 :: a5 :: a6 :: a7 :: a8 :: b :: tl) (.int x :: st) h := by
  obtain ⟨⟨p, l, e, R, s, m⟩, ⟨args, below, meth, c⟩, ⟨D, ta, ad, sa, A⟩, cl, sl, Z⟩ := Γ
  obtain ⟨hx, hb, hml, hr, hlk, hown, hts, hR, hK, hA, hPS⟩ := g
  intro H locs ls hP hD hS hl
  subst hml
  exact lv_istore hx hb hdg hl.kit hn rfl (fun ls' hl' => kk H locs ls' hP hD hS (pl_put1 (i := 9) (lv := a0 :: a1 :: a2 :: a3 :: a4 :: a5 :: a6 :: a7 :: a8 :: b :: tl) (v := .int x) hl' (by simp) (pnl_at (i := 8) rfl hnl)))
theorem pb_astore9 (g : GM Γ y cc nL rt k) {a0 : Option Value} {a1 : Option Value} {a2 : Option Value} {a3 : Option Value} {a4 : Option Value} {a5 : Option Value} {a6 : Option Value} {a7 : Option Value} {a8 : Option Value} {x : Nat} {b : Option Value} {tl : List (Option Value)} (hdg : decode cc pc = .ok (.astore 9, 2)) (hn : 9 < nL) (kk : PB Γ (pc + 2) (a0 :: a1 :: a2 :: a3 :: a4 :: a5 :: a6 :: a7 :: a8 :: some (.ref x) :: tl) st h) (hnl : pnl a8 = true := by rfl) : PB Γ pc (a0 :: a1 :: a2 :: a3 :: a4 :: a5 :: a6 :: a7 :: a8 :: b :: tl) (.ref x :: st) h := by
  obtain ⟨⟨p, l, e, R, s, m⟩, ⟨args, below, meth, c⟩, ⟨D, ta, ad, sa, A⟩, cl, sl, Z⟩ := Γ
  obtain ⟨hx, hb, hml, hr, hlk, hown, hts, hR, hK, hA, hPS⟩ := g
  intro H locs ls hP hD hS hl
  subst hml
  exact lv_astore hx hb hdg hl.kit hn rfl (fun ls' hl' => kk H locs ls' hP hD hS (pl_put1 (i := 9) (lv := a0 :: a1 :: a2 :: a3 :: a4 :: a5 :: a6 :: a7 :: a8 :: b :: tl) (v := .ref x) hl' (by simp) (pnl_at (i := 8) rfl hnl)))
theorem pb_lstore9 (g : GM Γ y cc nL rt k) {a0 : Option Value} {a1 : Option Value} {a2 : Option Value} {a3 : Option Value} {a4 : Option Value} {a5 : Option Value} {a6 : Option Value} {a7 : Option Value} {a8 : Option Value} {x : Int64} {b d : Option Value} {tl : List (Option Value)} (hdg : decode cc pc = .ok (.lstore 9, 2)) (hn : 9 + 1 < nL) (kk : PB Γ (pc + 2) (a0 :: a1 :: a2 :: a3 :: a4 :: a5 :: a6 :: a7 :: a8 :: some (.long x) :: none :: tl) st h) (hnl : pnl a8 = true := by rfl) : PB Γ pc (a0 :: a1 :: a2 :: a3 :: a4 :: a5 :: a6 :: a7 :: a8 :: b :: d :: tl) (.long x :: st) h := by
  obtain ⟨⟨p, l, e, R, s, m⟩, ⟨args, below, meth, c⟩, ⟨D, ta, ad, sa, A⟩, cl, sl, Z⟩ := Γ
  obtain ⟨hx, hb, hml, hr, hlk, hown, hts, hR, hK, hA, hPS⟩ := g
  intro H locs ls hP hD hS hl
  subst hml
  exact lv_lstore hx hb hdg hl.kit hn rfl (fun ls' hl' => kk H locs ls' hP hD hS (pl_put2 (i := 9) (lv := a0 :: a1 :: a2 :: a3 :: a4 :: a5 :: a6 :: a7 :: a8 :: b :: d :: tl) (v := .long x) hl' (by simp) (pnl_at (i := 8) rfl hnl)))
theorem pb_iload10 (g : GM Γ y cc nL rt k) {a0 : Option Value} {a1 : Option Value} {a2 : Option Value} {a3 : Option Value} {a4 : Option Value} {a5 : Option Value} {a6 : Option Value} {a7 : Option Value} {a8 : Option Value} {a9 : Option Value} {x : Int32} {tl : List (Option Value)} (hdg : decode cc pc = .ok (.iload 10, 2)) (kk : PB Γ (pc + 2) (a0 :: a1 :: a2 :: a3 :: a4 :: a5 :: a6 :: a7 :: a8 :: a9 :: some (.int x) :: tl) (.int x :: st) h) : PB Γ pc (a0 :: a1 :: a2 :: a3 :: a4 :: a5 :: a6 :: a7 :: a8 :: a9 :: some (.int x) :: tl) st h := by
  obtain ⟨⟨p, l, e, R, s, m⟩, ⟨args, below, meth, c⟩, ⟨D, ta, ad, sa, A⟩, cl, sl, Z⟩ := Γ
  obtain ⟨hx, hb, hml, hr, hlk, hown, hts, hR, hK, hA, hPS⟩ := g
  intro H locs ls hP hD hS hl
  exact lv_iload hx hb hdg (hl.2.2 10 _ rfl) (kk H locs ls hP hD hS hl)
theorem pb_lload10 (g : GM Γ y cc nL rt k) {a0 : Option Value} {a1 : Option Value} {a2 : Option Value} {a3 : Option Value} {a4 : Option Value} {a5 : Option Value} {a6 : Option Value} {a7 : Option Value} {a8 : Option Value} {a9 : Option Value} {x : Int64} {tl : List (Option Value)} (hdg : decode cc pc = .ok (.lload 10, 2)) (kk : PB Γ (pc + 2) (a0 :: a1 :: a2 :: a3 :: a4 :: a5 :: a6 :: a7 :: a8 :: a9 :: some (.long x) :: tl) (.long x :: st) h) : PB Γ pc (a0 :: a1 :: a2 :: a3 :: a4 :: a5 :: a6 :: a7 :: a8 :: a9 :: some (.long x) :: tl) st h := by
  obtain ⟨⟨p, l, e, R, s, m⟩, ⟨args, below, meth, c⟩, ⟨D, ta, ad, sa, A⟩, cl, sl, Z⟩ := Γ
  obtain ⟨hx, hb, hml, hr, hlk, hown, hts, hR, hK, hA, hPS⟩ := g
  intro H locs ls hP hD hS hl
  exact lv_lload hx hb hdg (hl.2.2 10 _ rfl) (kk H locs ls hP hD hS hl)
theorem pb_aload10 (g : GM Γ y cc nL rt k) {a0 : Option Value} {a1 : Option Value} {a2 : Option Value} {a3 : Option Value} {a4 : Option Value} {a5 : Option Value} {a6 : Option Value} {a7 : Option Value} {a8 : Option Value} {a9 : Option Value} {x : Nat} {tl : List (Option Value)} (hdg : decode cc pc = .ok (.aload 10, 2)) (kk : PB Γ (pc + 2) (a0 :: a1 :: a2 :: a3 :: a4 :: a5 :: a6 :: a7 :: a8 :: a9 :: some (.ref x) :: tl) (.ref x :: st) h) : PB Γ pc (a0 :: a1 :: a2 :: a3 :: a4 :: a5 :: a6 :: a7 :: a8 :: a9 :: some (.ref x) :: tl) st h := by
  obtain ⟨⟨p, l, e, R, s, m⟩, ⟨args, below, meth, c⟩, ⟨D, ta, ad, sa, A⟩, cl, sl, Z⟩ := Γ
  obtain ⟨hx, hb, hml, hr, hlk, hown, hts, hR, hK, hA, hPS⟩ := g
  intro H locs ls hP hD hS hl
  exact lv_aload hx hb hdg (hl.2.2 10 _ rfl) (kk H locs ls hP hD hS hl)
theorem pb_istore10 (g : GM Γ y cc nL rt k) {a0 : Option Value} {a1 : Option Value} {a2 : Option Value} {a3 : Option Value} {a4 : Option Value} {a5 : Option Value} {a6 : Option Value} {a7 : Option Value} {a8 : Option Value} {a9 : Option Value} {x : Int32} {b : Option Value} {tl : List (Option Value)} (hdg : decode cc pc = .ok (.istore 10, 2)) (hn : 10 < nL) (kk : PB Γ (pc + 2) (a0 :: a1 :: a2 :: a3 :: a4 :: a5 :: a6 :: a7 :: a8 :: a9 :: some (.int x) :: tl) st h) (hnl : pnl a9 = true := by rfl) : PB Γ pc (a0 :: a1 :: a2 :: a3 :: a4 :: a5 :: a6 :: a7 :: a8 :: a9 :: b :: tl) (.int x :: st) h := by
  obtain ⟨⟨p, l, e, R, s, m⟩, ⟨args, below, meth, c⟩, ⟨D, ta, ad, sa, A⟩, cl, sl, Z⟩ := Γ
  obtain ⟨hx, hb, hml, hr, hlk, hown, hts, hR, hK, hA, hPS⟩ := g
  intro H locs ls hP hD hS hl
  subst hml
  exact lv_istore hx hb hdg hl.kit hn rfl (fun ls' hl' => kk H locs ls' hP hD hS (pl_put1 (i := 10) (lv := a0 :: a1 :: a2 :: a3 :: a4 :: a5 :: a6 :: a7 :: a8 :: a9 :: b :: tl) (v := .int x) hl' (by simp) (pnl_at (i := 9) rfl hnl)))
theorem pb_astore10 (g : GM Γ y cc nL rt k) {a0 : Option Value} {a1 : Option Value} {a2 : Option Value} {a3 : Option Value} {a4 : Option Value} {a5 : Option Value} {a6 : Option Value} {a7 : Option Value} {a8 : Option Value} {a9 : Option Value} {x : Nat} {b : Option Value} {tl : List (Option Value)} (hdg : decode cc pc = .ok (.astore 10, 2)) (hn : 10 < nL) (kk : PB Γ (pc + 2) (a0 :: a1 :: a2 :: a3 :: a4 :: a5 :: a6 :: a7 :: a8 :: a9 :: some (.ref x) :: tl) st h) (hnl : pnl a9 = true := by rfl) : PB Γ pc (a0 :: a1 :: a2 :: a3 :: a4 :: a5 :: a6 :: a7 :: a8 :: a9 :: b :: tl) (.ref x :: st) h := by
  obtain ⟨⟨p, l, e, R, s, m⟩, ⟨args, below, meth, c⟩, ⟨D, ta, ad, sa, A⟩, cl, sl, Z⟩ := Γ
  obtain ⟨hx, hb, hml, hr, hlk, hown, hts, hR, hK, hA, hPS⟩ := g
  intro H locs ls hP hD hS hl
  subst hml
  exact lv_astore hx hb hdg hl.kit hn rfl (fun ls' hl' => kk H locs ls' hP hD hS (pl_put1 (i := 10) (lv := a0 :: a1 :: a2 :: a3 :: a4 :: a5 :: a6 :: a7 :: a8 :: a9 :: b :: tl) (v := .ref x) hl' (by simp) (pnl_at (i := 9) rfl hnl)))
theorem pb_lstore10 (g : GM Γ y cc nL rt k) {a0 : Option Value} {a1 : Option Value} {a2 : Option Value} {a3 : Option Value} {a4 : Option Value} {a5 : Option Value} {a6 : Option Value} {a7 : Option Value} {a8 : Option Value} {a9 : Option Value} {x : Int64} {b d : Option Value} {tl : List (Option Value)} (hdg : decode cc pc = .ok (.lstore 10, 2)) (hn : 10 + 1 < nL) (kk : PB Γ (pc + 2) (a0 :: a1 :: a2 :: a3 :: a4 :: a5 :: a6 :: a7 :: a8 :: a9 :: some (.long x) :: none :: tl) st h) (hnl : pnl a9 = true := by rfl) : PB Γ pc (a0 :: a1 :: a2 :: a3 :: a4 :: a5 :: a6 :: a7 :: a8 :: a9 :: b :: d :: tl) (.long x :: st) h := by
  obtain ⟨⟨p, l, e, R, s, m⟩, ⟨args, below, meth, c⟩, ⟨D, ta, ad, sa, A⟩, cl, sl, Z⟩ := Γ
  obtain ⟨hx, hb, hml, hr, hlk, hown, hts, hR, hK, hA, hPS⟩ := g
  intro H locs ls hP hD hS hl
  subst hml
  exact lv_lstore hx hb hdg hl.kit hn rfl (fun ls' hl' => kk H locs ls' hP hD hS (pl_put2 (i := 10) (lv := a0 :: a1 :: a2 :: a3 :: a4 :: a5 :: a6 :: a7 :: a8 :: a9 :: b :: d :: tl) (v := .long x) hl' (by simp) (pnl_at (i := 9) rfl hnl)))
theorem pb_iload11 (g : GM Γ y cc nL rt k) {a0 : Option Value} {a1 : Option Value} {a2 : Option Value} {a3 : Option Value} {a4 : Option Value} {a5 : Option Value} {a6 : Option Value} {a7 : Option Value} {a8 : Option Value} {a9 : Option Value} {a10 : Option Value} {x : Int32} {tl : List (Option Value)} (hdg : decode cc pc = .ok (.iload 11, 2)) (kk : PB Γ (pc + 2) (a0 :: a1 :: a2 :: a3 :: a4 :: a5 :: a6 :: a7 :: a8 :: a9 :: a10 :: some (.int x) :: tl) (.int x :: st) h) : PB Γ pc (a0 :: a1 :: a2 :: a3 :: a4 :: a5 :: a6 :: a7 :: a8 :: a9 :: a10 :: some (.int x) :: tl) st h := by
  obtain ⟨⟨p, l, e, R, s, m⟩, ⟨args, below, meth, c⟩, ⟨D, ta, ad, sa, A⟩, cl, sl, Z⟩ := Γ
  obtain ⟨hx, hb, hml, hr, hlk, hown, hts, hR, hK, hA, hPS⟩ := g
  intro H locs ls hP hD hS hl
  exact lv_iload hx hb hdg (hl.2.2 11 _ rfl) (kk H locs ls hP hD hS hl)
theorem pb_lload11 (g : GM Γ y cc nL rt k) {a0 : Option Value} {a1 : Option Value} {a2 : Option Value} {a3 : Option Value} {a4 : Option Value} {a5 : Option Value} {a6 : Option Value} {a7 : Option Value} {a8 : Option Value} {a9 : Option Value} {a10 : Option Value} {x : Int64} {tl : List (Option Value)} (hdg : decode cc pc = .ok (.lload 11, 2)) (kk : PB Γ (pc + 2) (a0 :: a1 :: a2 :: a3 :: a4 :: a5 :: a6 :: a7 :: a8 :: a9 :: a10 :: some (.long x) :: tl) (.long x :: st) h) : PB Γ pc (a0 :: a1 :: a2 :: a3 :: a4 :: a5 :: a6 :: a7 :: a8 :: a9 :: a10 :: some (.long x) :: tl) st h := by
  obtain ⟨⟨p, l, e, R, s, m⟩, ⟨args, below, meth, c⟩, ⟨D, ta, ad, sa, A⟩, cl, sl, Z⟩ := Γ
  obtain ⟨hx, hb, hml, hr, hlk, hown, hts, hR, hK, hA, hPS⟩ := g
  intro H locs ls hP hD hS hl
  exact lv_lload hx hb hdg (hl.2.2 11 _ rfl) (kk H locs ls hP hD hS hl)
theorem pb_aload11 (g : GM Γ y cc nL rt k) {a0 : Option Value} {a1 : Option Value} {a2 : Option Value} {a3 : Option Value} {a4 : Option Value} {a5 : Option Value} {a6 : Option Value} {a7 : Option Value} {a8 : Option Value} {a9 : Option Value} {a10 : Option Value} {x : Nat} {tl : List (Option Value)} (hdg : decode cc pc = .ok (.aload 11, 2)) (kk : PB Γ (pc + 2) (a0 :: a1 :: a2 :: a3 :: a4 :: a5 :: a6 :: a7 :: a8 :: a9 :: a10 :: some (.ref x) :: tl) (.ref x :: st) h) : PB Γ pc (a0 :: a1 :: a2 :: a3 :: a4 :: a5 :: a6 :: a7 :: a8 :: a9 :: a10 :: some (.ref x) :: tl) st h := by
  obtain ⟨⟨p, l, e, R, s, m⟩, ⟨args, below, meth, c⟩, ⟨D, ta, ad, sa, A⟩, cl, sl, Z⟩ := Γ
  obtain ⟨hx, hb, hml, hr, hlk, hown, hts, hR, hK, hA, hPS⟩ := g
  intro H locs ls hP hD hS hl
  exact lv_aload hx hb hdg (hl.2.2 11 _ rfl) (kk H locs ls hP hD hS hl)
theorem pb_istore11 (g : GM Γ y cc nL rt k) {a0 : Option Value} {a1 : Option Value} {a2 : Option Value} {a3 : Option Value} {a4 : Option Value} {a5 : Option Value} {a6 : Option Value} {a7 : Option Value} {a8 : Option Value} {a9 : Option Value} {a10 : Option Value} {x : Int32} {b : Option Value} {tl : List (Option Value)} (hdg : decode cc pc = .ok (.istore 11, 2)) (hn : 11 < nL) (kk : PB Γ (pc + 2) (a0 :: a1 :: a2 :: a3 :: a4 :: a5 :: a6 :: a7 :: a8 :: a9 :: a10 :: some (.int x) :: tl) st h) (hnl : pnl a10 = true := by rfl) : PB Γ pc (a0 :: a1 :: a2 :: a3 :: a4 :: a5 :: a6 :: a7 :: a8 :: a9 :: a10 :: b :: tl) (.int x :: st) h := by
  obtain ⟨⟨p, l, e, R, s, m⟩, ⟨args, below, meth, c⟩, ⟨D, ta, ad, sa, A⟩, cl, sl, Z⟩ := Γ
  obtain ⟨hx, hb, hml, hr, hlk, hown, hts, hR, hK, hA, hPS⟩ := g
  intro H locs ls hP hD hS hl
  subst hml
  exact lv_istore hx hb hdg hl.kit hn rfl (fun ls' hl' => kk H locs ls' hP hD hS (pl_put1 (i := 11) (lv := a0 :: a1 :: a2 :: a3 :: a4 :: a5 :: a6 :: a7 :: a8 :: a9 :: a10 :: b :: tl) (v := .int x) hl' (by simp) (pnl_at (i := 10) rfl hnl)))
theorem pb_astore11 (g : GM Γ y cc nL rt k) {a0 : Option Value} {a1 : Option Value} {a2 : Option Value} {a3 : Option Value} {a4 : Option Value} {a5 : Option Value} {a6 : Option Value} {a7 : Option Value} {a8 : Option Value} {a9 : Option Value} {a10 : Option Value} {x : Nat} {b : Option Value} {tl : List (Option Value)} (hdg : decode cc pc = .ok (.astore 11, 2)) (hn : 11 < nL) (kk : PB Γ (pc + 2) (a0 :: a1 :: a2 :: a3 :: a4 :: a5 :: a6 :: a7 :: a8 :: a9 :: a10 :: some (.ref x) :: tl) st h) (hnl : pnl a10 = true := by rfl) : PB Γ pc (a0 :: a1 :: a2 :: a3 :: a4 :: a5 :: a6 :: a7 :: a8 :: a9 :: a10 :: b :: tl) (.ref x :: st) h := by
  obtain ⟨⟨p, l, e, R, s, m⟩, ⟨args, below, meth, c⟩, ⟨D, ta, ad, sa, A⟩, cl, sl, Z⟩ := Γ
  obtain ⟨hx, hb, hml, hr, hlk, hown, hts, hR, hK, hA, hPS⟩ := g
  intro H locs ls hP hD hS hl
  subst hml
  exact lv_astore hx hb hdg hl.kit hn rfl (fun ls' hl' => kk H locs ls' hP hD hS (pl_put1 (i := 11) (lv := a0 :: a1 :: a2 :: a3 :: a4 :: a5 :: a6 :: a7 :: a8 :: a9 :: a10 :: b :: tl) (v := .ref x) hl' (by simp) (pnl_at (i := 10) rfl hnl)))
theorem pb_lstore11 (g : GM Γ y cc nL rt k) {a0 : Option Value} {a1 : Option Value} {a2 : Option Value} {a3 : Option Value} {a4 : Option Value} {a5 : Option Value} {a6 : Option Value} {a7 : Option Value} {a8 : Option Value} {a9 : Option Value} {a10 : Option Value} {x : Int64} {b d : Option Value} {tl : List (Option Value)} (hdg : decode cc pc = .ok (.lstore 11, 2)) (hn : 11 + 1 < nL) (kk : PB Γ (pc + 2) (a0 :: a1 :: a2 :: a3 :: a4 :: a5 :: a6 :: a7 :: a8 :: a9 :: a10 :: some (.long x) :: none :: tl) st h) (hnl : pnl a10 = true := by rfl) : PB Γ pc (a0 :: a1 :: a2 :: a3 :: a4 :: a5 :: a6 :: a7 :: a8 :: a9 :: a10 :: b :: d :: tl) (.long x :: st) h := by
  obtain ⟨⟨p, l, e, R, s, m⟩, ⟨args, below, meth, c⟩, ⟨D, ta, ad, sa, A⟩, cl, sl, Z⟩ := Γ
  obtain ⟨hx, hb, hml, hr, hlk, hown, hts, hR, hK, hA, hPS⟩ := g
  intro H locs ls hP hD hS hl
  subst hml
  exact lv_lstore hx hb hdg hl.kit hn rfl (fun ls' hl' => kk H locs ls' hP hD hS (pl_put2 (i := 11) (lv := a0 :: a1 :: a2 :: a3 :: a4 :: a5 :: a6 :: a7 :: a8 :: a9 :: a10 :: b :: d :: tl) (v := .long x) hl' (by simp) (pnl_at (i := 10) rfl hnl)))
theorem pb_iload12 (g : GM Γ y cc nL rt k) {a0 : Option Value} {a1 : Option Value} {a2 : Option Value} {a3 : Option Value} {a4 : Option Value} {a5 : Option Value} {a6 : Option Value} {a7 : Option Value} {a8 : Option Value} {a9 : Option Value} {a10 : Option Value} {a11 : Option Value} {x : Int32} {tl : List (Option Value)} (hdg : decode cc pc = .ok (.iload 12, 2)) (kk : PB Γ (pc + 2) (a0 :: a1 :: a2 :: a3 :: a4 :: a5 :: a6 :: a7 :: a8 :: a9 :: a10 :: a11 :: some (.int x) :: tl) (.int x :: st) h) : PB Γ pc (a0 :: a1 :: a2 :: a3 :: a4 :: a5 :: a6 :: a7 :: a8 :: a9 :: a10 :: a11 :: some (.int x) :: tl) st h := by
  obtain ⟨⟨p, l, e, R, s, m⟩, ⟨args, below, meth, c⟩, ⟨D, ta, ad, sa, A⟩, cl, sl, Z⟩ := Γ
  obtain ⟨hx, hb, hml, hr, hlk, hown, hts, hR, hK, hA, hPS⟩ := g
  intro H locs ls hP hD hS hl
  exact lv_iload hx hb hdg (hl.2.2 12 _ rfl) (kk H locs ls hP hD hS hl)
theorem pb_lload12 (g : GM Γ y cc nL rt k) {a0 : Option Value} {a1 : Option Value} {a2 : Option Value} {a3 : Option Value} {a4 : Option Value} {a5 : Option Value} {a6 : Option Value} {a7 : Option Value} {a8 : Option Value} {a9 : Option Value} {a10 : Option Value} {a11 : Option Value} {x : Int64} {tl : List (Option Value)} (hdg : decode cc pc = .ok (.lload 12, 2)) (kk : PB Γ (pc + 2) (a0 :: a1 :: a2 :: a3 :: a4 :: a5 :: a6 :: a7 :: a8 :: a9 :: a10 :: a11 :: some (.long x) :: tl) (.long x :: st) h) : PB Γ pc (a0 :: a1 :: a2 :: a3 :: a4 :: a5 :: a6 :: a7 :: a8 :: a9 :: a10 :: a11 :: some (.long x) :: tl) st h := by
  obtain ⟨⟨p, l, e, R, s, m⟩, ⟨args, below, meth, c⟩, ⟨D, ta, ad, sa, A⟩, cl, sl, Z⟩ := Γ
  obtain ⟨hx, hb, hml, hr, hlk, hown, hts, hR, hK, hA, hPS⟩ := g
  intro H locs ls hP hD hS hl
  exact lv_lload hx hb hdg (hl.2.2 12 _ rfl) (kk H locs ls hP hD hS hl)
theorem pb_aload12 (g : GM Γ y cc nL rt k) {a0 : Option Value} {a1 : Option Value} {a2 : Option Value} {a3 : Option Value} {a4 : Option Value} {a5 : Option Value} {a6 : Option Value} {a7 : Option Value} {a8 : Option Value} {a9 : Option Value} {a10 : Option Value} {a11 : Option Value} {x : Nat} {tl : List (Option Value)} (hdg : decode cc pc = .ok (.aload 12, 2)) (kk : PB Γ (pc + 2) (a0 :: a1 :: a2 :: a3 :: a4 :: a5 :: a6 :: a7 :: a8 :: a9 :: a10 :: a11 :: some (.ref x) :: tl) (.ref x :: st) h) : PB Γ pc (a0 :: a1 :: a2 :: a3 :: a4 :: a5 :: a6 :: a7 :: a8 :: a9 :: a10 :: a11 :: some (.ref x) :: tl) st h := by
  obtain ⟨⟨p, l, e, R, s, m⟩, ⟨args, below, meth, c⟩, ⟨D, ta, ad, sa, A⟩, cl, sl, Z⟩ := Γ
  obtain ⟨hx, hb, hml, hr, hlk, hown, hts, hR, hK, hA, hPS⟩ := g
  intro H locs ls hP hD hS hl
  exact lv_aload hx hb hdg (hl.2.2 12 _ rfl) (kk H locs ls hP hD hS hl)
theorem pb_istore12 (g : GM Γ y cc nL rt k) {a0 : Option Value} {a1 : Option Value} {a2 : Option Value} {a3 : Option Value} {a4 : Option Value} {a5 : Option Value} {a6 : Option Value} {a7 : Option Value} {a8 : Option Value} {a9 : Option Value} {a10 : Option Value} {a11 : Option Value} {x : Int32} {b : Option Value} {tl : List (Option Value)} (hdg : decode cc pc = .ok (.istore 12, 2)) (hn : 12 < nL) (kk : PB Γ (pc + 2) (a0 :: a1 :: a2 :: a3 :: a4 :: a5 :: a6 :: a7 :: a8 :: a9 :: a10 :: a11 :: some (.int x) :: tl) st h) (hnl : pnl a11 = true := by rfl) : PB Γ pc (a0 :: a1 :: a2 :: a3 :: a4 :: a5 :: a6 :: a7 :: a8 :: a9 :: a10 :: a11 :: b :: tl) (.int x :: st) h := by
  obtain ⟨⟨p, l, e, R, s, m⟩, ⟨args, below, meth, c⟩, ⟨D, ta, ad, sa, A⟩, cl, sl, Z⟩ := Γ
  obtain ⟨hx, hb, hml, hr, hlk, hown, hts, hR, hK, hA, hPS⟩ := g
  intro H locs ls hP hD hS hl
  subst hml
  exact lv_istore hx hb hdg hl.kit hn rfl (fun ls' hl' => kk H locs ls' hP hD hS (pl_put1 (i := 12) (lv := a0 :: a1 :: a2 :: a3 :: a4 :: a5 :: a6 :: a7 :: a8 :: a9 :: a10 :: a11 :: b :: tl) (v := .int x) hl' (by simp) (pnl_at (i := 11) rfl hnl)))
theorem pb_astore12 (g : GM Γ y cc nL rt k) {a0 : Option Value} {a1 : Option Value} {a2 : Option Value} {a3 : Option Value} {a4 : Option Value} {a5 : Option Value} {a6 : Option Value} {a7 : Option Value} {a8 : Option Value} {a9 : Option Value} {a10 : Option Value} {a11 : Option Value} {x : Nat} {b : Option Value} {tl : List (Option Value)} (hdg : decode cc pc = .ok (.astore 12, 2)) (hn : 12 < nL) (kk : PB Γ (pc + 2) (a0 :: a1 :: a2 :: a3 :: a4 :: a5 :: a6 :: a7 :: a8 :: a9 :: a10 :: a11 :: some (.ref x) :: tl) st h) (hnl : pnl a11 = true := by rfl) : PB Γ pc (a0 :: a1 :: a2 :: a3 :: a4 :: a5 :: a6 :: a7 :: a8 :: a9 :: a10 :: a11 :: b :: tl) (.ref x :: st) h := by
  obtain ⟨⟨p, l, e, R, s, m⟩, ⟨args, below, meth, c⟩, ⟨D, ta, ad, sa, A⟩, cl, sl, Z⟩ := Γ
  obtain ⟨hx, hb, hml, hr, hlk, hown, hts, hR, hK, hA, hPS⟩ := g
  intro H locs ls hP hD hS hl
  subst hml
  exact lv_astore hx hb hdg hl.kit hn rfl (fun ls' hl' => kk H locs ls' hP hD hS (pl_put1 (i := 12) (lv := a0 :: a1 :: a2 :: a3 :: a4 :: a5 :: a6 :: a7 :: a8 :: a9 :: a10 :: a11 :: b :: tl) (v := .ref x) hl' (by simp) (pnl_at (i := 11) rfl hnl)))
theorem pb_lstore12 (g : GM Γ y cc nL rt k) {a0 : Option Value} {a1 : Option Value} {a2 : Option Value} {a3 : Option Value} {a4 : Option Value} {a5 : Option Value} {a6 : Option Value} {a7 : Option Value} {a8 : Option Value} {a9 : Option Value} {a10 : Option Value} {a11 : Option Value} {x : Int64} {b d : Option Value} {tl : List (Option Value)} (hdg : decode cc pc = .ok (.lstore 12, 2)) (hn : 12 + 1 < nL) (kk : PB Γ (pc + 2) (a0 :: a1 :: a2 :: a3 :: a4 :: a5 :: a6 :: a7 :: a8 :: a9 :: a10 :: a11 :: some (.long x) :: none :: tl) st h) (hnl : pnl a11 = true := by rfl) : PB Γ pc (a0 :: a1 :: a2 :: a3 :: a4 :: a5 :: a6 :: a7 :: a8 :: a9 :: a10 :: a11 :: b :: d :: tl) (.long x :: st) h := by
  obtain ⟨⟨p, l, e, R, s, m⟩, ⟨args, below, meth, c⟩, ⟨D, ta, ad, sa, A⟩, cl, sl, Z⟩ := Γ
  obtain ⟨hx, hb, hml, hr, hlk, hown, hts, hR, hK, hA, hPS⟩ := g
  intro H locs ls hP hD hS hl
  subst hml
  exact lv_lstore hx hb hdg hl.kit hn rfl (fun ls' hl' => kk H locs ls' hP hD hS (pl_put2 (i := 12) (lv := a0 :: a1 :: a2 :: a3 :: a4 :: a5 :: a6 :: a7 :: a8 :: a9 :: a10 :: a11 :: b :: d :: tl) (v := .long x) hl' (by simp) (pnl_at (i := 11) rfl hnl)))
theorem pb_iload13 (g : GM Γ y cc nL rt k) {a0 : Option Value} {a1 : Option Value} {a2 : Option Value} {a3 : Option Value} {a4 : Option Value} {a5 : Option Value} {a6 : Option Value} {a7 : Option Value} {a8 : Option Value} {a9 : Option Value} {a10 : Option Value} {a11 : Option Value} {a12 : Option Value} {x : Int32} {tl : List (Option Value)} (hdg : decode cc pc = .ok (.iload 13, 2)) (kk : PB Γ (pc + 2) (a0 :: a1 :: a2 :: a3 :: a4 :: a5 :: a6 :: a7 :: a8 :: a9 :: a10 :: a11 :: a12 :: some (.int x) :: tl) (.int x :: st) h) : PB Γ pc (a0 :: a1 :: a2 :: a3 :: a4 :: a5 :: a6 :: a7 :: a8 :: a9 :: a10 :: a11 :: a12 :: some (.int x) :: tl) st h := by
  obtain ⟨⟨p, l, e, R, s, m⟩, ⟨args, below, meth, c⟩, ⟨D, ta, ad, sa, A⟩, cl, sl, Z⟩ := Γ
  obtain ⟨hx, hb, hml, hr, hlk, hown, hts, hR, hK, hA, hPS⟩ := g
  intro H locs ls hP hD hS hl
  exact lv_iload hx hb hdg (hl.2.2 13 _ rfl) (kk H locs ls hP hD hS hl)
theorem pb_lload13 (g : GM Γ y cc nL rt k) {a0 : Option Value} {a1 : Option Value} {a2 : Option Value} {a3 : Option Value} {a4 : Option Value} {a5 : Option Value} {a6 : Option Value} {a7 : Option Value} {a8 : Option Value} {a9 : Option Value} {a10 : Option Value} {a11 : Option Value} {a12 : Option Value} {x : Int64} {tl : List (Option Value)} (hdg : decode cc pc = .ok (.lload 13, 2)) (kk : PB Γ (pc + 2) (a0 :: a1 :: a2 :: a3 :: a4 :: a5 :: a6 :: a7 :: a8 :: a9 :: a10 :: a11 :: a12 :: some (.long x) :: tl) (.long x :: st) h) : PB Γ pc (a0 :: a1 :: a2 :: a3 :: a4 :: a5 :: a6 :: a7 :: a8 :: a9 :: a10 :: a11 :: a12 :: some (.long x) :: tl) st h := by
  obtain ⟨⟨p, l, e, R, s, m⟩, ⟨args, below, meth, c⟩, ⟨D, ta, ad, sa, A⟩, cl, sl, Z⟩ := Γ
  obtain ⟨hx, hb, hml, hr, hlk, hown, hts, hR, hK, hA, hPS⟩ := g
  intro H locs ls hP hD hS hl
  exact lv_lload hx hb hdg (hl.2.2 13 _ rfl) (kk H locs ls hP hD hS hl)
theorem pb_aload13 (g : GM Γ y cc nL rt k) {a0 : Option Value} {a1 : Option Value} {a2 : Option Value} {a3 : Option Value} {a4 : Option Value} {a5 : Option Value} {a6 : Option Value} {a7 : Option Value} {a8 : Option Value} {a9 : Option Value} {a10 : Option Value} {a11 : Option Value} {a12 : Option Value} {x : Nat} {tl : List (Option Value)} (hdg : decode cc pc = .ok (.aload 13, 2)) (kk : PB Γ (pc + 2) (a0 :: a1 :: a2 :: a3 :: a4 :: a5 :: a6 :: a7 :: a8 :: a9 :: a10 :: a11 :: a12 :: some (.ref x) :: tl) (.ref x :: st) h) : PB Γ pc (a0 :: a1 :: a2 :: a3 :: a4 :: a5 :: a6 :: a7 :: a8 :: a9 :: a10 :: a11 :: a12 :: some (.ref x) :: tl) st h := by
  obtain ⟨⟨p, l, e, R, s, m⟩, ⟨args, below, meth, c⟩, ⟨D, ta, ad, sa, A⟩, cl, sl, Z⟩ := Γ
  obtain ⟨hx, hb, hml, hr, hlk, hown, hts, hR, hK, hA, hPS⟩ := g
  intro H locs ls hP hD hS hl
  exact lv_aload hx hb hdg (hl.2.2 13 _ rfl) (kk H locs ls hP hD hS hl)
theorem pb_istore13 (g : GM Γ y cc nL rt k) {a0 : Option Value} {a1 : Option Value} {a2 : Option Value} {a3 : Option Value} {a4 : Option Value} {a5 : Option Value} {a6 : Option Value} {a7 : Option Value} {a8 : Option Value} {a9 : Option Value} {a10 : Option Value} {a11 : Option Value} {a12 : Option Value} {x : Int32} {b : Option Value} {tl : List (Option Value)} (hdg : decode cc pc = .ok (.istore 13, 2)) (hn : 13 < nL) (kk : PB Γ (pc + 2) (a0 :: a1 :: a2 :: a3 :: a4 :: a5 :: a6 :: a7 :: a8 :: a9 :: a10 :: a11 :: a12 :: some (.int x) :: tl) st h) (hnl : pnl a12 = true := by rfl) : PB Γ pc (a0 :: a1 :: a2 :: a3 :: a4 :: a5 :: a6 :: a7 :: a8 :: a9 :: a10 :: a11 :: a12 :: b :: tl) (.int x :: st) h := by
  obtain ⟨⟨p, l, e, R, s, m⟩, ⟨args, below, meth, c⟩, ⟨D, ta, ad, sa, A⟩, cl, sl, Z⟩ := Γ
  obtain ⟨hx, hb, hml, hr, hlk, hown, hts, hR, hK, hA, hPS⟩ := g
  intro H locs ls hP hD hS hl
  subst hml
  exact lv_istore hx hb hdg hl.kit hn rfl (fun ls' hl' => kk H locs ls' hP hD hS (pl_put1 (i := 13) (lv := a0 :: a1 :: a2 :: a3 :: a4 :: a5 :: a6 :: a7 :: a8 :: a9 :: a10 :: a11 :: a12 :: b :: tl) (v := .int x) hl' (by simp) (pnl_at (i := 12) rfl hnl)))
theorem pb_astore13 (g : GM Γ y cc nL rt k) {a0 : Option Value} {a1 : Option Value} {a2 : Option Value} {a3 : Option Value} {a4 : Option Value} {a5 : Option Value} {a6 : Option Value} {a7 : Option Value} {a8 : Option Value} {a9 : Option Value} {a10 : Option Value} {a11 : Option Value} {a12 : Option Value} {x : Nat} {b : Option Value} {tl : List (Option Value)} (hdg : decode cc pc = .ok (.astore 13, 2)) (hn : 13 < nL) (kk : PB Γ (pc + 2) (a0 :: a1 :: a2 :: a3 :: a4 :: a5 :: a6 :: a7 :: a8 :: a9 :: a10 :: a11 :: a12 :: some (.ref x) :: tl) st h) (hnl : pnl a12 = true := by rfl) : PB Γ pc (a0 :: a1 :: a2 :: a3 :: a4 :: a5 :: a6 :: a7 :: a8 :: a9 :: a10 :: a11 :: a12 :: b :: tl) (.ref x :: st) h := by
  obtain ⟨⟨p, l, e, R, s, m⟩, ⟨args, below, meth, c⟩, ⟨D, ta, ad, sa, A⟩, cl, sl, Z⟩ := Γ
  obtain ⟨hx, hb, hml, hr, hlk, hown, hts, hR, hK, hA, hPS⟩ := g
  intro H locs ls hP hD hS hl
  subst hml
  exact lv_astore hx hb hdg hl.kit hn rfl (fun ls' hl' => kk H locs ls' hP hD hS (pl_put1 (i := 13) (lv := a0 :: a1 :: a2 :: a3 :: a4 :: a5 :: a6 :: a7 :: a8 :: a9 :: a10 :: a11 :: a12 :: b :: tl) (v := .ref x) hl' (by simp) (pnl_at (i := 12) rfl hnl)))
theorem pb_lstore13 (g : GM Γ y cc nL rt k) {a0 : Option Value} {a1 : Option Value} {a2 : Option Value} {a3 : Option Value} {a4 : Option Value} {a5 : Option Value} {a6 : Option Value} {a7 : Option Value} {a8 : Option Value} {a9 : Option Value} {a10 : Option Value} {a11 : Option Value} {a12 : Option Value} {x : Int64} {b d : Option Value} {tl : List (Option Value)} (hdg : decode cc pc = .ok (.lstore 13, 2)) (hn : 13 + 1 < nL) (kk : PB Γ (pc + 2) (a0 :: a1 :: a2 :: a3 :: a4 :: a5 :: a6 :: a7 :: a8 :: a9 :: a10 :: a11 :: a12 :: some (.long x) :: none :: tl) st h) (hnl : pnl a12 = true := by rfl) : PB Γ pc (a0 :: a1 :: a2 :: a3 :: a4 :: a5 :: a6 :: a7 :: a8 :: a9 :: a10 :: a11 :: a12 :: b :: d :: tl) (.long x :: st) h := by
  obtain ⟨⟨p, l, e, R, s, m⟩, ⟨args, below, meth, c⟩, ⟨D, ta, ad, sa, A⟩, cl, sl, Z⟩ := Γ
  obtain ⟨hx, hb, hml, hr, hlk, hown, hts, hR, hK, hA, hPS⟩ := g
  intro H locs ls hP hD hS hl
  subst hml
  exact lv_lstore hx hb hdg hl.kit hn rfl (fun ls' hl' => kk H locs ls' hP hD hS (pl_put2 (i := 13) (lv := a0 :: a1 :: a2 :: a3 :: a4 :: a5 :: a6 :: a7 :: a8 :: a9 :: a10 :: a11 :: a12 :: b :: d :: tl) (v := .long x) hl' (by simp) (pnl_at (i := 12) rfl hnl)))
theorem pb_iinc0 (g : GM Γ y cc nL rt k)  {x v : Int32} {n : Int} {tl : List (Option Value)} (hdg : decode cc pc = .ok (.iinc 0 n, 3)) (hn : 0 < nL) (hv : x + Int32.ofInt n = v) (kk : PB Γ (pc + 3) (some (.int v) :: tl) st h)  : PB Γ pc (some (.int x) :: tl) st h := by
  obtain ⟨⟨p, l, e, R, s, m⟩, ⟨args, below, meth, c⟩, ⟨D, ta, ad, sa, A⟩, cl, sl, Z⟩ := Γ
  obtain ⟨hx, hb, hml, hr, hlk, hown, hts, hR, hK, hA, hPS⟩ := g
  intro H locs ls hP hD hS hl
  subst hml
  obtain ⟨kq, hkq⟩ := List.getElem?_of_mem (by have := pl_prs_mem (cv := pcv ad sa) (some (.int x) :: tl) 0 0 (.int x) rfl; rwa [Nat.zero_add] at this)
  exact lv_iinc hx hb hdg hl.kit hkq hv hn rfl (fun ls' hl' => kk H locs ls' hP hD hS (pl_put1 (i := 0) (lv := some (.int x) :: tl) (v := .int v) hl' (by simp) (fun j w hj _ => absurd hj (by omega))))
theorem pb_iinc0N (g : GM Γ y cc nL rt k)  {x : Nat} {tl : List (Option Value)} (hdg : decode cc pc = .ok (.iinc 0 1, 3)) (hn : 0 < nL) (kk : PB Γ (pc + 3) (some (.int (nI (x + 1))) :: tl) st h)  : PB Γ pc (some (.int (nI x)) :: tl) st h := pb_iinc0 g hdg hn (nI_1 x) kk 
theorem pb_iinc1 (g : GM Γ y cc nL rt k) {a0 : Option Value} {x v : Int32} {n : Int} {tl : List (Option Value)} (hdg : decode cc pc = .ok (.iinc 1 n, 3)) (hn : 1 < nL) (hv : x + Int32.ofInt n = v) (kk : PB Γ (pc + 3) (a0 :: some (.int v) :: tl) st h) (hnl : pnl a0 = true := by rfl) : PB Γ pc (a0 :: some (.int x) :: tl) st h := by
  obtain ⟨⟨p, l, e, R, s, m⟩, ⟨args, below, meth, c⟩, ⟨D, ta, ad, sa, A⟩, cl, sl, Z⟩ := Γ
  obtain ⟨hx, hb, hml, hr, hlk, hown, hts, hR, hK, hA, hPS⟩ := g
  intro H locs ls hP hD hS hl
  subst hml
  obtain ⟨kq, hkq⟩ := List.getElem?_of_mem (by have := pl_prs_mem (cv := pcv ad sa) (a0 :: some (.int x) :: tl) 0 1 (.int x) rfl; rwa [Nat.zero_add] at this)
  exact lv_iinc hx hb hdg hl.kit hkq hv hn rfl (fun ls' hl' => kk H locs ls' hP hD hS (pl_put1 (i := 1) (lv := a0 :: some (.int x) :: tl) (v := .int v) hl' (by simp) (pnl_at (i := 0) rfl hnl)))
theorem pb_iinc1N (g : GM Γ y cc nL rt k) {a0 : Option Value} {x : Nat} {tl : List (Option Value)} (hdg : decode cc pc = .ok (.iinc 1 1, 3)) (hn : 1 < nL) (kk : PB Γ (pc + 3) (a0 :: some (.int (nI (x + 1))) :: tl) st h) (hnl : pnl a0 = true := by rfl) : PB Γ pc (a0 :: some (.int (nI x)) :: tl) st h := pb_iinc1 g hdg hn (nI_1 x) kk hnl
theorem pb_iinc2 (g : GM Γ y cc nL rt k) {a0 : Option Value} {a1 : Option Value} {x v : Int32} {n : Int} {tl : List (Option Value)} (hdg : decode cc pc = .ok (.iinc 2 n, 3)) (hn : 2 < nL) (hv : x + Int32.ofInt n = v) (kk : PB Γ (pc + 3) (a0 :: a1 :: some (.int v) :: tl) st h) (hnl : pnl a1 = true := by rfl) : PB Γ pc (a0 :: a1 :: some (.int x) :: tl) st h := by
  obtain ⟨⟨p, l, e, R, s, m⟩, ⟨args, below, meth, c⟩, ⟨D, ta, ad, sa, A⟩, cl, sl, Z⟩ := Γ
  obtain ⟨hx, hb, hml, hr, hlk, hown, hts, hR, hK, hA, hPS⟩ := g
  intro H locs ls hP hD hS hl
  subst hml
  obtain ⟨kq, hkq⟩ := List.getElem?_of_mem (by have := pl_prs_mem (cv := pcv ad sa) (a0 :: a1 :: some (.int x) :: tl) 0 2 (.int x) rfl; rwa [Nat.zero_add] at this)
  exact lv_iinc hx hb hdg hl.kit hkq hv hn rfl (fun ls' hl' => kk H locs ls' hP hD hS (pl_put1 (i := 2) (lv := a0 :: a1 :: some (.int x) :: tl) (v := .int v) hl' (by simp) (pnl_at (i := 1) rfl hnl)))
theorem pb_iinc2N (g : GM Γ y cc nL rt k) {a0 : Option Value} {a1 : Option Value} {x : Nat} {tl : List (Option Value)} (hdg : decode cc pc = .ok (.iinc 2 1, 3)) (hn : 2 < nL) (kk : PB Γ (pc + 3) (a0 :: a1 :: some (.int (nI (x + 1))) :: tl) st h) (hnl : pnl a1 = true := by rfl) : PB Γ pc (a0 :: a1 :: some (.int (nI x)) :: tl) st h := pb_iinc2 g hdg hn (nI_1 x) kk hnl
theorem pb_iinc3 (g : GM Γ y cc nL rt k) {a0 : Option Value} {a1 : Option Value} {a2 : Option Value} {x v : Int32} {n : Int} {tl : List (Option Value)} (hdg : decode cc pc = .ok (.iinc 3 n, 3)) (hn : 3 < nL) (hv : x + Int32.ofInt n = v) (kk : PB Γ (pc + 3) (a0 :: a1 :: a2 :: some (.int v) :: tl) st h) (hnl : pnl a2 = true := by rfl) : PB Γ pc (a0 :: a1 :: a2 :: some (.int x) :: tl) st h := by
  obtain ⟨⟨p, l, e, R, s, m⟩, ⟨args, below, meth, c⟩, ⟨D, ta, ad, sa, A⟩, cl, sl, Z⟩ := Γ
  obtain ⟨hx, hb, hml, hr, hlk, hown, hts, hR, hK, hA, hPS⟩ := g
  intro H locs ls hP hD hS hl
  subst hml
  obtain ⟨kq, hkq⟩ := List.getElem?_of_mem (by have := pl_prs_mem (cv := pcv ad sa) (a0 :: a1 :: a2 :: some (.int x) :: tl) 0 3 (.int x) rfl; rwa [Nat.zero_add] at this)
  exact lv_iinc hx hb hdg hl.kit hkq hv hn rfl (fun ls' hl' => kk H locs ls' hP hD hS (pl_put1 (i := 3) (lv := a0 :: a1 :: a2 :: some (.int x) :: tl) (v := .int v) hl' (by simp) (pnl_at (i := 2) rfl hnl)))
theorem pb_iinc3N (g : GM Γ y cc nL rt k) {a0 : Option Value} {a1 : Option Value} {a2 : Option Value} {x : Nat} {tl : List (Option Value)} (hdg : decode cc pc = .ok (.iinc 3 1, 3)) (hn : 3 < nL) (kk : PB Γ (pc + 3) (a0 :: a1 :: a2 :: some (.int (nI (x + 1))) :: tl) st h) (hnl : pnl a2 = true := by rfl) : PB Γ pc (a0 :: a1 :: a2 :: some (.int (nI x)) :: tl) st h := pb_iinc3 g hdg hn (nI_1 x) kk hnl
theorem pb_iinc4 (g : GM Γ y cc nL rt k) {a0 : Option Value} {a1 : Option Value} {a2 : Option Value} {a3 : Option Value} {x v : Int32} {n : Int} {tl : List (Option Value)} (hdg : decode cc pc = .ok (.iinc 4 n, 3)) (hn : 4 < nL) (hv : x + Int32.ofInt n = v) (kk : PB Γ (pc + 3) (a0 :: a1 :: a2 :: a3 :: some (.int v) :: tl) st h) (hnl : pnl a3 = true := by rfl) : PB Γ pc (a0 :: a1 :: a2 :: a3 :: some (.int x) :: tl) st h := by
  obtain ⟨⟨p, l, e, R, s, m⟩, ⟨args, below, meth, c⟩, ⟨D, ta, ad, sa, A⟩, cl, sl, Z⟩ := Γ
  obtain ⟨hx, hb, hml, hr, hlk, hown, hts, hR, hK, hA, hPS⟩ := g
  intro H locs ls hP hD hS hl
  subst hml
  obtain ⟨kq, hkq⟩ := List.getElem?_of_mem (by have := pl_prs_mem (cv := pcv ad sa) (a0 :: a1 :: a2 :: a3 :: some (.int x) :: tl) 0 4 (.int x) rfl; rwa [Nat.zero_add] at this)
  exact lv_iinc hx hb hdg hl.kit hkq hv hn rfl (fun ls' hl' => kk H locs ls' hP hD hS (pl_put1 (i := 4) (lv := a0 :: a1 :: a2 :: a3 :: some (.int x) :: tl) (v := .int v) hl' (by simp) (pnl_at (i := 3) rfl hnl)))
theorem pb_iinc4N (g : GM Γ y cc nL rt k) {a0 : Option Value} {a1 : Option Value} {a2 : Option Value} {a3 : Option Value} {x : Nat} {tl : List (Option Value)} (hdg : decode cc pc = .ok (.iinc 4 1, 3)) (hn : 4 < nL) (kk : PB Γ (pc + 3) (a0 :: a1 :: a2 :: a3 :: some (.int (nI (x + 1))) :: tl) st h) (hnl : pnl a3 = true := by rfl) : PB Γ pc (a0 :: a1 :: a2 :: a3 :: some (.int (nI x)) :: tl) st h := pb_iinc4 g hdg hn (nI_1 x) kk hnl
theorem pb_iinc5 (g : GM Γ y cc nL rt k) {a0 : Option Value} {a1 : Option Value} {a2 : Option Value} {a3 : Option Value} {a4 : Option Value} {x v : Int32} {n : Int} {tl : List (Option Value)} (hdg : decode cc pc = .ok (.iinc 5 n, 3)) (hn : 5 < nL) (hv : x + Int32.ofInt n = v) (kk : PB Γ (pc + 3) (a0 :: a1 :: a2 :: a3 :: a4 :: some (.int v) :: tl) st h) (hnl : pnl a4 = true := by rfl) : PB Γ pc (a0 :: a1 :: a2 :: a3 :: a4 :: some (.int x) :: tl) st h := by
  obtain ⟨⟨p, l, e, R, s, m⟩, ⟨args, below, meth, c⟩, ⟨D, ta, ad, sa, A⟩, cl, sl, Z⟩ := Γ
  obtain ⟨hx, hb, hml, hr, hlk, hown, hts, hR, hK, hA, hPS⟩ := g
  intro H locs ls hP hD hS hl
  subst hml
  obtain ⟨kq, hkq⟩ := List.getElem?_of_mem (by have := pl_prs_mem (cv := pcv ad sa) (a0 :: a1 :: a2 :: a3 :: a4 :: some (.int x) :: tl) 0 5 (.int x) rfl; rwa [Nat.zero_add] at this)
  exact lv_iinc hx hb hdg hl.kit hkq hv hn rfl (fun ls' hl' => kk H locs ls' hP hD hS (pl_put1 (i := 5) (lv := a0 :: a1 :: a2 :: a3 :: a4 :: some (.int x) :: tl) (v := .int v) hl' (by simp) (pnl_at (i := 4) rfl hnl)))
theorem pb_iinc5N (g : GM Γ y cc nL rt k) {a0 : Option Value} {a1 : Option Value} {a2 : Option Value} {a3 : Option Value} {a4 : Option Value} {x : Nat} {tl : List (Option Value)} (hdg : decode cc pc = .ok (.iinc 5 1, 3)) (hn : 5 < nL) (kk : PB Γ (pc + 3) (a0 :: a1 :: a2 :: a3 :: a4 :: some (.int (nI (x + 1))) :: tl) st h) (hnl : pnl a4 = true := by rfl) : PB Γ pc (a0 :: a1 :: a2 :: a3 :: a4 :: some (.int (nI x)) :: tl) st h := pb_iinc5 g hdg hn (nI_1 x) kk hnl
theorem pb_iinc6 (g : GM Γ y cc nL rt k) {a0 : Option Value} {a1 : Option Value} {a2 : Option Value} {a3 : Option Value} {a4 : Option Value} {a5 : Option Value} {x v : Int32} {n : Int} {tl : List (Option Value)} (hdg : decode cc pc = .ok (.iinc 6 n, 3)) (hn : 6 < nL) (hv : x + Int32.ofInt n = v) (kk : PB Γ (pc + 3) (a0 :: a1 :: a2 :: a3 :: a4 :: a5 :: some (.int v) :: tl) st h) (hnl : pnl a5 = true := by rfl) : PB Γ pc (a0 :: a1 :: a2 :: a3 :: a4 :: a5 :: some (.int x) :: tl) st h := by
  obtain ⟨⟨p, l, e, R, s, m⟩, ⟨args, below, meth, c⟩, ⟨D, ta, ad, sa, A⟩, cl, sl, Z⟩ := Γ
  obtain ⟨hx, hb, hml, hr, hlk, hown, hts, hR, hK, hA, hPS⟩ := g
  intro H locs ls hP hD hS hl
  subst hml
  obtain ⟨kq, hkq⟩ := List.getElem?_of_mem (by have := pl_prs_mem (cv := pcv ad sa) (a0 :: a1 :: a2 :: a3 :: a4 :: a5 :: some (.int x) :: tl) 0 6 (.int x) rfl; rwa [Nat.zero_add] at this)
  exact lv_iinc hx hb hdg hl.kit hkq hv hn rfl (fun ls' hl' => kk H locs ls' hP hD hS (pl_put1 (i := 6) (lv := a0 :: a1 :: a2 :: a3 :: a4 :: a5 :: some (.int x) :: tl) (v := .int v) hl' (by simp) (pnl_at (i := 5) rfl hnl)))
theorem pb_iinc6N (g : GM Γ y cc nL rt k) {a0 : Option Value} {a1 : Option Value} {a2 : Option Value} {a3 : Option Value} {a4 : Option Value} {a5 : Option Value} {x : Nat} {tl : List (Option Value)} (hdg : decode cc pc = .ok (.iinc 6 1, 3)) (hn : 6 < nL) (kk : PB Γ (pc + 3) (a0 :: a1 :: a2 :: a3 :: a4 :: a5 :: some (.int (nI (x + 1))) :: tl) st h) (hnl : pnl a5 = true := by rfl) : PB Γ pc (a0 :: a1 :: a2 :: a3 :: a4 :: a5 :: some (.int (nI x)) :: tl) st h := pb_iinc6 g hdg hn (nI_1 x) kk hnl
theorem pb_iinc7 (g : GM Γ y cc nL rt k) {a0 : Option Value} {a1 : Option Value} {a2 : Option Value} {a3 : Option Value} {a4 : Option Value} {a5 : Option Value} {a6 : Option Value} {x v : Int32} {n : Int} {tl : List (Option Value)} (hdg : decode cc pc = .ok (.iinc 7 n, 3)) (hn : 7 < nL) (hv : x + Int32.ofInt n = v) (kk : PB Γ (pc + 3) (a0 :: a1 :: a2 :: a3 :: a4 :: a5 :: a6 :: some (.int v) :: tl) st h) (hnl : pnl a6 = true := by rfl) : PB Γ pc (a0 :: a1 :: a2 :: a3 :: a4 :: a5 :: a6 :: some (.int x) :: tl) st h := by
  obtain ⟨⟨p, l, e, R, s, m⟩, ⟨args, below, meth, c⟩, ⟨D, ta, ad, sa, A⟩, cl, sl, Z⟩ := Γ
  obtain ⟨hx, hb, hml, hr, hlk, hown, hts, hR, hK, hA, hPS⟩ := g
  intro H locs ls hP hD hS hl
  subst hml
  obtain ⟨kq, hkq⟩ := List.getElem?_of_mem (by have := pl_prs_mem (cv := pcv ad sa) (a0 :: a1 :: a2 :: a3 :: a4 :: a5 :: a6 :: some (.int x) :: tl) 0 7 (.int x) rfl; rwa [Nat.zero_add] at this)
  exact lv_iinc hx hb hdg hl.kit hkq hv hn rfl (fun ls' hl' => kk H locs ls' hP hD hS (pl_put1 (i := 7) (lv := a0 :: a1 :: a2 :: a3 :: a4 :: a5 :: a6 :: some (.int x) :: tl) (v := .int v) hl' (by simp) (pnl_at (i := 6) rfl hnl)))
theorem pb_iinc7N (g : GM Γ y cc nL rt k) {a0 : Option Value} {a1 : Option Value} {a2 : Option Value} {a3 : Option Value} {a4 : Option Value} {a5 : Option Value} {a6 : Option Value} {x : Nat} {tl : List (Option Value)} (hdg : decode cc pc = .ok (.iinc 7 1, 3)) (hn : 7 < nL) (kk : PB Γ (pc + 3) (a0 :: a1 :: a2 :: a3 :: a4 :: a5 :: a6 :: some (.int (nI (x + 1))) :: tl) st h) (hnl : pnl a6 = true := by rfl) : PB Γ pc (a0 :: a1 :: a2 :: a3 :: a4 :: a5 :: a6 :: some (.int (nI x)) :: tl) st h := pb_iinc7 g hdg hn (nI_1 x) kk hnl
theorem pb_iinc8 (g : GM Γ y cc nL rt k) {a0 : Option Value} {a1 : Option Value} {a2 : Option Value} {a3 : Option Value} {a4 : Option Value} {a5 : Option Value} {a6 : Option Value} {a7 : Option Value} {x v : Int32} {n : Int} {tl : List (Option Value)} (hdg : decode cc pc = .ok (.iinc 8 n, 3)) (hn : 8 < nL) (hv : x + Int32.ofInt n = v) (kk : PB Γ (pc + 3) (a0 :: a1 :: a2 :: a3 :: a4 :: a5 :: a6 :: a7 :: some (.int v) :: tl) st h) (hnl : pnl a7 = true := by rfl) : PB Γ pc (a0 :: a1 :: a2 :: a3 :: a4 :: a5 :: a6 :: a7 :: some (.int x) :: tl) st h := by
  obtain ⟨⟨p, l, e, R, s, m⟩, ⟨args, below, meth, c⟩, ⟨D, ta, ad, sa, A⟩, cl, sl, Z⟩ := Γ
  obtain ⟨hx, hb, hml, hr, hlk, hown, hts, hR, hK, hA, hPS⟩ := g
  intro H locs ls hP hD hS hl
  subst hml
  obtain ⟨kq, hkq⟩ := List.getElem?_of_mem (by have := pl_prs_mem (cv := pcv ad sa) (a0 :: a1 :: a2 :: a3 :: a4 :: a5 :: a6 :: a7 :: some (.int x) :: tl) 0 8 (.int x) rfl; rwa [Nat.zero_add] at this)
  exact lv_iinc hx hb hdg hl.kit hkq hv hn rfl (fun ls' hl' => kk H locs ls' hP hD hS (pl_put1 (i := 8) (lv := a0 :: a1 :: a2 :: a3 :: a4 :: a5 :: a6 :: a7 :: some (.int x) :: tl) (v := .int v) hl' (by simp) (pnl_at (i := 7) rfl hnl)))
theorem pb_iinc8N (g : GM Γ y cc nL rt k) {a0 : Option Value} {a1 : Option Value} {a2 : Option Value} {a3 : Option Value} {a4 : Option Value} {a5 : Option Value} {a6 : Option Value} {a7 : Option Value} {x : Nat} {tl : List (Option Value)} (hdg : decode cc pc = .ok (.iinc 8 1, 3)) (hn : 8 < nL) (kk : PB Γ (pc + 3) (a0 :: a1 :: a2 :: a3 :: a4 :: a5 :: a6 :: a7 :: some (.int (nI (x + 1))) :: tl) st h) (hnl : pnl a7 = true := by rfl) : PB Γ pc (a0 :: a1 :: a2 :: a3 :: a4 :: a5 :: a6 :: a7 :: some (.int (nI x)) :: tl) st h := pb_iinc8 g hdg hn (nI_1 x) kk hnl
theorem pb_iinc9 (g : GM Γ y cc nL rt k) {a0 : Option Value} {a1 : Option Value} {a2 : Option Value} {a3 : Option Value} {a4 : Option Value} {a5 : Option Value} {a6 : Option Value} {a7 : Option Value} {a8 : Option Value} {x v : Int32} {n : Int} {tl : List (Option Value)} (hdg : decode cc pc = .ok (.iinc 9 n, 3)) (hn : 9 < nL) (hv : x + Int32.ofInt n = v) (kk : PB Γ (pc + 3) (a0 :: a1 :: a2 :: a3 :: a4 :: a5 :: a6 :: a7 :: a8 :: some (.int v) :: tl) st h) (hnl : pnl a8 = true := by rfl) : PB Γ pc (a0 :: a1 :: a2 :: a3 :: a4 :: a5 :: a6 :: a7 :: a8 :: some (.int x) :: tl) st h := by
  obtain ⟨⟨p, l, e, R, s, m⟩, ⟨args, below, meth, c⟩, ⟨D, ta, ad, sa, A⟩, cl, sl, Z⟩ := Γ
  obtain ⟨hx, hb, hml, hr, hlk, hown, hts, hR, hK, hA, hPS⟩ := g
  intro H locs ls hP hD hS hl
  subst hml
  obtain ⟨kq, hkq⟩ := List.getElem?_of_mem (by have := pl_prs_mem (cv := pcv ad sa) (a0 :: a1 :: a2 :: a3 :: a4 :: a5 :: a6 :: a7 :: a8 :: some (.int x) :: tl) 0 9 (.int x) rfl; rwa [Nat.zero_add] at this)
  exact lv_iinc hx hb hdg hl.kit hkq hv hn rfl (fun ls' hl' => kk H locs ls' hP hD hS (pl_put1 (i := 9) (lv := a0 :: a1 :: a2 :: a3 :: a4 :: a5 :: a6 :: a7 :: a8 :: some (.int x) :: tl) (v := .int v) hl' (by simp) (pnl_at (i := 8) rfl hnl)))
theorem pb_iinc9N (g : GM Γ y cc nL rt k) {a0 : Option Value} {a1 : Option Value} {a2 : Option Value} {a3 : Option Value} {a4 : Option Value} {a5 : Option Value} {a6 : Option Value} {a7 : Option Value} {a8 : Option Value} {x : Nat} {tl : List (Option Value)} (hdg : decode cc pc = .ok (.iinc 9 1, 3)) (hn : 9 < nL) (kk : PB Γ (pc + 3) (a0 :: a1 :: a2 :: a3 :: a4 :: a5 :: a6 :: a7 :: a8 :: some (.int (nI (x + 1))) :: tl) st h) (hnl : pnl a8 = true := by rfl) : PB Γ pc (a0 :: a1 :: a2 :: a3 :: a4 :: a5 :: a6 :: a7 :: a8 :: some (.int (nI x)) :: tl) st h := pb_iinc9 g hdg hn (nI_1 x) kk hnl
theorem pb_iinc10 (g : GM Γ y cc nL rt k) {a0 : Option Value} {a1 : Option Value} {a2 : Option Value} {a3 : Option Value} {a4 : Option Value} {a5 : Option Value} {a6 : Option Value} {a7 : Option Value} {a8 : Option Value} {a9 : Option Value} {x v : Int32} {n : Int} {tl : List (Option Value)} (hdg : decode cc pc = .ok (.iinc 10 n, 3)) (hn : 10 < nL) (hv : x + Int32.ofInt n = v) (kk : PB Γ (pc + 3) (a0 :: a1 :: a2 :: a3 :: a4 :: a5 :: a6 :: a7 :: a8 :: a9 :: some (.int v) :: tl) st h) (hnl : pnl a9 = true := by rfl) : PB Γ pc (a0 :: a1 :: a2 :: a3 :: a4 :: a5 :: a6 :: a7 :: a8 :: a9 :: some (.int x) :: tl) st h := by
  obtain ⟨⟨p, l, e, R, s, m⟩, ⟨args, below, meth, c⟩, ⟨D, ta, ad, sa, A⟩, cl, sl, Z⟩ := Γ
  obtain ⟨hx, hb, hml, hr, hlk, hown, hts, hR, hK, hA, hPS⟩ := g
  intro H locs ls hP hD hS hl
  subst hml
  obtain ⟨kq, hkq⟩ := List.getElem?_of_mem (by have := pl_prs_mem (cv := pcv ad sa) (a0 :: a1 :: a2 :: a3 :: a4 :: a5 :: a6 :: a7 :: a8 :: a9 :: some (.int x) :: tl) 0 10 (.int x) rfl; rwa [Nat.zero_add] at this)
  exact lv_iinc hx hb hdg hl.kit hkq hv hn rfl (fun ls' hl' => kk H locs ls' hP hD hS (pl_put1 (i := 10) (lv := a0 :: a1 :: a2 :: a3 :: a4 :: a5 :: a6 :: a7 :: a8 :: a9 :: some (.int x) :: tl) (v := .int v) hl' (by simp) (pnl_at (i := 9) rfl hnl)))
theorem pb_iinc10N (g : GM Γ y cc nL rt k) {a0 : Option Value} {a1 : Option Value} {a2 : Option Value} {a3 : Option Value} {a4 : Option Value} {a5 : Option Value} {a6 : Option Value} {a7 : Option Value} {a8 : Option Value} {a9 : Option Value} {x : Nat} {tl : List (Option Value)} (hdg : decode cc pc = .ok (.iinc 10 1, 3)) (hn : 10 < nL) (kk : PB Γ (pc + 3) (a0 :: a1 :: a2 :: a3 :: a4 :: a5 :: a6 :: a7 :: a8 :: a9 :: some (.int (nI (x + 1))) :: tl) st h) (hnl : pnl a9 = true := by rfl) : PB Γ pc (a0 :: a1 :: a2 :: a3 :: a4 :: a5 :: a6 :: a7 :: a8 :: a9 :: some (.int (nI x)) :: tl) st h := pb_iinc10 g hdg hn (nI_1 x) kk hnl
theorem pb_iinc11 (g : GM Γ y cc nL rt k) {a0 : Option Value} {a1 : Option Value} {a2 : Option Value} {a3 : Option Value} {a4 : Option Value} {a5 : Option Value} {a6 : Option Value} {a7 : Option Value} {a8 : Option Value} {a9 : Option Value} {a10 : Option Value} {x v : Int32} {n : Int} {tl : List (Option Value)} (hdg : decode cc pc = .ok (.iinc 11 n, 3)) (hn : 11 < nL) (hv : x + Int32.ofInt n = v) (kk : PB Γ (pc + 3) (a0 :: a1 :: a2 :: a3 :: a4 :: a5 :: a6 :: a7 :: a8 :: a9 :: a10 :: some (.int v) :: tl) st h) (hnl : pnl a10 = true := by rfl) : PB Γ pc (a0 :: a1 :: a2 :: a3 :: a4 :: a5 :: a6 :: a7 :: a8 :: a9 :: a10 :: some (.int x) :: tl) st h := by
  obtain ⟨⟨p, l, e, R, s, m⟩, ⟨args, below, meth, c⟩, ⟨D, ta, ad, sa, A⟩, cl, sl, Z⟩ := Γ
  obtain ⟨hx, hb, hml, hr, hlk, hown, hts, hR, hK, hA, hPS⟩ := g
  intro H locs ls hP hD hS hl
  subst hml
  obtain ⟨kq, hkq⟩ := List.getElem?_of_mem (by have := pl_prs_mem (cv := pcv ad sa) (a0 :: a1 :: a2 :: a3 :: a4 :: a5 :: a6 :: a7 :: a8 :: a9 :: a10 :: some (.int x) :: tl) 0 11 (.int x) rfl; rwa [Nat.zero_add] at this)
  exact lv_iinc hx hb hdg hl.kit hkq hv hn rfl (fun ls' hl' => kk H locs ls' hP hD hS (pl_put1 (i := 11) (lv := a0 :: a1 :: a2 :: a3 :: a4 :: a5 :: a6 :: a7 :: a8 :: a9 :: a10 :: some (.int x) :: tl) (v := .int v) hl' (by simp) (pnl_at (i := 10) rfl hnl)))
theorem pb_iinc11N (g : GM Γ y cc nL rt k) {a0 : Option Value} {a1 : Option Value} {a2 : Option Value} {a3 : Option Value} {a4 : Option Value} {a5 : Option Value} {a6 : Option Value} {a7 : Option Value} {a8 : Option Value} {a9 : Option Value} {a10 : Option Value} {x : Nat} {tl : List (Option Value)} (hdg : decode cc pc = .ok (.iinc 11 1, 3)) (hn : 11 < nL) (kk : PB Γ (pc + 3) (a0 :: a1 :: a2 :: a3 :: a4 :: a5 :: a6 :: a7 :: a8 :: a9 :: a10 :: some (.int (nI (x + 1))) :: tl) st h) (hnl : pnl a10 = true := by rfl) : PB Γ pc (a0 :: a1 :: a2 :: a3 :: a4 :: a5 :: a6 :: a7 :: a8 :: a9 :: a10 :: some (.int (nI x)) :: tl) st h := pb_iinc11 g hdg hn (nI_1 x) kk hnl
theorem pb_iinc12 (g : GM Γ y cc nL rt k) {a0 : Option Value} {a1 : Option Value} {a2 : Option Value} {a3 : Option Value} {a4 : Option Value} {a5 : Option Value} {a6 : Option Value} {a7 : Option Value} {a8 : Option Value} {a9 : Option Value} {a10 : Option Value} {a11 : Option Value} {x v : Int32} {n : Int} {tl : List (Option Value)} (hdg : decode cc pc = .ok (.iinc 12 n, 3)) (hn : 12 < nL) (hv : x + Int32.ofInt n = v) (kk : PB Γ (pc + 3) (a0 :: a1 :: a2 :: a3 :: a4 :: a5 :: a6 :: a7 :: a8 :: a9 :: a10 :: a11 :: some (.int v) :: tl) st h) (hnl : pnl a11 = true := by rfl) : PB Γ pc (a0 :: a1 :: a2 :: a3 :: a4 :: a5 :: a6 :: a7 :: a8 :: a9 :: a10 :: a11 :: some (.int x) :: tl) st h := by
  obtain ⟨⟨p, l, e, R, s, m⟩, ⟨args, below, meth, c⟩, ⟨D, ta, ad, sa, A⟩, cl, sl, Z⟩ := Γ
  obtain ⟨hx, hb, hml, hr, hlk, hown, hts, hR, hK, hA, hPS⟩ := g
  intro H locs ls hP hD hS hl
  subst hml
  obtain ⟨kq, hkq⟩ := List.getElem?_of_mem (by have := pl_prs_mem (cv := pcv ad sa) (a0 :: a1 :: a2 :: a3 :: a4 :: a5 :: a6 :: a7 :: a8 :: a9 :: a10 :: a11 :: some (.int x) :: tl) 0 12 (.int x) rfl; rwa [Nat.zero_add] at this)
  exact lv_iinc hx hb hdg hl.kit hkq hv hn rfl (fun ls' hl' => kk H locs ls' hP hD hS (pl_put1 (i := 12) (lv := a0 :: a1 :: a2 :: a3 :: a4 :: a5 :: a6 :: a7 :: a8 :: a9 :: a10 :: a11 :: some (.int x) :: tl) (v := .int v) hl' (by simp) (pnl_at (i := 11) rfl hnl)))
theorem pb_iinc12N (g : GM Γ y cc nL rt k) {a0 : Option Value} {a1 : Option Value} {a2 : Option Value} {a3 : Option Value} {a4 : Option Value} {a5 : Option Value} {a6 : Option Value} {a7 : Option Value} {a8 : Option Value} {a9 : Option Value} {a10 : Option Value} {a11 : Option Value} {x : Nat} {tl : List (Option Value)} (hdg : decode cc pc = .ok (.iinc 12 1, 3)) (hn : 12 < nL) (kk : PB Γ (pc + 3) (a0 :: a1 :: a2 :: a3 :: a4 :: a5 :: a6 :: a7 :: a8 :: a9 :: a10 :: a11 :: some (.int (nI (x + 1))) :: tl) st h) (hnl : pnl a11 = true := by rfl) : PB Γ pc (a0 :: a1 :: a2 :: a3 :: a4 :: a5 :: a6 :: a7 :: a8 :: a9 :: a10 :: a11 :: some (.int (nI x)) :: tl) st h := pb_iinc12 g hdg hn (nI_1 x) kk hnl
theorem pb_iinc13 (g : GM Γ y cc nL rt k) {a0 : Option Value} {a1 : Option Value} {a2 : Option Value} {a3 : Option Value} {a4 : Option Value} {a5 : Option Value} {a6 : Option Value} {a7 : Option Value} {a8 : Option Value} {a9 : Option Value} {a10 : Option Value} {a11 : Option Value} {a12 : Option Value} {x v : Int32} {n : Int} {tl : List (Option Value)} (hdg : decode cc pc = .ok (.iinc 13 n, 3)) (hn : 13 < nL) (hv : x + Int32.ofInt n = v) (kk : PB Γ (pc + 3) (a0 :: a1 :: a2 :: a3 :: a4 :: a5 :: a6 :: a7 :: a8 :: a9 :: a10 :: a11 :: a12 :: some (.int v) :: tl) st h) (hnl : pnl a12 = true := by rfl) : PB Γ pc (a0 :: a1 :: a2 :: a3 :: a4 :: a5 :: a6 :: a7 :: a8 :: a9 :: a10 :: a11 :: a12 :: some (.int x) :: tl) st h := by
  obtain ⟨⟨p, l, e, R, s, m⟩, ⟨args, below, meth, c⟩, ⟨D, ta, ad, sa, A⟩, cl, sl, Z⟩ := Γ
  obtain ⟨hx, hb, hml, hr, hlk, hown, hts, hR, hK, hA, hPS⟩ := g
  intro H locs ls hP hD hS hl
  subst hml
  obtain ⟨kq, hkq⟩ := List.getElem?_of_mem (by have := pl_prs_mem (cv := pcv ad sa) (a0 :: a1 :: a2 :: a3 :: a4 :: a5 :: a6 :: a7 :: a8 :: a9 :: a10 :: a11 :: a12 :: some (.int x) :: tl) 0 13 (.int x) rfl; rwa [Nat.zero_add] at this)
  exact lv_iinc hx hb hdg hl.kit hkq hv hn rfl (fun ls' hl' => kk H locs ls' hP hD hS (pl_put1 (i := 13) (lv := a0 :: a1 :: a2 :: a3 :: a4 :: a5 :: a6 :: a7 :: a8 :: a9 :: a10 :: a11 :: a12 :: some (.int x) :: tl) (v := .int v) hl' (by simp) (pnl_at (i := 12) rfl hnl)))
theorem pb_iinc13N (g : GM Γ y cc nL rt k) {a0 : Option Value} {a1 : Option Value} {a2 : Option Value} {a3 : Option Value} {a4 : Option Value} {a5 : Option Value} {a6 : Option Value} {a7 : Option Value} {a8 : Option Value} {a9 : Option Value} {a10 : Option Value} {a11 : Option Value} {a12 : Option Value} {x : Nat} {tl : List (Option Value)} (hdg : decode cc pc = .ok (.iinc 13 1, 3)) (hn : 13 < nL) (kk : PB Γ (pc + 3) (a0 :: a1 :: a2 :: a3 :: a4 :: a5 :: a6 :: a7 :: a8 :: a9 :: a10 :: a11 :: a12 :: some (.int (nI (x + 1))) :: tl) st h) (hnl : pnl a12 = true := by rfl) : PB Γ pc (a0 :: a1 :: a2 :: a3 :: a4 :: a5 :: a6 :: a7 :: a8 :: a9 :: a10 :: a11 :: a12 :: some (.int (nI x)) :: tl) st h := pb_iinc13 g hdg hn (nI_1 x) kk hnl
end PBS
end
section
/-! ===== the pure machine: fields, arrays, calls, ends ===== -/
theorem tbl_good : ∀ w ∈ lw_g, goodWord w = true := fun w h => (List.mem_filter.mp h).2
theorem tbl_in {y : MethodName} {cc : ByteArray} {nL : Nat} {rt : Option FieldType} (h : Cond.code y cc nL rt ∈ lw_g) : GoodIn lw_g (pws y cc nL rt) := fun w hw => by
  rcases List.mem_cons.mp hw with rfl | hw
  · exact ⟨h, good_of_word (tbl_good _ h)⟩
  · exact ⟨hw, good_of_word (tbl_good _ hw)⟩
/-- a field by its link: class ci of vwCl, place j -/
def PFL (own : String) (idx ci j : Nat) : Prop := ∃ q : vw_C, vwCl[ci]? = some q ∧ (∀ w ∈ u_ws q.1 q.2.1 q.2.2, w ∈ lw_g) ∧ j < q.2.2 ∧ Cond.fieldLink own idx (q.2.1 j).1 (q.2.1 j).2.1 (q.2.1 j).2.2.1 ∈ lw_g
def PFW (own : String) (idx ci j : Nat) : Prop := ∃ q : vw_C, vwCl[ci]? = some q ∧ (∀ w ∈ u_ws q.1 q.2.1 q.2.2, w ∈ lw_g) ∧ j < q.2.2 ∧ Cond.fieldLink own idx (q.2.1 j).1 (q.2.1 j).2.1 (q.2.1 j).2.2.1 ∈ lw_g ∧ (q.2.1 j).2.2.2 = false ∧ parseFieldDescriptor (q.2.1 j).2.2.1 = some .int ∧ (∃ ty0 : Nat → FieldType, ∀ k, k < q.2.2 → parseFieldDescriptor (q.2.1 k).2.2.1 = some (ty0 k)) ∧ ∀ a, a < q.2.2 → ∀ b, b < q.2.2 → a ≠ b → (q.2.1 a).2.1 ≠ (q.2.1 b).2.1
/-- a static table by its link -/
def PSL (own : String) (idx : Nat) (u : UInt32) : Prop := u ∈ ([0, 1, 2, 3] : List UInt32) ∧ (Cond.fieldLink own idx "ShuffleDesk" (psN u) "[I" ∈ lw_g ∨ Cond.fieldLinkNest own idx "ShuffleDesk" (psN u) "[I" "ShuffleDesk" ∈ lw_g)
/-- a call by its link -/
def PCL (own : String) (idx : Nat) (y : MethodName) (cc : ByteArray) (nL : Nat) (rt : Option FieldType) (n : Nat) : Prop := Cond.code y cc nL rt ∈ lw_g ∧ Cond.methodLink own idx y ∈ lw_g ∧ Cond.initialized y.cls ∈ lw_g ∧ (y.cls ≠ "java/lang/invoke/MethodHandle" ∧ y.cls ≠ "java/lang/invoke/VarHandle" ∧ (parseMethodDescriptor y.desc).map (fun d => d.parameters.length) = some n) ∧ nL ≤ 41
def PCS (own : String) (idx : Nat) (y : MethodName) (cc : ByteArray) (nL : Nat) (rt : Option FieldType) (n : Nat) : Prop := PCL own idx y cc nL rt n ∧ Cond.static y ∈ lw_g
def PCV (own : String) (idx : Nat) (y : MethodName) (cc : ByteArray) (nL : Nat) (rt : Option FieldType) (n ci : Nat) : Prop := PCL own idx y cc nL rt n ∧ Cond.instanceMethod y ∈ lw_g ∧ Cond.selects y.cls y y ∈ lw_g ∧ ∃ q : vw_C, vwCl[ci]? = some q ∧ q.1 = y.cls
theorem map_toList {ad : Nat → Nat} {sa : UInt32 → Nat} (r : Option Value) (st : List Value) : (r.map (pcv ad sa)).toList ++ st.map (pcv ad sa) = (r.toList ++ st).map (pcv ad sa) := by
  cases r <;> simp
theorem pcv_sum {ad : Nat → Nat} {sa : UInt32 → Nat} (st : List Value) : ((st.map (pcv ad sa)).map fun v => v.category).sum = (st.map fun v => v.category).sum := by
  rw [List.map_map]
  congr 1
  apply List.map_congr_left
  intro v _
  exact pcv_catE v
section PBH
variable {Γ : GT} {y : MethodName} {cc : ByteArray} {nL : Nat} {rt : Option FieldType} {k pc : Nat} {lv : List (Option Value)} {st : List Value} {h : PH} {Q : Option Value → PH → Prop}
theorem pb_getf (g : GM Γ y cc nL rt k) {idx ci j q : Nat} (hf : PFL y.cls idx ci j) (hdg : decode cc pc = .ok (.getfield idx, 3)) {fs : List Value} {v : Value} (hq : h[q]? = some (pO ci fs)) (hv : fs[j]? = some v) (kk : PB Γ (pc + 3) lv (v :: st) h) : PB Γ pc lv (.ref q :: st) h := by
  obtain ⟨⟨p, l, e, R, s, m⟩, ⟨args, below, meth, c⟩, ⟨D, ta, ad, sa, A⟩, cl, sl, Z⟩ := Γ
  obtain ⟨hx, hb, hml, hr, hlk, hown, hts, hR, hK, hA, hPS⟩ := g
  intro H locs ls hP hD hS hl
  obtain ⟨⟨C, T, N⟩, hc, hin, hj, hlink⟩ := hf
  exact va_get hx hb hts hin hown hK hP q (pcw_get hq) hc j hj (hts _ hlink) (fun _ z => z) (by rw [List.getElem?_map, hv]; rfl) hdg (kk H locs ls hP hD hS hl)
theorem pb_puti (g : GM Γ y cc nL rt k) {idx ci j q : Nat} (hf : PFW y.cls idx ci j) (hdg : decode cc pc = .ok (.putfield idx, 3)) {fs : List Value} {x : Int32} (hq : h[q]? = some (pO ci fs)) (hjl : j < fs.length) (kk : PB Γ (pc + 3) lv st (h.set q (pO ci (fs.set j (.int x))))) : PB Γ pc lv (.int x :: .ref q :: st) h := by
  obtain ⟨⟨p, l, e, R, s, m⟩, ⟨args, below, meth, c⟩, ⟨D, ta, ad, sa, A⟩, cl, sl, Z⟩ := Γ
  obtain ⟨hx, hb, hml, hr, hlk, hown, hts, hR, hK, hA, hPS⟩ := g
  intro H locs ls hP hD hS hl
  obtain ⟨⟨C, T, N⟩, hc, hin, hj, hlink, hfin, hd, ⟨ty0, hty⟩, hnm⟩ := hf
  refine va_put hx hb hts hin ty0 hty hnm hown hK hP hD hS q (pcw_get hq) hc j hj (hts _ hlink) (fun _ z => z) hfin hd rfl rfl (by simpa using hjl) hdg (fun H1 locs1 hP1 hD1 hS1 => ?_)
  have e : pcw ta ad sa (h.set q (pO ci (fs.set j (.int x)))) = (pcw ta ad sa h).set q (ad q, .inr (ci, (fs.map (pcv ad sa)).set j (.int x))) := by
    rw [pcw_set]
    show (pcw ta ad sa h).set q (ad q, .inr (ci, (fs.set j (.int x)).map (pcv ad sa))) = _
    rw [List.map_set]
    rfl
  exact kk H1 locs1 ls (by rw [e]; exact hP1) (by rw [e]; exact hD1) hS1 hl
theorem pb_gets (g : GM Γ y cc nL rt k) {idx : Nat} {u : UInt32} (hf : PSL y.cls idx u) (hdg : decode cc pc = .ok (.getstatic idx, 3)) (kk : PB Γ (pc + 3) lv (.float u :: st) h) : PB Γ pc lv st h := by
  obtain ⟨⟨p, l, e, R, s, m⟩, ⟨args, below, meth, c⟩, ⟨D, ta, ad, sa, A⟩, cl, sl, Z⟩ := Γ
  obtain ⟨hx, hb, hml, hr, hlk, hown, hts, hR, hK, hA, hPS⟩ := g
  intro H locs ls hP hD hS hl
  rcases hf with ⟨hu, hf | hf⟩
  · exact va_gets hx hb (hPS u hu).1 hS hown (hts _ hf) (fun _ z => z) hdg (kk H locs ls hP hD hS hl)
  · exact va_getsN hx hb (hPS u hu).1 hS hown (hts _ hf) (fun _ z => z) hdg (kk H locs ls hP hD hS hl)
theorem pb_ialdS (g : GM Γ y cc nL rt k) {u : UInt32} (hu : u ∈ ([0, 1, 2, 3] : List UInt32)) (hdg : decode cc pc = .ok (.iaload, 1)) {i : Int32} (hin : vp_in i (psV u).length) (kk : PB Γ (pc + 1) lv (.int ((psV u).getD i.toNatClampNeg 0) :: st) h) : PB Γ pc lv (.int i :: .float u :: st) h := by
  obtain ⟨⟨p, l, e, R, s, m⟩, ⟨args, below, meth, c⟩, ⟨D, ta, ad, sa, A⟩, cl, sl, Z⟩ := Γ
  obtain ⟨hx, hb, hml, hr, hlk, hown, hts, hR, hK, hA, hPS⟩ := g
  intro H locs ls hP hD hS hl
  exact va_ti hx hb (hPS u hu).2 hS hin rfl hdg (kk H locs ls hP hD hS hl)
theorem pb_iald (g : GM Γ y cc nL rt k) (hdg : decode cc pc = .ok (.iaload, 1)) {i : Int32} {q n : Nat} {f : Nat → Int32} (hq : h[q]? = some (pI n f)) (hin : vp_in i n) (kk : PB Γ (pc + 1) lv (.int (f i.toNatClampNeg) :: st) h) : PB Γ pc lv (.int i :: .ref q :: st) h := by
  obtain ⟨⟨p, l, e, R, s, m⟩, ⟨args, below, meth, c⟩, ⟨D, ta, ad, sa, A⟩, cl, sl, Z⟩ := Γ
  obtain ⟨hx, hb, hml, hr, hlk, hown, hts, hR, hK, hA, hPS⟩ := g
  intro H locs ls hP hD hS hl
  exact va_iald hx hb hK hP q 0 (pcw_get hq) rfl hin hdg (kk H locs ls hP hD hS hl)
theorem pb_lald (g : GM Γ y cc nL rt k) (hdg : decode cc pc = .ok (.laload, 1)) {i : Int32} {q n : Nat} {f : Nat → Int64} (hq : h[q]? = some (pJ n f)) (hin : vp_in i n) (kk : PB Γ (pc + 1) lv (.long (f i.toNatClampNeg) :: st) h) : PB Γ pc lv (.int i :: .ref q :: st) h := by
  obtain ⟨⟨p, l, e, R, s, m⟩, ⟨args, below, meth, c⟩, ⟨D, ta, ad, sa, A⟩, cl, sl, Z⟩ := Γ
  obtain ⟨hx, hb, hml, hr, hlk, hown, hts, hR, hK, hA, hPS⟩ := g
  intro H locs ls hP hD hS hl
  exact va_lald hx hb hK hP q 1 (pcw_get hq) rfl hin hdg (kk H locs ls hP hD hS hl)
theorem pb_iast (g : GM Γ y cc nL rt k) (hdg : decode cc pc = .ok (.iastore, 1)) {i x : Int32} {q n : Nat} {f : Nat → Int32} (hq : h[q]? = some (pI n f)) (hin : vp_in i n) (kk : PB Γ (pc + 1) lv st (h.set q (pI n (upd f i.toNatClampNeg x)))) : PB Γ pc lv (.int x :: .int i :: .ref q :: st) h := by
  obtain ⟨⟨p, l, e, R, s, m⟩, ⟨args, below, meth, c⟩, ⟨D, ta, ad, sa, A⟩, cl, sl, Z⟩ := Γ
  obtain ⟨hx, hb, hml, hr, hlk, hown, hts, hR, hK, hA, hPS⟩ := g
  intro H locs ls hP hD hS hl
  refine va_iast hx hb hK hP hD hS q 0 (pcw_get hq) rfl hin hdg (fun H1 locs1 hP1 hD1 hS1 => ?_)
  exact kk H1 locs1 ls (by rw [pcw_set]; exact hP1) (by rw [pcw_set]; exact hD1) hS1 hl
theorem pb_last (g : GM Γ y cc nL rt k) (hdg : decode cc pc = .ok (.lastore, 1)) {i : Int32} {x : Int64} {q n : Nat} {f : Nat → Int64} (hq : h[q]? = some (pJ n f)) (hin : vp_in i n) (kk : PB Γ (pc + 1) lv st (h.set q (pJ n (vp_updL f i.toNatClampNeg x)))) : PB Γ pc lv (.long x :: .int i :: .ref q :: st) h := by
  obtain ⟨⟨p, l, e, R, s, m⟩, ⟨args, below, meth, c⟩, ⟨D, ta, ad, sa, A⟩, cl, sl, Z⟩ := Γ
  obtain ⟨hx, hb, hml, hr, hlk, hown, hts, hR, hK, hA, hPS⟩ := g
  intro H locs ls hP hD hS hl
  refine va_last hx hb hK hP hD hS q 1 (pcw_get hq) rfl hin hdg (fun H1 locs1 hP1 hD1 hS1 => ?_)
  exact kk H1 locs1 ls (by rw [pcw_set]; exact hP1) (by rw [pcw_set]; exact hD1) hS1 hl
theorem pb_aald (g : GM Γ y cc nL rt k) (hdg : decode cc pc = .ok (.aaload, 1)) {i : Int32} {q n t z : Nat} {f : Nat → Option Nat} (hq : h[q]? = some (pR n t f)) (ht : t = 2 ∨ t = 3 ∨ t = 4) (hin : vp_in i n) (hz : f i.toNatClampNeg = some z) (kk : PB Γ (pc + 1) lv (.ref z :: st) h) : PB Γ pc lv (.int i :: .ref q :: st) h := by
  obtain ⟨⟨p, l, e, R, s, m⟩, ⟨args, below, meth, c⟩, ⟨D, ta, ad, sa, A⟩, cl, sl, Z⟩ := Γ
  obtain ⟨hx, hb, hml, hr, hlk, hown, hts, hR, hK, hA, hPS⟩ := g
  intro H locs ls hP hD hS hl
  have hlt : i.toNatClampNeg < n := Nat.not_le.mp fun q => hin (Or.inr q)
  obtain ⟨ty, hty, hre⟩ : ∃ ty : FieldType, (ptys ta)[t]? = some (ta t, ty) ∧ ty.isReference = true := by
    rcases ht with rfl | rfl | rfl
    · exact ⟨_, rfl, rfl⟩
    · exact ⟨_, rfl, rfl⟩
    · exact ⟨_, rfl, rfl⟩
  exact W.aald (v := .ref (ad z)) (ty := ty) hx hb (hP q _ (pcw_get hq)) ((hK.2 t _ hty).1 n (fun j => va_rf ((f j).map ad))) hre (fun q => by cases q) (by show ¬ (i < 0 ∨ (arrV _ _ _).slots.size ≤ _); rw [arrV_size]; exact hin) (by show (arrV _ _ _).slots[_]? = _; rw [arrV_read _ _ hlt]; show some (va_rf ((f i.toNatClampNeg).map ad)) = _; rw [hz]; rfl) rfl rfl hdg (kk H locs ls hP hD hS hl)
theorem pb_copy (g : GM Γ y cc nL rt k) {idx : Nat} (hl1 : Cond.methodLink y.cls idx arraycopyName ∈ lw_g) (hl2 : Cond.native arraycopyName ∈ lw_g) (hl3 : Cond.static arraycopyName ∈ lw_g) (hl4 : Cond.initialized "java/lang/System" ∈ lw_g) (hdg : decode cc pc = .ok (.invokestatic idx, 3)) {q0 q1 n0 n1 : Nat} {f fg : Nat → Int32} (h0 : h[q0]? = some (pI n0 f)) (h1 : h[q1]? = some (pI n1 fg)) {sp dp n : Nat} (hs : sp + n ≤ n0) (hd : dp + n ≤ n1) (hb0 : n0 < 2 ^ 31) (hb1 : n1 < 2 ^ 31) (hk : 1 ≤ k) (hw : (st.map fun v => v.category).sum ≤ 8) (kk : PB Γ (pc + 3) lv st (h.set q1 (pI n1 (va_cpy f fg sp dp n)))) : PB Γ pc lv (.int (nI n) :: .int (nI dp) :: .ref q1 :: .int (nI sp) :: .ref q0 :: st) h := by
  obtain ⟨⟨p, l, e, R, s, m⟩, ⟨args, below, meth, c⟩, ⟨D, ta, ad, sa, A⟩, cl, sl, Z⟩ := Γ
  obtain ⟨hx, hb, hml, hr, hlk, hown, hts, hR, hK, hA, hPS⟩ := g
  intro H locs ls hP hD hS hl
  have es : (nI sp).toNatClampNeg = sp := nI_clamp (by omega)
  have ed : (nI dp).toNatClampNeg = dp := nI_clamp (by omega)
  have en : (nI n).toNatClampNeg = n := nI_clamp (by omega)
  have hnat : nativeFrameWords "java/lang/System" "arraycopy" 5 + 11 ≤ 52 := by decide
  refine va_copyi (sp := nI sp) (dp := nI dp) (n := nI n) hx hb hl.1.symm hown (hts _ hl1) (hts _ hl2) (hts _ hl3) (hts _ hl4) hK hP hD hS q0 q1 0 0 (pcw_get h0) (pcw_get h1) rfl rfl rfl (nI_pos (by omega)) (nI_pos (by omega)) (nI_pos (by omega)) (by rw [es, en]; exact hs) (by rw [ed, en]; exact hd) (fun i _ => rfl) (by omega) (Nat.le_trans (Nat.add_le_add (by rw [pcv_sum]; exact hw) hnat) (by omega)) hdg (fun H1 locs1 hP1 hD1 hS1 => ?_)
  rw [es, ed, en] at hP1 hD1
  exact kk H1 locs1 ls (by rw [pcw_set]; exact hP1) (by rw [pcw_set]; exact hD1) hS1 hl
theorem pb_ldc (g : GM Γ y cc nL rt k) {idx : Nat} {v : Int32} (hc : Cond.constant y.cls idx v ∈ lw_g) (hdg : decode cc pc = .ok (.ldc idx, 2)) (kk : PB Γ (pc + 2) lv (.int v :: st) h) : PB Γ pc lv st h := by
  obtain ⟨⟨p, l, e, R, s, m⟩, ⟨args, below, meth, c⟩, ⟨D, ta, ad, sa, A⟩, cl, sl, Z⟩ := Γ
  obtain ⟨hx, hb, hml, hr, hlk, hown, hts, hR, hK, hA, hPS⟩ := g
  intro H locs ls hP hD hS hl
  exact lv_ldc hx hb hown (hts _ hc) hdg (kk H locs ls hP hD hS hl)
theorem pb_ldc2 (g : GM Γ y cc nL rt k) {idx : Nat} {v : Int64} (hc : Cond.constantLong y.cls idx v ∈ lw_g) (hdg : decode cc pc = .ok (.ldc2_w idx, 3)) (kk : PB Γ (pc + 3) lv (.long v :: st) h) : PB Γ pc lv st h := by
  obtain ⟨⟨p, l, e, R, s, m⟩, ⟨args, below, meth, c⟩, ⟨D, ta, ad, sa, A⟩, cl, sl, Z⟩ := Γ
  obtain ⟨hx, hb, hml, hr, hlk, hown, hts, hR, hK, hA, hPS⟩ := g
  intro H locs ls hP hD hS hl
  exact lv_ldc2 hx hb hown (hts _ hc) hdg (kk H locs ls hP hD hS hl)
theorem pb_iret (g : GM Γ y cc nL (some .int) k) (z : GZ Γ Q) (hdg : decode cc pc = .ok (.ireturn, 1)) {v : Int32} (hq : Q (some (.int v)) h) : PB Γ pc lv [.int v] h := by
  obtain ⟨⟨p, l, e, R, s, m⟩, ⟨args, below, meth, c⟩, ⟨D, ta, ad, sa, A⟩, cl, sl, Z⟩ := Γ
  obtain ⟨hx, hb, hml, hr, hlk, hown, hts, hR, hK, hA, hPS⟩ := g
  intro H locs ls hP hD hS hl
  have z' : Z = MQ below (PQ D ta ad sa A Q) args s cl sl A := z
  subst z'
  exact W.iret hx hb hr (fun t ht hW => ⟨⟨some (.int v), h, rfl, hq, by rw [ht]; exact hP, va_K.moved hW.alike hK, hD⟩, hS.F ht⟩) hS.2.2 hdg hlk
theorem pb_zret (g : GM Γ y cc nL (some .boolean) k) (z : GZ Γ Q) (hdg : decode cc pc = .ok (.ireturn, 1)) {v : Int32} (hv : narrow .boolean (.int v) = .int v) (hq : Q (some (.int v)) h) : PB Γ pc lv [.int v] h := by
  obtain ⟨⟨p, l, e, R, s, m⟩, ⟨args, below, meth, c⟩, ⟨D, ta, ad, sa, A⟩, cl, sl, Z⟩ := Γ
  obtain ⟨hx, hb, hml, hr, hlk, hown, hts, hR, hK, hA, hPS⟩ := g
  intro H locs ls hP hD hS hl
  have z' : Z = MQ below (PQ D ta ad sa A Q) args s cl sl A := z
  subst z'
  exact W.zret hx hb hr hv (fun t ht hW => ⟨⟨some (.int v), h, rfl, hq, by rw [ht]; exact hP, va_K.moved hW.alike hK, hD⟩, hS.F ht⟩) hS.2.2 hdg hlk
theorem pb_lret (g : GM Γ y cc nL (some .long) k) (z : GZ Γ Q) (hdg : decode cc pc = .ok (.lreturn, 1)) {v : Int64} (hq : Q (some (.long v)) h) : PB Γ pc lv [.long v] h := by
  obtain ⟨⟨p, l, e, R, s, m⟩, ⟨args, below, meth, c⟩, ⟨D, ta, ad, sa, A⟩, cl, sl, Z⟩ := Γ
  obtain ⟨hx, hb, hml, hr, hlk, hown, hts, hR, hK, hA, hPS⟩ := g
  intro H locs ls hP hD hS hl
  have z' : Z = MQ below (PQ D ta ad sa A Q) args s cl sl A := z
  subst z'
  exact W.lret hx hb hr (fun t ht hW => ⟨⟨some (.long v), h, rfl, hq, by rw [ht]; exact hP, va_K.moved hW.alike hK, hD⟩, hS.F ht⟩) hS.2.2 hdg hlk
theorem pb_vret (g : GM Γ y cc nL none k) (z : GZ Γ Q) (hdg : decode cc pc = .ok (.return_, 1)) (hq : Q none h) : PB Γ pc lv [] h := by
  obtain ⟨⟨p, l, e, R, s, m⟩, ⟨args, below, meth, c⟩, ⟨D, ta, ad, sa, A⟩, cl, sl, Z⟩ := Γ
  obtain ⟨hx, hb, hml, hr, hlk, hown, hts, hR, hK, hA, hPS⟩ := g
  intro H locs ls hP hD hS hl
  have z' : Z = MQ below (PQ D ta ad sa A Q) args s cl sl A := z
  subst z'
  exact W.vret hx hb hr (fun t ht hW => ⟨⟨none, h, rfl, hq, by rw [ht]; exact hP, va_K.moved hW.alike hK, hD⟩, hS.F ht⟩) hS.2.2 hdg hlk
/-- the callee's start out of the caller's state -/
theorem pre_of {D : va_G} {ta : Nat → ClassId} {ad : Nat → Nat} {sa : UInt32 → Nat} {A : Nat → Prop} {s : State} {H : Heap} {locs : List Loc} {av : List Value} (hP : va_P D vwCl (pcw ta ad sa h) H) (hD : va_D A (pcw ta ad sa h)) (hS : va_S A s.heap H locs) (hK : va_K D vwCl (ptys ta) s) (hA : ∀ q, s.heap.size ≤ q → A q) (hPS : PS sa A s s.heap) :
    PreS s H (va_Pc (av.map (pcv ad sa)) (pst D ta ad sa h H.size)) (av.map (pcv ad sa)) := by
  refine ⟨fun a U g mk q => ?_, fun U hU hW => ?_⟩
  · obtain ⟨q0, q1, qP, qK, qD, qS⟩ := q
    exact ⟨q0, q1, qP, va_K.moved (u := U) (U := U.calling g mk a) (Vm.Alike.refl U.vm) qK, qD, PS.moved (u := U) (U := U.calling g mk a) (Vm.Alike.refl U.vm) qS⟩
  · have hsub : ∀ q, va_A (pcw ta ad sa h) H.size q → A q := fun q hq => by
      rcases hq with ⟨k0, e0, hk0⟩ | hq
      · exact hD.2 k0 _ hk0
      · exact hA q (Nat.le_trans hS.1 hq)
    refine ⟨rfl, by rw [hU], by rw [hU]; exact hP, va_K.moved hW.alike hK, hD.weaken (fun _ _ _ _ => trivial), ?_⟩
    rw [hU]
    exact PS.moved hW.alike ((PS.kept hPS hS.2.1).narrow hsub)
theorem pb_core {p : Program} {l : Launch} {e : Env} {R : Room} {s : State} {m : MethodId} {args : Array Value} {below : List Frame} {meth : Method} {c : Code} {D : va_G} {ta : Nat → ClassId} {ad : Nat → Nat} {sa : UInt32 → Nat} {A : Nat → Prop} {cl sl : Nat} {Z : State → Prop} {H : Heap} {locs : List Loc} {ls : Array Slot} {st0 : List Value} {a : Array Value} {Q' : Option Value → PH → Prop}
    (hr : va_Run p l e R s m args below meth c H locs cl sl 0 0 (F0 m pc ls st0) (st.map (pcv ad sa)) (PQ D ta ad sa (va_A (pcw ta ad sa h) H.size) Q' a) (va_A (pcw ta ad sa h) H.size)) (hD : va_D A (pcw ta ad sa h)) (hS : va_S A s.heap H locs) (hA : ∀ q, s.heap.size ≤ q → A q) (hl : pl_has (pcv ad sa) ls c.maxLocals lv)
    (kk : ∀ (r : Option Value) (h' : PH), Q' r h' → PB ((p, l, e, R, s, m), (args, below, meth, c), (D, ta, ad, sa, A), cl, sl, Z) (pc + 3) lv (r.toList ++ st) h') : W p l e R s m args below meth c H locs cl sl Z (F0 m pc ls st0) := by
  have hsub : ∀ q, va_A (pcw ta ad sa h) H.size q → A q := fun q hq => by
    rcases hq with ⟨k0, e0, hk0⟩ | hq
    · exact hD.2 k0 _ hk0
    · exact hA q (Nat.le_trans hS.1 hq)
  intro T hT X
  obtain ⟨v, st₀, t, T', L, h0, X', hL, e1, e2, ⟨⟨r, h', hv, hq, hP1, hK1, hD1⟩, hz, hk⟩, stp⟩ := hr T hT X
  have hv' : v = r.map (pcv ad sa) := by
    injection hv
  subst hv'
  rw [h0] at hz hk
  obtain ⟨t2, a1, b1⟩ := kk r h' hq T'.heap (locs ++ L) ls (by rw [e1]; exact hP1) (hD1.weaken (fun _ q _ z => hsub q.1 z))
    ⟨Nat.le_trans hS.1 (by rw [e1]; exact hz), fun q h1 h2 => by rw [e1, hk q (Nat.lt_of_lt_of_le h1 hS.1) (fun z => h2 (hsub q z))]; exact hS.2.1 q h1 h2, fun q hq => by
      rcases List.mem_append.mp hq with h | h
      · exact hS.2.2 q h
      · exact hsub _ (hL q h)⟩ hl T' rfl X'
  refine ⟨t2, stp t2 ?_, b1⟩
  rw [map_toList]
  exact a1
theorem pb_callS (g : GM Γ y cc nL rt k) {y' : MethodName} {cc' : ByteArray} {nL' n idx : Nat} {rt' : Option FieldType} {Q' : Option Value → PH → Prop} (hC : PCS y.cls idx y' cc' nL' rt' n) (hdg : decode cc pc = .ok (.invokestatic idx, 3)) (k' : Nat) (hk : k' + 1 ≤ k) (av : List Value) (hn : av.length = n) (hw : (st.map fun v => v.category).sum ≤ 8) (hrun : Runs y' cc' nL' rt' k' av h Q') (kk : ∀ (r : Option Value) (h' : PH), Q' r h' → PB Γ (pc + 3) lv (r.toList ++ st) h') : PB Γ pc lv (av.reverse ++ st) h := by
  obtain ⟨⟨p, l, e, R, s, m⟩, ⟨args, below, meth, c⟩, ⟨D, ta, ad, sa, A⟩, cl, sl, Z⟩ := Γ
  obtain ⟨hx, hb, hml, hr, hlk, hown, hts, hR, hK, hA, hPS⟩ := g
  intro H locs ls hP hD hS hl
  obtain ⟨⟨c1, c2, c3, c4, c5⟩, c6⟩ := hC
  refine pb_core (h := h) (st := st) (va_runS (As := av.map (pcv ad sa)) (n := n) ⟨hx, hb, hml, hown, hts⟩ (hrun l D ta ad sa H.size) ⟨callB_of n hts (tbl_in c1) rfl rfl rfl (hts _ c3) (hts _ c2) c4 ⟨by show k' + 1 ≤ _; omega, by show 8 + (nL' + 11) + 60 * k' ≤ _; omega⟩, hts _ c6⟩ (pre_of hP hD hS hK hA hPS) rfl (by simpa using hn) (by rw [← hml]; exact hl.1) (by simp) (lv_room (by rw [pcv_sum]; exact hw)) hdg ⟨by omega, by omega⟩) hD hS hA hl kk
theorem pb_callV (g : GM Γ y cc nL rt k) {y' : MethodName} {cc' : ByteArray} {nL' n idx ci q : Nat} {rt' : Option FieldType} {Q' : Option Value → PH → Prop} (hC : PCV y.cls idx y' cc' nL' rt' n ci) (hdg : decode cc pc = .ok (.invokevirtual idx, 3)) (k' : Nat) (hk : k' + 1 ≤ k) (av : List Value) (hn : av.length = n) (hw : (st.map fun v => v.category).sum ≤ 8) {fs : List Value} (hq : h[q]? = some (pO ci fs)) (hrun : Runs y' cc' nL' rt' k' (.ref q :: av) h Q') (kk : ∀ (r : Option Value) (h' : PH), Q' r h' → PB Γ (pc + 3) lv (r.toList ++ st) h') : PB Γ pc lv (av.reverse ++ .ref q :: st) h := by
  obtain ⟨⟨p, l, e, R, s, m⟩, ⟨args, below, meth, c⟩, ⟨D, ta, ad, sa, A⟩, cl, sl, Z⟩ := Γ
  obtain ⟨hx, hb, hml, hr, hlk, hown, hts, hR, hK, hA, hPS⟩ := g
  intro H locs ls hP hD hS hl
  obtain ⟨⟨c1, c2, c3, c4, c5⟩, c6, c7, ⟨C, T, N⟩, c8, c9⟩ := hC
  have hp := pre_of (av := .ref q :: av) hP hD hS hK hA hPS
  have hrec := va_recv hK hP c8 (pcw_get hq)
  have e9 : C = y'.cls := c9
  subst e9
  refine pb_core (h := h) (st := st) (va_runV (C := y'.cls) (As := av.map (pcv ad sa)) (b := ad q) (n := n) ⟨hx, hb, hml, hown, hts⟩ (hrun l D ta ad sa H.size) ⟨callB_of n hts (tbl_in c1) rfl rfl rfl (hts _ c3) (hts _ c2) c4 ⟨by show k' + 1 ≤ _; omega, by show 8 + (nL' + 11) + 60 * k' ≤ _; omega⟩, hts _ c6, hts _ c7⟩ ⟨hp.1, hrec, hp.2⟩ rfl (by simpa using hn) (by rw [← hml]; exact hl.1) (by simp [pcv]) (lv_room (by rw [pcv_sum]; exact hw)) hdg ⟨by omega, by omega⟩) hD hS hA hl kk
theorem pb_ialdN (g : GM Γ y cc nL rt k) (hdg : decode cc pc = .ok (.iaload, 1)) {i q n : Nat} {f : Nat → Int32} (hq : h[q]? = some (pI n f)) (hi : i < n) (hn : n < 2 ^ 31) (kk : PB Γ (pc + 1) lv (.int (f i) :: st) h) : PB Γ pc lv (.int (nI i) :: .ref q :: st) h := pb_iald g hdg hq (vp_in_nI hi hn) (by rw [nI_clamp (Nat.lt_trans hi hn)]; exact kk)
theorem pb_ialdSN (g : GM Γ y cc nL rt k) {u : UInt32} (hu : u ∈ ([0, 1, 2, 3] : List UInt32)) (hdg : decode cc pc = .ok (.iaload, 1)) {i : Nat} (hi : i < (psV u).length) (hn : (psV u).length < 2 ^ 31) (kk : PB Γ (pc + 1) lv (.int ((psV u).getD i 0) :: st) h) : PB Γ pc lv (.int (nI i) :: .float u :: st) h := pb_ialdS g hu hdg (vp_in_nI hi hn) (by rw [nI_clamp (Nat.lt_trans hi hn)]; exact kk)
theorem pb_laldN (g : GM Γ y cc nL rt k) (hdg : decode cc pc = .ok (.laload, 1)) {i q n : Nat} {f : Nat → Int64} (hq : h[q]? = some (pJ n f)) (hi : i < n) (hn : n < 2 ^ 31) (kk : PB Γ (pc + 1) lv (.long (f i) :: st) h) : PB Γ pc lv (.int (nI i) :: .ref q :: st) h := pb_lald g hdg hq (vp_in_nI hi hn) (by rw [nI_clamp (Nat.lt_trans hi hn)]; exact kk)
theorem pb_iastN (g : GM Γ y cc nL rt k) (hdg : decode cc pc = .ok (.iastore, 1)) {i q n : Nat} {x : Int32} {f : Nat → Int32} (hq : h[q]? = some (pI n f)) (hi : i < n) (hn : n < 2 ^ 31) (kk : PB Γ (pc + 1) lv st (h.set q (pI n (upd f i x)))) : PB Γ pc lv (.int x :: .int (nI i) :: .ref q :: st) h := pb_iast g hdg hq (vp_in_nI hi hn) (by rw [nI_clamp (Nat.lt_trans hi hn)]; exact kk)
theorem pb_lastN (g : GM Γ y cc nL rt k) (hdg : decode cc pc = .ok (.lastore, 1)) {i q n : Nat} {x : Int64} {f : Nat → Int64} (hq : h[q]? = some (pJ n f)) (hi : i < n) (hn : n < 2 ^ 31) (kk : PB Γ (pc + 1) lv st (h.set q (pJ n (vp_updL f i x)))) : PB Γ pc lv (.long x :: .int (nI i) :: .ref q :: st) h := pb_last g hdg hq (vp_in_nI hi hn) (by rw [nI_clamp (Nat.lt_trans hi hn)]; exact kk)
theorem pb_aaldN (g : GM Γ y cc nL rt k) (hdg : decode cc pc = .ok (.aaload, 1)) {i q n t z : Nat} {f : Nat → Option Nat} (hq : h[q]? = some (pR n t f)) (ht : t = 2 ∨ t = 3 ∨ t = 4) (hi : i < n) (hn : n < 2 ^ 31) (hz : f i = some z) (kk : PB Γ (pc + 1) lv (.ref z :: st) h) : PB Γ pc lv (.int (nI i) :: .ref q :: st) h := pb_aald g hdg hq ht (vp_in_nI hi hn) (by rw [nI_clamp (Nat.lt_trans hi hn)]; exact hz) kk
theorem pb_Si0 (g : GM Γ y cc nL rt k) {y' : MethodName} {cc' : ByteArray} {nL' idx : Nat} {rt' : Option FieldType} {Qi : Int32 → PH → Prop} (hC : PCS y.cls idx y' cc' nL' rt' 0) (hdg : decode cc pc = .ok (.invokestatic idx, 3)) (k' : Nat) (hk : k' + 1 ≤ k) (hrun : Runs y' cc' nL' rt' k' [] h (fun o h' => ∃ r : Int32, o = some (.int r) ∧ Qi r h')) (kk : ∀ (r : Int32) (h' : PH), Qi r h' → PB Γ (pc + 3) lv (.int r :: st) h') (hw : (st.map fun v => v.category).sum ≤ 8 := by decide) : PB Γ pc lv (st) h := pb_callS g hC hdg k' hk [] rfl hw hrun (fun o h' hq => by obtain ⟨r, rfl, hq⟩ := hq; exact kk r h' hq)
theorem pb_Vi0 (g : GM Γ y cc nL rt k) {y' : MethodName} {cc' : ByteArray} {nL' idx ci q : Nat} {rt' : Option FieldType} {Qi : Int32 → PH → Prop} (hC : PCV y.cls idx y' cc' nL' rt' 0 ci) (hdg : decode cc pc = .ok (.invokevirtual idx, 3)) (k' : Nat) (hk : k' + 1 ≤ k) {fs : List Value} (hq : h[q]? = some (pO ci fs)) (hrun : Runs y' cc' nL' rt' k' (.ref q :: []) h (fun o h' => ∃ r : Int32, o = some (.int r) ∧ Qi r h')) (kk : ∀ (r : Int32) (h' : PH), Qi r h' → PB Γ (pc + 3) lv (.int r :: st) h') (hw : (st.map fun v => v.category).sum ≤ 8 := by decide) : PB Γ pc lv (.ref q :: st) h := pb_callV g hC hdg k' hk [] rfl hw hq hrun (fun o h' hq => by obtain ⟨r, rfl, hq⟩ := hq; exact kk r h' hq)
theorem pb_Sl0 (g : GM Γ y cc nL rt k) {y' : MethodName} {cc' : ByteArray} {nL' idx : Nat} {rt' : Option FieldType} {Qi : Int64 → PH → Prop} (hC : PCS y.cls idx y' cc' nL' rt' 0) (hdg : decode cc pc = .ok (.invokestatic idx, 3)) (k' : Nat) (hk : k' + 1 ≤ k) (hrun : Runs y' cc' nL' rt' k' [] h (fun o h' => ∃ r : Int64, o = some (.long r) ∧ Qi r h')) (kk : ∀ (r : Int64) (h' : PH), Qi r h' → PB Γ (pc + 3) lv (.long r :: st) h') (hw : (st.map fun v => v.category).sum ≤ 8 := by decide) : PB Γ pc lv (st) h := pb_callS g hC hdg k' hk [] rfl hw hrun (fun o h' hq => by obtain ⟨r, rfl, hq⟩ := hq; exact kk r h' hq)
theorem pb_Vl0 (g : GM Γ y cc nL rt k) {y' : MethodName} {cc' : ByteArray} {nL' idx ci q : Nat} {rt' : Option FieldType} {Qi : Int64 → PH → Prop} (hC : PCV y.cls idx y' cc' nL' rt' 0 ci) (hdg : decode cc pc = .ok (.invokevirtual idx, 3)) (k' : Nat) (hk : k' + 1 ≤ k) {fs : List Value} (hq : h[q]? = some (pO ci fs)) (hrun : Runs y' cc' nL' rt' k' (.ref q :: []) h (fun o h' => ∃ r : Int64, o = some (.long r) ∧ Qi r h')) (kk : ∀ (r : Int64) (h' : PH), Qi r h' → PB Γ (pc + 3) lv (.long r :: st) h') (hw : (st.map fun v => v.category).sum ≤ 8 := by decide) : PB Γ pc lv (.ref q :: st) h := pb_callV g hC hdg k' hk [] rfl hw hq hrun (fun o h' hq => by obtain ⟨r, rfl, hq⟩ := hq; exact kk r h' hq)
theorem pb_Sv0 (g : GM Γ y cc nL rt k) {y' : MethodName} {cc' : ByteArray} {nL' idx : Nat} {rt' : Option FieldType} {Qi : PH → Prop} (hC : PCS y.cls idx y' cc' nL' rt' 0) (hdg : decode cc pc = .ok (.invokestatic idx, 3)) (k' : Nat) (hk : k' + 1 ≤ k) (hrun : Runs y' cc' nL' rt' k' [] h (fun o h' => o = none ∧ Qi h')) (kk : ∀ (h' : PH), Qi h' → PB Γ (pc + 3) lv st h') (hw : (st.map fun v => v.category).sum ≤ 8 := by decide) : PB Γ pc lv (st) h := pb_callS g hC hdg k' hk [] rfl hw hrun (fun o h' hq => by obtain ⟨rfl, hq⟩ := hq; exact kk h' hq)
theorem pb_Vv0 (g : GM Γ y cc nL rt k) {y' : MethodName} {cc' : ByteArray} {nL' idx ci q : Nat} {rt' : Option FieldType} {Qi : PH → Prop} (hC : PCV y.cls idx y' cc' nL' rt' 0 ci) (hdg : decode cc pc = .ok (.invokevirtual idx, 3)) (k' : Nat) (hk : k' + 1 ≤ k) {fs : List Value} (hq : h[q]? = some (pO ci fs)) (hrun : Runs y' cc' nL' rt' k' (.ref q :: []) h (fun o h' => o = none ∧ Qi h')) (kk : ∀ (h' : PH), Qi h' → PB Γ (pc + 3) lv st h') (hw : (st.map fun v => v.category).sum ≤ 8 := by decide) : PB Γ pc lv (.ref q :: st) h := pb_callV g hC hdg k' hk [] rfl hw hq hrun (fun o h' hq => by obtain ⟨rfl, hq⟩ := hq; exact kk h' hq)
theorem pb_Si1 (g : GM Γ y cc nL rt k) {y' : MethodName} {cc' : ByteArray} {nL' idx : Nat} {rt' : Option FieldType} {v0 : Value} {Qi : Int32 → PH → Prop} (hC : PCS y.cls idx y' cc' nL' rt' 1) (hdg : decode cc pc = .ok (.invokestatic idx, 3)) (k' : Nat) (hk : k' + 1 ≤ k) (hrun : Runs y' cc' nL' rt' k' [v0] h (fun o h' => ∃ r : Int32, o = some (.int r) ∧ Qi r h')) (kk : ∀ (r : Int32) (h' : PH), Qi r h' → PB Γ (pc + 3) lv (.int r :: st) h') (hw : (st.map fun v => v.category).sum ≤ 8 := by decide) : PB Γ pc lv (v0 :: st) h := pb_callS g hC hdg k' hk [v0] rfl hw hrun (fun o h' hq => by obtain ⟨r, rfl, hq⟩ := hq; exact kk r h' hq)
theorem pb_Vi1 (g : GM Γ y cc nL rt k) {y' : MethodName} {cc' : ByteArray} {nL' idx ci q : Nat} {rt' : Option FieldType} {v0 : Value} {Qi : Int32 → PH → Prop} (hC : PCV y.cls idx y' cc' nL' rt' 1 ci) (hdg : decode cc pc = .ok (.invokevirtual idx, 3)) (k' : Nat) (hk : k' + 1 ≤ k) {fs : List Value} (hq : h[q]? = some (pO ci fs)) (hrun : Runs y' cc' nL' rt' k' (.ref q :: [v0]) h (fun o h' => ∃ r : Int32, o = some (.int r) ∧ Qi r h')) (kk : ∀ (r : Int32) (h' : PH), Qi r h' → PB Γ (pc + 3) lv (.int r :: st) h') (hw : (st.map fun v => v.category).sum ≤ 8 := by decide) : PB Γ pc lv (v0 :: .ref q :: st) h := pb_callV g hC hdg k' hk [v0] rfl hw hq hrun (fun o h' hq => by obtain ⟨r, rfl, hq⟩ := hq; exact kk r h' hq)
theorem pb_Sl1 (g : GM Γ y cc nL rt k) {y' : MethodName} {cc' : ByteArray} {nL' idx : Nat} {rt' : Option FieldType} {v0 : Value} {Qi : Int64 → PH → Prop} (hC : PCS y.cls idx y' cc' nL' rt' 1) (hdg : decode cc pc = .ok (.invokestatic idx, 3)) (k' : Nat) (hk : k' + 1 ≤ k) (hrun : Runs y' cc' nL' rt' k' [v0] h (fun o h' => ∃ r : Int64, o = some (.long r) ∧ Qi r h')) (kk : ∀ (r : Int64) (h' : PH), Qi r h' → PB Γ (pc + 3) lv (.long r :: st) h') (hw : (st.map fun v => v.category).sum ≤ 8 := by decide) : PB Γ pc lv (v0 :: st) h := pb_callS g hC hdg k' hk [v0] rfl hw hrun (fun o h' hq => by obtain ⟨r, rfl, hq⟩ := hq; exact kk r h' hq)
theorem pb_Vl1 (g : GM Γ y cc nL rt k) {y' : MethodName} {cc' : ByteArray} {nL' idx ci q : Nat} {rt' : Option FieldType} {v0 : Value} {Qi : Int64 → PH → Prop} (hC : PCV y.cls idx y' cc' nL' rt' 1 ci) (hdg : decode cc pc = .ok (.invokevirtual idx, 3)) (k' : Nat) (hk : k' + 1 ≤ k) {fs : List Value} (hq : h[q]? = some (pO ci fs)) (hrun : Runs y' cc' nL' rt' k' (.ref q :: [v0]) h (fun o h' => ∃ r : Int64, o = some (.long r) ∧ Qi r h')) (kk : ∀ (r : Int64) (h' : PH), Qi r h' → PB Γ (pc + 3) lv (.long r :: st) h') (hw : (st.map fun v => v.category).sum ≤ 8 := by decide) : PB Γ pc lv (v0 :: .ref q :: st) h := pb_callV g hC hdg k' hk [v0] rfl hw hq hrun (fun o h' hq => by obtain ⟨r, rfl, hq⟩ := hq; exact kk r h' hq)
theorem pb_Sv1 (g : GM Γ y cc nL rt k) {y' : MethodName} {cc' : ByteArray} {nL' idx : Nat} {rt' : Option FieldType} {v0 : Value} {Qi : PH → Prop} (hC : PCS y.cls idx y' cc' nL' rt' 1) (hdg : decode cc pc = .ok (.invokestatic idx, 3)) (k' : Nat) (hk : k' + 1 ≤ k) (hrun : Runs y' cc' nL' rt' k' [v0] h (fun o h' => o = none ∧ Qi h')) (kk : ∀ (h' : PH), Qi h' → PB Γ (pc + 3) lv st h') (hw : (st.map fun v => v.category).sum ≤ 8 := by decide) : PB Γ pc lv (v0 :: st) h := pb_callS g hC hdg k' hk [v0] rfl hw hrun (fun o h' hq => by obtain ⟨rfl, hq⟩ := hq; exact kk h' hq)
theorem pb_Vv1 (g : GM Γ y cc nL rt k) {y' : MethodName} {cc' : ByteArray} {nL' idx ci q : Nat} {rt' : Option FieldType} {v0 : Value} {Qi : PH → Prop} (hC : PCV y.cls idx y' cc' nL' rt' 1 ci) (hdg : decode cc pc = .ok (.invokevirtual idx, 3)) (k' : Nat) (hk : k' + 1 ≤ k) {fs : List Value} (hq : h[q]? = some (pO ci fs)) (hrun : Runs y' cc' nL' rt' k' (.ref q :: [v0]) h (fun o h' => o = none ∧ Qi h')) (kk : ∀ (h' : PH), Qi h' → PB Γ (pc + 3) lv st h') (hw : (st.map fun v => v.category).sum ≤ 8 := by decide) : PB Γ pc lv (v0 :: .ref q :: st) h := pb_callV g hC hdg k' hk [v0] rfl hw hq hrun (fun o h' hq => by obtain ⟨rfl, hq⟩ := hq; exact kk h' hq)
theorem pb_Si2 (g : GM Γ y cc nL rt k) {y' : MethodName} {cc' : ByteArray} {nL' idx : Nat} {rt' : Option FieldType} {v0 v1 : Value} {Qi : Int32 → PH → Prop} (hC : PCS y.cls idx y' cc' nL' rt' 2) (hdg : decode cc pc = .ok (.invokestatic idx, 3)) (k' : Nat) (hk : k' + 1 ≤ k) (hrun : Runs y' cc' nL' rt' k' [v0, v1] h (fun o h' => ∃ r : Int32, o = some (.int r) ∧ Qi r h')) (kk : ∀ (r : Int32) (h' : PH), Qi r h' → PB Γ (pc + 3) lv (.int r :: st) h') (hw : (st.map fun v => v.category).sum ≤ 8 := by decide) : PB Γ pc lv (v1 :: v0 :: st) h := pb_callS g hC hdg k' hk [v0, v1] rfl hw hrun (fun o h' hq => by obtain ⟨r, rfl, hq⟩ := hq; exact kk r h' hq)
theorem pb_Vi2 (g : GM Γ y cc nL rt k) {y' : MethodName} {cc' : ByteArray} {nL' idx ci q : Nat} {rt' : Option FieldType} {v0 v1 : Value} {Qi : Int32 → PH → Prop} (hC : PCV y.cls idx y' cc' nL' rt' 2 ci) (hdg : decode cc pc = .ok (.invokevirtual idx, 3)) (k' : Nat) (hk : k' + 1 ≤ k) {fs : List Value} (hq : h[q]? = some (pO ci fs)) (hrun : Runs y' cc' nL' rt' k' (.ref q :: [v0, v1]) h (fun o h' => ∃ r : Int32, o = some (.int r) ∧ Qi r h')) (kk : ∀ (r : Int32) (h' : PH), Qi r h' → PB Γ (pc + 3) lv (.int r :: st) h') (hw : (st.map fun v => v.category).sum ≤ 8 := by decide) : PB Γ pc lv (v1 :: v0 :: .ref q :: st) h := pb_callV g hC hdg k' hk [v0, v1] rfl hw hq hrun (fun o h' hq => by obtain ⟨r, rfl, hq⟩ := hq; exact kk r h' hq)
theorem pb_Sl2 (g : GM Γ y cc nL rt k) {y' : MethodName} {cc' : ByteArray} {nL' idx : Nat} {rt' : Option FieldType} {v0 v1 : Value} {Qi : Int64 → PH → Prop} (hC : PCS y.cls idx y' cc' nL' rt' 2) (hdg : decode cc pc = .ok (.invokestatic idx, 3)) (k' : Nat) (hk : k' + 1 ≤ k) (hrun : Runs y' cc' nL' rt' k' [v0, v1] h (fun o h' => ∃ r : Int64, o = some (.long r) ∧ Qi r h')) (kk : ∀ (r : Int64) (h' : PH), Qi r h' → PB Γ (pc + 3) lv (.long r :: st) h') (hw : (st.map fun v => v.category).sum ≤ 8 := by decide) : PB Γ pc lv (v1 :: v0 :: st) h := pb_callS g hC hdg k' hk [v0, v1] rfl hw hrun (fun o h' hq => by obtain ⟨r, rfl, hq⟩ := hq; exact kk r h' hq)
theorem pb_Vl2 (g : GM Γ y cc nL rt k) {y' : MethodName} {cc' : ByteArray} {nL' idx ci q : Nat} {rt' : Option FieldType} {v0 v1 : Value} {Qi : Int64 → PH → Prop} (hC : PCV y.cls idx y' cc' nL' rt' 2 ci) (hdg : decode cc pc = .ok (.invokevirtual idx, 3)) (k' : Nat) (hk : k' + 1 ≤ k) {fs : List Value} (hq : h[q]? = some (pO ci fs)) (hrun : Runs y' cc' nL' rt' k' (.ref q :: [v0, v1]) h (fun o h' => ∃ r : Int64, o = some (.long r) ∧ Qi r h')) (kk : ∀ (r : Int64) (h' : PH), Qi r h' → PB Γ (pc + 3) lv (.long r :: st) h') (hw : (st.map fun v => v.category).sum ≤ 8 := by decide) : PB Γ pc lv (v1 :: v0 :: .ref q :: st) h := pb_callV g hC hdg k' hk [v0, v1] rfl hw hq hrun (fun o h' hq => by obtain ⟨r, rfl, hq⟩ := hq; exact kk r h' hq)
theorem pb_Sv2 (g : GM Γ y cc nL rt k) {y' : MethodName} {cc' : ByteArray} {nL' idx : Nat} {rt' : Option FieldType} {v0 v1 : Value} {Qi : PH → Prop} (hC : PCS y.cls idx y' cc' nL' rt' 2) (hdg : decode cc pc = .ok (.invokestatic idx, 3)) (k' : Nat) (hk : k' + 1 ≤ k) (hrun : Runs y' cc' nL' rt' k' [v0, v1] h (fun o h' => o = none ∧ Qi h')) (kk : ∀ (h' : PH), Qi h' → PB Γ (pc + 3) lv st h') (hw : (st.map fun v => v.category).sum ≤ 8 := by decide) : PB Γ pc lv (v1 :: v0 :: st) h := pb_callS g hC hdg k' hk [v0, v1] rfl hw hrun (fun o h' hq => by obtain ⟨rfl, hq⟩ := hq; exact kk h' hq)
theorem pb_Vv2 (g : GM Γ y cc nL rt k) {y' : MethodName} {cc' : ByteArray} {nL' idx ci q : Nat} {rt' : Option FieldType} {v0 v1 : Value} {Qi : PH → Prop} (hC : PCV y.cls idx y' cc' nL' rt' 2 ci) (hdg : decode cc pc = .ok (.invokevirtual idx, 3)) (k' : Nat) (hk : k' + 1 ≤ k) {fs : List Value} (hq : h[q]? = some (pO ci fs)) (hrun : Runs y' cc' nL' rt' k' (.ref q :: [v0, v1]) h (fun o h' => o = none ∧ Qi h')) (kk : ∀ (h' : PH), Qi h' → PB Γ (pc + 3) lv st h') (hw : (st.map fun v => v.category).sum ≤ 8 := by decide) : PB Γ pc lv (v1 :: v0 :: .ref q :: st) h := pb_callV g hC hdg k' hk [v0, v1] rfl hw hq hrun (fun o h' hq => by obtain ⟨rfl, hq⟩ := hq; exact kk h' hq)
theorem pb_Si3 (g : GM Γ y cc nL rt k) {y' : MethodName} {cc' : ByteArray} {nL' idx : Nat} {rt' : Option FieldType} {v0 v1 v2 : Value} {Qi : Int32 → PH → Prop} (hC : PCS y.cls idx y' cc' nL' rt' 3) (hdg : decode cc pc = .ok (.invokestatic idx, 3)) (k' : Nat) (hk : k' + 1 ≤ k) (hrun : Runs y' cc' nL' rt' k' [v0, v1, v2] h (fun o h' => ∃ r : Int32, o = some (.int r) ∧ Qi r h')) (kk : ∀ (r : Int32) (h' : PH), Qi r h' → PB Γ (pc + 3) lv (.int r :: st) h') (hw : (st.map fun v => v.category).sum ≤ 8 := by decide) : PB Γ pc lv (v2 :: v1 :: v0 :: st) h := pb_callS g hC hdg k' hk [v0, v1, v2] rfl hw hrun (fun o h' hq => by obtain ⟨r, rfl, hq⟩ := hq; exact kk r h' hq)
theorem pb_Vi3 (g : GM Γ y cc nL rt k) {y' : MethodName} {cc' : ByteArray} {nL' idx ci q : Nat} {rt' : Option FieldType} {v0 v1 v2 : Value} {Qi : Int32 → PH → Prop} (hC : PCV y.cls idx y' cc' nL' rt' 3 ci) (hdg : decode cc pc = .ok (.invokevirtual idx, 3)) (k' : Nat) (hk : k' + 1 ≤ k) {fs : List Value} (hq : h[q]? = some (pO ci fs)) (hrun : Runs y' cc' nL' rt' k' (.ref q :: [v0, v1, v2]) h (fun o h' => ∃ r : Int32, o = some (.int r) ∧ Qi r h')) (kk : ∀ (r : Int32) (h' : PH), Qi r h' → PB Γ (pc + 3) lv (.int r :: st) h') (hw : (st.map fun v => v.category).sum ≤ 8 := by decide) : PB Γ pc lv (v2 :: v1 :: v0 :: .ref q :: st) h := pb_callV g hC hdg k' hk [v0, v1, v2] rfl hw hq hrun (fun o h' hq => by obtain ⟨r, rfl, hq⟩ := hq; exact kk r h' hq)
theorem pb_Sl3 (g : GM Γ y cc nL rt k) {y' : MethodName} {cc' : ByteArray} {nL' idx : Nat} {rt' : Option FieldType} {v0 v1 v2 : Value} {Qi : Int64 → PH → Prop} (hC : PCS y.cls idx y' cc' nL' rt' 3) (hdg : decode cc pc = .ok (.invokestatic idx, 3)) (k' : Nat) (hk : k' + 1 ≤ k) (hrun : Runs y' cc' nL' rt' k' [v0, v1, v2] h (fun o h' => ∃ r : Int64, o = some (.long r) ∧ Qi r h')) (kk : ∀ (r : Int64) (h' : PH), Qi r h' → PB Γ (pc + 3) lv (.long r :: st) h') (hw : (st.map fun v => v.category).sum ≤ 8 := by decide) : PB Γ pc lv (v2 :: v1 :: v0 :: st) h := pb_callS g hC hdg k' hk [v0, v1, v2] rfl hw hrun (fun o h' hq => by obtain ⟨r, rfl, hq⟩ := hq; exact kk r h' hq)
theorem pb_Vl3 (g : GM Γ y cc nL rt k) {y' : MethodName} {cc' : ByteArray} {nL' idx ci q : Nat} {rt' : Option FieldType} {v0 v1 v2 : Value} {Qi : Int64 → PH → Prop} (hC : PCV y.cls idx y' cc' nL' rt' 3 ci) (hdg : decode cc pc = .ok (.invokevirtual idx, 3)) (k' : Nat) (hk : k' + 1 ≤ k) {fs : List Value} (hq : h[q]? = some (pO ci fs)) (hrun : Runs y' cc' nL' rt' k' (.ref q :: [v0, v1, v2]) h (fun o h' => ∃ r : Int64, o = some (.long r) ∧ Qi r h')) (kk : ∀ (r : Int64) (h' : PH), Qi r h' → PB Γ (pc + 3) lv (.long r :: st) h') (hw : (st.map fun v => v.category).sum ≤ 8 := by decide) : PB Γ pc lv (v2 :: v1 :: v0 :: .ref q :: st) h := pb_callV g hC hdg k' hk [v0, v1, v2] rfl hw hq hrun (fun o h' hq => by obtain ⟨r, rfl, hq⟩ := hq; exact kk r h' hq)
theorem pb_Sv3 (g : GM Γ y cc nL rt k) {y' : MethodName} {cc' : ByteArray} {nL' idx : Nat} {rt' : Option FieldType} {v0 v1 v2 : Value} {Qi : PH → Prop} (hC : PCS y.cls idx y' cc' nL' rt' 3) (hdg : decode cc pc = .ok (.invokestatic idx, 3)) (k' : Nat) (hk : k' + 1 ≤ k) (hrun : Runs y' cc' nL' rt' k' [v0, v1, v2] h (fun o h' => o = none ∧ Qi h')) (kk : ∀ (h' : PH), Qi h' → PB Γ (pc + 3) lv st h') (hw : (st.map fun v => v.category).sum ≤ 8 := by decide) : PB Γ pc lv (v2 :: v1 :: v0 :: st) h := pb_callS g hC hdg k' hk [v0, v1, v2] rfl hw hrun (fun o h' hq => by obtain ⟨rfl, hq⟩ := hq; exact kk h' hq)
theorem pb_Vv3 (g : GM Γ y cc nL rt k) {y' : MethodName} {cc' : ByteArray} {nL' idx ci q : Nat} {rt' : Option FieldType} {v0 v1 v2 : Value} {Qi : PH → Prop} (hC : PCV y.cls idx y' cc' nL' rt' 3 ci) (hdg : decode cc pc = .ok (.invokevirtual idx, 3)) (k' : Nat) (hk : k' + 1 ≤ k) {fs : List Value} (hq : h[q]? = some (pO ci fs)) (hrun : Runs y' cc' nL' rt' k' (.ref q :: [v0, v1, v2]) h (fun o h' => o = none ∧ Qi h')) (kk : ∀ (h' : PH), Qi h' → PB Γ (pc + 3) lv st h') (hw : (st.map fun v => v.category).sum ≤ 8 := by decide) : PB Γ pc lv (v2 :: v1 :: v0 :: .ref q :: st) h := pb_callV g hC hdg k' hk [v0, v1, v2] rfl hw hq hrun (fun o h' hq => by obtain ⟨rfl, hq⟩ := hq; exact kk h' hq)
theorem pb_Si4 (g : GM Γ y cc nL rt k) {y' : MethodName} {cc' : ByteArray} {nL' idx : Nat} {rt' : Option FieldType} {v0 v1 v2 v3 : Value} {Qi : Int32 → PH → Prop} (hC : PCS y.cls idx y' cc' nL' rt' 4) (hdg : decode cc pc = .ok (.invokestatic idx, 3)) (k' : Nat) (hk : k' + 1 ≤ k) (hrun : Runs y' cc' nL' rt' k' [v0, v1, v2, v3] h (fun o h' => ∃ r : Int32, o = some (.int r) ∧ Qi r h')) (kk : ∀ (r : Int32) (h' : PH), Qi r h' → PB Γ (pc + 3) lv (.int r :: st) h') (hw : (st.map fun v => v.category).sum ≤ 8 := by decide) : PB Γ pc lv (v3 :: v2 :: v1 :: v0 :: st) h := pb_callS g hC hdg k' hk [v0, v1, v2, v3] rfl hw hrun (fun o h' hq => by obtain ⟨r, rfl, hq⟩ := hq; exact kk r h' hq)
theorem pb_Vi4 (g : GM Γ y cc nL rt k) {y' : MethodName} {cc' : ByteArray} {nL' idx ci q : Nat} {rt' : Option FieldType} {v0 v1 v2 v3 : Value} {Qi : Int32 → PH → Prop} (hC : PCV y.cls idx y' cc' nL' rt' 4 ci) (hdg : decode cc pc = .ok (.invokevirtual idx, 3)) (k' : Nat) (hk : k' + 1 ≤ k) {fs : List Value} (hq : h[q]? = some (pO ci fs)) (hrun : Runs y' cc' nL' rt' k' (.ref q :: [v0, v1, v2, v3]) h (fun o h' => ∃ r : Int32, o = some (.int r) ∧ Qi r h')) (kk : ∀ (r : Int32) (h' : PH), Qi r h' → PB Γ (pc + 3) lv (.int r :: st) h') (hw : (st.map fun v => v.category).sum ≤ 8 := by decide) : PB Γ pc lv (v3 :: v2 :: v1 :: v0 :: .ref q :: st) h := pb_callV g hC hdg k' hk [v0, v1, v2, v3] rfl hw hq hrun (fun o h' hq => by obtain ⟨r, rfl, hq⟩ := hq; exact kk r h' hq)
theorem pb_Sl4 (g : GM Γ y cc nL rt k) {y' : MethodName} {cc' : ByteArray} {nL' idx : Nat} {rt' : Option FieldType} {v0 v1 v2 v3 : Value} {Qi : Int64 → PH → Prop} (hC : PCS y.cls idx y' cc' nL' rt' 4) (hdg : decode cc pc = .ok (.invokestatic idx, 3)) (k' : Nat) (hk : k' + 1 ≤ k) (hrun : Runs y' cc' nL' rt' k' [v0, v1, v2, v3] h (fun o h' => ∃ r : Int64, o = some (.long r) ∧ Qi r h')) (kk : ∀ (r : Int64) (h' : PH), Qi r h' → PB Γ (pc + 3) lv (.long r :: st) h') (hw : (st.map fun v => v.category).sum ≤ 8 := by decide) : PB Γ pc lv (v3 :: v2 :: v1 :: v0 :: st) h := pb_callS g hC hdg k' hk [v0, v1, v2, v3] rfl hw hrun (fun o h' hq => by obtain ⟨r, rfl, hq⟩ := hq; exact kk r h' hq)
theorem pb_Vl4 (g : GM Γ y cc nL rt k) {y' : MethodName} {cc' : ByteArray} {nL' idx ci q : Nat} {rt' : Option FieldType} {v0 v1 v2 v3 : Value} {Qi : Int64 → PH → Prop} (hC : PCV y.cls idx y' cc' nL' rt' 4 ci) (hdg : decode cc pc = .ok (.invokevirtual idx, 3)) (k' : Nat) (hk : k' + 1 ≤ k) {fs : List Value} (hq : h[q]? = some (pO ci fs)) (hrun : Runs y' cc' nL' rt' k' (.ref q :: [v0, v1, v2, v3]) h (fun o h' => ∃ r : Int64, o = some (.long r) ∧ Qi r h')) (kk : ∀ (r : Int64) (h' : PH), Qi r h' → PB Γ (pc + 3) lv (.long r :: st) h') (hw : (st.map fun v => v.category).sum ≤ 8 := by decide) : PB Γ pc lv (v3 :: v2 :: v1 :: v0 :: .ref q :: st) h := pb_callV g hC hdg k' hk [v0, v1, v2, v3] rfl hw hq hrun (fun o h' hq => by obtain ⟨r, rfl, hq⟩ := hq; exact kk r h' hq)
theorem pb_Sv4 (g : GM Γ y cc nL rt k) {y' : MethodName} {cc' : ByteArray} {nL' idx : Nat} {rt' : Option FieldType} {v0 v1 v2 v3 : Value} {Qi : PH → Prop} (hC : PCS y.cls idx y' cc' nL' rt' 4) (hdg : decode cc pc = .ok (.invokestatic idx, 3)) (k' : Nat) (hk : k' + 1 ≤ k) (hrun : Runs y' cc' nL' rt' k' [v0, v1, v2, v3] h (fun o h' => o = none ∧ Qi h')) (kk : ∀ (h' : PH), Qi h' → PB Γ (pc + 3) lv st h') (hw : (st.map fun v => v.category).sum ≤ 8 := by decide) : PB Γ pc lv (v3 :: v2 :: v1 :: v0 :: st) h := pb_callS g hC hdg k' hk [v0, v1, v2, v3] rfl hw hrun (fun o h' hq => by obtain ⟨rfl, hq⟩ := hq; exact kk h' hq)
theorem pb_Vv4 (g : GM Γ y cc nL rt k) {y' : MethodName} {cc' : ByteArray} {nL' idx ci q : Nat} {rt' : Option FieldType} {v0 v1 v2 v3 : Value} {Qi : PH → Prop} (hC : PCV y.cls idx y' cc' nL' rt' 4 ci) (hdg : decode cc pc = .ok (.invokevirtual idx, 3)) (k' : Nat) (hk : k' + 1 ≤ k) {fs : List Value} (hq : h[q]? = some (pO ci fs)) (hrun : Runs y' cc' nL' rt' k' (.ref q :: [v0, v1, v2, v3]) h (fun o h' => o = none ∧ Qi h')) (kk : ∀ (h' : PH), Qi h' → PB Γ (pc + 3) lv st h') (hw : (st.map fun v => v.category).sum ≤ 8 := by decide) : PB Γ pc lv (v3 :: v2 :: v1 :: v0 :: .ref q :: st) h := pb_callV g hC hdg k' hk [v0, v1, v2, v3] rfl hw hq hrun (fun o h' hq => by obtain ⟨rfl, hq⟩ := hq; exact kk h' hq)
theorem pb_Si5 (g : GM Γ y cc nL rt k) {y' : MethodName} {cc' : ByteArray} {nL' idx : Nat} {rt' : Option FieldType} {v0 v1 v2 v3 v4 : Value} {Qi : Int32 → PH → Prop} (hC : PCS y.cls idx y' cc' nL' rt' 5) (hdg : decode cc pc = .ok (.invokestatic idx, 3)) (k' : Nat) (hk : k' + 1 ≤ k) (hrun : Runs y' cc' nL' rt' k' [v0, v1, v2, v3, v4] h (fun o h' => ∃ r : Int32, o = some (.int r) ∧ Qi r h')) (kk : ∀ (r : Int32) (h' : PH), Qi r h' → PB Γ (pc + 3) lv (.int r :: st) h') (hw : (st.map fun v => v.category).sum ≤ 8 := by decide) : PB Γ pc lv (v4 :: v3 :: v2 :: v1 :: v0 :: st) h := pb_callS g hC hdg k' hk [v0, v1, v2, v3, v4] rfl hw hrun (fun o h' hq => by obtain ⟨r, rfl, hq⟩ := hq; exact kk r h' hq)
theorem pb_Vi5 (g : GM Γ y cc nL rt k) {y' : MethodName} {cc' : ByteArray} {nL' idx ci q : Nat} {rt' : Option FieldType} {v0 v1 v2 v3 v4 : Value} {Qi : Int32 → PH → Prop} (hC : PCV y.cls idx y' cc' nL' rt' 5 ci) (hdg : decode cc pc = .ok (.invokevirtual idx, 3)) (k' : Nat) (hk : k' + 1 ≤ k) {fs : List Value} (hq : h[q]? = some (pO ci fs)) (hrun : Runs y' cc' nL' rt' k' (.ref q :: [v0, v1, v2, v3, v4]) h (fun o h' => ∃ r : Int32, o = some (.int r) ∧ Qi r h')) (kk : ∀ (r : Int32) (h' : PH), Qi r h' → PB Γ (pc + 3) lv (.int r :: st) h') (hw : (st.map fun v => v.category).sum ≤ 8 := by decide) : PB Γ pc lv (v4 :: v3 :: v2 :: v1 :: v0 :: .ref q :: st) h := pb_callV g hC hdg k' hk [v0, v1, v2, v3, v4] rfl hw hq hrun (fun o h' hq => by obtain ⟨r, rfl, hq⟩ := hq; exact kk r h' hq)
theorem pb_Sl5 (g : GM Γ y cc nL rt k) {y' : MethodName} {cc' : ByteArray} {nL' idx : Nat} {rt' : Option FieldType} {v0 v1 v2 v3 v4 : Value} {Qi : Int64 → PH → Prop} (hC : PCS y.cls idx y' cc' nL' rt' 5) (hdg : decode cc pc = .ok (.invokestatic idx, 3)) (k' : Nat) (hk : k' + 1 ≤ k) (hrun : Runs y' cc' nL' rt' k' [v0, v1, v2, v3, v4] h (fun o h' => ∃ r : Int64, o = some (.long r) ∧ Qi r h')) (kk : ∀ (r : Int64) (h' : PH), Qi r h' → PB Γ (pc + 3) lv (.long r :: st) h') (hw : (st.map fun v => v.category).sum ≤ 8 := by decide) : PB Γ pc lv (v4 :: v3 :: v2 :: v1 :: v0 :: st) h := pb_callS g hC hdg k' hk [v0, v1, v2, v3, v4] rfl hw hrun (fun o h' hq => by obtain ⟨r, rfl, hq⟩ := hq; exact kk r h' hq)
theorem pb_Vl5 (g : GM Γ y cc nL rt k) {y' : MethodName} {cc' : ByteArray} {nL' idx ci q : Nat} {rt' : Option FieldType} {v0 v1 v2 v3 v4 : Value} {Qi : Int64 → PH → Prop} (hC : PCV y.cls idx y' cc' nL' rt' 5 ci) (hdg : decode cc pc = .ok (.invokevirtual idx, 3)) (k' : Nat) (hk : k' + 1 ≤ k) {fs : List Value} (hq : h[q]? = some (pO ci fs)) (hrun : Runs y' cc' nL' rt' k' (.ref q :: [v0, v1, v2, v3, v4]) h (fun o h' => ∃ r : Int64, o = some (.long r) ∧ Qi r h')) (kk : ∀ (r : Int64) (h' : PH), Qi r h' → PB Γ (pc + 3) lv (.long r :: st) h') (hw : (st.map fun v => v.category).sum ≤ 8 := by decide) : PB Γ pc lv (v4 :: v3 :: v2 :: v1 :: v0 :: .ref q :: st) h := pb_callV g hC hdg k' hk [v0, v1, v2, v3, v4] rfl hw hq hrun (fun o h' hq => by obtain ⟨r, rfl, hq⟩ := hq; exact kk r h' hq)
theorem pb_Sv5 (g : GM Γ y cc nL rt k) {y' : MethodName} {cc' : ByteArray} {nL' idx : Nat} {rt' : Option FieldType} {v0 v1 v2 v3 v4 : Value} {Qi : PH → Prop} (hC : PCS y.cls idx y' cc' nL' rt' 5) (hdg : decode cc pc = .ok (.invokestatic idx, 3)) (k' : Nat) (hk : k' + 1 ≤ k) (hrun : Runs y' cc' nL' rt' k' [v0, v1, v2, v3, v4] h (fun o h' => o = none ∧ Qi h')) (kk : ∀ (h' : PH), Qi h' → PB Γ (pc + 3) lv st h') (hw : (st.map fun v => v.category).sum ≤ 8 := by decide) : PB Γ pc lv (v4 :: v3 :: v2 :: v1 :: v0 :: st) h := pb_callS g hC hdg k' hk [v0, v1, v2, v3, v4] rfl hw hrun (fun o h' hq => by obtain ⟨rfl, hq⟩ := hq; exact kk h' hq)
theorem pb_Vv5 (g : GM Γ y cc nL rt k) {y' : MethodName} {cc' : ByteArray} {nL' idx ci q : Nat} {rt' : Option FieldType} {v0 v1 v2 v3 v4 : Value} {Qi : PH → Prop} (hC : PCV y.cls idx y' cc' nL' rt' 5 ci) (hdg : decode cc pc = .ok (.invokevirtual idx, 3)) (k' : Nat) (hk : k' + 1 ≤ k) {fs : List Value} (hq : h[q]? = some (pO ci fs)) (hrun : Runs y' cc' nL' rt' k' (.ref q :: [v0, v1, v2, v3, v4]) h (fun o h' => o = none ∧ Qi h')) (kk : ∀ (h' : PH), Qi h' → PB Γ (pc + 3) lv st h') (hw : (st.map fun v => v.category).sum ≤ 8 := by decide) : PB Γ pc lv (v4 :: v3 :: v2 :: v1 :: v0 :: .ref q :: st) h := pb_callV g hC hdg k' hk [v0, v1, v2, v3, v4] rfl hw hq hrun (fun o h' hq => by obtain ⟨rfl, hq⟩ := hq; exact kk h' hq)
theorem pb_Si6 (g : GM Γ y cc nL rt k) {y' : MethodName} {cc' : ByteArray} {nL' idx : Nat} {rt' : Option FieldType} {v0 v1 v2 v3 v4 v5 : Value} {Qi : Int32 → PH → Prop} (hC : PCS y.cls idx y' cc' nL' rt' 6) (hdg : decode cc pc = .ok (.invokestatic idx, 3)) (k' : Nat) (hk : k' + 1 ≤ k) (hrun : Runs y' cc' nL' rt' k' [v0, v1, v2, v3, v4, v5] h (fun o h' => ∃ r : Int32, o = some (.int r) ∧ Qi r h')) (kk : ∀ (r : Int32) (h' : PH), Qi r h' → PB Γ (pc + 3) lv (.int r :: st) h') (hw : (st.map fun v => v.category).sum ≤ 8 := by decide) : PB Γ pc lv (v5 :: v4 :: v3 :: v2 :: v1 :: v0 :: st) h := pb_callS g hC hdg k' hk [v0, v1, v2, v3, v4, v5] rfl hw hrun (fun o h' hq => by obtain ⟨r, rfl, hq⟩ := hq; exact kk r h' hq)
theorem pb_Vi6 (g : GM Γ y cc nL rt k) {y' : MethodName} {cc' : ByteArray} {nL' idx ci q : Nat} {rt' : Option FieldType} {v0 v1 v2 v3 v4 v5 : Value} {Qi : Int32 → PH → Prop} (hC : PCV y.cls idx y' cc' nL' rt' 6 ci) (hdg : decode cc pc = .ok (.invokevirtual idx, 3)) (k' : Nat) (hk : k' + 1 ≤ k) {fs : List Value} (hq : h[q]? = some (pO ci fs)) (hrun : Runs y' cc' nL' rt' k' (.ref q :: [v0, v1, v2, v3, v4, v5]) h (fun o h' => ∃ r : Int32, o = some (.int r) ∧ Qi r h')) (kk : ∀ (r : Int32) (h' : PH), Qi r h' → PB Γ (pc + 3) lv (.int r :: st) h') (hw : (st.map fun v => v.category).sum ≤ 8 := by decide) : PB Γ pc lv (v5 :: v4 :: v3 :: v2 :: v1 :: v0 :: .ref q :: st) h := pb_callV g hC hdg k' hk [v0, v1, v2, v3, v4, v5] rfl hw hq hrun (fun o h' hq => by obtain ⟨r, rfl, hq⟩ := hq; exact kk r h' hq)
theorem pb_Sl6 (g : GM Γ y cc nL rt k) {y' : MethodName} {cc' : ByteArray} {nL' idx : Nat} {rt' : Option FieldType} {v0 v1 v2 v3 v4 v5 : Value} {Qi : Int64 → PH → Prop} (hC : PCS y.cls idx y' cc' nL' rt' 6) (hdg : decode cc pc = .ok (.invokestatic idx, 3)) (k' : Nat) (hk : k' + 1 ≤ k) (hrun : Runs y' cc' nL' rt' k' [v0, v1, v2, v3, v4, v5] h (fun o h' => ∃ r : Int64, o = some (.long r) ∧ Qi r h')) (kk : ∀ (r : Int64) (h' : PH), Qi r h' → PB Γ (pc + 3) lv (.long r :: st) h') (hw : (st.map fun v => v.category).sum ≤ 8 := by decide) : PB Γ pc lv (v5 :: v4 :: v3 :: v2 :: v1 :: v0 :: st) h := pb_callS g hC hdg k' hk [v0, v1, v2, v3, v4, v5] rfl hw hrun (fun o h' hq => by obtain ⟨r, rfl, hq⟩ := hq; exact kk r h' hq)
theorem pb_Vl6 (g : GM Γ y cc nL rt k) {y' : MethodName} {cc' : ByteArray} {nL' idx ci q : Nat} {rt' : Option FieldType} {v0 v1 v2 v3 v4 v5 : Value} {Qi : Int64 → PH → Prop} (hC : PCV y.cls idx y' cc' nL' rt' 6 ci) (hdg : decode cc pc = .ok (.invokevirtual idx, 3)) (k' : Nat) (hk : k' + 1 ≤ k) {fs : List Value} (hq : h[q]? = some (pO ci fs)) (hrun : Runs y' cc' nL' rt' k' (.ref q :: [v0, v1, v2, v3, v4, v5]) h (fun o h' => ∃ r : Int64, o = some (.long r) ∧ Qi r h')) (kk : ∀ (r : Int64) (h' : PH), Qi r h' → PB Γ (pc + 3) lv (.long r :: st) h') (hw : (st.map fun v => v.category).sum ≤ 8 := by decide) : PB Γ pc lv (v5 :: v4 :: v3 :: v2 :: v1 :: v0 :: .ref q :: st) h := pb_callV g hC hdg k' hk [v0, v1, v2, v3, v4, v5] rfl hw hq hrun (fun o h' hq => by obtain ⟨r, rfl, hq⟩ := hq; exact kk r h' hq)
theorem pb_Sv6 (g : GM Γ y cc nL rt k) {y' : MethodName} {cc' : ByteArray} {nL' idx : Nat} {rt' : Option FieldType} {v0 v1 v2 v3 v4 v5 : Value} {Qi : PH → Prop} (hC : PCS y.cls idx y' cc' nL' rt' 6) (hdg : decode cc pc = .ok (.invokestatic idx, 3)) (k' : Nat) (hk : k' + 1 ≤ k) (hrun : Runs y' cc' nL' rt' k' [v0, v1, v2, v3, v4, v5] h (fun o h' => o = none ∧ Qi h')) (kk : ∀ (h' : PH), Qi h' → PB Γ (pc + 3) lv st h') (hw : (st.map fun v => v.category).sum ≤ 8 := by decide) : PB Γ pc lv (v5 :: v4 :: v3 :: v2 :: v1 :: v0 :: st) h := pb_callS g hC hdg k' hk [v0, v1, v2, v3, v4, v5] rfl hw hrun (fun o h' hq => by obtain ⟨rfl, hq⟩ := hq; exact kk h' hq)
theorem pb_Vv6 (g : GM Γ y cc nL rt k) {y' : MethodName} {cc' : ByteArray} {nL' idx ci q : Nat} {rt' : Option FieldType} {v0 v1 v2 v3 v4 v5 : Value} {Qi : PH → Prop} (hC : PCV y.cls idx y' cc' nL' rt' 6 ci) (hdg : decode cc pc = .ok (.invokevirtual idx, 3)) (k' : Nat) (hk : k' + 1 ≤ k) {fs : List Value} (hq : h[q]? = some (pO ci fs)) (hrun : Runs y' cc' nL' rt' k' (.ref q :: [v0, v1, v2, v3, v4, v5]) h (fun o h' => o = none ∧ Qi h')) (kk : ∀ (h' : PH), Qi h' → PB Γ (pc + 3) lv st h') (hw : (st.map fun v => v.category).sum ≤ 8 := by decide) : PB Γ pc lv (v5 :: v4 :: v3 :: v2 :: v1 :: v0 :: .ref q :: st) h := pb_callV g hC hdg k' hk [v0, v1, v2, v3, v4, v5] rfl hw hq hrun (fun o h' hq => by obtain ⟨rfl, hq⟩ := hq; exact kk h' hq)
end PBH
end
