section
-- ===== PART A: goes FIRST, ahead of the names: the tables' words, and 'selects' of the private methods out of them =====
/-- a private method of a class that the tables say can be made, by its rows of tables_1 -/
def lw_okq (q : MethodName × Nat) : Prop := (q.1.cls ≠ "java/lang/invoke/MethodHandle" ∧ q.1.cls ≠ "java/lang/invoke/VarHandle") ∧ Cond.instantiable q.1.cls q.2 ∈ tables_1 ∧ Cond.privateMethod q.1 ∈ tables_1 ∧ Cond.instanceMethod q.1 ∈ tables_1
theorem lw_p0 : lw_okq (⟨"ElementFiles$Reader", "readTag", "()I"⟩, 9) := ⟨⟨by decide +kernel, by decide +kernel⟩, List.mem_of_getElem? (i := 89) (by decide +kernel), List.mem_of_getElem? (i := 211) (by decide +kernel), List.mem_of_getElem? (i := 212) (by decide +kernel)⟩
theorem lw_p1 : lw_okq (⟨"ElementFiles$Reader", "nextNumber", "(I)J"⟩, 9) := ⟨⟨by decide +kernel, by decide +kernel⟩, List.mem_of_getElem? (i := 89) (by decide +kernel), List.mem_of_getElem? (i := 219) (by decide +kernel), List.mem_of_getElem? (i := 220) (by decide +kernel)⟩
theorem lw_p2 : lw_okq (⟨"ElementFiles$Reader", "readSize", "()I"⟩, 9) := ⟨⟨by decide +kernel, by decide +kernel⟩, List.mem_of_getElem? (i := 89) (by decide +kernel), List.mem_of_getElem? (i := 245) (by decide +kernel), List.mem_of_getElem? (i := 246) (by decide +kernel)⟩
theorem lw_p3 : lw_okq (⟨"ElementFiles$Reader", "nextVint", "()J"⟩, 9) := ⟨⟨by decide +kernel, by decide +kernel⟩, List.mem_of_getElem? (i := 89) (by decide +kernel), List.mem_of_getElem? (i := 249) (by decide +kernel), List.mem_of_getElem? (i := 250) (by decide +kernel)⟩
theorem lw_p4 : lw_okq (⟨"ElementFiles$Tree", "putInLine", "(ILElementFiles$Element;)V"⟩, 5) := ⟨⟨by decide +kernel, by decide +kernel⟩, List.mem_of_getElem? (i := 60) (by decide +kernel), List.mem_of_getElem? (i := 360) (by decide +kernel), List.mem_of_getElem? (i := 361) (by decide +kernel)⟩
theorem lw_p5 : lw_okq (⟨"ElementFiles$Reader", "readData", "()I"⟩, 9) := ⟨⟨by decide +kernel, by decide +kernel⟩, List.mem_of_getElem? (i := 89) (by decide +kernel), List.mem_of_getElem? (i := 368) (by decide +kernel), List.mem_of_getElem? (i := 369) (by decide +kernel)⟩
theorem lw_p6 : lw_okq (⟨"ElementFiles$Reader", "readText", "(LElementFiles$Element;)Z"⟩, 9) := ⟨⟨by decide +kernel, by decide +kernel⟩, List.mem_of_getElem? (i := 89) (by decide +kernel), List.mem_of_getElem? (i := 379) (by decide +kernel), List.mem_of_getElem? (i := 380) (by decide +kernel)⟩
theorem lw_p7 : lw_okq (⟨"ElementFiles$Reader", "readBlockHead", "(LElementFiles$Element;)I"⟩, 9) := ⟨⟨by decide +kernel, by decide +kernel⟩, List.mem_of_getElem? (i := 89) (by decide +kernel), List.mem_of_getElem? (i := 390) (by decide +kernel), List.mem_of_getElem? (i := 391) (by decide +kernel)⟩
theorem lw_p8 : lw_okq (⟨"ElementFiles$Reader", "nextByte", "()I"⟩, 9) := ⟨⟨by decide +kernel, by decide +kernel⟩, List.mem_of_getElem? (i := 89) (by decide +kernel), List.mem_of_getElem? (i := 395) (by decide +kernel), List.mem_of_getElem? (i := 396) (by decide +kernel)⟩
theorem lw_p9 : lw_okq (⟨"ElementFiles$Reader", "readSizes", "(LElementFiles$Element;I)Z"⟩, 9) := ⟨⟨by decide +kernel, by decide +kernel⟩, List.mem_of_getElem? (i := 89) (by decide +kernel), List.mem_of_getElem? (i := 403) (by decide +kernel), List.mem_of_getElem? (i := 404) (by decide +kernel)⟩
theorem lw_p10 : lw_okq (⟨"ElementFiles$Reader", "shareEvenly", "(LElementFiles$Element;I)Z"⟩, 9) := ⟨⟨by decide +kernel, by decide +kernel⟩, List.mem_of_getElem? (i := 89) (by decide +kernel), List.mem_of_getElem? (i := 407) (by decide +kernel), List.mem_of_getElem? (i := 408) (by decide +kernel)⟩
theorem lw_p11 : lw_okq (⟨"ElementFiles$Reader", "nextSizeOfBytes", "()J"⟩, 9) := ⟨⟨by decide +kernel, by decide +kernel⟩, List.mem_of_getElem? (i := 89) (by decide +kernel), List.mem_of_getElem? (i := 411) (by decide +kernel), List.mem_of_getElem? (i := 412) (by decide +kernel)⟩
theorem lw_p12 : lw_okq (⟨"ElementFiles$Reader", "storeRest", "(LElementFiles$Element;)V"⟩, 9) := ⟨⟨by decide +kernel, by decide +kernel⟩, List.mem_of_getElem? (i := 89) (by decide +kernel), List.mem_of_getElem? (i := 418) (by decide +kernel), List.mem_of_getElem? (i := 419) (by decide +kernel)⟩
theorem lw_p13 : lw_okq (⟨"ElementFiles$Reader", "readCheck", "(LElementFiles$Element;)Z"⟩, 9) := ⟨⟨by decide +kernel, by decide +kernel⟩, List.mem_of_getElem? (i := 89) (by decide +kernel), List.mem_of_getElem? (i := 430) (by decide +kernel), List.mem_of_getElem? (i := 431) (by decide +kernel)⟩
theorem lw_p14 : lw_okq (⟨"ElementFiles$Frames", "areEven", "()Z"⟩, 4) := ⟨⟨by decide +kernel, by decide +kernel⟩, List.mem_of_getElem? (i := 39) (by decide +kernel), List.mem_of_getElem? (i := 486) (by decide +kernel), List.mem_of_getElem? (i := 487) (by decide +kernel)⟩
theorem lw_p15 : lw_okq (⟨"ElementFiles$Writer", "putLeaf", "(LElementFiles$Element;LElementFiles$Row;)V"⟩, 3) := ⟨⟨by decide +kernel, by decide +kernel⟩, List.mem_of_getElem? (i := 124) (by decide +kernel), List.mem_of_getElem? (i := 552) (by decide +kernel), List.mem_of_getElem? (i := 553) (by decide +kernel)⟩
def lw_privs_1 : List (MethodName × Nat) := [(⟨"ElementFiles$Reader", "readTag", "()I"⟩, 9), (⟨"ElementFiles$Reader", "nextNumber", "(I)J"⟩, 9), (⟨"ElementFiles$Reader", "readSize", "()I"⟩, 9), (⟨"ElementFiles$Reader", "nextVint", "()J"⟩, 9), (⟨"ElementFiles$Tree", "putInLine", "(ILElementFiles$Element;)V"⟩, 5), (⟨"ElementFiles$Reader", "readData", "()I"⟩, 9), (⟨"ElementFiles$Reader", "readText", "(LElementFiles$Element;)Z"⟩, 9), (⟨"ElementFiles$Reader", "readBlockHead", "(LElementFiles$Element;)I"⟩, 9), (⟨"ElementFiles$Reader", "nextByte", "()I"⟩, 9), (⟨"ElementFiles$Reader", "readSizes", "(LElementFiles$Element;I)Z"⟩, 9), (⟨"ElementFiles$Reader", "shareEvenly", "(LElementFiles$Element;I)Z"⟩, 9), (⟨"ElementFiles$Reader", "nextSizeOfBytes", "()J"⟩, 9), (⟨"ElementFiles$Reader", "storeRest", "(LElementFiles$Element;)V"⟩, 9), (⟨"ElementFiles$Reader", "readCheck", "(LElementFiles$Element;)Z"⟩, 9), (⟨"ElementFiles$Frames", "areEven", "()Z"⟩, 4), (⟨"ElementFiles$Writer", "putLeaf", "(LElementFiles$Element;LElementFiles$Row;)V"⟩, 3)]
theorem lw_r1 : ∀ q ∈ lw_privs_1, lw_okq q := List.forall_mem_cons.mpr ⟨lw_p0, List.forall_mem_cons.mpr ⟨lw_p1, List.forall_mem_cons.mpr ⟨lw_p2, List.forall_mem_cons.mpr ⟨lw_p3, List.forall_mem_cons.mpr ⟨lw_p4, List.forall_mem_cons.mpr ⟨lw_p5, List.forall_mem_cons.mpr ⟨lw_p6, List.forall_mem_cons.mpr ⟨lw_p7, List.forall_mem_cons.mpr ⟨lw_p8, List.forall_mem_cons.mpr ⟨lw_p9, List.forall_mem_cons.mpr ⟨lw_p10, List.forall_mem_cons.mpr ⟨lw_p11, List.forall_mem_cons.mpr ⟨lw_p12, List.forall_mem_cons.mpr ⟨lw_p13, List.forall_mem_cons.mpr ⟨lw_p14, List.forall_mem_cons.mpr ⟨lw_p15, fun _ h => absurd h List.not_mem_nil⟩⟩⟩⟩⟩⟩⟩⟩⟩⟩⟩⟩⟩⟩⟩⟩
theorem lw_p16 : lw_okq (⟨"ElementFiles$Writer", "putStored", "(LElementFiles$Element;LElementFiles$Row;)V"⟩, 3) := ⟨⟨by decide +kernel, by decide +kernel⟩, List.mem_of_getElem? (i := 124) (by decide +kernel), List.mem_of_getElem? (i := 591) (by decide +kernel), List.mem_of_getElem? (i := 592) (by decide +kernel)⟩
theorem lw_p17 : lw_okq (⟨"ElementFiles$Writer", "putHeader", "(LElementFiles$Element;Z)V"⟩, 3) := ⟨⟨by decide +kernel, by decide +kernel⟩, List.mem_of_getElem? (i := 124) (by decide +kernel), List.mem_of_getElem? (i := 608) (by decide +kernel), List.mem_of_getElem? (i := 609) (by decide +kernel)⟩
theorem lw_p18 : lw_okq (⟨"ElementFiles$Writer", "fillCheck", "(LElementFiles$Element;)V"⟩, 3) := ⟨⟨by decide +kernel, by decide +kernel⟩, List.mem_of_getElem? (i := 124) (by decide +kernel), List.mem_of_getElem? (i := 613) (by decide +kernel), List.mem_of_getElem? (i := 614) (by decide +kernel)⟩
theorem lw_p19 : lw_okq (⟨"ElementFiles", "segmentAt", "(I)LElementFiles$Element;"⟩, 7) := ⟨⟨by decide +kernel, by decide +kernel⟩, List.mem_of_getElem? (i := 14) (by decide +kernel), List.mem_of_getElem? (i := 626) (by decide +kernel), List.mem_of_getElem? (i := 627) (by decide +kernel)⟩
theorem lw_p20 : lw_okq (⟨"ElementFiles$Finder", "countKeyBlocks", "(LElementFiles$Element;)I"⟩, 1) := ⟨⟨by decide +kernel, by decide +kernel⟩, List.mem_of_getElem? (i := 142) (by decide +kernel), List.mem_of_getElem? (i := 635) (by decide +kernel), List.mem_of_getElem? (i := 636) (by decide +kernel)⟩
theorem lw_p21 : lw_okq (⟨"ElementFiles$Finder", "addCue", "(LElementFiles$Element;LElementFiles$Element;I)V"⟩, 1) := ⟨⟨by decide +kernel, by decide +kernel⟩, List.mem_of_getElem? (i := 142) (by decide +kernel), List.mem_of_getElem? (i := 651) (by decide +kernel), List.mem_of_getElem? (i := 652) (by decide +kernel)⟩
theorem lw_p22 : lw_okq (⟨"ElementFiles$Finder", "momentOf", "(LElementFiles$Element;)J"⟩, 1) := ⟨⟨by decide +kernel, by decide +kernel⟩, List.mem_of_getElem? (i := 142) (by decide +kernel), List.mem_of_getElem? (i := 658) (by decide +kernel), List.mem_of_getElem? (i := 659) (by decide +kernel)⟩
theorem lw_p23 : lw_okq (⟨"ElementFiles$Finder", "firstNumber", "(LElementFiles$Element;LElementFiles$Sort;)J"⟩, 1) := ⟨⟨by decide +kernel, by decide +kernel⟩, List.mem_of_getElem? (i := 142) (by decide +kernel), List.mem_of_getElem? (i := 664) (by decide +kernel), List.mem_of_getElem? (i := 665) (by decide +kernel)⟩
theorem lw_p24 : lw_okq (⟨"ElementFiles$Finder", "addNumber", "(LElementFiles$Element;LElementFiles$Sort;J)V"⟩, 1) := ⟨⟨by decide +kernel, by decide +kernel⟩, List.mem_of_getElem? (i := 142) (by decide +kernel), List.mem_of_getElem? (i := 668) (by decide +kernel), List.mem_of_getElem? (i := 669) (by decide +kernel)⟩
theorem lw_p25 : lw_okq (⟨"ElementFiles$Finder", "blockWithBefore", "(LElementFiles$Element;J)I"⟩, 1) := ⟨⟨by decide +kernel, by decide +kernel⟩, List.mem_of_getElem? (i := 142) (by decide +kernel), List.mem_of_getElem? (i := 692) (by decide +kernel), List.mem_of_getElem? (i := 693) (by decide +kernel)⟩
theorem lw_p26 : lw_okq (⟨"ElementFilesModel", "readElement", "()I"⟩, 33) := ⟨⟨by decide +kernel, by decide +kernel⟩, List.mem_of_getElem? (i := 696) (by decide +kernel), List.mem_of_getElem? (i := 825) (by decide +kernel), List.mem_of_getElem? (i := 826) (by decide +kernel)⟩
theorem lw_p27 : lw_okq (⟨"ElementFilesModel", "readId", "(I)I"⟩, 33) := ⟨⟨by decide +kernel, by decide +kernel⟩, List.mem_of_getElem? (i := 696) (by decide +kernel), List.mem_of_getElem? (i := 829) (by decide +kernel), List.mem_of_getElem? (i := 830) (by decide +kernel)⟩
theorem lw_p28 : lw_okq (⟨"ElementFilesModel", "masterId", "()I"⟩, 33) := ⟨⟨by decide +kernel, by decide +kernel⟩, List.mem_of_getElem? (i := 696) (by decide +kernel), List.mem_of_getElem? (i := 836) (by decide +kernel), List.mem_of_getElem? (i := 837) (by decide +kernel)⟩
theorem lw_p29 : lw_okq (⟨"ElementFilesModel", "children", "(I)I"⟩, 33) := ⟨⟨by decide +kernel, by decide +kernel⟩, List.mem_of_getElem? (i := 696) (by decide +kernel), List.mem_of_getElem? (i := 849) (by decide +kernel), List.mem_of_getElem? (i := 850) (by decide +kernel)⟩
theorem lw_p30 : lw_okq (⟨"ElementFilesModel", "readSizeOf", "(I)I"⟩, 33) := ⟨⟨by decide +kernel, by decide +kernel⟩, List.mem_of_getElem? (i := 696) (by decide +kernel), List.mem_of_getElem? (i := 853) (by decide +kernel), List.mem_of_getElem? (i := 854) (by decide +kernel)⟩
theorem lw_p31 : lw_okq (⟨"ElementFilesModel", "readVint", "(I)I"⟩, 33) := ⟨⟨by decide +kernel, by decide +kernel⟩, List.mem_of_getElem? (i := 696) (by decide +kernel), List.mem_of_getElem? (i := 857) (by decide +kernel), List.mem_of_getElem? (i := 858) (by decide +kernel)⟩
def lw_privs_2 : List (MethodName × Nat) := [(⟨"ElementFiles$Writer", "putStored", "(LElementFiles$Element;LElementFiles$Row;)V"⟩, 3), (⟨"ElementFiles$Writer", "putHeader", "(LElementFiles$Element;Z)V"⟩, 3), (⟨"ElementFiles$Writer", "fillCheck", "(LElementFiles$Element;)V"⟩, 3), (⟨"ElementFiles", "segmentAt", "(I)LElementFiles$Element;"⟩, 7), (⟨"ElementFiles$Finder", "countKeyBlocks", "(LElementFiles$Element;)I"⟩, 1), (⟨"ElementFiles$Finder", "addCue", "(LElementFiles$Element;LElementFiles$Element;I)V"⟩, 1), (⟨"ElementFiles$Finder", "momentOf", "(LElementFiles$Element;)J"⟩, 1), (⟨"ElementFiles$Finder", "firstNumber", "(LElementFiles$Element;LElementFiles$Sort;)J"⟩, 1), (⟨"ElementFiles$Finder", "addNumber", "(LElementFiles$Element;LElementFiles$Sort;J)V"⟩, 1), (⟨"ElementFiles$Finder", "blockWithBefore", "(LElementFiles$Element;J)I"⟩, 1), (⟨"ElementFilesModel", "readElement", "()I"⟩, 33), (⟨"ElementFilesModel", "readId", "(I)I"⟩, 33), (⟨"ElementFilesModel", "masterId", "()I"⟩, 33), (⟨"ElementFilesModel", "children", "(I)I"⟩, 33), (⟨"ElementFilesModel", "readSizeOf", "(I)I"⟩, 33), (⟨"ElementFilesModel", "readVint", "(I)I"⟩, 33)]
theorem lw_r2 : ∀ q ∈ lw_privs_2, lw_okq q := List.forall_mem_cons.mpr ⟨lw_p16, List.forall_mem_cons.mpr ⟨lw_p17, List.forall_mem_cons.mpr ⟨lw_p18, List.forall_mem_cons.mpr ⟨lw_p19, List.forall_mem_cons.mpr ⟨lw_p20, List.forall_mem_cons.mpr ⟨lw_p21, List.forall_mem_cons.mpr ⟨lw_p22, List.forall_mem_cons.mpr ⟨lw_p23, List.forall_mem_cons.mpr ⟨lw_p24, List.forall_mem_cons.mpr ⟨lw_p25, List.forall_mem_cons.mpr ⟨lw_p26, List.forall_mem_cons.mpr ⟨lw_p27, List.forall_mem_cons.mpr ⟨lw_p28, List.forall_mem_cons.mpr ⟨lw_p29, List.forall_mem_cons.mpr ⟨lw_p30, List.forall_mem_cons.mpr ⟨lw_p31, fun _ h => absurd h List.not_mem_nil⟩⟩⟩⟩⟩⟩⟩⟩⟩⟩⟩⟩⟩⟩⟩⟩
theorem lw_p32 : lw_okq (⟨"ElementFilesModel", "readData", "(II)Z"⟩, 33) := ⟨⟨by decide +kernel, by decide +kernel⟩, List.mem_of_getElem? (i := 696) (by decide +kernel), List.mem_of_getElem? (i := 861) (by decide +kernel), List.mem_of_getElem? (i := 862) (by decide +kernel)⟩
theorem lw_p33 : lw_okq (⟨"ElementFilesModel", "readNumber", "(I)Z"⟩, 33) := ⟨⟨by decide +kernel, by decide +kernel⟩, List.mem_of_getElem? (i := 696) (by decide +kernel), List.mem_of_getElem? (i := 865) (by decide +kernel), List.mem_of_getElem? (i := 866) (by decide +kernel)⟩
theorem lw_p34 : lw_okq (⟨"ElementFilesModel", "readText", "(I)Z"⟩, 33) := ⟨⟨by decide +kernel, by decide +kernel⟩, List.mem_of_getElem? (i := 696) (by decide +kernel), List.mem_of_getElem? (i := 869) (by decide +kernel), List.mem_of_getElem? (i := 870) (by decide +kernel)⟩
theorem lw_p35 : lw_okq (⟨"ElementFilesModel", "readBlock", "(I)Z"⟩, 33) := ⟨⟨by decide +kernel, by decide +kernel⟩, List.mem_of_getElem? (i := 696) (by decide +kernel), List.mem_of_getElem? (i := 873) (by decide +kernel), List.mem_of_getElem? (i := 874) (by decide +kernel)⟩
theorem lw_p36 : lw_okq (⟨"ElementFilesModel", "readSizes", "(III)Z"⟩, 33) := ⟨⟨by decide +kernel, by decide +kernel⟩, List.mem_of_getElem? (i := 696) (by decide +kernel), List.mem_of_getElem? (i := 878) (by decide +kernel), List.mem_of_getElem? (i := 879) (by decide +kernel)⟩
theorem lw_p37 : lw_okq (⟨"ElementFilesModel", "readSize", "(IIII)I"⟩, 33) := ⟨⟨by decide +kernel, by decide +kernel⟩, List.mem_of_getElem? (i := 696) (by decide +kernel), List.mem_of_getElem? (i := 882) (by decide +kernel), List.mem_of_getElem? (i := 883) (by decide +kernel)⟩
theorem lw_p38 : lw_okq (⟨"ElementFilesModel", "keep", "(I)V"⟩, 33) := ⟨⟨by decide +kernel, by decide +kernel⟩, List.mem_of_getElem? (i := 696) (by decide +kernel), List.mem_of_getElem? (i := 887) (by decide +kernel), List.mem_of_getElem? (i := 888) (by decide +kernel)⟩
theorem lw_p39 : lw_okq (⟨"ElementFilesModel", "readSum", "(II)Z"⟩, 33) := ⟨⟨by decide +kernel, by decide +kernel⟩, List.mem_of_getElem? (i := 696) (by decide +kernel), List.mem_of_getElem? (i := 891) (by decide +kernel), List.mem_of_getElem? (i := 892) (by decide +kernel)⟩
theorem lw_p40 : lw_okq (⟨"ElementFilesModel", "isElement", "(I)Z"⟩, 33) := ⟨⟨by decide +kernel, by decide +kernel⟩, List.mem_of_getElem? (i := 696) (by decide +kernel), List.mem_of_getElem? (i := 907) (by decide +kernel), List.mem_of_getElem? (i := 908) (by decide +kernel)⟩
theorem lw_p41 : lw_okq (⟨"ElementFilesModel", "insert", "(IIJ)I"⟩, 33) := ⟨⟨by decide +kernel, by decide +kernel⟩, List.mem_of_getElem? (i := 696) (by decide +kernel), List.mem_of_getElem? (i := 912) (by decide +kernel), List.mem_of_getElem? (i := 913) (by decide +kernel)⟩
theorem lw_p42 : lw_okq (⟨"ElementFilesModel", "behind", "(I)I"⟩, 33) := ⟨⟨by decide +kernel, by decide +kernel⟩, List.mem_of_getElem? (i := 696) (by decide +kernel), List.mem_of_getElem? (i := 916) (by decide +kernel), List.mem_of_getElem? (i := 917) (by decide +kernel)⟩
theorem lw_p43 : lw_okq (⟨"ElementFilesModel", "isIn", "(II)Z"⟩, 33) := ⟨⟨by decide +kernel, by decide +kernel⟩, List.mem_of_getElem? (i := 696) (by decide +kernel), List.mem_of_getElem? (i := 920) (by decide +kernel), List.mem_of_getElem? (i := 921) (by decide +kernel)⟩
theorem lw_p44 : lw_okq (⟨"ElementFilesModel", "move", "(II)V"⟩, 33) := ⟨⟨by decide +kernel, by decide +kernel⟩, List.mem_of_getElem? (i := 696) (by decide +kernel), List.mem_of_getElem? (i := 924) (by decide +kernel), List.mem_of_getElem? (i := 925) (by decide +kernel)⟩
theorem lw_p45 : lw_okq (⟨"ElementFilesModel", "isKind", "(II)Z"⟩, 33) := ⟨⟨by decide +kernel, by decide +kernel⟩, List.mem_of_getElem? (i := 696) (by decide +kernel), List.mem_of_getElem? (i := 932) (by decide +kernel), List.mem_of_getElem? (i := 933) (by decide +kernel)⟩
theorem lw_p46 : lw_okq (⟨"ElementFilesModel", "is", "(II)Z"⟩, 33) := ⟨⟨by decide +kernel, by decide +kernel⟩, List.mem_of_getElem? (i := 696) (by decide +kernel), List.mem_of_getElem? (i := 944) (by decide +kernel), List.mem_of_getElem? (i := 945) (by decide +kernel)⟩
theorem lw_p47 : lw_okq (⟨"ElementFilesModel", "evenHands", "()Z"⟩, 33) := ⟨⟨by decide +kernel, by decide +kernel⟩, List.mem_of_getElem? (i := 696) (by decide +kernel), List.mem_of_getElem? (i := 948) (by decide +kernel), List.mem_of_getElem? (i := 949) (by decide +kernel)⟩
def lw_privs_3 : List (MethodName × Nat) := [(⟨"ElementFilesModel", "readData", "(II)Z"⟩, 33), (⟨"ElementFilesModel", "readNumber", "(I)Z"⟩, 33), (⟨"ElementFilesModel", "readText", "(I)Z"⟩, 33), (⟨"ElementFilesModel", "readBlock", "(I)Z"⟩, 33), (⟨"ElementFilesModel", "readSizes", "(III)Z"⟩, 33), (⟨"ElementFilesModel", "readSize", "(IIII)I"⟩, 33), (⟨"ElementFilesModel", "keep", "(I)V"⟩, 33), (⟨"ElementFilesModel", "readSum", "(II)Z"⟩, 33), (⟨"ElementFilesModel", "isElement", "(I)Z"⟩, 33), (⟨"ElementFilesModel", "insert", "(IIJ)I"⟩, 33), (⟨"ElementFilesModel", "behind", "(I)I"⟩, 33), (⟨"ElementFilesModel", "isIn", "(II)Z"⟩, 33), (⟨"ElementFilesModel", "move", "(II)V"⟩, 33), (⟨"ElementFilesModel", "isKind", "(II)Z"⟩, 33), (⟨"ElementFilesModel", "is", "(II)Z"⟩, 33), (⟨"ElementFilesModel", "evenHands", "()Z"⟩, 33)]
theorem lw_r3 : ∀ q ∈ lw_privs_3, lw_okq q := List.forall_mem_cons.mpr ⟨lw_p32, List.forall_mem_cons.mpr ⟨lw_p33, List.forall_mem_cons.mpr ⟨lw_p34, List.forall_mem_cons.mpr ⟨lw_p35, List.forall_mem_cons.mpr ⟨lw_p36, List.forall_mem_cons.mpr ⟨lw_p37, List.forall_mem_cons.mpr ⟨lw_p38, List.forall_mem_cons.mpr ⟨lw_p39, List.forall_mem_cons.mpr ⟨lw_p40, List.forall_mem_cons.mpr ⟨lw_p41, List.forall_mem_cons.mpr ⟨lw_p42, List.forall_mem_cons.mpr ⟨lw_p43, List.forall_mem_cons.mpr ⟨lw_p44, List.forall_mem_cons.mpr ⟨lw_p45, List.forall_mem_cons.mpr ⟨lw_p46, List.forall_mem_cons.mpr ⟨lw_p47, fun _ h => absurd h List.not_mem_nil⟩⟩⟩⟩⟩⟩⟩⟩⟩⟩⟩⟩⟩⟩⟩⟩
theorem lw_p48 : lw_okq (⟨"ElementFilesModel", "child", "(II)I"⟩, 33) := ⟨⟨by decide +kernel, by decide +kernel⟩, List.mem_of_getElem? (i := 696) (by decide +kernel), List.mem_of_getElem? (i := 969) (by decide +kernel), List.mem_of_getElem? (i := 970) (by decide +kernel)⟩
theorem lw_p49 : lw_okq (⟨"ElementFilesModel", "measure", "(Z)V"⟩, 33) := ⟨⟨by decide +kernel, by decide +kernel⟩, List.mem_of_getElem? (i := 696) (by decide +kernel), List.mem_of_getElem? (i := 986) (by decide +kernel), List.mem_of_getElem? (i := 987) (by decide +kernel)⟩
theorem lw_p50 : lw_okq (⟨"ElementFilesModel", "blockBytes", "(I)I"⟩, 33) := ⟨⟨by decide +kernel, by decide +kernel⟩, List.mem_of_getElem? (i := 696) (by decide +kernel), List.mem_of_getElem? (i := 993) (by decide +kernel), List.mem_of_getElem? (i := 994) (by decide +kernel)⟩
theorem lw_p51 : lw_okq (⟨"ElementFilesModel", "isLive", "(IZ)Z"⟩, 33) := ⟨⟨by decide +kernel, by decide +kernel⟩, List.mem_of_getElem? (i := 696) (by decide +kernel), List.mem_of_getElem? (i := 1008) (by decide +kernel), List.mem_of_getElem? (i := 1009) (by decide +kernel)⟩
theorem lw_p52 : lw_okq (⟨"ElementFilesModel", "putBytes", "(JI)V"⟩, 33) := ⟨⟨by decide +kernel, by decide +kernel⟩, List.mem_of_getElem? (i := 696) (by decide +kernel), List.mem_of_getElem? (i := 1012) (by decide +kernel), List.mem_of_getElem? (i := 1013) (by decide +kernel)⟩
theorem lw_p53 : lw_okq (⟨"ElementFilesModel", "put", "(I)V"⟩, 33) := ⟨⟨by decide +kernel, by decide +kernel⟩, List.mem_of_getElem? (i := 696) (by decide +kernel), List.mem_of_getElem? (i := 1016) (by decide +kernel), List.mem_of_getElem? (i := 1017) (by decide +kernel)⟩
theorem lw_p54 : lw_okq (⟨"ElementFilesModel", "putVint", "(JI)V"⟩, 33) := ⟨⟨by decide +kernel, by decide +kernel⟩, List.mem_of_getElem? (i := 696) (by decide +kernel), List.mem_of_getElem? (i := 1020) (by decide +kernel), List.mem_of_getElem? (i := 1021) (by decide +kernel)⟩
theorem lw_p55 : lw_okq (⟨"ElementFilesModel", "putData", "(I)V"⟩, 33) := ⟨⟨by decide +kernel, by decide +kernel⟩, List.mem_of_getElem? (i := 696) (by decide +kernel), List.mem_of_getElem? (i := 1024) (by decide +kernel), List.mem_of_getElem? (i := 1025) (by decide +kernel)⟩
theorem lw_p56 : lw_okq (⟨"ElementFilesModel", "putBlock", "(I)V"⟩, 33) := ⟨⟨by decide +kernel, by decide +kernel⟩, List.mem_of_getElem? (i := 696) (by decide +kernel), List.mem_of_getElem? (i := 1028) (by decide +kernel), List.mem_of_getElem? (i := 1029) (by decide +kernel)⟩
theorem lw_p57 : lw_okq (⟨"ElementFilesModel", "fillSum", "(I)V"⟩, 33) := ⟨⟨by decide +kernel, by decide +kernel⟩, List.mem_of_getElem? (i := 696) (by decide +kernel), List.mem_of_getElem? (i := 1032) (by decide +kernel), List.mem_of_getElem? (i := 1033) (by decide +kernel)⟩
theorem lw_p58 : lw_okq (⟨"ElementFilesModel", "isBlockOf", "(II)Z"⟩, 33) := ⟨⟨by decide +kernel, by decide +kernel⟩, List.mem_of_getElem? (i := 696) (by decide +kernel), List.mem_of_getElem? (i := 1040) (by decide +kernel), List.mem_of_getElem? (i := 1041) (by decide +kernel)⟩
theorem lw_p59 : lw_okq (⟨"ElementFilesModel", "remove", "(I)V"⟩, 33) := ⟨⟨by decide +kernel, by decide +kernel⟩, List.mem_of_getElem? (i := 696) (by decide +kernel), List.mem_of_getElem? (i := 1044) (by decide +kernel), List.mem_of_getElem? (i := 1045) (by decide +kernel)⟩
theorem lw_p60 : lw_okq (⟨"ElementFilesModel", "moment", "(I)J"⟩, 33) := ⟨⟨by decide +kernel, by decide +kernel⟩, List.mem_of_getElem? (i := 696) (by decide +kernel), List.mem_of_getElem? (i := 1048) (by decide +kernel), List.mem_of_getElem? (i := 1049) (by decide +kernel)⟩
theorem lw_p61 : lw_okq (⟨"ElementFilesModel", "first", "(II)J"⟩, 33) := ⟨⟨by decide +kernel, by decide +kernel⟩, List.mem_of_getElem? (i := 696) (by decide +kernel), List.mem_of_getElem? (i := 1052) (by decide +kernel), List.mem_of_getElem? (i := 1053) (by decide +kernel)⟩
def lw_privs_4 : List (MethodName × Nat) := [(⟨"ElementFilesModel", "child", "(II)I"⟩, 33), (⟨"ElementFilesModel", "measure", "(Z)V"⟩, 33), (⟨"ElementFilesModel", "blockBytes", "(I)I"⟩, 33), (⟨"ElementFilesModel", "isLive", "(IZ)Z"⟩, 33), (⟨"ElementFilesModel", "putBytes", "(JI)V"⟩, 33), (⟨"ElementFilesModel", "put", "(I)V"⟩, 33), (⟨"ElementFilesModel", "putVint", "(JI)V"⟩, 33), (⟨"ElementFilesModel", "putData", "(I)V"⟩, 33), (⟨"ElementFilesModel", "putBlock", "(I)V"⟩, 33), (⟨"ElementFilesModel", "fillSum", "(I)V"⟩, 33), (⟨"ElementFilesModel", "isBlockOf", "(II)Z"⟩, 33), (⟨"ElementFilesModel", "remove", "(I)V"⟩, 33), (⟨"ElementFilesModel", "moment", "(I)J"⟩, 33), (⟨"ElementFilesModel", "first", "(II)J"⟩, 33)]
theorem lw_r4 : ∀ q ∈ lw_privs_4, lw_okq q := List.forall_mem_cons.mpr ⟨lw_p48, List.forall_mem_cons.mpr ⟨lw_p49, List.forall_mem_cons.mpr ⟨lw_p50, List.forall_mem_cons.mpr ⟨lw_p51, List.forall_mem_cons.mpr ⟨lw_p52, List.forall_mem_cons.mpr ⟨lw_p53, List.forall_mem_cons.mpr ⟨lw_p54, List.forall_mem_cons.mpr ⟨lw_p55, List.forall_mem_cons.mpr ⟨lw_p56, List.forall_mem_cons.mpr ⟨lw_p57, List.forall_mem_cons.mpr ⟨lw_p58, List.forall_mem_cons.mpr ⟨lw_p59, List.forall_mem_cons.mpr ⟨lw_p60, List.forall_mem_cons.mpr ⟨lw_p61, fun _ h => absurd h List.not_mem_nil⟩⟩⟩⟩⟩⟩⟩⟩⟩⟩⟩⟩⟩⟩
def lw_privs : List (MethodName × Nat) := lw_privs_1 ++ (lw_privs_2 ++ (lw_privs_3 ++ (lw_privs_4)))
def lw_tbl : List Cond := k2_sels lw_privs ++ tables_1
theorem lw_privs_ok : ∀ q ∈ lw_privs, lw_okq q := by
  show ∀ q ∈ lw_privs_1 ++ (lw_privs_2 ++ (lw_privs_3 ++ (lw_privs_4))), lw_okq q
  exact List.forall_mem_append.mpr ⟨lw_r1, List.forall_mem_append.mpr ⟨lw_r2, List.forall_mem_append.mpr ⟨lw_r3, lw_r4⟩⟩⟩
end
section
def R_EF : String := "ElementFiles"
def F_EF : u_T := fun k => match k with
  | 0 => ("ElementFiles", "fed", "LElementFiles$Row;", true)
  | 1 => ("ElementFiles", "written", "LElementFiles$Row;", true)
  | 2 => ("ElementFiles", "atHand", "LElementFiles$Frames;", true)
  | 3 => ("ElementFiles", "tree", "LElementFiles$Tree;", true)
  | 4 => ("ElementFiles", "reader", "LElementFiles$Reader;", true)
  | 5 => ("ElementFiles", "writer", "LElementFiles$Writer;", true)
  | _ => ("ElementFiles", "finder", "LElementFiles$Finder;", true)
def t_EF : Nat → FieldType := fun k => match k with
  | 0 => .object "ElementFiles$Row"
  | 1 => .object "ElementFiles$Row"
  | 2 => .object "ElementFiles$Frames"
  | 3 => .object "ElementFiles$Tree"
  | 4 => .object "ElementFiles$Reader"
  | 5 => .object "ElementFiles$Writer"
  | _ => .object "ElementFiles$Finder"
theorem n_EF : ∀ a, a < 7 → ∀ b, b < 7 → a ≠ b → (F_EF a).2.1 ≠ (F_EF b).2.1 := by decide +kernel
theorem t_EF_ok : ∀ k, k < 7 → parseFieldDescriptor (F_EF k).2.2.1 = some (t_EF k) := by decide +kernel
def R_Ro : String := "ElementFiles$Row"
def F_Ro : u_T := fun k => match k with
  | 0 => ("ElementFiles$Row", "bytes", "[I", true)
  | _ => ("ElementFiles$Row", "count", "I", false)
def t_Ro : Nat → FieldType := fun k => match k with
  | 0 => .array .int
  | _ => .int
theorem n_Ro : ∀ a, a < 2 → ∀ b, b < 2 → a ≠ b → (F_Ro a).2.1 ≠ (F_Ro b).2.1 := by decide +kernel
theorem t_Ro_ok : ∀ k, k < 2 → parseFieldDescriptor (F_Ro k).2.2.1 = some (t_Ro k) := by decide +kernel
def R_Fr : String := "ElementFiles$Frames"
def F_Fr : u_T := fun k => match k with
  | 0 => ("ElementFiles$Frames", "sizes", "[I", true)
  | 1 => ("ElementFiles$Frames", "bytes", "[I", true)
  | 2 => ("ElementFiles$Frames", "count", "I", false)
  | _ => ("ElementFiles$Frames", "filled", "I", false)
def t_Fr : Nat → FieldType := fun k => match k with
  | 0 => .array .int
  | 1 => .array .int
  | 2 => .int
  | _ => .int
theorem n_Fr : ∀ a, a < 4 → ∀ b, b < 4 → a ≠ b → (F_Fr a).2.1 ≠ (F_Fr b).2.1 := by decide +kernel
theorem t_Fr_ok : ∀ k, k < 4 → parseFieldDescriptor (F_Fr k).2.2.1 = some (t_Fr k) := by decide +kernel
def R_El : String := "ElementFiles$Element"
def F_El : u_T := fun k => match k with
  | 0 => ("ElementFiles$Element", "sort", "LElementFiles$Sort;", false)
  | 1 => ("ElementFiles$Element", "tag", "I", false)
  | 2 => ("ElementFiles$Element", "master", "LElementFiles$Element;", false)
  | 3 => ("ElementFiles$Element", "level", "I", false)
  | 4 => ("ElementFiles$Element", "number", "I", false)
  | 5 => ("ElementFiles$Element", "amount", "J", false)
  | 6 => ("ElementFiles$Element", "parts", "[I", true)
  | 7 => ("ElementFiles$Element", "storedFrom", "I", false)
  | 8 => ("ElementFiles$Element", "storedSize", "I", false)
  | 9 => ("ElementFiles$Element", "track", "I", false)
  | 10 => ("ElementFiles$Element", "time", "I", false)
  | 11 => ("ElementFiles$Element", "key", "Z", false)
  | 12 => ("ElementFiles$Element", "lacing", "I", false)
  | 13 => ("ElementFiles$Element", "end", "I", false)
  | 14 => ("ElementFiles$Element", "open", "Z", false)
  | 15 => ("ElementFiles$Element", "dataSize", "I", false)
  | _ => ("ElementFiles$Element", "dataPlace", "I", false)
def t_El : Nat → FieldType := fun k => match k with
  | 0 => .object "ElementFiles$Sort"
  | 1 => .int
  | 2 => .object "ElementFiles$Element"
  | 3 => .int
  | 4 => .int
  | 5 => .long
  | 6 => .array .int
  | 7 => .int
  | 8 => .int
  | 9 => .int
  | 10 => .int
  | 11 => .boolean
  | 12 => .int
  | 13 => .int
  | 14 => .boolean
  | 15 => .int
  | _ => .int
theorem n_El : ∀ a, a < 17 → ∀ b, b < 17 → a ≠ b → (F_El a).2.1 ≠ (F_El b).2.1 := by decide +kernel
theorem t_El_ok : ∀ k, k < 17 → parseFieldDescriptor (F_El k).2.2.1 = some (t_El k) := by decide +kernel
def R_Tr : String := "ElementFiles$Tree"
def F_Tr : u_T := fun k => match k with
  | 0 => ("ElementFiles$Tree", "line", "[LElementFiles$Element;", true)
  | 1 => ("ElementFiles$Tree", "aside", "[LElementFiles$Element;", true)
  | 2 => ("ElementFiles$Tree", "count", "I", false)
  | 3 => ("ElementFiles$Tree", "store", "[I", true)
  | _ => ("ElementFiles$Tree", "stored", "I", false)
def t_Tr : Nat → FieldType := fun k => match k with
  | 0 => .array (.object "ElementFiles$Element")
  | 1 => .array (.object "ElementFiles$Element")
  | 2 => .int
  | 3 => .array .int
  | _ => .int
theorem n_Tr : ∀ a, a < 5 → ∀ b, b < 5 → a ≠ b → (F_Tr a).2.1 ≠ (F_Tr b).2.1 := by decide +kernel
theorem t_Tr_ok : ∀ k, k < 5 → parseFieldDescriptor (F_Tr k).2.2.1 = some (t_Tr k) := by decide +kernel
def R_Re : String := "ElementFiles$Reader"
def F_Re : u_T := fun k => match k with
  | 0 => ("ElementFiles$Reader", "source", "LElementFiles$Row;", true)
  | 1 => ("ElementFiles$Reader", "tree", "LElementFiles$Tree;", true)
  | 2 => ("ElementFiles$Reader", "faultPlace", "I", false)
  | 3 => ("ElementFiles$Reader", "master", "LElementFiles$Element;", false)
  | 4 => ("ElementFiles$Reader", "place", "I", false)
  | 5 => ("ElementFiles$Reader", "end", "I", false)
  | 6 => ("ElementFiles$Reader", "tag", "I", false)
  | 7 => ("ElementFiles$Reader", "vintIsFull", "Z", false)
  | _ => ("ElementFiles$Reader", "vintLength", "I", false)
def t_Re : Nat → FieldType := fun k => match k with
  | 0 => .object "ElementFiles$Row"
  | 1 => .object "ElementFiles$Tree"
  | 2 => .int
  | 3 => .object "ElementFiles$Element"
  | 4 => .int
  | 5 => .int
  | 6 => .int
  | 7 => .boolean
  | _ => .int
theorem n_Re : ∀ a, a < 9 → ∀ b, b < 9 → a ≠ b → (F_Re a).2.1 ≠ (F_Re b).2.1 := by decide +kernel
theorem t_Re_ok : ∀ k, k < 9 → parseFieldDescriptor (F_Re k).2.2.1 = some (t_Re k) := by decide +kernel
def R_Wr : String := "ElementFiles$Writer"
def F_Wr : u_T := fun k => match k with
  | 0 => ("ElementFiles$Writer", "tree", "LElementFiles$Tree;", true)
  | 1 => ("ElementFiles$Writer", "target", "LElementFiles$Row;", true)
  | _ => ("ElementFiles$Writer", "counter", "LElementFiles$Row;", true)
def t_Wr : Nat → FieldType := fun k => match k with
  | 0 => .object "ElementFiles$Tree"
  | 1 => .object "ElementFiles$Row"
  | _ => .object "ElementFiles$Row"
theorem n_Wr : ∀ a, a < 3 → ∀ b, b < 3 → a ≠ b → (F_Wr a).2.1 ≠ (F_Wr b).2.1 := by decide +kernel
theorem t_Wr_ok : ∀ k, k < 3 → parseFieldDescriptor (F_Wr k).2.2.1 = some (t_Wr k) := by decide +kernel
def R_Fi : String := "ElementFiles$Finder"
def F_Fi : u_T := fun k => match k with
  | _ => ("ElementFiles$Finder", "tree", "LElementFiles$Tree;", true)
def t_Fi : Nat → FieldType := fun k => match k with
  | _ => .object "ElementFiles$Tree"
theorem n_Fi : ∀ a, a < 1 → ∀ b, b < 1 → a ≠ b → (F_Fi a).2.1 ≠ (F_Fi b).2.1 := by decide +kernel
theorem t_Fi_ok : ∀ k, k < 1 → parseFieldDescriptor (F_Fi k).2.2.1 = some (t_Fi k) := by decide +kernel
def R_Mo : String := "ElementFilesModel"
def F_Mo : u_T := fun k => match k with
  | 0 => ("ElementFilesModel", "count", "I", false)
  | 1 => ("ElementFilesModel", "ids", "[I", true)
  | 2 => ("ElementFilesModel", "masters", "[I", true)
  | 3 => ("ElementFilesModel", "values", "[J", true)
  | 4 => ("ElementFilesModel", "many", "[I", true)
  | 5 => ("ElementFilesModel", "letters", "[I", true)
  | 6 => ("ElementFilesModel", "tracks", "[I", true)
  | 7 => ("ElementFilesModel", "times", "[I", true)
  | 8 => ("ElementFilesModel", "keys", "[Z", true)
  | 9 => ("ElementFilesModel", "lacings", "[I", true)
  | 10 => ("ElementFilesModel", "sizes", "[I", true)
  | 11 => ("ElementFilesModel", "places", "[I", true)
  | 12 => ("ElementFilesModel", "heap", "[I", true)
  | 13 => ("ElementFilesModel", "used", "I", false)
  | 14 => ("ElementFilesModel", "hands", "I", false)
  | 15 => ("ElementFilesModel", "handSize", "[I", true)
  | 16 => ("ElementFilesModel", "handFirst", "[I", true)
  | 17 => ("ElementFilesModel", "handBytes", "I", false)
  | 18 => ("ElementFilesModel", "in", "[I", true)
  | 19 => ("ElementFilesModel", "ins", "I", false)
  | 20 => ("ElementFilesModel", "out", "[I", true)
  | 21 => ("ElementFilesModel", "outs", "I", false)
  | 22 => ("ElementFilesModel", "fault", "I", false)
  | 23 => ("ElementFilesModel", "at", "I", false)
  | 24 => ("ElementFilesModel", "width", "I", false)
  | 25 => ("ElementFilesModel", "vint", "J", false)
  | 26 => ("ElementFilesModel", "ones", "Z", false)
  | 27 => ("ElementFilesModel", "depth", "I", false)
  | 28 => ("ElementFilesModel", "openMaster", "[I", true)
  | 29 => ("ElementFilesModel", "openEnd", "[I", true)
  | 30 => ("ElementFilesModel", "unknown", "[Z", true)
  | 31 => ("ElementFilesModel", "data", "[I", true)
  | _ => ("ElementFilesModel", "begins", "[I", true)
def t_Mo : Nat → FieldType := fun k => match k with
  | 0 => .int
  | 1 => .array .int
  | 2 => .array .int
  | 3 => .array .long
  | 4 => .array .int
  | 5 => .array .int
  | 6 => .array .int
  | 7 => .array .int
  | 8 => .array .boolean
  | 9 => .array .int
  | 10 => .array .int
  | 11 => .array .int
  | 12 => .array .int
  | 13 => .int
  | 14 => .int
  | 15 => .array .int
  | 16 => .array .int
  | 17 => .int
  | 18 => .array .int
  | 19 => .int
  | 20 => .array .int
  | 21 => .int
  | 22 => .int
  | 23 => .int
  | 24 => .int
  | 25 => .long
  | 26 => .boolean
  | 27 => .int
  | 28 => .array .int
  | 29 => .array .int
  | 30 => .array .boolean
  | 31 => .array .int
  | _ => .array .int
theorem n_Mo : ∀ a, a < 33 → ∀ b, b < 33 → a ≠ b → (F_Mo a).2.1 ≠ (F_Mo b).2.1 := by decide +kernel
theorem t_Mo_ok : ∀ k, k < 33 → parseFieldDescriptor (F_Mo k).2.2.1 = some (t_Mo k) := by decide +kernel
abbrev vwCl : List vw_C := [(R_EF, F_EF, 7), (R_Ro, F_Ro, 2), (R_Fr, F_Fr, 4), (R_El, F_El, 17), (R_Tr, F_Tr, 5), (R_Re, F_Re, 9), (R_Wr, F_Wr, 3), (R_Fi, F_Fi, 1), (R_Mo, F_Mo, 33)]
def R_So : String := "ElementFiles$Sort"
def R_La : String := "ElementFilesLaw"
def R_Ma : String := "java/lang/Math"
abbrev ev_arrs : List FieldType := [.int, .long, .boolean, .object "ElementFiles$Element"]
abbrev ev_over : List String := ["ElementFiles$Element"]
abbrev ev_nm : List String := ["HEAD", "SEGMENT", "VERSION", "TYPE", "TRACK", "NUMBER", "NAME", "CLUSTER", "TIME", "BLOCK", "CUE", "WHEN", "WHOSE", "WHICH", "CHECK", "VOID", "FOREIGN"]
abbrev ev_fl : List (String × String × String × List Int32) := [("ElementFiles$Sort", "tag", "I", [440786851, 408125543, 17030, 17026, 174, 215, 21358, 524531317, 231, 163, 187, 179, 247, 241, 191, 236, 0]), ("ElementFiles$Sort", "form", "I", [0, 0, 1, 2, 0, 1, 2, 0, 1, 3, 0, 1, 1, 1, 4, 5, 6]), ("ElementFiles$Sort", "places", "I", [1, 1, 2, 2, 4, 8, 8, 4, 16, 16, 4, 32, 32, 32, 42, 63, 63]), ("ElementFiles$Sort", "inside", "I", [2, 4, 0, 0, 8, 0, 0, 16, 0, 0, 32, 0, 0, 0, 0, 0, 0])]
def ev_nest : List Cond := [.methodLinkNest "ElementFiles" 23 ⟨"ElementFiles$Frames", "<init>", "()V"⟩ "ElementFiles", .methodLinkNest "ElementFiles" 30 ⟨"ElementFiles$Tree", "<init>", "()V"⟩ "ElementFiles", .methodLinkNest "ElementFiles$Reader" 62 ⟨"ElementFiles", "vintLengthByFirst", "(I)I"⟩ "ElementFiles", .methodLinkNest "ElementFiles$Reader" 191 ⟨"ElementFiles", "allOnes", "(I)J"⟩ "ElementFiles", .methodLinkNest "ElementFiles$Tree" 61 ⟨"ElementFiles$Element", "<init>", "()V"⟩ "ElementFiles", .methodLinkNest "ElementFiles$Reader" 149 ⟨"ElementFiles", "isLetter", "(I)Z"⟩ "ElementFiles", .methodLinkNest "ElementFiles$Reader" 179 ⟨"ElementFiles", "surplus", "(I)J"⟩ "ElementFiles", .methodLinkNest "ElementFiles$Writer" 51 ⟨"ElementFiles", "shortestVintLength", "(J)I"⟩ "ElementFiles", .methodLinkNest "ElementFiles$Row" 23 ⟨"ElementFiles", "allOnes", "(I)J"⟩ "ElementFiles", .methodLinkNest "ElementFiles$Writer" 156 ⟨"ElementFiles", "surplus", "(I)J"⟩ "ElementFiles"]
theorem ev_nest_is : ∀ w ∈ ev_nest, ∃ (a : String) (i : Nat) (x : MethodName) (h : String), w = .methodLinkNest a i x h := by
  intro w hw
  simp only [ev_nest, List.mem_cons, List.not_mem_nil, or_false] at hw
  rcases hw with h | h | h | h | h | h | h | h | h | h <;> exact ⟨_, _, _, _, h⟩
theorem ev_nest_tab (w : Cond) (hw : w ∈ ev_nest) : w.onTables = true := by
  obtain ⟨a, i, x, h, e⟩ := ev_nest_is w hw
  rw [e]; rfl
theorem ev_nest_warm (w : Cond) (hw : w ∈ ev_nest) {s U : State} (h : s.WarmedH U.vm) (k : va_Nw w s) : va_Nw w U := by
  obtain ⟨a, i, x, hh, e⟩ := ev_nest_is w hw
  subst e
  exact va_Nw.warmM h k
theorem ev_nest_in : ∀ w ∈ ev_nest, w ∈ lw_tbl := by decide +kernel
end
section
/-! ===== PURE WORLDS: a world is the number of the next cell, and a cell at each number; numbers below 100 are cells that stood before, from 100 on those that the law made ===== -/
abbrev Ev_K : Type := (Nat × Nat × ((Nat → Int32) ⊕ (Nat → Int64) ⊕ (Nat → Option Nat))) ⊕ (Nat × List Value)
abbrev Ev_W : Type := Nat × (Nat → Option Ev_K)
/-- launch; numbers of classes and slots; array classes; cells that stood before; the heap at the law's start -/
abbrev Ev_G : Type := Launch × va_G × (Nat → ClassId) × (Nat → Nat) × Heap
def ev_rho (G : Ev_G) (r : Nat) : Nat := if r < 100 then G.2.2.2.1 r else G.2.2.2.2.size + (r - 100)
def ev_mv (G : Ev_G) : Value → Value
  | .ref r => .ref (ev_rho G r)
  | v => v
def ev_cnv (G : Ev_G) : Ev_K → va_E
  | .inl (k, n, .inl f) => .inl (G.2.2.1 k, n, .inl f)
  | .inl (k, n, .inr (.inl f)) => .inl (G.2.2.1 k, n, .inr (.inl f))
  | .inl (k, n, .inr (.inr f)) => .inl (G.2.2.1 k, n, .inr (.inr (.inr (.inr (fun j => (f j).map (ev_rho G))))))
  | .inr (ci, fs) => .inr (ci, fs.map (ev_mv G))
theorem ev_mv_cat (G : Ev_G) (v : Value) : (ev_mv G v).category = v.category := by cases v <;> rfl
theorem ev_mv_rf (G : Ev_G) (o : Option Nat) : ev_mv G (va_rf o) = va_rf (o.map (ev_rho G)) := by cases o <;> rfl
/-- what the heap holds of a world -/
def ev_H (cl : List vw_C) (G : Ev_G) (w : Ev_W) (H : Heap) : Prop :=
  (∀ q : Nat, q < G.2.2.2.2.size → H[q]? = G.2.2.2.2[q]?) ∧ H.size + 100 = G.2.2.2.2.size + w.1 ∧ G.2.2.2.2.size ≤ H.size ∧ ∀ (r : Nat) (c : Ev_K), w.2 r = some c → va_at G.2.1 cl (ev_rho G r, ev_cnv G c) H
def ev_set (w : Ev_W) (r : Nat) (c : Ev_K) : Ev_W := (w.1, fun q => if q = r then some c else w.2 q)
def ev_new (w : Ev_W) (c : Ev_K) : Ev_W := (w.1 + 1, fun q => if q = w.1 then some c else w.2 q)
theorem ev_set_self (w : Ev_W) (r : Nat) (c : Ev_K) : (ev_set w r c).2 r = some c := by simp [ev_set]
theorem ev_set_ne (w : Ev_W) {r q : Nat} (c : Ev_K) (h : q ≠ r) : (ev_set w r c).2 q = w.2 q := by simp [ev_set, h]
theorem ev_new_self (w : Ev_W) (c : Ev_K) : (ev_new w c).2 w.1 = some c := by simp [ev_new]
theorem ev_new_ne (w : Ev_W) {q : Nat} (c : Ev_K) (h : q ≠ w.1) : (ev_new w c).2 q = w.2 q := by simp [ev_new, h]
/-- cells that stood before: 17 constants, apart from each other, and an array -/
def ev_inj (G : Ev_G) : Prop := (∀ r : Nat, r < 100 → G.2.2.2.1 r < G.2.2.2.2.size) ∧ ∀ r q : Nat, r < 17 → q < 17 → G.2.2.2.1 r = G.2.2.2.1 q → r = q
theorem ev_rho_inj {G : Ev_G} (h : ev_inj G) {r q : Nat} (hr0 : r < 17 ∨ 100 ≤ r) (hq0 : q < 17 ∨ 100 ≤ q) (e : ev_rho G r = ev_rho G q) : r = q := by
  unfold ev_rho at e
  by_cases hr : r < 100 <;> by_cases hq : q < 100
  · rw [if_pos hr, if_pos hq] at e; exact h.2 r q (by omega) (by omega) e
  · rw [if_pos hr, if_neg hq] at e; have := h.1 r hr; omega
  · rw [if_neg hr, if_pos hq] at e; have := h.1 q hq; omega
  · rw [if_neg hr, if_neg hq] at e; omega
theorem ev_rho_hi {G : Ev_G} (h : ev_inj G) {r q : Nat} (hr0 : 100 ≤ r) (e : ev_rho G q = ev_rho G r) : q = r := by
  unfold ev_rho at e
  rw [if_neg (show ¬ r < 100 by omega)] at e
  by_cases hq : q < 100
  · rw [if_pos hq] at e; have := h.1 q hq; omega
  · rw [if_neg hq] at e; omega
def ev_ok (o : Option Nat) : Prop := ∀ r : Nat, o = some r → r < 17 ∨ 100 ≤ r
theorem ev_H.fresh {cl : List vw_C} {G : Ev_G} {w : Ev_W} {H : Heap} (h : ev_H cl G w H) (hi : 100 ≤ w.1) : w.2 w.1 = none := by
  cases hc : w.2 w.1 with
  | none => rfl
  | some c =>
    have h1 := (h.2.2.2 _ _ hc).lt
    have h2 := h.2.1
    simp only [ev_rho] at h1
    rw [if_neg (by omega)] at h1
    omega
theorem ev_H.lo {cl : List vw_C} {G : Ev_G} {w : Ev_W} {H : Heap} (h : ev_H cl G w H) : 100 ≤ w.1 := by have := h.2.1; have := h.2.2.1; omega
/-- a cell is written -/
theorem ev_H.set {cl : List vw_C} {G : Ev_G} {w : Ev_W} {H H1 : Heap} {r : Nat} {c : Ev_K} (hi : ev_inj G) (h : ev_H cl G w H) (hr : 100 ≤ r) (he : va_at G.2.1 cl (ev_rho G r, ev_cnv G c) H1) (z : H1.size = H.size) (o : ∀ q, q ≠ ev_rho G r → H1[q]? = H[q]?) : ev_H cl G (ev_set w r c) H1 := by
  obtain ⟨h1, h2, h3, h4⟩ := h
  refine ⟨fun q hq => ?_, by rw [z]; exact h2, by rw [z]; exact h3, fun q c' hc => ?_⟩
  · rw [o q (fun e => by simp only [ev_rho] at e; rw [if_neg (by omega)] at e; omega)]
    exact h1 q hq
  · by_cases hq : q = r
    · subst hq
      simp only [ev_set, if_pos] at hc
      cases hc
      exact he
    · simp only [ev_set, if_neg hq] at hc
      exact (h4 q c' hc).kept (o _ (fun e => hq (ev_rho_hi hi hr e)))
/-- a cell is made -/
theorem ev_H.new {cl : List vw_C} {G : Ev_G} {w : Ev_W} {H H1 : Heap} {c : Ev_K} (h : ev_H cl G w H) (he : va_at G.2.1 cl (H.size, ev_cnv G c) H1) (z : H1.size = H.size + 1) (o : ∀ q, q < H.size → H1[q]? = H[q]?) : ev_H cl G (ev_new w c) H1 := by
  have hlo := h.lo
  obtain ⟨h1, h2, h3, h4⟩ := h
  refine ⟨fun q hq => ?_, by rw [z]; show _ = _ + (w.1 + 1); omega, by omega, fun q c' hc => ?_⟩
  · rw [o q (by omega)]
    exact h1 q hq
  · by_cases hq : q = w.1
    · subst hq
      simp only [ev_new, if_pos] at hc
      cases hc
      have e : ev_rho G w.1 = H.size := by
        simp only [ev_rho]; rw [if_neg (by omega)]; omega
      rw [e]
      exact he
    · simp only [ev_new, if_neg hq] at hc
      have h5 := h4 q c' hc
      exact h5.kept (o _ h5.lt)
theorem ev_rho_next {cl : List vw_C} {G : Ev_G} {w : Ev_W} {H : Heap} (h : ev_H cl G w H) : ev_rho G w.1 = H.size := by
  have hlo := h.lo
  have h2 := h.2.1
  simp only [ev_rho]; rw [if_neg (by omega)]; omega
/-! ===== LOCALS: values of one word, and longs ===== -/
abbrev Ev_L : Type := (Nat → Option Value) × (Nat → Option Int64)
def ev_L (G : Ev_G) (nL : Nat) (ls : Ev_L) (a : Array Slot) : Prop := a.size = nL ∧ lv_wf a ∧ (∀ (i : Nat) (v : Value), ls.1 i = some v → v.category = 1 ∧ a[i]? = some (.val (ev_mv G v))) ∧ ∀ (i : Nat) (x : Int64), ls.2 i = some x → a[i]? = some (.val (.long x))
def ev_st (ls : Ev_L) (i : Nat) (v : Value) : Ev_L := (fun j => if j = i then some v else ls.1 j, fun j => if j = i then none else if j + 1 = i then none else ls.2 j)
def ev_sl (ls : Ev_L) (i : Nat) (x : Int64) : Ev_L := (fun j => if j = i then none else if j = i + 1 then none else ls.1 j, fun j => if j = i then some x else if j = i + 1 then none else if j + 1 = i then none else ls.2 j)
def ev_tab (G : Ev_G) (n : Nat) (ls : Ev_L) : List (Nat × Value) := (List.range n).flatMap fun i => (match ls.1 i with | some v => [(i, ev_mv G v)] | none => []) ++ (match ls.2 i with | some x => [(i, Value.long x)] | none => [])
theorem ev_tab1 {G : Ev_G} {n : Nat} {ls : Ev_L} {i : Nat} {v : Value} (hi : i < n) (h : ls.1 i = some v) : (i, ev_mv G v) ∈ ev_tab G n ls := by
  refine List.mem_flatMap.mpr ⟨i, List.mem_range.mpr hi, ?_⟩
  rw [h]
  simp
theorem ev_tab2 {G : Ev_G} {n : Nat} {ls : Ev_L} {i : Nat} {x : Int64} (hi : i < n) (h : ls.2 i = some x) : (i, Value.long x) ∈ ev_tab G n ls := by
  refine List.mem_flatMap.mpr ⟨i, List.mem_range.mpr hi, ?_⟩
  rw [h]
  simp
theorem ev_L.has {G : Ev_G} {nL : Nat} {ls : Ev_L} {a : Array Slot} (h : ev_L G nL ls a) : lv_has a nL (ev_tab G nL ls) := by
  refine ⟨h.1, h.2.1, fun q hq => ?_⟩
  obtain ⟨i, -, hm⟩ := List.mem_flatMap.mp hq
  rcases List.mem_append.mp hm with hm | hm
  · cases e : ls.1 i with
    | none => rw [e] at hm; cases hm
    | some v =>
      rw [e] at hm
      rw [List.mem_singleton.mp hm]
      exact (h.2.2.1 i v e).2
  · cases e : ls.2 i with
    | none => rw [e] at hm; cases hm
    | some v =>
      rw [e] at hm
      rw [List.mem_singleton.mp hm]
      exact h.2.2.2 i v e
theorem ev_lt {G : Ev_G} {nL : Nat} {ls : Ev_L} {a : Array Slot} (h : ev_L G nL ls a) {i : Nat} {s : Slot} (e : a[i]? = some s) : i < nL := by rw [← h.1]; exact (Array.getElem?_eq_some_iff.mp e).1
/-- storing a word -/
theorem ev_L.st {G : Ev_G} {nL : Nat} {ls : Ev_L} {a a' : Array Slot} {i : Nat} {v : Value} (h : ev_L G nL ls a) (hc : v.category = 1)
    (h' : lv_has a' nL ((i, ev_mv G v) :: (ev_tab G nL ls).filter (fun q => !(q.1 == i) && !(q.1 + 1 == i && q.2.category == 2)))) : ev_L G nL (ev_st ls i v) a' := by
  refine ⟨h'.1, h'.2.1, fun j u hj => ?_, fun j x hj => ?_⟩
  · by_cases e : j = i
    · subst e
      simp only [ev_st, if_pos] at hj
      cases hj
      exact ⟨hc, h'.2.2 _ List.mem_cons_self⟩
    · simp only [ev_st, if_neg e] at hj
      obtain ⟨c1, c2⟩ := h.2.2.1 j u hj
      refine ⟨c1, h'.2.2 (j, ev_mv G u) (List.mem_cons_of_mem _ (List.mem_filter.mpr ⟨ev_tab1 (ev_lt h c2) hj, ?_⟩))⟩
      simp [e, ev_mv_cat, c1]
  · by_cases e : j = i
    · simp [ev_st, e] at hj
    · by_cases e2 : j + 1 = i
      · simp [ev_st, e, e2] at hj
      · simp only [ev_st, if_neg e, if_neg e2] at hj
        have c2 := h.2.2.2 j x hj
        refine h'.2.2 (j, .long x) (List.mem_cons_of_mem _ (List.mem_filter.mpr ⟨ev_tab2 (ev_lt h c2) hj, ?_⟩))
        simp [e, e2]
/-- storing a long -/
theorem ev_L.sl {G : Ev_G} {nL : Nat} {ls : Ev_L} {a a' : Array Slot} {i : Nat} {y : Int64} (h : ev_L G nL ls a)
    (h' : lv_has a' nL ((i, Value.long y) :: (ev_tab G nL ls).filter (fun q => !(q.1 == i) && (!(q.1 == i + 1) && !(q.1 + 1 == i && q.2.category == 2))))) : ev_L G nL (ev_sl ls i y) a' := by
  refine ⟨h'.1, h'.2.1, fun j u hj => ?_, fun j x hj => ?_⟩
  · by_cases e : j = i
    · simp [ev_sl, e] at hj
    · by_cases e2 : j = i + 1
      · simp [ev_sl, e2] at hj
      · simp only [ev_sl, if_neg e, if_neg e2] at hj
        obtain ⟨c1, c2⟩ := h.2.2.1 j u hj
        refine ⟨c1, h'.2.2 (j, ev_mv G u) (List.mem_cons_of_mem _ (List.mem_filter.mpr ⟨ev_tab1 (ev_lt h c2) hj, ?_⟩))⟩
        simp [e, e2, ev_mv_cat, c1]
  · by_cases e : j = i
    · subst e
      simp only [ev_sl, if_pos] at hj
      cases hj
      exact h'.2.2 _ List.mem_cons_self
    · by_cases e2 : j = i + 1
      · simp [ev_sl, e2] at hj
      · by_cases e3 : j + 1 = i
        · simp [ev_sl, e, e2, e3] at hj
        · simp only [ev_sl, if_neg e, if_neg e2, if_neg e3] at hj
          have c2 := h.2.2.2 j x hj
          refine h'.2.2 (j, .long x) (List.mem_cons_of_mem _ (List.mem_filter.mpr ⟨ev_tab2 (ev_lt h c2) hj, ?_⟩))
          simp [e, e2, e3]
/-- the locals at a method's entry -/
def ev_in (as : List Value) : Ev_L := (fun j => match (lv_args 0 as).lookup j with | some v => if v.category = 1 then some v else none | none => none, fun j => match (lv_args 0 as).lookup j with | some (.long x) => some x | _ => none)
theorem ev_lookup_args : ∀ (as : List Value) (i j : Nat) (v : Value), (lv_args i as).lookup j = some v → (j, v) ∈ lv_args i as
  | [], i, j, v, h => by simp [lv_args] at h
  | a :: t, i, j, v, h => by
    simp only [lv_args, List.lookup_cons] at h
    by_cases e : j = i
    · subst e
      simp at h
      subst h
      exact List.mem_cons_self
    · have e2 : (j == i) = false := by simp [e]
      rw [e2] at h
      exact List.mem_cons_of_mem _ (ev_lookup_args t _ j v h)
theorem ev_args_map (G : Ev_G) : ∀ (as : List Value) (i : Nat), lv_args i (as.map (ev_mv G)) = (lv_args i as).map (fun q => (q.1, ev_mv G q.2))
  | [], i => rfl
  | a :: t, i => by
    simp only [List.map_cons, lv_args, ev_mv_cat]
    rw [ev_args_map G t]
theorem ev_L.entry {G : Ev_G} (as : List Value) {n : Nat} (h : (lg_sl (as.map (ev_mv G))).length ≤ n) : ev_L G n (ev_in as) ((lg_sl (as.map (ev_mv G)) ++ List.replicate (n - (lg_sl (as.map (ev_mv G))).length) Slot.unset).toArray) := by
  have hl := lv_entry (as.map (ev_mv G)) h
  refine ⟨hl.1, hl.2.1, fun i v e => ?_, fun i x e => ?_⟩
  · simp only [ev_in] at e
    cases e2 : (lv_args 0 as).lookup i with
    | none => rw [e2] at e; cases e
    | some u =>
      rw [e2] at e
      by_cases hc : u.category = 1
      · simp [hc] at e
        subst e
        refine ⟨hc, hl.2.2 (i, ev_mv G u) ?_⟩
        rw [ev_args_map]
        exact List.mem_map.mpr ⟨(i, u), ev_lookup_args _ _ _ _ e2, rfl⟩
      · simp [hc] at e
  · simp only [ev_in] at e
    have h2 : (lv_args 0 as).lookup i = some (.long x) := by
      cases e2 : (lv_args 0 as).lookup i with
      | none => rw [e2] at e; cases e
      | some u => rw [e2] at e; cases u <;> simp_all
    refine hl.2.2 (i, .long x) ?_
    rw [ev_args_map]
    exact List.mem_map.mpr ⟨(i, .long x), ev_lookup_args _ _ _ _ h2, rfl⟩
/-! ===== THE MACHINE'S CONTEXT OF A WALK ===== -/
abbrev Ev_X : Type := Program × Env × Room × State × MethodId × Array Value × List Frame × Method × Code × (State → Prop)
/-- class, name, code, locals, what it returns -/
abbrev Ev_M : Type := String × MethodName × ByteArray × Nat × Option FieldType
def ev_good (w : Cond) : Bool := (w.onTables && w.keeps) || (match w with | .arrayClass _ => true | _ => false)
def ev_tbl : List Cond := lw_tbl.filter ev_good
theorem ev_tbl_in {w : Cond} (h : w ∈ ev_tbl) : w ∈ lw_tbl := (List.mem_filter.mp h).1
theorem ev_tbl_ok {w : Cond} (h : w ∈ ev_tbl) : ((w.onTables && w.keeps) = true ∨ ∃ ty, w = .arrayClass ty) := by
  have h2 := (List.mem_filter.mp h).2
  unfold ev_good at h2
  rcases Bool.or_eq_true_iff.mp h2 with h3 | h3
  · exact Or.inl h3
  · cases w <;> first | exact Or.inr ⟨_, rfl⟩ | (simp at h3)
def ev_tys (G : Ev_G) : List (ClassId × FieldType) := ev_arrs.zipIdx.map (fun q => (G.2.2.1 q.2, q.1))
abbrev ev_A (G : Ev_G) : Nat → Prop := fun q => G.2.2.2.2.size ≤ q
/-- what a state's tables say, and the static fields -/
def ev_T (G : Ev_G) (U : State) : Prop := va_K G.2.1 vwCl (ev_tys G) U ∧ va_En "ElementFiles$Sort" "LElementFiles$Sort;" ev_nm ev_fl G.2.2.2.1 (ev_A G) U G.2.2.2.2 ∧ va_Z "ElementFiles$Sort" "ALL" "[LElementFiles$Sort;" (.ref (G.2.2.2.1 17)) (ev_A G) U G.2.2.2.2 ∧ va_T (.object "ElementFiles$Sort") (G.2.2.2.1 17) 17 (fun j => .ref (G.2.2.2.1 j)) (ev_A G) U G.2.2.2.2 ∧ (∀ w ∈ ev_nest, va_Nw w U) ∧ ∀ C ∈ ev_over, va_AO C U
theorem ev_T.same {G : Ev_G} {u U : State} (h : u.vm = U.vm) (k : ev_T G u) : ev_T G U := by
  have ha : u.vm.Alike U.vm := by rw [h]; exact Vm.Alike.refl _
  exact ⟨va_K.moved ha k.1, k.2.1.moved ha, k.2.2.1.moved ha, k.2.2.2.1.moved ha, fun w hw => (k.2.2.2.2.1 w hw).same (ev_nest_tab w hw) h, fun C hC => (k.2.2.2.2.2 C hC).moved ha⟩
theorem ev_T.warm {G : Ev_G} {s U : State} (h : s.WarmedH U.vm) (k : ev_T G s) : ev_T G U :=
  ⟨va_K.moved h.alike k.1, k.2.1.moved h.alike, k.2.2.1.moved h.alike, k.2.2.2.1.moved h.alike, fun w hw => ev_nest_warm w hw h (k.2.2.2.2.1 w hw), fun C hC => (k.2.2.2.2.2 C hC).moved h.alike⟩
def ev_C (G : Ev_G) (M : Ev_M) (d : Nat) (X : Ev_X) : Prop :=
  X.1.tables.exec = Jvm.exec ∧ X.2.2.2.2.2.2.2.2.1.code = M.2.2.1 ∧ X.2.2.2.2.2.2.2.2.1.maxLocals = M.2.2.2.1 ∧ X.2.2.2.1.vm.findClass M.1 = some X.2.2.2.2.1.cls ∧ (∀ w ∈ ev_tbl, w.before X.2.2.2.2.2.1 X.2.2.2.1 = true) ∧ ev_T G X.2.2.2.1 ∧ ev_inj G ∧ (∀ q : Nat, q < G.2.2.2.2.size → X.2.2.2.1.heap[q]? = G.2.2.2.2[q]?) ∧ G.2.2.2.2.size ≤ X.2.2.2.1.heap.size ∧ d ≤ X.2.2.1.frames ∧ d * 38 ≤ X.2.2.1.locals ∧ X.2.2.2.2.2.2.2.1.locks = false
/-- the machine, at pc with these locals, this stack, this world, comes to the end that X asks; it may make bc cells of bs slots more -/
def ev_W (G : Ev_G) (M : Ev_M) (X : Ev_X) (bc bs pc : Nat) (ls : Ev_L) (st : List Value) (w : Ev_W) : Prop :=
  ∀ (H : Heap) (locs : List Loc) (a : Array Slot) (cells slots : Nat), ev_H vwCl G w H → (∀ q ∈ locs, G.2.2.2.2.size ≤ q.base) → ev_L G M.2.2.2.1 ls a → cells + bc ≤ X.2.2.1.cells → slots + bs ≤ X.2.2.1.slots →
    W X.1 G.1 X.2.1 X.2.2.1 X.2.2.2.1 X.2.2.2.2.1 X.2.2.2.2.2.1 X.2.2.2.2.2.2.1 X.2.2.2.2.2.2.2.1 X.2.2.2.2.2.2.2.2.1 H locs cells slots X.2.2.2.2.2.2.2.2.2 (F0 X.2.2.2.2.1 pc a (st.map (ev_mv G)))
def ev_rm (d mc ms : Nat) : Room := { frames := d, cells := mc, slots := ms, locals := d * 38 }
def ev_Q (G : Ev_G) (Q : Option Value → Ev_W → Prop) : Array Value → State → Outcome → State → Prop := fun _ _ o t => ∃ (v : Option Value) (w : Ev_W), o = .returned (v.map (ev_mv G)) ∧ ev_H vwCl G w t.heap ∧ Q v w
def ev_R (G : Ev_G) (M : Ev_M) (mc ms : Nat) (Q : Option Value → Ev_W → Prop) (X : Ev_X) : Prop :=
  X.2.2.2.2.2.2.2.2.2 = MQ X.2.2.2.2.2.2.1 (ev_Q G Q) X.2.2.2.2.2.1 X.2.2.2.1 mc ms (fun q => G.2.2.2.2.size ≤ q) ∧ X.2.2.1.cells = mc ∧ X.2.2.1.slots = ms ∧ X.2.2.2.2.2.2.2.1.sig.returnType = M.2.2.2.2 ∧ X.2.2.2.2.2.2.2.1.name = M.2.1.name
def ev_ws (M : Ev_M) : List Cond := Cond.code M.2.1 M.2.2.1 M.2.2.2.1 M.2.2.2.2 :: ev_tbl
/-- THE CONTRACT of a method at these arguments in this world: it returns, with Q -/
def ev_Met (G : Ev_G) (M : Ev_M) (d mc ms : Nat) (as : List Value) (w : Ev_W) (Q : Option Value → Ev_W → Prop) : Prop :=
  Met G.1 M.2.1 (ev_ws M) (ev_rm d mc ms) (va_Pc (as.map (ev_mv G)) (fun U => ev_H vwCl G w U.heap ∧ ev_T G U ∧ ev_inj G)) (ev_Q G Q) mc ms (fun q => G.2.2.2.2.size ≤ q)
/-- a method's own facts: its code is in the tables, its class is named as it must be -/
def ev_MD (M : Ev_M) : Prop := plainName M.2.1.cls = true ∧ M.2.1.cls = M.1 ∧ Cond.code M.2.1 M.2.2.1 M.2.2.2.1 M.2.2.2.2 ∈ ev_tbl ∧ M.2.2.2.1 ≤ 19
theorem ev_Met.of {G : Ev_G} {M : Ev_M} {d mc ms : Nat} {as : List Value} {w : Ev_W} {Q : Option Value → Ev_W → Prop} (hM : ev_MD M) (hn : (lg_sl (as.map (ev_mv G))).length ≤ M.2.2.2.1)
    (body : ∀ X : Ev_X, ev_C G M d X → ev_R G M mc ms Q X → ev_W G M X mc ms 0 (ev_in as) [] w) : ev_Met G M d mc ms as w Q := by
  refine Met.ofW (cc := M.2.2.1) (maxL := M.2.2.2.1) (ret := M.2.2.2.2) hM.1 rfl ?_
  intro p e s m args below meth c s₁ B hml hv
  obtain ⟨rfl, hH, hT, hi⟩ := hv
  have hts := atoms_spec (ws := ev_ws M) B.pre
  have hown : s.vm.findClass M.1 = some m.cls := by rw [← hM.2.1]; exact findClass_of_methodNamed B.named
  rw [lg_entry_eq]
  refine body (p, e, ev_rm d mc ms, s, m, (as.map (ev_mv G)).toArray, below, meth, c, MQ below (ev_Q G Q) (as.map (ev_mv G)).toArray s mc ms (fun q => G.2.2.2.2.size ≤ q)) ⟨B.exec, B.bytes, hml, hown, fun w hw => hts w (List.mem_cons_of_mem _ hw), hT, hi, hH.1, hH.2.2.1, Nat.le_refl _, Nat.le_refl _, B.notSynchronized⟩ ⟨rfl, rfl, rfl, B.returns, (name_of_methodNamed B.named B.method).1⟩ s.heap [] _ 0 0 hH (fun _ h => by cases h) (ev_L.entry as hn) (by show 0 + mc ≤ mc; omega) (by show 0 + ms ≤ ms; omega)
theorem ev_Met.mono {G : Ev_G} {M : Ev_M} {d mc ms : Nat} {as : List Value} {w : Ev_W} {Q Q' : Option Value → Ev_W → Prop} (h : ev_Met G M d mc ms as w Q) (hq : ∀ v w', Q v w' → Q' v w') : ev_Met G M d mc ms as w Q' := by
  intro p e ha hc hk s m args below hf happ hP hK
  obtain ⟨n, o, h1, h2, h3, ⟨v, w', e1, e2, e3⟩, h5⟩ := h p e ha hc hk s m args below hf happ hP hK
  exact ⟨n, o, h1, h2, h3, ⟨v, w', e1, e2, hq v w' e3⟩, h5⟩
end
section
/-! ===== A ROW AN INSTRUCTION, over pure worlds (written by wip/whole/genrules.py) ===== -/
section EvR
variable {G : Ev_G} {M : Ev_M} {d : Nat} {X : Ev_X} {bc bs pc : Nat} {ls : Ev_L} {st : List Value} {w : Ev_W}
theorem r_iconst (hX : ev_C G M d X) {n : Int} {v : Int32} (hd : decode M.2.2.1 pc = .ok (.iconst n, 1)) (hv : Int32.ofInt n = v) (k : ev_W G M X bc bs (pc + 1) ls (.int v :: st) w) : ev_W G M X bc bs pc ls (st) w := by
  obtain ⟨hx, hb, hm, ho, ht, hT, hi, hz, hzs, hdf, hdl, hlk⟩ := hX
  intro H locs a cells slots hH hl hL hc hs
  exact lv_iconst hx hb hd hv (k H locs a cells slots hH hl hL hc hs)
theorem r_bipush (hX : ev_C G M d X) {n : Int} {v : Int32} (hd : decode M.2.2.1 pc = .ok (.bipush n, 2)) (hv : (Int8.ofInt n).toInt32 = v) (k : ev_W G M X bc bs (pc + 2) ls (.int v :: st) w) : ev_W G M X bc bs pc ls (st) w := by
  obtain ⟨hx, hb, hm, ho, ht, hT, hi, hz, hzs, hdf, hdl, hlk⟩ := hX
  intro H locs a cells slots hH hl hL hc hs
  exact lv_bipush hx hb hd hv (k H locs a cells slots hH hl hL hc hs)
theorem r_sipush (hX : ev_C G M d X) {n : Int} {v : Int32} (hd : decode M.2.2.1 pc = .ok (.sipush n, 3)) (hv : (Int16.ofInt n).toInt32 = v) (k : ev_W G M X bc bs (pc + 3) ls (.int v :: st) w) : ev_W G M X bc bs pc ls (st) w := by
  obtain ⟨hx, hb, hm, ho, ht, hT, hi, hz, hzs, hdf, hdl, hlk⟩ := hX
  intro H locs a cells slots hH hl hL hc hs
  exact lv_sipush hx hb hd hv (k H locs a cells slots hH hl hL hc hs)
theorem r_lconst (hX : ev_C G M d X) {n : Fin 2} {v : Int64} (hd : decode M.2.2.1 pc = .ok (.lconst n, 1)) (hv : Int64.ofNat (n : Nat) = v) (k : ev_W G M X bc bs (pc + 1) ls (.long v :: st) w) : ev_W G M X bc bs pc ls (st) w := by
  obtain ⟨hx, hb, hm, ho, ht, hT, hi, hz, hzs, hdf, hdl, hlk⟩ := hX
  intro H locs a cells slots hH hl hL hc hs
  exact lv_lconst hx hb hd hv (k H locs a cells slots hH hl hL hc hs)
theorem r_null (hX : ev_C G M d X)  (hd : decode M.2.2.1 pc = .ok (.aconst_null, 1))  (k : ev_W G M X bc bs (pc + 1) ls (.null :: st) w) : ev_W G M X bc bs pc ls (st) w := by
  obtain ⟨hx, hb, hm, ho, ht, hT, hi, hz, hzs, hdf, hdl, hlk⟩ := hX
  intro H locs a cells slots hH hl hL hc hs
  exact lv_null hx hb hd  (k H locs a cells slots hH hl hL hc hs)
theorem r_ldc (hX : ev_C G M d X) {index : Nat} {v : Int32} (hd : decode M.2.2.1 pc = .ok (.ldc index, 2)) (hv : Cond.constant M.1 index v ∈ ev_tbl) (k : ev_W G M X bc bs (pc + 2) ls (.int v :: st) w) : ev_W G M X bc bs pc ls st w := by
  obtain ⟨hx, hb, hm, ho, ht, hT, hi, hz, hzs, hdf, hdl, hlk⟩ := hX
  intro H locs a cells slots hH hl hL hc hs
  exact lv_ldc hx hb ho (ht _ hv) hd (k H locs a cells slots hH hl hL hc hs)
theorem r_ldc2 (hX : ev_C G M d X) {index : Nat} {v : Int64} (hd : decode M.2.2.1 pc = .ok (.ldc2_w index, 3)) (hv : Cond.constantLong M.1 index v ∈ ev_tbl) (k : ev_W G M X bc bs (pc + 3) ls (.long v :: st) w) : ev_W G M X bc bs pc ls st w := by
  obtain ⟨hx, hb, hm, ho, ht, hT, hi, hz, hzs, hdf, hdl, hlk⟩ := hX
  intro H locs a cells slots hH hl hL hc hs
  exact lv_ldc2 hx hb ho (ht _ hv) hd (k H locs a cells slots hH hl hL hc hs)
theorem r_iload_n (hX : ev_C G M d X) {n : Fin 4} {x : Int32} (hd : decode M.2.2.1 pc = .ok (.iload_n n, 1)) (hv : ls.1 (n : Nat) = some (.int x)) (k : ev_W G M X bc bs (pc + 1) ls (.int x :: st) w) : ev_W G M X bc bs pc ls st w := by
  obtain ⟨hx, hb, hm, ho, ht, hT, hi, hz, hzs, hdf, hdl, hlk⟩ := hX
  intro H locs a cells slots hH hl hL hc hs
  exact lv_iload_n hx hb hd rfl (hL.2.2.1 _ _ hv).2 (k H locs a cells slots hH hl hL hc hs)
theorem r_iload (hX : ev_C G M d X) {n : Nat} {x : Int32} (hd : decode M.2.2.1 pc = .ok (.iload n, 2)) (hv : ls.1 n = some (.int x)) (k : ev_W G M X bc bs (pc + 2) ls (.int x :: st) w) : ev_W G M X bc bs pc ls st w := by
  obtain ⟨hx, hb, hm, ho, ht, hT, hi, hz, hzs, hdf, hdl, hlk⟩ := hX
  intro H locs a cells slots hH hl hL hc hs
  exact lv_iload hx hb hd (hL.2.2.1 _ _ hv).2 (k H locs a cells slots hH hl hL hc hs)
theorem r_lload_n (hX : ev_C G M d X) {n : Fin 4} {x : Int64} (hd : decode M.2.2.1 pc = .ok (.lload_n n, 1)) (hv : ls.2 (n : Nat) = some x) (k : ev_W G M X bc bs (pc + 1) ls (.long x :: st) w) : ev_W G M X bc bs pc ls st w := by
  obtain ⟨hx, hb, hm, ho, ht, hT, hi, hz, hzs, hdf, hdl, hlk⟩ := hX
  intro H locs a cells slots hH hl hL hc hs
  exact lv_lload_n hx hb hd rfl (hL.2.2.2 _ _ hv) (k H locs a cells slots hH hl hL hc hs)
theorem r_lload (hX : ev_C G M d X) {n : Nat} {x : Int64} (hd : decode M.2.2.1 pc = .ok (.lload n, 2)) (hv : ls.2 n = some x) (k : ev_W G M X bc bs (pc + 2) ls (.long x :: st) w) : ev_W G M X bc bs pc ls st w := by
  obtain ⟨hx, hb, hm, ho, ht, hT, hi, hz, hzs, hdf, hdl, hlk⟩ := hX
  intro H locs a cells slots hH hl hL hc hs
  exact lv_lload hx hb hd (hL.2.2.2 _ _ hv) (k H locs a cells slots hH hl hL hc hs)
theorem r_aload_n (hX : ev_C G M d X) {n : Fin 4} {x : Nat} (hd : decode M.2.2.1 pc = .ok (.aload_n n, 1)) (hv : ls.1 (n : Nat) = some (.ref x)) (k : ev_W G M X bc bs (pc + 1) ls ((.ref x) :: st) w) : ev_W G M X bc bs pc ls st w := by
  obtain ⟨hx, hb, hm, ho, ht, hT, hi, hz, hzs, hdf, hdl, hlk⟩ := hX
  intro H locs a cells slots hH hl hL hc hs
  exact lv_aload_n hx hb hd rfl (hL.2.2.1 _ _ hv).2 (k H locs a cells slots hH hl hL hc hs)
theorem r_aload (hX : ev_C G M d X) {n : Nat} {x : Nat} (hd : decode M.2.2.1 pc = .ok (.aload n, 2)) (hv : ls.1 n = some (.ref x)) (k : ev_W G M X bc bs (pc + 2) ls ((.ref x) :: st) w) : ev_W G M X bc bs pc ls st w := by
  obtain ⟨hx, hb, hm, ho, ht, hT, hi, hz, hzs, hdf, hdl, hlk⟩ := hX
  intro H locs a cells slots hH hl hL hc hs
  exact lv_aload hx hb hd (hL.2.2.1 _ _ hv).2 (k H locs a cells slots hH hl hL hc hs)
theorem r_aload_nN (hX : ev_C G M d X) {n : Fin 4} (hd : decode M.2.2.1 pc = .ok (.aload_n n, 1)) (hv : ls.1 (n : Nat) = some .null) (k : ev_W G M X bc bs (pc + 1) ls (.null :: st) w) : ev_W G M X bc bs pc ls st w := by
  obtain ⟨hx, hb, hm, ho, ht, hT, hi, hz, hzs, hdf, hdl, hlk⟩ := hX
  intro H locs a cells slots hH hl hL hc hs
  exact lv_aload_nN hx hb hd rfl (hL.2.2.1 _ _ hv).2 (k H locs a cells slots hH hl hL hc hs)
theorem r_aloadN (hX : ev_C G M d X) {n : Nat} (hd : decode M.2.2.1 pc = .ok (.aload n, 2)) (hv : ls.1 n = some .null) (k : ev_W G M X bc bs (pc + 2) ls (.null :: st) w) : ev_W G M X bc bs pc ls st w := by
  obtain ⟨hx, hb, hm, ho, ht, hT, hi, hz, hzs, hdf, hdl, hlk⟩ := hX
  intro H locs a cells slots hH hl hL hc hs
  exact lv_aloadN hx hb hd (hL.2.2.1 _ _ hv).2 (k H locs a cells slots hH hl hL hc hs)
theorem r_aload_nq (hX : ev_C G M d X) {n : Fin 4} {o : Option Nat} (hd : decode M.2.2.1 pc = .ok (.aload_n n, 1)) (hv : ls.1 (n : Nat) = some (va_rf o)) (k : ev_W G M X bc bs (pc + 1) ls (va_rf o :: st) w) : ev_W G M X bc bs pc ls st w := by
  cases o with
  | none => exact r_aload_nN hX hd hv k
  | some x => exact r_aload_n hX hd hv k
theorem r_aloadq (hX : ev_C G M d X) {n : Nat} {o : Option Nat} (hd : decode M.2.2.1 pc = .ok (.aload n, 2)) (hv : ls.1 n = some (va_rf o)) (k : ev_W G M X bc bs (pc + 2) ls (va_rf o :: st) w) : ev_W G M X bc bs pc ls st w := by
  cases o with
  | none => exact r_aloadN hX hd hv k
  | some x => exact r_aload hX hd hv k
theorem r_istore_n (hX : ev_C G M d X) {n : Fin 4} {x : Int32} (hd : decode M.2.2.1 pc = .ok (.istore_n n, 1)) (hn : (n : Nat) < M.2.2.2.1) (k : ev_W G M X bc bs (pc + 1) (ev_st ls (n : Nat) (.int x)) st w) : ev_W G M X bc bs pc ls ((.int x) :: st) w := by
  obtain ⟨hx, hb, hm, ho, ht, hT, hi, hz, hzs, hdf, hdl, hlk⟩ := hX
  intro H locs a cells slots hH hl hL hc hs
  exact lv_istore_n hx hb hd rfl hL.has hn rfl (fun a' h' => k H locs a' cells slots hH hl (hL.st rfl h') hc hs)
theorem r_istore (hX : ev_C G M d X) {n : Nat} {x : Int32} (hd : decode M.2.2.1 pc = .ok (.istore n, 2)) (hn : n < M.2.2.2.1) (k : ev_W G M X bc bs (pc + 2) (ev_st ls n (.int x)) st w) : ev_W G M X bc bs pc ls ((.int x) :: st) w := by
  obtain ⟨hx, hb, hm, ho, ht, hT, hi, hz, hzs, hdf, hdl, hlk⟩ := hX
  intro H locs a cells slots hH hl hL hc hs
  exact lv_istore hx hb hd hL.has hn rfl (fun a' h' => k H locs a' cells slots hH hl (hL.st rfl h') hc hs)
theorem r_astore_n (hX : ev_C G M d X) {n : Fin 4} {x : Nat} (hd : decode M.2.2.1 pc = .ok (.astore_n n, 1)) (hn : (n : Nat) < M.2.2.2.1) (k : ev_W G M X bc bs (pc + 1) (ev_st ls (n : Nat) (.ref x)) st w) : ev_W G M X bc bs pc ls ((.ref x) :: st) w := by
  obtain ⟨hx, hb, hm, ho, ht, hT, hi, hz, hzs, hdf, hdl, hlk⟩ := hX
  intro H locs a cells slots hH hl hL hc hs
  exact lv_astore_n hx hb hd rfl hL.has hn rfl (fun a' h' => k H locs a' cells slots hH hl (hL.st rfl h') hc hs)
theorem r_astore (hX : ev_C G M d X) {n : Nat} {x : Nat} (hd : decode M.2.2.1 pc = .ok (.astore n, 2)) (hn : n < M.2.2.2.1) (k : ev_W G M X bc bs (pc + 2) (ev_st ls n (.ref x)) st w) : ev_W G M X bc bs pc ls ((.ref x) :: st) w := by
  obtain ⟨hx, hb, hm, ho, ht, hT, hi, hz, hzs, hdf, hdl, hlk⟩ := hX
  intro H locs a cells slots hH hl hL hc hs
  exact lv_astore hx hb hd hL.has hn rfl (fun a' h' => k H locs a' cells slots hH hl (hL.st rfl h') hc hs)
theorem r_astore_nN (hX : ev_C G M d X) {n : Fin 4}  (hd : decode M.2.2.1 pc = .ok (.astore_n n, 1)) (hn : (n : Nat) < M.2.2.2.1) (k : ev_W G M X bc bs (pc + 1) (ev_st ls (n : Nat) .null) st w) : ev_W G M X bc bs pc ls (.null :: st) w := by
  obtain ⟨hx, hb, hm, ho, ht, hT, hi, hz, hzs, hdf, hdl, hlk⟩ := hX
  intro H locs a cells slots hH hl hL hc hs
  exact lv_astore_nN hx hb hd rfl hL.has hn rfl (fun a' h' => k H locs a' cells slots hH hl (hL.st rfl h') hc hs)
theorem r_astoreN (hX : ev_C G M d X) {n : Nat}  (hd : decode M.2.2.1 pc = .ok (.astore n, 2)) (hn : n < M.2.2.2.1) (k : ev_W G M X bc bs (pc + 2) (ev_st ls n .null) st w) : ev_W G M X bc bs pc ls (.null :: st) w := by
  obtain ⟨hx, hb, hm, ho, ht, hT, hi, hz, hzs, hdf, hdl, hlk⟩ := hX
  intro H locs a cells slots hH hl hL hc hs
  exact lv_astoreN hx hb hd hL.has hn rfl (fun a' h' => k H locs a' cells slots hH hl (hL.st rfl h') hc hs)
theorem r_astore_nq (hX : ev_C G M d X) {n : Fin 4} {o : Option Nat} (hd : decode M.2.2.1 pc = .ok (.astore_n n, 1)) (hn : (n : Nat) < M.2.2.2.1) (k : ev_W G M X bc bs (pc + 1) (ev_st ls (n : Nat) (va_rf o)) st w) : ev_W G M X bc bs pc ls (va_rf o :: st) w := by
  cases o with
  | none => exact r_astore_nN hX hd hn k
  | some x => exact r_astore_n hX hd hn k
theorem r_astoreq (hX : ev_C G M d X) {n : Nat} {o : Option Nat} (hd : decode M.2.2.1 pc = .ok (.astore n, 2)) (hn : n < M.2.2.2.1) (k : ev_W G M X bc bs (pc + 2) (ev_st ls n (va_rf o)) st w) : ev_W G M X bc bs pc ls (va_rf o :: st) w := by
  cases o with
  | none => exact r_astoreN hX hd hn k
  | some x => exact r_astore hX hd hn k
theorem r_lstore_n (hX : ev_C G M d X) {n : Fin 4} {x : Int64} (hd : decode M.2.2.1 pc = .ok (.lstore_n n, 1)) (hn : (n : Nat) + 1 < M.2.2.2.1) (k : ev_W G M X bc bs (pc + 1) (ev_sl ls (n : Nat) x) st w) : ev_W G M X bc bs pc ls (.long x :: st) w := by
  obtain ⟨hx, hb, hm, ho, ht, hT, hi, hz, hzs, hdf, hdl, hlk⟩ := hX
  intro H locs a cells slots hH hl hL hc hs
  exact lv_lstore_n hx hb hd rfl hL.has hn rfl (fun a' h' => k H locs a' cells slots hH hl (hL.sl h') hc hs)
theorem r_lstore (hX : ev_C G M d X) {n : Nat} {x : Int64} (hd : decode M.2.2.1 pc = .ok (.lstore n, 2)) (hn : n + 1 < M.2.2.2.1) (k : ev_W G M X bc bs (pc + 2) (ev_sl ls n x) st w) : ev_W G M X bc bs pc ls (.long x :: st) w := by
  obtain ⟨hx, hb, hm, ho, ht, hT, hi, hz, hzs, hdf, hdl, hlk⟩ := hX
  intro H locs a cells slots hH hl hL hc hs
  exact lv_lstore hx hb hd hL.has hn rfl (fun a' h' => k H locs a' cells slots hH hl (hL.sl h') hc hs)
theorem r_iinc (hX : ev_C G M d X) {i : Nat} {n : Int} {x : Int32} (hd : decode M.2.2.1 pc = .ok (.iinc i n, 3)) (hv : ls.1 i = some (.int x)) (k : ev_W G M X bc bs (pc + 3) (ev_st ls i (.int (x + Int32.ofInt n))) st w) : ev_W G M X bc bs pc ls st w := by
  obtain ⟨hx, hb, hm, ho, ht, hT, hi, hz, hzs, hdf, hdl, hlk⟩ := hX
  intro H locs a cells slots hH hl hL hc hs
  have hlt := ev_lt hL (hL.2.2.1 _ _ hv).2
  obtain ⟨q, hq⟩ := List.getElem?_of_mem (ev_tab1 (G := G) hlt hv)
  exact lv_iinc hx hb hd hL.has hq rfl hlt rfl (fun a' h' => k H locs a' cells slots hH hl (hL.st rfl h') hc hs)
theorem r_iadd (hX : ev_C G M d X) {x y : Int32} (hd : decode M.2.2.1 pc = .ok (.iadd, 1))  (k : ev_W G M X bc bs (pc + 1) ls (.int (x + y) :: st) w) : ev_W G M X bc bs pc ls (.int y :: .int x :: st) w := by
  obtain ⟨hx, hb, hm, ho, ht, hT, hi, hz, hzs, hdf, hdl, hlk⟩ := hX
  intro H locs a cells slots hH hl hL hc hs
  exact lv_iadd hx hb hd  (k H locs a cells slots hH hl hL hc hs)
theorem r_isub (hX : ev_C G M d X) {x y : Int32} (hd : decode M.2.2.1 pc = .ok (.isub, 1))  (k : ev_W G M X bc bs (pc + 1) ls (.int (x - y) :: st) w) : ev_W G M X bc bs pc ls (.int y :: .int x :: st) w := by
  obtain ⟨hx, hb, hm, ho, ht, hT, hi, hz, hzs, hdf, hdl, hlk⟩ := hX
  intro H locs a cells slots hH hl hL hc hs
  exact lv_isub hx hb hd  (k H locs a cells slots hH hl hL hc hs)
theorem r_imul (hX : ev_C G M d X) {x y : Int32} (hd : decode M.2.2.1 pc = .ok (.imul, 1))  (k : ev_W G M X bc bs (pc + 1) ls (.int (x * y) :: st) w) : ev_W G M X bc bs pc ls (.int y :: .int x :: st) w := by
  obtain ⟨hx, hb, hm, ho, ht, hT, hi, hz, hzs, hdf, hdl, hlk⟩ := hX
  intro H locs a cells slots hH hl hL hc hs
  exact lv_imul hx hb hd  (k H locs a cells slots hH hl hL hc hs)
theorem r_iand (hX : ev_C G M d X) {x y : Int32} (hd : decode M.2.2.1 pc = .ok (.iand, 1))  (k : ev_W G M X bc bs (pc + 1) ls (.int (x &&& y) :: st) w) : ev_W G M X bc bs pc ls (.int y :: .int x :: st) w := by
  obtain ⟨hx, hb, hm, ho, ht, hT, hi, hz, hzs, hdf, hdl, hlk⟩ := hX
  intro H locs a cells slots hH hl hL hc hs
  exact lv_iand hx hb hd  (k H locs a cells slots hH hl hL hc hs)
theorem r_ior (hX : ev_C G M d X) {x y : Int32} (hd : decode M.2.2.1 pc = .ok (.ior, 1))  (k : ev_W G M X bc bs (pc + 1) ls (.int (x ||| y) :: st) w) : ev_W G M X bc bs pc ls (.int y :: .int x :: st) w := by
  obtain ⟨hx, hb, hm, ho, ht, hT, hi, hz, hzs, hdf, hdl, hlk⟩ := hX
  intro H locs a cells slots hH hl hL hc hs
  exact lv_ior hx hb hd  (k H locs a cells slots hH hl hL hc hs)
theorem r_ixor (hX : ev_C G M d X) {x y : Int32} (hd : decode M.2.2.1 pc = .ok (.ixor, 1))  (k : ev_W G M X bc bs (pc + 1) ls (.int (x ^^^ y) :: st) w) : ev_W G M X bc bs pc ls (.int y :: .int x :: st) w := by
  obtain ⟨hx, hb, hm, ho, ht, hT, hi, hz, hzs, hdf, hdl, hlk⟩ := hX
  intro H locs a cells slots hH hl hL hc hs
  exact lv_ixor hx hb hd  (k H locs a cells slots hH hl hL hc hs)
theorem r_ishl (hX : ev_C G M d X) {x y : Int32} (hd : decode M.2.2.1 pc = .ok (.ishl, 1))  (k : ev_W G M X bc bs (pc + 1) ls (.int (x <<< (y &&& 31)) :: st) w) : ev_W G M X bc bs pc ls (.int y :: .int x :: st) w := by
  obtain ⟨hx, hb, hm, ho, ht, hT, hi, hz, hzs, hdf, hdl, hlk⟩ := hX
  intro H locs a cells slots hH hl hL hc hs
  exact lv_ishl hx hb hd  (k H locs a cells slots hH hl hL hc hs)
theorem r_ishr (hX : ev_C G M d X) {x y : Int32} (hd : decode M.2.2.1 pc = .ok (.ishr, 1))  (k : ev_W G M X bc bs (pc + 1) ls (.int (x >>> (y &&& 31)) :: st) w) : ev_W G M X bc bs pc ls (.int y :: .int x :: st) w := by
  obtain ⟨hx, hb, hm, ho, ht, hT, hi, hz, hzs, hdf, hdl, hlk⟩ := hX
  intro H locs a cells slots hH hl hL hc hs
  exact lv_ishr hx hb hd  (k H locs a cells slots hH hl hL hc hs)
theorem r_iushr (hX : ev_C G M d X) {x y : Int32} (hd : decode M.2.2.1 pc = .ok (.iushr, 1))  (k : ev_W G M X bc bs (pc + 1) ls (.int ((x.toUInt32 >>> (y.toUInt32 &&& Int32.toUInt32 31)).toInt32) :: st) w) : ev_W G M X bc bs pc ls (.int y :: .int x :: st) w := by
  obtain ⟨hx, hb, hm, ho, ht, hT, hi, hz, hzs, hdf, hdl, hlk⟩ := hX
  intro H locs a cells slots hH hl hL hc hs
  exact lv_iushr hx hb hd rfl (k H locs a cells slots hH hl hL hc hs)
theorem r_idiv (hX : ev_C G M d X) {x y : Int32} (hd : decode M.2.2.1 pc = .ok (.idiv, 1)) (hne : ¬ y = 0) (k : ev_W G M X bc bs (pc + 1) ls (.int (x / y) :: st) w) : ev_W G M X bc bs pc ls (.int y :: .int x :: st) w := by
  obtain ⟨hx, hb, hm, ho, ht, hT, hi, hz, hzs, hdf, hdl, hlk⟩ := hX
  intro H locs a cells slots hH hl hL hc hs
  exact lv_idiv hx hb hd hne (k H locs a cells slots hH hl hL hc hs)
theorem r_irem (hX : ev_C G M d X) {x y : Int32} (hd : decode M.2.2.1 pc = .ok (.irem, 1)) (hne : ¬ y = 0) (k : ev_W G M X bc bs (pc + 1) ls (.int (x - x / y * y) :: st) w) : ev_W G M X bc bs pc ls (.int y :: .int x :: st) w := by
  obtain ⟨hx, hb, hm, ho, ht, hT, hi, hz, hzs, hdf, hdl, hlk⟩ := hX
  intro H locs a cells slots hH hl hL hc hs
  exact lv_irem hx hb hd hne (k H locs a cells slots hH hl hL hc hs)
theorem r_ineg (hX : ev_C G M d X) {x : Int32} (hd : decode M.2.2.1 pc = .ok (.ineg, 1))  (k : ev_W G M X bc bs (pc + 1) ls (.int (-x) :: st) w) : ev_W G M X bc bs pc ls (.int x :: st) w := by
  obtain ⟨hx, hb, hm, ho, ht, hT, hi, hz, hzs, hdf, hdl, hlk⟩ := hX
  intro H locs a cells slots hH hl hL hc hs
  exact lv_ineg hx hb hd  (k H locs a cells slots hH hl hL hc hs)
theorem r_ladd (hX : ev_C G M d X) {x y : Int64} (hd : decode M.2.2.1 pc = .ok (.ladd, 1))  (k : ev_W G M X bc bs (pc + 1) ls (.long (x + y) :: st) w) : ev_W G M X bc bs pc ls (.long y :: .long x :: st) w := by
  obtain ⟨hx, hb, hm, ho, ht, hT, hi, hz, hzs, hdf, hdl, hlk⟩ := hX
  intro H locs a cells slots hH hl hL hc hs
  exact lv_ladd hx hb hd  (k H locs a cells slots hH hl hL hc hs)
theorem r_lsub (hX : ev_C G M d X) {x y : Int64} (hd : decode M.2.2.1 pc = .ok (.lsub, 1))  (k : ev_W G M X bc bs (pc + 1) ls (.long (x - y) :: st) w) : ev_W G M X bc bs pc ls (.long y :: .long x :: st) w := by
  obtain ⟨hx, hb, hm, ho, ht, hT, hi, hz, hzs, hdf, hdl, hlk⟩ := hX
  intro H locs a cells slots hH hl hL hc hs
  exact lv_lsub hx hb hd  (k H locs a cells slots hH hl hL hc hs)
theorem r_lmul (hX : ev_C G M d X) {x y : Int64} (hd : decode M.2.2.1 pc = .ok (.lmul, 1))  (k : ev_W G M X bc bs (pc + 1) ls (.long (x * y) :: st) w) : ev_W G M X bc bs pc ls (.long y :: .long x :: st) w := by
  obtain ⟨hx, hb, hm, ho, ht, hT, hi, hz, hzs, hdf, hdl, hlk⟩ := hX
  intro H locs a cells slots hH hl hL hc hs
  exact lv_lmul hx hb hd  (k H locs a cells slots hH hl hL hc hs)
theorem r_land (hX : ev_C G M d X) {x y : Int64} (hd : decode M.2.2.1 pc = .ok (.land, 1))  (k : ev_W G M X bc bs (pc + 1) ls (.long (x &&& y) :: st) w) : ev_W G M X bc bs pc ls (.long y :: .long x :: st) w := by
  obtain ⟨hx, hb, hm, ho, ht, hT, hi, hz, hzs, hdf, hdl, hlk⟩ := hX
  intro H locs a cells slots hH hl hL hc hs
  exact lv_land hx hb hd  (k H locs a cells slots hH hl hL hc hs)
theorem r_lor (hX : ev_C G M d X) {x y : Int64} (hd : decode M.2.2.1 pc = .ok (.lor, 1))  (k : ev_W G M X bc bs (pc + 1) ls (.long (x ||| y) :: st) w) : ev_W G M X bc bs pc ls (.long y :: .long x :: st) w := by
  obtain ⟨hx, hb, hm, ho, ht, hT, hi, hz, hzs, hdf, hdl, hlk⟩ := hX
  intro H locs a cells slots hH hl hL hc hs
  exact lv_lor hx hb hd  (k H locs a cells slots hH hl hL hc hs)
theorem r_lxor (hX : ev_C G M d X) {x y : Int64} (hd : decode M.2.2.1 pc = .ok (.lxor, 1))  (k : ev_W G M X bc bs (pc + 1) ls (.long (x ^^^ y) :: st) w) : ev_W G M X bc bs pc ls (.long y :: .long x :: st) w := by
  obtain ⟨hx, hb, hm, ho, ht, hT, hi, hz, hzs, hdf, hdl, hlk⟩ := hX
  intro H locs a cells slots hH hl hL hc hs
  exact lv_lxor hx hb hd  (k H locs a cells slots hH hl hL hc hs)
theorem r_lneg (hX : ev_C G M d X) {x : Int64} (hd : decode M.2.2.1 pc = .ok (.lneg, 1))  (k : ev_W G M X bc bs (pc + 1) ls (.long (-x) :: st) w) : ev_W G M X bc bs pc ls (.long x :: st) w := by
  obtain ⟨hx, hb, hm, ho, ht, hT, hi, hz, hzs, hdf, hdl, hlk⟩ := hX
  intro H locs a cells slots hH hl hL hc hs
  exact lv_lneg hx hb hd  (k H locs a cells slots hH hl hL hc hs)
theorem r_lshl (hX : ev_C G M d X) {x : Int64} {y : Int32} (hd : decode M.2.2.1 pc = .ok (.lshl, 1))  (k : ev_W G M X bc bs (pc + 1) ls (.long (x <<< (y.toInt64 &&& 63)) :: st) w) : ev_W G M X bc bs pc ls (.int y :: .long x :: st) w := by
  obtain ⟨hx, hb, hm, ho, ht, hT, hi, hz, hzs, hdf, hdl, hlk⟩ := hX
  intro H locs a cells slots hH hl hL hc hs
  exact lv_lshl hx hb hd rfl (k H locs a cells slots hH hl hL hc hs)
theorem r_lshr (hX : ev_C G M d X) {x : Int64} {y : Int32} (hd : decode M.2.2.1 pc = .ok (.lshr, 1))  (k : ev_W G M X bc bs (pc + 1) ls (.long (x >>> (y.toInt64 &&& 63)) :: st) w) : ev_W G M X bc bs pc ls (.int y :: .long x :: st) w := by
  obtain ⟨hx, hb, hm, ho, ht, hT, hi, hz, hzs, hdf, hdl, hlk⟩ := hX
  intro H locs a cells slots hH hl hL hc hs
  exact lv_lshr hx hb hd rfl (k H locs a cells slots hH hl hL hc hs)
theorem r_lushr (hX : ev_C G M d X) {x : Int64} {y : Int32} (hd : decode M.2.2.1 pc = .ok (.lushr, 1))  (k : ev_W G M X bc bs (pc + 1) ls (.long ((x.toUInt64 >>> (y.toInt64.toUInt64 &&& Int64.toUInt64 63)).toInt64) :: st) w) : ev_W G M X bc bs pc ls (.int y :: .long x :: st) w := by
  obtain ⟨hx, hb, hm, ho, ht, hT, hi, hz, hzs, hdf, hdl, hlk⟩ := hX
  intro H locs a cells slots hH hl hL hc hs
  exact lv_lushr hx hb hd rfl (k H locs a cells slots hH hl hL hc hs)
theorem r_i2l (hX : ev_C G M d X) {x : Int32} (hd : decode M.2.2.1 pc = .ok (.i2l, 1))  (k : ev_W G M X bc bs (pc + 1) ls (.long x.toInt64 :: st) w) : ev_W G M X bc bs pc ls (.int x :: st) w := by
  obtain ⟨hx, hb, hm, ho, ht, hT, hi, hz, hzs, hdf, hdl, hlk⟩ := hX
  intro H locs a cells slots hH hl hL hc hs
  exact lv_i2l hx hb hd rfl (k H locs a cells slots hH hl hL hc hs)
theorem r_l2i (hX : ev_C G M d X) {x : Int64} (hd : decode M.2.2.1 pc = .ok (.l2i, 1))  (k : ev_W G M X bc bs (pc + 1) ls (.int x.toInt32 :: st) w) : ev_W G M X bc bs pc ls (.long x :: st) w := by
  obtain ⟨hx, hb, hm, ho, ht, hT, hi, hz, hzs, hdf, hdl, hlk⟩ := hX
  intro H locs a cells slots hH hl hL hc hs
  exact lv_l2i hx hb hd rfl (k H locs a cells slots hH hl hL hc hs)
theorem r_i2b (hX : ev_C G M d X) {x : Int32} (hd : decode M.2.2.1 pc = .ok (.i2b, 1))  (k : ev_W G M X bc bs (pc + 1) ls (.int x.toInt8.toInt32 :: st) w) : ev_W G M X bc bs pc ls (.int x :: st) w := by
  obtain ⟨hx, hb, hm, ho, ht, hT, hi, hz, hzs, hdf, hdl, hlk⟩ := hX
  intro H locs a cells slots hH hl hL hc hs
  exact lv_i2b hx hb hd rfl (k H locs a cells slots hH hl hL hc hs)
theorem r_i2s (hX : ev_C G M d X) {x : Int32} (hd : decode M.2.2.1 pc = .ok (.i2s, 1))  (k : ev_W G M X bc bs (pc + 1) ls (.int x.toInt16.toInt32 :: st) w) : ev_W G M X bc bs pc ls (.int x :: st) w := by
  obtain ⟨hx, hb, hm, ho, ht, hT, hi, hz, hzs, hdf, hdl, hlk⟩ := hX
  intro H locs a cells slots hH hl hL hc hs
  exact lv_i2s hx hb hd rfl (k H locs a cells slots hH hl hL hc hs)
theorem r_i2c (hX : ev_C G M d X) {x : Int32} (hd : decode M.2.2.1 pc = .ok (.i2c, 1))  (k : ev_W G M X bc bs (pc + 1) ls (.int (x.toUInt32 % 65536).toInt32 :: st) w) : ev_W G M X bc bs pc ls (.int x :: st) w := by
  obtain ⟨hx, hb, hm, ho, ht, hT, hi, hz, hzs, hdf, hdl, hlk⟩ := hX
  intro H locs a cells slots hH hl hL hc hs
  exact lv_i2c hx hb hd rfl (k H locs a cells slots hH hl hL hc hs)
theorem r_lcmp (hX : ev_C G M d X) {x y : Int64} (hd : decode M.2.2.1 pc = .ok (.lcmp, 1))  (k : ev_W G M X bc bs (pc + 1) ls (.int (lg_cmp x y) :: st) w) : ev_W G M X bc bs pc ls (.long y :: .long x :: st) w := by
  obtain ⟨hx, hb, hm, ho, ht, hT, hi, hz, hzs, hdf, hdl, hlk⟩ := hX
  intro H locs a cells slots hH hl hL hc hs
  exact W.lcmp hx hb hd  (k H locs a cells slots hH hl hL hc hs)
theorem r_dup (hX : ev_C G M d X) {v : Value} (hd : decode M.2.2.1 pc = .ok (.dup, 1)) (h1 : v.category = 1) (k : ev_W G M X bc bs (pc + 1) ls (v :: v :: st) w) : ev_W G M X bc bs pc ls (v :: st) w := by
  obtain ⟨hx, hb, hm, ho, ht, hT, hi, hz, hzs, hdf, hdl, hlk⟩ := hX
  intro H locs a cells slots hH hl hL hc hs
  exact lv_dup hx hb hd (by rw [ev_mv_cat]; exact h1) (k H locs a cells slots hH hl hL hc hs)
theorem r_pop (hX : ev_C G M d X) {v : Value} (hd : decode M.2.2.1 pc = .ok (.pop, 1)) (h1 : v.category = 1) (k : ev_W G M X bc bs (pc + 1) ls (st) w) : ev_W G M X bc bs pc ls (v :: st) w := by
  obtain ⟨hx, hb, hm, ho, ht, hT, hi, hz, hzs, hdf, hdl, hlk⟩ := hX
  intro H locs a cells slots hH hl hL hc hs
  exact lv_pop hx hb hd (by rw [ev_mv_cat]; exact h1) (k H locs a cells slots hH hl hL hc hs)
theorem r_dup_x1 (hX : ev_C G M d X) {v u : Value} (hd : decode M.2.2.1 pc = .ok (.dup_x1, 1)) (h1 : v.category = 1) (h2 : u.category = 1) (k : ev_W G M X bc bs (pc + 1) ls (v :: u :: v :: st) w) : ev_W G M X bc bs pc ls (v :: u :: st) w := by
  obtain ⟨hx, hb, hm, ho, ht, hT, hi, hz, hzs, hdf, hdl, hlk⟩ := hX
  intro H locs a cells slots hH hl hL hc hs
  exact lv_dup_x1 hx hb hd (by rw [ev_mv_cat]; exact h1) (by rw [ev_mv_cat]; exact h2) (k H locs a cells slots hH hl hL hc hs)
theorem r_dup_x2 (hX : ev_C G M d X) {v u z : Value} (hd : decode M.2.2.1 pc = .ok (.dup_x2, 1)) (h1 : v.category = 1) (h2 : u.category = 1) (h3 : z.category = 1) (k : ev_W G M X bc bs (pc + 1) ls (v :: u :: z :: v :: st) w) : ev_W G M X bc bs pc ls (v :: u :: z :: st) w := by
  obtain ⟨hx, hb, hm, ho, ht, hT, hi, hz, hzs, hdf, hdl, hlk⟩ := hX
  intro H locs a cells slots hH hl hL hc hs
  exact lv_dup_x2 hx hb hd (by rw [ev_mv_cat]; exact h1) (by rw [ev_mv_cat]; exact h2) (by rw [ev_mv_cat]; exact h3) (k H locs a cells slots hH hl hL hc hs)
theorem r_dup2 (hX : ev_C G M d X) {v u : Value} (hd : decode M.2.2.1 pc = .ok (.dup2, 1)) (h1 : v.category = 1) (h2 : u.category = 1) (k : ev_W G M X bc bs (pc + 1) ls (v :: u :: v :: u :: st) w) : ev_W G M X bc bs pc ls (v :: u :: st) w := by
  obtain ⟨hx, hb, hm, ho, ht, hT, hi, hz, hzs, hdf, hdl, hlk⟩ := hX
  intro H locs a cells slots hH hl hL hc hs
  exact lv_dup2_11 hx hb hd (by rw [ev_mv_cat]; exact h1) (by rw [ev_mv_cat]; exact h2) (k H locs a cells slots hH hl hL hc hs)
theorem r_dup2L (hX : ev_C G M d X) {v : Value} (hd : decode M.2.2.1 pc = .ok (.dup2, 1)) (h1 : v.category = 2) (k : ev_W G M X bc bs (pc + 1) ls (v :: v :: st) w) : ev_W G M X bc bs pc ls (v :: st) w := by
  obtain ⟨hx, hb, hm, ho, ht, hT, hi, hz, hzs, hdf, hdl, hlk⟩ := hX
  intro H locs a cells slots hH hl hL hc hs
  exact lv_dup2_2 hx hb hd (by rw [ev_mv_cat]; exact h1) (k H locs a cells slots hH hl hL hc hs)
theorem r_dup2_x1L (hX : ev_C G M d X) {v u : Value} (hd : decode M.2.2.1 pc = .ok (.dup2_x1, 1)) (h1 : v.category = 2) (h2 : u.category = 1) (k : ev_W G M X bc bs (pc + 1) ls (v :: u :: v :: st) w) : ev_W G M X bc bs pc ls (v :: u :: st) w := by
  obtain ⟨hx, hb, hm, ho, ht, hT, hi, hz, hzs, hdf, hdl, hlk⟩ := hX
  intro H locs a cells slots hH hl hL hc hs
  exact lv_dup2_x1_2 hx hb hd (by rw [ev_mv_cat]; exact h1) (by rw [ev_mv_cat]; exact h2) (k H locs a cells slots hH hl hL hc hs)
theorem r_dup2_x2L (hX : ev_C G M d X) {v u z : Value} (hd : decode M.2.2.1 pc = .ok (.dup2_x2, 1)) (h1 : v.category = 2) (h2 : u.category = 1) (h3 : z.category = 1) (k : ev_W G M X bc bs (pc + 1) ls (v :: u :: z :: v :: st) w) : ev_W G M X bc bs pc ls (v :: u :: z :: st) w := by
  obtain ⟨hx, hb, hm, ho, ht, hT, hi, hz, hzs, hdf, hdl, hlk⟩ := hX
  intro H locs a cells slots hH hl hL hc hs
  exact lv_dup2_x2_2 hx hb hd (by rw [ev_mv_cat]; exact h1) (by rw [ev_mv_cat]; exact h2) (by rw [ev_mv_cat]; exact h3) (k H locs a cells slots hH hl hL hc hs)
theorem r_pop2L (hX : ev_C G M d X) {v : Value} (hd : decode M.2.2.1 pc = .ok (.pop2, 1)) (h1 : v.category = 2) (k : ev_W G M X bc bs (pc + 1) ls (st) w) : ev_W G M X bc bs pc ls (v :: st) w := by
  obtain ⟨hx, hb, hm, ho, ht, hT, hi, hz, hzs, hdf, hdl, hlk⟩ := hX
  intro H locs a cells slots hH hl hL hc hs
  exact lv_pop2_2 hx hb hd (by rw [ev_mv_cat]; exact h1) (k H locs a cells slots hH hl hL hc hs)
theorem r_if_eq (hX : ev_C G M d X) {x : Int32} {off : Int} (tgt : Nat) (hd : decode M.2.2.1 pc = .ok (.ifCond .eq off, 3)) (hg : (pc : Int) + off = (tgt : Int)) (kt : x = 0 → ev_W G M X bc bs tgt ls st w) (kf : ¬ x = 0 → ev_W G M X bc bs (pc + 3) ls st w) : ev_W G M X bc bs pc ls (.int x :: st) w := by
  obtain ⟨hx, hb, hm, ho, ht, hT, hi, hz, hzs, hdf, hdl, hlk⟩ := hX
  intro H locs a cells slots hH hl hL hc hs
  exact lv_if_eq hx hb hd hg (fun q => kt q H locs a cells slots hH hl hL hc hs) (fun q => kf q H locs a cells slots hH hl hL hc hs)
theorem r_if_ne (hX : ev_C G M d X) {x : Int32} {off : Int} (tgt : Nat) (hd : decode M.2.2.1 pc = .ok (.ifCond .ne off, 3)) (hg : (pc : Int) + off = (tgt : Int)) (kt : ¬ x = 0 → ev_W G M X bc bs tgt ls st w) (kf : x = 0 → ev_W G M X bc bs (pc + 3) ls st w) : ev_W G M X bc bs pc ls (.int x :: st) w := by
  obtain ⟨hx, hb, hm, ho, ht, hT, hi, hz, hzs, hdf, hdl, hlk⟩ := hX
  intro H locs a cells slots hH hl hL hc hs
  exact lv_if_ne hx hb hd hg (fun q => kt q H locs a cells slots hH hl hL hc hs) (fun q => kf q H locs a cells slots hH hl hL hc hs)
theorem r_if_lt (hX : ev_C G M d X) {x : Int32} {off : Int} (tgt : Nat) (hd : decode M.2.2.1 pc = .ok (.ifCond .lt off, 3)) (hg : (pc : Int) + off = (tgt : Int)) (kt : x < 0 → ev_W G M X bc bs tgt ls st w) (kf : ¬ x < 0 → ev_W G M X bc bs (pc + 3) ls st w) : ev_W G M X bc bs pc ls (.int x :: st) w := by
  obtain ⟨hx, hb, hm, ho, ht, hT, hi, hz, hzs, hdf, hdl, hlk⟩ := hX
  intro H locs a cells slots hH hl hL hc hs
  exact lv_if_lt hx hb hd hg (fun q => kt q H locs a cells slots hH hl hL hc hs) (fun q => kf q H locs a cells slots hH hl hL hc hs)
theorem r_if_ge (hX : ev_C G M d X) {x : Int32} {off : Int} (tgt : Nat) (hd : decode M.2.2.1 pc = .ok (.ifCond .ge off, 3)) (hg : (pc : Int) + off = (tgt : Int)) (kt : 0 ≤ x → ev_W G M X bc bs tgt ls st w) (kf : ¬ 0 ≤ x → ev_W G M X bc bs (pc + 3) ls st w) : ev_W G M X bc bs pc ls (.int x :: st) w := by
  obtain ⟨hx, hb, hm, ho, ht, hT, hi, hz, hzs, hdf, hdl, hlk⟩ := hX
  intro H locs a cells slots hH hl hL hc hs
  exact lv_if_ge hx hb hd hg (fun q => kt q H locs a cells slots hH hl hL hc hs) (fun q => kf q H locs a cells slots hH hl hL hc hs)
theorem r_if_gt (hX : ev_C G M d X) {x : Int32} {off : Int} (tgt : Nat) (hd : decode M.2.2.1 pc = .ok (.ifCond .gt off, 3)) (hg : (pc : Int) + off = (tgt : Int)) (kt : 0 < x → ev_W G M X bc bs tgt ls st w) (kf : ¬ 0 < x → ev_W G M X bc bs (pc + 3) ls st w) : ev_W G M X bc bs pc ls (.int x :: st) w := by
  obtain ⟨hx, hb, hm, ho, ht, hT, hi, hz, hzs, hdf, hdl, hlk⟩ := hX
  intro H locs a cells slots hH hl hL hc hs
  exact lv_if_gt hx hb hd hg (fun q => kt q H locs a cells slots hH hl hL hc hs) (fun q => kf q H locs a cells slots hH hl hL hc hs)
theorem r_if_le (hX : ev_C G M d X) {x : Int32} {off : Int} (tgt : Nat) (hd : decode M.2.2.1 pc = .ok (.ifCond .le off, 3)) (hg : (pc : Int) + off = (tgt : Int)) (kt : x ≤ 0 → ev_W G M X bc bs tgt ls st w) (kf : ¬ x ≤ 0 → ev_W G M X bc bs (pc + 3) ls st w) : ev_W G M X bc bs pc ls (.int x :: st) w := by
  obtain ⟨hx, hb, hm, ho, ht, hT, hi, hz, hzs, hdf, hdl, hlk⟩ := hX
  intro H locs a cells slots hH hl hL hc hs
  exact lv_if_le hx hb hd hg (fun q => kt q H locs a cells slots hH hl hL hc hs) (fun q => kf q H locs a cells slots hH hl hL hc hs)
theorem r_icmp_eq (hX : ev_C G M d X) {x y : Int32} {off : Int} (tgt : Nat) (hd : decode M.2.2.1 pc = .ok (.if_icmp .eq off, 3)) (hg : (pc : Int) + off = (tgt : Int)) (kt : x = y → ev_W G M X bc bs tgt ls st w) (kf : ¬ x = y → ev_W G M X bc bs (pc + 3) ls st w) : ev_W G M X bc bs pc ls (.int y :: .int x :: st) w := by
  obtain ⟨hx, hb, hm, ho, ht, hT, hi, hz, hzs, hdf, hdl, hlk⟩ := hX
  intro H locs a cells slots hH hl hL hc hs
  exact lv_icmp_eq hx hb hd hg (fun q => kt q H locs a cells slots hH hl hL hc hs) (fun q => kf q H locs a cells slots hH hl hL hc hs)
theorem r_icmp_ne (hX : ev_C G M d X) {x y : Int32} {off : Int} (tgt : Nat) (hd : decode M.2.2.1 pc = .ok (.if_icmp .ne off, 3)) (hg : (pc : Int) + off = (tgt : Int)) (kt : ¬ x = y → ev_W G M X bc bs tgt ls st w) (kf : x = y → ev_W G M X bc bs (pc + 3) ls st w) : ev_W G M X bc bs pc ls (.int y :: .int x :: st) w := by
  obtain ⟨hx, hb, hm, ho, ht, hT, hi, hz, hzs, hdf, hdl, hlk⟩ := hX
  intro H locs a cells slots hH hl hL hc hs
  exact lv_icmp_ne hx hb hd hg (fun q => kt q H locs a cells slots hH hl hL hc hs) (fun q => kf q H locs a cells slots hH hl hL hc hs)
theorem r_icmp_lt (hX : ev_C G M d X) {x y : Int32} {off : Int} (tgt : Nat) (hd : decode M.2.2.1 pc = .ok (.if_icmp .lt off, 3)) (hg : (pc : Int) + off = (tgt : Int)) (kt : x < y → ev_W G M X bc bs tgt ls st w) (kf : ¬ x < y → ev_W G M X bc bs (pc + 3) ls st w) : ev_W G M X bc bs pc ls (.int y :: .int x :: st) w := by
  obtain ⟨hx, hb, hm, ho, ht, hT, hi, hz, hzs, hdf, hdl, hlk⟩ := hX
  intro H locs a cells slots hH hl hL hc hs
  exact lv_icmp_lt hx hb hd hg (fun q => kt q H locs a cells slots hH hl hL hc hs) (fun q => kf q H locs a cells slots hH hl hL hc hs)
theorem r_icmp_ge (hX : ev_C G M d X) {x y : Int32} {off : Int} (tgt : Nat) (hd : decode M.2.2.1 pc = .ok (.if_icmp .ge off, 3)) (hg : (pc : Int) + off = (tgt : Int)) (kt : y ≤ x → ev_W G M X bc bs tgt ls st w) (kf : ¬ y ≤ x → ev_W G M X bc bs (pc + 3) ls st w) : ev_W G M X bc bs pc ls (.int y :: .int x :: st) w := by
  obtain ⟨hx, hb, hm, ho, ht, hT, hi, hz, hzs, hdf, hdl, hlk⟩ := hX
  intro H locs a cells slots hH hl hL hc hs
  exact lv_icmp_ge hx hb hd hg (fun q => kt q H locs a cells slots hH hl hL hc hs) (fun q => kf q H locs a cells slots hH hl hL hc hs)
theorem r_icmp_gt (hX : ev_C G M d X) {x y : Int32} {off : Int} (tgt : Nat) (hd : decode M.2.2.1 pc = .ok (.if_icmp .gt off, 3)) (hg : (pc : Int) + off = (tgt : Int)) (kt : y < x → ev_W G M X bc bs tgt ls st w) (kf : ¬ y < x → ev_W G M X bc bs (pc + 3) ls st w) : ev_W G M X bc bs pc ls (.int y :: .int x :: st) w := by
  obtain ⟨hx, hb, hm, ho, ht, hT, hi, hz, hzs, hdf, hdl, hlk⟩ := hX
  intro H locs a cells slots hH hl hL hc hs
  exact lv_icmp_gt hx hb hd hg (fun q => kt q H locs a cells slots hH hl hL hc hs) (fun q => kf q H locs a cells slots hH hl hL hc hs)
theorem r_icmp_le (hX : ev_C G M d X) {x y : Int32} {off : Int} (tgt : Nat) (hd : decode M.2.2.1 pc = .ok (.if_icmp .le off, 3)) (hg : (pc : Int) + off = (tgt : Int)) (kt : x ≤ y → ev_W G M X bc bs tgt ls st w) (kf : ¬ x ≤ y → ev_W G M X bc bs (pc + 3) ls st w) : ev_W G M X bc bs pc ls (.int y :: .int x :: st) w := by
  obtain ⟨hx, hb, hm, ho, ht, hT, hi, hz, hzs, hdf, hdl, hlk⟩ := hX
  intro H locs a cells slots hH hl hL hc hs
  exact lv_icmp_le hx hb hd hg (fun q => kt q H locs a cells slots hH hl hL hc hs) (fun q => kf q H locs a cells slots hH hl hL hc hs)
theorem r_goto (hX : ev_C G M d X) {off : Int} (tgt : Nat) (hd : decode M.2.2.1 pc = .ok (.goto off, 3)) (hg : (pc : Int) + off = (tgt : Int)) (k : ev_W G M X bc bs tgt ls st w) : ev_W G M X bc bs pc ls st w := by
  obtain ⟨hx, hb, hm, ho, ht, hT, hi, hz, hzs, hdf, hdl, hlk⟩ := hX
  intro H locs a cells slots hH hl hL hc hs
  exact lv_goto hx hb hd hg (k H locs a cells slots hH hl hL hc hs)
theorem r_ifnull (hX : ev_C G M d X) {x : Nat} {off : Int} (hd : decode M.2.2.1 pc = .ok (.ifnull off, 3)) (k : ev_W G M X bc bs (pc + 3) ls st w) : ev_W G M X bc bs pc ls (.ref x :: st) w := by
  obtain ⟨hx, hb, hm, ho, ht, hT, hi, hz, hzs, hdf, hdl, hlk⟩ := hX
  intro H locs a cells slots hH hl hL hc hs
  exact lv_ifnull hx hb hd (k H locs a cells slots hH hl hL hc hs)
theorem r_ifnullN (hX : ev_C G M d X) {off : Int} (tgt : Nat) (hd : decode M.2.2.1 pc = .ok (.ifnull off, 3)) (hg : (pc : Int) + off = (tgt : Int)) (k : ev_W G M X bc bs tgt ls st w) : ev_W G M X bc bs pc ls (.null :: st) w := by
  obtain ⟨hx, hb, hm, ho, ht, hT, hi, hz, hzs, hdf, hdl, hlk⟩ := hX
  intro H locs a cells slots hH hl hL hc hs
  exact lv_ifnullN hx hb hd hg (k H locs a cells slots hH hl hL hc hs)
theorem r_ifnonnull (hX : ev_C G M d X) {x : Nat} {off : Int} (tgt : Nat) (hd : decode M.2.2.1 pc = .ok (.ifnonnull off, 3)) (hg : (pc : Int) + off = (tgt : Int)) (k : ev_W G M X bc bs tgt ls st w) : ev_W G M X bc bs pc ls (.ref x :: st) w := by
  obtain ⟨hx, hb, hm, ho, ht, hT, hi, hz, hzs, hdf, hdl, hlk⟩ := hX
  intro H locs a cells slots hH hl hL hc hs
  exact lv_ifnonnull hx hb hd hg (k H locs a cells slots hH hl hL hc hs)
theorem r_ifnonnullN (hX : ev_C G M d X) {off : Int} (hd : decode M.2.2.1 pc = .ok (.ifnonnull off, 3)) (k : ev_W G M X bc bs (pc + 3) ls st w) : ev_W G M X bc bs pc ls (.null :: st) w := by
  obtain ⟨hx, hb, hm, ho, ht, hT, hi, hz, hzs, hdf, hdl, hlk⟩ := hX
  intro H locs a cells slots hH hl hL hc hs
  exact lv_ifnonnullN hx hb hd (k H locs a cells slots hH hl hL hc hs)
theorem r_ifnullq (hX : ev_C G M d X) {o : Option Nat} {off : Int} (tgt : Nat) (hd : decode M.2.2.1 pc = .ok (.ifnull off, 3)) (hg : (pc : Int) + off = (tgt : Int)) (kt : o = none → ev_W G M X bc bs tgt ls st w) (kf : ∀ x, o = some x → ev_W G M X bc bs (pc + 3) ls st w) : ev_W G M X bc bs pc ls (va_rf o :: st) w := by
  cases o with
  | none => exact r_ifnullN hX tgt hd hg (kt rfl)
  | some x => exact r_ifnull hX hd (kf x rfl)
theorem r_ifnonnullq (hX : ev_C G M d X) {o : Option Nat} {off : Int} (tgt : Nat) (hd : decode M.2.2.1 pc = .ok (.ifnonnull off, 3)) (hg : (pc : Int) + off = (tgt : Int)) (kt : ∀ x, o = some x → ev_W G M X bc bs tgt ls st w) (kf : o = none → ev_W G M X bc bs (pc + 3) ls st w) : ev_W G M X bc bs pc ls (va_rf o :: st) w := by
  cases o with
  | none => exact r_ifnonnullN hX hd (kf rfl)
  | some x => exact r_ifnonnull hX tgt hd hg (kt x rfl)
theorem r_acmp_eq (hX : ev_C G M d X) {o u : Option Nat} {off : Int} (tgt : Nat) (ko : ev_ok o) (ku : ev_ok u) (hd : decode M.2.2.1 pc = .ok (.if_acmp .eq off, 3)) (hg : (pc : Int) + off = (tgt : Int)) (kt : o = u → ev_W G M X bc bs tgt ls st w) (kf : ¬ o = u → ev_W G M X bc bs (pc + 3) ls st w) : ev_W G M X bc bs pc ls (va_rf u :: va_rf o :: st) w := by
  obtain ⟨hx, hb, hm, ho, ht, hT, hi, hz, hzs, hdf, hdl, hlk⟩ := hX
  intro H locs a cells slots hH hl hL hc hs
  have ei : ∀ (o u : Option Nat), ev_ok o → ev_ok u → o.map (ev_rho G) = u.map (ev_rho G) → o = u := fun o u k1 k2 h => by
    cases o <;> cases u <;> simp at h ⊢
    exact ev_rho_inj hi (k1 _ rfl) (k2 _ rfl) h
  show W _ _ _ _ _ _ _ _ _ _ _ _ _ _ _ (F0 _ _ _ (ev_mv G (va_rf u) :: ev_mv G (va_rf o) :: st.map (ev_mv G)))
  rw [ev_mv_rf, ev_mv_rf]
  exact lv_acmp_eq hx hb hd hg (fun q => kt (ei _ _ ko ku q) H locs a cells slots hH hl hL hc hs) (fun q => kf (fun z => q (by rw [z])) H locs a cells slots hH hl hL hc hs)
theorem r_acmp_ne (hX : ev_C G M d X) {o u : Option Nat} {off : Int} (tgt : Nat) (ko : ev_ok o) (ku : ev_ok u) (hd : decode M.2.2.1 pc = .ok (.if_acmp .ne off, 3)) (hg : (pc : Int) + off = (tgt : Int)) (kt : ¬ o = u → ev_W G M X bc bs tgt ls st w) (kf : o = u → ev_W G M X bc bs (pc + 3) ls st w) : ev_W G M X bc bs pc ls (va_rf u :: va_rf o :: st) w := by
  obtain ⟨hx, hb, hm, ho, ht, hT, hi, hz, hzs, hdf, hdl, hlk⟩ := hX
  intro H locs a cells slots hH hl hL hc hs
  have ei : ∀ (o u : Option Nat), ev_ok o → ev_ok u → o.map (ev_rho G) = u.map (ev_rho G) → o = u := fun o u k1 k2 h => by
    cases o <;> cases u <;> simp at h ⊢
    exact ev_rho_inj hi (k1 _ rfl) (k2 _ rfl) h
  show W _ _ _ _ _ _ _ _ _ _ _ _ _ _ _ (F0 _ _ _ (ev_mv G (va_rf u) :: ev_mv G (va_rf o) :: st.map (ev_mv G)))
  rw [ev_mv_rf, ev_mv_rf]
  exact lv_acmp_ne hx hb hd hg (fun q => kt (fun z => q (by rw [z])) H locs a cells slots hH hl hL hc hs) (fun q => kf (ei _ _ ko ku q) H locs a cells slots hH hl hL hc hs)
theorem r_lookup (hX : ev_C G M d X) {dflt : Int} {ps : Array (Int × Int)} {len : Nat} {x : Int32} {off : Int} (tgt : Nat) (hd : decode M.2.2.1 pc = .ok (.lookupswitch dflt ps, len)) (hp : (ps.toList.zip (ps.toList.drop 1)).all (fun (a, next) => a.1 < next.1) = true) (hof : Op.lookupswitch.offset ps.toList dflt x.toInt = off) (hg : (pc : Int) + off = (tgt : Int)) (k : ev_W G M X bc bs tgt ls st w) : ev_W G M X bc bs pc ls (.int x :: st) w := by
  obtain ⟨hx, hb, hm, ho, ht, hT, hi, hz, hzs, hdf, hdl, hlk⟩ := hX
  intro H locs a cells slots hH hl hL hc hs
  exact lv_lookup hx hb hd hp hof hg (k H locs a cells slots hH hl hL hc hs)
theorem r_tableOut (hX : ev_C G M d X) {dflt lo hi : Int} {offs : Array Int} {len : Nat} {x : Int32} (tgt : Nat) (hd : decode M.2.2.1 pc = .ok (.tableswitch dflt lo hi offs, len)) (h : x.toInt < lo ∨ hi < x.toInt) (hg : (pc : Int) + dflt = (tgt : Int)) (k : ev_W G M X bc bs tgt ls st w) : ev_W G M X bc bs pc ls (.int x :: st) w := by
  obtain ⟨hx, hb, hm, ho, ht, hT, hi, hz, hzs, hdf, hdl, hlk⟩ := hX
  intro H locs a cells slots hH hl hL hc hs
  exact lv_tableOut hx hb hd h hg (k H locs a cells slots hH hl hL hc hs)
theorem r_tableIn (hX : ev_C G M d X) {dflt lo hi : Int} {offs : Array Int} {len : Nat} {x : Int32} {off : Int} (tgt : Nat) (hd : decode M.2.2.1 pc = .ok (.tableswitch dflt lo hi offs, len)) (h1 : ¬ x.toInt < lo) (h2 : ¬ hi < x.toInt) (hof : offs[(x.toInt - lo).toNat]? = some off) (hg : (pc : Int) + off = (tgt : Int)) (k : ev_W G M X bc bs tgt ls st w) : ev_W G M X bc bs pc ls (.int x :: st) w := by
  obtain ⟨hx, hb, hm, ho, ht, hT, hi, hz, hzs, hdf, hdl, hlk⟩ := hX
  intro H locs a cells slots hH hl hL hc hs
  exact lv_tableIn hx hb hd h1 h2 hof hg (k H locs a cells slots hH hl hL hc hs)
theorem r_less {bc' bs' : Nat} (hc1 : bc' ≤ bc) (hs1 : bs' ≤ bs) (k : ev_W G M X bc' bs' pc ls st w) : ev_W G M X bc bs pc ls st w := fun H locs a cells slots hH hl hL hc hs => k H locs a cells slots hH hl hL (by omega) (by omega)
end EvR
end
section
/-! ===== FIELDS, ARRAYS, NEW CELLS, CALLS, RETURNS over pure worlds ===== -/
theorem ev_one {D : va_G} {cl : List vw_C} {q : Nat × va_E} {H : Heap} (h : va_at D cl q H) : va_P D cl [q] H := fun k x hx => by
  cases k with
  | zero => cases hx; exact h
  | succ k => simp at hx
theorem ev_tys_at {G : Ev_G} {k : Nat} {ty : FieldType} (h : ev_arrs[k]? = some ty) : (ev_tys G)[k]? = some (G.2.2.1 k, ty) := by
  unfold ev_tys
  rw [List.getElem?_map, List.getElem?_zipIdx, h]
  simp
theorem ev_fit {G : Ev_G} {ty : FieldType} {v : Value} (h1 : narrow ty v = v) (h2 : fits ty v = true) : narrow ty (ev_mv G v) = ev_mv G v ∧ fits ty (ev_mv G v) = true := by
  cases v with
  | ref a => cases ty <;> first | exact ⟨rfl, rfl⟩ | (simp [fits] at h2)
  | _ => exact ⟨h1, h2⟩
theorem ev_hi {G : Ev_G} {r : Nat} (h : 100 ≤ r) : G.2.2.2.2.size ≤ ev_rho G r := by
  simp only [ev_rho]; rw [if_neg (by omega)]; omega
theorem ev_locs {G : Ev_G} {locs : List Loc} {r k : Nat} (hl : ∀ q ∈ locs, G.2.2.2.2.size ≤ q.base) (h : 100 ≤ r) : ∀ q ∈ locs ++ [⟨ev_rho G r, k⟩], G.2.2.2.2.size ≤ q.base := by
  intro q hq
  rcases List.mem_append.mp hq with h1 | h1
  · exact hl q h1
  · rw [List.mem_singleton.mp h1]
    exact ev_hi h
/-- a field that an instruction of class own names: the k-th of class ci -/
def ev_F (own : String) (index ci k : Nat) : Prop := ∃ (C : String) (T : u_T) (N : Nat), vwCl[ci]? = some (C, T, N) ∧ k < N ∧ (∀ w ∈ u_ws C T N, w ∈ ev_tbl) ∧ (T k).1 = C ∧ Cond.fieldLink own index C (T k).2.1 (T k).2.2.1 ∈ ev_tbl
def ev_FP (own : String) (index ci k : Nat) (ty : FieldType) (fin : Bool) : Prop := ∃ (C : String) (T : u_T) (N : Nat) (ty0 : Nat → FieldType), vwCl[ci]? = some (C, T, N) ∧ k < N ∧ (∀ w ∈ u_ws C T N, w ∈ ev_tbl) ∧ (T k).1 = C ∧ Cond.fieldLink own index C (T k).2.1 (T k).2.2.1 ∈ ev_tbl ∧
  (∀ j, j < N → parseFieldDescriptor (T j).2.2.1 = some (ty0 j)) ∧ (∀ a, a < N → ∀ b, b < N → a ≠ b → (T a).2.1 ≠ (T b).2.1) ∧ ty0 k = ty ∧ (T k).2.2.2 = fin
section EvH
variable {G : Ev_G} {M : Ev_M} {d : Nat} {X : Ev_X} {bc bs pc : Nat} {ls : Ev_L} {st : List Value} {w : Ev_W}
theorem r_getf (hX : ev_C G M d X) {index ci k r : Nat} {fs : List Value} {v : Value} (hd : decode M.2.2.1 pc = .ok (.getfield index, 3)) (hF : ev_F M.1 index ci k) (hw : w.2 r = some (.inr (ci, fs))) (hv : fs[k]? = some v) (kk : ev_W G M X bc bs (pc + 3) ls (v :: st) w) : ev_W G M X bc bs pc ls (.ref r :: st) w := by
  obtain ⟨hx, hb, hm, ho, ht, hT, hi, hz, hzs, hdf, hdl, hlk⟩ := hX
  intro H locs a cells slots hH hl hL hc hs
  obtain ⟨C, T, N, h1, h2, h3, h4, h5⟩ := hF
  exact va_get hx hb ht h3 ho hT.1 (ev_one (hH.2.2.2 r _ hw)) 0 rfl h1 k h2 (ht _ h5) (fun _ h => by rw [h4] at h; exact h) (v := ev_mv G v) (by rw [List.getElem?_map, hv]; rfl) hd (kk H locs a cells slots hH hl hL hc hs)
theorem r_putf (hX : ev_C G M d X) {index ci k r : Nat} {ty : FieldType} {fs : List Value} {v : Value} (hd : decode M.2.2.1 pc = .ok (.putfield index, 3)) (hF : ev_FP M.1 index ci k ty false) (hw : w.2 r = some (.inr (ci, fs))) (hr : 100 ≤ r) (hn : narrow ty v = v) (hv : fits ty v = true) (hk : k < fs.length) (kk : ev_W G M X bc bs (pc + 3) ls st (ev_set w r (.inr (ci, fs.set k v)))) : ev_W G M X bc bs pc ls (v :: .ref r :: st) w := by
  obtain ⟨hx, hb, hm, ho, ht, hT, hi, hz, hzs, hdf, hdl, hlk⟩ := hX
  intro H locs a cells slots hH hl hL hc hs
  obtain ⟨C, T, N, ty0, h1, h2, h3, h4, h5, hty, hnm, hk0, hfin⟩ := hF
  obtain ⟨hn', hv'⟩ := ev_fit (G := G) hn hv
  have hap := va_apart (own := M.1) ht h3 ty0 hty hnm hT.1 h1
  obtain ⟨rr, g1, cell, q1, q2, q3, q4⟩ := hH.2.2.2 r _ hw
  have hrr : rr = (C, T, N) := Option.some.inj (g1.symm.trans h1)
  subst hrr
  obtain ⟨hS, hfc, kC, hkC, hkind⟩ := hT.1.1 ci _ h1
  obtain ⟨cf, kf, fi, f, hif, hsl⟩ := hS k h2
  have hlay := ht _ (h3 _ (u_in_lay h2))
  unfold u_lay at hlay
  rw [if_neg (by rw [hfin]; decide)] at hlay
  have hst := (u_facts hfc hkC (u_lays ht h3 h2) hif).1
  have h6 := u_store hfc hkC hkind hlay hif (by rw [hty k h2, hk0]) hn' hv'
  refine W.putK hx hb (f := f) ⟨ho, ht _ h5, ⟨_, _, _, (by rw [h4] at hif; exact hif)⟩, hst⟩ (by rw [q2]; exact h6) q1 q3 (by rw [hsl]; exact k2_hasslot (q4 k h2)) rfl rfl hd fun H' e1 e2 e3 => ?_
  rw [hsl] at e1
  refine kk H' _ a cells slots (hH.set hi hr ⟨_, h1, t_OB.to (V := updV (vp_V (fs.map (ev_mv G))) k (ev_mv G v)) ⟨_, e1, q2, q3, t_set q4 hap h2 _⟩ (fun j _ => ?_)⟩ e2 e3) (ev_locs hl hr) hL hc hs
  rw [vp_updV_set (by rw [List.length_map]; exact hk), List.map_set]
theorem r_putF (hX : ev_C G M d X) {index ci k r : Nat} {ty : FieldType} {fs : List Value} {v : Value} (hd : decode M.2.2.1 pc = .ok (.putfield index, 3)) (hF : ev_FP M.1 index ci k ty true) (hin : X.2.2.2.2.2.2.2.1.name = "<init>") (hC : (vwCl[ci]?).map (fun q => q.1) = some M.1) (hw : w.2 r = some (.inr (ci, fs))) (hr : 100 ≤ r) (hn : narrow ty v = v) (hv : fits ty v = true) (hk : k < fs.length) (kk : ev_W G M X bc bs (pc + 3) ls st (ev_set w r (.inr (ci, fs.set k v)))) : ev_W G M X bc bs pc ls (v :: .ref r :: st) w := by
  obtain ⟨hx, hb, hm, ho, ht, hT, hi, hz, hzs, hdf, hdl, hlk⟩ := hX
  intro H locs a cells slots hH hl hL hc hs
  obtain ⟨C, T, N, ty0, h1, h2, h3, h4, h5, hty, hnm, hk0, hfin⟩ := hF
  obtain ⟨hn', hv'⟩ := ev_fit (G := G) hn hv
  have hCM : C = M.1 := by rw [h1] at hC; exact Option.some.inj hC
  have hap := va_apart (own := M.1) ht h3 ty0 hty hnm hT.1 h1
  obtain ⟨rr, g1, cell, q1, q2, q3, q4⟩ := hH.2.2.2 r _ hw
  have hrr : rr = (C, T, N) := Option.some.inj (g1.symm.trans h1)
  subst hrr
  obtain ⟨hS, hfc, kC, hkC, hkind⟩ := hT.1.1 ci _ h1
  obtain ⟨cf, kf, fi, f, hif, hsl⟩ := hS k h2
  have hlay := ht _ (h3 _ (u_in_lay h2))
  unfold u_lay at hlay
  rw [if_pos hfin] at hlay
  have hst := (u_facts hfc hkC (u_lays ht h3 h2) hif).1
  have hcf : X.2.2.2.2.1.cls = cf := by
    obtain ⟨_, _, c', _, _, _, -, -, hf', -, -, -, hown2, -⟩ := Cond.laysFinal_spec hlay
    have e1 : c' = cf := by have := hif.symm.trans hf'; simp at this; exact this.1.symm
    rw [h4, hCM] at hown2
    rw [← e1]; exact Option.some.inj (ho.symm.trans hown2)
  have h6 := u_fits hfc hkC hkind (Or.inr hlay) hif (by rw [hty k h2, hk0]) hn' hv'
  refine W.putFinK hx hb ho (ht _ h5) (by rw [h4] at hif; exact hif) hst hcf hin (by rw [q2]; exact h6) q1 q3 (by rw [hsl]; exact k2_hasslot (q4 k h2)) rfl rfl hd fun H' e1 e2 e3 => ?_
  rw [hsl] at e1
  refine kk H' _ a cells slots (hH.set hi hr ⟨_, h1, t_OB.to (V := updV (vp_V (fs.map (ev_mv G))) k (ev_mv G v)) ⟨_, e1, q2, q3, t_set q4 hap h2 _⟩ (fun j _ => ?_)⟩ e2 e3) (ev_locs hl hr) hL hc hs
  rw [vp_updV_set (by rw [List.length_map]; exact hk), List.map_set]
theorem r_iald (hX : ev_C G M d X) {k n r : Nat} {f : Nat → Int32} {i : Int32} (hd : decode M.2.2.1 pc = .ok (.iaload, 1)) (hw : w.2 r = some (.inl (k, n, .inl f))) (hk : ev_arrs[k]? = some .int) (hin : vp_in i n) (kk : ev_W G M X bc bs (pc + 1) ls (.int (f i.toNatClampNeg) :: st) w) : ev_W G M X bc bs pc ls (.int i :: .ref r :: st) w := by
  obtain ⟨hx, hb, hm, ho, ht, hT, hi, hz, hzs, hdf, hdl, hlk⟩ := hX
  intro H locs a cells slots hH hl hL hc hs
  exact va_iald hx hb hT.1 (ev_one (hH.2.2.2 r _ hw)) 0 k rfl (ev_tys_at hk) hin hd (kk H locs a cells slots hH hl hL hc hs)
theorem r_lald (hX : ev_C G M d X) {k n r : Nat} {f : Nat → Int64} {i : Int32} (hd : decode M.2.2.1 pc = .ok (.laload, 1)) (hw : w.2 r = some (.inl (k, n, .inr (.inl f)))) (hk : ev_arrs[k]? = some .long) (hin : vp_in i n) (kk : ev_W G M X bc bs (pc + 1) ls (.long (f i.toNatClampNeg) :: st) w) : ev_W G M X bc bs pc ls (.int i :: .ref r :: st) w := by
  obtain ⟨hx, hb, hm, ho, ht, hT, hi, hz, hzs, hdf, hdl, hlk⟩ := hX
  intro H locs a cells slots hH hl hL hc hs
  exact va_lald hx hb hT.1 (ev_one (hH.2.2.2 r _ hw)) 0 k rfl (ev_tys_at hk) hin hd (kk H locs a cells slots hH hl hL hc hs)
theorem r_aald (hX : ev_C G M d X) {k n r : Nat} {C : String} {f : Nat → Option Nat} {i : Int32} (hd : decode M.2.2.1 pc = .ok (.aaload, 1)) (hw : w.2 r = some (.inl (k, n, .inr (.inr f)))) (hk : ev_arrs[k]? = some (.object C)) (hin : vp_in i n) (kk : ev_W G M X bc bs (pc + 1) ls (va_rf (f i.toNatClampNeg) :: st) w) : ev_W G M X bc bs pc ls (.int i :: .ref r :: st) w := by
  obtain ⟨hx, hb, hm, ho, ht, hT, hi, hz, hzs, hdf, hdl, hlk⟩ := hX
  intro H locs a cells slots hH hl hL hc hs
  refine va_aldq hx hb hT.1 (ev_one (hH.2.2.2 r _ hw)) 0 k rfl (ev_tys_at hk) hin hd ?_
  have h9 := kk H locs a cells slots hH hl hL hc hs
  rw [List.map_cons, ev_mv_rf] at h9
  exact h9
theorem ev_len {n : Nat} (h : n < 2 ^ 31) : n.toInt32 = nI n := rfl
theorem r_alen (hX : ev_C G M d X) {k n r : Nat} {ty : FieldType} {f : (Nat → Int32) ⊕ (Nat → Int64) ⊕ (Nat → Option Nat)} (hd : decode M.2.2.1 pc = .ok (.arraylength, 1)) (hw : w.2 r = some (.inl (k, n, f))) (hk : ev_arrs[k]? = some ty) (kk : ev_W G M X bc bs (pc + 1) ls (.int (nI n) :: st) w) : ev_W G M X bc bs pc ls (.ref r :: st) w := by
  obtain ⟨hx, hb, hm, ho, ht, hT, hi, hz, hzs, hdf, hdl, hlk⟩ := hX
  intro H locs a cells slots hH hl hL hc hs
  have hA := (hT.1.2 k _ (ev_tys_at hk)).1
  have h9 := kk H locs a cells slots hH hl hL hc hs
  have h8 := hH.2.2.2 r _ hw
  rcases f with f | f | f
  · exact W.alen hx hb h8 (hA n (fun j => .int (f j))) (by show (arrV _ _ _).slots.size.toInt32 = nI n; rw [arrV_size]; rfl) rfl rfl hd h9
  · exact W.alen hx hb h8 (hA n (fun j => .long (f j))) (by show (arrV _ _ _).slots.size.toInt32 = nI n; rw [arrV_size]; rfl) rfl rfl hd h9
  · exact W.alen hx hb h8 (hA n (fun j => va_rf ((f j).map (ev_rho G)))) (by show (arrV _ _ _).slots.size.toInt32 = nI n; rw [arrV_size]; rfl) rfl rfl hd h9
theorem r_iast (hX : ev_C G M d X) {k n r : Nat} {f : Nat → Int32} {i x : Int32} (hd : decode M.2.2.1 pc = .ok (.iastore, 1)) (hw : w.2 r = some (.inl (k, n, .inl f))) (hr : 100 ≤ r) (hk : ev_arrs[k]? = some .int) (hin : vp_in i n) (kk : ev_W G M X bc bs (pc + 1) ls st (ev_set w r (.inl (k, n, .inl (upd f i.toNatClampNeg x))))) : ev_W G M X bc bs pc ls (.int x :: .int i :: .ref r :: st) w := by
  obtain ⟨hx, hb, hm, ho, ht, hT, hi, hz, hzs, hdf, hdl, hlk⟩ := hX
  intro H locs a cells slots hH hl hL hc hs
  have hA := (hT.1.2 k _ (ev_tys_at hk)).1
  refine W.iast hx hb (hH.2.2.2 r _ hw) (hA n (fun j => .int (f j))) (fun q => by cases q) (by show ¬ (i < 0 ∨ (arrV _ _ _).slots.size ≤ _); rw [arrV_size]; exact hin) rfl rfl hd fun H1 e z oq => ?_
  refine kk H1 _ a cells slots (hH.set hi hr ?_ z oq) (ev_locs hl hr) hL hc hs
  show H1[_]? = some (arrV (G.2.2.1 k) n (fun j => .int (upd f i.toNatClampNeg x j)))
  rw [e]
  show some ((arrV (G.2.2.1 k) n (fun j => .int (f j))).setSlot i.toNatClampNeg (.int x)) = _
  rw [arrV_store]
  congr 2
  funext q
  by_cases hq : q = i.toNatClampNeg
  · subst hq; simp [updV, upd]
  · simp [updV, upd, hq]
theorem r_zald (hX : ev_C G M d X) {k n r : Nat} {f : Nat → Int32} {i : Int32} (hd : decode M.2.2.1 pc = .ok (.baload, 1)) (hw : w.2 r = some (.inl (k, n, .inl f))) (hk : ev_arrs[k]? = some .boolean) (hin : vp_in i n) (kk : ev_W G M X bc bs (pc + 1) ls (.int (f i.toNatClampNeg) :: st) w) : ev_W G M X bc bs pc ls (.int i :: .ref r :: st) w := by
  obtain ⟨hx, hb, hm, ho, ht, hT, hi, hz, hzs, hdf, hdl, hlk⟩ := hX
  intro H locs a cells slots hH hl hL hc hs
  exact va_zald hx hb hT.1 (ev_one (hH.2.2.2 r _ hw)) 0 k rfl (ev_tys_at hk) hin hd (kk H locs a cells slots hH hl hL hc hs)
theorem r_zast (hX : ev_C G M d X) {k n r : Nat} {f : Nat → Int32} {i x : Int32} (hd : decode M.2.2.1 pc = .ok (.bastore, 1)) (hw : w.2 r = some (.inl (k, n, .inl f))) (hr : 100 ≤ r) (hk : ev_arrs[k]? = some .boolean) (hin : vp_in i n) (kk : ev_W G M X bc bs (pc + 1) ls st (ev_set w r (.inl (k, n, .inl (upd f i.toNatClampNeg (x &&& 1)))))) : ev_W G M X bc bs pc ls (.int x :: .int i :: .ref r :: st) w := by
  obtain ⟨hx, hb, hm, ho, ht, hT, hi, hz, hzs, hdf, hdl, hlk⟩ := hX
  intro H locs a cells slots hH hl hL hc hs
  have hA := (hT.1.2 k _ (ev_tys_at hk)).1
  refine W.zast hx hb (hH.2.2.2 r _ hw) (hA n (fun j => .int (f j))) (fun q => by cases q) (by show ¬ (i < 0 ∨ (arrV _ _ _).slots.size ≤ _); rw [arrV_size]; exact hin) rfl rfl hd fun H1 e z oq => ?_
  refine kk H1 _ a cells slots (hH.set hi hr ?_ z oq) (ev_locs hl hr) hL hc hs
  show H1[_]? = some (arrV (G.2.2.1 k) n (fun j => .int (upd f i.toNatClampNeg (x &&& 1) j)))
  rw [e]
  show some ((arrV (G.2.2.1 k) n (fun j => .int (f j))).setSlot i.toNatClampNeg (narrow .boolean (.int x))) = _
  rw [arrV_store]
  congr 2
  funext q
  by_cases hq : q = i.toNatClampNeg
  · subst hq; simp [updV, upd, narrow]
  · simp [updV, upd, hq]
theorem r_last (hX : ev_C G M d X) {k n r : Nat} {f : Nat → Int64} {i : Int32} {x : Int64} (hd : decode M.2.2.1 pc = .ok (.lastore, 1)) (hw : w.2 r = some (.inl (k, n, .inr (.inl f)))) (hr : 100 ≤ r) (hk : ev_arrs[k]? = some .long) (hin : vp_in i n) (kk : ev_W G M X bc bs (pc + 1) ls st (ev_set w r (.inl (k, n, .inr (.inl (vp_updL f i.toNatClampNeg x)))))) : ev_W G M X bc bs pc ls (.long x :: .int i :: .ref r :: st) w := by
  obtain ⟨hx, hb, hm, ho, ht, hT, hi, hz, hzs, hdf, hdl, hlk⟩ := hX
  intro H locs a cells slots hH hl hL hc hs
  have hA := (hT.1.2 k _ (ev_tys_at hk)).1
  refine W.last hx hb (hH.2.2.2 r _ hw) (hA n (fun j => .long (f j))) (fun q => by cases q) (by show ¬ (i < 0 ∨ (arrV _ _ _).slots.size ≤ _); rw [arrV_size]; exact hin) rfl rfl hd fun H1 e z oq => ?_
  refine kk H1 _ a cells slots (hH.set hi hr ?_ z oq) (ev_locs hl hr) hL hc hs
  show H1[_]? = some (arrV (G.2.2.1 k) n (fun j => .long (vp_updL f i.toNatClampNeg x j)))
  rw [e]
  show some ((arrV (G.2.2.1 k) n (fun j => .long (f j))).setSlot i.toNatClampNeg (.long x)) = _
  rw [arrV_store]
  congr 2
  funext q
  by_cases hq : q = i.toNatClampNeg
  · subst hq; simp [updV, vp_updL]
  · simp [updV, vp_updL, hq]
theorem r_aastN (hX : ev_C G M d X) {k n r : Nat} {C : String} {f : Nat → Option Nat} {i : Int32} (hd : decode M.2.2.1 pc = .ok (.aastore, 1)) (hw : w.2 r = some (.inl (k, n, .inr (.inr f)))) (hr : 100 ≤ r) (hk : ev_arrs[k]? = some (.object C)) (hin : vp_in i n) (kk : ev_W G M X bc bs (pc + 1) ls st (ev_set w r (.inl (k, n, .inr (.inr (va_up f i.toNatClampNeg none)))))) : ev_W G M X bc bs pc ls (.null :: .int i :: .ref r :: st) w := by
  obtain ⟨hx, hb, hm, ho, ht, hT, hi, hz, hzs, hdf, hdl, hlk⟩ := hX
  intro H locs a cells slots hH hl hL hc hs
  have hA := (hT.1.2 k _ (ev_tys_at hk)).1
  refine va_WaastN (C := C) hx hb (hH.2.2.2 r _ hw) (hA n (fun j => va_rf ((f j).map (ev_rho G)))) (fun q => by cases q) (by show ¬ (i < 0 ∨ (arrV _ _ _).slots.size ≤ _); rw [arrV_size]; exact hin) rfl rfl hd fun H1 e z oq => ?_
  refine kk H1 _ a cells slots (hH.set hi hr ?_ z oq) (ev_locs hl hr) hL hc hs
  show H1[_]? = some (arrV (G.2.2.1 k) n (fun j => va_rf ((va_up f i.toNatClampNeg none j).map (ev_rho G))))
  rw [e]
  show some ((arrV (G.2.2.1 k) n (fun j => va_rf ((f j).map (ev_rho G)))).setSlot i.toNatClampNeg (.null)) = _
  rw [arrV_store]
  congr 2
  funext q
  by_cases hq : q = i.toNatClampNeg
  · subst hq; simp [updV, va_up, va_rf]
  · simp [updV, va_up, hq]
theorem r_aast (hX : ev_C G M d X) {k n r v ci : Nat} {cq : vw_C} {vs : List Value} {f : Nat → Option Nat} {i : Int32} (hd : decode M.2.2.1 pc = .ok (.aastore, 1)) (hw : w.2 r = some (.inl (k, n, .inr (.inr f)))) (hr : 100 ≤ r) (hv : w.2 v = some (.inr (ci, vs))) (hcq : vwCl[ci]? = some cq) (hk : ev_arrs[k]? = some (.object cq.1)) (hin : vp_in i n) (kk : ev_W G M X bc bs (pc + 1) ls st (ev_set w r (.inl (k, n, .inr (.inr (va_up f i.toNatClampNeg (some v))))))) : ev_W G M X bc bs pc ls (.ref v :: .int i :: .ref r :: st) w := by
  obtain ⟨hx, hb, hm, ho, ht, hT, hi, hz, hzs, hdf, hdl, hlk⟩ := hX
  intro H locs a cells slots hH hl hL hc hs
  have hlt : i.toNatClampNeg < n := Nat.not_le.mp fun q => hin (Or.inr q)
  have h0 : ¬ i < 0 := fun q => hin (Or.inl q)
  obtain ⟨r', hr', cellV, g1, g2, g3, -⟩ := hH.2.2.2 v _ hv
  have hcls := (hT.1.1 ci cq hcq).2
  obtain ⟨kA, comp, k1, k2, k3, -⟩ := (hT.1.2 k _ (ev_tys_at hk)).2
  have hcomp : comp = G.2.1.1 ci := Option.some.inj (k3.symm.trans hcls.1)
  subst hcomp
  obtain ⟨kC, hkC, -⟩ := hcls.2
  refine W.aast hx hb (hH.2.2.2 r _ hw) (fun q h => by cases h) (fun h => by cases h) k1 k2 rfl hkC ⟨h0, by show _ < (arrV _ _ _).slots.size; rw [arrV_size]; exact hlt⟩ g1 (fun q h => by rw [g3] at h; cases h) (by rw [g2]; exact hkC) (by rw [g2]; exact va_assign hcls) rfl rfl hd fun H1 e z oq => ?_
  refine kk H1 _ a cells slots (hH.set hi hr ?_ z oq) (ev_locs hl hr) hL hc hs
  show H1[_]? = some (arrV (G.2.2.1 k) n (fun j => va_rf ((va_up f i.toNatClampNeg (some v) j).map (ev_rho G))))
  rw [e]
  show some ((arrV (G.2.2.1 k) n (fun j => va_rf ((f j).map (ev_rho G)))).setSlot i.toNatClampNeg (.ref (ev_rho G v))) = _
  rw [arrV_store]
  congr 2
  funext q
  by_cases hq : q = i.toNatClampNeg
  · subst hq; simp [updV, va_up, va_rf]
  · simp [updV, va_up, hq]
/-- a new array of a primitive type -/
theorem r_newa {bc' bs' : Nat} (hX : ev_C G M d X) {at_ : ArrayType} {k N : Nat} {ty : FieldType} {n : Int32} {e0 : (Nat → Int32) ⊕ (Nat → Int64) ⊕ (Nat → Option Nat)} (hd : decode M.2.2.1 pc = .ok (.newarray at_, 2)) (hty : newarray.typeOf at_ = ty) (hAr : Cond.arrayClass ty ∈ ev_tbl) (hk : ev_arrs[k]? = some ty) (hp : ty.isReference = false)
    (he : ∀ G : Ev_G, ev_cnv G (.inl (k, N, e0)) = .inl (G.2.2.1 k, N, (ev_cnv G (.inl (k, N, e0))).elim (fun q => q.2.2) (fun _ => .inl (fun _ => 0))) ∧ vp_cell (G.2.2.1 k) (N, (ev_cnv G (.inl (k, N, e0))).elim (fun q => q.2.2) (fun _ => .inl (fun _ => 0))) = arrV (G.2.2.1 k) N (fun _ => defaultValue ty))
    (hn : ¬ n < 0) (hN : n.toNatClampNeg = N) (hby : N * componentBytes ty ≤ 536870912) (hc1 : 1 + bc' ≤ bc) (hs1 : N + bs' ≤ bs) (kk : 100 ≤ w.1 → w.2 w.1 = none → ev_W G M X bc' bs' (pc + 2) ls (.ref w.1 :: st) (ev_new w (.inl (k, N, e0)))) : ev_W G M X bc bs pc ls (.int n :: st) w := by
  obtain ⟨hx, hb, hm, ho, ht, hT, hi, hz, hzs, hdf, hdl, hlk⟩ := hX
  intro H locs a cells slots hH hl hL hc hs
  subst hty
  refine va_newaK hx hb (ht _ hAr) rfl hd rfl hn hN hby (by omega) (by omega) rfl fun H1 cA e1 z1 o1 hA2 hNm => ?_
  have hRA := (hT.1.2 k _ (ev_tys_at hk)).2
  have hcA : cA = G.2.2.1 k := by
    have h5 : X.2.2.2.1.vm.findClass ("[" ++ (newarray.typeOf at_).toString) = some (G.2.2.1 k) := by
      revert hRA hp
      cases newarray.typeOf at_ <;> intro hp hRA <;> first | exact hRA | (simp [FieldType.isReference] at hp)
    exact Option.some.inj (hNm.symm.trans h5)
  subst hcA
  have h9 := kk hH.lo (hH.fresh hH.lo) H1 locs a (cells + 1) (slots + N) (hH.new (c := .inl (k, N, e0)) (by
    obtain ⟨q1, q2⟩ := he G
    rw [q1]
    show H1[_]? = some (vp_cell _ _)
    rw [q2]; exact e1) z1 o1) hl hL (by omega) (by omega)
  rw [List.map_cons, show ev_mv G (.ref w.1) = .ref H.size by show Value.ref _ = _; rw [ev_rho_next hH]] at h9
  exact h9
/-- a new array of references -/
theorem r_newq {bc' bs' : Nat} (hX : ev_C G M d X) {index k N : Nat} {C : String} {n : Int32} (hd : decode M.2.2.1 pc = .ok (.anewarray index, 3)) (hcl : Cond.classLink M.1 index C ∈ ev_tbl) (hov : C ∈ ev_over) (hk : ev_arrs[k]? = some (.object C)) (hn : ¬ n < 0) (hN : n.toNatClampNeg = N) (hby : N * 4 ≤ 536870912) (hc1 : 1 + bc' ≤ bc) (hs1 : N + bs' ≤ bs) (kk : 100 ≤ w.1 → w.2 w.1 = none → ev_W G M X bc' bs' (pc + 3) ls (.ref w.1 :: st) (ev_new w (.inl (k, N, .inr (.inr (fun _ => none)))))) : ev_W G M X bc bs pc ls (.int n :: st) w := by
  obtain ⟨hx, hb, hm, ho, ht, hT, hi, hz, hzs, hdf, hdl, hlk⟩ := hX
  intro H locs a cells slots hH hl hL hc hs
  subst hN
  refine W.anew hx hb ho (ht _ hcl) (va_AO.use (hT.2.2.2.2.2 C hov)) rfl hd rfl hn hby (by omega) (by omega) fun cA kA comp f1 f2 f3 f4 => ?_
  generalize hH1 : H.push ({ cls := cA, slots := Array.replicate n.toNatClampNeg .null, vm := .none } : Cell) = H1
  have z1 : H1.size = H.size + 1 := by rw [← hH1, Array.size_push]
  have e1 : H1[H.size]? = some (arrV cA n.toNatClampNeg (fun _ => .null)) := by rw [← hH1, Array.getElem?_push_size, ← arrV_new]
  have o1 : ∀ q : Nat, q < H.size → H1[q]? = H[q]? := fun q hq => by rw [← hH1, Array.getElem?_push, if_neg (Nat.ne_of_lt hq)]
  obtain ⟨kA', comp', k1, k2, k3, k4⟩ := (hT.1.2 k _ (ev_tys_at hk)).2
  have hcA : cA = G.2.2.1 k := Option.some.inj (f1.symm.trans k4)
  subst hcA
  have h9 := kk hH.lo (hH.fresh hH.lo) H1 locs a (cells + 1) (slots + n.toNatClampNeg) (hH.new (c := .inl (k, n.toNatClampNeg, .inr (.inr (fun _ => none)))) (by
    show H1[_]? = some (vp_cell _ _)
    rw [vp_cell_q]; exact e1) z1 o1) hl hL (by omega) (by omega)
  rw [List.map_cons, show ev_mv G (.ref w.1) = .ref H.size by show Value.ref _ = _; rw [ev_rho_next hH]] at h9
  exact h9
/-- a new object: the class that an instruction of own names -/
def ev_N (own : String) (index ci N : Nat) (fs : List Value) : Prop := ∃ (C : String) (T : u_T) (ty : Nat → FieldType), vwCl[ci]? = some (C, T, N) ∧ (∀ w ∈ u_ws C T N, w ∈ ev_tbl) ∧ (∀ k, k < N → parseFieldDescriptor (T k).2.2.1 = some (ty k)) ∧ Cond.classLink own index C ∈ ev_tbl ∧ Cond.instantiable C N ∈ ev_tbl ∧ Cond.initialized C ∈ ev_tbl ∧ (∀ j, j < N → defaultValue (ty j) = vp_V fs j) ∧ ∀ G : Ev_G, fs.map (ev_mv G) = fs
theorem r_new {bc' bs' : Nat} (hX : ev_C G M d X) {index ci N : Nat} {fs : List Value} (hd : decode M.2.2.1 pc = .ok (.new index, 3)) (hN : ev_N M.1 index ci N fs) (hc1 : 1 + bc' ≤ bc) (hs1 : N + bs' ≤ bs) (kk : 100 ≤ w.1 → w.2 w.1 = none → ev_W G M X bc' bs' (pc + 3) ls (.ref w.1 :: st) (ev_new w (.inr (ci, fs)))) : ev_W G M X bc bs pc ls st w := by
  obtain ⟨hx, hb, hm, ho, ht, hT, hi, hz, hzs, hdf, hdl, hlk⟩ := hX
  intro H locs a cells slots hH hl hL hc hs
  obtain ⟨C, T, ty, h1, h2, h3, h4, h5, h6, h7, h8⟩ := hN
  have hKn := hT.1.1 ci _ h1
  refine W.newcK hx hb ho (ht _ h4) (ht _ h5) (ht _ h6) rfl hd (by omega) (by omega) hKn.2.1 rfl fun H1 kC hkC e1 z1 o1 => ?_
  have h9 := kk hH.lo (hH.fresh hH.lo) H1 locs a (cells + 1) (slots + N) (hH.new (c := .inr (ci, fs)) (by
    refine ⟨_, h1, (u_born ty ht h2 hKn hkC e1 h3).to (fun j hj => ?_)⟩
    rw [h7 j hj]
    show _ = vp_V (fs.map (ev_mv G)) j
    rw [h8]) z1 o1) hl hL (by omega) (by omega)
  rw [List.map_cons, show ev_mv G (.ref w.1) = .ref H.size by show Value.ref _ = _; rw [ev_rho_next hH]] at h9
  exact h9
/-- statics: the enum's constants, and the array of them -/
theorem ev_S0 {H : Heap} {locs : List Loc} (hH : ev_H vwCl G w H) : ∀ q : Nat, q < G.2.2.2.2.size → ¬ ev_A G q → H[q]? = G.2.2.2.2[q]? := fun q h _ => hH.1 q h
theorem r_getsE (hX : ev_C G M d X) {index i : Nat} (hd : decode M.2.2.1 pc = .ok (.getstatic index, 3)) (hi17 : i < 17) (hl0 : Cond.fieldLink M.1 index "ElementFiles$Sort" (ev_nm.getD i "") "LElementFiles$Sort;" ∈ ev_tbl) (kk : ev_W G M X bc bs (pc + 3) ls (.ref i :: st) w) : ev_W G M X bc bs pc ls st w := by
  obtain ⟨hx, hb, hm, ho, ht, hT, hi, hz, hzs, hdf, hdl, hlk⟩ := hX
  intro H locs a cells slots hH hl hL hc hs
  obtain ⟨cf, kf, fi, f, a1, cell, h1, h2, h3, h4, h5, h6, h7, h8⟩ := (hT.2.1.1 i hi17).1
  refine W.gets hx hb ho (ht _ hl0) h1 h2 h3 h4 (by rw [hH.1 a1 (Array.getElem?_eq_some_iff.mp h5).1]; exact h5) (fun e => by rw [e] at h6; cases h6) h7 rfl hd ?_
  have h9 := kk H locs a cells slots hH hl hL hc hs
  rw [List.map_cons, show ev_mv G (.ref i) = .ref (G.2.2.2.1 i) by show Value.ref _ = _; rw [ev_rho, if_pos (by omega)]] at h9
  exact h9
theorem r_getsA (hX : ev_C G M d X) {index : Nat} (hd : decode M.2.2.1 pc = .ok (.getstatic index, 3)) (hl0 : Cond.fieldLink M.1 index "ElementFiles$Sort" "ALL" "[LElementFiles$Sort;" ∈ ev_tbl) (kk : ev_W G M X bc bs (pc + 3) ls (.ref 17 :: st) w) : ev_W G M X bc bs pc ls st w := by
  obtain ⟨hx, hb, hm, ho, ht, hT, hi, hz, hzs, hdf, hdl, hlk⟩ := hX
  intro H locs a cells slots hH hl hL hc hs
  obtain ⟨cf, kf, fi, f, a1, cell, h1, h2, h3, h4, h5, h6, h7, h8⟩ := hT.2.2.1
  refine W.gets hx hb ho (ht _ hl0) h1 h2 h3 h4 (by rw [hH.1 a1 (Array.getElem?_eq_some_iff.mp h5).1]; exact h5) (fun e => by rw [e] at h6; cases h6) h7 rfl hd ?_
  have h9 := kk H locs a cells slots hH hl hL hc hs
  rw [List.map_cons, show ev_mv G (.ref 17) = .ref (G.2.2.2.1 17) by show Value.ref _ = _; rw [ev_rho, if_pos (by omega)]] at h9
  exact h9
theorem r_getE (hX : ev_C G M d X) {index i : Nat} {q : String × String × String × List Int32} (hd : decode M.2.2.1 pc = .ok (.getfield index, 3)) (hi17 : i < 17) (hq : q ∈ ev_fl) (hl0 : Cond.fieldLink M.1 index q.1 q.2.1 q.2.2.1 ∈ ev_tbl) (kk : ev_W G M X bc bs (pc + 3) ls (.int (q.2.2.2.getD i 0) :: st) w) : ev_W G M X bc bs pc ls (.ref i :: st) w := by
  obtain ⟨hx, hb, hm, ho, ht, hT, hi, hz, hzs, hdf, hdl, hlk⟩ := hX
  intro H locs a cells slots hH hl hL hc hs
  obtain ⟨cf, k, fi, f, cell, h1, h2, h3, h4, h5, h6⟩ := (hT.2.1.1 i hi17).2.2 q hq
  refine W.getf hx hb ho (ht _ hl0) h1 h2 (a := ev_rho G i) (cell := cell) ?_ h4 (v := .int (q.2.2.2.getD i 0)) h5 rfl rfl hd (kk H locs a cells slots hH hl hL hc hs)
  rw [ev_rho, if_pos (by omega), hH.1 _ (Array.getElem?_eq_some_iff.mp h3).1]
  exact h3
theorem r_aaldA (hX : ev_C G M d X) {i : Int32} (hd : decode M.2.2.1 pc = .ok (.aaload, 1)) (hin : vp_in i 17) (kk : ev_W G M X bc bs (pc + 1) ls (.ref i.toNatClampNeg :: st) w) : ev_W G M X bc bs pc ls (.int i :: .ref 17 :: st) w := by
  obtain ⟨hx, hb, hm, ho, ht, hT, hi, hz, hzs, hdf, hdl, hlk⟩ := hX
  intro H locs a cells slots hH hl hL hc hs
  have hlt : i.toNatClampNeg < 17 := Nat.not_le.mp fun q => hin (Or.inr q)
  obtain ⟨cell, h1, h2, h3, h4, h5, h6, h7⟩ := hT.2.2.2.1
  refine W.aald (v := .ref (G.2.2.2.1 i.toNatClampNeg)) (ty := .object "ElementFiles$Sort") (a := ev_rho G 17) (cell := cell) hx hb ?_ h2 rfl h3 (fun q => hin (q.imp_right (fun z => Nat.le_trans h4 z))) (h6 _ hlt) rfl rfl hd ?_
  · rw [ev_rho, if_pos (by omega), hH.1 _ (Array.getElem?_eq_some_iff.mp h1).1]
    exact h1
  · have h9 := kk H locs a cells slots hH hl hL hc hs
    rw [List.map_cons, show ev_mv G (.ref i.toNatClampNeg) = .ref (G.2.2.2.1 i.toNatClampNeg) by show Value.ref _ = _; rw [ev_rho, if_pos (by omega)]] at h9
    exact h9
theorem r_alenA (hX : ev_C G M d X) (hd : decode M.2.2.1 pc = .ok (.arraylength, 1)) (kk : ev_W G M X bc bs (pc + 1) ls (.int 17 :: st) w) : ev_W G M X bc bs pc ls (.ref 17 :: st) w := by
  obtain ⟨hx, hb, hm, ho, ht, hT, hi, hz, hzs, hdf, hdl, hlk⟩ := hX
  intro H locs a cells slots hH hl hL hc hs
  obtain ⟨cell, h1, h2, h3, h4, h5, h6, h7⟩ := hT.2.2.2.1
  refine W.alen (n := 17) (ty := .object "ElementFiles$Sort") (a := ev_rho G 17) (cell := cell) hx hb ?_ h2 h5 rfl rfl hd (kk H locs a cells slots hH hl hL hc hs)
  rw [ev_rho, if_pos (by omega), hH.1 _ (Array.getElem?_eq_some_iff.mp h1).1]
  exact h1
/-! returns -/
variable {mc ms : Nat} {Q : Option Value → Ev_W → Prop}
theorem r_iret (hX : ev_C G M d X) (hR : ev_R G M mc ms Q X) {ty : FieldType} {v : Int32} (hd : decode M.2.2.1 pc = .ok (.ireturn, 1)) (hr : M.2.2.2.2 = some ty) (hn : narrow ty (.int v) = .int v) (hq : Q (some (.int v)) w) : ev_W G M X bc bs pc ls [.int v] w := by
  obtain ⟨hx, hb, hm, ho, ht, hT, hi, hz, hzs, hdf, hdl, hlk⟩ := hX
  obtain ⟨r1, r2, r3, r4, r5⟩ := hR
  intro H locs a cells slots hH hl hL hc hs
  rw [r1]
  refine W.widen (k := mc) (n := ms) (by omega) (by omega) ?_
  exact W.zret hx hb (r4.trans hr) hn (fun t h1 h2 => ⟨some (.int v), w, rfl, by rw [h1]; exact hH, hq⟩) hl hd hlk
theorem r_lret (hX : ev_C G M d X) (hR : ev_R G M mc ms Q X) {v : Int64} (hd : decode M.2.2.1 pc = .ok (.lreturn, 1)) (hr : M.2.2.2.2 = some .long) (hq : Q (some (.long v)) w) : ev_W G M X bc bs pc ls [.long v] w := by
  obtain ⟨hx, hb, hm, ho, ht, hT, hi, hz, hzs, hdf, hdl, hlk⟩ := hX
  obtain ⟨r1, r2, r3, r4, r5⟩ := hR
  intro H locs a cells slots hH hl hL hc hs
  rw [r1]
  refine W.widen (k := mc) (n := ms) (by omega) (by omega) ?_
  exact W.lret hx hb (r4.trans hr) (fun t h1 h2 => ⟨some (.long v), w, rfl, by rw [h1]; exact hH, hq⟩) hl hd hlk
theorem r_aret (hX : ev_C G M d X) (hR : ev_R G M mc ms Q X) {rt : FieldType} {o : Option Nat} (hd : decode M.2.2.1 pc = .ok (.areturn, 1)) (hr : M.2.2.2.2 = some rt) (hrt : (∃ n, rt = .object n) ∨ ∃ t, rt = .array t) (hq : Q (some (va_rf o)) w) : ev_W G M X bc bs pc ls [va_rf o] w := by
  obtain ⟨hx, hb, hm, ho, ht, hT, hi, hz, hzs, hdf, hdl, hlk⟩ := hX
  obtain ⟨r1, r2, r3, r4, r5⟩ := hR
  intro H locs a cells slots hH hl hL hc hs
  rw [r1]
  refine W.widen (k := mc) (n := ms) (by omega) (by omega) ?_
  exact W.aret hx hb (r4.trans hr) hrt (v := ev_mv G (va_rf o)) (by rw [ev_mv_rf]; exact va_rf_or _) (fun t h1 h2 => ⟨some (va_rf o), w, rfl, by rw [h1]; exact hH, hq⟩) hl hd hlk
theorem r_vret (hX : ev_C G M d X) (hR : ev_R G M mc ms Q X) (hd : decode M.2.2.1 pc = .ok (.return_, 1)) (hr : M.2.2.2.2 = none) (hq : Q none w) : ev_W G M X bc bs pc ls [] w := by
  obtain ⟨hx, hb, hm, ho, ht, hT, hi, hz, hzs, hdf, hdl, hlk⟩ := hX
  obtain ⟨r1, r2, r3, r4, r5⟩ := hR
  intro H locs a cells slots hH hl hL hc hs
  rw [r1]
  refine W.widen (k := mc) (n := ms) (by omega) (by omega) ?_
  exact W.vret hx hb (r4.trans hr) (fun t h1 h2 => ⟨none, w, rfl, by rw [h1]; exact hH, hq⟩) hl hd hlk
/-! calls -/
variable {N : Ev_M} {d' : Nat} {as rest : List Value}
theorem ev_blind {as : List Value} {w : Ev_W} : FrameBlind (va_Pc (as.map (ev_mv G)) (fun U => ev_H vwCl G w U.heap ∧ ev_T G U ∧ ev_inj G)) := fun a U g mk q => ⟨q.1, q.2.1, ev_T.same (u := U) (U := U.calling g mk a) rfl q.2.2.1, q.2.2.2⟩
theorem ev_goodT (hM : ev_MD N) : GoodIn ev_tbl (ev_ws N) := fun w hw => by
  rcases List.mem_cons.mp hw with h | h
  · subst h; exact ⟨hM.2.2.1, ev_tbl_ok hM.2.2.1⟩
  · exact ⟨h, ev_tbl_ok h⟩
theorem ev_rmR (hX : ev_C G M d X) (hM : ev_MD N) (hdd : d' < d) : (ev_rm d' mc ms).frames + 1 ≤ X.2.2.1.frames ∧ 8 + (N.2.2.2.1 + 11) + (ev_rm d' mc ms).locals ≤ X.2.2.1.locals := by
  obtain ⟨hx, hb, hm, ho, ht, hT, hi, hz, hzs, hdf, hdl, hlk⟩ := hX
  have h4 := hM.2.2.2
  refine ⟨by show d' + 1 ≤ _; omega, ?_⟩
  show 8 + (N.2.2.2.1 + 11) + d' * 38 ≤ _
  have : (d' + 1) * 38 ≤ d * 38 := Nat.mul_le_mul_right _ hdd
  omega
theorem ev_back {bc' bs' : Nat} {H : Heap} {locs : List Loc} {a : Array Slot} {cells slots : Nat} {st0 : List Value} {aa : Array Value}
    (hr : va_Run X.1 G.1 X.2.1 X.2.2.1 X.2.2.2.1 X.2.2.2.2.1 X.2.2.2.2.2.1 X.2.2.2.2.2.2.1 X.2.2.2.2.2.2.2.1 X.2.2.2.2.2.2.2.2.1 H locs cells slots mc ms (F0 X.2.2.2.2.1 pc a st0) (rest.map (ev_mv G)) (ev_Q G Q aa) (fun q => G.2.2.2.2.size ≤ q))
    (hl : ∀ q ∈ locs, G.2.2.2.2.size ≤ q.base) (hL : ev_L G M.2.2.2.1 ls a) (hc : cells + (mc + bc') ≤ X.2.2.1.cells) (hs : slots + (ms + bs') ≤ X.2.2.1.slots)
    (kk : ∀ (v : Option Value) (w' : Ev_W), Q v w' → ev_W G M X bc' bs' (pc + 3) ls (v.toList ++ rest) w') :
    W X.1 G.1 X.2.1 X.2.2.1 X.2.2.2.1 X.2.2.2.2.1 X.2.2.2.2.2.1 X.2.2.2.2.2.2.1 X.2.2.2.2.2.2.2.1 X.2.2.2.2.2.2.2.2.1 H locs cells slots X.2.2.2.2.2.2.2.2.2 (F0 X.2.2.2.2.1 pc a st0) := by
  intro T hT X0
  obtain ⟨v, st₀, t, T', L, h0, X', hL', e1, e2, ⟨v', w', ev, hH', hq⟩, stp⟩ := hr T hT X0
  have ev' : v = v'.map (ev_mv G) := Outcome.returned.inj ev
  subst ev'
  have h9 := kk v' w' hq T'.heap (locs ++ L) a (cells + mc) (slots + ms) (by rw [e1]; exact hH') (fun q hq' => by
    rcases List.mem_append.mp hq' with h | h
    · exact hl q h
    · exact hL' q h) hL (by omega) (by omega)
  obtain ⟨t2, a1, b1⟩ := h9 T' rfl X'
  refine ⟨t2, stp t2 ?_, b1⟩
  rw [List.map_append] at a1
  cases v' with
  | none => exact a1
  | some z => exact a1
/-- what a call of an instance method needs -/
def ev_LV (own : String) (index : Nat) (N : Ev_M) (n : Nat) : Prop := ev_MD N ∧ Cond.methodLink own index N.2.1 ∈ ev_tbl ∧ Cond.instanceMethod N.2.1 ∈ ev_tbl ∧ Cond.selects N.1 N.2.1 N.2.1 ∈ ev_tbl ∧ Cond.initialized N.1 ∈ ev_tbl ∧ N.2.1.cls ≠ "java/lang/invoke/MethodHandle" ∧ N.2.1.cls ≠ "java/lang/invoke/VarHandle" ∧ (parseMethodDescriptor N.2.1.desc).map (fun d => d.parameters.length) = some n
theorem r_callV (hX : ev_C G M d X) {index ci b n : Nat} {fs : List Value} (hd : decode M.2.2.1 pc = .ok (.invokevirtual index, 3)) (hLk : ev_LV M.1 index N n) (hw : w.2 b = some (.inr (ci, fs))) (hci : (vwCl[ci]?).map (fun q => q.1) = some N.1) (hn : as.length = n) (hro : (rest.map fun v => v.category).sum ≤ 8) (hdd : d' < d) (bc' bs' : Nat) (hc1 : mc + bc' ≤ bc) (hs1 : ms + bs' ≤ bs)
    (hM : ev_Met G N d' mc ms (.ref b :: as) w Q) (kk : ∀ (v : Option Value) (w' : Ev_W), Q v w' → ev_W G M X bc' bs' (pc + 3) ls (v.toList ++ rest) w') : ev_W G M X bc bs pc ls (as.reverse ++ .ref b :: rest) w := by
  have hX0 := hX
  obtain ⟨hx, hb, hm, ho, ht, hT, hi, hz, hzs, hdf, hdl, hlk⟩ := hX
  intro H locs a cells slots hH hl hL hc hs
  obtain ⟨k1, k2, k3, k4, k5, k6, k7, k8⟩ := hLk
  obtain ⟨cq, hcq, hcn⟩ : ∃ q, vwCl[ci]? = some q ∧ q.1 = N.1 := by
    cases h : vwCl[ci]? with
    | none => rw [h] at hci; cases hci
    | some q => rw [h] at hci; exact ⟨q, rfl, Option.some.inj hci⟩
  have hrec := va_recv (q0 := 0) hT.1 (ev_one (hH.2.2.2 b _ hw)) hcq rfl
  rw [hcn] at hrec
  refine ev_back (bc' := bc') (bs' := bs') (va_runV (As := as.map (ev_mv G)) (rest := rest.map (ev_mv G)) (b := ev_rho G b) (C := N.1) ⟨hx, hb, hm, ho, ht⟩ hM (cwV n ht (ws' := ev_tbl) (fun w hw => ?_) rfl rfl rfl ⟨k1.2.1, k6, k7, k8⟩ (ev_rmR hX0 k1 hdd)) ⟨ev_blind, hrec, fun U hU hW => ⟨rfl, by rw [hU]; exact hH, hT.warm hW, hi⟩⟩ rfl (by rw [List.length_map]; exact hn) hL.1 (by simp [ev_mv]) (lv_room (by rw [List.map_map]; simpa [Function.comp_def, ev_mv_cat] using hro)) hd ⟨by omega, by omega⟩) hl hL (by omega) (by omega) kk
  unfold wsV at hw
  rcases List.mem_append.mp hw with h | h
  · have h2 : w ∈ ev_tbl := by
      simp only [List.mem_cons, List.not_mem_nil, or_false] at h
      rcases h with h | h | h | h <;> (rw [h]; assumption)
    exact ⟨h2, ev_tbl_ok h2⟩
  · exact ev_goodT k1 w h
def ev_LS (own : String) (index : Nat) (N : Ev_M) (n : Nat) : Prop := ev_MD N ∧ Cond.methodLink own index N.2.1 ∈ ev_tbl ∧ Cond.static N.2.1 ∈ ev_tbl ∧ Cond.initialized N.2.1.cls ∈ ev_tbl ∧ N.2.1.cls ≠ "java/lang/invoke/MethodHandle" ∧ N.2.1.cls ≠ "java/lang/invoke/VarHandle" ∧ (parseMethodDescriptor N.2.1.desc).map (fun d => d.parameters.length) = some n
theorem r_callS (hX : ev_C G M d X) {index n : Nat} (hd : decode M.2.2.1 pc = .ok (.invokestatic index, 3)) (hLk : ev_LS M.1 index N n) (hn : as.length = n) (hro : (rest.map fun v => v.category).sum ≤ 8) (hdd : d' < d) (bc' bs' : Nat) (hc1 : mc + bc' ≤ bc) (hs1 : ms + bs' ≤ bs)
    (hM : ev_Met G N d' mc ms as w Q) (kk : ∀ (v : Option Value) (w' : Ev_W), Q v w' → ev_W G M X bc' bs' (pc + 3) ls (v.toList ++ rest) w') : ev_W G M X bc bs pc ls (as.reverse ++ rest) w := by
  have hX0 := hX
  obtain ⟨hx, hb, hm, ho, ht, hT, hi, hz, hzs, hdf, hdl, hlk⟩ := hX
  intro H locs a cells slots hH hl hL hc hs
  obtain ⟨k1, k2, k3, k5, k6, k7, k8⟩ := hLk
  refine ev_back (bc' := bc') (bs' := bs') (va_runS (As := as.map (ev_mv G)) (rest := rest.map (ev_mv G)) ⟨hx, hb, hm, ho, ht⟩ hM (va_cwS n ht (ws' := ev_tbl) (fun w hw => ?_) rfl rfl rfl ⟨k6, k7, k8⟩ (ev_rmR hX0 k1 hdd)) ⟨ev_blind, fun U hU hW => ⟨rfl, by rw [hU]; exact hH, hT.warm hW, hi⟩⟩ rfl (by rw [List.length_map]; exact hn) hL.1 (by simp) (lv_room (by rw [List.map_map]; simpa [Function.comp_def, ev_mv_cat] using hro)) hd ⟨by omega, by omega⟩) hl hL (by omega) (by omega) kk
  unfold va_wsS at hw
  rcases List.mem_append.mp hw with h | h
  · have h2 : w ∈ ev_tbl := by
      simp only [List.mem_cons, List.not_mem_nil, or_false] at h
      rcases h with h | h | h <;> (rw [h]; assumption)
    exact ⟨h2, ev_tbl_ok h2⟩
  · exact ev_goodT k1 w h
def ev_LI (own : String) (index : Nat) (N : Ev_M) (n : Nat) : Prop := ev_MD N ∧ N.2.2.2.2 = none ∧ Cond.methodLink own index N.2.1 ∈ ev_tbl ∧ Cond.instanceMethod N.2.1 ∈ ev_tbl ∧ Cond.initialized N.2.1.cls ∈ ev_tbl ∧ N.2.1.name = "<init>" ∧ N.2.1.cls ≠ "java/lang/invoke/MethodHandle" ∧ N.2.1.cls ≠ "java/lang/invoke/VarHandle" ∧ (parseMethodDescriptor N.2.1.desc).map (fun d => d.parameters.length) = some n
theorem r_callI (hX : ev_C G M d X) {index b n : Nat} (hd : decode M.2.2.1 pc = .ok (.invokespecial index, 3)) (hLk : ev_LI M.1 index N n) (hn : as.length = n) (hro : (rest.map fun v => v.category).sum ≤ 8) (hdd : d' < d) (bc' bs' : Nat) (hc1 : mc + bc' ≤ bc) (hs1 : ms + bs' ≤ bs)
    (hM : ev_Met G N d' mc ms (.ref b :: as) w Q) (kk : ∀ (v : Option Value) (w' : Ev_W), Q v w' → ev_W G M X bc' bs' (pc + 3) ls (v.toList ++ rest) w') : ev_W G M X bc bs pc ls (as.reverse ++ .ref b :: rest) w := by
  have hX0 := hX
  obtain ⟨hx, hb, hm, ho, ht, hT, hi, hz, hzs, hdf, hdl, hlk⟩ := hX
  intro H locs a cells slots hH hl hL hc hs
  obtain ⟨k1, k9, k2, k3, k5, k4, k6, k7, k8⟩ := hLk
  have hws : ev_ws N = Cond.code N.2.1 N.2.2.1 N.2.2.2.1 none :: ev_tbl := by unfold ev_ws; rw [k9]
  exact ev_back (bc' := bc') (bs' := bs') (va_runI (As := as.map (ev_mv G)) (rest := rest.map (ev_mv G)) (b := ev_rho G b) ⟨hx, hb, hm, ho, ht⟩ hM (cwI n ht (ev_goodT k1) hws rfl rfl (ht _ k5) (ht _ k2) (ht _ k3) k4 ⟨k6, k7, k8⟩ (ev_rmR hX0 k1 hdd)) ⟨ev_blind, fun U hU hW => ⟨rfl, by rw [hU]; exact hH, hT.warm hW, hi⟩⟩ rfl (by rw [List.length_map]; exact hn) hL.1 (by simp [ev_mv]) (lv_room (by rw [List.map_map]; simpa [Function.comp_def, ev_mv_cat] using hro)) hd ⟨by omega, by omega⟩) hl hL (by omega) (by omega) kk
/-- calls of a nest mate's private methods -/
def ev_LSN (own : String) (index : Nat) (host : String) (N : Ev_M) (n : Nat) : Prop := ev_MD N ∧ Cond.methodLinkNest own index N.2.1 host ∈ ev_nest ∧ Cond.static N.2.1 ∈ ev_tbl ∧ Cond.initialized N.2.1.cls ∈ ev_tbl ∧ N.2.1.cls ≠ "java/lang/invoke/MethodHandle" ∧ N.2.1.cls ≠ "java/lang/invoke/VarHandle" ∧ (parseMethodDescriptor N.2.1.desc).map (fun d => d.parameters.length) = some n
theorem r_callSN (hX : ev_C G M d X) {index n : Nat} {host : String} (hd : decode M.2.2.1 pc = .ok (.invokestatic index, 3)) (hLk : ev_LSN M.1 index host N n) (hn : as.length = n) (hro : (rest.map fun v => v.category).sum ≤ 8) (hdd : d' < d) (bc' bs' : Nat) (hc1 : mc + bc' ≤ bc) (hs1 : ms + bs' ≤ bs)
    (hM : ev_Met G N d' mc ms as w Q) (kk : ∀ (v : Option Value) (w' : Ev_W), Q v w' → ev_W G M X bc' bs' (pc + 3) ls (v.toList ++ rest) w') : ev_W G M X bc bs pc ls (as.reverse ++ rest) w := by
  have hX0 := hX
  obtain ⟨hx, hb, hm, ho, ht, hT, hi, hz, hzs, hdf, hdl, hlk⟩ := hX
  intro H locs a cells slots hH hl hL hc hs
  obtain ⟨k1, k2, k3, k5, k6, k7, k8⟩ := hLk
  exact ev_back (bc' := bc') (bs' := bs') (va_runSN (As := as.map (ev_mv G)) (rest := rest.map (ev_mv G)) ⟨hx, hb, hm, ho, ht⟩ hM ⟨va_cnB n ht (ev_goodT k1) rfl rfl rfl (hT.2.2.2.2.1 _ k2) (ht _ k5) ⟨k6, k7, k8⟩ (ev_rmR hX0 k1 hdd), ht _ k3, trivial⟩ ⟨ev_blind, fun U hU hW => ⟨rfl, by rw [hU]; exact hH, hT.warm hW, hi⟩⟩ rfl (by rw [List.length_map]; exact hn) hL.1 (by simp) (lv_room (by rw [List.map_map]; simpa [Function.comp_def, ev_mv_cat] using hro)) hd ⟨by omega, by omega⟩) hl hL (by omega) (by omega) kk
def ev_LIN (own : String) (index : Nat) (host : String) (N : Ev_M) (n : Nat) : Prop := ev_MD N ∧ N.2.2.2.2 = none ∧ Cond.methodLinkNest own index N.2.1 host ∈ ev_nest ∧ Cond.instanceMethod N.2.1 ∈ ev_tbl ∧ Cond.initialized N.2.1.cls ∈ ev_tbl ∧ N.2.1.name = "<init>" ∧ N.2.1.cls ≠ "java/lang/invoke/MethodHandle" ∧ N.2.1.cls ≠ "java/lang/invoke/VarHandle" ∧ (parseMethodDescriptor N.2.1.desc).map (fun d => d.parameters.length) = some n
theorem r_callIN (hX : ev_C G M d X) {index b n : Nat} {host : String} (hd : decode M.2.2.1 pc = .ok (.invokespecial index, 3)) (hLk : ev_LIN M.1 index host N n) (hn : as.length = n) (hro : (rest.map fun v => v.category).sum ≤ 8) (hdd : d' < d) (bc' bs' : Nat) (hc1 : mc + bc' ≤ bc) (hs1 : ms + bs' ≤ bs)
    (hM : ev_Met G N d' mc ms (.ref b :: as) w Q) (kk : ∀ (v : Option Value) (w' : Ev_W), Q v w' → ev_W G M X bc' bs' (pc + 3) ls (v.toList ++ rest) w') : ev_W G M X bc bs pc ls (as.reverse ++ .ref b :: rest) w := by
  have hX0 := hX
  obtain ⟨hx, hb, hm, ho, ht, hT, hi, hz, hzs, hdf, hdl, hlk⟩ := hX
  intro H locs a cells slots hH hl hL hc hs
  obtain ⟨k1, k9, k2, k3, k5, k4, k6, k7, k8⟩ := hLk
  have hws : ev_ws N = Cond.code N.2.1 N.2.2.1 N.2.2.2.1 none :: ev_tbl := by unfold ev_ws; rw [k9]
  exact ev_back (bc' := bc') (bs' := bs') (va_runIN (As := as.map (ev_mv G)) (rest := rest.map (ev_mv G)) (b := ev_rho G b) ⟨hx, hb, hm, ho, ht⟩ hM ⟨va_cnB n ht (ev_goodT k1) hws rfl rfl (hT.2.2.2.2.1 _ k2) (ht _ k5) ⟨k6, k7, k8⟩ (ev_rmR hX0 k1 hdd), k4, ht _ k3⟩ ⟨ev_blind, fun U hU hW => ⟨rfl, by rw [hU]; exact hH, hT.warm hW, hi⟩⟩ rfl (by rw [List.length_map]; exact hn) hL.1 (by simp [ev_mv]) (lv_room (by rw [List.map_map]; simpa [Function.comp_def, ev_mv_cat] using hro)) hd ⟨by omega, by omega⟩) hl hL (by omega) (by omega) kk
/-- a method of one of the enum's constants -/
theorem r_callVE (hX : ev_C G M d X) {index b n : Nat} (hd : decode M.2.2.1 pc = .ok (.invokevirtual index, 3)) (hLk : ev_LV M.1 index N n) (hb17 : b < 17) (hci : N.1 = "ElementFiles$Sort") (hn : as.length = n) (hro : (rest.map fun v => v.category).sum ≤ 8) (hdd : d' < d) (bc' bs' : Nat) (hc1 : mc + bc' ≤ bc) (hs1 : ms + bs' ≤ bs)
    (hM : ev_Met G N d' mc ms (.ref b :: as) w Q) (kk : ∀ (v : Option Value) (w' : Ev_W), Q v w' → ev_W G M X bc' bs' (pc + 3) ls (v.toList ++ rest) w') : ev_W G M X bc bs pc ls (as.reverse ++ .ref b :: rest) w := by
  have hX0 := hX
  obtain ⟨hx, hb, hm, ho, ht, hT, hi, hz, hzs, hdf, hdl, hlk⟩ := hX
  intro H locs a cells slots hH hl hL hc hs
  obtain ⟨k1, k2, k3, k4, k5, k6, k7, k8⟩ := hLk
  obtain ⟨cell, g1, g2, g3, -⟩ := (hT.2.1.1 b hb17).2.1
  have hrec : ∃ cell : Cell, H[ev_rho G b]? = some cell ∧ cell.vm.isStatics = false ∧ X.2.2.2.1.vm.findClass N.1 = some cell.cls := by
    refine ⟨cell, ?_, g2, by rw [hci]; exact g3⟩
    rw [ev_rho, if_pos (by omega), hH.1 _ (Array.getElem?_eq_some_iff.mp g1).1]
    exact g1
  refine ev_back (bc' := bc') (bs' := bs') (va_runV (As := as.map (ev_mv G)) (rest := rest.map (ev_mv G)) (b := ev_rho G b) (C := N.1) ⟨hx, hb, hm, ho, ht⟩ hM (cwV n ht (ws' := ev_tbl) (fun w hw => ?_) rfl rfl rfl ⟨k1.2.1, k6, k7, k8⟩ (ev_rmR hX0 k1 hdd)) ⟨ev_blind, hrec, fun U hU hW => ⟨rfl, by rw [hU]; exact hH, hT.warm hW, hi⟩⟩ rfl (by rw [List.length_map]; exact hn) hL.1 (by simp [ev_mv]) (lv_room (by rw [List.map_map]; simpa [Function.comp_def, ev_mv_cat] using hro)) hd ⟨by omega, by omega⟩) hl hL (by omega) (by omega) kk
  unfold wsV at hw
  rcases List.mem_append.mp hw with h | h
  · have h2 : w ∈ ev_tbl := by
      simp only [List.mem_cons, List.not_mem_nil, or_false] at h
      rcases h with h | h | h | h <;> (rw [h]; assumption)
    exact ⟨h2, ev_tbl_ok h2⟩
  · exact ev_goodT k1 w h
/-- Object.<init> -/
theorem r_objInit (hX : ev_C G M d X) {index r : Nat} (hd : decode M.2.2.1 pc = .ok (.invokespecial index, 3)) (h1 : Cond.methodLink M.1 index Lib.objectInit ∈ ev_tbl) (h2 : Cond.instanceMethod Lib.objectInit ∈ ev_tbl) (h3 : Cond.code Lib.objectInit ⟨#[0xb1]⟩ 1 none ∈ ev_tbl) (hdd : 0 < d) (hro : (st.map fun v => v.category).sum ≤ 8) (kk : ev_W G M X bc bs (pc + 3) ls st w) : ev_W G M X bc bs pc ls (.ref r :: st) w := by
  obtain ⟨hx, hb, hm, ho, ht, hT, hi, hz, hzs, hdf, hdl, hlk⟩ := hX
  intro H locs a cells slots hH hl hL hc hs
  refine W.objInit hx hb ho (ht _ h1) (ht _ h2) (ht _ h3) rfl (by show a.size = _; rw [hm]; exact hL.1) rfl hd (by omega) ?_ (kk H locs a cells slots hH hl hL hc hs)
  have h9 : ((st.map (ev_mv G)).map fun v => v.category).sum ≤ 8 := by rw [List.map_map]; simpa [Function.comp_def, ev_mv_cat] using hro
  have h8 : 2 * (F0 X.2.2.2.2.1 pc a (ev_mv G (.ref r) :: st.map (ev_mv G))).monitorRoom + ((st.map (ev_mv G)).map fun v => v.category).sum ≤ 8 := lv_room h9
  have h7 : 38 ≤ d * 38 := by omega
  show 2 * (F0 X.2.2.2.2.1 pc a (ev_mv G (.ref r) :: st.map (ev_mv G))).monitorRoom + ((st.map (ev_mv G)).map fun v => v.category).sum + 12 ≤ X.2.2.1.locals
  omega
end EvH
end
