section
-- ===== PART A: goes FIRST, ahead of the names: the tables' words, and 'selects' of the private methods out of them =====
/-- a private method of a class that the tables say can be made, by its rows of tables_1 -/
def lw_okq (q : MethodName × Nat) : Prop := (q.1.cls ≠ "java/lang/invoke/MethodHandle" ∧ q.1.cls ≠ "java/lang/invoke/VarHandle") ∧ Cond.instantiable q.1.cls q.2 ∈ tables_1 ∧ Cond.privateMethod q.1 ∈ tables_1 ∧ Cond.instanceMethod q.1 ∈ tables_1
theorem lw_p0 : lw_okq (⟨"ElementFiles$Reader", "readTag", "()I"⟩, 9) := ⟨⟨by decide +kernel, by decide +kernel⟩, List.mem_of_getElem? (i := 89) (by decide +kernel), List.mem_of_getElem? (i := 211) (by decide +kernel), List.mem_of_getElem? (i := 212) (by decide +kernel)⟩
theorem lw_p1 : lw_okq (⟨"ElementFiles$Reader", "nextNumber", "(I)J"⟩, 9) := ⟨⟨by decide +kernel, by decide +kernel⟩, List.mem_of_getElem? (i := 89) (by decide +kernel), List.mem_of_getElem? (i := 219) (by decide +kernel), List.mem_of_getElem? (i := 220) (by decide +kernel)⟩
theorem lw_p2 : lw_okq (⟨"ElementFiles$Reader", "readSize", "()I"⟩, 9) := ⟨⟨by decide +kernel, by decide +kernel⟩, List.mem_of_getElem? (i := 89) (by decide +kernel), List.mem_of_getElem? (i := 245) (by decide +kernel), List.mem_of_getElem? (i := 246) (by decide +kernel)⟩
theorem lw_p3 : lw_okq (⟨"ElementFiles$Reader", "nextVint", "()J"⟩, 9) := ⟨⟨by decide +kernel, by decide +kernel⟩, List.mem_of_getElem? (i := 89) (by decide +kernel), List.mem_of_getElem? (i := 249) (by decide +kernel), List.mem_of_getElem? (i := 250) (by decide +kernel)⟩
theorem lw_p4 : lw_okq (⟨"ElementFiles$Tree", "putInLine", "(ILElementFiles$Element;)V"⟩, 5) := ⟨⟨by decide +kernel, by decide +kernel⟩, List.mem_of_getElem? (i := 60) (by decide +kernel), List.mem_of_getElem? (i := 360) (by decide +kernel), List.mem_of_getElem? (i := 361) (by decide +kernel)⟩
theorem lw_p5 : lw_okq (⟨"ElementFiles$Reader", "readData", "()I"⟩, 9) := ⟨⟨by decide +kernel, by decide +kernel⟩, List.mem_of_getElem? (i := 89) (by decide +kernel), List.mem_of_getElem? (i := 368) (by decide +kernel), List.mem_of_getElem? (i := 369) (by decide +kernel)⟩
theorem lw_p6 : lw_okq (⟨"ElementFiles$Reader", "readText", "(LElementFiles$Element;)Z"⟩, 9) := ⟨⟨by decide +kernel, by decide +kernel⟩, List.mem_of_getElem? (i := 89) (by decide +kernel), List.mem_of_getElem? (i := 379) (by decide +kernel), List.mem_of_getElem? (i := 380) (by decide +kernel)⟩
theorem lw_p7 : lw_okq (⟨"ElementFiles$Reader", "readBlockHead", "(LElementFiles$Element;)I"⟩, 9) := ⟨⟨by decide +kernel, by decide +kernel⟩, List.mem_of_getElem? (i := 89) (by decide +kernel), List.mem_of_getElem? (i := 390) (by decide +kernel), List.mem_of_getElem? (i := 391) (by decide +kernel)⟩
theorem lw_p8 : lw_okq (⟨"ElementFiles$Reader", "nextByte", "()I"⟩, 9) := ⟨⟨by decide +kernel, by decide +kernel⟩, List.mem_of_getElem? (i := 89) (by decide +kernel), List.mem_of_getElem? (i := 395) (by decide +kernel), List.mem_of_getElem? (i := 396) (by decide +kernel)⟩
theorem lw_p9 : lw_okq (⟨"ElementFiles$Reader", "readSizes", "(LElementFiles$Element;I)Z"⟩, 9) := ⟨⟨by decide +kernel, by decide +kernel⟩, List.mem_of_getElem? (i := 89) (by decide +kernel), List.mem_of_getElem? (i := 403) (by decide +kernel), List.mem_of_getElem? (i := 404) (by decide +kernel)⟩
theorem lw_p10 : lw_okq (⟨"ElementFiles$Reader", "shareEvenly", "(LElementFiles$Element;I)Z"⟩, 9) := ⟨⟨by decide +kernel, by decide +kernel⟩, List.mem_of_getElem? (i := 89) (by decide +kernel), List.mem_of_getElem? (i := 407) (by decide +kernel), List.mem_of_getElem? (i := 408) (by decide +kernel)⟩
theorem lw_p11 : lw_okq (⟨"ElementFiles$Reader", "nextSizeOfBytes", "()J"⟩, 9) := ⟨⟨by decide +kernel, by decide +kernel⟩, List.mem_of_getElem? (i := 89) (by decide +kernel), List.mem_of_getElem? (i := 411) (by decide +kernel), List.mem_of_getElem? (i := 412) (by decide +kernel)⟩
theorem lw_p12 : lw_okq (⟨"ElementFiles$Reader", "storeRest", "(LElementFiles$Element;)V"⟩, 9) := ⟨⟨by decide +kernel, by decide +kernel⟩, List.mem_of_getElem? (i := 89) (by decide +kernel), List.mem_of_getElem? (i := 418) (by decide +kernel), List.mem_of_getElem? (i := 419) (by decide +kernel)⟩
theorem lw_p13 : lw_okq (⟨"ElementFiles$Reader", "readCheck", "(LElementFiles$Element;)Z"⟩, 9) := ⟨⟨by decide +kernel, by decide +kernel⟩, List.mem_of_getElem? (i := 89) (by decide +kernel), List.mem_of_getElem? (i := 430) (by decide +kernel), List.mem_of_getElem? (i := 431) (by decide +kernel)⟩
theorem lw_p14 : lw_okq (⟨"ElementFiles$Frames", "areEven", "()Z"⟩, 4) := ⟨⟨by decide +kernel, by decide +kernel⟩, List.mem_of_getElem? (i := 39) (by decide +kernel), List.mem_of_getElem? (i := 486) (by decide +kernel), List.mem_of_getElem? (i := 487) (by decide +kernel)⟩
theorem lw_p15 : lw_okq (⟨"ElementFiles$Writer", "putLeaf", "(LElementFiles$Element;LElementFiles$Row;)V"⟩, 3) := ⟨⟨by decide +kernel, by decide +kernel⟩, List.mem_of_getElem? (i := 124) (by decide +kernel), List.mem_of_getElem? (i := 552) (by decide +kernel), List.mem_of_getElem? (i := 553) (by decide +kernel)⟩
def lw_privs_1 : List (MethodName × Nat) := [(⟨"ElementFiles$Reader", "readTag", "()I"⟩, 9), (⟨"ElementFiles$Reader", "nextNumber", "(I)J"⟩, 9), (⟨"ElementFiles$Reader", "readSize", "()I"⟩, 9), (⟨"ElementFiles$Reader", "nextVint", "()J"⟩, 9), (⟨"ElementFiles$Tree", "putInLine", "(ILElementFiles$Element;)V"⟩, 5), (⟨"ElementFiles$Reader", "readData", "()I"⟩, 9), (⟨"ElementFiles$Reader", "readText", "(LElementFiles$Element;)Z"⟩, 9), (⟨"ElementFiles$Reader", "readBlockHead", "(LElementFiles$Element;)I"⟩, 9), (⟨"ElementFiles$Reader", "nextByte", "()I"⟩, 9), (⟨"ElementFiles$Reader", "readSizes", "(LElementFiles$Element;I)Z"⟩, 9), (⟨"ElementFiles$Reader", "shareEvenly", "(LElementFiles$Element;I)Z"⟩, 9), (⟨"ElementFiles$Reader", "nextSizeOfBytes", "()J"⟩, 9), (⟨"ElementFiles$Reader", "storeRest", "(LElementFiles$Element;)V"⟩, 9), (⟨"ElementFiles$Reader", "readCheck", "(LElementFiles$Element;)Z"⟩, 9), (⟨"ElementFiles$Frames", "areEven", "()Z"⟩, 4), (⟨"ElementFiles$Writer", "putLeaf", "(LElementFiles$Element;LElementFiles$Row;)V"⟩, 3)]
theorem lw_r1 : ∀ q ∈ lw_privs_1, lw_okq q := List.forall_mem_cons.mpr ⟨lw_p0, List.forall_mem_cons.mpr ⟨lw_p1, List.forall_mem_cons.mpr ⟨lw_p2, List.forall_mem_cons.mpr ⟨lw_p3, List.forall_mem_cons.mpr ⟨lw_p4, List.forall_mem_cons.mpr ⟨lw_p5, List.forall_mem_cons.mpr ⟨lw_p6, List.forall_mem_cons.mpr ⟨lw_p7, List.forall_mem_cons.mpr ⟨lw_p8, List.forall_mem_cons.mpr ⟨lw_p9, List.forall_mem_cons.mpr ⟨lw_p10, List.forall_mem_cons.mpr ⟨lw_p11, List.forall_mem_cons.mpr ⟨lw_p12, List.forall_mem_cons.mpr ⟨lw_p13, List.forall_mem_cons.mpr ⟨lw_p14, List.forall_mem_cons.mpr ⟨lw_p15, fun _ h => absurd h List.not_mem_nil⟩⟩⟩⟩⟩⟩⟩⟩⟩⟩⟩⟩⟩⟩⟩⟩
theorem lw_p16 : lw_okq (⟨"ElementFiles$Writer", "putStored", "(LElementFiles$Element;LElementFiles$Row;)V"⟩, 3) := ⟨⟨by decide +kernel, by decide +kernel⟩, List.mem_of_getElem? (i := 124) (by decide +kernel), List.mem_of_getElem? (i := 591) (by decide +kernel), List.mem_of_getElem? (i := 592) (by decide +kernel)⟩
theorem lw_p17 : lw_okq (⟨"ElementFiles$Writer", "putHeader", "(LElementFiles$Element;Z)V"⟩, 3) := ⟨⟨by decide +kernel, by decide +kernel⟩, List.mem_of_getElem? (i := 124) (by decide +kernel), List.mem_of_getElem? (i := 608) (by decide +kernel), List.mem_of_getElem? (i := 609) (by decide +kernel)⟩
theorem lw_p18 : lw_okq (⟨"ElementFiles$Writer", "fillCheck", "(LElementFiles$Element;)V"⟩, 3) := ⟨⟨by decide +kernel, by decide +kernel⟩, List.mem_of_getElem? (i := 124) (by decide +kernel), List.mem_of_getElem? (i := 613) (by decide +kernel), List.mem_of_getElem? (i := 614) (by decide +kernel)⟩
theorem lw_p19 : lw_okq (⟨"ElementFiles", "segmentAt", "(I)LElementFiles$Element;"⟩, 7) := ⟨⟨by decide +kernel, by decide +kernel⟩, List.mem_of_getElem? (i := 14) (by decide +kernel), List.mem_of_getElem? (i := 626) (by decide +kernel), List.mem_of_getElem? (i := 627) (by decide +kernel)⟩
theorem lw_p20 : lw_okq (⟨"ElementFiles$Finder", "countKeyBlocks", "(LElementFiles$Element;)I"⟩, 1) := ⟨⟨by decide +kernel, by decide +kernel⟩, List.mem_of_getElem? (i := 142) (by decide +kernel), List.mem_of_getElem? (i := 635) (by decide +kernel), List.mem_of_getElem? (i := 636) (by decide +kernel)⟩
theorem lw_p21 : lw_okq (⟨"ElementFiles$Finder", "addCue", "(LElementFiles$Element;LElementFiles$Element;I)V"⟩, 1) := ⟨⟨by decide +kernel, by decide +kernel⟩, List.mem_of_getElem? (i := 142) (by decide +kernel), List.mem_of_getElem? (i := 651) (by decide +kernel), List.mem_of_getElem? (i := 652) (by decide +kernel)⟩
theorem lw_p22 : lw_okq (⟨"ElementFiles$Finder", "momentOf", "(LElementFiles$Element;)J"⟩, 1) := ⟨⟨by decide +kernel, by decide +kernel⟩, List.mem_of_getElem? (i := 142) (by decide +kernel), List.mem_of_getElem? (i := 658) (by decide +kernel), List.mem_of_getElem? (i := 659) (by decide +kernel)⟩
theorem lw_p23 : lw_okq (⟨"ElementFiles$Finder", "firstNumber", "(LElementFiles$Element;LElementFiles$Sort;)J"⟩, 1) := ⟨⟨by decide +kernel, by decide +kernel⟩, List.mem_of_getElem? (i := 142) (by decide +kernel), List.mem_of_getElem? (i := 664) (by decide +kernel), List.mem_of_getElem? (i := 665) (by decide +kernel)⟩
theorem lw_p24 : lw_okq (⟨"ElementFiles$Finder", "addNumber", "(LElementFiles$Element;LElementFiles$Sort;J)V"⟩, 1) := ⟨⟨by decide +kernel, by decide +kernel⟩, List.mem_of_getElem? (i := 142) (by decide +kernel), List.mem_of_getElem? (i := 668) (by decide +kernel), List.mem_of_getElem? (i := 669) (by decide +kernel)⟩
theorem lw_p25 : lw_okq (⟨"ElementFiles$Finder", "blockWithBefore", "(LElementFiles$Element;J)I"⟩, 1) := ⟨⟨by decide +kernel, by decide +kernel⟩, List.mem_of_getElem? (i := 142) (by decide +kernel), List.mem_of_getElem? (i := 692) (by decide +kernel), List.mem_of_getElem? (i := 693) (by decide +kernel)⟩
theorem lw_p26 : lw_okq (⟨"ElementFilesModel", "readElement", "()I"⟩, 33) := ⟨⟨by decide +kernel, by decide +kernel⟩, List.mem_of_getElem? (i := 696) (by decide +kernel), List.mem_of_getElem? (i := 825) (by decide +kernel), List.mem_of_getElem? (i := 826) (by decide +kernel)⟩
theorem lw_p27 : lw_okq (⟨"ElementFilesModel", "readId", "(I)I"⟩, 33) := ⟨⟨by decide +kernel, by decide +kernel⟩, List.mem_of_getElem? (i := 696) (by decide +kernel), List.mem_of_getElem? (i := 829) (by decide +kernel), List.mem_of_getElem? (i := 830) (by decide +kernel)⟩
theorem lw_p28 : lw_okq (⟨"ElementFilesModel", "masterId", "()I"⟩, 33) := ⟨⟨by decide +kernel, by decide +kernel⟩, List.mem_of_getElem? (i := 696) (by decide +kernel), List.mem_of_getElem? (i := 836) (by decide +kernel), List.mem_of_getElem? (i := 837) (by decide +kernel)⟩
theorem lw_p29 : lw_okq (⟨"ElementFilesModel", "children", "(I)I"⟩, 33) := ⟨⟨by decide +kernel, by decide +kernel⟩, List.mem_of_getElem? (i := 696) (by decide +kernel), List.mem_of_getElem? (i := 849) (by decide +kernel), List.mem_of_getElem? (i := 850) (by decide +kernel)⟩
theorem lw_p30 : lw_okq (⟨"ElementFilesModel", "readSizeOf", "(I)I"⟩, 33) := ⟨⟨by decide +kernel, by decide +kernel⟩, List.mem_of_getElem? (i := 696) (by decide +kernel), List.mem_of_getElem? (i := 853) (by decide +kernel), List.mem_of_getElem? (i := 854) (by decide +kernel)⟩
theorem lw_p31 : lw_okq (⟨"ElementFilesModel", "readVint", "(I)I"⟩, 33) := ⟨⟨by decide +kernel, by decide +kernel⟩, List.mem_of_getElem? (i := 696) (by decide +kernel), List.mem_of_getElem? (i := 857) (by decide +kernel), List.mem_of_getElem? (i := 858) (by decide +kernel)⟩
def lw_privs_2 : List (MethodName × Nat) := [(⟨"ElementFiles$Writer", "putStored", "(LElementFiles$Element;LElementFiles$Row;)V"⟩, 3), (⟨"ElementFiles$Writer", "putHeader", "(LElementFiles$Element;Z)V"⟩, 3), (⟨"ElementFiles$Writer", "fillCheck", "(LElementFiles$Element;)V"⟩, 3), (⟨"ElementFiles", "segmentAt", "(I)LElementFiles$Element;"⟩, 7), (⟨"ElementFiles$Finder", "countKeyBlocks", "(LElementFiles$Element;)I"⟩, 1), (⟨"ElementFiles$Finder", "addCue", "(LElementFiles$Element;LElementFiles$Element;I)V"⟩, 1), (⟨"ElementFiles$Finder", "momentOf", "(LElementFiles$Element;)J"⟩, 1), (⟨"ElementFiles$Finder", "firstNumber", "(LElementFiles$Element;LElementFiles$Sort;)J"⟩, 1), (⟨"ElementFiles$Finder", "addNumber", "(LElementFiles$Element;LElementFiles$Sort;J)V"⟩, 1), (⟨"ElementFiles$Finder", "blockWithBefore", "(LElementFiles$Element;J)I"⟩, 1), (⟨"ElementFilesModel", "readElement", "()I"⟩, 33), (⟨"ElementFilesModel", "readId", "(I)I"⟩, 33), (⟨"ElementFilesModel", "masterId", "()I"⟩, 33), (⟨"ElementFilesModel", "children", "(I)I"⟩, 33), (⟨"ElementFilesModel", "readSizeOf", "(I)I"⟩, 33), (⟨"ElementFilesModel", "readVint", "(I)I"⟩, 33)]
theorem lw_r2 : ∀ q ∈ lw_privs_2, lw_okq q := List.forall_mem_cons.mpr ⟨lw_p16, List.forall_mem_cons.mpr ⟨lw_p17, List.forall_mem_cons.mpr ⟨lw_p18, List.forall_mem_cons.mpr ⟨lw_p19, List.forall_mem_cons.mpr ⟨lw_p20, List.forall_mem_cons.mpr ⟨lw_p21, List.forall_mem_cons.mpr ⟨lw_p22, List.forall_mem_cons.mpr ⟨lw_p23, List.forall_mem_cons.mpr ⟨lw_p24, List.forall_mem_cons.mpr ⟨lw_p25, List.forall_mem_cons.mpr ⟨lw_p26, List.forall_mem_cons.mpr ⟨lw_p27, List.forall_mem_cons.mpr ⟨lw_p28, List.forall_mem_cons.mpr ⟨lw_p29, List.forall_mem_cons.mpr ⟨lw_p30, List.forall_mem_cons.mpr ⟨lw_p31, fun _ h => absurd h List.not_mem_nil⟩⟩⟩⟩⟩⟩⟩⟩⟩⟩⟩⟩⟩⟩⟩⟩
theorem lw_p32 : lw_okq (⟨"ElementFilesModel", "readData", "(II)Z"⟩, 33) := ⟨⟨by decide +kernel, by decide +kernel⟩, List.mem_of_getElem? (i := 696) (by decide +kernel), List.mem_of_getElem? (i := 861) (by decide +kernel), List.mem_of_getElem? (i := 862) (by decide +kernel)⟩
theorem lw_p33 : lw_okq (⟨"ElementFilesModel", "readNumber", "(I)Z"⟩, 33) := ⟨⟨by decide +kernel, by decide +kernel⟩, List.mem_of_getElem? (i := 696) (by decide +kernel), List.mem_of_getElem? (i := 865) (by decide +kernel), List.mem_of_getElem? (i := 866) (by decide +kernel)⟩
theorem lw_p34 : lw_okq (⟨"ElementFilesModel", "readText", "(I)Z"⟩, 33) := ⟨⟨by decide +kernel, by decide +kernel⟩, List.mem_of_getElem? (i := 696) (by decide +kernel), List.mem_of_getElem? (i := 869) (by decide +kernel), List.mem_of_getElem? (i := 870) (by decide +kernel)⟩
theorem lw_p35 : lw_okq (⟨"ElementFilesModel", "readBlock", "(I)Z"⟩, 33) := ⟨⟨by decide +kernel, by decide +kernel⟩, List.mem_of_getElem? (i := 696) (by decide +kernel), List.mem_of_getElem? (i := 873) (by decide +kernel), List.mem_of_getElem? (i := 874) (by decide +kernel)⟩
theorem lw_p36 : lw_okq (⟨"ElementFilesModel", "readSizes", "(III)Z"⟩, 33) := ⟨⟨by decide +kernel, by decide +kernel⟩, List.mem_of_getElem? (i := 696) (by decide +kernel), List.mem_of_getElem? (i := 878) (by decide +kernel), List.mem_of_getElem? (i := 879) (by decide +kernel)⟩
theorem lw_p37 : lw_okq (⟨"ElementFilesModel", "readSize", "(IIII)I"⟩, 33) := ⟨⟨by decide +kernel, by decide +kernel⟩, List.mem_of_getElem? (i := 696) (by decide +kernel), List.mem_of_getElem? (i := 882) (by decide +kernel), List.mem_of_getElem? (i := 883) (by decide +kernel)⟩
theorem lw_p38 : lw_okq (⟨"ElementFilesModel", "keep", "(I)V"⟩, 33) := ⟨⟨by decide +kernel, by decide +kernel⟩, List.mem_of_getElem? (i := 696) (by decide +kernel), List.mem_of_getElem? (i := 887) (by decide +kernel), List.mem_of_getElem? (i := 888) (by decide +kernel)⟩
theorem lw_p39 : lw_okq (⟨"ElementFilesModel", "readSum", "(II)Z"⟩, 33) := ⟨⟨by decide +kernel, by decide +kernel⟩, List.mem_of_getElem? (i := 696) (by decide +kernel), List.mem_of_getElem? (i := 891) (by decide +kernel), List.mem_of_getElem? (i := 892) (by decide +kernel)⟩
theorem lw_p40 : lw_okq (⟨"ElementFilesModel", "isElement", "(I)Z"⟩, 33) := ⟨⟨by decide +kernel, by decide +kernel⟩, List.mem_of_getElem? (i := 696) (by decide +kernel), List.mem_of_getElem? (i := 907) (by decide +kernel), List.mem_of_getElem? (i := 908) (by decide +kernel)⟩
theorem lw_p41 : lw_okq (⟨"ElementFilesModel", "insert", "(IIJ)I"⟩, 33) := ⟨⟨by decide +kernel, by decide +kernel⟩, List.mem_of_getElem? (i := 696) (by decide +kernel), List.mem_of_getElem? (i := 912) (by decide +kernel), List.mem_of_getElem? (i := 913) (by decide +kernel)⟩
theorem lw_p42 : lw_okq (⟨"ElementFilesModel", "behind", "(I)I"⟩, 33) := ⟨⟨by decide +kernel, by decide +kernel⟩, List.mem_of_getElem? (i := 696) (by decide +kernel), List.mem_of_getElem? (i := 916) (by decide +kernel), List.mem_of_getElem? (i := 917) (by decide +kernel)⟩
theorem lw_p43 : lw_okq (⟨"ElementFilesModel", "isIn", "(II)Z"⟩, 33) := ⟨⟨by decide +kernel, by decide +kernel⟩, List.mem_of_getElem? (i := 696) (by decide +kernel), List.mem_of_getElem? (i := 920) (by decide +kernel), List.mem_of_getElem? (i := 921) (by decide +kernel)⟩
theorem lw_p44 : lw_okq (⟨"ElementFilesModel", "move", "(II)V"⟩, 33) := ⟨⟨by decide +kernel, by decide +kernel⟩, List.mem_of_getElem? (i := 696) (by decide +kernel), List.mem_of_getElem? (i := 924) (by decide +kernel), List.mem_of_getElem? (i := 925) (by decide +kernel)⟩
theorem lw_p45 : lw_okq (⟨"ElementFilesModel", "isKind", "(II)Z"⟩, 33) := ⟨⟨by decide +kernel, by decide +kernel⟩, List.mem_of_getElem? (i := 696) (by decide +kernel), List.mem_of_getElem? (i := 932) (by decide +kernel), List.mem_of_getElem? (i := 933) (by decide +kernel)⟩
theorem lw_p46 : lw_okq (⟨"ElementFilesModel", "is", "(II)Z"⟩, 33) := ⟨⟨by decide +kernel, by decide +kernel⟩, List.mem_of_getElem? (i := 696) (by decide +kernel), List.mem_of_getElem? (i := 944) (by decide +kernel), List.mem_of_getElem? (i := 945) (by decide +kernel)⟩
theorem lw_p47 : lw_okq (⟨"ElementFilesModel", "evenHands", "()Z"⟩, 33) := ⟨⟨by decide +kernel, by decide +kernel⟩, List.mem_of_getElem? (i := 696) (by decide +kernel), List.mem_of_getElem? (i := 948) (by decide +kernel), List.mem_of_getElem? (i := 949) (by decide +kernel)⟩
def lw_privs_3 : List (MethodName × Nat) := [(⟨"ElementFilesModel", "readData", "(II)Z"⟩, 33), (⟨"ElementFilesModel", "readNumber", "(I)Z"⟩, 33), (⟨"ElementFilesModel", "readText", "(I)Z"⟩, 33), (⟨"ElementFilesModel", "readBlock", "(I)Z"⟩, 33), (⟨"ElementFilesModel", "readSizes", "(III)Z"⟩, 33), (⟨"ElementFilesModel", "readSize", "(IIII)I"⟩, 33), (⟨"ElementFilesModel", "keep", "(I)V"⟩, 33), (⟨"ElementFilesModel", "readSum", "(II)Z"⟩, 33), (⟨"ElementFilesModel", "isElement", "(I)Z"⟩, 33), (⟨"ElementFilesModel", "insert", "(IIJ)I"⟩, 33), (⟨"ElementFilesModel", "behind", "(I)I"⟩, 33), (⟨"ElementFilesModel", "isIn", "(II)Z"⟩, 33), (⟨"ElementFilesModel", "move", "(II)V"⟩, 33), (⟨"ElementFilesModel", "isKind", "(II)Z"⟩, 33), (⟨"ElementFilesModel", "is", "(II)Z"⟩, 33), (⟨"ElementFilesModel", "evenHands", "()Z"⟩, 33)]
theorem lw_r3 : ∀ q ∈ lw_privs_3, lw_okq q := List.forall_mem_cons.mpr ⟨lw_p32, List.forall_mem_cons.mpr ⟨lw_p33, List.forall_mem_cons.mpr ⟨lw_p34, List.forall_mem_cons.mpr ⟨lw_p35, List.forall_mem_cons.mpr ⟨lw_p36, List.forall_mem_cons.mpr ⟨lw_p37, List.forall_mem_cons.mpr ⟨lw_p38, List.forall_mem_cons.mpr ⟨lw_p39, List.forall_mem_cons.mpr ⟨lw_p40, List.forall_mem_cons.mpr ⟨lw_p41, List.forall_mem_cons.mpr ⟨lw_p42, List.forall_mem_cons.mpr ⟨lw_p43, List.forall_mem_cons.mpr ⟨lw_p44, List.forall_mem_cons.mpr ⟨lw_p45, List.forall_mem_cons.mpr ⟨lw_p46, List.forall_mem_cons.mpr ⟨lw_p47, fun _ h => absurd h List.not_mem_nil⟩⟩⟩⟩⟩⟩⟩⟩⟩⟩⟩⟩⟩⟩⟩⟩
theorem lw_p48 : lw_okq (⟨"ElementFilesModel", "child", "(II)I"⟩, 33) := ⟨⟨by decide +kernel, by decide +kernel⟩, List.mem_of_getElem? (i := 696) (by decide +kernel), List.mem_of_getElem? (i := 969) (by decide +kernel), List.mem_of_getElem? (i := 970) (by decide +kernel)⟩
theorem lw_p49 : lw_okq (⟨"ElementFilesModel", "measure", "(Z)V"⟩, 33) := ⟨⟨by decide +kernel, by decide +kernel⟩, List.mem_of_getElem? (i := 696) (by decide +kernel), List.mem_of_getElem? (i := 986) (by decide +kernel), List.mem_of_getElem? (i := 987) (by decide +kernel)⟩
theorem lw_p50 : lw_okq (⟨"ElementFilesModel", "blockBytes", "(I)I"⟩, 33) := ⟨⟨by decide +kernel, by decide +kernel⟩, List.mem_of_getElem? (i := 696) (by decide +kernel), List.mem_of_getElem? (i := 993) (by decide +kernel), List.mem_of_getElem? (i := 994) (by decide +kernel)⟩
theorem lw_p51 : lw_okq (⟨"ElementFilesModel", "isLive", "(IZ)Z"⟩, 33) := ⟨⟨by decide +kernel, by decide +kernel⟩, List.mem_of_getElem? (i := 696) (by decide +kernel), List.mem_of_getElem? (i := 1008) (by decide +kernel), List.mem_of_getElem? (i := 1009) (by decide +kernel)⟩
theorem lw_p52 : lw_okq (⟨"ElementFilesModel", "putBytes", "(JI)V"⟩, 33) := ⟨⟨by decide +kernel, by decide +kernel⟩, List.mem_of_getElem? (i := 696) (by decide +kernel), List.mem_of_getElem? (i := 1012) (by decide +kernel), List.mem_of_getElem? (i := 1013) (by decide +kernel)⟩
theorem lw_p53 : lw_okq (⟨"ElementFilesModel", "put", "(I)V"⟩, 33) := ⟨⟨by decide +kernel, by decide +kernel⟩, List.mem_of_getElem? (i := 696) (by decide +kernel), List.mem_of_getElem? (i := 1016) (by decide +kernel), List.mem_of_getElem? (i := 1017) (by decide +kernel)⟩
theorem lw_p54 : lw_okq (⟨"ElementFilesModel", "putVint", "(JI)V"⟩, 33) := ⟨⟨by decide +kernel, by decide +kernel⟩, List.mem_of_getElem? (i := 696) (by decide +kernel), List.mem_of_getElem? (i := 1020) (by decide +kernel), List.mem_of_getElem? (i := 1021) (by decide +kernel)⟩
theorem lw_p55 : lw_okq (⟨"ElementFilesModel", "putData", "(I)V"⟩, 33) := ⟨⟨by decide +kernel, by decide +kernel⟩, List.mem_of_getElem? (i := 696) (by decide +kernel), List.mem_of_getElem? (i := 1024) (by decide +kernel), List.mem_of_getElem? (i := 1025) (by decide +kernel)⟩
theorem lw_p56 : lw_okq (⟨"ElementFilesModel", "putBlock", "(I)V"⟩, 33) := ⟨⟨by decide +kernel, by decide +kernel⟩, List.mem_of_getElem? (i := 696) (by decide +kernel), List.mem_of_getElem? (i := 1028) (by decide +kernel), List.mem_of_getElem? (i := 1029) (by decide +kernel)⟩
theorem lw_p57 : lw_okq (⟨"ElementFilesModel", "fillSum", "(I)V"⟩, 33) := ⟨⟨by decide +kernel, by decide +kernel⟩, List.mem_of_getElem? (i := 696) (by decide +kernel), List.mem_of_getElem? (i := 1032) (by decide +kernel), List.mem_of_getElem? (i := 1033) (by decide +kernel)⟩
theorem lw_p58 : lw_okq (⟨"ElementFilesModel", "isBlockOf", "(II)Z"⟩, 33) := ⟨⟨by decide +kernel, by decide +kernel⟩, List.mem_of_getElem? (i := 696) (by decide +kernel), List.mem_of_getElem? (i := 1040) (by decide +kernel), List.mem_of_getElem? (i := 1041) (by decide +kernel)⟩
theorem lw_p59 : lw_okq (⟨"ElementFilesModel", "remove", "(I)V"⟩, 33) := ⟨⟨by decide +kernel, by decide +kernel⟩, List.mem_of_getElem? (i := 696) (by decide +kernel), List.mem_of_getElem? (i := 1044) (by decide +kernel), List.mem_of_getElem? (i := 1045) (by decide +kernel)⟩
theorem lw_p60 : lw_okq (⟨"ElementFilesModel", "moment", "(I)J"⟩, 33) := ⟨⟨by decide +kernel, by decide +kernel⟩, List.mem_of_getElem? (i := 696) (by decide +kernel), List.mem_of_getElem? (i := 1048) (by decide +kernel), List.mem_of_getElem? (i := 1049) (by decide +kernel)⟩
theorem lw_p61 : lw_okq (⟨"ElementFilesModel", "first", "(II)J"⟩, 33) := ⟨⟨by decide +kernel, by decide +kernel⟩, List.mem_of_getElem? (i := 696) (by decide +kernel), List.mem_of_getElem? (i := 1052) (by decide +kernel), List.mem_of_getElem? (i := 1053) (by decide +kernel)⟩
def lw_privs_4 : List (MethodName × Nat) := [(⟨"ElementFilesModel", "child", "(II)I"⟩, 33), (⟨"ElementFilesModel", "measure", "(Z)V"⟩, 33), (⟨"ElementFilesModel", "blockBytes", "(I)I"⟩, 33), (⟨"ElementFilesModel", "isLive", "(IZ)Z"⟩, 33), (⟨"ElementFilesModel", "putBytes", "(JI)V"⟩, 33), (⟨"ElementFilesModel", "put", "(I)V"⟩, 33), (⟨"ElementFilesModel", "putVint", "(JI)V"⟩, 33), (⟨"ElementFilesModel", "putData", "(I)V"⟩, 33), (⟨"ElementFilesModel", "putBlock", "(I)V"⟩, 33), (⟨"ElementFilesModel", "fillSum", "(I)V"⟩, 33), (⟨"ElementFilesModel", "isBlockOf", "(II)Z"⟩, 33), (⟨"ElementFilesModel", "remove", "(I)V"⟩, 33), (⟨"ElementFilesModel", "moment", "(I)J"⟩, 33), (⟨"ElementFilesModel", "first", "(II)J"⟩, 33)]
theorem lw_r4 : ∀ q ∈ lw_privs_4, lw_okq q := List.forall_mem_cons.mpr ⟨lw_p48, List.forall_mem_cons.mpr ⟨lw_p49, List.forall_mem_cons.mpr ⟨lw_p50, List.forall_mem_cons.mpr ⟨lw_p51, List.forall_mem_cons.mpr ⟨lw_p52, List.forall_mem_cons.mpr ⟨lw_p53, List.forall_mem_cons.mpr ⟨lw_p54, List.forall_mem_cons.mpr ⟨lw_p55, List.forall_mem_cons.mpr ⟨lw_p56, List.forall_mem_cons.mpr ⟨lw_p57, List.forall_mem_cons.mpr ⟨lw_p58, List.forall_mem_cons.mpr ⟨lw_p59, List.forall_mem_cons.mpr ⟨lw_p60, List.forall_mem_cons.mpr ⟨lw_p61, fun _ h => absurd h List.not_mem_nil⟩⟩⟩⟩⟩⟩⟩⟩⟩⟩⟩⟩⟩⟩
def lw_privs : List (MethodName × Nat) := lw_privs_1 ++ (lw_privs_2 ++ (lw_privs_3 ++ (lw_privs_4)))
def lw_tbl : List Cond := k2_sels lw_privs ++ tables_1
theorem lw_privs_ok : ∀ q ∈ lw_privs, lw_okq q := by
  show ∀ q ∈ lw_privs_1 ++ (lw_privs_2 ++ (lw_privs_3 ++ (lw_privs_4))), lw_okq q
  exact List.forall_mem_append.mpr ⟨lw_r1, List.forall_mem_append.mpr ⟨lw_r2, List.forall_mem_append.mpr ⟨lw_r3, lw_r4⟩⟩⟩
end
section
def R_EF : String := "ElementFiles"
def F_EF : u_T := fun k => match k with
  | 0 => ("ElementFiles", "fed", "LElementFiles$Row;", true)
  | 1 => ("ElementFiles", "written", "LElementFiles$Row;", true)
  | 2 => ("ElementFiles", "atHand", "LElementFiles$Frames;", true)
  | 3 => ("ElementFiles", "tree", "LElementFiles$Tree;", true)
  | 4 => ("ElementFiles", "reader", "LElementFiles$Reader;", true)
  | 5 => ("ElementFiles", "writer", "LElementFiles$Writer;", true)
  | _ => ("ElementFiles", "finder", "LElementFiles$Finder;", true)
def t_EF : Nat → FieldType := fun k => match k with
  | 0 => .object "ElementFiles$Row"
  | 1 => .object "ElementFiles$Row"
  | 2 => .object "ElementFiles$Frames"
  | 3 => .object "ElementFiles$Tree"
  | 4 => .object "ElementFiles$Reader"
  | 5 => .object "ElementFiles$Writer"
  | _ => .object "ElementFiles$Finder"
theorem n_EF : ∀ a, a < 7 → ∀ b, b < 7 → a ≠ b → (F_EF a).2.1 ≠ (F_EF b).2.1 := by decide +kernel
theorem t_EF_ok : ∀ k, k < 7 → parseFieldDescriptor (F_EF k).2.2.1 = some (t_EF k) := by decide +kernel
def R_Ro : String := "ElementFiles$Row"
def F_Ro : u_T := fun k => match k with
  | 0 => ("ElementFiles$Row", "bytes", "[I", true)
  | _ => ("ElementFiles$Row", "count", "I", false)
def t_Ro : Nat → FieldType := fun k => match k with
  | 0 => .array .int
  | _ => .int
theorem n_Ro : ∀ a, a < 2 → ∀ b, b < 2 → a ≠ b → (F_Ro a).2.1 ≠ (F_Ro b).2.1 := by decide +kernel
theorem t_Ro_ok : ∀ k, k < 2 → parseFieldDescriptor (F_Ro k).2.2.1 = some (t_Ro k) := by decide +kernel
def R_Fr : String := "ElementFiles$Frames"
def F_Fr : u_T := fun k => match k with
  | 0 => ("ElementFiles$Frames", "sizes", "[I", true)
  | 1 => ("ElementFiles$Frames", "bytes", "[I", true)
  | 2 => ("ElementFiles$Frames", "count", "I", false)
  | _ => ("ElementFiles$Frames", "filled", "I", false)
def t_Fr : Nat → FieldType := fun k => match k with
  | 0 => .array .int
  | 1 => .array .int
  | 2 => .int
  | _ => .int
theorem n_Fr : ∀ a, a < 4 → ∀ b, b < 4 → a ≠ b → (F_Fr a).2.1 ≠ (F_Fr b).2.1 := by decide +kernel
theorem t_Fr_ok : ∀ k, k < 4 → parseFieldDescriptor (F_Fr k).2.2.1 = some (t_Fr k) := by decide +kernel
def R_El : String := "ElementFiles$Element"
def F_El : u_T := fun k => match k with
  | 0 => ("ElementFiles$Element", "sort", "LElementFiles$Sort;", false)
  | 1 => ("ElementFiles$Element", "tag", "I", false)
  | 2 => ("ElementFiles$Element", "master", "LElementFiles$Element;", false)
  | 3 => ("ElementFiles$Element", "level", "I", false)
  | 4 => ("ElementFiles$Element", "number", "I", false)
  | 5 => ("ElementFiles$Element", "amount", "J", false)
  | 6 => ("ElementFiles$Element", "parts", "[I", true)
  | 7 => ("ElementFiles$Element", "storedFrom", "I", false)
  | 8 => ("ElementFiles$Element", "storedSize", "I", false)
  | 9 => ("ElementFiles$Element", "track", "I", false)
  | 10 => ("ElementFiles$Element", "time", "I", false)
  | 11 => ("ElementFiles$Element", "key", "Z", false)
  | 12 => ("ElementFiles$Element", "lacing", "I", false)
  | 13 => ("ElementFiles$Element", "end", "I", false)
  | 14 => ("ElementFiles$Element", "open", "Z", false)
  | 15 => ("ElementFiles$Element", "dataSize", "I", false)
  | _ => ("ElementFiles$Element", "dataPlace", "I", false)
def t_El : Nat → FieldType := fun k => match k with
  | 0 => .object "ElementFiles$Sort"
  | 1 => .int
  | 2 => .object "ElementFiles$Element"
  | 3 => .int
  | 4 => .int
  | 5 => .long
  | 6 => .array .int
  | 7 => .int
  | 8 => .int
  | 9 => .int
  | 10 => .int
  | 11 => .boolean
  | 12 => .int
  | 13 => .int
  | 14 => .boolean
  | 15 => .int
  | _ => .int
theorem n_El : ∀ a, a < 17 → ∀ b, b < 17 → a ≠ b → (F_El a).2.1 ≠ (F_El b).2.1 := by decide +kernel
theorem t_El_ok : ∀ k, k < 17 → parseFieldDescriptor (F_El k).2.2.1 = some (t_El k) := by decide +kernel
def R_Tr : String := "ElementFiles$Tree"
def F_Tr : u_T := fun k => match k with
  | 0 => ("ElementFiles$Tree", "line", "[LElementFiles$Element;", true)
  | 1 => ("ElementFiles$Tree", "aside", "[LElementFiles$Element;", true)
  | 2 => ("ElementFiles$Tree", "count", "I", false)
  | 3 => ("ElementFiles$Tree", "store", "[I", true)
  | _ => ("ElementFiles$Tree", "stored", "I", false)
def t_Tr : Nat → FieldType := fun k => match k with
  | 0 => .array (.object "ElementFiles$Element")
  | 1 => .array (.object "ElementFiles$Element")
  | 2 => .int
  | 3 => .array .int
  | _ => .int
theorem n_Tr : ∀ a, a < 5 → ∀ b, b < 5 → a ≠ b → (F_Tr a).2.1 ≠ (F_Tr b).2.1 := by decide +kernel
theorem t_Tr_ok : ∀ k, k < 5 → parseFieldDescriptor (F_Tr k).2.2.1 = some (t_Tr k) := by decide +kernel
def R_Re : String := "ElementFiles$Reader"
def F_Re : u_T := fun k => match k with
  | 0 => ("ElementFiles$Reader", "source", "LElementFiles$Row;", true)
  | 1 => ("ElementFiles$Reader", "tree", "LElementFiles$Tree;", true)
  | 2 => ("ElementFiles$Reader", "faultPlace", "I", false)
  | 3 => ("ElementFiles$Reader", "master", "LElementFiles$Element;", false)
  | 4 => ("ElementFiles$Reader", "place", "I", false)
  | 5 => ("ElementFiles$Reader", "end", "I", false)
  | 6 => ("ElementFiles$Reader", "tag", "I", false)
  | 7 => ("ElementFiles$Reader", "vintIsFull", "Z", false)
  | _ => ("ElementFiles$Reader", "vintLength", "I", false)
def t_Re : Nat → FieldType := fun k => match k with
  | 0 => .object "ElementFiles$Row"
  | 1 => .object "ElementFiles$Tree"
  | 2 => .int
  | 3 => .object "ElementFiles$Element"
  | 4 => .int
  | 5 => .int
  | 6 => .int
  | 7 => .boolean
  | _ => .int
theorem n_Re : ∀ a, a < 9 → ∀ b, b < 9 → a ≠ b → (F_Re a).2.1 ≠ (F_Re b).2.1 := by decide +kernel
theorem t_Re_ok : ∀ k, k < 9 → parseFieldDescriptor (F_Re k).2.2.1 = some (t_Re k) := by decide +kernel
def R_Wr : String := "ElementFiles$Writer"
def F_Wr : u_T := fun k => match k with
  | 0 => ("ElementFiles$Writer", "tree", "LElementFiles$Tree;", true)
  | 1 => ("ElementFiles$Writer", "target", "LElementFiles$Row;", true)
  | _ => ("ElementFiles$Writer", "counter", "LElementFiles$Row;", true)
def t_Wr : Nat → FieldType := fun k => match k with
  | 0 => .object "ElementFiles$Tree"
  | 1 => .object "ElementFiles$Row"
  | _ => .object "ElementFiles$Row"
theorem n_Wr : ∀ a, a < 3 → ∀ b, b < 3 → a ≠ b → (F_Wr a).2.1 ≠ (F_Wr b).2.1 := by decide +kernel
theorem t_Wr_ok : ∀ k, k < 3 → parseFieldDescriptor (F_Wr k).2.2.1 = some (t_Wr k) := by decide +kernel
def R_Fi : String := "ElementFiles$Finder"
def F_Fi : u_T := fun k => match k with
  | _ => ("ElementFiles$Finder", "tree", "LElementFiles$Tree;", true)
def t_Fi : Nat → FieldType := fun k => match k with
  | _ => .object "ElementFiles$Tree"
theorem n_Fi : ∀ a, a < 1 → ∀ b, b < 1 → a ≠ b → (F_Fi a).2.1 ≠ (F_Fi b).2.1 := by decide +kernel
theorem t_Fi_ok : ∀ k, k < 1 → parseFieldDescriptor (F_Fi k).2.2.1 = some (t_Fi k) := by decide +kernel
def R_Mo : String := "ElementFilesModel"
def F_Mo : u_T := fun k => match k with
  | 0 => ("ElementFilesModel", "count", "I", false)
  | 1 => ("ElementFilesModel", "ids", "[I", true)
  | 2 => ("ElementFilesModel", "masters", "[I", true)
  | 3 => ("ElementFilesModel", "values", "[J", true)
  | 4 => ("ElementFilesModel", "many", "[I", true)
  | 5 => ("ElementFilesModel", "letters", "[I", true)
  | 6 => ("ElementFilesModel", "tracks", "[I", true)
  | 7 => ("ElementFilesModel", "times", "[I", true)
  | 8 => ("ElementFilesModel", "keys", "[Z", true)
  | 9 => ("ElementFilesModel", "lacings", "[I", true)
  | 10 => ("ElementFilesModel", "sizes", "[I", true)
  | 11 => ("ElementFilesModel", "places", "[I", true)
  | 12 => ("ElementFilesModel", "heap", "[I", true)
  | 13 => ("ElementFilesModel", "used", "I", false)
  | 14 => ("ElementFilesModel", "hands", "I", false)
  | 15 => ("ElementFilesModel", "handSize", "[I", true)
  | 16 => ("ElementFilesModel", "handFirst", "[I", true)
  | 17 => ("ElementFilesModel", "handBytes", "I", false)
  | 18 => ("ElementFilesModel", "in", "[I", true)
  | 19 => ("ElementFilesModel", "ins", "I", false)
  | 20 => ("ElementFilesModel", "out", "[I", true)
  | 21 => ("ElementFilesModel", "outs", "I", false)
  | 22 => ("ElementFilesModel", "fault", "I", false)
  | 23 => ("ElementFilesModel", "at", "I", false)
  | 24 => ("ElementFilesModel", "width", "I", false)
  | 25 => ("ElementFilesModel", "vint", "J", false)
  | 26 => ("ElementFilesModel", "ones", "Z", false)
  | 27 => ("ElementFilesModel", "depth", "I", false)
  | 28 => ("ElementFilesModel", "openMaster", "[I", true)
  | 29 => ("ElementFilesModel", "openEnd", "[I", true)
  | 30 => ("ElementFilesModel", "unknown", "[Z", true)
  | 31 => ("ElementFilesModel", "data", "[I", true)
  | _ => ("ElementFilesModel", "begins", "[I", true)
def t_Mo : Nat → FieldType := fun k => match k with
  | 0 => .int
  | 1 => .array .int
  | 2 => .array .int
  | 3 => .array .long
  | 4 => .array .int
  | 5 => .array .int
  | 6 => .array .int
  | 7 => .array .int
  | 8 => .array .boolean
  | 9 => .array .int
  | 10 => .array .int
  | 11 => .array .int
  | 12 => .array .int
  | 13 => .int
  | 14 => .int
  | 15 => .array .int
  | 16 => .array .int
  | 17 => .int
  | 18 => .array .int
  | 19 => .int
  | 20 => .array .int
  | 21 => .int
  | 22 => .int
  | 23 => .int
  | 24 => .int
  | 25 => .long
  | 26 => .boolean
  | 27 => .int
  | 28 => .array .int
  | 29 => .array .int
  | 30 => .array .boolean
  | 31 => .array .int
  | _ => .array .int
theorem n_Mo : ∀ a, a < 33 → ∀ b, b < 33 → a ≠ b → (F_Mo a).2.1 ≠ (F_Mo b).2.1 := by decide +kernel
theorem t_Mo_ok : ∀ k, k < 33 → parseFieldDescriptor (F_Mo k).2.2.1 = some (t_Mo k) := by decide +kernel
abbrev vwCl : List vw_C := [(R_EF, F_EF, 7), (R_Ro, F_Ro, 2), (R_Fr, F_Fr, 4), (R_El, F_El, 17), (R_Tr, F_Tr, 5), (R_Re, F_Re, 9), (R_Wr, F_Wr, 3), (R_Fi, F_Fi, 1), (R_Mo, F_Mo, 33)]
def R_So : String := "ElementFiles$Sort"
def R_La : String := "ElementFilesLaw"
def R_Ma : String := "java/lang/Math"
abbrev ev_arrs : List FieldType := [.int, .long, .boolean, .object "ElementFiles$Element"]
abbrev ev_over : List String := ["ElementFiles$Element"]
abbrev ev_nm : List String := ["HEAD", "SEGMENT", "VERSION", "TYPE", "TRACK", "NUMBER", "NAME", "CLUSTER", "TIME", "BLOCK", "CUE", "WHEN", "WHOSE", "WHICH", "CHECK", "VOID", "FOREIGN"]
abbrev ev_fl : List (String × String × String × List Int32) := [("ElementFiles$Sort", "tag", "I", [440786851, 408125543, 17030, 17026, 174, 215, 21358, 524531317, 231, 163, 187, 179, 247, 241, 191, 236, 0]), ("ElementFiles$Sort", "form", "I", [0, 0, 1, 2, 0, 1, 2, 0, 1, 3, 0, 1, 1, 1, 4, 5, 6]), ("ElementFiles$Sort", "places", "I", [1, 1, 2, 2, 4, 8, 8, 4, 16, 16, 4, 32, 32, 32, 42, 63, 63]), ("ElementFiles$Sort", "inside", "I", [2, 4, 0, 0, 8, 0, 0, 16, 0, 0, 32, 0, 0, 0, 0, 0, 0])]
def ev_nest : List Cond := [.methodLinkNest "ElementFiles" 23 ⟨"ElementFiles$Frames", "<init>", "()V"⟩ "ElementFiles", .methodLinkNest "ElementFiles" 30 ⟨"ElementFiles$Tree", "<init>", "()V"⟩ "ElementFiles", .methodLinkNest "ElementFiles$Reader" 62 ⟨"ElementFiles", "vintLengthByFirst", "(I)I"⟩ "ElementFiles", .methodLinkNest "ElementFiles$Reader" 191 ⟨"ElementFiles", "allOnes", "(I)J"⟩ "ElementFiles", .methodLinkNest "ElementFiles$Tree" 61 ⟨"ElementFiles$Element", "<init>", "()V"⟩ "ElementFiles", .methodLinkNest "ElementFiles$Reader" 149 ⟨"ElementFiles", "isLetter", "(I)Z"⟩ "ElementFiles", .methodLinkNest "ElementFiles$Reader" 179 ⟨"ElementFiles", "surplus", "(I)J"⟩ "ElementFiles", .methodLinkNest "ElementFiles$Writer" 51 ⟨"ElementFiles", "shortestVintLength", "(J)I"⟩ "ElementFiles", .methodLinkNest "ElementFiles$Row" 23 ⟨"ElementFiles", "allOnes", "(I)J"⟩ "ElementFiles", .methodLinkNest "ElementFiles$Writer" 156 ⟨"ElementFiles", "surplus", "(I)J"⟩ "ElementFiles"]
theorem ev_nest_is : ∀ w ∈ ev_nest, ∃ (a : String) (i : Nat) (x : MethodName) (h : String), w = .methodLinkNest a i x h := by
  intro w hw
  simp only [ev_nest, List.mem_cons, List.not_mem_nil, or_false] at hw
  rcases hw with h | h | h | h | h | h | h | h | h | h <;> exact ⟨_, _, _, _, h⟩
theorem ev_nest_tab (w : Cond) (hw : w ∈ ev_nest) : w.onTables = true := by
  obtain ⟨a, i, x, h, e⟩ := ev_nest_is w hw
  rw [e]; rfl
theorem ev_nest_warm (w : Cond) (hw : w ∈ ev_nest) {s U : State} (h : s.WarmedH U.vm) (k : va_Nw w s) : va_Nw w U := by
  obtain ⟨a, i, x, hh, e⟩ := ev_nest_is w hw
  subst e
  exact va_Nw.warmM h k
theorem ev_nest_in : ∀ w ∈ ev_nest, w ∈ lw_tbl := by decide +kernel
end
section
/-! ===== PURE WORLDS: a world is the number of the next cell, and a cell at each number; numbers below 100 are cells that stood before, from 100 on those that the law made ===== -/
abbrev Ev_K : Type := (Nat × Nat × ((Nat → Int32) ⊕ (Nat → Int64) ⊕ (Nat → Option Nat))) ⊕ (Nat × List Value)
abbrev Ev_W : Type := Nat × (Nat → Option Ev_K)
/-- launch; numbers of classes and slots; array classes; cells that stood before; the heap at the law's start -/
abbrev Ev_G : Type := Launch × va_G × (Nat → ClassId) × (Nat → Nat) × Heap
def ev_rho (G : Ev_G) (r : Nat) : Nat := if r < 100 then G.2.2.2.1 r else G.2.2.2.2.size + (r - 100)
def ev_mv (G : Ev_G) : Value → Value
  | .ref r => .ref (ev_rho G r)
  | v => v
def ev_cnv (G : Ev_G) : Ev_K → va_E
  | .inl (k, n, .inl f) => .inl (G.2.2.1 k, n, .inl f)
  | .inl (k, n, .inr (.inl f)) => .inl (G.2.2.1 k, n, .inr (.inl f))
  | .inl (k, n, .inr (.inr f)) => .inl (G.2.2.1 k, n, .inr (.inr (.inr (.inr (fun j => (f j).map (ev_rho G))))))
  | .inr (ci, fs) => .inr (ci, fs.map (ev_mv G))
theorem ev_mv_cat (G : Ev_G) (v : Value) : (ev_mv G v).category = v.category := by cases v <;> rfl
theorem ev_mv_rf (G : Ev_G) (o : Option Nat) : ev_mv G (va_rf o) = va_rf (o.map (ev_rho G)) := by cases o <;> rfl
/-- what the heap holds of a world -/
def ev_H (cl : List vw_C) (G : Ev_G) (w : Ev_W) (H : Heap) : Prop :=
  (∀ q : Nat, q < G.2.2.2.2.size → H[q]? = G.2.2.2.2[q]?) ∧ H.size + 100 = G.2.2.2.2.size + w.1 ∧ G.2.2.2.2.size ≤ H.size ∧ ∀ (r : Nat) (c : Ev_K), w.2 r = some c → va_at G.2.1 cl (ev_rho G r, ev_cnv G c) H
def ev_set (w : Ev_W) (r : Nat) (c : Ev_K) : Ev_W := (w.1, fun q => if q = r then some c else w.2 q)
def ev_new (w : Ev_W) (c : Ev_K) : Ev_W := (w.1 + 1, fun q => if q = w.1 then some c else w.2 q)
theorem ev_set_self (w : Ev_W) (r : Nat) (c : Ev_K) : (ev_set w r c).2 r = some c := by simp [ev_set]
theorem ev_set_ne (w : Ev_W) {r q : Nat} (c : Ev_K) (h : q ≠ r) : (ev_set w r c).2 q = w.2 q := by simp [ev_set, h]
theorem ev_new_self (w : Ev_W) (c : Ev_K) : (ev_new w c).2 w.1 = some c := by simp [ev_new]
theorem ev_new_ne (w : Ev_W) {q : Nat} (c : Ev_K) (h : q ≠ w.1) : (ev_new w c).2 q = w.2 q := by simp [ev_new, h]
/-- cells that stood before: 17 constants, apart from each other, and an array -/
def ev_inj (G : Ev_G) : Prop := (∀ r : Nat, r < 100 → G.2.2.2.1 r < G.2.2.2.2.size) ∧ ∀ r q : Nat, r < 17 → q < 17 → G.2.2.2.1 r = G.2.2.2.1 q → r = q
theorem ev_rho_inj {G : Ev_G} (h : ev_inj G) {r q : Nat} (hr0 : r < 17 ∨ 100 ≤ r) (hq0 : q < 17 ∨ 100 ≤ q) (e : ev_rho G r = ev_rho G q) : r = q := by
  unfold ev_rho at e
  by_cases hr : r < 100 <;> by_cases hq : q < 100
  · rw [if_pos hr, if_pos hq] at e; exact h.2 r q (by omega) (by omega) e
  · rw [if_pos hr, if_neg hq] at e; have := h.1 r hr; omega
  · rw [if_neg hr, if_pos hq] at e; have := h.1 q hq; omega
  · rw [if_neg hr, if_neg hq] at e; omega
theorem ev_rho_hi {G : Ev_G} (h : ev_inj G) {r q : Nat} (hr0 : 100 ≤ r) (e : ev_rho G q = ev_rho G r) : q = r := by
  unfold ev_rho at e
  rw [if_neg (show ¬ r < 100 by omega)] at e
  by_cases hq : q < 100
  · rw [if_pos hq] at e; have := h.1 q hq; omega
  · rw [if_neg hq] at e; omega
def ev_ok (o : Option Nat) : Prop := ∀ r : Nat, o = some r → r < 17 ∨ 100 ≤ r
theorem ev_H.fresh {cl : List vw_C} {G : Ev_G} {w : Ev_W} {H : Heap} (h : ev_H cl G w H) (hi : 100 ≤ w.1) : w.2 w.1 = none := by
  cases hc : w.2 w.1 with
  | none => rfl
  | some c =>
    have h1 := (h.2.2.2 _ _ hc).lt
    have h2 := h.2.1
    simp only [ev_rho] at h1
    rw [if_neg (by omega)] at h1
    omega
theorem ev_H.lo {cl : List vw_C} {G : Ev_G} {w : Ev_W} {H : Heap} (h : ev_H cl G w H) : 100 ≤ w.1 := by have := h.2.1; have := h.2.2.1; omega
/-- a cell is written -/
theorem ev_H.set {cl : List vw_C} {G : Ev_G} {w : Ev_W} {H H1 : Heap} {r : Nat} {c : Ev_K} (hi : ev_inj G) (h : ev_H cl G w H) (hr : 100 ≤ r) (he : va_at G.2.1 cl (ev_rho G r, ev_cnv G c) H1) (z : H1.size = H.size) (o : ∀ q, q ≠ ev_rho G r → H1[q]? = H[q]?) : ev_H cl G (ev_set w r c) H1 := by
  obtain ⟨h1, h2, h3, h4⟩ := h
  refine ⟨fun q hq => ?_, by rw [z]; exact h2, by rw [z]; exact h3, fun q c' hc => ?_⟩
  · rw [o q (fun e => by simp only [ev_rho] at e; rw [if_neg (by omega)] at e; omega)]
    exact h1 q hq
  · by_cases hq : q = r
    · subst hq
      simp only [ev_set, if_pos] at hc
      cases hc
      exact he
    · simp only [ev_set, if_neg hq] at hc
      exact (h4 q c' hc).kept (o _ (fun e => hq (ev_rho_hi hi hr e)))
/-- a cell is made -/
theorem ev_H.new {cl : List vw_C} {G : Ev_G} {w : Ev_W} {H H1 : Heap} {c : Ev_K} (h : ev_H cl G w H) (he : va_at G.2.1 cl (H.size, ev_cnv G c) H1) (z : H1.size = H.size + 1) (o : ∀ q, q < H.size → H1[q]? = H[q]?) : ev_H cl G (ev_new w c) H1 := by
  have hlo := h.lo
  obtain ⟨h1, h2, h3, h4⟩ := h
  refine ⟨fun q hq => ?_, by rw [z]; show _ = _ + (w.1 + 1); omega, by omega, fun q c' hc => ?_⟩
  · rw [o q (by omega)]
    exact h1 q hq
  · by_cases hq : q = w.1
    · subst hq
      simp only [ev_new, if_pos] at hc
      cases hc
      have e : ev_rho G w.1 = H.size := by
        simp only [ev_rho]; rw [if_neg (by omega)]; omega
      rw [e]
      exact he
    · simp only [ev_new, if_neg hq] at hc
      have h5 := h4 q c' hc
      exact h5.kept (o _ h5.lt)
theorem ev_rho_next {cl : List vw_C} {G : Ev_G} {w : Ev_W} {H : Heap} (h : ev_H cl G w H) : ev_rho G w.1 = H.size := by
  have hlo := h.lo
  have h2 := h.2.1
  simp only [ev_rho]; rw [if_neg (by omega)]; omega
/-! ===== LOCALS: values of one word, and longs ===== -/
abbrev Ev_L : Type := (Nat → Option Value) × (Nat → Option Int64)
def ev_L (G : Ev_G) (nL : Nat) (ls : Ev_L) (a : Array Slot) : Prop := a.size = nL ∧ lv_wf a ∧ (∀ (i : Nat) (v : Value), ls.1 i = some v → v.category = 1 ∧ a[i]? = some (.val (ev_mv G v))) ∧ ∀ (i : Nat) (x : Int64), ls.2 i = some x → a[i]? = some (.val (.long x))
def ev_st (ls : Ev_L) (i : Nat) (v : Value) : Ev_L := (fun j => if j = i then some v else ls.1 j, fun j => if j = i then none else if j + 1 = i then none else ls.2 j)
def ev_sl (ls : Ev_L) (i : Nat) (x : Int64) : Ev_L := (fun j => if j = i then none else if j = i + 1 then none else ls.1 j, fun j => if j = i then some x else if j = i + 1 then none else if j + 1 = i then none else ls.2 j)
def ev_tab (G : Ev_G) (n : Nat) (ls : Ev_L) : List (Nat × Value) := (List.range n).flatMap fun i => (match ls.1 i with | some v => [(i, ev_mv G v)] | none => []) ++ (match ls.2 i with | some x => [(i, Value.long x)] | none => [])
theorem ev_tab1 {G : Ev_G} {n : Nat} {ls : Ev_L} {i : Nat} {v : Value} (hi : i < n) (h : ls.1 i = some v) : (i, ev_mv G v) ∈ ev_tab G n ls := by
  refine List.mem_flatMap.mpr ⟨i, List.mem_range.mpr hi, ?_⟩
  rw [h]
  simp
theorem ev_tab2 {G : Ev_G} {n : Nat} {ls : Ev_L} {i : Nat} {x : Int64} (hi : i < n) (h : ls.2 i = some x) : (i, Value.long x) ∈ ev_tab G n ls := by
  refine List.mem_flatMap.mpr ⟨i, List.mem_range.mpr hi, ?_⟩
  rw [h]
  simp
theorem ev_L.has {G : Ev_G} {nL : Nat} {ls : Ev_L} {a : Array Slot} (h : ev_L G nL ls a) : lv_has a nL (ev_tab G nL ls) := by
  refine ⟨h.1, h.2.1, fun q hq => ?_⟩
  obtain ⟨i, -, hm⟩ := List.mem_flatMap.mp hq
  rcases List.mem_append.mp hm with hm | hm
  · cases e : ls.1 i with
    | none => rw [e] at hm; cases hm
    | some v =>
      rw [e] at hm
      rw [List.mem_singleton.mp hm]
      exact (h.2.2.1 i v e).2
  · cases e : ls.2 i with
    | none => rw [e] at hm; cases hm
    | some v =>
      rw [e] at hm
      rw [List.mem_singleton.mp hm]
      exact h.2.2.2 i v e
theorem ev_lt {G : Ev_G} {nL : Nat} {ls : Ev_L} {a : Array Slot} (h : ev_L G nL ls a) {i : Nat} {s : Slot} (e : a[i]? = some s) : i < nL := by rw [← h.1]; exact (Array.getElem?_eq_some_iff.mp e).1
/-- storing a word -/
theorem ev_L.st {G : Ev_G} {nL : Nat} {ls : Ev_L} {a a' : Array Slot} {i : Nat} {v : Value} (h : ev_L G nL ls a) (hc : v.category = 1)
    (h' : lv_has a' nL ((i, ev_mv G v) :: (ev_tab G nL ls).filter (fun q => !(q.1 == i) && !(q.1 + 1 == i && q.2.category == 2)))) : ev_L G nL (ev_st ls i v) a' := by
  refine ⟨h'.1, h'.2.1, fun j u hj => ?_, fun j x hj => ?_⟩
  · by_cases e : j = i
    · subst e
      simp only [ev_st, if_pos] at hj
      cases hj
      exact ⟨hc, h'.2.2 _ List.mem_cons_self⟩
    · simp only [ev_st, if_neg e] at hj
      obtain ⟨c1, c2⟩ := h.2.2.1 j u hj
      refine ⟨c1, h'.2.2 (j, ev_mv G u) (List.mem_cons_of_mem _ (List.mem_filter.mpr ⟨ev_tab1 (ev_lt h c2) hj, ?_⟩))⟩
      simp [e, ev_mv_cat, c1]
  · by_cases e : j = i
    · simp [ev_st, e] at hj
    · by_cases e2 : j + 1 = i
      · simp [ev_st, e, e2] at hj
      · simp only [ev_st, if_neg e, if_neg e2] at hj
        have c2 := h.2.2.2 j x hj
        refine h'.2.2 (j, .long x) (List.mem_cons_of_mem _ (List.mem_filter.mpr ⟨ev_tab2 (ev_lt h c2) hj, ?_⟩))
        simp [e, e2]
/-- storing a long -/
theorem ev_L.sl {G : Ev_G} {nL : Nat} {ls : Ev_L} {a a' : Array Slot} {i : Nat} {y : Int64} (h : ev_L G nL ls a)
    (h' : lv_has a' nL ((i, Value.long y) :: (ev_tab G nL ls).filter (fun q => !(q.1 == i) && (!(q.1 == i + 1) && !(q.1 + 1 == i && q.2.category == 2))))) : ev_L G nL (ev_sl ls i y) a' := by
  refine ⟨h'.1, h'.2.1, fun j u hj => ?_, fun j x hj => ?_⟩
  · by_cases e : j = i
    · simp [ev_sl, e] at hj
    · by_cases e2 : j = i + 1
      · simp [ev_sl, e2] at hj
      · simp only [ev_sl, if_neg e, if_neg e2] at hj
        obtain ⟨c1, c2⟩ := h.2.2.1 j u hj
        refine ⟨c1, h'.2.2 (j, ev_mv G u) (List.mem_cons_of_mem _ (List.mem_filter.mpr ⟨ev_tab1 (ev_lt h c2) hj, ?_⟩))⟩
        simp [e, e2, ev_mv_cat, c1]
  · by_cases e : j = i
    · subst e
      simp only [ev_sl, if_pos] at hj
      cases hj
      exact h'.2.2 _ List.mem_cons_self
    · by_cases e2 : j = i + 1
      · simp [ev_sl, e2] at hj
      · by_cases e3 : j + 1 = i
        · simp [ev_sl, e, e2, e3] at hj
        · simp only [ev_sl, if_neg e, if_neg e2, if_neg e3] at hj
          have c2 := h.2.2.2 j x hj
          refine h'.2.2 (j, .long x) (List.mem_cons_of_mem _ (List.mem_filter.mpr ⟨ev_tab2 (ev_lt h c2) hj, ?_⟩))
          simp [e, e2, e3]
/-- the locals at a method's entry -/
def ev_in (as : List Value) : Ev_L := (fun j => match (lv_args 0 as).lookup j with | some v => if v.category = 1 then some v else none | none => none, fun j => match (lv_args 0 as).lookup j with | some (.long x) => some x | _ => none)
theorem ev_lookup_args : ∀ (as : List Value) (i j : Nat) (v : Value), (lv_args i as).lookup j = some v → (j, v) ∈ lv_args i as
  | [], i, j, v, h => by simp [lv_args] at h
  | a :: t, i, j, v, h => by
    simp only [lv_args, List.lookup_cons] at h
    by_cases e : j = i
    · subst e
      simp at h
      subst h
      exact List.mem_cons_self
    · have e2 : (j == i) = false := by simp [e]
      rw [e2] at h
      exact List.mem_cons_of_mem _ (ev_lookup_args t _ j v h)
theorem ev_args_map (G : Ev_G) : ∀ (as : List Value) (i : Nat), lv_args i (as.map (ev_mv G)) = (lv_args i as).map (fun q => (q.1, ev_mv G q.2))
  | [], i => rfl
  | a :: t, i => by
    simp only [List.map_cons, lv_args, ev_mv_cat]
    rw [ev_args_map G t]
theorem ev_L.entry {G : Ev_G} (as : List Value) {n : Nat} (h : (lg_sl (as.map (ev_mv G))).length ≤ n) : ev_L G n (ev_in as) ((lg_sl (as.map (ev_mv G)) ++ List.replicate (n - (lg_sl (as.map (ev_mv G))).length) Slot.unset).toArray) := by
  have hl := lv_entry (as.map (ev_mv G)) h
  refine ⟨hl.1, hl.2.1, fun i v e => ?_, fun i x e => ?_⟩
  · simp only [ev_in] at e
    cases e2 : (lv_args 0 as).lookup i with
    | none => rw [e2] at e; cases e
    | some u =>
      rw [e2] at e
      by_cases hc : u.category = 1
      · simp [hc] at e
        subst e
        refine ⟨hc, hl.2.2 (i, ev_mv G u) ?_⟩
        rw [ev_args_map]
        exact List.mem_map.mpr ⟨(i, u), ev_lookup_args _ _ _ _ e2, rfl⟩
      · simp [hc] at e
  · simp only [ev_in] at e
    have h2 : (lv_args 0 as).lookup i = some (.long x) := by
      cases e2 : (lv_args 0 as).lookup i with
      | none => rw [e2] at e; cases e
      | some u => rw [e2] at e; cases u <;> simp_all
    refine hl.2.2 (i, .long x) ?_
    rw [ev_args_map]
    exact List.mem_map.mpr ⟨(i, .long x), ev_lookup_args _ _ _ _ h2, rfl⟩
/-! ===== THE MACHINE'S CONTEXT OF A WALK ===== -/
abbrev Ev_X : Type := Program × Env × Room × State × MethodId × Array Value × List Frame × Method × Code × (State → Prop)
/-- class, name, code, locals, what it returns -/
abbrev Ev_M : Type := String × MethodName × ByteArray × Nat × Option FieldType
def ev_good (w : Cond) : Bool := (w.onTables && w.keeps) || (match w with | .arrayClass _ => true | _ => false)
def ev_tbl : List Cond := lw_tbl.filter ev_good
theorem ev_tbl_in {w : Cond} (h : w ∈ ev_tbl) : w ∈ lw_tbl := (List.mem_filter.mp h).1
theorem ev_tbl_ok {w : Cond} (h : w ∈ ev_tbl) : ((w.onTables && w.keeps) = true ∨ ∃ ty, w = .arrayClass ty) := by
  have h2 := (List.mem_filter.mp h).2
  unfold ev_good at h2
  rcases Bool.or_eq_true_iff.mp h2 with h3 | h3
  · exact Or.inl h3
  · cases w <;> first | exact Or.inr ⟨_, rfl⟩ | (simp at h3)
def ev_tys (G : Ev_G) : List (ClassId × FieldType) := ev_arrs.zipIdx.map (fun q => (G.2.2.1 q.2, q.1))
abbrev ev_A (G : Ev_G) : Nat → Prop := fun q => G.2.2.2.2.size ≤ q
/-- what a state's tables say, and the static fields -/
def ev_T (G : Ev_G) (U : State) : Prop := va_K G.2.1 vwCl (ev_tys G) U ∧ va_En "ElementFiles$Sort" "LElementFiles$Sort;" ev_nm ev_fl G.2.2.2.1 (ev_A G) U G.2.2.2.2 ∧ va_Z "ElementFiles$Sort" "ALL" "[LElementFiles$Sort;" (.ref (G.2.2.2.1 17)) (ev_A G) U G.2.2.2.2 ∧ va_T (.object "ElementFiles$Sort") (G.2.2.2.1 17) 17 (fun j => .ref (G.2.2.2.1 j)) (ev_A G) U G.2.2.2.2 ∧ (∀ w ∈ ev_nest, va_Nw w U) ∧ ∀ C ∈ ev_over, va_AO C U
theorem ev_T.same {G : Ev_G} {u U : State} (h : u.vm = U.vm) (k : ev_T G u) : ev_T G U := by
  have ha : u.vm.Alike U.vm := by rw [h]; exact Vm.Alike.refl _
  exact ⟨va_K.moved ha k.1, k.2.1.moved ha, k.2.2.1.moved ha, k.2.2.2.1.moved ha, fun w hw => (k.2.2.2.2.1 w hw).same (ev_nest_tab w hw) h, fun C hC => (k.2.2.2.2.2 C hC).moved ha⟩
theorem ev_T.warm {G : Ev_G} {s U : State} (h : s.WarmedH U.vm) (k : ev_T G s) : ev_T G U :=
  ⟨va_K.moved h.alike k.1, k.2.1.moved h.alike, k.2.2.1.moved h.alike, k.2.2.2.1.moved h.alike, fun w hw => ev_nest_warm w hw h (k.2.2.2.2.1 w hw), fun C hC => (k.2.2.2.2.2 C hC).moved h.alike⟩
def ev_C (G : Ev_G) (M : Ev_M) (d : Nat) (X : Ev_X) : Prop :=
  X.1.tables.exec = Jvm.exec ∧ X.2.2.2.2.2.2.2.2.1.code = M.2.2.1 ∧ X.2.2.2.2.2.2.2.2.1.maxLocals = M.2.2.2.1 ∧ X.2.2.2.1.vm.findClass M.1 = some X.2.2.2.2.1.cls ∧ (∀ w ∈ ev_tbl, w.before X.2.2.2.2.2.1 X.2.2.2.1 = true) ∧ ev_T G X.2.2.2.1 ∧ ev_inj G ∧ (∀ q : Nat, q < G.2.2.2.2.size → X.2.2.2.1.heap[q]? = G.2.2.2.2[q]?) ∧ G.2.2.2.2.size ≤ X.2.2.2.1.heap.size ∧ d ≤ X.2.2.1.frames ∧ d * 38 ≤ X.2.2.1.locals ∧ X.2.2.2.2.2.2.2.1.locks = false
/-- the machine, at pc with these locals, this stack, this world, comes to the end that X asks; it may make bc cells of bs slots more -/
def ev_W (G : Ev_G) (M : Ev_M) (X : Ev_X) (bc bs pc : Nat) (ls : Ev_L) (st : List Value) (w : Ev_W) : Prop :=
  ∀ (H : Heap) (locs : List Loc) (a : Array Slot) (cells slots : Nat), ev_H vwCl G w H → (∀ q ∈ locs, G.2.2.2.2.size ≤ q.base) → ev_L G M.2.2.2.1 ls a → cells + bc ≤ X.2.2.1.cells → slots + bs ≤ X.2.2.1.slots →
    W X.1 G.1 X.2.1 X.2.2.1 X.2.2.2.1 X.2.2.2.2.1 X.2.2.2.2.2.1 X.2.2.2.2.2.2.1 X.2.2.2.2.2.2.2.1 X.2.2.2.2.2.2.2.2.1 H locs cells slots X.2.2.2.2.2.2.2.2.2 (F0 X.2.2.2.2.1 pc a (st.map (ev_mv G)))
def ev_rm (d mc ms : Nat) : Room := { frames := d, cells := mc, slots := ms, locals := d * 38 }
def ev_Q (G : Ev_G) (Q : Option Value → Ev_W → Prop) : Array Value → State → Outcome → State → Prop := fun _ _ o t => ∃ (v : Option Value) (w : Ev_W), o = .returned (v.map (ev_mv G)) ∧ ev_H vwCl G w t.heap ∧ Q v w
def ev_R (G : Ev_G) (M : Ev_M) (mc ms : Nat) (Q : Option Value → Ev_W → Prop) (X : Ev_X) : Prop :=
  X.2.2.2.2.2.2.2.2.2 = MQ X.2.2.2.2.2.2.1 (ev_Q G Q) X.2.2.2.2.2.1 X.2.2.2.1 mc ms (fun q => G.2.2.2.2.size ≤ q) ∧ X.2.2.1.cells = mc ∧ X.2.2.1.slots = ms ∧ X.2.2.2.2.2.2.2.1.sig.returnType = M.2.2.2.2 ∧ X.2.2.2.2.2.2.2.1.name = M.2.1.name
def ev_ws (M : Ev_M) : List Cond := Cond.code M.2.1 M.2.2.1 M.2.2.2.1 M.2.2.2.2 :: ev_tbl
/-- THE CONTRACT of a method at these arguments in this world: it returns, with Q -/
def ev_Met (G : Ev_G) (M : Ev_M) (d mc ms : Nat) (as : List Value) (w : Ev_W) (Q : Option Value → Ev_W → Prop) : Prop :=
  Met G.1 M.2.1 (ev_ws M) (ev_rm d mc ms) (va_Pc (as.map (ev_mv G)) (fun U => ev_H vwCl G w U.heap ∧ ev_T G U ∧ ev_inj G)) (ev_Q G Q) mc ms (fun q => G.2.2.2.2.size ≤ q)
/-- a method's own facts: its code is in the tables, its class is named as it must be -/
def ev_MD (M : Ev_M) : Prop := plainName M.2.1.cls = true ∧ M.2.1.cls = M.1 ∧ Cond.code M.2.1 M.2.2.1 M.2.2.2.1 M.2.2.2.2 ∈ ev_tbl ∧ M.2.2.2.1 ≤ 19
theorem ev_Met.of {G : Ev_G} {M : Ev_M} {d mc ms : Nat} {as : List Value} {w : Ev_W} {Q : Option Value → Ev_W → Prop} (hM : ev_MD M) (hn : (lg_sl (as.map (ev_mv G))).length ≤ M.2.2.2.1)
    (body : ∀ X : Ev_X, ev_C G M d X → ev_R G M mc ms Q X → ev_W G M X mc ms 0 (ev_in as) [] w) : ev_Met G M d mc ms as w Q := by
  refine Met.ofW (cc := M.2.2.1) (maxL := M.2.2.2.1) (ret := M.2.2.2.2) hM.1 rfl ?_
  intro p e s m args below meth c s₁ B hml hv
  obtain ⟨rfl, hH, hT, hi⟩ := hv
  have hts := atoms_spec (ws := ev_ws M) B.pre
  have hown : s.vm.findClass M.1 = some m.cls := by rw [← hM.2.1]; exact findClass_of_methodNamed B.named
  rw [lg_entry_eq]
  refine body (p, e, ev_rm d mc ms, s, m, (as.map (ev_mv G)).toArray, below, meth, c, MQ below (ev_Q G Q) (as.map (ev_mv G)).toArray s mc ms (fun q => G.2.2.2.2.size ≤ q)) ⟨B.exec, B.bytes, hml, hown, fun w hw => hts w (List.mem_cons_of_mem _ hw), hT, hi, hH.1, hH.2.2.1, Nat.le_refl _, Nat.le_refl _, B.notSynchronized⟩ ⟨rfl, rfl, rfl, B.returns, (name_of_methodNamed B.named B.method).1⟩ s.heap [] _ 0 0 hH (fun _ h => by cases h) (ev_L.entry as hn) (by show 0 + mc ≤ mc; omega) (by show 0 + ms ≤ ms; omega)
theorem ev_Met.mono {G : Ev_G} {M : Ev_M} {d mc ms : Nat} {as : List Value} {w : Ev_W} {Q Q' : Option Value → Ev_W → Prop} (h : ev_Met G M d mc ms as w Q) (hq : ∀ v w', Q v w' → Q' v w') : ev_Met G M d mc ms as w Q' := by
  intro p e ha hc hk s m args below hf happ hP hK
  obtain ⟨n, o, h1, h2, h3, ⟨v, w', e1, e2, e3⟩, h5⟩ := h p e ha hc hk s m args below hf happ hP hK
  exact ⟨n, o, h1, h2, h3, ⟨v, w', e1, e2, hq v w' e3⟩, h5⟩
end
section
/-! ===== A ROW AN INSTRUCTION, over pure worlds (written by wip/whole/genrules.py) ===== -/
section EvR
variable {G : Ev_G} {M : Ev_M} {d : Nat} {X : Ev_X} {bc bs pc : Nat} {ls : Ev_L} {st : List Value} {w : Ev_W}
theorem r_iconst (hX : ev_C G M d X) {n : Int} {v : Int32} (hd : decode M.2.2.1 pc = .ok (.iconst n, 1)) (hv : Int32.ofInt n = v) (k : ev_W G M X bc bs (pc + 1) ls (.int v :: st) w) : ev_W G M X bc bs pc ls (st) w := by
  obtain ⟨hx, hb, hm, ho, ht, hT, hi, hz, hzs, hdf, hdl, hlk⟩ := hX
  intro H locs a cells slots hH hl hL hc hs
  exact lv_iconst hx hb hd hv (k H locs a cells slots hH hl hL hc hs)
theorem r_bipush (hX : ev_C G M d X) {n : Int} {v : Int32} (hd : decode M.2.2.1 pc = .ok (.bipush n, 2)) (hv : (Int8.ofInt n).toInt32 = v) (k : ev_W G M X bc bs (pc + 2) ls (.int v :: st) w) : ev_W G M X bc bs pc ls (st) w := by
  obtain ⟨hx, hb, hm, ho, ht, hT, hi, hz, hzs, hdf, hdl, hlk⟩ := hX
  intro H locs a cells slots hH hl hL hc hs
  exact lv_bipush hx hb hd hv (k H locs a cells slots hH hl hL hc hs)
theorem r_sipush (hX : ev_C G M d X) {n : Int} {v : Int32} (hd : decode M.2.2.1 pc = .ok (.sipush n, 3)) (hv : (Int16.ofInt n).toInt32 = v) (k : ev_W G M X bc bs (pc + 3) ls (.int v :: st) w) : ev_W G M X bc bs pc ls (st) w := by
  obtain ⟨hx, hb, hm, ho, ht, hT, hi, hz, hzs, hdf, hdl, hlk⟩ := hX
  intro H locs a cells slots hH hl hL hc hs
  exact lv_sipush hx hb hd hv (k H locs a cells slots hH hl hL hc hs)
theorem r_lconst (hX : ev_C G M d X) {n : Fin 2} {v : Int64} (hd : decode M.2.2.1 pc = .ok (.lconst n, 1)) (hv : Int64.ofNat (n : Nat) = v) (k : ev_W G M X bc bs (pc + 1) ls (.long v :: st) w) : ev_W G M X bc bs pc ls (st) w := by
  obtain ⟨hx, hb, hm, ho, ht, hT, hi, hz, hzs, hdf, hdl, hlk⟩ := hX
  intro H locs a cells slots hH hl hL hc hs
  exact lv_lconst hx hb hd hv (k H locs a cells slots hH hl hL hc hs)
theorem r_null (hX : ev_C G M d X)  (hd : decode M.2.2.1 pc = .ok (.aconst_null, 1))  (k : ev_W G M X bc bs (pc + 1) ls (.null :: st) w) : ev_W G M X bc bs pc ls (st) w := by
  obtain ⟨hx, hb, hm, ho, ht, hT, hi, hz, hzs, hdf, hdl, hlk⟩ := hX
  intro H locs a cells slots hH hl hL hc hs
  exact lv_null hx hb hd  (k H locs a cells slots hH hl hL hc hs)
theorem r_ldc (hX : ev_C G M d X) {index : Nat} {v : Int32} (hd : decode M.2.2.1 pc = .ok (.ldc index, 2)) (hv : Cond.constant M.1 index v ∈ ev_tbl) (k : ev_W G M X bc bs (pc + 2) ls (.int v :: st) w) : ev_W G M X bc bs pc ls st w := by
  obtain ⟨hx, hb, hm, ho, ht, hT, hi, hz, hzs, hdf, hdl, hlk⟩ := hX
  intro H locs a cells slots hH hl hL hc hs
  exact lv_ldc hx hb ho (ht _ hv) hd (k H locs a cells slots hH hl hL hc hs)
theorem r_ldc2 (hX : ev_C G M d X) {index : Nat} {v : Int64} (hd : decode M.2.2.1 pc = .ok (.ldc2_w index, 3)) (hv : Cond.constantLong M.1 index v ∈ ev_tbl) (k : ev_W G M X bc bs (pc + 3) ls (.long v :: st) w) : ev_W G M X bc bs pc ls st w := by
  obtain ⟨hx, hb, hm, ho, ht, hT, hi, hz, hzs, hdf, hdl, hlk⟩ := hX
  intro H locs a cells slots hH hl hL hc hs
  exact lv_ldc2 hx hb ho (ht _ hv) hd (k H locs a cells slots hH hl hL hc hs)
theorem r_iload_n (hX : ev_C G M d X) {n : Fin 4} {x : Int32} (hd : decode M.2.2.1 pc = .ok (.iload_n n, 1)) (hv : ls.1 (n : Nat) = some (.int x)) (k : ev_W G M X bc bs (pc + 1) ls (.int x :: st) w) : ev_W G M X bc bs pc ls st w := by
  obtain ⟨hx, hb, hm, ho, ht, hT, hi, hz, hzs, hdf, hdl, hlk⟩ := hX
  intro H locs a cells slots hH hl hL hc hs
  exact lv_iload_n hx hb hd rfl (hL.2.2.1 _ _ hv).2 (k H locs a cells slots hH hl hL hc hs)
theorem r_iload (hX : ev_C G M d X) {n : Nat} {x : Int32} (hd : decode M.2.2.1 pc = .ok (.iload n, 2)) (hv : ls.1 n = some (.int x)) (k : ev_W G M X bc bs (pc + 2) ls (.int x :: st) w) : ev_W G M X bc bs pc ls st w := by
  obtain ⟨hx, hb, hm, ho, ht, hT, hi, hz, hzs, hdf, hdl, hlk⟩ := hX
  intro H locs a cells slots hH hl hL hc hs
  exact lv_iload hx hb hd (hL.2.2.1 _ _ hv).2 (k H locs a cells slots hH hl hL hc hs)
theorem r_lload_n (hX : ev_C G M d X) {n : Fin 4} {x : Int64} (hd : decode M.2.2.1 pc = .ok (.lload_n n, 1)) (hv : ls.2 (n : Nat) = some x) (k : ev_W G M X bc bs (pc + 1) ls (.long x :: st) w) : ev_W G M X bc bs pc ls st w := by
  obtain ⟨hx, hb, hm, ho, ht, hT, hi, hz, hzs, hdf, hdl, hlk⟩ := hX
  intro H locs a cells slots hH hl hL hc hs
  exact lv_lload_n hx hb hd rfl (hL.2.2.2 _ _ hv) (k H locs a cells slots hH hl hL hc hs)
theorem r_lload (hX : ev_C G M d X) {n : Nat} {x : Int64} (hd : decode M.2.2.1 pc = .ok (.lload n, 2)) (hv : ls.2 n = some x) (k : ev_W G M X bc bs (pc + 2) ls (.long x :: st) w) : ev_W G M X bc bs pc ls st w := by
  obtain ⟨hx, hb, hm, ho, ht, hT, hi, hz, hzs, hdf, hdl, hlk⟩ := hX
  intro H locs a cells slots hH hl hL hc hs
  exact lv_lload hx hb hd (hL.2.2.2 _ _ hv) (k H locs a cells slots hH hl hL hc hs)
theorem r_aload_n (hX : ev_C G M d X) {n : Fin 4} {x : Nat} (hd : decode M.2.2.1 pc = .ok (.aload_n n, 1)) (hv : ls.1 (n : Nat) = some (.ref x)) (k : ev_W G M X bc bs (pc + 1) ls ((.ref x) :: st) w) : ev_W G M X bc bs pc ls st w := by
  obtain ⟨hx, hb, hm, ho, ht, hT, hi, hz, hzs, hdf, hdl, hlk⟩ := hX
  intro H locs a cells slots hH hl hL hc hs
  exact lv_aload_n hx hb hd rfl (hL.2.2.1 _ _ hv).2 (k H locs a cells slots hH hl hL hc hs)
theorem r_aload (hX : ev_C G M d X) {n : Nat} {x : Nat} (hd : decode M.2.2.1 pc = .ok (.aload n, 2)) (hv : ls.1 n = some (.ref x)) (k : ev_W G M X bc bs (pc + 2) ls ((.ref x) :: st) w) : ev_W G M X bc bs pc ls st w := by
  obtain ⟨hx, hb, hm, ho, ht, hT, hi, hz, hzs, hdf, hdl, hlk⟩ := hX
  intro H locs a cells slots hH hl hL hc hs
  exact lv_aload hx hb hd (hL.2.2.1 _ _ hv).2 (k H locs a cells slots hH hl hL hc hs)
theorem r_aload_nN (hX : ev_C G M d X) {n : Fin 4} (hd : decode M.2.2.1 pc = .ok (.aload_n n, 1)) (hv : ls.1 (n : Nat) = some .null) (k : ev_W G M X bc bs (pc + 1) ls (.null :: st) w) : ev_W G M X bc bs pc ls st w := by
  obtain ⟨hx, hb, hm, ho, ht, hT, hi, hz, hzs, hdf, hdl, hlk⟩ := hX
  intro H locs a cells slots hH hl hL hc hs
  exact lv_aload_nN hx hb hd rfl (hL.2.2.1 _ _ hv).2 (k H locs a cells slots hH hl hL hc hs)
theorem r_aloadN (hX : ev_C G M d X) {n : Nat} (hd : decode M.2.2.1 pc = .ok (.aload n, 2)) (hv : ls.1 n = some .null) (k : ev_W G M X bc bs (pc + 2) ls (.null :: st) w) : ev_W G M X bc bs pc ls st w := by
  obtain ⟨hx, hb, hm, ho, ht, hT, hi, hz, hzs, hdf, hdl, hlk⟩ := hX
  intro H locs a cells slots hH hl hL hc hs
  exact lv_aloadN hx hb hd (hL.2.2.1 _ _ hv).2 (k H locs a cells slots hH hl hL hc hs)
theorem r_aload_nq (hX : ev_C G M d X) {n : Fin 4} {o : Option Nat} (hd : decode M.2.2.1 pc = .ok (.aload_n n, 1)) (hv : ls.1 (n : Nat) = some (va_rf o)) (k : ev_W G M X bc bs (pc + 1) ls (va_rf o :: st) w) : ev_W G M X bc bs pc ls st w := by
  cases o with
  | none => exact r_aload_nN hX hd hv k
  | some x => exact r_aload_n hX hd hv k
theorem r_aloadq (hX : ev_C G M d X) {n : Nat} {o : Option Nat} (hd : decode M.2.2.1 pc = .ok (.aload n, 2)) (hv : ls.1 n = some (va_rf o)) (k : ev_W G M X bc bs (pc + 2) ls (va_rf o :: st) w) : ev_W G M X bc bs pc ls st w := by
  cases o with
  | none => exact r_aloadN hX hd hv k
  | some x => exact r_aload hX hd hv k
theorem r_istore_n (hX : ev_C G M d X) {n : Fin 4} {x : Int32} (hd : decode M.2.2.1 pc = .ok (.istore_n n, 1)) (hn : (n : Nat) < M.2.2.2.1) (k : ev_W G M X bc bs (pc + 1) (ev_st ls (n : Nat) (.int x)) st w) : ev_W G M X bc bs pc ls ((.int x) :: st) w := by
  obtain ⟨hx, hb, hm, ho, ht, hT, hi, hz, hzs, hdf, hdl, hlk⟩ := hX
  intro H locs a cells slots hH hl hL hc hs
  exact lv_istore_n hx hb hd rfl hL.has hn rfl (fun a' h' => k H locs a' cells slots hH hl (hL.st rfl h') hc hs)
theorem r_istore (hX : ev_C G M d X) {n : Nat} {x : Int32} (hd : decode M.2.2.1 pc = .ok (.istore n, 2)) (hn : n < M.2.2.2.1) (k : ev_W G M X bc bs (pc + 2) (ev_st ls n (.int x)) st w) : ev_W G M X bc bs pc ls ((.int x) :: st) w := by
  obtain ⟨hx, hb, hm, ho, ht, hT, hi, hz, hzs, hdf, hdl, hlk⟩ := hX
  intro H locs a cells slots hH hl hL hc hs
  exact lv_istore hx hb hd hL.has hn rfl (fun a' h' => k H locs a' cells slots hH hl (hL.st rfl h') hc hs)
theorem r_astore_n (hX : ev_C G M d X) {n : Fin 4} {x : Nat} (hd : decode M.2.2.1 pc = .ok (.astore_n n, 1)) (hn : (n : Nat) < M.2.2.2.1) (k : ev_W G M X bc bs (pc + 1) (ev_st ls (n : Nat) (.ref x)) st w) : ev_W G M X bc bs pc ls ((.ref x) :: st) w := by
  obtain ⟨hx, hb, hm, ho, ht, hT, hi, hz, hzs, hdf, hdl, hlk⟩ := hX
  intro H locs a cells slots hH hl hL hc hs
  exact lv_astore_n hx hb hd rfl hL.has hn rfl (fun a' h' => k H locs a' cells slots hH hl (hL.st rfl h') hc hs)
theorem r_astore (hX : ev_C G M d X) {n : Nat} {x : Nat} (hd : decode M.2.2.1 pc = .ok (.astore n, 2)) (hn : n < M.2.2.2.1) (k : ev_W G M X bc bs (pc + 2) (ev_st ls n (.ref x)) st w) : ev_W G M X bc bs pc ls ((.ref x) :: st) w := by
  obtain ⟨hx, hb, hm, ho, ht, hT, hi, hz, hzs, hdf, hdl, hlk⟩ := hX
  intro H locs a cells slots hH hl hL hc hs
  exact lv_astore hx hb hd hL.has hn rfl (fun a' h' => k H locs a' cells slots hH hl (hL.st rfl h') hc hs)
theorem r_astore_nN (hX : ev_C G M d X) {n : Fin 4}  (hd : decode M.2.2.1 pc = .ok (.astore_n n, 1)) (hn : (n : Nat) < M.2.2.2.1) (k : ev_W G M X bc bs (pc + 1) (ev_st ls (n : Nat) .null) st w) : ev_W G M X bc bs pc ls (.null :: st) w := by
  obtain ⟨hx, hb, hm, ho, ht, hT, hi, hz, hzs, hdf, hdl, hlk⟩ := hX
  intro H locs a cells slots hH hl hL hc hs
  exact lv_astore_nN hx hb hd rfl hL.has hn rfl (fun a' h' => k H locs a' cells slots hH hl (hL.st rfl h') hc hs)
theorem r_astoreN (hX : ev_C G M d X) {n : Nat}  (hd : decode M.2.2.1 pc = .ok (.astore n, 2)) (hn : n < M.2.2.2.1) (k : ev_W G M X bc bs (pc + 2) (ev_st ls n .null) st w) : ev_W G M X bc bs pc ls (.null :: st) w := by
  obtain ⟨hx, hb, hm, ho, ht, hT, hi, hz, hzs, hdf, hdl, hlk⟩ := hX
  intro H locs a cells slots hH hl hL hc hs
  exact lv_astoreN hx hb hd hL.has hn rfl (fun a' h' => k H locs a' cells slots hH hl (hL.st rfl h') hc hs)
theorem r_astore_nq (hX : ev_C G M d X) {n : Fin 4} {o : Option Nat} (hd : decode M.2.2.1 pc = .ok (.astore_n n, 1)) (hn : (n : Nat) < M.2.2.2.1) (k : ev_W G M X bc bs (pc + 1) (ev_st ls (n : Nat) (va_rf o)) st w) : ev_W G M X bc bs pc ls (va_rf o :: st) w := by
  cases o with
  | none => exact r_astore_nN hX hd hn k
  | some x => exact r_astore_n hX hd hn k
theorem r_astoreq (hX : ev_C G M d X) {n : Nat} {o : Option Nat} (hd : decode M.2.2.1 pc = .ok (.astore n, 2)) (hn : n < M.2.2.2.1) (k : ev_W G M X bc bs (pc + 2) (ev_st ls n (va_rf o)) st w) : ev_W G M X bc bs pc ls (va_rf o :: st) w := by
  cases o with
  | none => exact r_astoreN hX hd hn k
  | some x => exact r_astore hX hd hn k
theorem r_lstore_n (hX : ev_C G M d X) {n : Fin 4} {x : Int64} (hd : decode M.2.2.1 pc = .ok (.lstore_n n, 1)) (hn : (n : Nat) + 1 < M.2.2.2.1) (k : ev_W G M X bc bs (pc + 1) (ev_sl ls (n : Nat) x) st w) : ev_W G M X bc bs pc ls (.long x :: st) w := by
  obtain ⟨hx, hb, hm, ho, ht, hT, hi, hz, hzs, hdf, hdl, hlk⟩ := hX
  intro H locs a cells slots hH hl hL hc hs
  exact lv_lstore_n hx hb hd rfl hL.has hn rfl (fun a' h' => k H locs a' cells slots hH hl (hL.sl h') hc hs)
theorem r_lstore (hX : ev_C G M d X) {n : Nat} {x : Int64} (hd : decode M.2.2.1 pc = .ok (.lstore n, 2)) (hn : n + 1 < M.2.2.2.1) (k : ev_W G M X bc bs (pc + 2) (ev_sl ls n x) st w) : ev_W G M X bc bs pc ls (.long x :: st) w := by
  obtain ⟨hx, hb, hm, ho, ht, hT, hi, hz, hzs, hdf, hdl, hlk⟩ := hX
  intro H locs a cells slots hH hl hL hc hs
  exact lv_lstore hx hb hd hL.has hn rfl (fun a' h' => k H locs a' cells slots hH hl (hL.sl h') hc hs)
theorem r_iinc (hX : ev_C G M d X) {i : Nat} {n : Int} {x : Int32} (hd : decode M.2.2.1 pc = .ok (.iinc i n, 3)) (hv : ls.1 i = some (.int x)) (k : ev_W G M X bc bs (pc + 3) (ev_st ls i (.int (x + Int32.ofInt n))) st w) : ev_W G M X bc bs pc ls st w := by
  obtain ⟨hx, hb, hm, ho, ht, hT, hi, hz, hzs, hdf, hdl, hlk⟩ := hX
  intro H locs a cells slots hH hl hL hc hs
  have hlt := ev_lt hL (hL.2.2.1 _ _ hv).2
  obtain ⟨q, hq⟩ := List.getElem?_of_mem (ev_tab1 (G := G) hlt hv)
  exact lv_iinc hx hb hd hL.has hq rfl hlt rfl (fun a' h' => k H locs a' cells slots hH hl (hL.st rfl h') hc hs)
theorem r_iadd (hX : ev_C G M d X) {x y : Int32} (hd : decode M.2.2.1 pc = .ok (.iadd, 1))  (k : ev_W G M X bc bs (pc + 1) ls (.int (x + y) :: st) w) : ev_W G M X bc bs pc ls (.int y :: .int x :: st) w := by
  obtain ⟨hx, hb, hm, ho, ht, hT, hi, hz, hzs, hdf, hdl, hlk⟩ := hX
  intro H locs a cells slots hH hl hL hc hs
  exact lv_iadd hx hb hd  (k H locs a cells slots hH hl hL hc hs)
theorem r_isub (hX : ev_C G M d X) {x y : Int32} (hd : decode M.2.2.1 pc = .ok (.isub, 1))  (k : ev_W G M X bc bs (pc + 1) ls (.int (x - y) :: st) w) : ev_W G M X bc bs pc ls (.int y :: .int x :: st) w := by
  obtain ⟨hx, hb, hm, ho, ht, hT, hi, hz, hzs, hdf, hdl, hlk⟩ := hX
  intro H locs a cells slots hH hl hL hc hs
  exact lv_isub hx hb hd  (k H locs a cells slots hH hl hL hc hs)
theorem r_imul (hX : ev_C G M d X) {x y : Int32} (hd : decode M.2.2.1 pc = .ok (.imul, 1))  (k : ev_W G M X bc bs (pc + 1) ls (.int (x * y) :: st) w) : ev_W G M X bc bs pc ls (.int y :: .int x :: st) w := by
  obtain ⟨hx, hb, hm, ho, ht, hT, hi, hz, hzs, hdf, hdl, hlk⟩ := hX
  intro H locs a cells slots hH hl hL hc hs
  exact lv_imul hx hb hd  (k H locs a cells slots hH hl hL hc hs)
theorem r_iand (hX : ev_C G M d X) {x y : Int32} (hd : decode M.2.2.1 pc = .ok (.iand, 1))  (k : ev_W G M X bc bs (pc + 1) ls (.int (x &&& y) :: st) w) : ev_W G M X bc bs pc ls (.int y :: .int x :: st) w := by
  obtain ⟨hx, hb, hm, ho, ht, hT, hi, hz, hzs, hdf, hdl, hlk⟩ := hX
  intro H locs a cells slots hH hl hL hc hs
  exact lv_iand hx hb hd  (k H locs a cells slots hH hl hL hc hs)
theorem r_ior (hX : ev_C G M d X) {x y : Int32} (hd : decode M.2.2.1 pc = .ok (.ior, 1))  (k : ev_W G M X bc bs (pc + 1) ls (.int (x ||| y) :: st) w) : ev_W G M X bc bs pc ls (.int y :: .int x :: st) w := by
  obtain ⟨hx, hb, hm, ho, ht, hT, hi, hz, hzs, hdf, hdl, hlk⟩ := hX
  intro H locs a cells slots hH hl hL hc hs
  exact lv_ior hx hb hd  (k H locs a cells slots hH hl hL hc hs)
theorem r_ixor (hX : ev_C G M d X) {x y : Int32} (hd : decode M.2.2.1 pc = .ok (.ixor, 1))  (k : ev_W G M X bc bs (pc + 1) ls (.int (x ^^^ y) :: st) w) : ev_W G M X bc bs pc ls (.int y :: .int x :: st) w := by
  obtain ⟨hx, hb, hm, ho, ht, hT, hi, hz, hzs, hdf, hdl, hlk⟩ := hX
  intro H locs a cells slots hH hl hL hc hs
  exact lv_ixor hx hb hd  (k H locs a cells slots hH hl hL hc hs)
theorem r_ishl (hX : ev_C G M d X) {x y : Int32} (hd : decode M.2.2.1 pc = .ok (.ishl, 1))  (k : ev_W G M X bc bs (pc + 1) ls (.int (x <<< (y &&& 31)) :: st) w) : ev_W G M X bc bs pc ls (.int y :: .int x :: st) w := by
  obtain ⟨hx, hb, hm, ho, ht, hT, hi, hz, hzs, hdf, hdl, hlk⟩ := hX
  intro H locs a cells slots hH hl hL hc hs
  exact lv_ishl hx hb hd  (k H locs a cells slots hH hl hL hc hs)
theorem r_ishr (hX : ev_C G M d X) {x y : Int32} (hd : decode M.2.2.1 pc = .ok (.ishr, 1))  (k : ev_W G M X bc bs (pc + 1) ls (.int (x >>> (y &&& 31)) :: st) w) : ev_W G M X bc bs pc ls (.int y :: .int x :: st) w := by
  obtain ⟨hx, hb, hm, ho, ht, hT, hi, hz, hzs, hdf, hdl, hlk⟩ := hX
  intro H locs a cells slots hH hl hL hc hs
  exact lv_ishr hx hb hd  (k H locs a cells slots hH hl hL hc hs)
theorem r_iushr (hX : ev_C G M d X) {x y : Int32} (hd : decode M.2.2.1 pc = .ok (.iushr, 1))  (k : ev_W G M X bc bs (pc + 1) ls (.int ((x.toUInt32 >>> (y.toUInt32 &&& Int32.toUInt32 31)).toInt32) :: st) w) : ev_W G M X bc bs pc ls (.int y :: .int x :: st) w := by
  obtain ⟨hx, hb, hm, ho, ht, hT, hi, hz, hzs, hdf, hdl, hlk⟩ := hX
  intro H locs a cells slots hH hl hL hc hs
  exact lv_iushr hx hb hd rfl (k H locs a cells slots hH hl hL hc hs)
theorem r_idiv (hX : ev_C G M d X) {x y : Int32} (hd : decode M.2.2.1 pc = .ok (.idiv, 1)) (hne : ¬ y = 0) (k : ev_W G M X bc bs (pc + 1) ls (.int (x / y) :: st) w) : ev_W G M X bc bs pc ls (.int y :: .int x :: st) w := by
  obtain ⟨hx, hb, hm, ho, ht, hT, hi, hz, hzs, hdf, hdl, hlk⟩ := hX
  intro H locs a cells slots hH hl hL hc hs
  exact lv_idiv hx hb hd hne (k H locs a cells slots hH hl hL hc hs)
theorem r_irem (hX : ev_C G M d X) {x y : Int32} (hd : decode M.2.2.1 pc = .ok (.irem, 1)) (hne : ¬ y = 0) (k : ev_W G M X bc bs (pc + 1) ls (.int (x - x / y * y) :: st) w) : ev_W G M X bc bs pc ls (.int y :: .int x :: st) w := by
  obtain ⟨hx, hb, hm, ho, ht, hT, hi, hz, hzs, hdf, hdl, hlk⟩ := hX
  intro H locs a cells slots hH hl hL hc hs
  exact lv_irem hx hb hd hne (k H locs a cells slots hH hl hL hc hs)
theorem r_ineg (hX : ev_C G M d X) {x : Int32} (hd : decode M.2.2.1 pc = .ok (.ineg, 1))  (k : ev_W G M X bc bs (pc + 1) ls (.int (-x) :: st) w) : ev_W G M X bc bs pc ls (.int x :: st) w := by
  obtain ⟨hx, hb, hm, ho, ht, hT, hi, hz, hzs, hdf, hdl, hlk⟩ := hX
  intro H locs a cells slots hH hl hL hc hs
  exact lv_ineg hx hb hd  (k H locs a cells slots hH hl hL hc hs)
theorem r_ladd (hX : ev_C G M d X) {x y : Int64} (hd : decode M.2.2.1 pc = .ok (.ladd, 1))  (k : ev_W G M X bc bs (pc + 1) ls (.long (x + y) :: st) w) : ev_W G M X bc bs pc ls (.long y :: .long x :: st) w := by
  obtain ⟨hx, hb, hm, ho, ht, hT, hi, hz, hzs, hdf, hdl, hlk⟩ := hX
  intro H locs a cells slots hH hl hL hc hs
  exact lv_ladd hx hb hd  (k H locs a cells slots hH hl hL hc hs)
theorem r_lsub (hX : ev_C G M d X) {x y : Int64} (hd : decode M.2.2.1 pc = .ok (.lsub, 1))  (k : ev_W G M X bc bs (pc + 1) ls (.long (x - y) :: st) w) : ev_W G M X bc bs pc ls (.long y :: .long x :: st) w := by
  obtain ⟨hx, hb, hm, ho, ht, hT, hi, hz, hzs, hdf, hdl, hlk⟩ := hX
  intro H locs a cells slots hH hl hL hc hs
  exact lv_lsub hx hb hd  (k H locs a cells slots hH hl hL hc hs)
theorem r_lmul (hX : ev_C G M d X) {x y : Int64} (hd : decode M.2.2.1 pc = .ok (.lmul, 1))  (k : ev_W G M X bc bs (pc + 1) ls (.long (x * y) :: st) w) : ev_W G M X bc bs pc ls (.long y :: .long x :: st) w := by
  obtain ⟨hx, hb, hm, ho, ht, hT, hi, hz, hzs, hdf, hdl, hlk⟩ := hX
  intro H locs a cells slots hH hl hL hc hs
  exact lv_lmul hx hb hd  (k H locs a cells slots hH hl hL hc hs)
theorem r_land (hX : ev_C G M d X) {x y : Int64} (hd : decode M.2.2.1 pc = .ok (.land, 1))  (k : ev_W G M X bc bs (pc + 1) ls (.long (x &&& y) :: st) w) : ev_W G M X bc bs pc ls (.long y :: .long x :: st) w := by
  obtain ⟨hx, hb, hm, ho, ht, hT, hi, hz, hzs, hdf, hdl, hlk⟩ := hX
  intro H locs a cells slots hH hl hL hc hs
  exact lv_land hx hb hd  (k H locs a cells slots hH hl hL hc hs)
theorem r_lor (hX : ev_C G M d X) {x y : Int64} (hd : decode M.2.2.1 pc = .ok (.lor, 1))  (k : ev_W G M X bc bs (pc + 1) ls (.long (x ||| y) :: st) w) : ev_W G M X bc bs pc ls (.long y :: .long x :: st) w := by
  obtain ⟨hx, hb, hm, ho, ht, hT, hi, hz, hzs, hdf, hdl, hlk⟩ := hX
  intro H locs a cells slots hH hl hL hc hs
  exact lv_lor hx hb hd  (k H locs a cells slots hH hl hL hc hs)
theorem r_lxor (hX : ev_C G M d X) {x y : Int64} (hd : decode M.2.2.1 pc = .ok (.lxor, 1))  (k : ev_W G M X bc bs (pc + 1) ls (.long (x ^^^ y) :: st) w) : ev_W G M X bc bs pc ls (.long y :: .long x :: st) w := by
  obtain ⟨hx, hb, hm, ho, ht, hT, hi, hz, hzs, hdf, hdl, hlk⟩ := hX
  intro H locs a cells slots hH hl hL hc hs
  exact lv_lxor hx hb hd  (k H locs a cells slots hH hl hL hc hs)
theorem r_lneg (hX : ev_C G M d X) {x : Int64} (hd : decode M.2.2.1 pc = .ok (.lneg, 1))  (k : ev_W G M X bc bs (pc + 1) ls (.long (-x) :: st) w) : ev_W G M X bc bs pc ls (.long x :: st) w := by
  obtain ⟨hx, hb, hm, ho, ht, hT, hi, hz, hzs, hdf, hdl, hlk⟩ := hX
  intro H locs a cells slots hH hl hL hc hs
  exact lv_lneg hx hb hd  (k H locs a cells slots hH hl hL hc hs)
theorem r_lshl (hX : ev_C G M d X) {x : Int64} {y : Int32} (hd : decode M.2.2.1 pc = .ok (.lshl, 1))  (k : ev_W G M X bc bs (pc + 1) ls (.long (x <<< (y.toInt64 &&& 63)) :: st) w) : ev_W G M X bc bs pc ls (.int y :: .long x :: st) w := by
  obtain ⟨hx, hb, hm, ho, ht, hT, hi, hz, hzs, hdf, hdl, hlk⟩ := hX
  intro H locs a cells slots hH hl hL hc hs
  exact lv_lshl hx hb hd rfl (k H locs a cells slots hH hl hL hc hs)
theorem r_lshr (hX : ev_C G M d X) {x : Int64} {y : Int32} (hd : decode M.2.2.1 pc = .ok (.lshr, 1))  (k : ev_W G M X bc bs (pc + 1) ls (.long (x >>> (y.toInt64 &&& 63)) :: st) w) : ev_W G M X bc bs pc ls (.int y :: .long x :: st) w := by
  obtain ⟨hx, hb, hm, ho, ht, hT, hi, hz, hzs, hdf, hdl, hlk⟩ := hX
  intro H locs a cells slots hH hl hL hc hs
  exact lv_lshr hx hb hd rfl (k H locs a cells slots hH hl hL hc hs)
theorem r_lushr (hX : ev_C G M d X) {x : Int64} {y : Int32} (hd : decode M.2.2.1 pc = .ok (.lushr, 1))  (k : ev_W G M X bc bs (pc + 1) ls (.long ((x.toUInt64 >>> (y.toInt64.toUInt64 &&& Int64.toUInt64 63)).toInt64) :: st) w) : ev_W G M X bc bs pc ls (.int y :: .long x :: st) w := by
  obtain ⟨hx, hb, hm, ho, ht, hT, hi, hz, hzs, hdf, hdl, hlk⟩ := hX
  intro H locs a cells slots hH hl hL hc hs
  exact lv_lushr hx hb hd rfl (k H locs a cells slots hH hl hL hc hs)
theorem r_i2l (hX : ev_C G M d X) {x : Int32} (hd : decode M.2.2.1 pc = .ok (.i2l, 1))  (k : ev_W G M X bc bs (pc + 1) ls (.long x.toInt64 :: st) w) : ev_W G M X bc bs pc ls (.int x :: st) w := by
  obtain ⟨hx, hb, hm, ho, ht, hT, hi, hz, hzs, hdf, hdl, hlk⟩ := hX
  intro H locs a cells slots hH hl hL hc hs
  exact lv_i2l hx hb hd rfl (k H locs a cells slots hH hl hL hc hs)
theorem r_l2i (hX : ev_C G M d X) {x : Int64} (hd : decode M.2.2.1 pc = .ok (.l2i, 1))  (k : ev_W G M X bc bs (pc + 1) ls (.int x.toInt32 :: st) w) : ev_W G M X bc bs pc ls (.long x :: st) w := by
  obtain ⟨hx, hb, hm, ho, ht, hT, hi, hz, hzs, hdf, hdl, hlk⟩ := hX
  intro H locs a cells slots hH hl hL hc hs
  exact lv_l2i hx hb hd rfl (k H locs a cells slots hH hl hL hc hs)
theorem r_i2b (hX : ev_C G M d X) {x : Int32} (hd : decode M.2.2.1 pc = .ok (.i2b, 1))  (k : ev_W G M X bc bs (pc + 1) ls (.int x.toInt8.toInt32 :: st) w) : ev_W G M X bc bs pc ls (.int x :: st) w := by
  obtain ⟨hx, hb, hm, ho, ht, hT, hi, hz, hzs, hdf, hdl, hlk⟩ := hX
  intro H locs a cells slots hH hl hL hc hs
  exact lv_i2b hx hb hd rfl (k H locs a cells slots hH hl hL hc hs)
theorem r_i2s (hX : ev_C G M d X) {x : Int32} (hd : decode M.2.2.1 pc = .ok (.i2s, 1))  (k : ev_W G M X bc bs (pc + 1) ls (.int x.toInt16.toInt32 :: st) w) : ev_W G M X bc bs pc ls (.int x :: st) w := by
  obtain ⟨hx, hb, hm, ho, ht, hT, hi, hz, hzs, hdf, hdl, hlk⟩ := hX
  intro H locs a cells slots hH hl hL hc hs
  exact lv_i2s hx hb hd rfl (k H locs a cells slots hH hl hL hc hs)
theorem r_i2c (hX : ev_C G M d X) {x : Int32} (hd : decode M.2.2.1 pc = .ok (.i2c, 1))  (k : ev_W G M X bc bs (pc + 1) ls (.int (x.toUInt32 % 65536).toInt32 :: st) w) : ev_W G M X bc bs pc ls (.int x :: st) w := by
  obtain ⟨hx, hb, hm, ho, ht, hT, hi, hz, hzs, hdf, hdl, hlk⟩ := hX
  intro H locs a cells slots hH hl hL hc hs
  exact lv_i2c hx hb hd rfl (k H locs a cells slots hH hl hL hc hs)
theorem r_lcmp (hX : ev_C G M d X) {x y : Int64} (hd : decode M.2.2.1 pc = .ok (.lcmp, 1))  (k : ev_W G M X bc bs (pc + 1) ls (.int (lg_cmp x y) :: st) w) : ev_W G M X bc bs pc ls (.long y :: .long x :: st) w := by
  obtain ⟨hx, hb, hm, ho, ht, hT, hi, hz, hzs, hdf, hdl, hlk⟩ := hX
  intro H locs a cells slots hH hl hL hc hs
  exact W.lcmp hx hb hd  (k H locs a cells slots hH hl hL hc hs)
theorem r_dup (hX : ev_C G M d X) {v : Value} (hd : decode M.2.2.1 pc = .ok (.dup, 1)) (h1 : v.category = 1) (k : ev_W G M X bc bs (pc + 1) ls (v :: v :: st) w) : ev_W G M X bc bs pc ls (v :: st) w := by
  obtain ⟨hx, hb, hm, ho, ht, hT, hi, hz, hzs, hdf, hdl, hlk⟩ := hX
  intro H locs a cells slots hH hl hL hc hs
  exact lv_dup hx hb hd (by rw [ev_mv_cat]; exact h1) (k H locs a cells slots hH hl hL hc hs)
theorem r_pop (hX : ev_C G M d X) {v : Value} (hd : decode M.2.2.1 pc = .ok (.pop, 1)) (h1 : v.category = 1) (k : ev_W G M X bc bs (pc + 1) ls (st) w) : ev_W G M X bc bs pc ls (v :: st) w := by
  obtain ⟨hx, hb, hm, ho, ht, hT, hi, hz, hzs, hdf, hdl, hlk⟩ := hX
  intro H locs a cells slots hH hl hL hc hs
  exact lv_pop hx hb hd (by rw [ev_mv_cat]; exact h1) (k H locs a cells slots hH hl hL hc hs)
theorem r_dup_x1 (hX : ev_C G M d X) {v u : Value} (hd : decode M.2.2.1 pc = .ok (.dup_x1, 1)) (h1 : v.category = 1) (h2 : u.category = 1) (k : ev_W G M X bc bs (pc + 1) ls (v :: u :: v :: st) w) : ev_W G M X bc bs pc ls (v :: u :: st) w := by
  obtain ⟨hx, hb, hm, ho, ht, hT, hi, hz, hzs, hdf, hdl, hlk⟩ := hX
  intro H locs a cells slots hH hl hL hc hs
  exact lv_dup_x1 hx hb hd (by rw [ev_mv_cat]; exact h1) (by rw [ev_mv_cat]; exact h2) (k H locs a cells slots hH hl hL hc hs)
theorem r_dup_x2 (hX : ev_C G M d X) {v u z : Value} (hd : decode M.2.2.1 pc = .ok (.dup_x2, 1)) (h1 : v.category = 1) (h2 : u.category = 1) (h3 : z.category = 1) (k : ev_W G M X bc bs (pc + 1) ls (v :: u :: z :: v :: st) w) : ev_W G M X bc bs pc ls (v :: u :: z :: st) w := by
  obtain ⟨hx, hb, hm, ho, ht, hT, hi, hz, hzs, hdf, hdl, hlk⟩ := hX
  intro H locs a cells slots hH hl hL hc hs
  exact lv_dup_x2 hx hb hd (by rw [ev_mv_cat]; exact h1) (by rw [ev_mv_cat]; exact h2) (by rw [ev_mv_cat]; exact h3) (k H locs a cells slots hH hl hL hc hs)
theorem r_dup2 (hX : ev_C G M d X) {v u : Value} (hd : decode M.2.2.1 pc = .ok (.dup2, 1)) (h1 : v.category = 1) (h2 : u.category = 1) (k : ev_W G M X bc bs (pc + 1) ls (v :: u :: v :: u :: st) w) : ev_W G M X bc bs pc ls (v :: u :: st) w := by
  obtain ⟨hx, hb, hm, ho, ht, hT, hi, hz, hzs, hdf, hdl, hlk⟩ := hX
  intro H locs a cells slots hH hl hL hc hs
  exact lv_dup2_11 hx hb hd (by rw [ev_mv_cat]; exact h1) (by rw [ev_mv_cat]; exact h2) (k H locs a cells slots hH hl hL hc hs)
theorem r_dup2L (hX : ev_C G M d X) {v : Value} (hd : decode M.2.2.1 pc = .ok (.dup2, 1)) (h1 : v.category = 2) (k : ev_W G M X bc bs (pc + 1) ls (v :: v :: st) w) : ev_W G M X bc bs pc ls (v :: st) w := by
  obtain ⟨hx, hb, hm, ho, ht, hT, hi, hz, hzs, hdf, hdl, hlk⟩ := hX
  intro H locs a cells slots hH hl hL hc hs
  exact lv_dup2_2 hx hb hd (by rw [ev_mv_cat]; exact h1) (k H locs a cells slots hH hl hL hc hs)
theorem r_dup2_x1L (hX : ev_C G M d X) {v u : Value} (hd : decode M.2.2.1 pc = .ok (.dup2_x1, 1)) (h1 : v.category = 2) (h2 : u.category = 1) (k : ev_W G M X bc bs (pc + 1) ls (v :: u :: v :: st) w) : ev_W G M X bc bs pc ls (v :: u :: st) w := by
  obtain ⟨hx, hb, hm, ho, ht, hT, hi, hz, hzs, hdf, hdl, hlk⟩ := hX
  intro H locs a cells slots hH hl hL hc hs
  exact lv_dup2_x1_2 hx hb hd (by rw [ev_mv_cat]; exact h1) (by rw [ev_mv_cat]; exact h2) (k H locs a cells slots hH hl hL hc hs)
theorem r_dup2_x2L (hX : ev_C G M d X) {v u z : Value} (hd : decode M.2.2.1 pc = .ok (.dup2_x2, 1)) (h1 : v.category = 2) (h2 : u.category = 1) (h3 : z.category = 1) (k : ev_W G M X bc bs (pc + 1) ls (v :: u :: z :: v :: st) w) : ev_W G M X bc bs pc ls (v :: u :: z :: st) w := by
  obtain ⟨hx, hb, hm, ho, ht, hT, hi, hz, hzs, hdf, hdl, hlk⟩ := hX
  intro H locs a cells slots hH hl hL hc hs
  exact lv_dup2_x2_2 hx hb hd (by rw [ev_mv_cat]; exact h1) (by rw [ev_mv_cat]; exact h2) (by rw [ev_mv_cat]; exact h3) (k H locs a cells slots hH hl hL hc hs)
theorem r_pop2L (hX : ev_C G M d X) {v : Value} (hd : decode M.2.2.1 pc = .ok (.pop2, 1)) (h1 : v.category = 2) (k : ev_W G M X bc bs (pc + 1) ls (st) w) : ev_W G M X bc bs pc ls (v :: st) w := by
  obtain ⟨hx, hb, hm, ho, ht, hT, hi, hz, hzs, hdf, hdl, hlk⟩ := hX
  intro H locs a cells slots hH hl hL hc hs
  exact lv_pop2_2 hx hb hd (by rw [ev_mv_cat]; exact h1) (k H locs a cells slots hH hl hL hc hs)
theorem r_if_eq (hX : ev_C G M d X) {x : Int32} {off : Int} (tgt : Nat) (hd : decode M.2.2.1 pc = .ok (.ifCond .eq off, 3)) (hg : (pc : Int) + off = (tgt : Int)) (kt : x = 0 → ev_W G M X bc bs tgt ls st w) (kf : ¬ x = 0 → ev_W G M X bc bs (pc + 3) ls st w) : ev_W G M X bc bs pc ls (.int x :: st) w := by
  obtain ⟨hx, hb, hm, ho, ht, hT, hi, hz, hzs, hdf, hdl, hlk⟩ := hX
  intro H locs a cells slots hH hl hL hc hs
  exact lv_if_eq hx hb hd hg (fun q => kt q H locs a cells slots hH hl hL hc hs) (fun q => kf q H locs a cells slots hH hl hL hc hs)
theorem r_if_ne (hX : ev_C G M d X) {x : Int32} {off : Int} (tgt : Nat) (hd : decode M.2.2.1 pc = .ok (.ifCond .ne off, 3)) (hg : (pc : Int) + off = (tgt : Int)) (kt : ¬ x = 0 → ev_W G M X bc bs tgt ls st w) (kf : x = 0 → ev_W G M X bc bs (pc + 3) ls st w) : ev_W G M X bc bs pc ls (.int x :: st) w := by
  obtain ⟨hx, hb, hm, ho, ht, hT, hi, hz, hzs, hdf, hdl, hlk⟩ := hX
  intro H locs a cells slots hH hl hL hc hs
  exact lv_if_ne hx hb hd hg (fun q => kt q H locs a cells slots hH hl hL hc hs) (fun q => kf q H locs a cells slots hH hl hL hc hs)
theorem r_if_lt (hX : ev_C G M d X) {x : Int32} {off : Int} (tgt : Nat) (hd : decode M.2.2.1 pc = .ok (.ifCond .lt off, 3)) (hg : (pc : Int) + off = (tgt : Int)) (kt : x < 0 → ev_W G M X bc bs tgt ls st w) (kf : ¬ x < 0 → ev_W G M X bc bs (pc + 3) ls st w) : ev_W G M X bc bs pc ls (.int x :: st) w := by
  obtain ⟨hx, hb, hm, ho, ht, hT, hi, hz, hzs, hdf, hdl, hlk⟩ := hX
  intro H locs a cells slots hH hl hL hc hs
  exact lv_if_lt hx hb hd hg (fun q => kt q H locs a cells slots hH hl hL hc hs) (fun q => kf q H locs a cells slots hH hl hL hc hs)
theorem r_if_ge (hX : ev_C G M d X) {x : Int32} {off : Int} (tgt : Nat) (hd : decode M.2.2.1 pc = .ok (.ifCond .ge off, 3)) (hg : (pc : Int) + off = (tgt : Int)) (kt : 0 ≤ x → ev_W G M X bc bs tgt ls st w) (kf : ¬ 0 ≤ x → ev_W G M X bc bs (pc + 3) ls st w) : ev_W G M X bc bs pc ls (.int x :: st) w := by
  obtain ⟨hx, hb, hm, ho, ht, hT, hi, hz, hzs, hdf, hdl, hlk⟩ := hX
  intro H locs a cells slots hH hl hL hc hs
  exact lv_if_ge hx hb hd hg (fun q => kt q H locs a cells slots hH hl hL hc hs) (fun q => kf q H locs a cells slots hH hl hL hc hs)
theorem r_if_gt (hX : ev_C G M d X) {x : Int32} {off : Int} (tgt : Nat) (hd : decode M.2.2.1 pc = .ok (.ifCond .gt off, 3)) (hg : (pc : Int) + off = (tgt : Int)) (kt : 0 < x → ev_W G M X bc bs tgt ls st w) (kf : ¬ 0 < x → ev_W G M X bc bs (pc + 3) ls st w) : ev_W G M X bc bs pc ls (.int x :: st) w := by
  obtain ⟨hx, hb, hm, ho, ht, hT, hi, hz, hzs, hdf, hdl, hlk⟩ := hX
  intro H locs a cells slots hH hl hL hc hs
  exact lv_if_gt hx hb hd hg (fun q => kt q H locs a cells slots hH hl hL hc hs) (fun q => kf q H locs a cells slots hH hl hL hc hs)
theorem r_if_le (hX : ev_C G M d X) {x : Int32} {off : Int} (tgt : Nat) (hd : decode M.2.2.1 pc = .ok (.ifCond .le off, 3)) (hg : (pc : Int) + off = (tgt : Int)) (kt : x ≤ 0 → ev_W G M X bc bs tgt ls st w) (kf : ¬ x ≤ 0 → ev_W G M X bc bs (pc + 3) ls st w) : ev_W G M X bc bs pc ls (.int x :: st) w := by
  obtain ⟨hx, hb, hm, ho, ht, hT, hi, hz, hzs, hdf, hdl, hlk⟩ := hX
  intro H locs a cells slots hH hl hL hc hs
  exact lv_if_le hx hb hd hg (fun q => kt q H locs a cells slots hH hl hL hc hs) (fun q => kf q H locs a cells slots hH hl hL hc hs)
theorem r_icmp_eq (hX : ev_C G M d X) {x y : Int32} {off : Int} (tgt : Nat) (hd : decode M.2.2.1 pc = .ok (.if_icmp .eq off, 3)) (hg : (pc : Int) + off = (tgt : Int)) (kt : x = y → ev_W G M X bc bs tgt ls st w) (kf : ¬ x = y → ev_W G M X bc bs (pc + 3) ls st w) : ev_W G M X bc bs pc ls (.int y :: .int x :: st) w := by
  obtain ⟨hx, hb, hm, ho, ht, hT, hi, hz, hzs, hdf, hdl, hlk⟩ := hX
  intro H locs a cells slots hH hl hL hc hs
  exact lv_icmp_eq hx hb hd hg (fun q => kt q H locs a cells slots hH hl hL hc hs) (fun q => kf q H locs a cells slots hH hl hL hc hs)
theorem r_icmp_ne (hX : ev_C G M d X) {x y : Int32} {off : Int} (tgt : Nat) (hd : decode M.2.2.1 pc = .ok (.if_icmp .ne off, 3)) (hg : (pc : Int) + off = (tgt : Int)) (kt : ¬ x = y → ev_W G M X bc bs tgt ls st w) (kf : x = y → ev_W G M X bc bs (pc + 3) ls st w) : ev_W G M X bc bs pc ls (.int y :: .int x :: st) w := by
  obtain ⟨hx, hb, hm, ho, ht, hT, hi, hz, hzs, hdf, hdl, hlk⟩ := hX
  intro H locs a cells slots hH hl hL hc hs
  exact lv_icmp_ne hx hb hd hg (fun q => kt q H locs a cells slots hH hl hL hc hs) (fun q => kf q H locs a cells slots hH hl hL hc hs)
theorem r_icmp_lt (hX : ev_C G M d X) {x y : Int32} {off : Int} (tgt : Nat) (hd : decode M.2.2.1 pc = .ok (.if_icmp .lt off, 3)) (hg : (pc : Int) + off = (tgt : Int)) (kt : x < y → ev_W G M X bc bs tgt ls st w) (kf : ¬ x < y → ev_W G M X bc bs (pc + 3) ls st w) : ev_W G M X bc bs pc ls (.int y :: .int x :: st) w := by
  obtain ⟨hx, hb, hm, ho, ht, hT, hi, hz, hzs, hdf, hdl, hlk⟩ := hX
  intro H locs a cells slots hH hl hL hc hs
  exact lv_icmp_lt hx hb hd hg (fun q => kt q H locs a cells slots hH hl hL hc hs) (fun q => kf q H locs a cells slots hH hl hL hc hs)
theorem r_icmp_ge (hX : ev_C G M d X) {x y : Int32} {off : Int} (tgt : Nat) (hd : decode M.2.2.1 pc = .ok (.if_icmp .ge off, 3)) (hg : (pc : Int) + off = (tgt : Int)) (kt : y ≤ x → ev_W G M X bc bs tgt ls st w) (kf : ¬ y ≤ x → ev_W G M X bc bs (pc + 3) ls st w) : ev_W G M X bc bs pc ls (.int y :: .int x :: st) w := by
  obtain ⟨hx, hb, hm, ho, ht, hT, hi, hz, hzs, hdf, hdl, hlk⟩ := hX
  intro H locs a cells slots hH hl hL hc hs
  exact lv_icmp_ge hx hb hd hg (fun q => kt q H locs a cells slots hH hl hL hc hs) (fun q => kf q H locs a cells slots hH hl hL hc hs)
theorem r_icmp_gt (hX : ev_C G M d X) {x y : Int32} {off : Int} (tgt : Nat) (hd : decode M.2.2.1 pc = .ok (.if_icmp .gt off, 3)) (hg : (pc : Int) + off = (tgt : Int)) (kt : y < x → ev_W G M X bc bs tgt ls st w) (kf : ¬ y < x → ev_W G M X bc bs (pc + 3) ls st w) : ev_W G M X bc bs pc ls (.int y :: .int x :: st) w := by
  obtain ⟨hx, hb, hm, ho, ht, hT, hi, hz, hzs, hdf, hdl, hlk⟩ := hX
  intro H locs a cells slots hH hl hL hc hs
  exact lv_icmp_gt hx hb hd hg (fun q => kt q H locs a cells slots hH hl hL hc hs) (fun q => kf q H locs a cells slots hH hl hL hc hs)
theorem r_icmp_le (hX : ev_C G M d X) {x y : Int32} {off : Int} (tgt : Nat) (hd : decode M.2.2.1 pc = .ok (.if_icmp .le off, 3)) (hg : (pc : Int) + off = (tgt : Int)) (kt : x ≤ y → ev_W G M X bc bs tgt ls st w) (kf : ¬ x ≤ y → ev_W G M X bc bs (pc + 3) ls st w) : ev_W G M X bc bs pc ls (.int y :: .int x :: st) w := by
  obtain ⟨hx, hb, hm, ho, ht, hT, hi, hz, hzs, hdf, hdl, hlk⟩ := hX
  intro H locs a cells slots hH hl hL hc hs
  exact lv_icmp_le hx hb hd hg (fun q => kt q H locs a cells slots hH hl hL hc hs) (fun q => kf q H locs a cells slots hH hl hL hc hs)
theorem r_goto (hX : ev_C G M d X) {off : Int} (tgt : Nat) (hd : decode M.2.2.1 pc = .ok (.goto off, 3)) (hg : (pc : Int) + off = (tgt : Int)) (k : ev_W G M X bc bs tgt ls st w) : ev_W G M X bc bs pc ls st w := by
  obtain ⟨hx, hb, hm, ho, ht, hT, hi, hz, hzs, hdf, hdl, hlk⟩ := hX
  intro H locs a cells slots hH hl hL hc hs
  exact lv_goto hx hb hd hg (k H locs a cells slots hH hl hL hc hs)
theorem r_ifnull (hX : ev_C G M d X) {x : Nat} {off : Int} (hd : decode M.2.2.1 pc = .ok (.ifnull off, 3)) (k : ev_W G M X bc bs (pc + 3) ls st w) : ev_W G M X bc bs pc ls (.ref x :: st) w := by
  obtain ⟨hx, hb, hm, ho, ht, hT, hi, hz, hzs, hdf, hdl, hlk⟩ := hX
  intro H locs a cells slots hH hl hL hc hs
  exact lv_ifnull hx hb hd (k H locs a cells slots hH hl hL hc hs)
theorem r_ifnullN (hX : ev_C G M d X) {off : Int} (tgt : Nat) (hd : decode M.2.2.1 pc = .ok (.ifnull off, 3)) (hg : (pc : Int) + off = (tgt : Int)) (k : ev_W G M X bc bs tgt ls st w) : ev_W G M X bc bs pc ls (.null :: st) w := by
  obtain ⟨hx, hb, hm, ho, ht, hT, hi, hz, hzs, hdf, hdl, hlk⟩ := hX
  intro H locs a cells slots hH hl hL hc hs
  exact lv_ifnullN hx hb hd hg (k H locs a cells slots hH hl hL hc hs)
theorem r_ifnonnull (hX : ev_C G M d X) {x : Nat} {off : Int} (tgt : Nat) (hd : decode M.2.2.1 pc = .ok (.ifnonnull off, 3)) (hg : (pc : Int) + off = (tgt : Int)) (k : ev_W G M X bc bs tgt ls st w) : ev_W G M X bc bs pc ls (.ref x :: st) w := by
  obtain ⟨hx, hb, hm, ho, ht, hT, hi, hz, hzs, hdf, hdl, hlk⟩ := hX
  intro H locs a cells slots hH hl hL hc hs
  exact lv_ifnonnull hx hb hd hg (k H locs a cells slots hH hl hL hc hs)
theorem r_ifnonnullN (hX : ev_C G M d X) {off : Int} (hd : decode M.2.2.1 pc = .ok (.ifnonnull off, 3)) (k : ev_W G M X bc bs (pc + 3) ls st w) : ev_W G M X bc bs pc ls (.null :: st) w := by
  obtain ⟨hx, hb, hm, ho, ht, hT, hi, hz, hzs, hdf, hdl, hlk⟩ := hX
  intro H locs a cells slots hH hl hL hc hs
  exact lv_ifnonnullN hx hb hd (k H locs a cells slots hH hl hL hc hs)
theorem r_ifnullq (hX : ev_C G M d X) {o : Option Nat} {off : Int} (tgt : Nat) (hd : decode M.2.2.1 pc = .ok (.ifnull off, 3)) (hg : (pc : Int) + off = (tgt : Int)) (kt : o = none → ev_W G M X bc bs tgt ls st w) (kf : ∀ x, o = some x → ev_W G M X bc bs (pc + 3) ls st w) : ev_W G M X bc bs pc ls (va_rf o :: st) w := by
  cases o with
  | none => exact r_ifnullN hX tgt hd hg (kt rfl)
  | some x => exact r_ifnull hX hd (kf x rfl)
theorem r_ifnonnullq (hX : ev_C G M d X) {o : Option Nat} {off : Int} (tgt : Nat) (hd : decode M.2.2.1 pc = .ok (.ifnonnull off, 3)) (hg : (pc : Int) + off = (tgt : Int)) (kt : ∀ x, o = some x → ev_W G M X bc bs tgt ls st w) (kf : o = none → ev_W G M X bc bs (pc + 3) ls st w) : ev_W G M X bc bs pc ls (va_rf o :: st) w := by
  cases o with
  | none => exact r_ifnonnullN hX hd (kf rfl)
  | some x => exact r_ifnonnull hX tgt hd hg (kt x rfl)
theorem r_acmp_eq (hX : ev_C G M d X) {o u : Option Nat} {off : Int} (tgt : Nat) (ko : ev_ok o) (ku : ev_ok u) (hd : decode M.2.2.1 pc = .ok (.if_acmp .eq off, 3)) (hg : (pc : Int) + off = (tgt : Int)) (kt : o = u → ev_W G M X bc bs tgt ls st w) (kf : ¬ o = u → ev_W G M X bc bs (pc + 3) ls st w) : ev_W G M X bc bs pc ls (va_rf u :: va_rf o :: st) w := by
  obtain ⟨hx, hb, hm, ho, ht, hT, hi, hz, hzs, hdf, hdl, hlk⟩ := hX
  intro H locs a cells slots hH hl hL hc hs
  have ei : ∀ (o u : Option Nat), ev_ok o → ev_ok u → o.map (ev_rho G) = u.map (ev_rho G) → o = u := fun o u k1 k2 h => by
    cases o <;> cases u <;> simp at h ⊢
    exact ev_rho_inj hi (k1 _ rfl) (k2 _ rfl) h
  show W _ _ _ _ _ _ _ _ _ _ _ _ _ _ _ (F0 _ _ _ (ev_mv G (va_rf u) :: ev_mv G (va_rf o) :: st.map (ev_mv G)))
  rw [ev_mv_rf, ev_mv_rf]
  exact lv_acmp_eq hx hb hd hg (fun q => kt (ei _ _ ko ku q) H locs a cells slots hH hl hL hc hs) (fun q => kf (fun z => q (by rw [z])) H locs a cells slots hH hl hL hc hs)
theorem r_acmp_ne (hX : ev_C G M d X) {o u : Option Nat} {off : Int} (tgt : Nat) (ko : ev_ok o) (ku : ev_ok u) (hd : decode M.2.2.1 pc = .ok (.if_acmp .ne off, 3)) (hg : (pc : Int) + off = (tgt : Int)) (kt : ¬ o = u → ev_W G M X bc bs tgt ls st w) (kf : o = u → ev_W G M X bc bs (pc + 3) ls st w) : ev_W G M X bc bs pc ls (va_rf u :: va_rf o :: st) w := by
  obtain ⟨hx, hb, hm, ho, ht, hT, hi, hz, hzs, hdf, hdl, hlk⟩ := hX
  intro H locs a cells slots hH hl hL hc hs
  have ei : ∀ (o u : Option Nat), ev_ok o → ev_ok u → o.map (ev_rho G) = u.map (ev_rho G) → o = u := fun o u k1 k2 h => by
    cases o <;> cases u <;> simp at h ⊢
    exact ev_rho_inj hi (k1 _ rfl) (k2 _ rfl) h
  show W _ _ _ _ _ _ _ _ _ _ _ _ _ _ _ (F0 _ _ _ (ev_mv G (va_rf u) :: ev_mv G (va_rf o) :: st.map (ev_mv G)))
  rw [ev_mv_rf, ev_mv_rf]
  exact lv_acmp_ne hx hb hd hg (fun q => kt (fun z => q (by rw [z])) H locs a cells slots hH hl hL hc hs) (fun q => kf (ei _ _ ko ku q) H locs a cells slots hH hl hL hc hs)
theorem r_lookup (hX : ev_C G M d X) {dflt : Int} {ps : Array (Int × Int)} {len : Nat} {x : Int32} {off : Int} (tgt : Nat) (hd : decode M.2.2.1 pc = .ok (.lookupswitch dflt ps, len)) (hp : (ps.toList.zip (ps.toList.drop 1)).all (fun (a, next) => a.1 < next.1) = true) (hof : Op.lookupswitch.offset ps.toList dflt x.toInt = off) (hg : (pc : Int) + off = (tgt : Int)) (k : ev_W G M X bc bs tgt ls st w) : ev_W G M X bc bs pc ls (.int x :: st) w := by
  obtain ⟨hx, hb, hm, ho, ht, hT, hi, hz, hzs, hdf, hdl, hlk⟩ := hX
  intro H locs a cells slots hH hl hL hc hs
  exact lv_lookup hx hb hd hp hof hg (k H locs a cells slots hH hl hL hc hs)
theorem r_tableOut (hX : ev_C G M d X) {dflt lo hi : Int} {offs : Array Int} {len : Nat} {x : Int32} (tgt : Nat) (hd : decode M.2.2.1 pc = .ok (.tableswitch dflt lo hi offs, len)) (h : x.toInt < lo ∨ hi < x.toInt) (hg : (pc : Int) + dflt = (tgt : Int)) (k : ev_W G M X bc bs tgt ls st w) : ev_W G M X bc bs pc ls (.int x :: st) w := by
  obtain ⟨hx, hb, hm, ho, ht, hT, hi, hz, hzs, hdf, hdl, hlk⟩ := hX
  intro H locs a cells slots hH hl hL hc hs
  exact lv_tableOut hx hb hd h hg (k H locs a cells slots hH hl hL hc hs)
theorem r_tableIn (hX : ev_C G M d X) {dflt lo hi : Int} {offs : Array Int} {len : Nat} {x : Int32} {off : Int} (tgt : Nat) (hd : decode M.2.2.1 pc = .ok (.tableswitch dflt lo hi offs, len)) (h1 : ¬ x.toInt < lo) (h2 : ¬ hi < x.toInt) (hof : offs[(x.toInt - lo).toNat]? = some off) (hg : (pc : Int) + off = (tgt : Int)) (k : ev_W G M X bc bs tgt ls st w) : ev_W G M X bc bs pc ls (.int x :: st) w := by
  obtain ⟨hx, hb, hm, ho, ht, hT, hi, hz, hzs, hdf, hdl, hlk⟩ := hX
  intro H locs a cells slots hH hl hL hc hs
  exact lv_tableIn hx hb hd h1 h2 hof hg (k H locs a cells slots hH hl hL hc hs)
theorem r_less {bc' bs' : Nat} (hc1 : bc' ≤ bc) (hs1 : bs' ≤ bs) (k : ev_W G M X bc' bs' pc ls st w) : ev_W G M X bc bs pc ls st w := fun H locs a cells slots hH hl hL hc hs => k H locs a cells slots hH hl hL (by omega) (by omega)
end EvR
end
section
/-! ===== FIELDS, ARRAYS, NEW CELLS, CALLS, RETURNS over pure worlds ===== -/
theorem ev_one {D : va_G} {cl : List vw_C} {q : Nat × va_E} {H : Heap} (h : va_at D cl q H) : va_P D cl [q] H := fun k x hx => by
  cases k with
  | zero => cases hx; exact h
  | succ k => simp at hx
theorem ev_tys_at {G : Ev_G} {k : Nat} {ty : FieldType} (h : ev_arrs[k]? = some ty) : (ev_tys G)[k]? = some (G.2.2.1 k, ty) := by
  unfold ev_tys
  rw [List.getElem?_map, List.getElem?_zipIdx, h]
  simp
theorem ev_fit {G : Ev_G} {ty : FieldType} {v : Value} (h1 : narrow ty v = v) (h2 : fits ty v = true) : narrow ty (ev_mv G v) = ev_mv G v ∧ fits ty (ev_mv G v) = true := by
  cases v with
  | ref a => cases ty <;> first | exact ⟨rfl, rfl⟩ | (simp [fits] at h2)
  | _ => exact ⟨h1, h2⟩
theorem ev_hi {G : Ev_G} {r : Nat} (h : 100 ≤ r) : G.2.2.2.2.size ≤ ev_rho G r := by
  simp only [ev_rho]; rw [if_neg (by omega)]; omega
theorem ev_locs {G : Ev_G} {locs : List Loc} {r k : Nat} (hl : ∀ q ∈ locs, G.2.2.2.2.size ≤ q.base) (h : 100 ≤ r) : ∀ q ∈ locs ++ [⟨ev_rho G r, k⟩], G.2.2.2.2.size ≤ q.base := by
  intro q hq
  rcases List.mem_append.mp hq with h1 | h1
  · exact hl q h1
  · rw [List.mem_singleton.mp h1]
    exact ev_hi h
/-- a field that an instruction of class own names: the k-th of class ci -/
def ev_F (own : String) (index ci k : Nat) : Prop := ∃ (C : String) (T : u_T) (N : Nat), vwCl[ci]? = some (C, T, N) ∧ k < N ∧ (∀ w ∈ u_ws C T N, w ∈ ev_tbl) ∧ (T k).1 = C ∧ Cond.fieldLink own index C (T k).2.1 (T k).2.2.1 ∈ ev_tbl
def ev_FP (own : String) (index ci k : Nat) (ty : FieldType) (fin : Bool) : Prop := ∃ (C : String) (T : u_T) (N : Nat) (ty0 : Nat → FieldType), vwCl[ci]? = some (C, T, N) ∧ k < N ∧ (∀ w ∈ u_ws C T N, w ∈ ev_tbl) ∧ (T k).1 = C ∧ Cond.fieldLink own index C (T k).2.1 (T k).2.2.1 ∈ ev_tbl ∧
  (∀ j, j < N → parseFieldDescriptor (T j).2.2.1 = some (ty0 j)) ∧ (∀ a, a < N → ∀ b, b < N → a ≠ b → (T a).2.1 ≠ (T b).2.1) ∧ ty0 k = ty ∧ (T k).2.2.2 = fin
section EvH
variable {G : Ev_G} {M : Ev_M} {d : Nat} {X : Ev_X} {bc bs pc : Nat} {ls : Ev_L} {st : List Value} {w : Ev_W}
theorem r_getf (hX : ev_C G M d X) {index ci k r : Nat} {fs : List Value} {v : Value} (hd : decode M.2.2.1 pc = .ok (.getfield index, 3)) (hF : ev_F M.1 index ci k) (hw : w.2 r = some (.inr (ci, fs))) (hv : fs[k]? = some v) (kk : ev_W G M X bc bs (pc + 3) ls (v :: st) w) : ev_W G M X bc bs pc ls (.ref r :: st) w := by
  obtain ⟨hx, hb, hm, ho, ht, hT, hi, hz, hzs, hdf, hdl, hlk⟩ := hX
  intro H locs a cells slots hH hl hL hc hs
  obtain ⟨C, T, N, h1, h2, h3, h4, h5⟩ := hF
  exact va_get hx hb ht h3 ho hT.1 (ev_one (hH.2.2.2 r _ hw)) 0 rfl h1 k h2 (ht _ h5) (fun _ h => by rw [h4] at h; exact h) (v := ev_mv G v) (by rw [List.getElem?_map, hv]; rfl) hd (kk H locs a cells slots hH hl hL hc hs)
theorem r_putf (hX : ev_C G M d X) {index ci k r : Nat} {ty : FieldType} {fs : List Value} {v : Value} (hd : decode M.2.2.1 pc = .ok (.putfield index, 3)) (hF : ev_FP M.1 index ci k ty false) (hw : w.2 r = some (.inr (ci, fs))) (hr : 100 ≤ r) (hn : narrow ty v = v) (hv : fits ty v = true) (hk : k < fs.length) (kk : ev_W G M X bc bs (pc + 3) ls st (ev_set w r (.inr (ci, fs.set k v)))) : ev_W G M X bc bs pc ls (v :: .ref r :: st) w := by
  obtain ⟨hx, hb, hm, ho, ht, hT, hi, hz, hzs, hdf, hdl, hlk⟩ := hX
  intro H locs a cells slots hH hl hL hc hs
  obtain ⟨C, T, N, ty0, h1, h2, h3, h4, h5, hty, hnm, hk0, hfin⟩ := hF
  obtain ⟨hn', hv'⟩ := ev_fit (G := G) hn hv
  have hap := va_apart (own := M.1) ht h3 ty0 hty hnm hT.1 h1
  obtain ⟨rr, g1, cell, q1, q2, q3, q4⟩ := hH.2.2.2 r _ hw
  have hrr : rr = (C, T, N) := Option.some.inj (g1.symm.trans h1)
  subst hrr
  obtain ⟨hS, hfc, kC, hkC, hkind⟩ := hT.1.1 ci _ h1
  obtain ⟨cf, kf, fi, f, hif, hsl⟩ := hS k h2
  have hlay := ht _ (h3 _ (u_in_lay h2))
  unfold u_lay at hlay
  rw [if_neg (by rw [hfin]; decide)] at hlay
  have hst := (u_facts hfc hkC (u_lays ht h3 h2) hif).1
  have h6 := u_store hfc hkC hkind hlay hif (by rw [hty k h2, hk0]) hn' hv'
  refine W.putK hx hb (f := f) ⟨ho, ht _ h5, ⟨_, _, _, (by rw [h4] at hif; exact hif)⟩, hst⟩ (by rw [q2]; exact h6) q1 q3 (by rw [hsl]; exact k2_hasslot (q4 k h2)) rfl rfl hd fun H' e1 e2 e3 => ?_
  rw [hsl] at e1
  refine kk H' _ a cells slots (hH.set hi hr ⟨_, h1, t_OB.to (V := updV (vp_V (fs.map (ev_mv G))) k (ev_mv G v)) ⟨_, e1, q2, q3, t_set q4 hap h2 _⟩ (fun j _ => ?_)⟩ e2 e3) (ev_locs hl hr) hL hc hs
  rw [vp_updV_set (by rw [List.length_map]; exact hk), List.map_set]
theorem r_putF (hX : ev_C G M d X) {index ci k r : Nat} {ty : FieldType} {fs : List Value} {v : Value} (hd : decode M.2.2.1 pc = .ok (.putfield index, 3)) (hF : ev_FP M.1 index ci k ty true) (hin : X.2.2.2.2.2.2.2.1.name = "<init>") (hC : (vwCl[ci]?).map (fun q => q.1) = some M.1) (hw : w.2 r = some (.inr (ci, fs))) (hr : 100 ≤ r) (hn : narrow ty v = v) (hv : fits ty v = true) (hk : k < fs.length) (kk : ev_W G M X bc bs (pc + 3) ls st (ev_set w r (.inr (ci, fs.set k v)))) : ev_W G M X bc bs pc ls (v :: .ref r :: st) w := by
  obtain ⟨hx, hb, hm, ho, ht, hT, hi, hz, hzs, hdf, hdl, hlk⟩ := hX
  intro H locs a cells slots hH hl hL hc hs
  obtain ⟨C, T, N, ty0, h1, h2, h3, h4, h5, hty, hnm, hk0, hfin⟩ := hF
  obtain ⟨hn', hv'⟩ := ev_fit (G := G) hn hv
  have hCM : C = M.1 := by rw [h1] at hC; exact Option.some.inj hC
  have hap := va_apart (own := M.1) ht h3 ty0 hty hnm hT.1 h1
  obtain ⟨rr, g1, cell, q1, q2, q3, q4⟩ := hH.2.2.2 r _ hw
  have hrr : rr = (C, T, N) := Option.some.inj (g1.symm.trans h1)
  subst hrr
  obtain ⟨hS, hfc, kC, hkC, hkind⟩ := hT.1.1 ci _ h1
  obtain ⟨cf, kf, fi, f, hif, hsl⟩ := hS k h2
  have hlay := ht _ (h3 _ (u_in_lay h2))
  unfold u_lay at hlay
  rw [if_pos hfin] at hlay
  have hst := (u_facts hfc hkC (u_lays ht h3 h2) hif).1
  have hcf : X.2.2.2.2.1.cls = cf := by
    obtain ⟨_, _, c', _, _, _, -, -, hf', -, -, -, hown2, -⟩ := Cond.laysFinal_spec hlay
    have e1 : c' = cf := by have := hif.symm.trans hf'; simp at this; exact this.1.symm
    rw [h4, hCM] at hown2
    rw [← e1]; exact Option.some.inj (ho.symm.trans hown2)
  have h6 := u_fits hfc hkC hkind (Or.inr hlay) hif (by rw [hty k h2, hk0]) hn' hv'
  refine W.putFinK hx hb ho (ht _ h5) (by rw [h4] at hif; exact hif) hst hcf hin (by rw [q2]; exact h6) q1 q3 (by rw [hsl]; exact k2_hasslot (q4 k h2)) rfl rfl hd fun H' e1 e2 e3 => ?_
  rw [hsl] at e1
  refine kk H' _ a cells slots (hH.set hi hr ⟨_, h1, t_OB.to (V := updV (vp_V (fs.map (ev_mv G))) k (ev_mv G v)) ⟨_, e1, q2, q3, t_set q4 hap h2 _⟩ (fun j _ => ?_)⟩ e2 e3) (ev_locs hl hr) hL hc hs
  rw [vp_updV_set (by rw [List.length_map]; exact hk), List.map_set]
theorem r_iald (hX : ev_C G M d X) {k n r : Nat} {f : Nat → Int32} {i : Int32} (hd : decode M.2.2.1 pc = .ok (.iaload, 1)) (hw : w.2 r = some (.inl (k, n, .inl f))) (hk : ev_arrs[k]? = some .int) (hin : vp_in i n) (kk : ev_W G M X bc bs (pc + 1) ls (.int (f i.toNatClampNeg) :: st) w) : ev_W G M X bc bs pc ls (.int i :: .ref r :: st) w := by
  obtain ⟨hx, hb, hm, ho, ht, hT, hi, hz, hzs, hdf, hdl, hlk⟩ := hX
  intro H locs a cells slots hH hl hL hc hs
  exact va_iald hx hb hT.1 (ev_one (hH.2.2.2 r _ hw)) 0 k rfl (ev_tys_at hk) hin hd (kk H locs a cells slots hH hl hL hc hs)
theorem r_lald (hX : ev_C G M d X) {k n r : Nat} {f : Nat → Int64} {i : Int32} (hd : decode M.2.2.1 pc = .ok (.laload, 1)) (hw : w.2 r = some (.inl (k, n, .inr (.inl f)))) (hk : ev_arrs[k]? = some .long) (hin : vp_in i n) (kk : ev_W G M X bc bs (pc + 1) ls (.long (f i.toNatClampNeg) :: st) w) : ev_W G M X bc bs pc ls (.int i :: .ref r :: st) w := by
  obtain ⟨hx, hb, hm, ho, ht, hT, hi, hz, hzs, hdf, hdl, hlk⟩ := hX
  intro H locs a cells slots hH hl hL hc hs
  exact va_lald hx hb hT.1 (ev_one (hH.2.2.2 r _ hw)) 0 k rfl (ev_tys_at hk) hin hd (kk H locs a cells slots hH hl hL hc hs)
theorem r_aald (hX : ev_C G M d X) {k n r : Nat} {C : String} {f : Nat → Option Nat} {i : Int32} (hd : decode M.2.2.1 pc = .ok (.aaload, 1)) (hw : w.2 r = some (.inl (k, n, .inr (.inr f)))) (hk : ev_arrs[k]? = some (.object C)) (hin : vp_in i n) (kk : ev_W G M X bc bs (pc + 1) ls (va_rf (f i.toNatClampNeg) :: st) w) : ev_W G M X bc bs pc ls (.int i :: .ref r :: st) w := by
  obtain ⟨hx, hb, hm, ho, ht, hT, hi, hz, hzs, hdf, hdl, hlk⟩ := hX
  intro H locs a cells slots hH hl hL hc hs
  refine va_aldq hx hb hT.1 (ev_one (hH.2.2.2 r _ hw)) 0 k rfl (ev_tys_at hk) hin hd ?_
  have h9 := kk H locs a cells slots hH hl hL hc hs
  rw [List.map_cons, ev_mv_rf] at h9
  exact h9
theorem ev_len {n : Nat} (h : n < 2 ^ 31) : n.toInt32 = nI n := rfl
theorem r_alen (hX : ev_C G M d X) {k n r : Nat} {ty : FieldType} {f : (Nat → Int32) ⊕ (Nat → Int64) ⊕ (Nat → Option Nat)} (hd : decode M.2.2.1 pc = .ok (.arraylength, 1)) (hw : w.2 r = some (.inl (k, n, f))) (hk : ev_arrs[k]? = some ty) (kk : ev_W G M X bc bs (pc + 1) ls (.int (nI n) :: st) w) : ev_W G M X bc bs pc ls (.ref r :: st) w := by
  obtain ⟨hx, hb, hm, ho, ht, hT, hi, hz, hzs, hdf, hdl, hlk⟩ := hX
  intro H locs a cells slots hH hl hL hc hs
  have hA := (hT.1.2 k _ (ev_tys_at hk)).1
  have h9 := kk H locs a cells slots hH hl hL hc hs
  have h8 := hH.2.2.2 r _ hw
  rcases f with f | f | f
  · exact W.alen hx hb h8 (hA n (fun j => .int (f j))) (by show (arrV _ _ _).slots.size.toInt32 = nI n; rw [arrV_size]; rfl) rfl rfl hd h9
  · exact W.alen hx hb h8 (hA n (fun j => .long (f j))) (by show (arrV _ _ _).slots.size.toInt32 = nI n; rw [arrV_size]; rfl) rfl rfl hd h9
  · exact W.alen hx hb h8 (hA n (fun j => va_rf ((f j).map (ev_rho G)))) (by show (arrV _ _ _).slots.size.toInt32 = nI n; rw [arrV_size]; rfl) rfl rfl hd h9
theorem r_iast (hX : ev_C G M d X) {k n r : Nat} {f : Nat → Int32} {i x : Int32} (hd : decode M.2.2.1 pc = .ok (.iastore, 1)) (hw : w.2 r = some (.inl (k, n, .inl f))) (hr : 100 ≤ r) (hk : ev_arrs[k]? = some .int) (hin : vp_in i n) (kk : ev_W G M X bc bs (pc + 1) ls st (ev_set w r (.inl (k, n, .inl (upd f i.toNatClampNeg x))))) : ev_W G M X bc bs pc ls (.int x :: .int i :: .ref r :: st) w := by
  obtain ⟨hx, hb, hm, ho, ht, hT, hi, hz, hzs, hdf, hdl, hlk⟩ := hX
  intro H locs a cells slots hH hl hL hc hs
  have hA := (hT.1.2 k _ (ev_tys_at hk)).1
  refine W.iast hx hb (hH.2.2.2 r _ hw) (hA n (fun j => .int (f j))) (fun q => by cases q) (by show ¬ (i < 0 ∨ (arrV _ _ _).slots.size ≤ _); rw [arrV_size]; exact hin) rfl rfl hd fun H1 e z oq => ?_
  refine kk H1 _ a cells slots (hH.set hi hr ?_ z oq) (ev_locs hl hr) hL hc hs
  show H1[_]? = some (arrV (G.2.2.1 k) n (fun j => .int (upd f i.toNatClampNeg x j)))
  rw [e]
  show some ((arrV (G.2.2.1 k) n (fun j => .int (f j))).setSlot i.toNatClampNeg (.int x)) = _
  rw [arrV_store]
  congr 2
  funext q
  by_cases hq : q = i.toNatClampNeg
  · subst hq; simp [updV, upd]
  · simp [updV, upd, hq]
theorem r_zald (hX : ev_C G M d X) {k n r : Nat} {f : Nat → Int32} {i : Int32} (hd : decode M.2.2.1 pc = .ok (.baload, 1)) (hw : w.2 r = some (.inl (k, n, .inl f))) (hk : ev_arrs[k]? = some .boolean) (hin : vp_in i n) (kk : ev_W G M X bc bs (pc + 1) ls (.int (f i.toNatClampNeg) :: st) w) : ev_W G M X bc bs pc ls (.int i :: .ref r :: st) w := by
  obtain ⟨hx, hb, hm, ho, ht, hT, hi, hz, hzs, hdf, hdl, hlk⟩ := hX
  intro H locs a cells slots hH hl hL hc hs
  exact va_zald hx hb hT.1 (ev_one (hH.2.2.2 r _ hw)) 0 k rfl (ev_tys_at hk) hin hd (kk H locs a cells slots hH hl hL hc hs)
theorem r_zast (hX : ev_C G M d X) {k n r : Nat} {f : Nat → Int32} {i x : Int32} (hd : decode M.2.2.1 pc = .ok (.bastore, 1)) (hw : w.2 r = some (.inl (k, n, .inl f))) (hr : 100 ≤ r) (hk : ev_arrs[k]? = some .boolean) (hin : vp_in i n) (kk : ev_W G M X bc bs (pc + 1) ls st (ev_set w r (.inl (k, n, .inl (upd f i.toNatClampNeg (x &&& 1)))))) : ev_W G M X bc bs pc ls (.int x :: .int i :: .ref r :: st) w := by
  obtain ⟨hx, hb, hm, ho, ht, hT, hi, hz, hzs, hdf, hdl, hlk⟩ := hX
  intro H locs a cells slots hH hl hL hc hs
  have hA := (hT.1.2 k _ (ev_tys_at hk)).1
  refine W.zast hx hb (hH.2.2.2 r _ hw) (hA n (fun j => .int (f j))) (fun q => by cases q) (by show ¬ (i < 0 ∨ (arrV _ _ _).slots.size ≤ _); rw [arrV_size]; exact hin) rfl rfl hd fun H1 e z oq => ?_
  refine kk H1 _ a cells slots (hH.set hi hr ?_ z oq) (ev_locs hl hr) hL hc hs
  show H1[_]? = some (arrV (G.2.2.1 k) n (fun j => .int (upd f i.toNatClampNeg (x &&& 1) j)))
  rw [e]
  show some ((arrV (G.2.2.1 k) n (fun j => .int (f j))).setSlot i.toNatClampNeg (narrow .boolean (.int x))) = _
  rw [arrV_store]
  congr 2
  funext q
  by_cases hq : q = i.toNatClampNeg
  · subst hq; simp [updV, upd, narrow]
  · simp [updV, upd, hq]
theorem r_last (hX : ev_C G M d X) {k n r : Nat} {f : Nat → Int64} {i : Int32} {x : Int64} (hd : decode M.2.2.1 pc = .ok (.lastore, 1)) (hw : w.2 r = some (.inl (k, n, .inr (.inl f)))) (hr : 100 ≤ r) (hk : ev_arrs[k]? = some .long) (hin : vp_in i n) (kk : ev_W G M X bc bs (pc + 1) ls st (ev_set w r (.inl (k, n, .inr (.inl (vp_updL f i.toNatClampNeg x)))))) : ev_W G M X bc bs pc ls (.long x :: .int i :: .ref r :: st) w := by
  obtain ⟨hx, hb, hm, ho, ht, hT, hi, hz, hzs, hdf, hdl, hlk⟩ := hX
  intro H locs a cells slots hH hl hL hc hs
  have hA := (hT.1.2 k _ (ev_tys_at hk)).1
  refine W.last hx hb (hH.2.2.2 r _ hw) (hA n (fun j => .long (f j))) (fun q => by cases q) (by show ¬ (i < 0 ∨ (arrV _ _ _).slots.size ≤ _); rw [arrV_size]; exact hin) rfl rfl hd fun H1 e z oq => ?_
  refine kk H1 _ a cells slots (hH.set hi hr ?_ z oq) (ev_locs hl hr) hL hc hs
  show H1[_]? = some (arrV (G.2.2.1 k) n (fun j => .long (vp_updL f i.toNatClampNeg x j)))
  rw [e]
  show some ((arrV (G.2.2.1 k) n (fun j => .long (f j))).setSlot i.toNatClampNeg (.long x)) = _
  rw [arrV_store]
  congr 2
  funext q
  by_cases hq : q = i.toNatClampNeg
  · subst hq; simp [updV, vp_updL]
  · simp [updV, vp_updL, hq]
theorem r_aastN (hX : ev_C G M d X) {k n r : Nat} {C : String} {f : Nat → Option Nat} {i : Int32} (hd : decode M.2.2.1 pc = .ok (.aastore, 1)) (hw : w.2 r = some (.inl (k, n, .inr (.inr f)))) (hr : 100 ≤ r) (hk : ev_arrs[k]? = some (.object C)) (hin : vp_in i n) (kk : ev_W G M X bc bs (pc + 1) ls st (ev_set w r (.inl (k, n, .inr (.inr (va_up f i.toNatClampNeg none)))))) : ev_W G M X bc bs pc ls (.null :: .int i :: .ref r :: st) w := by
  obtain ⟨hx, hb, hm, ho, ht, hT, hi, hz, hzs, hdf, hdl, hlk⟩ := hX
  intro H locs a cells slots hH hl hL hc hs
  have hA := (hT.1.2 k _ (ev_tys_at hk)).1
  refine va_WaastN (C := C) hx hb (hH.2.2.2 r _ hw) (hA n (fun j => va_rf ((f j).map (ev_rho G)))) (fun q => by cases q) (by show ¬ (i < 0 ∨ (arrV _ _ _).slots.size ≤ _); rw [arrV_size]; exact hin) rfl rfl hd fun H1 e z oq => ?_
  refine kk H1 _ a cells slots (hH.set hi hr ?_ z oq) (ev_locs hl hr) hL hc hs
  show H1[_]? = some (arrV (G.2.2.1 k) n (fun j => va_rf ((va_up f i.toNatClampNeg none j).map (ev_rho G))))
  rw [e]
  show some ((arrV (G.2.2.1 k) n (fun j => va_rf ((f j).map (ev_rho G)))).setSlot i.toNatClampNeg (.null)) = _
  rw [arrV_store]
  congr 2
  funext q
  by_cases hq : q = i.toNatClampNeg
  · subst hq; simp [updV, va_up, va_rf]
  · simp [updV, va_up, hq]
theorem r_aast (hX : ev_C G M d X) {k n r v ci : Nat} {cq : vw_C} {vs : List Value} {f : Nat → Option Nat} {i : Int32} (hd : decode M.2.2.1 pc = .ok (.aastore, 1)) (hw : w.2 r = some (.inl (k, n, .inr (.inr f)))) (hr : 100 ≤ r) (hv : w.2 v = some (.inr (ci, vs))) (hcq : vwCl[ci]? = some cq) (hk : ev_arrs[k]? = some (.object cq.1)) (hin : vp_in i n) (kk : ev_W G M X bc bs (pc + 1) ls st (ev_set w r (.inl (k, n, .inr (.inr (va_up f i.toNatClampNeg (some v))))))) : ev_W G M X bc bs pc ls (.ref v :: .int i :: .ref r :: st) w := by
  obtain ⟨hx, hb, hm, ho, ht, hT, hi, hz, hzs, hdf, hdl, hlk⟩ := hX
  intro H locs a cells slots hH hl hL hc hs
  have hlt : i.toNatClampNeg < n := Nat.not_le.mp fun q => hin (Or.inr q)
  have h0 : ¬ i < 0 := fun q => hin (Or.inl q)
  obtain ⟨r', hr', cellV, g1, g2, g3, -⟩ := hH.2.2.2 v _ hv
  have hcls := (hT.1.1 ci cq hcq).2
  obtain ⟨kA, comp, k1, k2, k3, -⟩ := (hT.1.2 k _ (ev_tys_at hk)).2
  have hcomp : comp = G.2.1.1 ci := Option.some.inj (k3.symm.trans hcls.1)
  subst hcomp
  obtain ⟨kC, hkC, -⟩ := hcls.2
  refine W.aast hx hb (hH.2.2.2 r _ hw) (fun q h => by cases h) (fun h => by cases h) k1 k2 rfl hkC ⟨h0, by show _ < (arrV _ _ _).slots.size; rw [arrV_size]; exact hlt⟩ g1 (fun q h => by rw [g3] at h; cases h) (by rw [g2]; exact hkC) (by rw [g2]; exact va_assign hcls) rfl rfl hd fun H1 e z oq => ?_
  refine kk H1 _ a cells slots (hH.set hi hr ?_ z oq) (ev_locs hl hr) hL hc hs
  show H1[_]? = some (arrV (G.2.2.1 k) n (fun j => va_rf ((va_up f i.toNatClampNeg (some v) j).map (ev_rho G))))
  rw [e]
  show some ((arrV (G.2.2.1 k) n (fun j => va_rf ((f j).map (ev_rho G)))).setSlot i.toNatClampNeg (.ref (ev_rho G v))) = _
  rw [arrV_store]
  congr 2
  funext q
  by_cases hq : q = i.toNatClampNeg
  · subst hq; simp [updV, va_up, va_rf]
  · simp [updV, va_up, hq]
/-- a new array of a primitive type -/
theorem r_newa {bc' bs' : Nat} (hX : ev_C G M d X) {at_ : ArrayType} {k N : Nat} {ty : FieldType} {n : Int32} {e0 : (Nat → Int32) ⊕ (Nat → Int64) ⊕ (Nat → Option Nat)} (hd : decode M.2.2.1 pc = .ok (.newarray at_, 2)) (hty : newarray.typeOf at_ = ty) (hAr : Cond.arrayClass ty ∈ ev_tbl) (hk : ev_arrs[k]? = some ty) (hp : ty.isReference = false)
    (he : ∀ G : Ev_G, ev_cnv G (.inl (k, N, e0)) = .inl (G.2.2.1 k, N, (ev_cnv G (.inl (k, N, e0))).elim (fun q => q.2.2) (fun _ => .inl (fun _ => 0))) ∧ vp_cell (G.2.2.1 k) (N, (ev_cnv G (.inl (k, N, e0))).elim (fun q => q.2.2) (fun _ => .inl (fun _ => 0))) = arrV (G.2.2.1 k) N (fun _ => defaultValue ty))
    (hn : ¬ n < 0) (hN : n.toNatClampNeg = N) (hby : N * componentBytes ty ≤ 536870912) (hc1 : 1 + bc' ≤ bc) (hs1 : N + bs' ≤ bs) (kk : 100 ≤ w.1 → w.2 w.1 = none → ev_W G M X bc' bs' (pc + 2) ls (.ref w.1 :: st) (ev_new w (.inl (k, N, e0)))) : ev_W G M X bc bs pc ls (.int n :: st) w := by
  obtain ⟨hx, hb, hm, ho, ht, hT, hi, hz, hzs, hdf, hdl, hlk⟩ := hX
  intro H locs a cells slots hH hl hL hc hs
  subst hty
  refine va_newaK hx hb (ht _ hAr) rfl hd rfl hn hN hby (by omega) (by omega) rfl fun H1 cA e1 z1 o1 hA2 hNm => ?_
  have hRA := (hT.1.2 k _ (ev_tys_at hk)).2
  have hcA : cA = G.2.2.1 k := by
    have h5 : X.2.2.2.1.vm.findClass ("[" ++ (newarray.typeOf at_).toString) = some (G.2.2.1 k) := by
      revert hRA hp
      cases newarray.typeOf at_ <;> intro hp hRA <;> first | exact hRA | (simp [FieldType.isReference] at hp)
    exact Option.some.inj (hNm.symm.trans h5)
  subst hcA
  have h9 := kk hH.lo (hH.fresh hH.lo) H1 locs a (cells + 1) (slots + N) (hH.new (c := .inl (k, N, e0)) (by
    obtain ⟨q1, q2⟩ := he G
    rw [q1]
    show H1[_]? = some (vp_cell _ _)
    rw [q2]; exact e1) z1 o1) hl hL (by omega) (by omega)
  rw [List.map_cons, show ev_mv G (.ref w.1) = .ref H.size by show Value.ref _ = _; rw [ev_rho_next hH]] at h9
  exact h9
/-- a new array of references -/
theorem r_newq {bc' bs' : Nat} (hX : ev_C G M d X) {index k N : Nat} {C : String} {n : Int32} (hd : decode M.2.2.1 pc = .ok (.anewarray index, 3)) (hcl : Cond.classLink M.1 index C ∈ ev_tbl) (hov : C ∈ ev_over) (hk : ev_arrs[k]? = some (.object C)) (hn : ¬ n < 0) (hN : n.toNatClampNeg = N) (hby : N * 4 ≤ 536870912) (hc1 : 1 + bc' ≤ bc) (hs1 : N + bs' ≤ bs) (kk : 100 ≤ w.1 → w.2 w.1 = none → ev_W G M X bc' bs' (pc + 3) ls (.ref w.1 :: st) (ev_new w (.inl (k, N, .inr (.inr (fun _ => none)))))) : ev_W G M X bc bs pc ls (.int n :: st) w := by
  obtain ⟨hx, hb, hm, ho, ht, hT, hi, hz, hzs, hdf, hdl, hlk⟩ := hX
  intro H locs a cells slots hH hl hL hc hs
  subst hN
  refine W.anew hx hb ho (ht _ hcl) (va_AO.use (hT.2.2.2.2.2 C hov)) rfl hd rfl hn hby (by omega) (by omega) fun cA kA comp f1 f2 f3 f4 => ?_
  generalize hH1 : H.push ({ cls := cA, slots := Array.replicate n.toNatClampNeg .null, vm := .none } : Cell) = H1
  have z1 : H1.size = H.size + 1 := by rw [← hH1, Array.size_push]
  have e1 : H1[H.size]? = some (arrV cA n.toNatClampNeg (fun _ => .null)) := by rw [← hH1, Array.getElem?_push_size, ← arrV_new]
  have o1 : ∀ q : Nat, q < H.size → H1[q]? = H[q]? := fun q hq => by rw [← hH1, Array.getElem?_push, if_neg (Nat.ne_of_lt hq)]
  obtain ⟨kA', comp', k1, k2, k3, k4⟩ := (hT.1.2 k _ (ev_tys_at hk)).2
  have hcA : cA = G.2.2.1 k := Option.some.inj (f1.symm.trans k4)
  subst hcA
  have h9 := kk hH.lo (hH.fresh hH.lo) H1 locs a (cells + 1) (slots + n.toNatClampNeg) (hH.new (c := .inl (k, n.toNatClampNeg, .inr (.inr (fun _ => none)))) (by
    show H1[_]? = some (vp_cell _ _)
    rw [vp_cell_q]; exact e1) z1 o1) hl hL (by omega) (by omega)
  rw [List.map_cons, show ev_mv G (.ref w.1) = .ref H.size by show Value.ref _ = _; rw [ev_rho_next hH]] at h9
  exact h9
/-- a new object: the class that an instruction of own names -/
def ev_N (own : String) (index ci N : Nat) (fs : List Value) : Prop := ∃ (C : String) (T : u_T) (ty : Nat → FieldType), vwCl[ci]? = some (C, T, N) ∧ (∀ w ∈ u_ws C T N, w ∈ ev_tbl) ∧ (∀ k, k < N → parseFieldDescriptor (T k).2.2.1 = some (ty k)) ∧ Cond.classLink own index C ∈ ev_tbl ∧ Cond.instantiable C N ∈ ev_tbl ∧ Cond.initialized C ∈ ev_tbl ∧ (∀ j, j < N → defaultValue (ty j) = vp_V fs j) ∧ ∀ G : Ev_G, fs.map (ev_mv G) = fs
theorem r_new {bc' bs' : Nat} (hX : ev_C G M d X) {index ci N : Nat} {fs : List Value} (hd : decode M.2.2.1 pc = .ok (.new index, 3)) (hN : ev_N M.1 index ci N fs) (hc1 : 1 + bc' ≤ bc) (hs1 : N + bs' ≤ bs) (kk : 100 ≤ w.1 → w.2 w.1 = none → ev_W G M X bc' bs' (pc + 3) ls (.ref w.1 :: st) (ev_new w (.inr (ci, fs)))) : ev_W G M X bc bs pc ls st w := by
  obtain ⟨hx, hb, hm, ho, ht, hT, hi, hz, hzs, hdf, hdl, hlk⟩ := hX
  intro H locs a cells slots hH hl hL hc hs
  obtain ⟨C, T, ty, h1, h2, h3, h4, h5, h6, h7, h8⟩ := hN
  have hKn := hT.1.1 ci _ h1
  refine W.newcK hx hb ho (ht _ h4) (ht _ h5) (ht _ h6) rfl hd (by omega) (by omega) hKn.2.1 rfl fun H1 kC hkC e1 z1 o1 => ?_
  have h9 := kk hH.lo (hH.fresh hH.lo) H1 locs a (cells + 1) (slots + N) (hH.new (c := .inr (ci, fs)) (by
    refine ⟨_, h1, (u_born ty ht h2 hKn hkC e1 h3).to (fun j hj => ?_)⟩
    rw [h7 j hj]
    show _ = vp_V (fs.map (ev_mv G)) j
    rw [h8]) z1 o1) hl hL (by omega) (by omega)
  rw [List.map_cons, show ev_mv G (.ref w.1) = .ref H.size by show Value.ref _ = _; rw [ev_rho_next hH]] at h9
  exact h9
/-- statics: the enum's constants, and the array of them -/
theorem ev_S0 {H : Heap} {locs : List Loc} (hH : ev_H vwCl G w H) : ∀ q : Nat, q < G.2.2.2.2.size → ¬ ev_A G q → H[q]? = G.2.2.2.2[q]? := fun q h _ => hH.1 q h
theorem r_getsE (hX : ev_C G M d X) {index i : Nat} (hd : decode M.2.2.1 pc = .ok (.getstatic index, 3)) (hi17 : i < 17) (hl0 : Cond.fieldLink M.1 index "ElementFiles$Sort" (ev_nm.getD i "") "LElementFiles$Sort;" ∈ ev_tbl) (kk : ev_W G M X bc bs (pc + 3) ls (.ref i :: st) w) : ev_W G M X bc bs pc ls st w := by
  obtain ⟨hx, hb, hm, ho, ht, hT, hi, hz, hzs, hdf, hdl, hlk⟩ := hX
  intro H locs a cells slots hH hl hL hc hs
  obtain ⟨cf, kf, fi, f, a1, cell, h1, h2, h3, h4, h5, h6, h7, h8⟩ := (hT.2.1.1 i hi17).1
  refine W.gets hx hb ho (ht _ hl0) h1 h2 h3 h4 (by rw [hH.1 a1 (Array.getElem?_eq_some_iff.mp h5).1]; exact h5) (fun e => by rw [e] at h6; cases h6) h7 rfl hd ?_
  have h9 := kk H locs a cells slots hH hl hL hc hs
  rw [List.map_cons, show ev_mv G (.ref i) = .ref (G.2.2.2.1 i) by show Value.ref _ = _; rw [ev_rho, if_pos (by omega)]] at h9
  exact h9
theorem r_getsA (hX : ev_C G M d X) {index : Nat} (hd : decode M.2.2.1 pc = .ok (.getstatic index, 3)) (hl0 : Cond.fieldLink M.1 index "ElementFiles$Sort" "ALL" "[LElementFiles$Sort;" ∈ ev_tbl) (kk : ev_W G M X bc bs (pc + 3) ls (.ref 17 :: st) w) : ev_W G M X bc bs pc ls st w := by
  obtain ⟨hx, hb, hm, ho, ht, hT, hi, hz, hzs, hdf, hdl, hlk⟩ := hX
  intro H locs a cells slots hH hl hL hc hs
  obtain ⟨cf, kf, fi, f, a1, cell, h1, h2, h3, h4, h5, h6, h7, h8⟩ := hT.2.2.1
  refine W.gets hx hb ho (ht _ hl0) h1 h2 h3 h4 (by rw [hH.1 a1 (Array.getElem?_eq_some_iff.mp h5).1]; exact h5) (fun e => by rw [e] at h6; cases h6) h7 rfl hd ?_
  have h9 := kk H locs a cells slots hH hl hL hc hs
  rw [List.map_cons, show ev_mv G (.ref 17) = .ref (G.2.2.2.1 17) by show Value.ref _ = _; rw [ev_rho, if_pos (by omega)]] at h9
  exact h9
theorem r_getE (hX : ev_C G M d X) {index i : Nat} {q : String × String × String × List Int32} (hd : decode M.2.2.1 pc = .ok (.getfield index, 3)) (hi17 : i < 17) (hq : q ∈ ev_fl) (hl0 : Cond.fieldLink M.1 index q.1 q.2.1 q.2.2.1 ∈ ev_tbl) (kk : ev_W G M X bc bs (pc + 3) ls (.int (q.2.2.2.getD i 0) :: st) w) : ev_W G M X bc bs pc ls (.ref i :: st) w := by
  obtain ⟨hx, hb, hm, ho, ht, hT, hi, hz, hzs, hdf, hdl, hlk⟩ := hX
  intro H locs a cells slots hH hl hL hc hs
  obtain ⟨cf, k, fi, f, cell, h1, h2, h3, h4, h5, h6⟩ := (hT.2.1.1 i hi17).2.2 q hq
  refine W.getf hx hb ho (ht _ hl0) h1 h2 (a := ev_rho G i) (cell := cell) ?_ h4 (v := .int (q.2.2.2.getD i 0)) h5 rfl rfl hd (kk H locs a cells slots hH hl hL hc hs)
  rw [ev_rho, if_pos (by omega), hH.1 _ (Array.getElem?_eq_some_iff.mp h3).1]
  exact h3
theorem r_aaldA (hX : ev_C G M d X) {i : Int32} (hd : decode M.2.2.1 pc = .ok (.aaload, 1)) (hin : vp_in i 17) (kk : ev_W G M X bc bs (pc + 1) ls (.ref i.toNatClampNeg :: st) w) : ev_W G M X bc bs pc ls (.int i :: .ref 17 :: st) w := by
  obtain ⟨hx, hb, hm, ho, ht, hT, hi, hz, hzs, hdf, hdl, hlk⟩ := hX
  intro H locs a cells slots hH hl hL hc hs
  have hlt : i.toNatClampNeg < 17 := Nat.not_le.mp fun q => hin (Or.inr q)
  obtain ⟨cell, h1, h2, h3, h4, h5, h6, h7⟩ := hT.2.2.2.1
  refine W.aald (v := .ref (G.2.2.2.1 i.toNatClampNeg)) (ty := .object "ElementFiles$Sort") (a := ev_rho G 17) (cell := cell) hx hb ?_ h2 rfl h3 (fun q => hin (q.imp_right (fun z => Nat.le_trans h4 z))) (h6 _ hlt) rfl rfl hd ?_
  · rw [ev_rho, if_pos (by omega), hH.1 _ (Array.getElem?_eq_some_iff.mp h1).1]
    exact h1
  · have h9 := kk H locs a cells slots hH hl hL hc hs
    rw [List.map_cons, show ev_mv G (.ref i.toNatClampNeg) = .ref (G.2.2.2.1 i.toNatClampNeg) by show Value.ref _ = _; rw [ev_rho, if_pos (by omega)]] at h9
    exact h9
theorem r_alenA (hX : ev_C G M d X) (hd : decode M.2.2.1 pc = .ok (.arraylength, 1)) (kk : ev_W G M X bc bs (pc + 1) ls (.int 17 :: st) w) : ev_W G M X bc bs pc ls (.ref 17 :: st) w := by
  obtain ⟨hx, hb, hm, ho, ht, hT, hi, hz, hzs, hdf, hdl, hlk⟩ := hX
  intro H locs a cells slots hH hl hL hc hs
  obtain ⟨cell, h1, h2, h3, h4, h5, h6, h7⟩ := hT.2.2.2.1
  refine W.alen (n := 17) (ty := .object "ElementFiles$Sort") (a := ev_rho G 17) (cell := cell) hx hb ?_ h2 h5 rfl rfl hd (kk H locs a cells slots hH hl hL hc hs)
  rw [ev_rho, if_pos (by omega), hH.1 _ (Array.getElem?_eq_some_iff.mp h1).1]
  exact h1
/-! returns -/
variable {mc ms : Nat} {Q : Option Value → Ev_W → Prop}
theorem r_iret (hX : ev_C G M d X) (hR : ev_R G M mc ms Q X) {ty : FieldType} {v : Int32} (hd : decode M.2.2.1 pc = .ok (.ireturn, 1)) (hr : M.2.2.2.2 = some ty) (hn : narrow ty (.int v) = .int v) (hq : Q (some (.int v)) w) : ev_W G M X bc bs pc ls [.int v] w := by
  obtain ⟨hx, hb, hm, ho, ht, hT, hi, hz, hzs, hdf, hdl, hlk⟩ := hX
  obtain ⟨r1, r2, r3, r4, r5⟩ := hR
  intro H locs a cells slots hH hl hL hc hs
  rw [r1]
  refine W.widen (k := mc) (n := ms) (by omega) (by omega) ?_
  exact W.zret hx hb (r4.trans hr) hn (fun t h1 h2 => ⟨some (.int v), w, rfl, by rw [h1]; exact hH, hq⟩) hl hd hlk
theorem r_lret (hX : ev_C G M d X) (hR : ev_R G M mc ms Q X) {v : Int64} (hd : decode M.2.2.1 pc = .ok (.lreturn, 1)) (hr : M.2.2.2.2 = some .long) (hq : Q (some (.long v)) w) : ev_W G M X bc bs pc ls [.long v] w := by
  obtain ⟨hx, hb, hm, ho, ht, hT, hi, hz, hzs, hdf, hdl, hlk⟩ := hX
  obtain ⟨r1, r2, r3, r4, r5⟩ := hR
  intro H locs a cells slots hH hl hL hc hs
  rw [r1]
  refine W.widen (k := mc) (n := ms) (by omega) (by omega) ?_
  exact W.lret hx hb (r4.trans hr) (fun t h1 h2 => ⟨some (.long v), w, rfl, by rw [h1]; exact hH, hq⟩) hl hd hlk
theorem r_aret (hX : ev_C G M d X) (hR : ev_R G M mc ms Q X) {rt : FieldType} {o : Option Nat} (hd : decode M.2.2.1 pc = .ok (.areturn, 1)) (hr : M.2.2.2.2 = some rt) (hrt : (∃ n, rt = .object n) ∨ ∃ t, rt = .array t) (hq : Q (some (va_rf o)) w) : ev_W G M X bc bs pc ls [va_rf o] w := by
  obtain ⟨hx, hb, hm, ho, ht, hT, hi, hz, hzs, hdf, hdl, hlk⟩ := hX
  obtain ⟨r1, r2, r3, r4, r5⟩ := hR
  intro H locs a cells slots hH hl hL hc hs
  rw [r1]
  refine W.widen (k := mc) (n := ms) (by omega) (by omega) ?_
  exact W.aret hx hb (r4.trans hr) hrt (v := ev_mv G (va_rf o)) (by rw [ev_mv_rf]; exact va_rf_or _) (fun t h1 h2 => ⟨some (va_rf o), w, rfl, by rw [h1]; exact hH, hq⟩) hl hd hlk
theorem r_vret (hX : ev_C G M d X) (hR : ev_R G M mc ms Q X) (hd : decode M.2.2.1 pc = .ok (.return_, 1)) (hr : M.2.2.2.2 = none) (hq : Q none w) : ev_W G M X bc bs pc ls [] w := by
  obtain ⟨hx, hb, hm, ho, ht, hT, hi, hz, hzs, hdf, hdl, hlk⟩ := hX
  obtain ⟨r1, r2, r3, r4, r5⟩ := hR
  intro H locs a cells slots hH hl hL hc hs
  rw [r1]
  refine W.widen (k := mc) (n := ms) (by omega) (by omega) ?_
  exact W.vret hx hb (r4.trans hr) (fun t h1 h2 => ⟨none, w, rfl, by rw [h1]; exact hH, hq⟩) hl hd hlk
/-! calls -/
variable {N : Ev_M} {d' : Nat} {as rest : List Value}
theorem ev_blind {as : List Value} {w : Ev_W} : FrameBlind (va_Pc (as.map (ev_mv G)) (fun U => ev_H vwCl G w U.heap ∧ ev_T G U ∧ ev_inj G)) := fun a U g mk q => ⟨q.1, q.2.1, ev_T.same (u := U) (U := U.calling g mk a) rfl q.2.2.1, q.2.2.2⟩
theorem ev_goodT (hM : ev_MD N) : GoodIn ev_tbl (ev_ws N) := fun w hw => by
  rcases List.mem_cons.mp hw with h | h
  · subst h; exact ⟨hM.2.2.1, ev_tbl_ok hM.2.2.1⟩
  · exact ⟨h, ev_tbl_ok h⟩
theorem ev_rmR (hX : ev_C G M d X) (hM : ev_MD N) (hdd : d' < d) : (ev_rm d' mc ms).frames + 1 ≤ X.2.2.1.frames ∧ 8 + (N.2.2.2.1 + 11) + (ev_rm d' mc ms).locals ≤ X.2.2.1.locals := by
  obtain ⟨hx, hb, hm, ho, ht, hT, hi, hz, hzs, hdf, hdl, hlk⟩ := hX
  have h4 := hM.2.2.2
  refine ⟨by show d' + 1 ≤ _; omega, ?_⟩
  show 8 + (N.2.2.2.1 + 11) + d' * 38 ≤ _
  have : (d' + 1) * 38 ≤ d * 38 := Nat.mul_le_mul_right _ hdd
  omega
theorem ev_back {bc' bs' : Nat} {H : Heap} {locs : List Loc} {a : Array Slot} {cells slots : Nat} {st0 : List Value} {aa : Array Value}
    (hr : va_Run X.1 G.1 X.2.1 X.2.2.1 X.2.2.2.1 X.2.2.2.2.1 X.2.2.2.2.2.1 X.2.2.2.2.2.2.1 X.2.2.2.2.2.2.2.1 X.2.2.2.2.2.2.2.2.1 H locs cells slots mc ms (F0 X.2.2.2.2.1 pc a st0) (rest.map (ev_mv G)) (ev_Q G Q aa) (fun q => G.2.2.2.2.size ≤ q))
    (hl : ∀ q ∈ locs, G.2.2.2.2.size ≤ q.base) (hL : ev_L G M.2.2.2.1 ls a) (hc : cells + (mc + bc') ≤ X.2.2.1.cells) (hs : slots + (ms + bs') ≤ X.2.2.1.slots)
    (kk : ∀ (v : Option Value) (w' : Ev_W), Q v w' → ev_W G M X bc' bs' (pc + 3) ls (v.toList ++ rest) w') :
    W X.1 G.1 X.2.1 X.2.2.1 X.2.2.2.1 X.2.2.2.2.1 X.2.2.2.2.2.1 X.2.2.2.2.2.2.1 X.2.2.2.2.2.2.2.1 X.2.2.2.2.2.2.2.2.1 H locs cells slots X.2.2.2.2.2.2.2.2.2 (F0 X.2.2.2.2.1 pc a st0) := by
  intro T hT X0
  obtain ⟨v, st₀, t, T', L, h0, X', hL', e1, e2, ⟨v', w', ev, hH', hq⟩, stp⟩ := hr T hT X0
  have ev' : v = v'.map (ev_mv G) := Outcome.returned.inj ev
  subst ev'
  have h9 := kk v' w' hq T'.heap (locs ++ L) a (cells + mc) (slots + ms) (by rw [e1]; exact hH') (fun q hq' => by
    rcases List.mem_append.mp hq' with h | h
    · exact hl q h
    · exact hL' q h) hL (by omega) (by omega)
  obtain ⟨t2, a1, b1⟩ := h9 T' rfl X'
  refine ⟨t2, stp t2 ?_, b1⟩
  rw [List.map_append] at a1
  cases v' with
  | none => exact a1
  | some z => exact a1
/-- what a call of an instance method needs -/
def ev_LV (own : String) (index : Nat) (N : Ev_M) (n : Nat) : Prop := ev_MD N ∧ Cond.methodLink own index N.2.1 ∈ ev_tbl ∧ Cond.instanceMethod N.2.1 ∈ ev_tbl ∧ Cond.selects N.1 N.2.1 N.2.1 ∈ ev_tbl ∧ Cond.initialized N.1 ∈ ev_tbl ∧ N.2.1.cls ≠ "java/lang/invoke/MethodHandle" ∧ N.2.1.cls ≠ "java/lang/invoke/VarHandle" ∧ (parseMethodDescriptor N.2.1.desc).map (fun d => d.parameters.length) = some n
theorem r_callV (hX : ev_C G M d X) {index ci b n : Nat} {fs : List Value} (hd : decode M.2.2.1 pc = .ok (.invokevirtual index, 3)) (hLk : ev_LV M.1 index N n) (hw : w.2 b = some (.inr (ci, fs))) (hci : (vwCl[ci]?).map (fun q => q.1) = some N.1) (hn : as.length = n) (hro : (rest.map fun v => v.category).sum ≤ 8) (hdd : d' < d) (bc' bs' : Nat) (hc1 : mc + bc' ≤ bc) (hs1 : ms + bs' ≤ bs)
    (hM : ev_Met G N d' mc ms (.ref b :: as) w Q) (kk : ∀ (v : Option Value) (w' : Ev_W), Q v w' → ev_W G M X bc' bs' (pc + 3) ls (v.toList ++ rest) w') : ev_W G M X bc bs pc ls (as.reverse ++ .ref b :: rest) w := by
  have hX0 := hX
  obtain ⟨hx, hb, hm, ho, ht, hT, hi, hz, hzs, hdf, hdl, hlk⟩ := hX
  intro H locs a cells slots hH hl hL hc hs
  obtain ⟨k1, k2, k3, k4, k5, k6, k7, k8⟩ := hLk
  obtain ⟨cq, hcq, hcn⟩ : ∃ q, vwCl[ci]? = some q ∧ q.1 = N.1 := by
    cases h : vwCl[ci]? with
    | none => rw [h] at hci; cases hci
    | some q => rw [h] at hci; exact ⟨q, rfl, Option.some.inj hci⟩
  have hrec := va_recv (q0 := 0) hT.1 (ev_one (hH.2.2.2 b _ hw)) hcq rfl
  rw [hcn] at hrec
  refine ev_back (bc' := bc') (bs' := bs') (va_runV (As := as.map (ev_mv G)) (rest := rest.map (ev_mv G)) (b := ev_rho G b) (C := N.1) ⟨hx, hb, hm, ho, ht⟩ hM (cwV n ht (ws' := ev_tbl) (fun w hw => ?_) rfl rfl rfl ⟨k1.2.1, k6, k7, k8⟩ (ev_rmR hX0 k1 hdd)) ⟨ev_blind, hrec, fun U hU hW => ⟨rfl, by rw [hU]; exact hH, hT.warm hW, hi⟩⟩ rfl (by rw [List.length_map]; exact hn) hL.1 (by simp [ev_mv]) (lv_room (by rw [List.map_map]; simpa [Function.comp_def, ev_mv_cat] using hro)) hd ⟨by omega, by omega⟩) hl hL (by omega) (by omega) kk
  unfold wsV at hw
  rcases List.mem_append.mp hw with h | h
  · have h2 : w ∈ ev_tbl := by
      simp only [List.mem_cons, List.not_mem_nil, or_false] at h
      rcases h with h | h | h | h <;> (rw [h]; assumption)
    exact ⟨h2, ev_tbl_ok h2⟩
  · exact ev_goodT k1 w h
def ev_LS (own : String) (index : Nat) (N : Ev_M) (n : Nat) : Prop := ev_MD N ∧ Cond.methodLink own index N.2.1 ∈ ev_tbl ∧ Cond.static N.2.1 ∈ ev_tbl ∧ Cond.initialized N.2.1.cls ∈ ev_tbl ∧ N.2.1.cls ≠ "java/lang/invoke/MethodHandle" ∧ N.2.1.cls ≠ "java/lang/invoke/VarHandle" ∧ (parseMethodDescriptor N.2.1.desc).map (fun d => d.parameters.length) = some n
theorem r_callS (hX : ev_C G M d X) {index n : Nat} (hd : decode M.2.2.1 pc = .ok (.invokestatic index, 3)) (hLk : ev_LS M.1 index N n) (hn : as.length = n) (hro : (rest.map fun v => v.category).sum ≤ 8) (hdd : d' < d) (bc' bs' : Nat) (hc1 : mc + bc' ≤ bc) (hs1 : ms + bs' ≤ bs)
    (hM : ev_Met G N d' mc ms as w Q) (kk : ∀ (v : Option Value) (w' : Ev_W), Q v w' → ev_W G M X bc' bs' (pc + 3) ls (v.toList ++ rest) w') : ev_W G M X bc bs pc ls (as.reverse ++ rest) w := by
  have hX0 := hX
  obtain ⟨hx, hb, hm, ho, ht, hT, hi, hz, hzs, hdf, hdl, hlk⟩ := hX
  intro H locs a cells slots hH hl hL hc hs
  obtain ⟨k1, k2, k3, k5, k6, k7, k8⟩ := hLk
  refine ev_back (bc' := bc') (bs' := bs') (va_runS (As := as.map (ev_mv G)) (rest := rest.map (ev_mv G)) ⟨hx, hb, hm, ho, ht⟩ hM (va_cwS n ht (ws' := ev_tbl) (fun w hw => ?_) rfl rfl rfl ⟨k6, k7, k8⟩ (ev_rmR hX0 k1 hdd)) ⟨ev_blind, fun U hU hW => ⟨rfl, by rw [hU]; exact hH, hT.warm hW, hi⟩⟩ rfl (by rw [List.length_map]; exact hn) hL.1 (by simp) (lv_room (by rw [List.map_map]; simpa [Function.comp_def, ev_mv_cat] using hro)) hd ⟨by omega, by omega⟩) hl hL (by omega) (by omega) kk
  unfold va_wsS at hw
  rcases List.mem_append.mp hw with h | h
  · have h2 : w ∈ ev_tbl := by
      simp only [List.mem_cons, List.not_mem_nil, or_false] at h
      rcases h with h | h | h <;> (rw [h]; assumption)
    exact ⟨h2, ev_tbl_ok h2⟩
  · exact ev_goodT k1 w h
def ev_LI (own : String) (index : Nat) (N : Ev_M) (n : Nat) : Prop := ev_MD N ∧ N.2.2.2.2 = none ∧ Cond.methodLink own index N.2.1 ∈ ev_tbl ∧ Cond.instanceMethod N.2.1 ∈ ev_tbl ∧ Cond.initialized N.2.1.cls ∈ ev_tbl ∧ N.2.1.name = "<init>" ∧ N.2.1.cls ≠ "java/lang/invoke/MethodHandle" ∧ N.2.1.cls ≠ "java/lang/invoke/VarHandle" ∧ (parseMethodDescriptor N.2.1.desc).map (fun d => d.parameters.length) = some n
theorem r_callI (hX : ev_C G M d X) {index b n : Nat} (hd : decode M.2.2.1 pc = .ok (.invokespecial index, 3)) (hLk : ev_LI M.1 index N n) (hn : as.length = n) (hro : (rest.map fun v => v.category).sum ≤ 8) (hdd : d' < d) (bc' bs' : Nat) (hc1 : mc + bc' ≤ bc) (hs1 : ms + bs' ≤ bs)
    (hM : ev_Met G N d' mc ms (.ref b :: as) w Q) (kk : ∀ (v : Option Value) (w' : Ev_W), Q v w' → ev_W G M X bc' bs' (pc + 3) ls (v.toList ++ rest) w') : ev_W G M X bc bs pc ls (as.reverse ++ .ref b :: rest) w := by
  have hX0 := hX
  obtain ⟨hx, hb, hm, ho, ht, hT, hi, hz, hzs, hdf, hdl, hlk⟩ := hX
  intro H locs a cells slots hH hl hL hc hs
  obtain ⟨k1, k9, k2, k3, k5, k4, k6, k7, k8⟩ := hLk
  have hws : ev_ws N = Cond.code N.2.1 N.2.2.1 N.2.2.2.1 none :: ev_tbl := by unfold ev_ws; rw [k9]
  exact ev_back (bc' := bc') (bs' := bs') (va_runI (As := as.map (ev_mv G)) (rest := rest.map (ev_mv G)) (b := ev_rho G b) ⟨hx, hb, hm, ho, ht⟩ hM (cwI n ht (ev_goodT k1) hws rfl rfl (ht _ k5) (ht _ k2) (ht _ k3) k4 ⟨k6, k7, k8⟩ (ev_rmR hX0 k1 hdd)) ⟨ev_blind, fun U hU hW => ⟨rfl, by rw [hU]; exact hH, hT.warm hW, hi⟩⟩ rfl (by rw [List.length_map]; exact hn) hL.1 (by simp [ev_mv]) (lv_room (by rw [List.map_map]; simpa [Function.comp_def, ev_mv_cat] using hro)) hd ⟨by omega, by omega⟩) hl hL (by omega) (by omega) kk
/-- calls of a nest mate's private methods -/
def ev_LSN (own : String) (index : Nat) (host : String) (N : Ev_M) (n : Nat) : Prop := ev_MD N ∧ Cond.methodLinkNest own index N.2.1 host ∈ ev_nest ∧ Cond.static N.2.1 ∈ ev_tbl ∧ Cond.initialized N.2.1.cls ∈ ev_tbl ∧ N.2.1.cls ≠ "java/lang/invoke/MethodHandle" ∧ N.2.1.cls ≠ "java/lang/invoke/VarHandle" ∧ (parseMethodDescriptor N.2.1.desc).map (fun d => d.parameters.length) = some n
theorem r_callSN (hX : ev_C G M d X) {index n : Nat} {host : String} (hd : decode M.2.2.1 pc = .ok (.invokestatic index, 3)) (hLk : ev_LSN M.1 index host N n) (hn : as.length = n) (hro : (rest.map fun v => v.category).sum ≤ 8) (hdd : d' < d) (bc' bs' : Nat) (hc1 : mc + bc' ≤ bc) (hs1 : ms + bs' ≤ bs)
    (hM : ev_Met G N d' mc ms as w Q) (kk : ∀ (v : Option Value) (w' : Ev_W), Q v w' → ev_W G M X bc' bs' (pc + 3) ls (v.toList ++ rest) w') : ev_W G M X bc bs pc ls (as.reverse ++ rest) w := by
  have hX0 := hX
  obtain ⟨hx, hb, hm, ho, ht, hT, hi, hz, hzs, hdf, hdl, hlk⟩ := hX
  intro H locs a cells slots hH hl hL hc hs
  obtain ⟨k1, k2, k3, k5, k6, k7, k8⟩ := hLk
  exact ev_back (bc' := bc') (bs' := bs') (va_runSN (As := as.map (ev_mv G)) (rest := rest.map (ev_mv G)) ⟨hx, hb, hm, ho, ht⟩ hM ⟨va_cnB n ht (ev_goodT k1) rfl rfl rfl (hT.2.2.2.2.1 _ k2) (ht _ k5) ⟨k6, k7, k8⟩ (ev_rmR hX0 k1 hdd), ht _ k3, trivial⟩ ⟨ev_blind, fun U hU hW => ⟨rfl, by rw [hU]; exact hH, hT.warm hW, hi⟩⟩ rfl (by rw [List.length_map]; exact hn) hL.1 (by simp) (lv_room (by rw [List.map_map]; simpa [Function.comp_def, ev_mv_cat] using hro)) hd ⟨by omega, by omega⟩) hl hL (by omega) (by omega) kk
def ev_LIN (own : String) (index : Nat) (host : String) (N : Ev_M) (n : Nat) : Prop := ev_MD N ∧ N.2.2.2.2 = none ∧ Cond.methodLinkNest own index N.2.1 host ∈ ev_nest ∧ Cond.instanceMethod N.2.1 ∈ ev_tbl ∧ Cond.initialized N.2.1.cls ∈ ev_tbl ∧ N.2.1.name = "<init>" ∧ N.2.1.cls ≠ "java/lang/invoke/MethodHandle" ∧ N.2.1.cls ≠ "java/lang/invoke/VarHandle" ∧ (parseMethodDescriptor N.2.1.desc).map (fun d => d.parameters.length) = some n
theorem r_callIN (hX : ev_C G M d X) {index b n : Nat} {host : String} (hd : decode M.2.2.1 pc = .ok (.invokespecial index, 3)) (hLk : ev_LIN M.1 index host N n) (hn : as.length = n) (hro : (rest.map fun v => v.category).sum ≤ 8) (hdd : d' < d) (bc' bs' : Nat) (hc1 : mc + bc' ≤ bc) (hs1 : ms + bs' ≤ bs)
    (hM : ev_Met G N d' mc ms (.ref b :: as) w Q) (kk : ∀ (v : Option Value) (w' : Ev_W), Q v w' → ev_W G M X bc' bs' (pc + 3) ls (v.toList ++ rest) w') : ev_W G M X bc bs pc ls (as.reverse ++ .ref b :: rest) w := by
  have hX0 := hX
  obtain ⟨hx, hb, hm, ho, ht, hT, hi, hz, hzs, hdf, hdl, hlk⟩ := hX
  intro H locs a cells slots hH hl hL hc hs
  obtain ⟨k1, k9, k2, k3, k5, k4, k6, k7, k8⟩ := hLk
  have hws : ev_ws N = Cond.code N.2.1 N.2.2.1 N.2.2.2.1 none :: ev_tbl := by unfold ev_ws; rw [k9]
  exact ev_back (bc' := bc') (bs' := bs') (va_runIN (As := as.map (ev_mv G)) (rest := rest.map (ev_mv G)) (b := ev_rho G b) ⟨hx, hb, hm, ho, ht⟩ hM ⟨va_cnB n ht (ev_goodT k1) hws rfl rfl (hT.2.2.2.2.1 _ k2) (ht _ k5) ⟨k6, k7, k8⟩ (ev_rmR hX0 k1 hdd), k4, ht _ k3⟩ ⟨ev_blind, fun U hU hW => ⟨rfl, by rw [hU]; exact hH, hT.warm hW, hi⟩⟩ rfl (by rw [List.length_map]; exact hn) hL.1 (by simp [ev_mv]) (lv_room (by rw [List.map_map]; simpa [Function.comp_def, ev_mv_cat] using hro)) hd ⟨by omega, by omega⟩) hl hL (by omega) (by omega) kk
/-- a method of one of the enum's constants -/
theorem r_callVE (hX : ev_C G M d X) {index b n : Nat} (hd : decode M.2.2.1 pc = .ok (.invokevirtual index, 3)) (hLk : ev_LV M.1 index N n) (hb17 : b < 17) (hci : N.1 = "ElementFiles$Sort") (hn : as.length = n) (hro : (rest.map fun v => v.category).sum ≤ 8) (hdd : d' < d) (bc' bs' : Nat) (hc1 : mc + bc' ≤ bc) (hs1 : ms + bs' ≤ bs)
    (hM : ev_Met G N d' mc ms (.ref b :: as) w Q) (kk : ∀ (v : Option Value) (w' : Ev_W), Q v w' → ev_W G M X bc' bs' (pc + 3) ls (v.toList ++ rest) w') : ev_W G M X bc bs pc ls (as.reverse ++ .ref b :: rest) w := by
  have hX0 := hX
  obtain ⟨hx, hb, hm, ho, ht, hT, hi, hz, hzs, hdf, hdl, hlk⟩ := hX
  intro H locs a cells slots hH hl hL hc hs
  obtain ⟨k1, k2, k3, k4, k5, k6, k7, k8⟩ := hLk
  obtain ⟨cell, g1, g2, g3, -⟩ := (hT.2.1.1 b hb17).2.1
  have hrec : ∃ cell : Cell, H[ev_rho G b]? = some cell ∧ cell.vm.isStatics = false ∧ X.2.2.2.1.vm.findClass N.1 = some cell.cls := by
    refine ⟨cell, ?_, g2, by rw [hci]; exact g3⟩
    rw [ev_rho, if_pos (by omega), hH.1 _ (Array.getElem?_eq_some_iff.mp g1).1]
    exact g1
  refine ev_back (bc' := bc') (bs' := bs') (va_runV (As := as.map (ev_mv G)) (rest := rest.map (ev_mv G)) (b := ev_rho G b) (C := N.1) ⟨hx, hb, hm, ho, ht⟩ hM (cwV n ht (ws' := ev_tbl) (fun w hw => ?_) rfl rfl rfl ⟨k1.2.1, k6, k7, k8⟩ (ev_rmR hX0 k1 hdd)) ⟨ev_blind, hrec, fun U hU hW => ⟨rfl, by rw [hU]; exact hH, hT.warm hW, hi⟩⟩ rfl (by rw [List.length_map]; exact hn) hL.1 (by simp [ev_mv]) (lv_room (by rw [List.map_map]; simpa [Function.comp_def, ev_mv_cat] using hro)) hd ⟨by omega, by omega⟩) hl hL (by omega) (by omega) kk
  unfold wsV at hw
  rcases List.mem_append.mp hw with h | h
  · have h2 : w ∈ ev_tbl := by
      simp only [List.mem_cons, List.not_mem_nil, or_false] at h
      rcases h with h | h | h | h <;> (rw [h]; assumption)
    exact ⟨h2, ev_tbl_ok h2⟩
  · exact ev_goodT k1 w h
/-- Object.<init> -/
theorem r_objInit (hX : ev_C G M d X) {index r : Nat} (hd : decode M.2.2.1 pc = .ok (.invokespecial index, 3)) (h1 : Cond.methodLink M.1 index Lib.objectInit ∈ ev_tbl) (h2 : Cond.instanceMethod Lib.objectInit ∈ ev_tbl) (h3 : Cond.code Lib.objectInit ⟨#[0xb1]⟩ 1 none ∈ ev_tbl) (hdd : 0 < d) (hro : (st.map fun v => v.category).sum ≤ 8) (kk : ev_W G M X bc bs (pc + 3) ls st w) : ev_W G M X bc bs pc ls (.ref r :: st) w := by
  obtain ⟨hx, hb, hm, ho, ht, hT, hi, hz, hzs, hdf, hdl, hlk⟩ := hX
  intro H locs a cells slots hH hl hL hc hs
  refine W.objInit hx hb ho (ht _ h1) (ht _ h2) (ht _ h3) rfl (by show a.size = _; rw [hm]; exact hL.1) rfl hd (by omega) ?_ (kk H locs a cells slots hH hl hL hc hs)
  have h9 : ((st.map (ev_mv G)).map fun v => v.category).sum ≤ 8 := by rw [List.map_map]; simpa [Function.comp_def, ev_mv_cat] using hro
  have h8 : 2 * (F0 X.2.2.2.2.1 pc a (ev_mv G (.ref r) :: st.map (ev_mv G))).monitorRoom + ((st.map (ev_mv G)).map fun v => v.category).sum ≤ 8 := lv_room h9
  have h7 : 38 ≤ d * 38 := by omega
  show 2 * (F0 X.2.2.2.2.1 pc a (ev_mv G (.ref r) :: st.map (ev_mv G))).monitorRoom + ((st.map (ev_mv G)).map fun v => v.category).sum + 12 ≤ X.2.2.1.locals
  omega
end EvH
end
section
abbrev M_EF_init : Ev_M := (R_EF, ⟨"ElementFiles", "<init>", "()V"⟩, prog_1_method_1_code, 1, none)
abbrev M_EF_feed : Ev_M := (R_EF, ⟨"ElementFiles", "feed", "(JI)I"⟩, prog_1_method_2_code, 4, (some .int))
abbrev M_EF_take : Ev_M := (R_EF, ⟨"ElementFiles", "take", "(Z)I"⟩, prog_1_method_3_code, 3, (some .int))
abbrev M_EF_out : Ev_M := (R_EF, ⟨"ElementFiles", "out", "(I)I"⟩, prog_1_method_4_code, 2, (some .int))
abbrev M_EF_read : Ev_M := (R_EF, ⟨"ElementFiles", "read", "()I"⟩, prog_1_method_5_code, 1, (some .int))
abbrev M_EF_where : Ev_M := (R_EF, ⟨"ElementFiles", "where", "()I"⟩, prog_1_method_6_code, 1, (some .int))
abbrev M_EF_clear : Ev_M := (R_EF, ⟨"ElementFiles", "clear", "()V"⟩, prog_1_method_7_code, 1, none)
abbrev M_EF_make : Ev_M := (R_EF, ⟨"ElementFiles", "make", "(IIJ)I"⟩, prog_1_method_8_code, 8, (some .int))
abbrev M_EF_letter : Ev_M := (R_EF, ⟨"ElementFiles", "letter", "(IC)I"⟩, prog_1_method_9_code, 4, (some .int))
abbrev M_EF_frame : Ev_M := (R_EF, ⟨"ElementFiles", "frame", "(II)I"⟩, prog_1_method_10_code, 3, (some .int))
abbrev M_EF_block : Ev_M := (R_EF, ⟨"ElementFiles", "block", "(IIIZI)I"⟩, prog_1_method_11_code, 8, (some .int))
abbrev M_EF_id : Ev_M := (R_EF, ⟨"ElementFiles", "id", "(I)I"⟩, prog_1_method_12_code, 3, (some .int))
abbrev M_EF_parent : Ev_M := (R_EF, ⟨"ElementFiles", "parent", "(I)I"⟩, prog_1_method_13_code, 3, (some .int))
abbrev M_EF_value : Ev_M := (R_EF, ⟨"ElementFiles", "value", "(I)J"⟩, prog_1_method_14_code, 3, (some .long))
abbrev M_EF_part : Ev_M := (R_EF, ⟨"ElementFiles", "part", "(II)I"⟩, prog_1_method_15_code, 4, (some .int))
abbrev M_EF_sample : Ev_M := (R_EF, ⟨"ElementFiles", "sample", "(III)I"⟩, prog_1_method_16_code, 7, (some .int))
abbrev M_EF_detail : Ev_M := (R_EF, ⟨"ElementFiles", "detail", "(II)I"⟩, prog_1_method_17_code, 4, (some .int))
abbrev M_EF_write : Ev_M := (R_EF, ⟨"ElementFiles", "write", "(Z)I"⟩, prog_1_method_18_code, 2, (some .int))
abbrev M_EF_index : Ev_M := (R_EF, ⟨"ElementFiles", "index", "(I)I"⟩, prog_1_method_19_code, 3, (some .int))
abbrev M_EF_seek : Ev_M := (R_EF, ⟨"ElementFiles", "seek", "(IIJ)I"⟩, prog_1_method_20_code, 6, (some .int))
abbrev M_EF_jump : Ev_M := (R_EF, ⟨"ElementFiles", "jump", "(IIJ)I"⟩, prog_1_method_21_code, 6, (some .int))
abbrev M_EF_segmentAt : Ev_M := (R_EF, ⟨"ElementFiles", "segmentAt", "(I)LElementFiles$Element;"⟩, prog_1_method_22_code, 3, (some (.object "ElementFiles$Element")))
abbrev M_EF_isLetter : Ev_M := (R_EF, ⟨"ElementFiles", "isLetter", "(I)Z"⟩, prog_1_method_23_code, 1, (some .boolean))
abbrev M_EF_vintLengthByFirst : Ev_M := (R_EF, ⟨"ElementFiles", "vintLengthByFirst", "(I)I"⟩, prog_1_method_24_code, 2, (some .int))
abbrev M_EF_allOnes : Ev_M := (R_EF, ⟨"ElementFiles", "allOnes", "(I)J"⟩, prog_1_method_25_code, 1, (some .long))
abbrev M_EF_surplus : Ev_M := (R_EF, ⟨"ElementFiles", "surplus", "(I)J"⟩, prog_1_method_26_code, 1, (some .long))
abbrev M_EF_shortestVintLength : Ev_M := (R_EF, ⟨"ElementFiles", "shortestVintLength", "(J)I"⟩, prog_1_method_27_code, 3, (some .int))
abbrev M_Ro_init : Ev_M := (R_Ro, ⟨"ElementFiles$Row", "<init>", "(I)V"⟩, prog_6_method_1_code, 2, none)
abbrev M_Ro_at : Ev_M := (R_Ro, ⟨"ElementFiles$Row", "at", "(I)I"⟩, prog_6_method_2_code, 2, (some .int))
abbrev M_Ro_change : Ev_M := (R_Ro, ⟨"ElementFiles$Row", "change", "(II)V"⟩, prog_6_method_3_code, 3, none)
abbrev M_Ro_put : Ev_M := (R_Ro, ⟨"ElementFiles$Row", "put", "(I)V"⟩, prog_6_method_4_code, 2, none)
abbrev M_Ro_putNumber : Ev_M := (R_Ro, ⟨"ElementFiles$Row", "putNumber", "(JI)V"⟩, prog_6_method_5_code, 5, none)
abbrev M_Ro_putVint : Ev_M := (R_Ro, ⟨"ElementFiles$Row", "putVint", "(JI)V"⟩, prog_6_method_6_code, 4, none)
abbrev M_Ro_sum : Ev_M := (R_Ro, ⟨"ElementFiles$Row", "sum", "(II)I"⟩, prog_6_method_7_code, 6, (some .int))
abbrev M_Fr_init : Ev_M := (R_Fr, ⟨"ElementFiles$Frames", "<init>", "()V"⟩, prog_4_method_1_code, 1, none)
abbrev M_Fr_add : Ev_M := (R_Fr, ⟨"ElementFiles$Frames", "add", "(II)Z"⟩, prog_4_method_2_code, 4, (some .boolean))
abbrev M_Fr_suit : Ev_M := (R_Fr, ⟨"ElementFiles$Frames", "suit", "(I)Z"⟩, prog_4_method_3_code, 2, (some .boolean))
abbrev M_Fr_areEven : Ev_M := (R_Fr, ⟨"ElementFiles$Frames", "areEven", "()Z"⟩, prog_4_method_4_code, 2, (some .boolean))
abbrev M_Fr_moveTo : Ev_M := (R_Fr, ⟨"ElementFiles$Frames", "moveTo", "(LElementFiles$Element;LElementFiles$Tree;)V"⟩, prog_4_method_5_code, 4, none)
abbrev M_El_init : Ev_M := (R_El, ⟨"ElementFiles$Element", "<init>", "()V"⟩, prog_2_method_1_code, 1, none)
abbrev M_El_begin : Ev_M := (R_El, ⟨"ElementFiles$Element", "begin", "(LElementFiles$Sort;ILElementFiles$Element;)V"⟩, prog_2_method_2_code, 4, none)
abbrev M_El_setDetails : Ev_M := (R_El, ⟨"ElementFiles$Element", "setDetails", "(IIZI)V"⟩, prog_2_method_3_code, 5, none)
abbrev M_El_addPart : Ev_M := (R_El, ⟨"ElementFiles$Element", "addPart", "(I)Z"⟩, prog_2_method_4_code, 2, (some .boolean))
abbrev M_El_partAt : Ev_M := (R_El, ⟨"ElementFiles$Element", "partAt", "(I)I"⟩, prog_2_method_5_code, 2, (some .int))
abbrev M_Tr_init : Ev_M := (R_Tr, ⟨"ElementFiles$Tree", "<init>", "()V"⟩, prog_8_method_1_code, 1, none)
abbrev M_Tr_empty : Ev_M := (R_Tr, ⟨"ElementFiles$Tree", "empty", "()V"⟩, prog_8_method_2_code, 1, none)
abbrev M_Tr_at : Ev_M := (R_Tr, ⟨"ElementFiles$Tree", "at", "(I)LElementFiles$Element;"⟩, prog_8_method_3_code, 2, (some (.object "ElementFiles$Element")))
abbrev M_Tr_endOf : Ev_M := (R_Tr, ⟨"ElementFiles$Tree", "endOf", "(LElementFiles$Element;)I"⟩, prog_8_method_4_code, 3, (some .int))
abbrev M_Tr_childrenOf : Ev_M := (R_Tr, ⟨"ElementFiles$Tree", "childrenOf", "(LElementFiles$Element;)I"⟩, prog_8_method_5_code, 5, (some .int))
abbrev M_Tr_childOf : Ev_M := (R_Tr, ⟨"ElementFiles$Tree", "childOf", "(LElementFiles$Element;I)I"⟩, prog_8_method_6_code, 6, (some .int))
abbrev M_Tr_mayStand : Ev_M := (R_Tr, ⟨"ElementFiles$Tree", "mayStand", "(LElementFiles$Sort;LElementFiles$Element;)Z"⟩, prog_8_method_7_code, 4, (some .boolean))
abbrev M_Tr_add : Ev_M := (R_Tr, ⟨"ElementFiles$Tree", "add", "(LElementFiles$Element;LElementFiles$Sort;I)LElementFiles$Element;"⟩, prog_8_method_8_code, 7, (some (.object "ElementFiles$Element")))
abbrev M_Tr_putInLine : Ev_M := (R_Tr, ⟨"ElementFiles$Tree", "putInLine", "(ILElementFiles$Element;)V"⟩, prog_8_method_9_code, 3, none)
abbrev M_Tr_weigh : Ev_M := (R_Tr, ⟨"ElementFiles$Tree", "weigh", "(LElementFiles$Element;LElementFiles$Sort;)I"⟩, prog_8_method_10_code, 7, (some .int))
abbrev M_Tr_takeOut : Ev_M := (R_Tr, ⟨"ElementFiles$Tree", "takeOut", "(LElementFiles$Element;LElementFiles$Sort;)V"⟩, prog_8_method_11_code, 9, none)
abbrev M_Tr_canStore : Ev_M := (R_Tr, ⟨"ElementFiles$Tree", "canStore", "(I)Z"⟩, prog_8_method_12_code, 2, (some .boolean))
abbrev M_Tr_beginStoring : Ev_M := (R_Tr, ⟨"ElementFiles$Tree", "beginStoring", "(LElementFiles$Element;)V"⟩, prog_8_method_13_code, 2, none)
abbrev M_Tr_storeFor : Ev_M := (R_Tr, ⟨"ElementFiles$Tree", "storeFor", "(LElementFiles$Element;I)V"⟩, prog_8_method_14_code, 3, none)
abbrev M_Tr_storedAt : Ev_M := (R_Tr, ⟨"ElementFiles$Tree", "storedAt", "(I)I"⟩, prog_8_method_15_code, 2, (some .int))
abbrev M_Re_init : Ev_M := (R_Re, ⟨"ElementFiles$Reader", "<init>", "(LElementFiles$Row;LElementFiles$Tree;)V"⟩, prog_5_method_1_code, 3, none)
abbrev M_Re_readTree : Ev_M := (R_Re, ⟨"ElementFiles$Reader", "readTree", "()I"⟩, prog_5_method_2_code, 4, (some .int))
abbrev M_Re_readTag : Ev_M := (R_Re, ⟨"ElementFiles$Reader", "readTag", "()I"⟩, prog_5_method_3_code, 4, (some .int))
abbrev M_Re_readSize : Ev_M := (R_Re, ⟨"ElementFiles$Reader", "readSize", "()I"⟩, prog_5_method_4_code, 6, (some .int))
abbrev M_Re_readData : Ev_M := (R_Re, ⟨"ElementFiles$Reader", "readData", "()I"⟩, prog_5_method_5_code, 3, (some .int))
abbrev M_Re_readText : Ev_M := (R_Re, ⟨"ElementFiles$Reader", "readText", "(LElementFiles$Element;)Z"⟩, prog_5_method_6_code, 5, (some .boolean))
abbrev M_Re_readCheck : Ev_M := (R_Re, ⟨"ElementFiles$Reader", "readCheck", "(LElementFiles$Element;)Z"⟩, prog_5_method_7_code, 4, (some .boolean))
abbrev M_Re_readBlockHead : Ev_M := (R_Re, ⟨"ElementFiles$Reader", "readBlockHead", "(LElementFiles$Element;)I"⟩, prog_5_method_8_code, 7, (some .int))
abbrev M_Re_shareEvenly : Ev_M := (R_Re, ⟨"ElementFiles$Reader", "shareEvenly", "(LElementFiles$Element;I)Z"⟩, prog_5_method_9_code, 4, (some .boolean))
abbrev M_Re_readSizes : Ev_M := (R_Re, ⟨"ElementFiles$Reader", "readSizes", "(LElementFiles$Element;I)Z"⟩, prog_5_method_10_code, 9, (some .boolean))
abbrev M_Re_nextSizeOfBytes : Ev_M := (R_Re, ⟨"ElementFiles$Reader", "nextSizeOfBytes", "()J"⟩, prog_5_method_11_code, 5, (some .long))
abbrev M_Re_storeRest : Ev_M := (R_Re, ⟨"ElementFiles$Reader", "storeRest", "(LElementFiles$Element;)V"⟩, prog_5_method_12_code, 3, none)
abbrev M_Re_nextByte : Ev_M := (R_Re, ⟨"ElementFiles$Reader", "nextByte", "()I"⟩, prog_5_method_13_code, 2, (some .int))
abbrev M_Re_nextNumber : Ev_M := (R_Re, ⟨"ElementFiles$Reader", "nextNumber", "(I)J"⟩, prog_5_method_14_code, 5, (some .long))
abbrev M_Re_nextVint : Ev_M := (R_Re, ⟨"ElementFiles$Reader", "nextVint", "()J"⟩, prog_5_method_15_code, 5, (some .long))
abbrev M_Wr_init : Ev_M := (R_Wr, ⟨"ElementFiles$Writer", "<init>", "(LElementFiles$Tree;LElementFiles$Row;)V"⟩, prog_9_method_1_code, 3, none)
abbrev M_Wr_measureTree : Ev_M := (R_Wr, ⟨"ElementFiles$Writer", "measureTree", "(Z)I"⟩, prog_9_method_2_code, 7, (some .int))
abbrev M_Wr_putTree : Ev_M := (R_Wr, ⟨"ElementFiles$Writer", "putTree", "(Z)I"⟩, prog_9_method_3_code, 3, (some .int))
abbrev M_Wr_isOpen : Ev_M := (R_Wr, ⟨"ElementFiles$Writer", "isOpen", "(LElementFiles$Element;Z)Z"⟩, prog_9_method_4_code, 2, (some .boolean))
abbrev M_Wr_putHeader : Ev_M := (R_Wr, ⟨"ElementFiles$Writer", "putHeader", "(LElementFiles$Element;Z)V"⟩, prog_9_method_5_code, 3, none)
abbrev M_Wr_putLeaf : Ev_M := (R_Wr, ⟨"ElementFiles$Writer", "putLeaf", "(LElementFiles$Element;LElementFiles$Row;)V"⟩, prog_9_method_6_code, 3, none)
abbrev M_Wr_fewestBytes : Ev_M := (R_Wr, ⟨"ElementFiles$Writer", "fewestBytes", "(J)I"⟩, prog_9_method_7_code, 3, (some .int))
abbrev M_Wr_putText : Ev_M := (R_Wr, ⟨"ElementFiles$Writer", "putText", "(LElementFiles$Element;LElementFiles$Row;)V"⟩, prog_9_method_8_code, 3, none)
abbrev M_Wr_putZeros : Ev_M := (R_Wr, ⟨"ElementFiles$Writer", "putZeros", "(LElementFiles$Element;LElementFiles$Row;)V"⟩, prog_9_method_9_code, 3, none)
abbrev M_Wr_putStored : Ev_M := (R_Wr, ⟨"ElementFiles$Writer", "putStored", "(LElementFiles$Element;LElementFiles$Row;)V"⟩, prog_9_method_10_code, 4, none)
abbrev M_Wr_putBlockHead : Ev_M := (R_Wr, ⟨"ElementFiles$Writer", "putBlockHead", "(LElementFiles$Element;LElementFiles$Row;)V"⟩, prog_9_method_11_code, 2, none)
abbrev M_Wr_putSizes : Ev_M := (R_Wr, ⟨"ElementFiles$Writer", "putSizes", "(LElementFiles$Element;LElementFiles$Row;)V"⟩, prog_9_method_12_code, 6, none)
abbrev M_Wr_putSizeOfBytes : Ev_M := (R_Wr, ⟨"ElementFiles$Writer", "putSizeOfBytes", "(ILElementFiles$Row;)V"⟩, prog_9_method_13_code, 3, none)
abbrev M_Wr_shortestDifferenceLength : Ev_M := (R_Wr, ⟨"ElementFiles$Writer", "shortestDifferenceLength", "(I)I"⟩, prog_9_method_14_code, 2, (some .int))
abbrev M_Wr_fillCheck : Ev_M := (R_Wr, ⟨"ElementFiles$Writer", "fillCheck", "(LElementFiles$Element;)V"⟩, prog_9_method_15_code, 5, none)
abbrev M_Fi_init : Ev_M := (R_Fi, ⟨"ElementFiles$Finder", "<init>", "(LElementFiles$Tree;)V"⟩, prog_3_method_1_code, 2, none)
abbrev M_Fi_renewCues : Ev_M := (R_Fi, ⟨"ElementFiles$Finder", "renewCues", "(LElementFiles$Element;)I"⟩, prog_3_method_2_code, 8, (some .int))
abbrev M_Fi_countKeyBlocks : Ev_M := (R_Fi, ⟨"ElementFiles$Finder", "countKeyBlocks", "(LElementFiles$Element;)I"⟩, prog_3_method_3_code, 5, (some .int))
abbrev M_Fi_addCue : Ev_M := (R_Fi, ⟨"ElementFiles$Finder", "addCue", "(LElementFiles$Element;LElementFiles$Element;I)V"⟩, prog_3_method_4_code, 5, none)
abbrev M_Fi_addNumber : Ev_M := (R_Fi, ⟨"ElementFiles$Finder", "addNumber", "(LElementFiles$Element;LElementFiles$Sort;J)V"⟩, prog_3_method_5_code, 6, none)
abbrev M_Fi_momentOf : Ev_M := (R_Fi, ⟨"ElementFiles$Finder", "momentOf", "(LElementFiles$Element;)J"⟩, prog_3_method_6_code, 2, (some .long))
abbrev M_Fi_firstNumber : Ev_M := (R_Fi, ⟨"ElementFiles$Finder", "firstNumber", "(LElementFiles$Element;LElementFiles$Sort;)J"⟩, prog_3_method_7_code, 5, (some .long))
abbrev M_Fi_findByBlocks : Ev_M := (R_Fi, ⟨"ElementFiles$Finder", "findByBlocks", "(LElementFiles$Element;IJ)I"⟩, prog_3_method_8_code, 8, (some .int))
abbrev M_Fi_findByCues : Ev_M := (R_Fi, ⟨"ElementFiles$Finder", "findByCues", "(LElementFiles$Element;IJ)I"⟩, prog_3_method_9_code, 8, (some .int))
abbrev M_Fi_blockWithBefore : Ev_M := (R_Fi, ⟨"ElementFiles$Finder", "blockWithBefore", "(LElementFiles$Element;J)I"⟩, prog_3_method_10_code, 8, (some .int))
abbrev M_Mo_init : Ev_M := (R_Mo, ⟨"ElementFilesModel", "<init>", "()V"⟩, prog_11_method_1_code, 1, none)
abbrev M_Mo_kindOf : Ev_M := (R_Mo, ⟨"ElementFilesModel", "kindOf", "(I)I"⟩, prog_11_method_2_code, 1, (some .int))
abbrev M_Mo_stands : Ev_M := (R_Mo, ⟨"ElementFilesModel", "stands", "(II)Z"⟩, prog_11_method_3_code, 2, (some .boolean))
abbrev M_Mo_isElement : Ev_M := (R_Mo, ⟨"ElementFilesModel", "isElement", "(I)Z"⟩, prog_11_method_4_code, 2, (some .boolean))
abbrev M_Mo_is : Ev_M := (R_Mo, ⟨"ElementFilesModel", "is", "(II)Z"⟩, prog_11_method_5_code, 3, (some .boolean))
abbrev M_Mo_isKind : Ev_M := (R_Mo, ⟨"ElementFilesModel", "isKind", "(II)Z"⟩, prog_11_method_6_code, 3, (some .boolean))
abbrev M_Mo_children : Ev_M := (R_Mo, ⟨"ElementFilesModel", "children", "(I)I"⟩, prog_11_method_7_code, 4, (some .int))
abbrev M_Mo_child : Ev_M := (R_Mo, ⟨"ElementFilesModel", "child", "(II)I"⟩, prog_11_method_8_code, 5, (some .int))
abbrev M_Mo_move : Ev_M := (R_Mo, ⟨"ElementFilesModel", "move", "(II)V"⟩, prog_11_method_9_code, 4, none)
abbrev M_Mo_behind : Ev_M := (R_Mo, ⟨"ElementFilesModel", "behind", "(I)I"⟩, prog_11_method_10_code, 3, (some .int))
abbrev M_Mo_isIn : Ev_M := (R_Mo, ⟨"ElementFilesModel", "isIn", "(II)Z"⟩, prog_11_method_11_code, 4, (some .boolean))
abbrev M_Mo_insert : Ev_M := (R_Mo, ⟨"ElementFilesModel", "insert", "(IIJ)I"⟩, prog_11_method_12_code, 7, (some .int))
abbrev M_Mo_remove : Ev_M := (R_Mo, ⟨"ElementFilesModel", "remove", "(I)V"⟩, prog_11_method_13_code, 4, none)
abbrev M_Mo_clear : Ev_M := (R_Mo, ⟨"ElementFilesModel", "clear", "()V"⟩, prog_11_method_14_code, 1, none)
abbrev M_Mo_feed : Ev_M := (R_Mo, ⟨"ElementFilesModel", "feed", "(JI)I"⟩, prog_11_method_15_code, 5, (some .int))
abbrev M_Mo_take : Ev_M := (R_Mo, ⟨"ElementFilesModel", "take", "(Z)I"⟩, prog_11_method_16_code, 3, (some .int))
abbrev M_Mo_out : Ev_M := (R_Mo, ⟨"ElementFilesModel", "out", "(I)I"⟩, prog_11_method_17_code, 2, (some .int))
abbrev M_Mo_widthOf : Ev_M := (R_Mo, ⟨"ElementFilesModel", "widthOf", "(I)I"⟩, prog_11_method_18_code, 2, (some .int))
abbrev M_Mo_readVint : Ev_M := (R_Mo, ⟨"ElementFilesModel", "readVint", "(I)I"⟩, prog_11_method_19_code, 3, (some .int))
abbrev M_Mo_readId : Ev_M := (R_Mo, ⟨"ElementFilesModel", "readId", "(I)I"⟩, prog_11_method_20_code, 5, (some .int))
abbrev M_Mo_masterId : Ev_M := (R_Mo, ⟨"ElementFilesModel", "masterId", "()I"⟩, prog_11_method_21_code, 1, (some .int))
abbrev M_Mo_crcStep : Ev_M := (R_Mo, ⟨"ElementFilesModel", "crcStep", "(II)I"⟩, prog_11_method_22_code, 5, (some .int))
abbrev M_Mo_readNumber : Ev_M := (R_Mo, ⟨"ElementFilesModel", "readNumber", "(I)Z"⟩, prog_11_method_23_code, 5, (some .boolean))
abbrev M_Mo_readText : Ev_M := (R_Mo, ⟨"ElementFilesModel", "readText", "(I)Z"⟩, prog_11_method_24_code, 4, (some .boolean))
abbrev M_Mo_readSum : Ev_M := (R_Mo, ⟨"ElementFilesModel", "readSum", "(II)Z"⟩, prog_11_method_25_code, 5, (some .boolean))
abbrev M_Mo_readSize : Ev_M := (R_Mo, ⟨"ElementFilesModel", "readSize", "(IIII)I"⟩, prog_11_method_26_code, 8, (some .int))
abbrev M_Mo_readSizes : Ev_M := (R_Mo, ⟨"ElementFilesModel", "readSizes", "(III)Z"⟩, prog_11_method_27_code, 8, (some .boolean))
abbrev M_Mo_readBlock : Ev_M := (R_Mo, ⟨"ElementFilesModel", "readBlock", "(I)Z"⟩, prog_11_method_28_code, 9, (some .boolean))
abbrev M_Mo_keep : Ev_M := (R_Mo, ⟨"ElementFilesModel", "keep", "(I)V"⟩, prog_11_method_29_code, 3, none)
abbrev M_Mo_readData : Ev_M := (R_Mo, ⟨"ElementFilesModel", "readData", "(II)Z"⟩, prog_11_method_30_code, 3, (some .boolean))
abbrev M_Mo_readSizeOf : Ev_M := (R_Mo, ⟨"ElementFilesModel", "readSizeOf", "(I)I"⟩, prog_11_method_31_code, 4, (some .int))
abbrev M_Mo_readElement : Ev_M := (R_Mo, ⟨"ElementFilesModel", "readElement", "()I"⟩, prog_11_method_32_code, 5, (some .int))
abbrev M_Mo_read : Ev_M := (R_Mo, ⟨"ElementFilesModel", "read", "()I"⟩, prog_11_method_33_code, 3, (some .int))
abbrev M_Mo_where : Ev_M := (R_Mo, ⟨"ElementFilesModel", "where", "()I"⟩, prog_11_method_34_code, 1, (some .int))
abbrev M_Mo_make : Ev_M := (R_Mo, ⟨"ElementFilesModel", "make", "(IIJ)I"⟩, prog_11_method_35_code, 8, (some .int))
abbrev M_Mo_letter : Ev_M := (R_Mo, ⟨"ElementFilesModel", "letter", "(IC)I"⟩, prog_11_method_36_code, 3, (some .int))
abbrev M_Mo_frame : Ev_M := (R_Mo, ⟨"ElementFilesModel", "frame", "(II)I"⟩, prog_11_method_37_code, 3, (some .int))
abbrev M_Mo_evenHands : Ev_M := (R_Mo, ⟨"ElementFilesModel", "evenHands", "()Z"⟩, prog_11_method_38_code, 2, (some .boolean))
abbrev M_Mo_block : Ev_M := (R_Mo, ⟨"ElementFilesModel", "block", "(IIIZI)I"⟩, prog_11_method_39_code, 9, (some .int))
abbrev M_Mo_id : Ev_M := (R_Mo, ⟨"ElementFilesModel", "id", "(I)I"⟩, prog_11_method_40_code, 2, (some .int))
abbrev M_Mo_parent : Ev_M := (R_Mo, ⟨"ElementFilesModel", "parent", "(I)I"⟩, prog_11_method_41_code, 2, (some .int))
abbrev M_Mo_value : Ev_M := (R_Mo, ⟨"ElementFilesModel", "value", "(I)J"⟩, prog_11_method_42_code, 3, (some .long))
abbrev M_Mo_part : Ev_M := (R_Mo, ⟨"ElementFilesModel", "part", "(II)I"⟩, prog_11_method_43_code, 3, (some .int))
abbrev M_Mo_sample : Ev_M := (R_Mo, ⟨"ElementFilesModel", "sample", "(III)I"⟩, prog_11_method_44_code, 4, (some .int))
abbrev M_Mo_detail : Ev_M := (R_Mo, ⟨"ElementFilesModel", "detail", "(II)I"⟩, prog_11_method_45_code, 3, (some .int))
abbrev M_Mo_widthFor : Ev_M := (R_Mo, ⟨"ElementFilesModel", "widthFor", "(J)I"⟩, prog_11_method_46_code, 3, (some .int))
abbrev M_Mo_idWidth : Ev_M := (R_Mo, ⟨"ElementFilesModel", "idWidth", "(I)I"⟩, prog_11_method_47_code, 1, (some .int))
abbrev M_Mo_widthForStep : Ev_M := (R_Mo, ⟨"ElementFilesModel", "widthForStep", "(I)I"⟩, prog_11_method_48_code, 2, (some .int))
abbrev M_Mo_blockBytes : Ev_M := (R_Mo, ⟨"ElementFilesModel", "blockBytes", "(I)I"⟩, prog_11_method_49_code, 6, (some .int))
abbrev M_Mo_numberBytes : Ev_M := (R_Mo, ⟨"ElementFilesModel", "numberBytes", "(J)I"⟩, prog_11_method_50_code, 3, (some .int))
abbrev M_Mo_isLive : Ev_M := (R_Mo, ⟨"ElementFilesModel", "isLive", "(IZ)Z"⟩, prog_11_method_51_code, 3, (some .boolean))
abbrev M_Mo_measure : Ev_M := (R_Mo, ⟨"ElementFilesModel", "measure", "(Z)V"⟩, prog_11_method_52_code, 7, none)
abbrev M_Mo_put : Ev_M := (R_Mo, ⟨"ElementFilesModel", "put", "(I)V"⟩, prog_11_method_53_code, 2, none)
abbrev M_Mo_putBytes : Ev_M := (R_Mo, ⟨"ElementFilesModel", "putBytes", "(JI)V"⟩, prog_11_method_54_code, 5, none)
abbrev M_Mo_putVint : Ev_M := (R_Mo, ⟨"ElementFilesModel", "putVint", "(JI)V"⟩, prog_11_method_55_code, 4, none)
abbrev M_Mo_putBlock : Ev_M := (R_Mo, ⟨"ElementFilesModel", "putBlock", "(I)V"⟩, prog_11_method_56_code, 7, none)
abbrev M_Mo_putData : Ev_M := (R_Mo, ⟨"ElementFilesModel", "putData", "(I)V"⟩, prog_11_method_57_code, 3, none)
abbrev M_Mo_fillSum : Ev_M := (R_Mo, ⟨"ElementFilesModel", "fillSum", "(I)V"⟩, prog_11_method_58_code, 5, none)
abbrev M_Mo_write : Ev_M := (R_Mo, ⟨"ElementFilesModel", "write", "(Z)I"⟩, prog_11_method_59_code, 5, (some .int))
abbrev M_Mo_first : Ev_M := (R_Mo, ⟨"ElementFilesModel", "first", "(II)J"⟩, prog_11_method_60_code, 4, (some .long))
abbrev M_Mo_moment : Ev_M := (R_Mo, ⟨"ElementFilesModel", "moment", "(I)J"⟩, prog_11_method_61_code, 2, (some .long))
abbrev M_Mo_isBlockOf : Ev_M := (R_Mo, ⟨"ElementFilesModel", "isBlockOf", "(II)Z"⟩, prog_11_method_62_code, 3, (some .boolean))
abbrev M_Mo_index : Ev_M := (R_Mo, ⟨"ElementFilesModel", "index", "(I)I"⟩, prog_11_method_63_code, 9, (some .int))
abbrev M_Mo_seek : Ev_M := (R_Mo, ⟨"ElementFilesModel", "seek", "(IIJ)I"⟩, prog_11_method_64_code, 7, (some .int))
abbrev M_Mo_jump : Ev_M := (R_Mo, ⟨"ElementFilesModel", "jump", "(IIJ)I"⟩, prog_11_method_65_code, 9, (some .int))
abbrev M_So_of : Ev_M := (R_So, ⟨"ElementFiles$Sort", "of", "(I)LElementFiles$Sort;"⟩, prog_7_method_4_code, 2, (some (.object "ElementFiles$Sort")))
abbrev M_So_fits : Ev_M := (R_So, ⟨"ElementFiles$Sort", "fits", "(I)Z"⟩, prog_7_method_5_code, 2, (some .boolean))
abbrev M_La_law : Ev_M := (R_La, ⟨"ElementFilesLaw", "law", "([I)Z"⟩, code, 4, (some .boolean))
abbrev M_Ma_min : Ev_M := (R_Ma, ⟨"java/lang/Math", "min", "(II)I"⟩, prog_13_method_69_code, 2, (some .int))
abbrev M_Ma_abs : Ev_M := (R_Ma, ⟨"java/lang/Math", "abs", "(I)I"⟩, prog_13_method_59_code, 1, (some .int))
end
section
theorem ev_mem {w : Cond} (h : w ∈ lw_tbl) (g : ev_good w = true) : w ∈ ev_tbl := List.mem_filter.mpr ⟨h, g⟩
theorem m_0 : Cond.selects "ElementFiles$Reader" ⟨"ElementFiles$Reader", "readTag", "()I"⟩ ⟨"ElementFiles$Reader", "readTag", "()I"⟩ ∈ ev_tbl := ev_mem (List.mem_of_getElem? (i := 0) (by decide +kernel)) rfl
theorem m_1 : Cond.selects "ElementFiles$Reader" ⟨"ElementFiles$Reader", "nextNumber", "(I)J"⟩ ⟨"ElementFiles$Reader", "nextNumber", "(I)J"⟩ ∈ ev_tbl := ev_mem (List.mem_of_getElem? (i := 1) (by decide +kernel)) rfl
theorem m_2 : Cond.selects "ElementFiles$Reader" ⟨"ElementFiles$Reader", "readSize", "()I"⟩ ⟨"ElementFiles$Reader", "readSize", "()I"⟩ ∈ ev_tbl := ev_mem (List.mem_of_getElem? (i := 2) (by decide +kernel)) rfl
theorem m_3 : Cond.selects "ElementFiles$Reader" ⟨"ElementFiles$Reader", "nextVint", "()J"⟩ ⟨"ElementFiles$Reader", "nextVint", "()J"⟩ ∈ ev_tbl := ev_mem (List.mem_of_getElem? (i := 3) (by decide +kernel)) rfl
theorem m_4 : Cond.selects "ElementFiles$Tree" ⟨"ElementFiles$Tree", "putInLine", "(ILElementFiles$Element;)V"⟩ ⟨"ElementFiles$Tree", "putInLine", "(ILElementFiles$Element;)V"⟩ ∈ ev_tbl := ev_mem (List.mem_of_getElem? (i := 4) (by decide +kernel)) rfl
theorem m_5 : Cond.selects "ElementFiles$Reader" ⟨"ElementFiles$Reader", "readData", "()I"⟩ ⟨"ElementFiles$Reader", "readData", "()I"⟩ ∈ ev_tbl := ev_mem (List.mem_of_getElem? (i := 5) (by decide +kernel)) rfl
theorem m_6 : Cond.selects "ElementFiles$Reader" ⟨"ElementFiles$Reader", "readText", "(LElementFiles$Element;)Z"⟩ ⟨"ElementFiles$Reader", "readText", "(LElementFiles$Element;)Z"⟩ ∈ ev_tbl := ev_mem (List.mem_of_getElem? (i := 6) (by decide +kernel)) rfl
theorem m_7 : Cond.selects "ElementFiles$Reader" ⟨"ElementFiles$Reader", "readBlockHead", "(LElementFiles$Element;)I"⟩ ⟨"ElementFiles$Reader", "readBlockHead", "(LElementFiles$Element;)I"⟩ ∈ ev_tbl := ev_mem (List.mem_of_getElem? (i := 7) (by decide +kernel)) rfl
theorem m_8 : Cond.selects "ElementFiles$Reader" ⟨"ElementFiles$Reader", "nextByte", "()I"⟩ ⟨"ElementFiles$Reader", "nextByte", "()I"⟩ ∈ ev_tbl := ev_mem (List.mem_of_getElem? (i := 8) (by decide +kernel)) rfl
theorem m_9 : Cond.selects "ElementFiles$Reader" ⟨"ElementFiles$Reader", "readSizes", "(LElementFiles$Element;I)Z"⟩ ⟨"ElementFiles$Reader", "readSizes", "(LElementFiles$Element;I)Z"⟩ ∈ ev_tbl := ev_mem (List.mem_of_getElem? (i := 9) (by decide +kernel)) rfl
theorem m_10 : Cond.selects "ElementFiles$Reader" ⟨"ElementFiles$Reader", "shareEvenly", "(LElementFiles$Element;I)Z"⟩ ⟨"ElementFiles$Reader", "shareEvenly", "(LElementFiles$Element;I)Z"⟩ ∈ ev_tbl := ev_mem (List.mem_of_getElem? (i := 10) (by decide +kernel)) rfl
theorem m_11 : Cond.selects "ElementFiles$Reader" ⟨"ElementFiles$Reader", "nextSizeOfBytes", "()J"⟩ ⟨"ElementFiles$Reader", "nextSizeOfBytes", "()J"⟩ ∈ ev_tbl := ev_mem (List.mem_of_getElem? (i := 11) (by decide +kernel)) rfl
theorem m_12 : Cond.selects "ElementFiles$Reader" ⟨"ElementFiles$Reader", "storeRest", "(LElementFiles$Element;)V"⟩ ⟨"ElementFiles$Reader", "storeRest", "(LElementFiles$Element;)V"⟩ ∈ ev_tbl := ev_mem (List.mem_of_getElem? (i := 12) (by decide +kernel)) rfl
theorem m_13 : Cond.selects "ElementFiles$Reader" ⟨"ElementFiles$Reader", "readCheck", "(LElementFiles$Element;)Z"⟩ ⟨"ElementFiles$Reader", "readCheck", "(LElementFiles$Element;)Z"⟩ ∈ ev_tbl := ev_mem (List.mem_of_getElem? (i := 13) (by decide +kernel)) rfl
theorem m_14 : Cond.selects "ElementFiles$Frames" ⟨"ElementFiles$Frames", "areEven", "()Z"⟩ ⟨"ElementFiles$Frames", "areEven", "()Z"⟩ ∈ ev_tbl := ev_mem (List.mem_of_getElem? (i := 14) (by decide +kernel)) rfl
theorem m_15 : Cond.selects "ElementFiles$Writer" ⟨"ElementFiles$Writer", "putLeaf", "(LElementFiles$Element;LElementFiles$Row;)V"⟩ ⟨"ElementFiles$Writer", "putLeaf", "(LElementFiles$Element;LElementFiles$Row;)V"⟩ ∈ ev_tbl := ev_mem (List.mem_of_getElem? (i := 15) (by decide +kernel)) rfl
theorem m_16 : Cond.selects "ElementFiles$Writer" ⟨"ElementFiles$Writer", "putStored", "(LElementFiles$Element;LElementFiles$Row;)V"⟩ ⟨"ElementFiles$Writer", "putStored", "(LElementFiles$Element;LElementFiles$Row;)V"⟩ ∈ ev_tbl := ev_mem (List.mem_of_getElem? (i := 16) (by decide +kernel)) rfl
theorem m_17 : Cond.selects "ElementFiles$Writer" ⟨"ElementFiles$Writer", "putHeader", "(LElementFiles$Element;Z)V"⟩ ⟨"ElementFiles$Writer", "putHeader", "(LElementFiles$Element;Z)V"⟩ ∈ ev_tbl := ev_mem (List.mem_of_getElem? (i := 17) (by decide +kernel)) rfl
theorem m_18 : Cond.selects "ElementFiles$Writer" ⟨"ElementFiles$Writer", "fillCheck", "(LElementFiles$Element;)V"⟩ ⟨"ElementFiles$Writer", "fillCheck", "(LElementFiles$Element;)V"⟩ ∈ ev_tbl := ev_mem (List.mem_of_getElem? (i := 18) (by decide +kernel)) rfl
theorem m_19 : Cond.selects "ElementFiles" ⟨"ElementFiles", "segmentAt", "(I)LElementFiles$Element;"⟩ ⟨"ElementFiles", "segmentAt", "(I)LElementFiles$Element;"⟩ ∈ ev_tbl := ev_mem (List.mem_of_getElem? (i := 19) (by decide +kernel)) rfl
theorem m_20 : Cond.selects "ElementFiles$Finder" ⟨"ElementFiles$Finder", "countKeyBlocks", "(LElementFiles$Element;)I"⟩ ⟨"ElementFiles$Finder", "countKeyBlocks", "(LElementFiles$Element;)I"⟩ ∈ ev_tbl := ev_mem (List.mem_of_getElem? (i := 20) (by decide +kernel)) rfl
theorem m_21 : Cond.selects "ElementFiles$Finder" ⟨"ElementFiles$Finder", "addCue", "(LElementFiles$Element;LElementFiles$Element;I)V"⟩ ⟨"ElementFiles$Finder", "addCue", "(LElementFiles$Element;LElementFiles$Element;I)V"⟩ ∈ ev_tbl := ev_mem (List.mem_of_getElem? (i := 21) (by decide +kernel)) rfl
theorem m_22 : Cond.selects "ElementFiles$Finder" ⟨"ElementFiles$Finder", "momentOf", "(LElementFiles$Element;)J"⟩ ⟨"ElementFiles$Finder", "momentOf", "(LElementFiles$Element;)J"⟩ ∈ ev_tbl := ev_mem (List.mem_of_getElem? (i := 22) (by decide +kernel)) rfl
theorem m_23 : Cond.selects "ElementFiles$Finder" ⟨"ElementFiles$Finder", "firstNumber", "(LElementFiles$Element;LElementFiles$Sort;)J"⟩ ⟨"ElementFiles$Finder", "firstNumber", "(LElementFiles$Element;LElementFiles$Sort;)J"⟩ ∈ ev_tbl := ev_mem (List.mem_of_getElem? (i := 23) (by decide +kernel)) rfl
theorem m_24 : Cond.selects "ElementFiles$Finder" ⟨"ElementFiles$Finder", "addNumber", "(LElementFiles$Element;LElementFiles$Sort;J)V"⟩ ⟨"ElementFiles$Finder", "addNumber", "(LElementFiles$Element;LElementFiles$Sort;J)V"⟩ ∈ ev_tbl := ev_mem (List.mem_of_getElem? (i := 24) (by decide +kernel)) rfl
theorem m_25 : Cond.selects "ElementFiles$Finder" ⟨"ElementFiles$Finder", "blockWithBefore", "(LElementFiles$Element;J)I"⟩ ⟨"ElementFiles$Finder", "blockWithBefore", "(LElementFiles$Element;J)I"⟩ ∈ ev_tbl := ev_mem (List.mem_of_getElem? (i := 25) (by decide +kernel)) rfl
theorem m_26 : Cond.selects "ElementFilesModel" ⟨"ElementFilesModel", "readElement", "()I"⟩ ⟨"ElementFilesModel", "readElement", "()I"⟩ ∈ ev_tbl := ev_mem (List.mem_of_getElem? (i := 26) (by decide +kernel)) rfl
theorem m_27 : Cond.selects "ElementFilesModel" ⟨"ElementFilesModel", "readId", "(I)I"⟩ ⟨"ElementFilesModel", "readId", "(I)I"⟩ ∈ ev_tbl := ev_mem (List.mem_of_getElem? (i := 27) (by decide +kernel)) rfl
theorem m_28 : Cond.selects "ElementFilesModel" ⟨"ElementFilesModel", "masterId", "()I"⟩ ⟨"ElementFilesModel", "masterId", "()I"⟩ ∈ ev_tbl := ev_mem (List.mem_of_getElem? (i := 28) (by decide +kernel)) rfl
theorem m_29 : Cond.selects "ElementFilesModel" ⟨"ElementFilesModel", "children", "(I)I"⟩ ⟨"ElementFilesModel", "children", "(I)I"⟩ ∈ ev_tbl := ev_mem (List.mem_of_getElem? (i := 29) (by decide +kernel)) rfl
theorem m_30 : Cond.selects "ElementFilesModel" ⟨"ElementFilesModel", "readSizeOf", "(I)I"⟩ ⟨"ElementFilesModel", "readSizeOf", "(I)I"⟩ ∈ ev_tbl := ev_mem (List.mem_of_getElem? (i := 30) (by decide +kernel)) rfl
theorem m_31 : Cond.selects "ElementFilesModel" ⟨"ElementFilesModel", "readVint", "(I)I"⟩ ⟨"ElementFilesModel", "readVint", "(I)I"⟩ ∈ ev_tbl := ev_mem (List.mem_of_getElem? (i := 31) (by decide +kernel)) rfl
theorem m_32 : Cond.selects "ElementFilesModel" ⟨"ElementFilesModel", "readData", "(II)Z"⟩ ⟨"ElementFilesModel", "readData", "(II)Z"⟩ ∈ ev_tbl := ev_mem (List.mem_of_getElem? (i := 32) (by decide +kernel)) rfl
theorem m_33 : Cond.selects "ElementFilesModel" ⟨"ElementFilesModel", "readNumber", "(I)Z"⟩ ⟨"ElementFilesModel", "readNumber", "(I)Z"⟩ ∈ ev_tbl := ev_mem (List.mem_of_getElem? (i := 33) (by decide +kernel)) rfl
theorem m_34 : Cond.selects "ElementFilesModel" ⟨"ElementFilesModel", "readText", "(I)Z"⟩ ⟨"ElementFilesModel", "readText", "(I)Z"⟩ ∈ ev_tbl := ev_mem (List.mem_of_getElem? (i := 34) (by decide +kernel)) rfl
theorem m_35 : Cond.selects "ElementFilesModel" ⟨"ElementFilesModel", "readBlock", "(I)Z"⟩ ⟨"ElementFilesModel", "readBlock", "(I)Z"⟩ ∈ ev_tbl := ev_mem (List.mem_of_getElem? (i := 35) (by decide +kernel)) rfl
theorem m_36 : Cond.selects "ElementFilesModel" ⟨"ElementFilesModel", "readSizes", "(III)Z"⟩ ⟨"ElementFilesModel", "readSizes", "(III)Z"⟩ ∈ ev_tbl := ev_mem (List.mem_of_getElem? (i := 36) (by decide +kernel)) rfl
theorem m_37 : Cond.selects "ElementFilesModel" ⟨"ElementFilesModel", "readSize", "(IIII)I"⟩ ⟨"ElementFilesModel", "readSize", "(IIII)I"⟩ ∈ ev_tbl := ev_mem (List.mem_of_getElem? (i := 37) (by decide +kernel)) rfl
theorem m_38 : Cond.selects "ElementFilesModel" ⟨"ElementFilesModel", "keep", "(I)V"⟩ ⟨"ElementFilesModel", "keep", "(I)V"⟩ ∈ ev_tbl := ev_mem (List.mem_of_getElem? (i := 38) (by decide +kernel)) rfl
theorem m_39 : Cond.selects "ElementFilesModel" ⟨"ElementFilesModel", "readSum", "(II)Z"⟩ ⟨"ElementFilesModel", "readSum", "(II)Z"⟩ ∈ ev_tbl := ev_mem (List.mem_of_getElem? (i := 39) (by decide +kernel)) rfl
theorem m_40 : Cond.selects "ElementFilesModel" ⟨"ElementFilesModel", "isElement", "(I)Z"⟩ ⟨"ElementFilesModel", "isElement", "(I)Z"⟩ ∈ ev_tbl := ev_mem (List.mem_of_getElem? (i := 40) (by decide +kernel)) rfl
theorem m_41 : Cond.selects "ElementFilesModel" ⟨"ElementFilesModel", "insert", "(IIJ)I"⟩ ⟨"ElementFilesModel", "insert", "(IIJ)I"⟩ ∈ ev_tbl := ev_mem (List.mem_of_getElem? (i := 41) (by decide +kernel)) rfl
theorem m_42 : Cond.selects "ElementFilesModel" ⟨"ElementFilesModel", "behind", "(I)I"⟩ ⟨"ElementFilesModel", "behind", "(I)I"⟩ ∈ ev_tbl := ev_mem (List.mem_of_getElem? (i := 42) (by decide +kernel)) rfl
theorem m_43 : Cond.selects "ElementFilesModel" ⟨"ElementFilesModel", "isIn", "(II)Z"⟩ ⟨"ElementFilesModel", "isIn", "(II)Z"⟩ ∈ ev_tbl := ev_mem (List.mem_of_getElem? (i := 43) (by decide +kernel)) rfl
theorem m_44 : Cond.selects "ElementFilesModel" ⟨"ElementFilesModel", "move", "(II)V"⟩ ⟨"ElementFilesModel", "move", "(II)V"⟩ ∈ ev_tbl := ev_mem (List.mem_of_getElem? (i := 44) (by decide +kernel)) rfl
theorem m_45 : Cond.selects "ElementFilesModel" ⟨"ElementFilesModel", "isKind", "(II)Z"⟩ ⟨"ElementFilesModel", "isKind", "(II)Z"⟩ ∈ ev_tbl := ev_mem (List.mem_of_getElem? (i := 45) (by decide +kernel)) rfl
theorem m_46 : Cond.selects "ElementFilesModel" ⟨"ElementFilesModel", "is", "(II)Z"⟩ ⟨"ElementFilesModel", "is", "(II)Z"⟩ ∈ ev_tbl := ev_mem (List.mem_of_getElem? (i := 46) (by decide +kernel)) rfl
theorem m_47 : Cond.selects "ElementFilesModel" ⟨"ElementFilesModel", "evenHands", "()Z"⟩ ⟨"ElementFilesModel", "evenHands", "()Z"⟩ ∈ ev_tbl := ev_mem (List.mem_of_getElem? (i := 47) (by decide +kernel)) rfl
theorem m_48 : Cond.selects "ElementFilesModel" ⟨"ElementFilesModel", "child", "(II)I"⟩ ⟨"ElementFilesModel", "child", "(II)I"⟩ ∈ ev_tbl := ev_mem (List.mem_of_getElem? (i := 48) (by decide +kernel)) rfl
theorem m_49 : Cond.selects "ElementFilesModel" ⟨"ElementFilesModel", "measure", "(Z)V"⟩ ⟨"ElementFilesModel", "measure", "(Z)V"⟩ ∈ ev_tbl := ev_mem (List.mem_of_getElem? (i := 49) (by decide +kernel)) rfl
theorem m_50 : Cond.selects "ElementFilesModel" ⟨"ElementFilesModel", "blockBytes", "(I)I"⟩ ⟨"ElementFilesModel", "blockBytes", "(I)I"⟩ ∈ ev_tbl := ev_mem (List.mem_of_getElem? (i := 50) (by decide +kernel)) rfl
theorem m_51 : Cond.selects "ElementFilesModel" ⟨"ElementFilesModel", "isLive", "(IZ)Z"⟩ ⟨"ElementFilesModel", "isLive", "(IZ)Z"⟩ ∈ ev_tbl := ev_mem (List.mem_of_getElem? (i := 51) (by decide +kernel)) rfl
theorem m_52 : Cond.selects "ElementFilesModel" ⟨"ElementFilesModel", "putBytes", "(JI)V"⟩ ⟨"ElementFilesModel", "putBytes", "(JI)V"⟩ ∈ ev_tbl := ev_mem (List.mem_of_getElem? (i := 52) (by decide +kernel)) rfl
theorem m_53 : Cond.selects "ElementFilesModel" ⟨"ElementFilesModel", "put", "(I)V"⟩ ⟨"ElementFilesModel", "put", "(I)V"⟩ ∈ ev_tbl := ev_mem (List.mem_of_getElem? (i := 53) (by decide +kernel)) rfl
theorem m_54 : Cond.selects "ElementFilesModel" ⟨"ElementFilesModel", "putVint", "(JI)V"⟩ ⟨"ElementFilesModel", "putVint", "(JI)V"⟩ ∈ ev_tbl := ev_mem (List.mem_of_getElem? (i := 54) (by decide +kernel)) rfl
theorem m_55 : Cond.selects "ElementFilesModel" ⟨"ElementFilesModel", "putData", "(I)V"⟩ ⟨"ElementFilesModel", "putData", "(I)V"⟩ ∈ ev_tbl := ev_mem (List.mem_of_getElem? (i := 55) (by decide +kernel)) rfl
theorem m_56 : Cond.selects "ElementFilesModel" ⟨"ElementFilesModel", "putBlock", "(I)V"⟩ ⟨"ElementFilesModel", "putBlock", "(I)V"⟩ ∈ ev_tbl := ev_mem (List.mem_of_getElem? (i := 56) (by decide +kernel)) rfl
theorem m_57 : Cond.selects "ElementFilesModel" ⟨"ElementFilesModel", "fillSum", "(I)V"⟩ ⟨"ElementFilesModel", "fillSum", "(I)V"⟩ ∈ ev_tbl := ev_mem (List.mem_of_getElem? (i := 57) (by decide +kernel)) rfl
theorem m_58 : Cond.selects "ElementFilesModel" ⟨"ElementFilesModel", "isBlockOf", "(II)Z"⟩ ⟨"ElementFilesModel", "isBlockOf", "(II)Z"⟩ ∈ ev_tbl := ev_mem (List.mem_of_getElem? (i := 58) (by decide +kernel)) rfl
theorem m_59 : Cond.selects "ElementFilesModel" ⟨"ElementFilesModel", "remove", "(I)V"⟩ ⟨"ElementFilesModel", "remove", "(I)V"⟩ ∈ ev_tbl := ev_mem (List.mem_of_getElem? (i := 59) (by decide +kernel)) rfl
theorem m_60 : Cond.selects "ElementFilesModel" ⟨"ElementFilesModel", "moment", "(I)J"⟩ ⟨"ElementFilesModel", "moment", "(I)J"⟩ ∈ ev_tbl := ev_mem (List.mem_of_getElem? (i := 60) (by decide +kernel)) rfl
theorem m_61 : Cond.selects "ElementFilesModel" ⟨"ElementFilesModel", "first", "(II)J"⟩ ⟨"ElementFilesModel", "first", "(II)J"⟩ ∈ ev_tbl := ev_mem (List.mem_of_getElem? (i := 61) (by decide +kernel)) rfl
theorem m_62 : Cond.initialized "ElementFilesLaw" ∈ ev_tbl := ev_mem (List.mem_of_getElem? (i := 62) (by decide +kernel)) rfl
theorem m_63 : Cond.initialized "ElementFiles" ∈ ev_tbl := ev_mem (List.mem_of_getElem? (i := 63) (by decide +kernel)) rfl
theorem m_64 : Cond.initialized "ElementFiles$Row" ∈ ev_tbl := ev_mem (List.mem_of_getElem? (i := 64) (by decide +kernel)) rfl
theorem m_65 : Cond.initialized "ElementFiles$Frames" ∈ ev_tbl := ev_mem (List.mem_of_getElem? (i := 65) (by decide +kernel)) rfl
theorem m_66 : Cond.initialized "ElementFiles$Tree" ∈ ev_tbl := ev_mem (List.mem_of_getElem? (i := 66) (by decide +kernel)) rfl
theorem m_67 : Cond.initialized "ElementFiles$Reader" ∈ ev_tbl := ev_mem (List.mem_of_getElem? (i := 67) (by decide +kernel)) rfl
theorem m_68 : Cond.initialized "ElementFiles$Writer" ∈ ev_tbl := ev_mem (List.mem_of_getElem? (i := 68) (by decide +kernel)) rfl
theorem m_69 : Cond.initialized "ElementFiles$Finder" ∈ ev_tbl := ev_mem (List.mem_of_getElem? (i := 69) (by decide +kernel)) rfl
theorem m_70 : Cond.initialized "ElementFilesModel" ∈ ev_tbl := ev_mem (List.mem_of_getElem? (i := 70) (by decide +kernel)) rfl
theorem m_71 : Cond.initialized "java/lang/Enum" ∈ ev_tbl := ev_mem (List.mem_of_getElem? (i := 71) (by decide +kernel)) rfl
theorem m_72 : Cond.initialized "ElementFiles$Sort" ∈ ev_tbl := ev_mem (List.mem_of_getElem? (i := 72) (by decide +kernel)) rfl
theorem m_73 : Cond.initialized "ElementFiles$Element" ∈ ev_tbl := ev_mem (List.mem_of_getElem? (i := 73) (by decide +kernel)) rfl
theorem m_74 : Cond.initialized "java/lang/Math" ∈ ev_tbl := ev_mem (List.mem_of_getElem? (i := 74) (by decide +kernel)) rfl
theorem m_75 : Cond.classLink "ElementFilesLaw" 7 "ElementFiles" ∈ ev_tbl := ev_mem (List.mem_of_getElem? (i := 75) (by decide +kernel)) rfl
theorem m_76 : Cond.instantiable "ElementFiles" 7 ∈ ev_tbl := ev_mem (List.mem_of_getElem? (i := 76) (by decide +kernel)) rfl
theorem m_77 : Cond.methodLink "ElementFilesLaw" 9 ⟨"ElementFiles", "<init>", "()V"⟩ ∈ ev_tbl := ev_mem (List.mem_of_getElem? (i := 77) (by decide +kernel)) rfl
theorem m_78 : Cond.instanceMethod ⟨"ElementFiles", "<init>", "()V"⟩ ∈ ev_tbl := ev_mem (List.mem_of_getElem? (i := 78) (by decide +kernel)) rfl
theorem m_79 : Cond.code ⟨"ElementFiles", "<init>", "()V"⟩ prog_1_method_1_code 1 none ∈ ev_tbl := ev_mem (List.mem_of_getElem? (i := 79) (by decide +kernel)) rfl
theorem m_80 : Cond.methodLink "ElementFiles" 1 ⟨"java/lang/Object", "<init>", "()V"⟩ ∈ ev_tbl := ev_mem (List.mem_of_getElem? (i := 80) (by decide +kernel)) rfl
theorem m_81 : Cond.instanceMethod ⟨"java/lang/Object", "<init>", "()V"⟩ ∈ ev_tbl := ev_mem (List.mem_of_getElem? (i := 81) (by decide +kernel)) rfl
theorem m_82 : Cond.code ⟨"java/lang/Object", "<init>", "()V"⟩ ⟨#[0xb1]⟩ 1 none ∈ ev_tbl := ev_mem (List.mem_of_getElem? (i := 82) (by decide +kernel)) rfl
theorem m_83 : Cond.classLink "ElementFiles" 7 "ElementFiles$Row" ∈ ev_tbl := ev_mem (List.mem_of_getElem? (i := 83) (by decide +kernel)) rfl
theorem m_84 : Cond.instantiable "ElementFiles$Row" 2 ∈ ev_tbl := ev_mem (List.mem_of_getElem? (i := 84) (by decide +kernel)) rfl
theorem m_85 : Cond.methodLink "ElementFiles" 11 ⟨"ElementFiles$Row", "<init>", "(I)V"⟩ ∈ ev_tbl := ev_mem (List.mem_of_getElem? (i := 85) (by decide +kernel)) rfl
theorem m_86 : Cond.instanceMethod ⟨"ElementFiles$Row", "<init>", "(I)V"⟩ ∈ ev_tbl := ev_mem (List.mem_of_getElem? (i := 86) (by decide +kernel)) rfl
theorem m_87 : Cond.code ⟨"ElementFiles$Row", "<init>", "(I)V"⟩ prog_6_method_1_code 2 none ∈ ev_tbl := ev_mem (List.mem_of_getElem? (i := 87) (by decide +kernel)) rfl
theorem m_88 : Cond.methodLink "ElementFiles$Row" 3 ⟨"java/lang/Object", "<init>", "()V"⟩ ∈ ev_tbl := ev_mem (List.mem_of_getElem? (i := 88) (by decide +kernel)) rfl
theorem m_89 : Cond.fieldLink "ElementFiles$Row" 9 "ElementFiles$Row" "bytes" "[I" ∈ ev_tbl := ev_mem (List.mem_of_getElem? (i := 89) (by decide +kernel)) rfl
theorem m_90 : Cond.fieldLink "ElementFiles$Row" 15 "ElementFiles$Row" "count" "I" ∈ ev_tbl := ev_mem (List.mem_of_getElem? (i := 90) (by decide +kernel)) rfl
theorem m_91 : Cond.fieldLink "ElementFiles" 62 "ElementFiles$Row" "count" "I" ∈ ev_tbl := ev_mem (List.mem_of_getElem? (i := 91) (by decide +kernel)) rfl
theorem m_92 : Cond.fieldLink "ElementFiles$Writer" 33 "ElementFiles$Row" "count" "I" ∈ ev_tbl := ev_mem (List.mem_of_getElem? (i := 92) (by decide +kernel)) rfl
theorem m_93 : Cond.fieldLink "ElementFiles$Reader" 35 "ElementFiles$Row" "count" "I" ∈ ev_tbl := ev_mem (List.mem_of_getElem? (i := 93) (by decide +kernel)) rfl
theorem m_94 : Cond.arrayClass .int ∈ ev_tbl := ev_mem (List.mem_of_getElem? (i := 99) (by decide +kernel)) rfl
theorem m_95 : Cond.classLink "ElementFiles" 21 "ElementFiles$Frames" ∈ ev_tbl := ev_mem (List.mem_of_getElem? (i := 100) (by decide +kernel)) rfl
theorem m_96 : Cond.instantiable "ElementFiles$Frames" 4 ∈ ev_tbl := ev_mem (List.mem_of_getElem? (i := 101) (by decide +kernel)) rfl
theorem m_97 : Cond.instanceMethod ⟨"ElementFiles$Frames", "<init>", "()V"⟩ ∈ ev_tbl := ev_mem (List.mem_of_getElem? (i := 103) (by decide +kernel)) rfl
theorem m_98 : Cond.code ⟨"ElementFiles$Frames", "<init>", "()V"⟩ prog_4_method_1_code 1 none ∈ ev_tbl := ev_mem (List.mem_of_getElem? (i := 104) (by decide +kernel)) rfl
theorem m_99 : Cond.methodLink "ElementFiles$Frames" 3 ⟨"java/lang/Object", "<init>", "()V"⟩ ∈ ev_tbl := ev_mem (List.mem_of_getElem? (i := 105) (by decide +kernel)) rfl
theorem m_100 : Cond.fieldLink "ElementFiles$Frames" 9 "ElementFiles$Frames" "sizes" "[I" ∈ ev_tbl := ev_mem (List.mem_of_getElem? (i := 106) (by decide +kernel)) rfl
theorem m_101 : Cond.fieldLink "ElementFiles$Frames" 15 "ElementFiles$Frames" "bytes" "[I" ∈ ev_tbl := ev_mem (List.mem_of_getElem? (i := 107) (by decide +kernel)) rfl
theorem m_102 : Cond.fieldLink "ElementFiles$Frames" 18 "ElementFiles$Frames" "count" "I" ∈ ev_tbl := ev_mem (List.mem_of_getElem? (i := 108) (by decide +kernel)) rfl
theorem m_103 : Cond.fieldLink "ElementFiles" 141 "ElementFiles$Frames" "count" "I" ∈ ev_tbl := ev_mem (List.mem_of_getElem? (i := 109) (by decide +kernel)) rfl
theorem m_104 : Cond.fieldLink "ElementFiles$Frames" 22 "ElementFiles$Frames" "filled" "I" ∈ ev_tbl := ev_mem (List.mem_of_getElem? (i := 110) (by decide +kernel)) rfl
theorem m_105 : Cond.fieldLink "ElementFiles" 148 "ElementFiles$Frames" "filled" "I" ∈ ev_tbl := ev_mem (List.mem_of_getElem? (i := 111) (by decide +kernel)) rfl
theorem m_106 : Cond.classLink "ElementFiles" 28 "ElementFiles$Tree" ∈ ev_tbl := ev_mem (List.mem_of_getElem? (i := 121) (by decide +kernel)) rfl
theorem m_107 : Cond.instantiable "ElementFiles$Tree" 5 ∈ ev_tbl := ev_mem (List.mem_of_getElem? (i := 122) (by decide +kernel)) rfl
theorem m_108 : Cond.instanceMethod ⟨"ElementFiles$Tree", "<init>", "()V"⟩ ∈ ev_tbl := ev_mem (List.mem_of_getElem? (i := 124) (by decide +kernel)) rfl
theorem m_109 : Cond.code ⟨"ElementFiles$Tree", "<init>", "()V"⟩ prog_8_method_1_code 1 none ∈ ev_tbl := ev_mem (List.mem_of_getElem? (i := 125) (by decide +kernel)) rfl
theorem m_110 : Cond.methodLink "ElementFiles$Tree" 3 ⟨"java/lang/Object", "<init>", "()V"⟩ ∈ ev_tbl := ev_mem (List.mem_of_getElem? (i := 126) (by decide +kernel)) rfl
theorem m_111 : Cond.classLink "ElementFiles$Tree" 9 "ElementFiles$Element" ∈ ev_tbl := ev_mem (List.mem_of_getElem? (i := 127) (by decide +kernel)) rfl
theorem m_112 : Cond.fieldLink "ElementFiles$Tree" 11 "ElementFiles$Tree" "line" "[LElementFiles$Element;" ∈ ev_tbl := ev_mem (List.mem_of_getElem? (i := 129) (by decide +kernel)) rfl
theorem m_113 : Cond.fieldLink "ElementFiles$Writer" 34 "ElementFiles$Tree" "line" "[LElementFiles$Element;" ∈ ev_tbl := ev_mem (List.mem_of_getElem? (i := 130) (by decide +kernel)) rfl
theorem m_114 : Cond.fieldLink "ElementFiles$Finder" 47 "ElementFiles$Tree" "line" "[LElementFiles$Element;" ∈ ev_tbl := ev_mem (List.mem_of_getElem? (i := 131) (by decide +kernel)) rfl
theorem m_115 : Cond.fieldLink "ElementFiles$Tree" 17 "ElementFiles$Tree" "aside" "[LElementFiles$Element;" ∈ ev_tbl := ev_mem (List.mem_of_getElem? (i := 132) (by decide +kernel)) rfl
theorem m_116 : Cond.fieldLink "ElementFiles$Tree" 24 "ElementFiles$Tree" "count" "I" ∈ ev_tbl := ev_mem (List.mem_of_getElem? (i := 133) (by decide +kernel)) rfl
theorem m_117 : Cond.fieldLink "ElementFiles$Writer" 27 "ElementFiles$Tree" "count" "I" ∈ ev_tbl := ev_mem (List.mem_of_getElem? (i := 134) (by decide +kernel)) rfl
theorem m_118 : Cond.fieldLink "ElementFiles$Finder" 19 "ElementFiles$Tree" "count" "I" ∈ ev_tbl := ev_mem (List.mem_of_getElem? (i := 135) (by decide +kernel)) rfl
theorem m_119 : Cond.fieldLink "ElementFiles$Reader" 50 "ElementFiles$Tree" "count" "I" ∈ ev_tbl := ev_mem (List.mem_of_getElem? (i := 136) (by decide +kernel)) rfl
theorem m_120 : Cond.fieldLink "ElementFiles$Tree" 20 "ElementFiles$Tree" "store" "[I" ∈ ev_tbl := ev_mem (List.mem_of_getElem? (i := 137) (by decide +kernel)) rfl
theorem m_121 : Cond.fieldLink "ElementFiles$Tree" 28 "ElementFiles$Tree" "stored" "I" ∈ ev_tbl := ev_mem (List.mem_of_getElem? (i := 138) (by decide +kernel)) rfl
theorem m_122 : Cond.classLink "ElementFiles" 35 "ElementFiles$Reader" ∈ ev_tbl := ev_mem (List.mem_of_getElem? (i := 150) (by decide +kernel)) rfl
theorem m_123 : Cond.instantiable "ElementFiles$Reader" 9 ∈ ev_tbl := ev_mem (List.mem_of_getElem? (i := 151) (by decide +kernel)) rfl
theorem m_124 : Cond.methodLink "ElementFiles" 37 ⟨"ElementFiles$Reader", "<init>", "(LElementFiles$Row;LElementFiles$Tree;)V"⟩ ∈ ev_tbl := ev_mem (List.mem_of_getElem? (i := 152) (by decide +kernel)) rfl
theorem m_125 : Cond.instanceMethod ⟨"ElementFiles$Reader", "<init>", "(LElementFiles$Row;LElementFiles$Tree;)V"⟩ ∈ ev_tbl := ev_mem (List.mem_of_getElem? (i := 153) (by decide +kernel)) rfl
theorem m_126 : Cond.code ⟨"ElementFiles$Reader", "<init>", "(LElementFiles$Row;LElementFiles$Tree;)V"⟩ prog_5_method_1_code 3 none ∈ ev_tbl := ev_mem (List.mem_of_getElem? (i := 154) (by decide +kernel)) rfl
theorem m_127 : Cond.methodLink "ElementFiles$Reader" 3 ⟨"java/lang/Object", "<init>", "()V"⟩ ∈ ev_tbl := ev_mem (List.mem_of_getElem? (i := 155) (by decide +kernel)) rfl
theorem m_128 : Cond.fieldLink "ElementFiles$Reader" 15 "ElementFiles$Reader" "source" "LElementFiles$Row;" ∈ ev_tbl := ev_mem (List.mem_of_getElem? (i := 156) (by decide +kernel)) rfl
theorem m_129 : Cond.fieldLink "ElementFiles$Reader" 19 "ElementFiles$Reader" "tree" "LElementFiles$Tree;" ∈ ev_tbl := ev_mem (List.mem_of_getElem? (i := 157) (by decide +kernel)) rfl
theorem m_130 : Cond.fieldLink "ElementFiles$Reader" 9 "ElementFiles$Reader" "faultPlace" "I" ∈ ev_tbl := ev_mem (List.mem_of_getElem? (i := 158) (by decide +kernel)) rfl
theorem m_131 : Cond.fieldLink "ElementFiles" 81 "ElementFiles$Reader" "faultPlace" "I" ∈ ev_tbl := ev_mem (List.mem_of_getElem? (i := 159) (by decide +kernel)) rfl
theorem m_132 : Cond.fieldLink "ElementFiles$Reader" 28 "ElementFiles$Reader" "master" "LElementFiles$Element;" ∈ ev_tbl := ev_mem (List.mem_of_getElem? (i := 160) (by decide +kernel)) rfl
theorem m_133 : Cond.fieldLink "ElementFiles$Reader" 32 "ElementFiles$Reader" "place" "I" ∈ ev_tbl := ev_mem (List.mem_of_getElem? (i := 161) (by decide +kernel)) rfl
theorem m_134 : Cond.fieldLink "ElementFiles$Reader" 57 "ElementFiles$Reader" "end" "I" ∈ ev_tbl := ev_mem (List.mem_of_getElem? (i := 162) (by decide +kernel)) rfl
theorem m_135 : Cond.fieldLink "ElementFiles$Reader" 69 "ElementFiles$Reader" "tag" "I" ∈ ev_tbl := ev_mem (List.mem_of_getElem? (i := 163) (by decide +kernel)) rfl
theorem m_136 : Cond.fieldLink "ElementFiles$Reader" 101 "ElementFiles$Reader" "vintIsFull" "Z" ∈ ev_tbl := ev_mem (List.mem_of_getElem? (i := 164) (by decide +kernel)) rfl
theorem m_137 : Cond.fieldLink "ElementFiles$Reader" 176 "ElementFiles$Reader" "vintLength" "I" ∈ ev_tbl := ev_mem (List.mem_of_getElem? (i := 165) (by decide +kernel)) rfl
theorem m_138 : Cond.classLink "ElementFiles" 44 "ElementFiles$Writer" ∈ ev_tbl := ev_mem (List.mem_of_getElem? (i := 185) (by decide +kernel)) rfl
theorem m_139 : Cond.instantiable "ElementFiles$Writer" 3 ∈ ev_tbl := ev_mem (List.mem_of_getElem? (i := 186) (by decide +kernel)) rfl
theorem m_140 : Cond.methodLink "ElementFiles" 46 ⟨"ElementFiles$Writer", "<init>", "(LElementFiles$Tree;LElementFiles$Row;)V"⟩ ∈ ev_tbl := ev_mem (List.mem_of_getElem? (i := 187) (by decide +kernel)) rfl
theorem m_141 : Cond.instanceMethod ⟨"ElementFiles$Writer", "<init>", "(LElementFiles$Tree;LElementFiles$Row;)V"⟩ ∈ ev_tbl := ev_mem (List.mem_of_getElem? (i := 188) (by decide +kernel)) rfl
theorem m_142 : Cond.code ⟨"ElementFiles$Writer", "<init>", "(LElementFiles$Tree;LElementFiles$Row;)V"⟩ prog_9_method_1_code 3 none ∈ ev_tbl := ev_mem (List.mem_of_getElem? (i := 189) (by decide +kernel)) rfl
theorem m_143 : Cond.methodLink "ElementFiles$Writer" 3 ⟨"java/lang/Object", "<init>", "()V"⟩ ∈ ev_tbl := ev_mem (List.mem_of_getElem? (i := 190) (by decide +kernel)) rfl
theorem m_144 : Cond.classLink "ElementFiles$Writer" 9 "ElementFiles$Row" ∈ ev_tbl := ev_mem (List.mem_of_getElem? (i := 191) (by decide +kernel)) rfl
theorem m_145 : Cond.methodLink "ElementFiles$Writer" 11 ⟨"ElementFiles$Row", "<init>", "(I)V"⟩ ∈ ev_tbl := ev_mem (List.mem_of_getElem? (i := 192) (by decide +kernel)) rfl
theorem m_146 : Cond.fieldLink "ElementFiles$Writer" 20 "ElementFiles$Writer" "tree" "LElementFiles$Tree;" ∈ ev_tbl := ev_mem (List.mem_of_getElem? (i := 193) (by decide +kernel)) rfl
theorem m_147 : Cond.fieldLink "ElementFiles$Writer" 24 "ElementFiles$Writer" "target" "LElementFiles$Row;" ∈ ev_tbl := ev_mem (List.mem_of_getElem? (i := 194) (by decide +kernel)) rfl
theorem m_148 : Cond.fieldLink "ElementFiles$Writer" 14 "ElementFiles$Writer" "counter" "LElementFiles$Row;" ∈ ev_tbl := ev_mem (List.mem_of_getElem? (i := 195) (by decide +kernel)) rfl
theorem m_149 : Cond.classLink "ElementFiles" 53 "ElementFiles$Finder" ∈ ev_tbl := ev_mem (List.mem_of_getElem? (i := 203) (by decide +kernel)) rfl
theorem m_150 : Cond.instantiable "ElementFiles$Finder" 1 ∈ ev_tbl := ev_mem (List.mem_of_getElem? (i := 204) (by decide +kernel)) rfl
theorem m_151 : Cond.methodLink "ElementFiles" 55 ⟨"ElementFiles$Finder", "<init>", "(LElementFiles$Tree;)V"⟩ ∈ ev_tbl := ev_mem (List.mem_of_getElem? (i := 205) (by decide +kernel)) rfl
theorem m_152 : Cond.instanceMethod ⟨"ElementFiles$Finder", "<init>", "(LElementFiles$Tree;)V"⟩ ∈ ev_tbl := ev_mem (List.mem_of_getElem? (i := 206) (by decide +kernel)) rfl
theorem m_153 : Cond.code ⟨"ElementFiles$Finder", "<init>", "(LElementFiles$Tree;)V"⟩ prog_3_method_1_code 2 none ∈ ev_tbl := ev_mem (List.mem_of_getElem? (i := 207) (by decide +kernel)) rfl
theorem m_154 : Cond.methodLink "ElementFiles$Finder" 3 ⟨"java/lang/Object", "<init>", "()V"⟩ ∈ ev_tbl := ev_mem (List.mem_of_getElem? (i := 208) (by decide +kernel)) rfl
theorem m_155 : Cond.fieldLink "ElementFiles$Finder" 9 "ElementFiles$Finder" "tree" "LElementFiles$Tree;" ∈ ev_tbl := ev_mem (List.mem_of_getElem? (i := 209) (by decide +kernel)) rfl
theorem m_156 : Cond.fieldLink "ElementFiles" 14 "ElementFiles" "fed" "LElementFiles$Row;" ∈ ev_tbl := ev_mem (List.mem_of_getElem? (i := 213) (by decide +kernel)) rfl
theorem m_157 : Cond.fieldLink "ElementFiles" 18 "ElementFiles" "written" "LElementFiles$Row;" ∈ ev_tbl := ev_mem (List.mem_of_getElem? (i := 214) (by decide +kernel)) rfl
theorem m_158 : Cond.fieldLink "ElementFiles" 24 "ElementFiles" "atHand" "LElementFiles$Frames;" ∈ ev_tbl := ev_mem (List.mem_of_getElem? (i := 215) (by decide +kernel)) rfl
theorem m_159 : Cond.fieldLink "ElementFiles" 31 "ElementFiles" "tree" "LElementFiles$Tree;" ∈ ev_tbl := ev_mem (List.mem_of_getElem? (i := 216) (by decide +kernel)) rfl
theorem m_160 : Cond.fieldLink "ElementFiles" 40 "ElementFiles" "reader" "LElementFiles$Reader;" ∈ ev_tbl := ev_mem (List.mem_of_getElem? (i := 217) (by decide +kernel)) rfl
theorem m_161 : Cond.fieldLink "ElementFiles" 49 "ElementFiles" "writer" "LElementFiles$Writer;" ∈ ev_tbl := ev_mem (List.mem_of_getElem? (i := 218) (by decide +kernel)) rfl
theorem m_162 : Cond.fieldLink "ElementFiles" 58 "ElementFiles" "finder" "LElementFiles$Finder;" ∈ ev_tbl := ev_mem (List.mem_of_getElem? (i := 219) (by decide +kernel)) rfl
theorem m_163 : Cond.methodLink "ElementFilesLaw" 15 ⟨"ElementFiles", "feed", "(JI)I"⟩ ∈ ev_tbl := ev_mem (List.mem_of_getElem? (i := 235) (by decide +kernel)) rfl
theorem m_164 : Cond.instanceMethod ⟨"ElementFiles", "feed", "(JI)I"⟩ ∈ ev_tbl := ev_mem (List.mem_of_getElem? (i := 236) (by decide +kernel)) rfl
theorem m_165 : Cond.selects "ElementFiles" ⟨"ElementFiles", "feed", "(JI)I"⟩ ⟨"ElementFiles", "feed", "(JI)I"⟩ ∈ ev_tbl := ev_mem (List.mem_of_getElem? (i := 237) (by decide +kernel)) rfl
theorem m_166 : Cond.code ⟨"ElementFiles", "feed", "(JI)I"⟩ prog_1_method_2_code 4 (some .int) ∈ ev_tbl := ev_mem (List.mem_of_getElem? (i := 238) (by decide +kernel)) rfl
theorem m_167 : Cond.methodLink "ElementFiles" 66 ⟨"ElementFiles$Row", "putNumber", "(JI)V"⟩ ∈ ev_tbl := ev_mem (List.mem_of_getElem? (i := 239) (by decide +kernel)) rfl
theorem m_168 : Cond.instanceMethod ⟨"ElementFiles$Row", "putNumber", "(JI)V"⟩ ∈ ev_tbl := ev_mem (List.mem_of_getElem? (i := 240) (by decide +kernel)) rfl
theorem m_169 : Cond.selects "ElementFiles$Row" ⟨"ElementFiles$Row", "putNumber", "(JI)V"⟩ ⟨"ElementFiles$Row", "putNumber", "(JI)V"⟩ ∈ ev_tbl := ev_mem (List.mem_of_getElem? (i := 241) (by decide +kernel)) rfl
theorem m_170 : Cond.code ⟨"ElementFiles$Row", "putNumber", "(JI)V"⟩ prog_6_method_5_code 5 none ∈ ev_tbl := ev_mem (List.mem_of_getElem? (i := 242) (by decide +kernel)) rfl
theorem m_171 : Cond.methodLink "ElementFiles$Row" 19 ⟨"ElementFiles$Row", "put", "(I)V"⟩ ∈ ev_tbl := ev_mem (List.mem_of_getElem? (i := 243) (by decide +kernel)) rfl
theorem m_172 : Cond.instanceMethod ⟨"ElementFiles$Row", "put", "(I)V"⟩ ∈ ev_tbl := ev_mem (List.mem_of_getElem? (i := 244) (by decide +kernel)) rfl
theorem m_173 : Cond.selects "ElementFiles$Row" ⟨"ElementFiles$Row", "put", "(I)V"⟩ ⟨"ElementFiles$Row", "put", "(I)V"⟩ ∈ ev_tbl := ev_mem (List.mem_of_getElem? (i := 245) (by decide +kernel)) rfl
theorem m_174 : Cond.code ⟨"ElementFiles$Row", "put", "(I)V"⟩ prog_6_method_4_code 2 none ∈ ev_tbl := ev_mem (List.mem_of_getElem? (i := 246) (by decide +kernel)) rfl
theorem m_175 : Cond.methodLink "ElementFilesLaw" 20 ⟨"ElementFiles", "take", "(Z)I"⟩ ∈ ev_tbl := ev_mem (List.mem_of_getElem? (i := 247) (by decide +kernel)) rfl
theorem m_176 : Cond.instanceMethod ⟨"ElementFiles", "take", "(Z)I"⟩ ∈ ev_tbl := ev_mem (List.mem_of_getElem? (i := 248) (by decide +kernel)) rfl
theorem m_177 : Cond.selects "ElementFiles" ⟨"ElementFiles", "take", "(Z)I"⟩ ⟨"ElementFiles", "take", "(Z)I"⟩ ∈ ev_tbl := ev_mem (List.mem_of_getElem? (i := 249) (by decide +kernel)) rfl
theorem m_178 : Cond.code ⟨"ElementFiles", "take", "(Z)I"⟩ prog_1_method_3_code 3 (some .int) ∈ ev_tbl := ev_mem (List.mem_of_getElem? (i := 250) (by decide +kernel)) rfl
theorem m_179 : Cond.methodLink "ElementFiles" 70 ⟨"ElementFiles$Row", "at", "(I)I"⟩ ∈ ev_tbl := ev_mem (List.mem_of_getElem? (i := 251) (by decide +kernel)) rfl
theorem m_180 : Cond.instanceMethod ⟨"ElementFiles$Row", "at", "(I)I"⟩ ∈ ev_tbl := ev_mem (List.mem_of_getElem? (i := 252) (by decide +kernel)) rfl
theorem m_181 : Cond.selects "ElementFiles$Row" ⟨"ElementFiles$Row", "at", "(I)I"⟩ ⟨"ElementFiles$Row", "at", "(I)I"⟩ ∈ ev_tbl := ev_mem (List.mem_of_getElem? (i := 253) (by decide +kernel)) rfl
theorem m_182 : Cond.code ⟨"ElementFiles$Row", "at", "(I)I"⟩ prog_6_method_2_code 2 (some .int) ∈ ev_tbl := ev_mem (List.mem_of_getElem? (i := 254) (by decide +kernel)) rfl
theorem m_183 : Cond.methodLink "ElementFiles" 74 ⟨"ElementFiles$Row", "put", "(I)V"⟩ ∈ ev_tbl := ev_mem (List.mem_of_getElem? (i := 255) (by decide +kernel)) rfl
theorem m_184 : Cond.methodLink "ElementFilesLaw" 25 ⟨"ElementFiles", "out", "(I)I"⟩ ∈ ev_tbl := ev_mem (List.mem_of_getElem? (i := 256) (by decide +kernel)) rfl
theorem m_185 : Cond.instanceMethod ⟨"ElementFiles", "out", "(I)I"⟩ ∈ ev_tbl := ev_mem (List.mem_of_getElem? (i := 257) (by decide +kernel)) rfl
theorem m_186 : Cond.selects "ElementFiles" ⟨"ElementFiles", "out", "(I)I"⟩ ⟨"ElementFiles", "out", "(I)I"⟩ ∈ ev_tbl := ev_mem (List.mem_of_getElem? (i := 258) (by decide +kernel)) rfl
theorem m_187 : Cond.code ⟨"ElementFiles", "out", "(I)I"⟩ prog_1_method_4_code 2 (some .int) ∈ ev_tbl := ev_mem (List.mem_of_getElem? (i := 259) (by decide +kernel)) rfl
theorem m_188 : Cond.methodLink "ElementFilesLaw" 30 ⟨"ElementFiles", "read", "()I"⟩ ∈ ev_tbl := ev_mem (List.mem_of_getElem? (i := 260) (by decide +kernel)) rfl
theorem m_189 : Cond.instanceMethod ⟨"ElementFiles", "read", "()I"⟩ ∈ ev_tbl := ev_mem (List.mem_of_getElem? (i := 261) (by decide +kernel)) rfl
theorem m_190 : Cond.selects "ElementFiles" ⟨"ElementFiles", "read", "()I"⟩ ⟨"ElementFiles", "read", "()I"⟩ ∈ ev_tbl := ev_mem (List.mem_of_getElem? (i := 262) (by decide +kernel)) rfl
theorem m_191 : Cond.code ⟨"ElementFiles", "read", "()I"⟩ prog_1_method_5_code 1 (some .int) ∈ ev_tbl := ev_mem (List.mem_of_getElem? (i := 263) (by decide +kernel)) rfl
theorem m_192 : Cond.methodLink "ElementFiles" 77 ⟨"ElementFiles$Reader", "readTree", "()I"⟩ ∈ ev_tbl := ev_mem (List.mem_of_getElem? (i := 264) (by decide +kernel)) rfl
theorem m_193 : Cond.instanceMethod ⟨"ElementFiles$Reader", "readTree", "()I"⟩ ∈ ev_tbl := ev_mem (List.mem_of_getElem? (i := 265) (by decide +kernel)) rfl
theorem m_194 : Cond.selects "ElementFiles$Reader" ⟨"ElementFiles$Reader", "readTree", "()I"⟩ ⟨"ElementFiles$Reader", "readTree", "()I"⟩ ∈ ev_tbl := ev_mem (List.mem_of_getElem? (i := 266) (by decide +kernel)) rfl
theorem m_195 : Cond.code ⟨"ElementFiles$Reader", "readTree", "()I"⟩ prog_5_method_2_code 4 (some .int) ∈ ev_tbl := ev_mem (List.mem_of_getElem? (i := 267) (by decide +kernel)) rfl
theorem m_196 : Cond.methodLink "ElementFiles$Reader" 23 ⟨"ElementFiles$Tree", "empty", "()V"⟩ ∈ ev_tbl := ev_mem (List.mem_of_getElem? (i := 268) (by decide +kernel)) rfl
theorem m_197 : Cond.instanceMethod ⟨"ElementFiles$Tree", "empty", "()V"⟩ ∈ ev_tbl := ev_mem (List.mem_of_getElem? (i := 269) (by decide +kernel)) rfl
theorem m_198 : Cond.selects "ElementFiles$Tree" ⟨"ElementFiles$Tree", "empty", "()V"⟩ ⟨"ElementFiles$Tree", "empty", "()V"⟩ ∈ ev_tbl := ev_mem (List.mem_of_getElem? (i := 270) (by decide +kernel)) rfl
theorem m_199 : Cond.code ⟨"ElementFiles$Tree", "empty", "()V"⟩ prog_8_method_2_code 1 none ∈ ev_tbl := ev_mem (List.mem_of_getElem? (i := 271) (by decide +kernel)) rfl
theorem m_200 : Cond.methodLink "ElementFiles$Reader" 40 ⟨"ElementFiles$Reader", "readTag", "()I"⟩ ∈ ev_tbl := ev_mem (List.mem_of_getElem? (i := 272) (by decide +kernel)) rfl
theorem m_201 : Cond.instanceMethod ⟨"ElementFiles$Reader", "readTag", "()I"⟩ ∈ ev_tbl := ev_mem (List.mem_of_getElem? (i := 274) (by decide +kernel)) rfl
theorem m_202 : Cond.code ⟨"ElementFiles$Reader", "readTag", "()I"⟩ prog_5_method_3_code 4 (some .int) ∈ ev_tbl := ev_mem (List.mem_of_getElem? (i := 275) (by decide +kernel)) rfl
theorem m_203 : Cond.methodLink "ElementFiles$Reader" 58 ⟨"ElementFiles$Row", "at", "(I)I"⟩ ∈ ev_tbl := ev_mem (List.mem_of_getElem? (i := 276) (by decide +kernel)) rfl
theorem m_204 : Cond.static ⟨"ElementFiles", "vintLengthByFirst", "(I)I"⟩ ∈ ev_tbl := ev_mem (List.mem_of_getElem? (i := 278) (by decide +kernel)) rfl
theorem m_205 : Cond.code ⟨"ElementFiles", "vintLengthByFirst", "(I)I"⟩ prog_1_method_24_code 2 (some .int) ∈ ev_tbl := ev_mem (List.mem_of_getElem? (i := 279) (by decide +kernel)) rfl
theorem m_206 : Cond.methodLink "ElementFiles$Reader" 65 ⟨"ElementFiles$Reader", "nextNumber", "(I)J"⟩ ∈ ev_tbl := ev_mem (List.mem_of_getElem? (i := 280) (by decide +kernel)) rfl
theorem m_207 : Cond.instanceMethod ⟨"ElementFiles$Reader", "nextNumber", "(I)J"⟩ ∈ ev_tbl := ev_mem (List.mem_of_getElem? (i := 282) (by decide +kernel)) rfl
theorem m_208 : Cond.code ⟨"ElementFiles$Reader", "nextNumber", "(I)J"⟩ prog_5_method_14_code 5 (some .long) ∈ ev_tbl := ev_mem (List.mem_of_getElem? (i := 283) (by decide +kernel)) rfl
theorem m_209 : Cond.methodLink "ElementFiles$Reader" 72 ⟨"ElementFiles$Sort", "of", "(I)LElementFiles$Sort;"⟩ ∈ ev_tbl := ev_mem (List.mem_of_getElem? (i := 284) (by decide +kernel)) rfl
theorem m_210 : Cond.static ⟨"ElementFiles$Sort", "of", "(I)LElementFiles$Sort;"⟩ ∈ ev_tbl := ev_mem (List.mem_of_getElem? (i := 285) (by decide +kernel)) rfl
theorem m_211 : Cond.code ⟨"ElementFiles$Sort", "of", "(I)LElementFiles$Sort;"⟩ prog_7_method_4_code 2 (some (.object "ElementFiles$Sort")) ∈ ev_tbl := ev_mem (List.mem_of_getElem? (i := 286) (by decide +kernel)) rfl
theorem m_212 : Cond.fieldLink "ElementFiles$Sort" 89 "ElementFiles$Sort" "ALL" "[LElementFiles$Sort;" ∈ ev_tbl := ev_mem (List.mem_of_getElem? (i := 287) (by decide +kernel)) rfl
theorem m_213 : Cond.fieldLink "ElementFiles$Sort" 54 "ElementFiles$Sort" "FOREIGN" "LElementFiles$Sort;" ∈ ev_tbl := ev_mem (List.mem_of_getElem? (i := 289) (by decide +kernel)) rfl
theorem m_214 : Cond.methodLink "ElementFiles$Reader" 89 ⟨"ElementFiles$Sort", "fits", "(I)Z"⟩ ∈ ev_tbl := ev_mem (List.mem_of_getElem? (i := 291) (by decide +kernel)) rfl
theorem m_215 : Cond.instanceMethod ⟨"ElementFiles$Sort", "fits", "(I)Z"⟩ ∈ ev_tbl := ev_mem (List.mem_of_getElem? (i := 292) (by decide +kernel)) rfl
theorem m_216 : Cond.selects "ElementFiles$Sort" ⟨"ElementFiles$Sort", "fits", "(I)Z"⟩ ⟨"ElementFiles$Sort", "fits", "(I)Z"⟩ ∈ ev_tbl := ev_mem (List.mem_of_getElem? (i := 293) (by decide +kernel)) rfl
theorem m_217 : Cond.code ⟨"ElementFiles$Sort", "fits", "(I)Z"⟩ prog_7_method_5_code 2 (some .boolean) ∈ ev_tbl := ev_mem (List.mem_of_getElem? (i := 294) (by decide +kernel)) rfl
theorem m_218 : Cond.methodLink "ElementFiles$Reader" 93 ⟨"ElementFiles$Tree", "mayStand", "(LElementFiles$Sort;LElementFiles$Element;)Z"⟩ ∈ ev_tbl := ev_mem (List.mem_of_getElem? (i := 295) (by decide +kernel)) rfl
theorem m_219 : Cond.instanceMethod ⟨"ElementFiles$Tree", "mayStand", "(LElementFiles$Sort;LElementFiles$Element;)Z"⟩ ∈ ev_tbl := ev_mem (List.mem_of_getElem? (i := 296) (by decide +kernel)) rfl
theorem m_220 : Cond.selects "ElementFiles$Tree" ⟨"ElementFiles$Tree", "mayStand", "(LElementFiles$Sort;LElementFiles$Element;)Z"⟩ ⟨"ElementFiles$Tree", "mayStand", "(LElementFiles$Sort;LElementFiles$Element;)Z"⟩ ∈ ev_tbl := ev_mem (List.mem_of_getElem? (i := 297) (by decide +kernel)) rfl
theorem m_221 : Cond.code ⟨"ElementFiles$Tree", "mayStand", "(LElementFiles$Sort;LElementFiles$Element;)Z"⟩ prog_8_method_7_code 4 (some .boolean) ∈ ev_tbl := ev_mem (List.mem_of_getElem? (i := 298) (by decide +kernel)) rfl
theorem m_222 : Cond.methodLink "ElementFiles$Tree" 45 ⟨"ElementFiles$Sort", "fits", "(I)Z"⟩ ∈ ev_tbl := ev_mem (List.mem_of_getElem? (i := 299) (by decide +kernel)) rfl
theorem m_223 : Cond.fieldLink "ElementFiles$Tree" 51 "ElementFiles$Sort" "CHECK" "LElementFiles$Sort;" ∈ ev_tbl := ev_mem (List.mem_of_getElem? (i := 300) (by decide +kernel)) rfl
theorem m_224 : Cond.methodLink "ElementFiles$Tree" 37 ⟨"ElementFiles$Tree", "endOf", "(LElementFiles$Element;)I"⟩ ∈ ev_tbl := ev_mem (List.mem_of_getElem? (i := 302) (by decide +kernel)) rfl
theorem m_225 : Cond.instanceMethod ⟨"ElementFiles$Tree", "endOf", "(LElementFiles$Element;)I"⟩ ∈ ev_tbl := ev_mem (List.mem_of_getElem? (i := 303) (by decide +kernel)) rfl
theorem m_226 : Cond.selects "ElementFiles$Tree" ⟨"ElementFiles$Tree", "endOf", "(LElementFiles$Element;)I"⟩ ⟨"ElementFiles$Tree", "endOf", "(LElementFiles$Element;)I"⟩ ∈ ev_tbl := ev_mem (List.mem_of_getElem? (i := 304) (by decide +kernel)) rfl
theorem m_227 : Cond.code ⟨"ElementFiles$Tree", "endOf", "(LElementFiles$Element;)I"⟩ prog_8_method_4_code 3 (some .int) ∈ ev_tbl := ev_mem (List.mem_of_getElem? (i := 305) (by decide +kernel)) rfl
theorem m_228 : Cond.methodLink "ElementFiles$Reader" 44 ⟨"ElementFiles$Reader", "readSize", "()I"⟩ ∈ ev_tbl := ev_mem (List.mem_of_getElem? (i := 306) (by decide +kernel)) rfl
theorem m_229 : Cond.instanceMethod ⟨"ElementFiles$Reader", "readSize", "()I"⟩ ∈ ev_tbl := ev_mem (List.mem_of_getElem? (i := 308) (by decide +kernel)) rfl
theorem m_230 : Cond.code ⟨"ElementFiles$Reader", "readSize", "()I"⟩ prog_5_method_4_code 6 (some .int) ∈ ev_tbl := ev_mem (List.mem_of_getElem? (i := 309) (by decide +kernel)) rfl
theorem m_231 : Cond.methodLink "ElementFiles$Reader" 97 ⟨"ElementFiles$Reader", "nextVint", "()J"⟩ ∈ ev_tbl := ev_mem (List.mem_of_getElem? (i := 310) (by decide +kernel)) rfl
theorem m_232 : Cond.instanceMethod ⟨"ElementFiles$Reader", "nextVint", "()J"⟩ ∈ ev_tbl := ev_mem (List.mem_of_getElem? (i := 312) (by decide +kernel)) rfl
theorem m_233 : Cond.code ⟨"ElementFiles$Reader", "nextVint", "()J"⟩ prog_5_method_15_code 5 (some .long) ∈ ev_tbl := ev_mem (List.mem_of_getElem? (i := 313) (by decide +kernel)) rfl
theorem m_234 : Cond.constantLong "ElementFiles$Reader" 182 (-1) ∈ ev_tbl := ev_mem (List.mem_of_getElem? (i := 314) (by decide +kernel)) rfl
theorem m_235 : Cond.static ⟨"ElementFiles", "allOnes", "(I)J"⟩ ∈ ev_tbl := ev_mem (List.mem_of_getElem? (i := 316) (by decide +kernel)) rfl
theorem m_236 : Cond.code ⟨"ElementFiles", "allOnes", "(I)J"⟩ prog_1_method_25_code 1 (some .long) ∈ ev_tbl := ev_mem (List.mem_of_getElem? (i := 317) (by decide +kernel)) rfl
theorem m_237 : Cond.fieldLink "ElementFiles$Reader" 104 "ElementFiles$Sort" "SEGMENT" "LElementFiles$Sort;" ∈ ev_tbl := ev_mem (List.mem_of_getElem? (i := 318) (by decide +kernel)) rfl
theorem m_238 : Cond.fieldLink "ElementFiles$Reader" 107 "ElementFiles$Sort" "CLUSTER" "LElementFiles$Sort;" ∈ ev_tbl := ev_mem (List.mem_of_getElem? (i := 320) (by decide +kernel)) rfl
theorem m_239 : Cond.methodLink "ElementFiles$Reader" 110 ⟨"ElementFiles$Tree", "add", "(LElementFiles$Element;LElementFiles$Sort;I)LElementFiles$Element;"⟩ ∈ ev_tbl := ev_mem (List.mem_of_getElem? (i := 322) (by decide +kernel)) rfl
theorem m_240 : Cond.instanceMethod ⟨"ElementFiles$Tree", "add", "(LElementFiles$Element;LElementFiles$Sort;I)LElementFiles$Element;"⟩ ∈ ev_tbl := ev_mem (List.mem_of_getElem? (i := 323) (by decide +kernel)) rfl
theorem m_241 : Cond.selects "ElementFiles$Tree" ⟨"ElementFiles$Tree", "add", "(LElementFiles$Element;LElementFiles$Sort;I)LElementFiles$Element;"⟩ ⟨"ElementFiles$Tree", "add", "(LElementFiles$Element;LElementFiles$Sort;I)LElementFiles$Element;"⟩ ∈ ev_tbl := ev_mem (List.mem_of_getElem? (i := 324) (by decide +kernel)) rfl
theorem m_242 : Cond.code ⟨"ElementFiles$Tree", "add", "(LElementFiles$Element;LElementFiles$Sort;I)LElementFiles$Element;"⟩ prog_8_method_8_code 7 (some (.object "ElementFiles$Element")) ∈ ev_tbl := ev_mem (List.mem_of_getElem? (i := 325) (by decide +kernel)) rfl
theorem m_243 : Cond.instantiable "ElementFiles$Element" 17 ∈ ev_tbl := ev_mem (List.mem_of_getElem? (i := 326) (by decide +kernel)) rfl
theorem m_244 : Cond.instanceMethod ⟨"ElementFiles$Element", "<init>", "()V"⟩ ∈ ev_tbl := ev_mem (List.mem_of_getElem? (i := 328) (by decide +kernel)) rfl
theorem m_245 : Cond.code ⟨"ElementFiles$Element", "<init>", "()V"⟩ prog_2_method_1_code 1 none ∈ ev_tbl := ev_mem (List.mem_of_getElem? (i := 329) (by decide +kernel)) rfl
theorem m_246 : Cond.methodLink "ElementFiles$Element" 3 ⟨"java/lang/Object", "<init>", "()V"⟩ ∈ ev_tbl := ev_mem (List.mem_of_getElem? (i := 330) (by decide +kernel)) rfl
theorem m_247 : Cond.fieldLink "ElementFiles$Element" 9 "ElementFiles$Sort" "FOREIGN" "LElementFiles$Sort;" ∈ ev_tbl := ev_mem (List.mem_of_getElem? (i := 331) (by decide +kernel)) rfl
theorem m_248 : Cond.fieldLink "ElementFiles$Element" 15 "ElementFiles$Element" "sort" "LElementFiles$Sort;" ∈ ev_tbl := ev_mem (List.mem_of_getElem? (i := 332) (by decide +kernel)) rfl
theorem m_249 : Cond.fieldLink "ElementFiles$Finder" 51 "ElementFiles$Element" "sort" "LElementFiles$Sort;" ∈ ev_tbl := ev_mem (List.mem_of_getElem? (i := 333) (by decide +kernel)) rfl
theorem m_250 : Cond.fieldLink "ElementFiles$Writer" 69 "ElementFiles$Element" "sort" "LElementFiles$Sort;" ∈ ev_tbl := ev_mem (List.mem_of_getElem? (i := 334) (by decide +kernel)) rfl
theorem m_251 : Cond.fieldLink "ElementFiles$Reader" 82 "ElementFiles$Element" "sort" "LElementFiles$Sort;" ∈ ev_tbl := ev_mem (List.mem_of_getElem? (i := 335) (by decide +kernel)) rfl
theorem m_252 : Cond.fieldLink "ElementFiles$Tree" 55 "ElementFiles$Element" "sort" "LElementFiles$Sort;" ∈ ev_tbl := ev_mem (List.mem_of_getElem? (i := 336) (by decide +kernel)) rfl
theorem m_253 : Cond.fieldLink "ElementFiles" 128 "ElementFiles$Element" "sort" "LElementFiles$Sort;" ∈ ev_tbl := ev_mem (List.mem_of_getElem? (i := 337) (by decide +kernel)) rfl
theorem m_254 : Cond.fieldLink "ElementFiles$Element" 24 "ElementFiles$Element" "tag" "I" ∈ ev_tbl := ev_mem (List.mem_of_getElem? (i := 338) (by decide +kernel)) rfl
theorem m_255 : Cond.fieldLink "ElementFiles$Writer" 55 "ElementFiles$Element" "tag" "I" ∈ ev_tbl := ev_mem (List.mem_of_getElem? (i := 339) (by decide +kernel)) rfl
theorem m_256 : Cond.fieldLink "ElementFiles" 165 "ElementFiles$Element" "tag" "I" ∈ ev_tbl := ev_mem (List.mem_of_getElem? (i := 340) (by decide +kernel)) rfl
theorem m_257 : Cond.fieldLink "ElementFiles$Element" 28 "ElementFiles$Element" "master" "LElementFiles$Element;" ∈ ev_tbl := ev_mem (List.mem_of_getElem? (i := 341) (by decide +kernel)) rfl
theorem m_258 : Cond.fieldLink "ElementFiles$Writer" 61 "ElementFiles$Element" "master" "LElementFiles$Element;" ∈ ev_tbl := ev_mem (List.mem_of_getElem? (i := 342) (by decide +kernel)) rfl
theorem m_259 : Cond.fieldLink "ElementFiles$Reader" 56 "ElementFiles$Element" "master" "LElementFiles$Element;" ∈ ev_tbl := ev_mem (List.mem_of_getElem? (i := 343) (by decide +kernel)) rfl
theorem m_260 : Cond.fieldLink "ElementFiles$Tree" 41 "ElementFiles$Element" "master" "LElementFiles$Element;" ∈ ev_tbl := ev_mem (List.mem_of_getElem? (i := 344) (by decide +kernel)) rfl
theorem m_261 : Cond.fieldLink "ElementFiles$Finder" 96 "ElementFiles$Element" "master" "LElementFiles$Element;" ∈ ev_tbl := ev_mem (List.mem_of_getElem? (i := 345) (by decide +kernel)) rfl
theorem m_262 : Cond.fieldLink "ElementFiles" 166 "ElementFiles$Element" "master" "LElementFiles$Element;" ∈ ev_tbl := ev_mem (List.mem_of_getElem? (i := 346) (by decide +kernel)) rfl
theorem m_263 : Cond.fieldLink "ElementFiles$Element" 32 "ElementFiles$Element" "level" "I" ∈ ev_tbl := ev_mem (List.mem_of_getElem? (i := 347) (by decide +kernel)) rfl
theorem m_264 : Cond.fieldLink "ElementFiles$Tree" 34 "ElementFiles$Element" "level" "I" ∈ ev_tbl := ev_mem (List.mem_of_getElem? (i := 348) (by decide +kernel)) rfl
theorem m_265 : Cond.fieldLink "ElementFiles$Finder" 42 "ElementFiles$Element" "number" "I" ∈ ev_tbl := ev_mem (List.mem_of_getElem? (i := 349) (by decide +kernel)) rfl
theorem m_266 : Cond.fieldLink "ElementFiles$Tree" 31 "ElementFiles$Element" "number" "I" ∈ ev_tbl := ev_mem (List.mem_of_getElem? (i := 350) (by decide +kernel)) rfl
theorem m_267 : Cond.fieldLink "ElementFiles" 125 "ElementFiles$Element" "number" "I" ∈ ev_tbl := ev_mem (List.mem_of_getElem? (i := 351) (by decide +kernel)) rfl
theorem m_268 : Cond.fieldLink "ElementFiles$Element" 35 "ElementFiles$Element" "amount" "J" ∈ ev_tbl := ev_mem (List.mem_of_getElem? (i := 352) (by decide +kernel)) rfl
theorem m_269 : Cond.fieldLink "ElementFiles$Finder" 92 "ElementFiles$Element" "amount" "J" ∈ ev_tbl := ev_mem (List.mem_of_getElem? (i := 353) (by decide +kernel)) rfl
theorem m_270 : Cond.fieldLink "ElementFiles$Reader" 126 "ElementFiles$Element" "amount" "J" ∈ ev_tbl := ev_mem (List.mem_of_getElem? (i := 354) (by decide +kernel)) rfl
theorem m_271 : Cond.fieldLink "ElementFiles$Writer" 104 "ElementFiles$Element" "amount" "J" ∈ ev_tbl := ev_mem (List.mem_of_getElem? (i := 355) (by decide +kernel)) rfl
theorem m_272 : Cond.fieldLink "ElementFiles" 119 "ElementFiles$Element" "amount" "J" ∈ ev_tbl := ev_mem (List.mem_of_getElem? (i := 356) (by decide +kernel)) rfl
theorem m_273 : Cond.fieldLink "ElementFiles$Element" 20 "ElementFiles$Element" "parts" "[I" ∈ ev_tbl := ev_mem (List.mem_of_getElem? (i := 357) (by decide +kernel)) rfl
theorem m_274 : Cond.fieldLink "ElementFiles$Element" 39 "ElementFiles$Element" "storedFrom" "I" ∈ ev_tbl := ev_mem (List.mem_of_getElem? (i := 358) (by decide +kernel)) rfl
theorem m_275 : Cond.fieldLink "ElementFiles$Writer" 130 "ElementFiles$Element" "storedFrom" "I" ∈ ev_tbl := ev_mem (List.mem_of_getElem? (i := 359) (by decide +kernel)) rfl
theorem m_276 : Cond.fieldLink "ElementFiles$Tree" 70 "ElementFiles$Element" "storedFrom" "I" ∈ ev_tbl := ev_mem (List.mem_of_getElem? (i := 360) (by decide +kernel)) rfl
theorem m_277 : Cond.fieldLink "ElementFiles" 186 "ElementFiles$Element" "storedFrom" "I" ∈ ev_tbl := ev_mem (List.mem_of_getElem? (i := 361) (by decide +kernel)) rfl
theorem m_278 : Cond.fieldLink "ElementFiles$Element" 42 "ElementFiles$Element" "storedSize" "I" ∈ ev_tbl := ev_mem (List.mem_of_getElem? (i := 362) (by decide +kernel)) rfl
theorem m_279 : Cond.fieldLink "ElementFiles$Writer" 127 "ElementFiles$Element" "storedSize" "I" ∈ ev_tbl := ev_mem (List.mem_of_getElem? (i := 363) (by decide +kernel)) rfl
theorem m_280 : Cond.fieldLink "ElementFiles$Tree" 73 "ElementFiles$Element" "storedSize" "I" ∈ ev_tbl := ev_mem (List.mem_of_getElem? (i := 364) (by decide +kernel)) rfl
theorem m_281 : Cond.fieldLink "ElementFiles" 183 "ElementFiles$Element" "storedSize" "I" ∈ ev_tbl := ev_mem (List.mem_of_getElem? (i := 365) (by decide +kernel)) rfl
theorem m_282 : Cond.fieldLink "ElementFiles$Element" 45 "ElementFiles$Element" "track" "I" ∈ ev_tbl := ev_mem (List.mem_of_getElem? (i := 366) (by decide +kernel)) rfl
theorem m_283 : Cond.fieldLink "ElementFiles$Finder" 86 "ElementFiles$Element" "track" "I" ∈ ev_tbl := ev_mem (List.mem_of_getElem? (i := 367) (by decide +kernel)) rfl
theorem m_284 : Cond.fieldLink "ElementFiles$Writer" 136 "ElementFiles$Element" "track" "I" ∈ ev_tbl := ev_mem (List.mem_of_getElem? (i := 368) (by decide +kernel)) rfl
theorem m_285 : Cond.fieldLink "ElementFiles" 193 "ElementFiles$Element" "track" "I" ∈ ev_tbl := ev_mem (List.mem_of_getElem? (i := 369) (by decide +kernel)) rfl
theorem m_286 : Cond.fieldLink "ElementFiles$Element" 48 "ElementFiles$Element" "time" "I" ∈ ev_tbl := ev_mem (List.mem_of_getElem? (i := 370) (by decide +kernel)) rfl
theorem m_287 : Cond.fieldLink "ElementFiles$Finder" 100 "ElementFiles$Element" "time" "I" ∈ ev_tbl := ev_mem (List.mem_of_getElem? (i := 371) (by decide +kernel)) rfl
theorem m_288 : Cond.fieldLink "ElementFiles$Writer" 139 "ElementFiles$Element" "time" "I" ∈ ev_tbl := ev_mem (List.mem_of_getElem? (i := 372) (by decide +kernel)) rfl
theorem m_289 : Cond.fieldLink "ElementFiles" 196 "ElementFiles$Element" "time" "I" ∈ ev_tbl := ev_mem (List.mem_of_getElem? (i := 373) (by decide +kernel)) rfl
theorem m_290 : Cond.fieldLink "ElementFiles$Finder" 57 "ElementFiles$Element" "key" "Z" ∈ ev_tbl := ev_mem (List.mem_of_getElem? (i := 374) (by decide +kernel)) rfl
theorem m_291 : Cond.fieldLink "ElementFiles$Element" 51 "ElementFiles$Element" "key" "Z" ∈ ev_tbl := ev_mem (List.mem_of_getElem? (i := 375) (by decide +kernel)) rfl
theorem m_292 : Cond.fieldLink "ElementFiles$Writer" 142 "ElementFiles$Element" "key" "Z" ∈ ev_tbl := ev_mem (List.mem_of_getElem? (i := 376) (by decide +kernel)) rfl
theorem m_293 : Cond.fieldLink "ElementFiles" 199 "ElementFiles$Element" "key" "Z" ∈ ev_tbl := ev_mem (List.mem_of_getElem? (i := 377) (by decide +kernel)) rfl
theorem m_294 : Cond.fieldLink "ElementFiles$Element" 55 "ElementFiles$Element" "lacing" "I" ∈ ev_tbl := ev_mem (List.mem_of_getElem? (i := 378) (by decide +kernel)) rfl
theorem m_295 : Cond.fieldLink "ElementFiles$Reader" 167 "ElementFiles$Element" "lacing" "I" ∈ ev_tbl := ev_mem (List.mem_of_getElem? (i := 379) (by decide +kernel)) rfl
theorem m_296 : Cond.fieldLink "ElementFiles$Writer" 146 "ElementFiles$Element" "lacing" "I" ∈ ev_tbl := ev_mem (List.mem_of_getElem? (i := 380) (by decide +kernel)) rfl
theorem m_297 : Cond.fieldLink "ElementFiles" 203 "ElementFiles$Element" "lacing" "I" ∈ ev_tbl := ev_mem (List.mem_of_getElem? (i := 381) (by decide +kernel)) rfl
theorem m_298 : Cond.fieldLink "ElementFiles$Reader" 51 "ElementFiles$Element" "end" "I" ∈ ev_tbl := ev_mem (List.mem_of_getElem? (i := 382) (by decide +kernel)) rfl
theorem m_299 : Cond.fieldLink "ElementFiles$Reader" 78 "ElementFiles$Element" "open" "Z" ∈ ev_tbl := ev_mem (List.mem_of_getElem? (i := 383) (by decide +kernel)) rfl
theorem m_300 : Cond.fieldLink "ElementFiles$Writer" 42 "ElementFiles$Element" "dataSize" "I" ∈ ev_tbl := ev_mem (List.mem_of_getElem? (i := 384) (by decide +kernel)) rfl
theorem m_301 : Cond.fieldLink "ElementFiles$Writer" 98 "ElementFiles$Element" "dataPlace" "I" ∈ ev_tbl := ev_mem (List.mem_of_getElem? (i := 385) (by decide +kernel)) rfl
theorem m_302 : Cond.methodLink "ElementFiles$Tree" 62 ⟨"ElementFiles$Tree", "putInLine", "(ILElementFiles$Element;)V"⟩ ∈ ev_tbl := ev_mem (List.mem_of_getElem? (i := 421) (by decide +kernel)) rfl
theorem m_303 : Cond.instanceMethod ⟨"ElementFiles$Tree", "putInLine", "(ILElementFiles$Element;)V"⟩ ∈ ev_tbl := ev_mem (List.mem_of_getElem? (i := 423) (by decide +kernel)) rfl
theorem m_304 : Cond.code ⟨"ElementFiles$Tree", "putInLine", "(ILElementFiles$Element;)V"⟩ prog_8_method_9_code 3 none ∈ ev_tbl := ev_mem (List.mem_of_getElem? (i := 424) (by decide +kernel)) rfl
theorem m_305 : Cond.methodLink "ElementFiles$Tree" 66 ⟨"ElementFiles$Element", "begin", "(LElementFiles$Sort;ILElementFiles$Element;)V"⟩ ∈ ev_tbl := ev_mem (List.mem_of_getElem? (i := 425) (by decide +kernel)) rfl
theorem m_306 : Cond.instanceMethod ⟨"ElementFiles$Element", "begin", "(LElementFiles$Sort;ILElementFiles$Element;)V"⟩ ∈ ev_tbl := ev_mem (List.mem_of_getElem? (i := 426) (by decide +kernel)) rfl
theorem m_307 : Cond.selects "ElementFiles$Element" ⟨"ElementFiles$Element", "begin", "(LElementFiles$Sort;ILElementFiles$Element;)V"⟩ ⟨"ElementFiles$Element", "begin", "(LElementFiles$Sort;ILElementFiles$Element;)V"⟩ ∈ ev_tbl := ev_mem (List.mem_of_getElem? (i := 427) (by decide +kernel)) rfl
theorem m_308 : Cond.code ⟨"ElementFiles$Element", "begin", "(LElementFiles$Sort;ILElementFiles$Element;)V"⟩ prog_2_method_2_code 4 none ∈ ev_tbl := ev_mem (List.mem_of_getElem? (i := 428) (by decide +kernel)) rfl
theorem m_309 : Cond.methodLink "ElementFiles$Reader" 47 ⟨"ElementFiles$Reader", "readData", "()I"⟩ ∈ ev_tbl := ev_mem (List.mem_of_getElem? (i := 429) (by decide +kernel)) rfl
theorem m_310 : Cond.instanceMethod ⟨"ElementFiles$Reader", "readData", "()I"⟩ ∈ ev_tbl := ev_mem (List.mem_of_getElem? (i := 431) (by decide +kernel)) rfl
theorem m_311 : Cond.code ⟨"ElementFiles$Reader", "readData", "()I"⟩ prog_5_method_5_code 3 (some .int) ∈ ev_tbl := ev_mem (List.mem_of_getElem? (i := 432) (by decide +kernel)) rfl
theorem m_312 : Cond.methodLink "ElementFiles$Reader" 114 ⟨"ElementFiles$Tree", "at", "(I)LElementFiles$Element;"⟩ ∈ ev_tbl := ev_mem (List.mem_of_getElem? (i := 433) (by decide +kernel)) rfl
theorem m_313 : Cond.instanceMethod ⟨"ElementFiles$Tree", "at", "(I)LElementFiles$Element;"⟩ ∈ ev_tbl := ev_mem (List.mem_of_getElem? (i := 434) (by decide +kernel)) rfl
theorem m_314 : Cond.selects "ElementFiles$Tree" ⟨"ElementFiles$Tree", "at", "(I)LElementFiles$Element;"⟩ ⟨"ElementFiles$Tree", "at", "(I)LElementFiles$Element;"⟩ ∈ ev_tbl := ev_mem (List.mem_of_getElem? (i := 435) (by decide +kernel)) rfl
theorem m_315 : Cond.code ⟨"ElementFiles$Tree", "at", "(I)LElementFiles$Element;"⟩ prog_8_method_3_code 2 (some (.object "ElementFiles$Element")) ∈ ev_tbl := ev_mem (List.mem_of_getElem? (i := 436) (by decide +kernel)) rfl
theorem m_316 : Cond.methodLink "ElementFiles$Reader" 120 ⟨"java/lang/Math", "min", "(II)I"⟩ ∈ ev_tbl := ev_mem (List.mem_of_getElem? (i := 437) (by decide +kernel)) rfl
theorem m_317 : Cond.static ⟨"java/lang/Math", "min", "(II)I"⟩ ∈ ev_tbl := ev_mem (List.mem_of_getElem? (i := 438) (by decide +kernel)) rfl
theorem m_318 : Cond.code ⟨"java/lang/Math", "min", "(II)I"⟩ prog_13_method_69_code 2 (some .int) ∈ ev_tbl := ev_mem (List.mem_of_getElem? (i := 439) (by decide +kernel)) rfl
theorem m_319 : Cond.methodLink "ElementFiles$Reader" 130 ⟨"ElementFiles$Reader", "readText", "(LElementFiles$Element;)Z"⟩ ∈ ev_tbl := ev_mem (List.mem_of_getElem? (i := 440) (by decide +kernel)) rfl
theorem m_320 : Cond.instanceMethod ⟨"ElementFiles$Reader", "readText", "(LElementFiles$Element;)Z"⟩ ∈ ev_tbl := ev_mem (List.mem_of_getElem? (i := 442) (by decide +kernel)) rfl
theorem m_321 : Cond.code ⟨"ElementFiles$Reader", "readText", "(LElementFiles$Element;)Z"⟩ prog_5_method_6_code 5 (some .boolean) ∈ ev_tbl := ev_mem (List.mem_of_getElem? (i := 443) (by decide +kernel)) rfl
theorem m_322 : Cond.static ⟨"ElementFiles", "isLetter", "(I)Z"⟩ ∈ ev_tbl := ev_mem (List.mem_of_getElem? (i := 445) (by decide +kernel)) rfl
theorem m_323 : Cond.code ⟨"ElementFiles", "isLetter", "(I)Z"⟩ prog_1_method_23_code 1 (some .boolean) ∈ ev_tbl := ev_mem (List.mem_of_getElem? (i := 446) (by decide +kernel)) rfl
theorem m_324 : Cond.methodLink "ElementFiles$Reader" 152 ⟨"ElementFiles$Element", "addPart", "(I)Z"⟩ ∈ ev_tbl := ev_mem (List.mem_of_getElem? (i := 447) (by decide +kernel)) rfl
theorem m_325 : Cond.instanceMethod ⟨"ElementFiles$Element", "addPart", "(I)Z"⟩ ∈ ev_tbl := ev_mem (List.mem_of_getElem? (i := 448) (by decide +kernel)) rfl
theorem m_326 : Cond.selects "ElementFiles$Element" ⟨"ElementFiles$Element", "addPart", "(I)Z"⟩ ⟨"ElementFiles$Element", "addPart", "(I)Z"⟩ ∈ ev_tbl := ev_mem (List.mem_of_getElem? (i := 449) (by decide +kernel)) rfl
theorem m_327 : Cond.code ⟨"ElementFiles$Element", "addPart", "(I)Z"⟩ prog_2_method_4_code 2 (some .boolean) ∈ ev_tbl := ev_mem (List.mem_of_getElem? (i := 450) (by decide +kernel)) rfl
theorem m_328 : Cond.methodLink "ElementFiles$Reader" 134 ⟨"ElementFiles$Reader", "readBlockHead", "(LElementFiles$Element;)I"⟩ ∈ ev_tbl := ev_mem (List.mem_of_getElem? (i := 451) (by decide +kernel)) rfl
theorem m_329 : Cond.instanceMethod ⟨"ElementFiles$Reader", "readBlockHead", "(LElementFiles$Element;)I"⟩ ∈ ev_tbl := ev_mem (List.mem_of_getElem? (i := 453) (by decide +kernel)) rfl
theorem m_330 : Cond.code ⟨"ElementFiles$Reader", "readBlockHead", "(LElementFiles$Element;)I"⟩ prog_5_method_8_code 7 (some .int) ∈ ev_tbl := ev_mem (List.mem_of_getElem? (i := 454) (by decide +kernel)) rfl
theorem m_331 : Cond.constantLong "ElementFiles$Reader" 158 (126) ∈ ev_tbl := ev_mem (List.mem_of_getElem? (i := 455) (by decide +kernel)) rfl
theorem m_332 : Cond.methodLink "ElementFiles$Reader" 160 ⟨"ElementFiles$Reader", "nextByte", "()I"⟩ ∈ ev_tbl := ev_mem (List.mem_of_getElem? (i := 456) (by decide +kernel)) rfl
theorem m_333 : Cond.instanceMethod ⟨"ElementFiles$Reader", "nextByte", "()I"⟩ ∈ ev_tbl := ev_mem (List.mem_of_getElem? (i := 458) (by decide +kernel)) rfl
theorem m_334 : Cond.code ⟨"ElementFiles$Reader", "nextByte", "()I"⟩ prog_5_method_13_code 2 (some .int) ∈ ev_tbl := ev_mem (List.mem_of_getElem? (i := 459) (by decide +kernel)) rfl
theorem m_335 : Cond.methodLink "ElementFiles$Reader" 163 ⟨"ElementFiles$Element", "setDetails", "(IIZI)V"⟩ ∈ ev_tbl := ev_mem (List.mem_of_getElem? (i := 460) (by decide +kernel)) rfl
theorem m_336 : Cond.instanceMethod ⟨"ElementFiles$Element", "setDetails", "(IIZI)V"⟩ ∈ ev_tbl := ev_mem (List.mem_of_getElem? (i := 461) (by decide +kernel)) rfl
theorem m_337 : Cond.selects "ElementFiles$Element" ⟨"ElementFiles$Element", "setDetails", "(IIZI)V"⟩ ⟨"ElementFiles$Element", "setDetails", "(IIZI)V"⟩ ∈ ev_tbl := ev_mem (List.mem_of_getElem? (i := 462) (by decide +kernel)) rfl
theorem m_338 : Cond.code ⟨"ElementFiles$Element", "setDetails", "(IIZI)V"⟩ prog_2_method_3_code 5 none ∈ ev_tbl := ev_mem (List.mem_of_getElem? (i := 463) (by decide +kernel)) rfl
theorem m_339 : Cond.methodLink "ElementFiles$Reader" 138 ⟨"ElementFiles$Reader", "readSizes", "(LElementFiles$Element;I)Z"⟩ ∈ ev_tbl := ev_mem (List.mem_of_getElem? (i := 464) (by decide +kernel)) rfl
theorem m_340 : Cond.instanceMethod ⟨"ElementFiles$Reader", "readSizes", "(LElementFiles$Element;I)Z"⟩ ∈ ev_tbl := ev_mem (List.mem_of_getElem? (i := 466) (by decide +kernel)) rfl
theorem m_341 : Cond.code ⟨"ElementFiles$Reader", "readSizes", "(LElementFiles$Element;I)Z"⟩ prog_5_method_10_code 9 (some .boolean) ∈ ev_tbl := ev_mem (List.mem_of_getElem? (i := 467) (by decide +kernel)) rfl
theorem m_342 : Cond.methodLink "ElementFiles$Reader" 170 ⟨"ElementFiles$Reader", "shareEvenly", "(LElementFiles$Element;I)Z"⟩ ∈ ev_tbl := ev_mem (List.mem_of_getElem? (i := 468) (by decide +kernel)) rfl
theorem m_343 : Cond.instanceMethod ⟨"ElementFiles$Reader", "shareEvenly", "(LElementFiles$Element;I)Z"⟩ ∈ ev_tbl := ev_mem (List.mem_of_getElem? (i := 470) (by decide +kernel)) rfl
theorem m_344 : Cond.code ⟨"ElementFiles$Reader", "shareEvenly", "(LElementFiles$Element;I)Z"⟩ prog_5_method_9_code 4 (some .boolean) ∈ ev_tbl := ev_mem (List.mem_of_getElem? (i := 471) (by decide +kernel)) rfl
theorem m_345 : Cond.methodLink "ElementFiles$Reader" 173 ⟨"ElementFiles$Reader", "nextSizeOfBytes", "()J"⟩ ∈ ev_tbl := ev_mem (List.mem_of_getElem? (i := 472) (by decide +kernel)) rfl
theorem m_346 : Cond.instanceMethod ⟨"ElementFiles$Reader", "nextSizeOfBytes", "()J"⟩ ∈ ev_tbl := ev_mem (List.mem_of_getElem? (i := 474) (by decide +kernel)) rfl
theorem m_347 : Cond.code ⟨"ElementFiles$Reader", "nextSizeOfBytes", "()J"⟩ prog_5_method_11_code 5 (some .long) ∈ ev_tbl := ev_mem (List.mem_of_getElem? (i := 475) (by decide +kernel)) rfl
theorem m_348 : Cond.static ⟨"ElementFiles", "surplus", "(I)J"⟩ ∈ ev_tbl := ev_mem (List.mem_of_getElem? (i := 477) (by decide +kernel)) rfl
theorem m_349 : Cond.code ⟨"ElementFiles", "surplus", "(I)J"⟩ prog_1_method_26_code 1 (some .long) ∈ ev_tbl := ev_mem (List.mem_of_getElem? (i := 478) (by decide +kernel)) rfl
theorem m_350 : Cond.methodLink "ElementFiles$Reader" 142 ⟨"ElementFiles$Reader", "storeRest", "(LElementFiles$Element;)V"⟩ ∈ ev_tbl := ev_mem (List.mem_of_getElem? (i := 479) (by decide +kernel)) rfl
theorem m_351 : Cond.instanceMethod ⟨"ElementFiles$Reader", "storeRest", "(LElementFiles$Element;)V"⟩ ∈ ev_tbl := ev_mem (List.mem_of_getElem? (i := 481) (by decide +kernel)) rfl
theorem m_352 : Cond.code ⟨"ElementFiles$Reader", "storeRest", "(LElementFiles$Element;)V"⟩ prog_5_method_12_code 3 none ∈ ev_tbl := ev_mem (List.mem_of_getElem? (i := 482) (by decide +kernel)) rfl
theorem m_353 : Cond.methodLink "ElementFiles$Reader" 184 ⟨"ElementFiles$Tree", "beginStoring", "(LElementFiles$Element;)V"⟩ ∈ ev_tbl := ev_mem (List.mem_of_getElem? (i := 483) (by decide +kernel)) rfl
theorem m_354 : Cond.instanceMethod ⟨"ElementFiles$Tree", "beginStoring", "(LElementFiles$Element;)V"⟩ ∈ ev_tbl := ev_mem (List.mem_of_getElem? (i := 484) (by decide +kernel)) rfl
theorem m_355 : Cond.selects "ElementFiles$Tree" ⟨"ElementFiles$Tree", "beginStoring", "(LElementFiles$Element;)V"⟩ ⟨"ElementFiles$Tree", "beginStoring", "(LElementFiles$Element;)V"⟩ ∈ ev_tbl := ev_mem (List.mem_of_getElem? (i := 485) (by decide +kernel)) rfl
theorem m_356 : Cond.code ⟨"ElementFiles$Tree", "beginStoring", "(LElementFiles$Element;)V"⟩ prog_8_method_13_code 2 none ∈ ev_tbl := ev_mem (List.mem_of_getElem? (i := 486) (by decide +kernel)) rfl
theorem m_357 : Cond.methodLink "ElementFiles$Reader" 187 ⟨"ElementFiles$Tree", "storeFor", "(LElementFiles$Element;I)V"⟩ ∈ ev_tbl := ev_mem (List.mem_of_getElem? (i := 487) (by decide +kernel)) rfl
theorem m_358 : Cond.instanceMethod ⟨"ElementFiles$Tree", "storeFor", "(LElementFiles$Element;I)V"⟩ ∈ ev_tbl := ev_mem (List.mem_of_getElem? (i := 488) (by decide +kernel)) rfl
theorem m_359 : Cond.selects "ElementFiles$Tree" ⟨"ElementFiles$Tree", "storeFor", "(LElementFiles$Element;I)V"⟩ ⟨"ElementFiles$Tree", "storeFor", "(LElementFiles$Element;I)V"⟩ ∈ ev_tbl := ev_mem (List.mem_of_getElem? (i := 489) (by decide +kernel)) rfl
theorem m_360 : Cond.code ⟨"ElementFiles$Tree", "storeFor", "(LElementFiles$Element;I)V"⟩ prog_8_method_14_code 3 none ∈ ev_tbl := ev_mem (List.mem_of_getElem? (i := 490) (by decide +kernel)) rfl
theorem m_361 : Cond.methodLink "ElementFiles$Reader" 146 ⟨"ElementFiles$Reader", "readCheck", "(LElementFiles$Element;)Z"⟩ ∈ ev_tbl := ev_mem (List.mem_of_getElem? (i := 491) (by decide +kernel)) rfl
theorem m_362 : Cond.instanceMethod ⟨"ElementFiles$Reader", "readCheck", "(LElementFiles$Element;)Z"⟩ ∈ ev_tbl := ev_mem (List.mem_of_getElem? (i := 493) (by decide +kernel)) rfl
theorem m_363 : Cond.code ⟨"ElementFiles$Reader", "readCheck", "(LElementFiles$Element;)Z"⟩ prog_5_method_7_code 4 (some .boolean) ∈ ev_tbl := ev_mem (List.mem_of_getElem? (i := 494) (by decide +kernel)) rfl
theorem m_364 : Cond.methodLink "ElementFiles$Reader" 155 ⟨"ElementFiles$Row", "sum", "(II)I"⟩ ∈ ev_tbl := ev_mem (List.mem_of_getElem? (i := 495) (by decide +kernel)) rfl
theorem m_365 : Cond.instanceMethod ⟨"ElementFiles$Row", "sum", "(II)I"⟩ ∈ ev_tbl := ev_mem (List.mem_of_getElem? (i := 496) (by decide +kernel)) rfl
theorem m_366 : Cond.selects "ElementFiles$Row" ⟨"ElementFiles$Row", "sum", "(II)I"⟩ ⟨"ElementFiles$Row", "sum", "(II)I"⟩ ∈ ev_tbl := ev_mem (List.mem_of_getElem? (i := 497) (by decide +kernel)) rfl
theorem m_367 : Cond.code ⟨"ElementFiles$Row", "sum", "(II)I"⟩ prog_6_method_7_code 6 (some .int) ∈ ev_tbl := ev_mem (List.mem_of_getElem? (i := 498) (by decide +kernel)) rfl
theorem m_368 : Cond.methodLink "ElementFiles$Row" 31 ⟨"ElementFiles$Row", "at", "(I)I"⟩ ∈ ev_tbl := ev_mem (List.mem_of_getElem? (i := 499) (by decide +kernel)) rfl
theorem m_369 : Cond.constant "ElementFiles$Row" 35 (-306674912) ∈ ev_tbl := ev_mem (List.mem_of_getElem? (i := 500) (by decide +kernel)) rfl
theorem m_370 : Cond.methodLink "ElementFilesLaw" 35 ⟨"ElementFiles", "where", "()I"⟩ ∈ ev_tbl := ev_mem (List.mem_of_getElem? (i := 501) (by decide +kernel)) rfl
theorem m_371 : Cond.instanceMethod ⟨"ElementFiles", "where", "()I"⟩ ∈ ev_tbl := ev_mem (List.mem_of_getElem? (i := 502) (by decide +kernel)) rfl
theorem m_372 : Cond.selects "ElementFiles" ⟨"ElementFiles", "where", "()I"⟩ ⟨"ElementFiles", "where", "()I"⟩ ∈ ev_tbl := ev_mem (List.mem_of_getElem? (i := 503) (by decide +kernel)) rfl
theorem m_373 : Cond.code ⟨"ElementFiles", "where", "()I"⟩ prog_1_method_6_code 1 (some .int) ∈ ev_tbl := ev_mem (List.mem_of_getElem? (i := 504) (by decide +kernel)) rfl
theorem m_374 : Cond.methodLink "ElementFilesLaw" 39 ⟨"ElementFiles", "clear", "()V"⟩ ∈ ev_tbl := ev_mem (List.mem_of_getElem? (i := 505) (by decide +kernel)) rfl
theorem m_375 : Cond.instanceMethod ⟨"ElementFiles", "clear", "()V"⟩ ∈ ev_tbl := ev_mem (List.mem_of_getElem? (i := 506) (by decide +kernel)) rfl
theorem m_376 : Cond.selects "ElementFiles" ⟨"ElementFiles", "clear", "()V"⟩ ⟨"ElementFiles", "clear", "()V"⟩ ∈ ev_tbl := ev_mem (List.mem_of_getElem? (i := 507) (by decide +kernel)) rfl
theorem m_377 : Cond.code ⟨"ElementFiles", "clear", "()V"⟩ prog_1_method_7_code 1 none ∈ ev_tbl := ev_mem (List.mem_of_getElem? (i := 508) (by decide +kernel)) rfl
theorem m_378 : Cond.methodLink "ElementFiles" 84 ⟨"ElementFiles$Tree", "empty", "()V"⟩ ∈ ev_tbl := ev_mem (List.mem_of_getElem? (i := 509) (by decide +kernel)) rfl
theorem m_379 : Cond.methodLink "ElementFilesLaw" 43 ⟨"ElementFiles", "make", "(IIJ)I"⟩ ∈ ev_tbl := ev_mem (List.mem_of_getElem? (i := 510) (by decide +kernel)) rfl
theorem m_380 : Cond.instanceMethod ⟨"ElementFiles", "make", "(IIJ)I"⟩ ∈ ev_tbl := ev_mem (List.mem_of_getElem? (i := 511) (by decide +kernel)) rfl
theorem m_381 : Cond.selects "ElementFiles" ⟨"ElementFiles", "make", "(IIJ)I"⟩ ⟨"ElementFiles", "make", "(IIJ)I"⟩ ∈ ev_tbl := ev_mem (List.mem_of_getElem? (i := 512) (by decide +kernel)) rfl
theorem m_382 : Cond.code ⟨"ElementFiles", "make", "(IIJ)I"⟩ prog_1_method_8_code 8 (some .int) ∈ ev_tbl := ev_mem (List.mem_of_getElem? (i := 513) (by decide +kernel)) rfl
theorem m_383 : Cond.methodLink "ElementFiles" 87 ⟨"ElementFiles$Tree", "at", "(I)LElementFiles$Element;"⟩ ∈ ev_tbl := ev_mem (List.mem_of_getElem? (i := 514) (by decide +kernel)) rfl
theorem m_384 : Cond.methodLink "ElementFiles" 90 ⟨"ElementFiles$Sort", "of", "(I)LElementFiles$Sort;"⟩ ∈ ev_tbl := ev_mem (List.mem_of_getElem? (i := 515) (by decide +kernel)) rfl
theorem m_385 : Cond.fieldLink "ElementFiles" 96 "ElementFiles$Sort" "BLOCK" "LElementFiles$Sort;" ∈ ev_tbl := ev_mem (List.mem_of_getElem? (i := 516) (by decide +kernel)) rfl
theorem m_386 : Cond.fieldLink "ElementFiles" 100 "ElementFiles$Sort" "FOREIGN" "LElementFiles$Sort;" ∈ ev_tbl := ev_mem (List.mem_of_getElem? (i := 518) (by decide +kernel)) rfl
theorem m_387 : Cond.methodLink "ElementFiles" 103 ⟨"ElementFiles$Tree", "mayStand", "(LElementFiles$Sort;LElementFiles$Element;)Z"⟩ ∈ ev_tbl := ev_mem (List.mem_of_getElem? (i := 519) (by decide +kernel)) rfl
theorem m_388 : Cond.fieldLink "ElementFiles" 107 "ElementFiles$Sort" "VOID" "LElementFiles$Sort;" ∈ ev_tbl := ev_mem (List.mem_of_getElem? (i := 520) (by decide +kernel)) rfl
theorem m_389 : Cond.constantLong "ElementFiles" 110 (64) ∈ ev_tbl := ev_mem (List.mem_of_getElem? (i := 522) (by decide +kernel)) rfl
theorem m_390 : Cond.methodLink "ElementFiles" 112 ⟨"ElementFiles$Tree", "add", "(LElementFiles$Element;LElementFiles$Sort;I)LElementFiles$Element;"⟩ ∈ ev_tbl := ev_mem (List.mem_of_getElem? (i := 523) (by decide +kernel)) rfl
theorem m_391 : Cond.methodLink "ElementFilesLaw" 48 ⟨"ElementFiles", "letter", "(IC)I"⟩ ∈ ev_tbl := ev_mem (List.mem_of_getElem? (i := 524) (by decide +kernel)) rfl
theorem m_392 : Cond.instanceMethod ⟨"ElementFiles", "letter", "(IC)I"⟩ ∈ ev_tbl := ev_mem (List.mem_of_getElem? (i := 525) (by decide +kernel)) rfl
theorem m_393 : Cond.selects "ElementFiles" ⟨"ElementFiles", "letter", "(IC)I"⟩ ⟨"ElementFiles", "letter", "(IC)I"⟩ ∈ ev_tbl := ev_mem (List.mem_of_getElem? (i := 526) (by decide +kernel)) rfl
theorem m_394 : Cond.code ⟨"ElementFiles", "letter", "(IC)I"⟩ prog_1_method_9_code 4 (some .int) ∈ ev_tbl := ev_mem (List.mem_of_getElem? (i := 527) (by decide +kernel)) rfl
theorem m_395 : Cond.methodLink "ElementFiles" 131 ⟨"ElementFiles", "isLetter", "(I)Z"⟩ ∈ ev_tbl := ev_mem (List.mem_of_getElem? (i := 528) (by decide +kernel)) rfl
theorem m_396 : Cond.methodLink "ElementFiles" 135 ⟨"ElementFiles$Element", "addPart", "(I)Z"⟩ ∈ ev_tbl := ev_mem (List.mem_of_getElem? (i := 529) (by decide +kernel)) rfl
theorem m_397 : Cond.methodLink "ElementFilesLaw" 53 ⟨"ElementFiles", "frame", "(II)I"⟩ ∈ ev_tbl := ev_mem (List.mem_of_getElem? (i := 530) (by decide +kernel)) rfl
theorem m_398 : Cond.instanceMethod ⟨"ElementFiles", "frame", "(II)I"⟩ ∈ ev_tbl := ev_mem (List.mem_of_getElem? (i := 531) (by decide +kernel)) rfl
theorem m_399 : Cond.selects "ElementFiles" ⟨"ElementFiles", "frame", "(II)I"⟩ ⟨"ElementFiles", "frame", "(II)I"⟩ ∈ ev_tbl := ev_mem (List.mem_of_getElem? (i := 532) (by decide +kernel)) rfl
theorem m_400 : Cond.code ⟨"ElementFiles", "frame", "(II)I"⟩ prog_1_method_10_code 3 (some .int) ∈ ev_tbl := ev_mem (List.mem_of_getElem? (i := 533) (by decide +kernel)) rfl
theorem m_401 : Cond.methodLink "ElementFiles" 138 ⟨"ElementFiles$Frames", "add", "(II)Z"⟩ ∈ ev_tbl := ev_mem (List.mem_of_getElem? (i := 534) (by decide +kernel)) rfl
theorem m_402 : Cond.instanceMethod ⟨"ElementFiles$Frames", "add", "(II)Z"⟩ ∈ ev_tbl := ev_mem (List.mem_of_getElem? (i := 535) (by decide +kernel)) rfl
theorem m_403 : Cond.selects "ElementFiles$Frames" ⟨"ElementFiles$Frames", "add", "(II)Z"⟩ ⟨"ElementFiles$Frames", "add", "(II)Z"⟩ ∈ ev_tbl := ev_mem (List.mem_of_getElem? (i := 536) (by decide +kernel)) rfl
theorem m_404 : Cond.code ⟨"ElementFiles$Frames", "add", "(II)Z"⟩ prog_4_method_2_code 4 (some .boolean) ∈ ev_tbl := ev_mem (List.mem_of_getElem? (i := 537) (by decide +kernel)) rfl
theorem m_405 : Cond.methodLink "ElementFilesLaw" 58 ⟨"ElementFiles", "block", "(IIIZI)I"⟩ ∈ ev_tbl := ev_mem (List.mem_of_getElem? (i := 538) (by decide +kernel)) rfl
theorem m_406 : Cond.instanceMethod ⟨"ElementFiles", "block", "(IIIZI)I"⟩ ∈ ev_tbl := ev_mem (List.mem_of_getElem? (i := 539) (by decide +kernel)) rfl
theorem m_407 : Cond.selects "ElementFiles" ⟨"ElementFiles", "block", "(IIIZI)I"⟩ ⟨"ElementFiles", "block", "(IIIZI)I"⟩ ∈ ev_tbl := ev_mem (List.mem_of_getElem? (i := 540) (by decide +kernel)) rfl
theorem m_408 : Cond.code ⟨"ElementFiles", "block", "(IIIZI)I"⟩ prog_1_method_11_code 8 (some .int) ∈ ev_tbl := ev_mem (List.mem_of_getElem? (i := 541) (by decide +kernel)) rfl
theorem m_409 : Cond.fieldLink "ElementFiles" 142 "ElementFiles$Sort" "CLUSTER" "LElementFiles$Sort;" ∈ ev_tbl := ev_mem (List.mem_of_getElem? (i := 542) (by decide +kernel)) rfl
theorem m_410 : Cond.methodLink "ElementFiles" 145 ⟨"ElementFiles$Frames", "suit", "(I)Z"⟩ ∈ ev_tbl := ev_mem (List.mem_of_getElem? (i := 543) (by decide +kernel)) rfl
theorem m_411 : Cond.instanceMethod ⟨"ElementFiles$Frames", "suit", "(I)Z"⟩ ∈ ev_tbl := ev_mem (List.mem_of_getElem? (i := 544) (by decide +kernel)) rfl
theorem m_412 : Cond.selects "ElementFiles$Frames" ⟨"ElementFiles$Frames", "suit", "(I)Z"⟩ ⟨"ElementFiles$Frames", "suit", "(I)Z"⟩ ∈ ev_tbl := ev_mem (List.mem_of_getElem? (i := 545) (by decide +kernel)) rfl
theorem m_413 : Cond.code ⟨"ElementFiles$Frames", "suit", "(I)Z"⟩ prog_4_method_3_code 2 (some .boolean) ∈ ev_tbl := ev_mem (List.mem_of_getElem? (i := 546) (by decide +kernel)) rfl
theorem m_414 : Cond.methodLink "ElementFiles$Frames" 25 ⟨"ElementFiles$Frames", "areEven", "()Z"⟩ ∈ ev_tbl := ev_mem (List.mem_of_getElem? (i := 547) (by decide +kernel)) rfl
theorem m_415 : Cond.instanceMethod ⟨"ElementFiles$Frames", "areEven", "()Z"⟩ ∈ ev_tbl := ev_mem (List.mem_of_getElem? (i := 549) (by decide +kernel)) rfl
theorem m_416 : Cond.code ⟨"ElementFiles$Frames", "areEven", "()Z"⟩ prog_4_method_4_code 2 (some .boolean) ∈ ev_tbl := ev_mem (List.mem_of_getElem? (i := 550) (by decide +kernel)) rfl
theorem m_417 : Cond.methodLink "ElementFiles" 151 ⟨"ElementFiles$Tree", "canStore", "(I)Z"⟩ ∈ ev_tbl := ev_mem (List.mem_of_getElem? (i := 551) (by decide +kernel)) rfl
theorem m_418 : Cond.instanceMethod ⟨"ElementFiles$Tree", "canStore", "(I)Z"⟩ ∈ ev_tbl := ev_mem (List.mem_of_getElem? (i := 552) (by decide +kernel)) rfl
theorem m_419 : Cond.selects "ElementFiles$Tree" ⟨"ElementFiles$Tree", "canStore", "(I)Z"⟩ ⟨"ElementFiles$Tree", "canStore", "(I)Z"⟩ ∈ ev_tbl := ev_mem (List.mem_of_getElem? (i := 553) (by decide +kernel)) rfl
theorem m_420 : Cond.code ⟨"ElementFiles$Tree", "canStore", "(I)Z"⟩ prog_8_method_12_code 2 (some .boolean) ∈ ev_tbl := ev_mem (List.mem_of_getElem? (i := 554) (by decide +kernel)) rfl
theorem m_421 : Cond.methodLink "ElementFiles" 157 ⟨"ElementFiles$Element", "setDetails", "(IIZI)V"⟩ ∈ ev_tbl := ev_mem (List.mem_of_getElem? (i := 555) (by decide +kernel)) rfl
theorem m_422 : Cond.methodLink "ElementFiles" 161 ⟨"ElementFiles$Frames", "moveTo", "(LElementFiles$Element;LElementFiles$Tree;)V"⟩ ∈ ev_tbl := ev_mem (List.mem_of_getElem? (i := 556) (by decide +kernel)) rfl
theorem m_423 : Cond.instanceMethod ⟨"ElementFiles$Frames", "moveTo", "(LElementFiles$Element;LElementFiles$Tree;)V"⟩ ∈ ev_tbl := ev_mem (List.mem_of_getElem? (i := 557) (by decide +kernel)) rfl
theorem m_424 : Cond.selects "ElementFiles$Frames" ⟨"ElementFiles$Frames", "moveTo", "(LElementFiles$Element;LElementFiles$Tree;)V"⟩ ⟨"ElementFiles$Frames", "moveTo", "(LElementFiles$Element;LElementFiles$Tree;)V"⟩ ∈ ev_tbl := ev_mem (List.mem_of_getElem? (i := 558) (by decide +kernel)) rfl
theorem m_425 : Cond.code ⟨"ElementFiles$Frames", "moveTo", "(LElementFiles$Element;LElementFiles$Tree;)V"⟩ prog_4_method_5_code 4 none ∈ ev_tbl := ev_mem (List.mem_of_getElem? (i := 559) (by decide +kernel)) rfl
theorem m_426 : Cond.methodLink "ElementFiles$Frames" 29 ⟨"ElementFiles$Element", "addPart", "(I)Z"⟩ ∈ ev_tbl := ev_mem (List.mem_of_getElem? (i := 560) (by decide +kernel)) rfl
theorem m_427 : Cond.methodLink "ElementFiles$Frames" 35 ⟨"ElementFiles$Tree", "beginStoring", "(LElementFiles$Element;)V"⟩ ∈ ev_tbl := ev_mem (List.mem_of_getElem? (i := 561) (by decide +kernel)) rfl
theorem m_428 : Cond.methodLink "ElementFiles$Frames" 41 ⟨"ElementFiles$Tree", "storeFor", "(LElementFiles$Element;I)V"⟩ ∈ ev_tbl := ev_mem (List.mem_of_getElem? (i := 562) (by decide +kernel)) rfl
theorem m_429 : Cond.methodLink "ElementFilesLaw" 63 ⟨"ElementFiles", "id", "(I)I"⟩ ∈ ev_tbl := ev_mem (List.mem_of_getElem? (i := 563) (by decide +kernel)) rfl
theorem m_430 : Cond.instanceMethod ⟨"ElementFiles", "id", "(I)I"⟩ ∈ ev_tbl := ev_mem (List.mem_of_getElem? (i := 564) (by decide +kernel)) rfl
theorem m_431 : Cond.selects "ElementFiles" ⟨"ElementFiles", "id", "(I)I"⟩ ⟨"ElementFiles", "id", "(I)I"⟩ ∈ ev_tbl := ev_mem (List.mem_of_getElem? (i := 565) (by decide +kernel)) rfl
theorem m_432 : Cond.code ⟨"ElementFiles", "id", "(I)I"⟩ prog_1_method_12_code 3 (some .int) ∈ ev_tbl := ev_mem (List.mem_of_getElem? (i := 566) (by decide +kernel)) rfl
theorem m_433 : Cond.methodLink "ElementFilesLaw" 67 ⟨"ElementFiles", "parent", "(I)I"⟩ ∈ ev_tbl := ev_mem (List.mem_of_getElem? (i := 567) (by decide +kernel)) rfl
theorem m_434 : Cond.instanceMethod ⟨"ElementFiles", "parent", "(I)I"⟩ ∈ ev_tbl := ev_mem (List.mem_of_getElem? (i := 568) (by decide +kernel)) rfl
theorem m_435 : Cond.selects "ElementFiles" ⟨"ElementFiles", "parent", "(I)I"⟩ ⟨"ElementFiles", "parent", "(I)I"⟩ ∈ ev_tbl := ev_mem (List.mem_of_getElem? (i := 569) (by decide +kernel)) rfl
theorem m_436 : Cond.code ⟨"ElementFiles", "parent", "(I)I"⟩ prog_1_method_13_code 3 (some .int) ∈ ev_tbl := ev_mem (List.mem_of_getElem? (i := 570) (by decide +kernel)) rfl
theorem m_437 : Cond.methodLink "ElementFilesLaw" 71 ⟨"ElementFiles", "value", "(I)J"⟩ ∈ ev_tbl := ev_mem (List.mem_of_getElem? (i := 571) (by decide +kernel)) rfl
theorem m_438 : Cond.instanceMethod ⟨"ElementFiles", "value", "(I)J"⟩ ∈ ev_tbl := ev_mem (List.mem_of_getElem? (i := 572) (by decide +kernel)) rfl
theorem m_439 : Cond.selects "ElementFiles" ⟨"ElementFiles", "value", "(I)J"⟩ ⟨"ElementFiles", "value", "(I)J"⟩ ∈ ev_tbl := ev_mem (List.mem_of_getElem? (i := 573) (by decide +kernel)) rfl
theorem m_440 : Cond.code ⟨"ElementFiles", "value", "(I)J"⟩ prog_1_method_14_code 3 (some .long) ∈ ev_tbl := ev_mem (List.mem_of_getElem? (i := 574) (by decide +kernel)) rfl
theorem m_441 : Cond.constantLong "ElementFiles" 170 (-1) ∈ ev_tbl := ev_mem (List.mem_of_getElem? (i := 575) (by decide +kernel)) rfl
theorem m_442 : Cond.methodLink "ElementFiles" 172 ⟨"ElementFiles$Tree", "childrenOf", "(LElementFiles$Element;)I"⟩ ∈ ev_tbl := ev_mem (List.mem_of_getElem? (i := 576) (by decide +kernel)) rfl
theorem m_443 : Cond.instanceMethod ⟨"ElementFiles$Tree", "childrenOf", "(LElementFiles$Element;)I"⟩ ∈ ev_tbl := ev_mem (List.mem_of_getElem? (i := 577) (by decide +kernel)) rfl
theorem m_444 : Cond.selects "ElementFiles$Tree" ⟨"ElementFiles$Tree", "childrenOf", "(LElementFiles$Element;)I"⟩ ⟨"ElementFiles$Tree", "childrenOf", "(LElementFiles$Element;)I"⟩ ∈ ev_tbl := ev_mem (List.mem_of_getElem? (i := 578) (by decide +kernel)) rfl
theorem m_445 : Cond.code ⟨"ElementFiles$Tree", "childrenOf", "(LElementFiles$Element;)I"⟩ prog_8_method_5_code 5 (some .int) ∈ ev_tbl := ev_mem (List.mem_of_getElem? (i := 579) (by decide +kernel)) rfl
theorem m_446 : Cond.methodLink "ElementFilesLaw" 76 ⟨"ElementFiles", "part", "(II)I"⟩ ∈ ev_tbl := ev_mem (List.mem_of_getElem? (i := 580) (by decide +kernel)) rfl
theorem m_447 : Cond.instanceMethod ⟨"ElementFiles", "part", "(II)I"⟩ ∈ ev_tbl := ev_mem (List.mem_of_getElem? (i := 581) (by decide +kernel)) rfl
theorem m_448 : Cond.selects "ElementFiles" ⟨"ElementFiles", "part", "(II)I"⟩ ⟨"ElementFiles", "part", "(II)I"⟩ ∈ ev_tbl := ev_mem (List.mem_of_getElem? (i := 582) (by decide +kernel)) rfl
theorem m_449 : Cond.code ⟨"ElementFiles", "part", "(II)I"⟩ prog_1_method_15_code 4 (some .int) ∈ ev_tbl := ev_mem (List.mem_of_getElem? (i := 583) (by decide +kernel)) rfl
theorem m_450 : Cond.methodLink "ElementFiles" 176 ⟨"ElementFiles$Tree", "childOf", "(LElementFiles$Element;I)I"⟩ ∈ ev_tbl := ev_mem (List.mem_of_getElem? (i := 584) (by decide +kernel)) rfl
theorem m_451 : Cond.instanceMethod ⟨"ElementFiles$Tree", "childOf", "(LElementFiles$Element;I)I"⟩ ∈ ev_tbl := ev_mem (List.mem_of_getElem? (i := 585) (by decide +kernel)) rfl
theorem m_452 : Cond.selects "ElementFiles$Tree" ⟨"ElementFiles$Tree", "childOf", "(LElementFiles$Element;I)I"⟩ ⟨"ElementFiles$Tree", "childOf", "(LElementFiles$Element;I)I"⟩ ∈ ev_tbl := ev_mem (List.mem_of_getElem? (i := 586) (by decide +kernel)) rfl
theorem m_453 : Cond.code ⟨"ElementFiles$Tree", "childOf", "(LElementFiles$Element;I)I"⟩ prog_8_method_6_code 6 (some .int) ∈ ev_tbl := ev_mem (List.mem_of_getElem? (i := 587) (by decide +kernel)) rfl
theorem m_454 : Cond.methodLink "ElementFiles" 180 ⟨"ElementFiles$Element", "partAt", "(I)I"⟩ ∈ ev_tbl := ev_mem (List.mem_of_getElem? (i := 588) (by decide +kernel)) rfl
theorem m_455 : Cond.instanceMethod ⟨"ElementFiles$Element", "partAt", "(I)I"⟩ ∈ ev_tbl := ev_mem (List.mem_of_getElem? (i := 589) (by decide +kernel)) rfl
theorem m_456 : Cond.selects "ElementFiles$Element" ⟨"ElementFiles$Element", "partAt", "(I)I"⟩ ⟨"ElementFiles$Element", "partAt", "(I)I"⟩ ∈ ev_tbl := ev_mem (List.mem_of_getElem? (i := 590) (by decide +kernel)) rfl
theorem m_457 : Cond.code ⟨"ElementFiles$Element", "partAt", "(I)I"⟩ prog_2_method_5_code 2 (some .int) ∈ ev_tbl := ev_mem (List.mem_of_getElem? (i := 591) (by decide +kernel)) rfl
theorem m_458 : Cond.methodLink "ElementFiles" 189 ⟨"ElementFiles$Tree", "storedAt", "(I)I"⟩ ∈ ev_tbl := ev_mem (List.mem_of_getElem? (i := 592) (by decide +kernel)) rfl
theorem m_459 : Cond.instanceMethod ⟨"ElementFiles$Tree", "storedAt", "(I)I"⟩ ∈ ev_tbl := ev_mem (List.mem_of_getElem? (i := 593) (by decide +kernel)) rfl
theorem m_460 : Cond.selects "ElementFiles$Tree" ⟨"ElementFiles$Tree", "storedAt", "(I)I"⟩ ⟨"ElementFiles$Tree", "storedAt", "(I)I"⟩ ∈ ev_tbl := ev_mem (List.mem_of_getElem? (i := 594) (by decide +kernel)) rfl
theorem m_461 : Cond.code ⟨"ElementFiles$Tree", "storedAt", "(I)I"⟩ prog_8_method_15_code 2 (some .int) ∈ ev_tbl := ev_mem (List.mem_of_getElem? (i := 595) (by decide +kernel)) rfl
theorem m_462 : Cond.methodLink "ElementFilesLaw" 80 ⟨"ElementFiles", "sample", "(III)I"⟩ ∈ ev_tbl := ev_mem (List.mem_of_getElem? (i := 596) (by decide +kernel)) rfl
theorem m_463 : Cond.instanceMethod ⟨"ElementFiles", "sample", "(III)I"⟩ ∈ ev_tbl := ev_mem (List.mem_of_getElem? (i := 597) (by decide +kernel)) rfl
theorem m_464 : Cond.selects "ElementFiles" ⟨"ElementFiles", "sample", "(III)I"⟩ ⟨"ElementFiles", "sample", "(III)I"⟩ ∈ ev_tbl := ev_mem (List.mem_of_getElem? (i := 598) (by decide +kernel)) rfl
theorem m_465 : Cond.code ⟨"ElementFiles", "sample", "(III)I"⟩ prog_1_method_16_code 7 (some .int) ∈ ev_tbl := ev_mem (List.mem_of_getElem? (i := 599) (by decide +kernel)) rfl
theorem m_466 : Cond.methodLink "ElementFilesLaw" 85 ⟨"ElementFiles", "detail", "(II)I"⟩ ∈ ev_tbl := ev_mem (List.mem_of_getElem? (i := 600) (by decide +kernel)) rfl
theorem m_467 : Cond.instanceMethod ⟨"ElementFiles", "detail", "(II)I"⟩ ∈ ev_tbl := ev_mem (List.mem_of_getElem? (i := 601) (by decide +kernel)) rfl
theorem m_468 : Cond.selects "ElementFiles" ⟨"ElementFiles", "detail", "(II)I"⟩ ⟨"ElementFiles", "detail", "(II)I"⟩ ∈ ev_tbl := ev_mem (List.mem_of_getElem? (i := 602) (by decide +kernel)) rfl
theorem m_469 : Cond.code ⟨"ElementFiles", "detail", "(II)I"⟩ prog_1_method_17_code 4 (some .int) ∈ ev_tbl := ev_mem (List.mem_of_getElem? (i := 603) (by decide +kernel)) rfl
theorem m_470 : Cond.constant "ElementFiles" 192 (-65536) ∈ ev_tbl := ev_mem (List.mem_of_getElem? (i := 604) (by decide +kernel)) rfl
theorem m_471 : Cond.methodLink "ElementFilesLaw" 89 ⟨"ElementFiles", "write", "(Z)I"⟩ ∈ ev_tbl := ev_mem (List.mem_of_getElem? (i := 605) (by decide +kernel)) rfl
theorem m_472 : Cond.instanceMethod ⟨"ElementFiles", "write", "(Z)I"⟩ ∈ ev_tbl := ev_mem (List.mem_of_getElem? (i := 606) (by decide +kernel)) rfl
theorem m_473 : Cond.selects "ElementFiles" ⟨"ElementFiles", "write", "(Z)I"⟩ ⟨"ElementFiles", "write", "(Z)I"⟩ ∈ ev_tbl := ev_mem (List.mem_of_getElem? (i := 607) (by decide +kernel)) rfl
theorem m_474 : Cond.code ⟨"ElementFiles", "write", "(Z)I"⟩ prog_1_method_18_code 2 (some .int) ∈ ev_tbl := ev_mem (List.mem_of_getElem? (i := 608) (by decide +kernel)) rfl
theorem m_475 : Cond.methodLink "ElementFiles" 206 ⟨"ElementFiles$Writer", "measureTree", "(Z)I"⟩ ∈ ev_tbl := ev_mem (List.mem_of_getElem? (i := 609) (by decide +kernel)) rfl
theorem m_476 : Cond.instanceMethod ⟨"ElementFiles$Writer", "measureTree", "(Z)I"⟩ ∈ ev_tbl := ev_mem (List.mem_of_getElem? (i := 610) (by decide +kernel)) rfl
theorem m_477 : Cond.selects "ElementFiles$Writer" ⟨"ElementFiles$Writer", "measureTree", "(Z)I"⟩ ⟨"ElementFiles$Writer", "measureTree", "(Z)I"⟩ ∈ ev_tbl := ev_mem (List.mem_of_getElem? (i := 611) (by decide +kernel)) rfl
theorem m_478 : Cond.code ⟨"ElementFiles$Writer", "measureTree", "(Z)I"⟩ prog_9_method_2_code 7 (some .int) ∈ ev_tbl := ev_mem (List.mem_of_getElem? (i := 612) (by decide +kernel)) rfl
theorem m_479 : Cond.methodLink "ElementFiles$Writer" 38 ⟨"ElementFiles$Writer", "putLeaf", "(LElementFiles$Element;LElementFiles$Row;)V"⟩ ∈ ev_tbl := ev_mem (List.mem_of_getElem? (i := 613) (by decide +kernel)) rfl
theorem m_480 : Cond.instanceMethod ⟨"ElementFiles$Writer", "putLeaf", "(LElementFiles$Element;LElementFiles$Row;)V"⟩ ∈ ev_tbl := ev_mem (List.mem_of_getElem? (i := 615) (by decide +kernel)) rfl
theorem m_481 : Cond.code ⟨"ElementFiles$Writer", "putLeaf", "(LElementFiles$Element;LElementFiles$Row;)V"⟩ prog_9_method_6_code 3 none ∈ ev_tbl := ev_mem (List.mem_of_getElem? (i := 616) (by decide +kernel)) rfl
theorem m_482 : Cond.methodLink "ElementFiles$Writer" 58 ⟨"ElementFiles$Writer", "fewestBytes", "(J)I"⟩ ∈ ev_tbl := ev_mem (List.mem_of_getElem? (i := 617) (by decide +kernel)) rfl
theorem m_483 : Cond.static ⟨"ElementFiles$Writer", "fewestBytes", "(J)I"⟩ ∈ ev_tbl := ev_mem (List.mem_of_getElem? (i := 618) (by decide +kernel)) rfl
theorem m_484 : Cond.code ⟨"ElementFiles$Writer", "fewestBytes", "(J)I"⟩ prog_9_method_7_code 3 (some .int) ∈ ev_tbl := ev_mem (List.mem_of_getElem? (i := 619) (by decide +kernel)) rfl
theorem m_485 : Cond.methodLink "ElementFiles$Writer" 88 ⟨"ElementFiles$Row", "putNumber", "(JI)V"⟩ ∈ ev_tbl := ev_mem (List.mem_of_getElem? (i := 620) (by decide +kernel)) rfl
theorem m_486 : Cond.methodLink "ElementFiles$Writer" 108 ⟨"ElementFiles$Writer", "putText", "(LElementFiles$Element;LElementFiles$Row;)V"⟩ ∈ ev_tbl := ev_mem (List.mem_of_getElem? (i := 621) (by decide +kernel)) rfl
theorem m_487 : Cond.static ⟨"ElementFiles$Writer", "putText", "(LElementFiles$Element;LElementFiles$Row;)V"⟩ ∈ ev_tbl := ev_mem (List.mem_of_getElem? (i := 622) (by decide +kernel)) rfl
theorem m_488 : Cond.code ⟨"ElementFiles$Writer", "putText", "(LElementFiles$Element;LElementFiles$Row;)V"⟩ prog_9_method_8_code 3 none ∈ ev_tbl := ev_mem (List.mem_of_getElem? (i := 623) (by decide +kernel)) rfl
theorem m_489 : Cond.methodLink "ElementFiles$Writer" 123 ⟨"ElementFiles$Element", "partAt", "(I)I"⟩ ∈ ev_tbl := ev_mem (List.mem_of_getElem? (i := 624) (by decide +kernel)) rfl
theorem m_490 : Cond.methodLink "ElementFiles$Writer" 92 ⟨"ElementFiles$Row", "put", "(I)V"⟩ ∈ ev_tbl := ev_mem (List.mem_of_getElem? (i := 625) (by decide +kernel)) rfl
theorem m_491 : Cond.methodLink "ElementFiles$Writer" 111 ⟨"ElementFiles$Writer", "putBlockHead", "(LElementFiles$Element;LElementFiles$Row;)V"⟩ ∈ ev_tbl := ev_mem (List.mem_of_getElem? (i := 626) (by decide +kernel)) rfl
theorem m_492 : Cond.static ⟨"ElementFiles$Writer", "putBlockHead", "(LElementFiles$Element;LElementFiles$Row;)V"⟩ ∈ ev_tbl := ev_mem (List.mem_of_getElem? (i := 627) (by decide +kernel)) rfl
theorem m_493 : Cond.code ⟨"ElementFiles$Writer", "putBlockHead", "(LElementFiles$Element;LElementFiles$Row;)V"⟩ prog_9_method_11_code 2 none ∈ ev_tbl := ev_mem (List.mem_of_getElem? (i := 628) (by decide +kernel)) rfl
theorem m_494 : Cond.static ⟨"ElementFiles", "shortestVintLength", "(J)I"⟩ ∈ ev_tbl := ev_mem (List.mem_of_getElem? (i := 630) (by decide +kernel)) rfl
theorem m_495 : Cond.code ⟨"ElementFiles", "shortestVintLength", "(J)I"⟩ prog_1_method_27_code 3 (some .int) ∈ ev_tbl := ev_mem (List.mem_of_getElem? (i := 631) (by decide +kernel)) rfl
theorem m_496 : Cond.methodLink "ElementFiles" 229 ⟨"ElementFiles", "allOnes", "(I)J"⟩ ∈ ev_tbl := ev_mem (List.mem_of_getElem? (i := 632) (by decide +kernel)) rfl
theorem m_497 : Cond.methodLink "ElementFiles$Writer" 95 ⟨"ElementFiles$Row", "putVint", "(JI)V"⟩ ∈ ev_tbl := ev_mem (List.mem_of_getElem? (i := 633) (by decide +kernel)) rfl
theorem m_498 : Cond.instanceMethod ⟨"ElementFiles$Row", "putVint", "(JI)V"⟩ ∈ ev_tbl := ev_mem (List.mem_of_getElem? (i := 634) (by decide +kernel)) rfl
theorem m_499 : Cond.selects "ElementFiles$Row" ⟨"ElementFiles$Row", "putVint", "(JI)V"⟩ ⟨"ElementFiles$Row", "putVint", "(JI)V"⟩ ∈ ev_tbl := ev_mem (List.mem_of_getElem? (i := 635) (by decide +kernel)) rfl
theorem m_500 : Cond.code ⟨"ElementFiles$Row", "putVint", "(JI)V"⟩ prog_6_method_6_code 4 none ∈ ev_tbl := ev_mem (List.mem_of_getElem? (i := 636) (by decide +kernel)) rfl
theorem m_501 : Cond.methodLink "ElementFiles$Row" 27 ⟨"ElementFiles$Row", "putNumber", "(JI)V"⟩ ∈ ev_tbl := ev_mem (List.mem_of_getElem? (i := 638) (by decide +kernel)) rfl
theorem m_502 : Cond.methodLink "ElementFiles$Writer" 114 ⟨"ElementFiles$Writer", "putSizes", "(LElementFiles$Element;LElementFiles$Row;)V"⟩ ∈ ev_tbl := ev_mem (List.mem_of_getElem? (i := 639) (by decide +kernel)) rfl
theorem m_503 : Cond.static ⟨"ElementFiles$Writer", "putSizes", "(LElementFiles$Element;LElementFiles$Row;)V"⟩ ∈ ev_tbl := ev_mem (List.mem_of_getElem? (i := 640) (by decide +kernel)) rfl
theorem m_504 : Cond.code ⟨"ElementFiles$Writer", "putSizes", "(LElementFiles$Element;LElementFiles$Row;)V"⟩ prog_9_method_12_code 6 none ∈ ev_tbl := ev_mem (List.mem_of_getElem? (i := 641) (by decide +kernel)) rfl
theorem m_505 : Cond.methodLink "ElementFiles$Writer" 149 ⟨"ElementFiles$Writer", "putSizeOfBytes", "(ILElementFiles$Row;)V"⟩ ∈ ev_tbl := ev_mem (List.mem_of_getElem? (i := 642) (by decide +kernel)) rfl
theorem m_506 : Cond.static ⟨"ElementFiles$Writer", "putSizeOfBytes", "(ILElementFiles$Row;)V"⟩ ∈ ev_tbl := ev_mem (List.mem_of_getElem? (i := 643) (by decide +kernel)) rfl
theorem m_507 : Cond.code ⟨"ElementFiles$Writer", "putSizeOfBytes", "(ILElementFiles$Row;)V"⟩ prog_9_method_13_code 3 none ∈ ev_tbl := ev_mem (List.mem_of_getElem? (i := 644) (by decide +kernel)) rfl
theorem m_508 : Cond.methodLink "ElementFiles$Writer" 153 ⟨"ElementFiles$Writer", "shortestDifferenceLength", "(I)I"⟩ ∈ ev_tbl := ev_mem (List.mem_of_getElem? (i := 645) (by decide +kernel)) rfl
theorem m_509 : Cond.static ⟨"ElementFiles$Writer", "shortestDifferenceLength", "(I)I"⟩ ∈ ev_tbl := ev_mem (List.mem_of_getElem? (i := 646) (by decide +kernel)) rfl
theorem m_510 : Cond.code ⟨"ElementFiles$Writer", "shortestDifferenceLength", "(I)I"⟩ prog_9_method_14_code 2 (some .int) ∈ ev_tbl := ev_mem (List.mem_of_getElem? (i := 647) (by decide +kernel)) rfl
theorem m_511 : Cond.methodLink "ElementFiles$Writer" 160 ⟨"java/lang/Math", "abs", "(I)I"⟩ ∈ ev_tbl := ev_mem (List.mem_of_getElem? (i := 648) (by decide +kernel)) rfl
theorem m_512 : Cond.static ⟨"java/lang/Math", "abs", "(I)I"⟩ ∈ ev_tbl := ev_mem (List.mem_of_getElem? (i := 649) (by decide +kernel)) rfl
theorem m_513 : Cond.code ⟨"java/lang/Math", "abs", "(I)I"⟩ prog_13_method_59_code 1 (some .int) ∈ ev_tbl := ev_mem (List.mem_of_getElem? (i := 650) (by decide +kernel)) rfl
theorem m_514 : Cond.methodLink "ElementFiles$Writer" 117 ⟨"ElementFiles$Writer", "putStored", "(LElementFiles$Element;LElementFiles$Row;)V"⟩ ∈ ev_tbl := ev_mem (List.mem_of_getElem? (i := 652) (by decide +kernel)) rfl
theorem m_515 : Cond.instanceMethod ⟨"ElementFiles$Writer", "putStored", "(LElementFiles$Element;LElementFiles$Row;)V"⟩ ∈ ev_tbl := ev_mem (List.mem_of_getElem? (i := 654) (by decide +kernel)) rfl
theorem m_516 : Cond.code ⟨"ElementFiles$Writer", "putStored", "(LElementFiles$Element;LElementFiles$Row;)V"⟩ prog_9_method_10_code 4 none ∈ ev_tbl := ev_mem (List.mem_of_getElem? (i := 655) (by decide +kernel)) rfl
theorem m_517 : Cond.methodLink "ElementFiles$Writer" 133 ⟨"ElementFiles$Tree", "storedAt", "(I)I"⟩ ∈ ev_tbl := ev_mem (List.mem_of_getElem? (i := 656) (by decide +kernel)) rfl
theorem m_518 : Cond.methodLink "ElementFiles$Writer" 120 ⟨"ElementFiles$Writer", "putZeros", "(LElementFiles$Element;LElementFiles$Row;)V"⟩ ∈ ev_tbl := ev_mem (List.mem_of_getElem? (i := 657) (by decide +kernel)) rfl
theorem m_519 : Cond.static ⟨"ElementFiles$Writer", "putZeros", "(LElementFiles$Element;LElementFiles$Row;)V"⟩ ∈ ev_tbl := ev_mem (List.mem_of_getElem? (i := 658) (by decide +kernel)) rfl
theorem m_520 : Cond.code ⟨"ElementFiles$Writer", "putZeros", "(LElementFiles$Element;LElementFiles$Row;)V"⟩ prog_9_method_9_code 3 none ∈ ev_tbl := ev_mem (List.mem_of_getElem? (i := 659) (by decide +kernel)) rfl
theorem m_521 : Cond.methodLink "ElementFiles$Writer" 47 ⟨"ElementFiles$Writer", "isOpen", "(LElementFiles$Element;Z)Z"⟩ ∈ ev_tbl := ev_mem (List.mem_of_getElem? (i := 660) (by decide +kernel)) rfl
theorem m_522 : Cond.static ⟨"ElementFiles$Writer", "isOpen", "(LElementFiles$Element;Z)Z"⟩ ∈ ev_tbl := ev_mem (List.mem_of_getElem? (i := 661) (by decide +kernel)) rfl
theorem m_523 : Cond.code ⟨"ElementFiles$Writer", "isOpen", "(LElementFiles$Element;Z)Z"⟩ prog_9_method_4_code 2 (some .boolean) ∈ ev_tbl := ev_mem (List.mem_of_getElem? (i := 662) (by decide +kernel)) rfl
theorem m_524 : Cond.fieldLink "ElementFiles$Writer" 82 "ElementFiles$Sort" "SEGMENT" "LElementFiles$Sort;" ∈ ev_tbl := ev_mem (List.mem_of_getElem? (i := 663) (by decide +kernel)) rfl
theorem m_525 : Cond.fieldLink "ElementFiles$Writer" 85 "ElementFiles$Sort" "CLUSTER" "LElementFiles$Sort;" ∈ ev_tbl := ev_mem (List.mem_of_getElem? (i := 664) (by decide +kernel)) rfl
theorem m_526 : Cond.methodLink "ElementFiles" 210 ⟨"ElementFiles$Writer", "putTree", "(Z)I"⟩ ∈ ev_tbl := ev_mem (List.mem_of_getElem? (i := 665) (by decide +kernel)) rfl
theorem m_527 : Cond.instanceMethod ⟨"ElementFiles$Writer", "putTree", "(Z)I"⟩ ∈ ev_tbl := ev_mem (List.mem_of_getElem? (i := 666) (by decide +kernel)) rfl
theorem m_528 : Cond.selects "ElementFiles$Writer" ⟨"ElementFiles$Writer", "putTree", "(Z)I"⟩ ⟨"ElementFiles$Writer", "putTree", "(Z)I"⟩ ∈ ev_tbl := ev_mem (List.mem_of_getElem? (i := 667) (by decide +kernel)) rfl
theorem m_529 : Cond.code ⟨"ElementFiles$Writer", "putTree", "(Z)I"⟩ prog_9_method_3_code 3 (some .int) ∈ ev_tbl := ev_mem (List.mem_of_getElem? (i := 668) (by decide +kernel)) rfl
theorem m_530 : Cond.methodLink "ElementFiles$Writer" 65 ⟨"ElementFiles$Writer", "putHeader", "(LElementFiles$Element;Z)V"⟩ ∈ ev_tbl := ev_mem (List.mem_of_getElem? (i := 669) (by decide +kernel)) rfl
theorem m_531 : Cond.instanceMethod ⟨"ElementFiles$Writer", "putHeader", "(LElementFiles$Element;Z)V"⟩ ∈ ev_tbl := ev_mem (List.mem_of_getElem? (i := 671) (by decide +kernel)) rfl
theorem m_532 : Cond.code ⟨"ElementFiles$Writer", "putHeader", "(LElementFiles$Element;Z)V"⟩ prog_9_method_5_code 3 none ∈ ev_tbl := ev_mem (List.mem_of_getElem? (i := 672) (by decide +kernel)) rfl
theorem m_533 : Cond.fieldLink "ElementFiles$Writer" 73 "ElementFiles$Sort" "CHECK" "LElementFiles$Sort;" ∈ ev_tbl := ev_mem (List.mem_of_getElem? (i := 673) (by decide +kernel)) rfl
theorem m_534 : Cond.methodLink "ElementFiles$Writer" 78 ⟨"ElementFiles$Writer", "fillCheck", "(LElementFiles$Element;)V"⟩ ∈ ev_tbl := ev_mem (List.mem_of_getElem? (i := 674) (by decide +kernel)) rfl
theorem m_535 : Cond.instanceMethod ⟨"ElementFiles$Writer", "fillCheck", "(LElementFiles$Element;)V"⟩ ∈ ev_tbl := ev_mem (List.mem_of_getElem? (i := 676) (by decide +kernel)) rfl
theorem m_536 : Cond.code ⟨"ElementFiles$Writer", "fillCheck", "(LElementFiles$Element;)V"⟩ prog_9_method_15_code 5 none ∈ ev_tbl := ev_mem (List.mem_of_getElem? (i := 677) (by decide +kernel)) rfl
theorem m_537 : Cond.methodLink "ElementFiles$Writer" 165 ⟨"ElementFiles$Row", "sum", "(II)I"⟩ ∈ ev_tbl := ev_mem (List.mem_of_getElem? (i := 678) (by decide +kernel)) rfl
theorem m_538 : Cond.methodLink "ElementFiles$Writer" 169 ⟨"ElementFiles$Row", "change", "(II)V"⟩ ∈ ev_tbl := ev_mem (List.mem_of_getElem? (i := 679) (by decide +kernel)) rfl
theorem m_539 : Cond.instanceMethod ⟨"ElementFiles$Row", "change", "(II)V"⟩ ∈ ev_tbl := ev_mem (List.mem_of_getElem? (i := 680) (by decide +kernel)) rfl
theorem m_540 : Cond.selects "ElementFiles$Row" ⟨"ElementFiles$Row", "change", "(II)V"⟩ ⟨"ElementFiles$Row", "change", "(II)V"⟩ ∈ ev_tbl := ev_mem (List.mem_of_getElem? (i := 681) (by decide +kernel)) rfl
theorem m_541 : Cond.code ⟨"ElementFiles$Row", "change", "(II)V"⟩ prog_6_method_3_code 3 none ∈ ev_tbl := ev_mem (List.mem_of_getElem? (i := 682) (by decide +kernel)) rfl
theorem m_542 : Cond.methodLink "ElementFilesLaw" 93 ⟨"ElementFiles", "index", "(I)I"⟩ ∈ ev_tbl := ev_mem (List.mem_of_getElem? (i := 683) (by decide +kernel)) rfl
theorem m_543 : Cond.instanceMethod ⟨"ElementFiles", "index", "(I)I"⟩ ∈ ev_tbl := ev_mem (List.mem_of_getElem? (i := 684) (by decide +kernel)) rfl
theorem m_544 : Cond.selects "ElementFiles" ⟨"ElementFiles", "index", "(I)I"⟩ ⟨"ElementFiles", "index", "(I)I"⟩ ∈ ev_tbl := ev_mem (List.mem_of_getElem? (i := 685) (by decide +kernel)) rfl
theorem m_545 : Cond.code ⟨"ElementFiles", "index", "(I)I"⟩ prog_1_method_19_code 3 (some .int) ∈ ev_tbl := ev_mem (List.mem_of_getElem? (i := 686) (by decide +kernel)) rfl
theorem m_546 : Cond.methodLink "ElementFiles" 213 ⟨"ElementFiles", "segmentAt", "(I)LElementFiles$Element;"⟩ ∈ ev_tbl := ev_mem (List.mem_of_getElem? (i := 687) (by decide +kernel)) rfl
theorem m_547 : Cond.instanceMethod ⟨"ElementFiles", "segmentAt", "(I)LElementFiles$Element;"⟩ ∈ ev_tbl := ev_mem (List.mem_of_getElem? (i := 689) (by decide +kernel)) rfl
theorem m_548 : Cond.code ⟨"ElementFiles", "segmentAt", "(I)LElementFiles$Element;"⟩ prog_1_method_22_code 3 (some (.object "ElementFiles$Element")) ∈ ev_tbl := ev_mem (List.mem_of_getElem? (i := 690) (by decide +kernel)) rfl
theorem m_549 : Cond.fieldLink "ElementFiles" 226 "ElementFiles$Sort" "SEGMENT" "LElementFiles$Sort;" ∈ ev_tbl := ev_mem (List.mem_of_getElem? (i := 691) (by decide +kernel)) rfl
theorem m_550 : Cond.methodLink "ElementFiles" 216 ⟨"ElementFiles$Finder", "renewCues", "(LElementFiles$Element;)I"⟩ ∈ ev_tbl := ev_mem (List.mem_of_getElem? (i := 692) (by decide +kernel)) rfl
theorem m_551 : Cond.instanceMethod ⟨"ElementFiles$Finder", "renewCues", "(LElementFiles$Element;)I"⟩ ∈ ev_tbl := ev_mem (List.mem_of_getElem? (i := 693) (by decide +kernel)) rfl
theorem m_552 : Cond.selects "ElementFiles$Finder" ⟨"ElementFiles$Finder", "renewCues", "(LElementFiles$Element;)I"⟩ ⟨"ElementFiles$Finder", "renewCues", "(LElementFiles$Element;)I"⟩ ∈ ev_tbl := ev_mem (List.mem_of_getElem? (i := 694) (by decide +kernel)) rfl
theorem m_553 : Cond.code ⟨"ElementFiles$Finder", "renewCues", "(LElementFiles$Element;)I"⟩ prog_3_method_2_code 8 (some .int) ∈ ev_tbl := ev_mem (List.mem_of_getElem? (i := 695) (by decide +kernel)) rfl
theorem m_554 : Cond.methodLink "ElementFiles$Finder" 15 ⟨"ElementFiles$Finder", "countKeyBlocks", "(LElementFiles$Element;)I"⟩ ∈ ev_tbl := ev_mem (List.mem_of_getElem? (i := 696) (by decide +kernel)) rfl
theorem m_555 : Cond.instanceMethod ⟨"ElementFiles$Finder", "countKeyBlocks", "(LElementFiles$Element;)I"⟩ ∈ ev_tbl := ev_mem (List.mem_of_getElem? (i := 698) (by decide +kernel)) rfl
theorem m_556 : Cond.code ⟨"ElementFiles$Finder", "countKeyBlocks", "(LElementFiles$Element;)I"⟩ prog_3_method_3_code 5 (some .int) ∈ ev_tbl := ev_mem (List.mem_of_getElem? (i := 699) (by decide +kernel)) rfl
theorem m_557 : Cond.methodLink "ElementFiles$Finder" 39 ⟨"ElementFiles$Tree", "endOf", "(LElementFiles$Element;)I"⟩ ∈ ev_tbl := ev_mem (List.mem_of_getElem? (i := 700) (by decide +kernel)) rfl
theorem m_558 : Cond.fieldLink "ElementFiles$Finder" 54 "ElementFiles$Sort" "BLOCK" "LElementFiles$Sort;" ∈ ev_tbl := ev_mem (List.mem_of_getElem? (i := 701) (by decide +kernel)) rfl
theorem m_559 : Cond.fieldLink "ElementFiles$Finder" 25 "ElementFiles$Sort" "CUE" "LElementFiles$Sort;" ∈ ev_tbl := ev_mem (List.mem_of_getElem? (i := 702) (by decide +kernel)) rfl
theorem m_560 : Cond.methodLink "ElementFiles$Finder" 31 ⟨"ElementFiles$Tree", "weigh", "(LElementFiles$Element;LElementFiles$Sort;)I"⟩ ∈ ev_tbl := ev_mem (List.mem_of_getElem? (i := 704) (by decide +kernel)) rfl
theorem m_561 : Cond.instanceMethod ⟨"ElementFiles$Tree", "weigh", "(LElementFiles$Element;LElementFiles$Sort;)I"⟩ ∈ ev_tbl := ev_mem (List.mem_of_getElem? (i := 705) (by decide +kernel)) rfl
theorem m_562 : Cond.selects "ElementFiles$Tree" ⟨"ElementFiles$Tree", "weigh", "(LElementFiles$Element;LElementFiles$Sort;)I"⟩ ⟨"ElementFiles$Tree", "weigh", "(LElementFiles$Element;LElementFiles$Sort;)I"⟩ ∈ ev_tbl := ev_mem (List.mem_of_getElem? (i := 706) (by decide +kernel)) rfl
theorem m_563 : Cond.code ⟨"ElementFiles$Tree", "weigh", "(LElementFiles$Element;LElementFiles$Sort;)I"⟩ prog_8_method_10_code 7 (some .int) ∈ ev_tbl := ev_mem (List.mem_of_getElem? (i := 707) (by decide +kernel)) rfl
theorem m_564 : Cond.methodLink "ElementFiles$Finder" 35 ⟨"ElementFiles$Tree", "takeOut", "(LElementFiles$Element;LElementFiles$Sort;)V"⟩ ∈ ev_tbl := ev_mem (List.mem_of_getElem? (i := 708) (by decide +kernel)) rfl
theorem m_565 : Cond.instanceMethod ⟨"ElementFiles$Tree", "takeOut", "(LElementFiles$Element;LElementFiles$Sort;)V"⟩ ∈ ev_tbl := ev_mem (List.mem_of_getElem? (i := 709) (by decide +kernel)) rfl
theorem m_566 : Cond.selects "ElementFiles$Tree" ⟨"ElementFiles$Tree", "takeOut", "(LElementFiles$Element;LElementFiles$Sort;)V"⟩ ⟨"ElementFiles$Tree", "takeOut", "(LElementFiles$Element;LElementFiles$Sort;)V"⟩ ∈ ev_tbl := ev_mem (List.mem_of_getElem? (i := 710) (by decide +kernel)) rfl
theorem m_567 : Cond.code ⟨"ElementFiles$Tree", "takeOut", "(LElementFiles$Element;LElementFiles$Sort;)V"⟩ prog_8_method_11_code 9 none ∈ ev_tbl := ev_mem (List.mem_of_getElem? (i := 711) (by decide +kernel)) rfl
theorem m_568 : Cond.methodLink "ElementFiles$Finder" 61 ⟨"ElementFiles$Finder", "addCue", "(LElementFiles$Element;LElementFiles$Element;I)V"⟩ ∈ ev_tbl := ev_mem (List.mem_of_getElem? (i := 712) (by decide +kernel)) rfl
theorem m_569 : Cond.instanceMethod ⟨"ElementFiles$Finder", "addCue", "(LElementFiles$Element;LElementFiles$Element;I)V"⟩ ∈ ev_tbl := ev_mem (List.mem_of_getElem? (i := 714) (by decide +kernel)) rfl
theorem m_570 : Cond.code ⟨"ElementFiles$Finder", "addCue", "(LElementFiles$Element;LElementFiles$Element;I)V"⟩ prog_3_method_4_code 5 none ∈ ev_tbl := ev_mem (List.mem_of_getElem? (i := 715) (by decide +kernel)) rfl
theorem m_571 : Cond.methodLink "ElementFiles$Finder" 68 ⟨"ElementFiles$Tree", "add", "(LElementFiles$Element;LElementFiles$Sort;I)LElementFiles$Element;"⟩ ∈ ev_tbl := ev_mem (List.mem_of_getElem? (i := 716) (by decide +kernel)) rfl
theorem m_572 : Cond.fieldLink "ElementFiles$Finder" 72 "ElementFiles$Sort" "WHEN" "LElementFiles$Sort;" ∈ ev_tbl := ev_mem (List.mem_of_getElem? (i := 717) (by decide +kernel)) rfl
theorem m_573 : Cond.methodLink "ElementFiles$Finder" 75 ⟨"ElementFiles$Finder", "momentOf", "(LElementFiles$Element;)J"⟩ ∈ ev_tbl := ev_mem (List.mem_of_getElem? (i := 719) (by decide +kernel)) rfl
theorem m_574 : Cond.instanceMethod ⟨"ElementFiles$Finder", "momentOf", "(LElementFiles$Element;)J"⟩ ∈ ev_tbl := ev_mem (List.mem_of_getElem? (i := 721) (by decide +kernel)) rfl
theorem m_575 : Cond.code ⟨"ElementFiles$Finder", "momentOf", "(LElementFiles$Element;)J"⟩ prog_3_method_6_code 2 (some .long) ∈ ev_tbl := ev_mem (List.mem_of_getElem? (i := 722) (by decide +kernel)) rfl
theorem m_576 : Cond.fieldLink "ElementFiles$Finder" 103 "ElementFiles$Sort" "TIME" "LElementFiles$Sort;" ∈ ev_tbl := ev_mem (List.mem_of_getElem? (i := 723) (by decide +kernel)) rfl
theorem m_577 : Cond.methodLink "ElementFiles$Finder" 106 ⟨"ElementFiles$Finder", "firstNumber", "(LElementFiles$Element;LElementFiles$Sort;)J"⟩ ∈ ev_tbl := ev_mem (List.mem_of_getElem? (i := 725) (by decide +kernel)) rfl
theorem m_578 : Cond.instanceMethod ⟨"ElementFiles$Finder", "firstNumber", "(LElementFiles$Element;LElementFiles$Sort;)J"⟩ ∈ ev_tbl := ev_mem (List.mem_of_getElem? (i := 727) (by decide +kernel)) rfl
theorem m_579 : Cond.code ⟨"ElementFiles$Finder", "firstNumber", "(LElementFiles$Element;LElementFiles$Sort;)J"⟩ prog_3_method_7_code 5 (some .long) ∈ ev_tbl := ev_mem (List.mem_of_getElem? (i := 728) (by decide +kernel)) rfl
theorem m_580 : Cond.methodLink "ElementFiles$Finder" 79 ⟨"ElementFiles$Finder", "addNumber", "(LElementFiles$Element;LElementFiles$Sort;J)V"⟩ ∈ ev_tbl := ev_mem (List.mem_of_getElem? (i := 729) (by decide +kernel)) rfl
theorem m_581 : Cond.instanceMethod ⟨"ElementFiles$Finder", "addNumber", "(LElementFiles$Element;LElementFiles$Sort;J)V"⟩ ∈ ev_tbl := ev_mem (List.mem_of_getElem? (i := 731) (by decide +kernel)) rfl
theorem m_582 : Cond.code ⟨"ElementFiles$Finder", "addNumber", "(LElementFiles$Element;LElementFiles$Sort;J)V"⟩ prog_3_method_5_code 6 none ∈ ev_tbl := ev_mem (List.mem_of_getElem? (i := 732) (by decide +kernel)) rfl
theorem m_583 : Cond.fieldLink "ElementFiles$Finder" 83 "ElementFiles$Sort" "WHOSE" "LElementFiles$Sort;" ∈ ev_tbl := ev_mem (List.mem_of_getElem? (i := 733) (by decide +kernel)) rfl
theorem m_584 : Cond.fieldLink "ElementFiles$Finder" 89 "ElementFiles$Sort" "WHICH" "LElementFiles$Sort;" ∈ ev_tbl := ev_mem (List.mem_of_getElem? (i := 735) (by decide +kernel)) rfl
theorem m_585 : Cond.methodLink "ElementFilesLaw" 97 ⟨"ElementFiles", "seek", "(IIJ)I"⟩ ∈ ev_tbl := ev_mem (List.mem_of_getElem? (i := 737) (by decide +kernel)) rfl
theorem m_586 : Cond.instanceMethod ⟨"ElementFiles", "seek", "(IIJ)I"⟩ ∈ ev_tbl := ev_mem (List.mem_of_getElem? (i := 738) (by decide +kernel)) rfl
theorem m_587 : Cond.selects "ElementFiles" ⟨"ElementFiles", "seek", "(IIJ)I"⟩ ⟨"ElementFiles", "seek", "(IIJ)I"⟩ ∈ ev_tbl := ev_mem (List.mem_of_getElem? (i := 739) (by decide +kernel)) rfl
theorem m_588 : Cond.code ⟨"ElementFiles", "seek", "(IIJ)I"⟩ prog_1_method_20_code 6 (some .int) ∈ ev_tbl := ev_mem (List.mem_of_getElem? (i := 740) (by decide +kernel)) rfl
theorem m_589 : Cond.methodLink "ElementFiles" 219 ⟨"ElementFiles$Finder", "findByBlocks", "(LElementFiles$Element;IJ)I"⟩ ∈ ev_tbl := ev_mem (List.mem_of_getElem? (i := 741) (by decide +kernel)) rfl
theorem m_590 : Cond.instanceMethod ⟨"ElementFiles$Finder", "findByBlocks", "(LElementFiles$Element;IJ)I"⟩ ∈ ev_tbl := ev_mem (List.mem_of_getElem? (i := 742) (by decide +kernel)) rfl
theorem m_591 : Cond.selects "ElementFiles$Finder" ⟨"ElementFiles$Finder", "findByBlocks", "(LElementFiles$Element;IJ)I"⟩ ⟨"ElementFiles$Finder", "findByBlocks", "(LElementFiles$Element;IJ)I"⟩ ∈ ev_tbl := ev_mem (List.mem_of_getElem? (i := 743) (by decide +kernel)) rfl
theorem m_592 : Cond.code ⟨"ElementFiles$Finder", "findByBlocks", "(LElementFiles$Element;IJ)I"⟩ prog_3_method_8_code 8 (some .int) ∈ ev_tbl := ev_mem (List.mem_of_getElem? (i := 744) (by decide +kernel)) rfl
theorem m_593 : Cond.methodLink "ElementFilesLaw" 101 ⟨"ElementFiles", "jump", "(IIJ)I"⟩ ∈ ev_tbl := ev_mem (List.mem_of_getElem? (i := 745) (by decide +kernel)) rfl
theorem m_594 : Cond.instanceMethod ⟨"ElementFiles", "jump", "(IIJ)I"⟩ ∈ ev_tbl := ev_mem (List.mem_of_getElem? (i := 746) (by decide +kernel)) rfl
theorem m_595 : Cond.selects "ElementFiles" ⟨"ElementFiles", "jump", "(IIJ)I"⟩ ⟨"ElementFiles", "jump", "(IIJ)I"⟩ ∈ ev_tbl := ev_mem (List.mem_of_getElem? (i := 747) (by decide +kernel)) rfl
theorem m_596 : Cond.code ⟨"ElementFiles", "jump", "(IIJ)I"⟩ prog_1_method_21_code 6 (some .int) ∈ ev_tbl := ev_mem (List.mem_of_getElem? (i := 748) (by decide +kernel)) rfl
theorem m_597 : Cond.methodLink "ElementFiles" 223 ⟨"ElementFiles$Finder", "findByCues", "(LElementFiles$Element;IJ)I"⟩ ∈ ev_tbl := ev_mem (List.mem_of_getElem? (i := 749) (by decide +kernel)) rfl
theorem m_598 : Cond.instanceMethod ⟨"ElementFiles$Finder", "findByCues", "(LElementFiles$Element;IJ)I"⟩ ∈ ev_tbl := ev_mem (List.mem_of_getElem? (i := 750) (by decide +kernel)) rfl
theorem m_599 : Cond.selects "ElementFiles$Finder" ⟨"ElementFiles$Finder", "findByCues", "(LElementFiles$Element;IJ)I"⟩ ⟨"ElementFiles$Finder", "findByCues", "(LElementFiles$Element;IJ)I"⟩ ∈ ev_tbl := ev_mem (List.mem_of_getElem? (i := 751) (by decide +kernel)) rfl
theorem m_600 : Cond.code ⟨"ElementFiles$Finder", "findByCues", "(LElementFiles$Element;IJ)I"⟩ prog_3_method_9_code 8 (some .int) ∈ ev_tbl := ev_mem (List.mem_of_getElem? (i := 752) (by decide +kernel)) rfl
theorem m_601 : Cond.methodLink "ElementFiles$Finder" 110 ⟨"ElementFiles$Finder", "blockWithBefore", "(LElementFiles$Element;J)I"⟩ ∈ ev_tbl := ev_mem (List.mem_of_getElem? (i := 753) (by decide +kernel)) rfl
theorem m_602 : Cond.instanceMethod ⟨"ElementFiles$Finder", "blockWithBefore", "(LElementFiles$Element;J)I"⟩ ∈ ev_tbl := ev_mem (List.mem_of_getElem? (i := 755) (by decide +kernel)) rfl
theorem m_603 : Cond.code ⟨"ElementFiles$Finder", "blockWithBefore", "(LElementFiles$Element;J)I"⟩ prog_3_method_10_code 8 (some .int) ∈ ev_tbl := ev_mem (List.mem_of_getElem? (i := 756) (by decide +kernel)) rfl
theorem m_604 : Cond.classLink "ElementFilesLaw" 10 "ElementFilesModel" ∈ ev_tbl := ev_mem (List.mem_of_getElem? (i := 757) (by decide +kernel)) rfl
theorem m_605 : Cond.instantiable "ElementFilesModel" 33 ∈ ev_tbl := ev_mem (List.mem_of_getElem? (i := 758) (by decide +kernel)) rfl
theorem m_606 : Cond.methodLink "ElementFilesLaw" 12 ⟨"ElementFilesModel", "<init>", "()V"⟩ ∈ ev_tbl := ev_mem (List.mem_of_getElem? (i := 759) (by decide +kernel)) rfl
theorem m_607 : Cond.instanceMethod ⟨"ElementFilesModel", "<init>", "()V"⟩ ∈ ev_tbl := ev_mem (List.mem_of_getElem? (i := 760) (by decide +kernel)) rfl
theorem m_608 : Cond.code ⟨"ElementFilesModel", "<init>", "()V"⟩ prog_11_method_1_code 1 none ∈ ev_tbl := ev_mem (List.mem_of_getElem? (i := 761) (by decide +kernel)) rfl
theorem m_609 : Cond.methodLink "ElementFilesModel" 1 ⟨"java/lang/Object", "<init>", "()V"⟩ ∈ ev_tbl := ev_mem (List.mem_of_getElem? (i := 762) (by decide +kernel)) rfl
theorem m_610 : Cond.fieldLink "ElementFilesModel" 86 "ElementFilesModel" "count" "I" ∈ ev_tbl := ev_mem (List.mem_of_getElem? (i := 763) (by decide +kernel)) rfl
theorem m_611 : Cond.fieldLink "ElementFilesModel" 7 "ElementFilesModel" "ids" "[I" ∈ ev_tbl := ev_mem (List.mem_of_getElem? (i := 764) (by decide +kernel)) rfl
theorem m_612 : Cond.fieldLink "ElementFilesModel" 13 "ElementFilesModel" "masters" "[I" ∈ ev_tbl := ev_mem (List.mem_of_getElem? (i := 765) (by decide +kernel)) rfl
theorem m_613 : Cond.fieldLink "ElementFilesModel" 16 "ElementFilesModel" "values" "[J" ∈ ev_tbl := ev_mem (List.mem_of_getElem? (i := 766) (by decide +kernel)) rfl
theorem m_614 : Cond.fieldLink "ElementFilesModel" 20 "ElementFilesModel" "many" "[I" ∈ ev_tbl := ev_mem (List.mem_of_getElem? (i := 767) (by decide +kernel)) rfl
theorem m_615 : Cond.fieldLink "ElementFilesModel" 23 "ElementFilesModel" "letters" "[I" ∈ ev_tbl := ev_mem (List.mem_of_getElem? (i := 768) (by decide +kernel)) rfl
theorem m_616 : Cond.fieldLink "ElementFilesModel" 26 "ElementFilesModel" "tracks" "[I" ∈ ev_tbl := ev_mem (List.mem_of_getElem? (i := 769) (by decide +kernel)) rfl
theorem m_617 : Cond.fieldLink "ElementFilesModel" 29 "ElementFilesModel" "times" "[I" ∈ ev_tbl := ev_mem (List.mem_of_getElem? (i := 770) (by decide +kernel)) rfl
theorem m_618 : Cond.fieldLink "ElementFilesModel" 32 "ElementFilesModel" "keys" "[Z" ∈ ev_tbl := ev_mem (List.mem_of_getElem? (i := 771) (by decide +kernel)) rfl
theorem m_619 : Cond.fieldLink "ElementFilesModel" 36 "ElementFilesModel" "lacings" "[I" ∈ ev_tbl := ev_mem (List.mem_of_getElem? (i := 772) (by decide +kernel)) rfl
theorem m_620 : Cond.fieldLink "ElementFilesModel" 39 "ElementFilesModel" "sizes" "[I" ∈ ev_tbl := ev_mem (List.mem_of_getElem? (i := 773) (by decide +kernel)) rfl
theorem m_621 : Cond.fieldLink "ElementFilesModel" 42 "ElementFilesModel" "places" "[I" ∈ ev_tbl := ev_mem (List.mem_of_getElem? (i := 774) (by decide +kernel)) rfl
theorem m_622 : Cond.fieldLink "ElementFilesModel" 45 "ElementFilesModel" "heap" "[I" ∈ ev_tbl := ev_mem (List.mem_of_getElem? (i := 775) (by decide +kernel)) rfl
theorem m_623 : Cond.fieldLink "ElementFilesModel" 104 "ElementFilesModel" "used" "I" ∈ ev_tbl := ev_mem (List.mem_of_getElem? (i := 776) (by decide +kernel)) rfl
theorem m_624 : Cond.fieldLink "ElementFilesModel" 202 "ElementFilesModel" "hands" "I" ∈ ev_tbl := ev_mem (List.mem_of_getElem? (i := 777) (by decide +kernel)) rfl
theorem m_625 : Cond.fieldLink "ElementFilesModel" 48 "ElementFilesModel" "handSize" "[I" ∈ ev_tbl := ev_mem (List.mem_of_getElem? (i := 778) (by decide +kernel)) rfl
theorem m_626 : Cond.fieldLink "ElementFilesModel" 51 "ElementFilesModel" "handFirst" "[I" ∈ ev_tbl := ev_mem (List.mem_of_getElem? (i := 779) (by decide +kernel)) rfl
theorem m_627 : Cond.fieldLink "ElementFilesModel" 205 "ElementFilesModel" "handBytes" "I" ∈ ev_tbl := ev_mem (List.mem_of_getElem? (i := 780) (by decide +kernel)) rfl
theorem m_628 : Cond.fieldLink "ElementFilesModel" 54 "ElementFilesModel" "in" "[I" ∈ ev_tbl := ev_mem (List.mem_of_getElem? (i := 781) (by decide +kernel)) rfl
theorem m_629 : Cond.fieldLink "ElementFilesModel" 107 "ElementFilesModel" "ins" "I" ∈ ev_tbl := ev_mem (List.mem_of_getElem? (i := 782) (by decide +kernel)) rfl
theorem m_630 : Cond.fieldLink "ElementFilesModel" 57 "ElementFilesModel" "out" "[I" ∈ ev_tbl := ev_mem (List.mem_of_getElem? (i := 783) (by decide +kernel)) rfl
theorem m_631 : Cond.fieldLink "ElementFilesModel" 112 "ElementFilesModel" "outs" "I" ∈ ev_tbl := ev_mem (List.mem_of_getElem? (i := 784) (by decide +kernel)) rfl
theorem m_632 : Cond.fieldLink "ElementFilesModel" 60 "ElementFilesModel" "fault" "I" ∈ ev_tbl := ev_mem (List.mem_of_getElem? (i := 785) (by decide +kernel)) rfl
theorem m_633 : Cond.fieldLink "ElementFilesModel" 115 "ElementFilesModel" "at" "I" ∈ ev_tbl := ev_mem (List.mem_of_getElem? (i := 786) (by decide +kernel)) rfl
theorem m_634 : Cond.fieldLink "ElementFilesModel" 121 "ElementFilesModel" "width" "I" ∈ ev_tbl := ev_mem (List.mem_of_getElem? (i := 787) (by decide +kernel)) rfl
theorem m_635 : Cond.fieldLink "ElementFilesModel" 124 "ElementFilesModel" "vint" "J" ∈ ev_tbl := ev_mem (List.mem_of_getElem? (i := 788) (by decide +kernel)) rfl
theorem m_636 : Cond.fieldLink "ElementFilesModel" 128 "ElementFilesModel" "ones" "Z" ∈ ev_tbl := ev_mem (List.mem_of_getElem? (i := 789) (by decide +kernel)) rfl
theorem m_637 : Cond.fieldLink "ElementFilesModel" 132 "ElementFilesModel" "depth" "I" ∈ ev_tbl := ev_mem (List.mem_of_getElem? (i := 790) (by decide +kernel)) rfl
theorem m_638 : Cond.fieldLink "ElementFilesModel" 64 "ElementFilesModel" "openMaster" "[I" ∈ ev_tbl := ev_mem (List.mem_of_getElem? (i := 791) (by decide +kernel)) rfl
theorem m_639 : Cond.fieldLink "ElementFilesModel" 67 "ElementFilesModel" "openEnd" "[I" ∈ ev_tbl := ev_mem (List.mem_of_getElem? (i := 792) (by decide +kernel)) rfl
theorem m_640 : Cond.fieldLink "ElementFilesModel" 70 "ElementFilesModel" "unknown" "[Z" ∈ ev_tbl := ev_mem (List.mem_of_getElem? (i := 793) (by decide +kernel)) rfl
theorem m_641 : Cond.fieldLink "ElementFilesModel" 73 "ElementFilesModel" "data" "[I" ∈ ev_tbl := ev_mem (List.mem_of_getElem? (i := 794) (by decide +kernel)) rfl
theorem m_642 : Cond.fieldLink "ElementFilesModel" 76 "ElementFilesModel" "begins" "[I" ∈ ev_tbl := ev_mem (List.mem_of_getElem? (i := 795) (by decide +kernel)) rfl
theorem m_643 : Cond.arrayClass .long ∈ ev_tbl := ev_mem (List.mem_of_getElem? (i := 863) (by decide +kernel)) rfl
theorem m_644 : Cond.arrayClass .boolean ∈ ev_tbl := ev_mem (List.mem_of_getElem? (i := 864) (by decide +kernel)) rfl
theorem m_645 : Cond.methodLink "ElementFilesLaw" 42 ⟨"ElementFilesModel", "clear", "()V"⟩ ∈ ev_tbl := ev_mem (List.mem_of_getElem? (i := 865) (by decide +kernel)) rfl
theorem m_646 : Cond.instanceMethod ⟨"ElementFilesModel", "clear", "()V"⟩ ∈ ev_tbl := ev_mem (List.mem_of_getElem? (i := 866) (by decide +kernel)) rfl
theorem m_647 : Cond.selects "ElementFilesModel" ⟨"ElementFilesModel", "clear", "()V"⟩ ⟨"ElementFilesModel", "clear", "()V"⟩ ∈ ev_tbl := ev_mem (List.mem_of_getElem? (i := 867) (by decide +kernel)) rfl
theorem m_648 : Cond.code ⟨"ElementFilesModel", "clear", "()V"⟩ prog_11_method_14_code 1 none ∈ ev_tbl := ev_mem (List.mem_of_getElem? (i := 868) (by decide +kernel)) rfl
theorem m_649 : Cond.methodLink "ElementFilesLaw" 19 ⟨"ElementFilesModel", "feed", "(JI)I"⟩ ∈ ev_tbl := ev_mem (List.mem_of_getElem? (i := 869) (by decide +kernel)) rfl
theorem m_650 : Cond.instanceMethod ⟨"ElementFilesModel", "feed", "(JI)I"⟩ ∈ ev_tbl := ev_mem (List.mem_of_getElem? (i := 870) (by decide +kernel)) rfl
theorem m_651 : Cond.selects "ElementFilesModel" ⟨"ElementFilesModel", "feed", "(JI)I"⟩ ⟨"ElementFilesModel", "feed", "(JI)I"⟩ ∈ ev_tbl := ev_mem (List.mem_of_getElem? (i := 871) (by decide +kernel)) rfl
theorem m_652 : Cond.code ⟨"ElementFilesModel", "feed", "(JI)I"⟩ prog_11_method_15_code 5 (some .int) ∈ ev_tbl := ev_mem (List.mem_of_getElem? (i := 872) (by decide +kernel)) rfl
theorem m_653 : Cond.constantLong "ElementFilesModel" 110 (255) ∈ ev_tbl := ev_mem (List.mem_of_getElem? (i := 873) (by decide +kernel)) rfl
theorem m_654 : Cond.methodLink "ElementFilesLaw" 24 ⟨"ElementFilesModel", "take", "(Z)I"⟩ ∈ ev_tbl := ev_mem (List.mem_of_getElem? (i := 874) (by decide +kernel)) rfl
theorem m_655 : Cond.instanceMethod ⟨"ElementFilesModel", "take", "(Z)I"⟩ ∈ ev_tbl := ev_mem (List.mem_of_getElem? (i := 875) (by decide +kernel)) rfl
theorem m_656 : Cond.selects "ElementFilesModel" ⟨"ElementFilesModel", "take", "(Z)I"⟩ ⟨"ElementFilesModel", "take", "(Z)I"⟩ ∈ ev_tbl := ev_mem (List.mem_of_getElem? (i := 876) (by decide +kernel)) rfl
theorem m_657 : Cond.code ⟨"ElementFilesModel", "take", "(Z)I"⟩ prog_11_method_16_code 3 (some .int) ∈ ev_tbl := ev_mem (List.mem_of_getElem? (i := 877) (by decide +kernel)) rfl
theorem m_658 : Cond.methodLink "ElementFilesLaw" 29 ⟨"ElementFilesModel", "out", "(I)I"⟩ ∈ ev_tbl := ev_mem (List.mem_of_getElem? (i := 878) (by decide +kernel)) rfl
theorem m_659 : Cond.instanceMethod ⟨"ElementFilesModel", "out", "(I)I"⟩ ∈ ev_tbl := ev_mem (List.mem_of_getElem? (i := 879) (by decide +kernel)) rfl
theorem m_660 : Cond.selects "ElementFilesModel" ⟨"ElementFilesModel", "out", "(I)I"⟩ ⟨"ElementFilesModel", "out", "(I)I"⟩ ∈ ev_tbl := ev_mem (List.mem_of_getElem? (i := 880) (by decide +kernel)) rfl
theorem m_661 : Cond.code ⟨"ElementFilesModel", "out", "(I)I"⟩ prog_11_method_17_code 2 (some .int) ∈ ev_tbl := ev_mem (List.mem_of_getElem? (i := 881) (by decide +kernel)) rfl
theorem m_662 : Cond.methodLink "ElementFilesLaw" 34 ⟨"ElementFilesModel", "read", "()I"⟩ ∈ ev_tbl := ev_mem (List.mem_of_getElem? (i := 882) (by decide +kernel)) rfl
theorem m_663 : Cond.instanceMethod ⟨"ElementFilesModel", "read", "()I"⟩ ∈ ev_tbl := ev_mem (List.mem_of_getElem? (i := 883) (by decide +kernel)) rfl
theorem m_664 : Cond.selects "ElementFilesModel" ⟨"ElementFilesModel", "read", "()I"⟩ ⟨"ElementFilesModel", "read", "()I"⟩ ∈ ev_tbl := ev_mem (List.mem_of_getElem? (i := 884) (by decide +kernel)) rfl
theorem m_665 : Cond.code ⟨"ElementFilesModel", "read", "()I"⟩ prog_11_method_33_code 3 (some .int) ∈ ev_tbl := ev_mem (List.mem_of_getElem? (i := 885) (by decide +kernel)) rfl
theorem m_666 : Cond.methodLink "ElementFilesModel" 190 ⟨"ElementFilesModel", "readElement", "()I"⟩ ∈ ev_tbl := ev_mem (List.mem_of_getElem? (i := 886) (by decide +kernel)) rfl
theorem m_667 : Cond.instanceMethod ⟨"ElementFilesModel", "readElement", "()I"⟩ ∈ ev_tbl := ev_mem (List.mem_of_getElem? (i := 888) (by decide +kernel)) rfl
theorem m_668 : Cond.code ⟨"ElementFilesModel", "readElement", "()I"⟩ prog_11_method_32_code 5 (some .int) ∈ ev_tbl := ev_mem (List.mem_of_getElem? (i := 889) (by decide +kernel)) rfl
theorem m_669 : Cond.methodLink "ElementFilesModel" 171 ⟨"ElementFilesModel", "readId", "(I)I"⟩ ∈ ev_tbl := ev_mem (List.mem_of_getElem? (i := 890) (by decide +kernel)) rfl
theorem m_670 : Cond.instanceMethod ⟨"ElementFilesModel", "readId", "(I)I"⟩ ∈ ev_tbl := ev_mem (List.mem_of_getElem? (i := 892) (by decide +kernel)) rfl
theorem m_671 : Cond.code ⟨"ElementFilesModel", "readId", "(I)I"⟩ prog_11_method_20_code 5 (some .int) ∈ ev_tbl := ev_mem (List.mem_of_getElem? (i := 893) (by decide +kernel)) rfl
theorem m_672 : Cond.methodLink "ElementFilesModel" 118 ⟨"ElementFilesModel", "widthOf", "(I)I"⟩ ∈ ev_tbl := ev_mem (List.mem_of_getElem? (i := 894) (by decide +kernel)) rfl
theorem m_673 : Cond.static ⟨"ElementFilesModel", "widthOf", "(I)I"⟩ ∈ ev_tbl := ev_mem (List.mem_of_getElem? (i := 895) (by decide +kernel)) rfl
theorem m_674 : Cond.code ⟨"ElementFilesModel", "widthOf", "(I)I"⟩ prog_11_method_18_code 2 (some .int) ∈ ev_tbl := ev_mem (List.mem_of_getElem? (i := 896) (by decide +kernel)) rfl
theorem m_675 : Cond.methodLink "ElementFilesModel" 174 ⟨"ElementFilesModel", "masterId", "()I"⟩ ∈ ev_tbl := ev_mem (List.mem_of_getElem? (i := 897) (by decide +kernel)) rfl
theorem m_676 : Cond.instanceMethod ⟨"ElementFilesModel", "masterId", "()I"⟩ ∈ ev_tbl := ev_mem (List.mem_of_getElem? (i := 899) (by decide +kernel)) rfl
theorem m_677 : Cond.code ⟨"ElementFilesModel", "masterId", "()I"⟩ prog_11_method_21_code 1 (some .int) ∈ ev_tbl := ev_mem (List.mem_of_getElem? (i := 900) (by decide +kernel)) rfl
theorem m_678 : Cond.methodLink "ElementFilesModel" 178 ⟨"ElementFilesModel", "stands", "(II)Z"⟩ ∈ ev_tbl := ev_mem (List.mem_of_getElem? (i := 901) (by decide +kernel)) rfl
theorem m_679 : Cond.static ⟨"ElementFilesModel", "stands", "(II)Z"⟩ ∈ ev_tbl := ev_mem (List.mem_of_getElem? (i := 902) (by decide +kernel)) rfl
theorem m_680 : Cond.code ⟨"ElementFilesModel", "stands", "(II)Z"⟩ prog_11_method_3_code 2 (some .boolean) ∈ ev_tbl := ev_mem (List.mem_of_getElem? (i := 903) (by decide +kernel)) rfl
theorem m_681 : Cond.constant "ElementFilesModel" 79 (440786851) ∈ ev_tbl := ev_mem (List.mem_of_getElem? (i := 904) (by decide +kernel)) rfl
theorem m_682 : Cond.constant "ElementFilesModel" 80 (408125543) ∈ ev_tbl := ev_mem (List.mem_of_getElem? (i := 905) (by decide +kernel)) rfl
theorem m_683 : Cond.constant "ElementFilesModel" 81 (524531317) ∈ ev_tbl := ev_mem (List.mem_of_getElem? (i := 906) (by decide +kernel)) rfl
theorem m_684 : Cond.methodLink "ElementFilesModel" 82 ⟨"ElementFilesModel", "kindOf", "(I)I"⟩ ∈ ev_tbl := ev_mem (List.mem_of_getElem? (i := 907) (by decide +kernel)) rfl
theorem m_685 : Cond.static ⟨"ElementFilesModel", "kindOf", "(I)I"⟩ ∈ ev_tbl := ev_mem (List.mem_of_getElem? (i := 908) (by decide +kernel)) rfl
theorem m_686 : Cond.code ⟨"ElementFilesModel", "kindOf", "(I)I"⟩ prog_11_method_2_code 1 (some .int) ∈ ev_tbl := ev_mem (List.mem_of_getElem? (i := 909) (by decide +kernel)) rfl
theorem m_687 : Cond.methodLink "ElementFilesModel" 181 ⟨"ElementFilesModel", "children", "(I)I"⟩ ∈ ev_tbl := ev_mem (List.mem_of_getElem? (i := 910) (by decide +kernel)) rfl
theorem m_688 : Cond.instanceMethod ⟨"ElementFilesModel", "children", "(I)I"⟩ ∈ ev_tbl := ev_mem (List.mem_of_getElem? (i := 912) (by decide +kernel)) rfl
theorem m_689 : Cond.code ⟨"ElementFilesModel", "children", "(I)I"⟩ prog_11_method_7_code 4 (some .int) ∈ ev_tbl := ev_mem (List.mem_of_getElem? (i := 913) (by decide +kernel)) rfl
theorem m_690 : Cond.methodLink "ElementFilesModel" 184 ⟨"ElementFilesModel", "readSizeOf", "(I)I"⟩ ∈ ev_tbl := ev_mem (List.mem_of_getElem? (i := 914) (by decide +kernel)) rfl
theorem m_691 : Cond.instanceMethod ⟨"ElementFilesModel", "readSizeOf", "(I)I"⟩ ∈ ev_tbl := ev_mem (List.mem_of_getElem? (i := 916) (by decide +kernel)) rfl
theorem m_692 : Cond.code ⟨"ElementFilesModel", "readSizeOf", "(I)I"⟩ prog_11_method_31_code 4 (some .int) ∈ ev_tbl := ev_mem (List.mem_of_getElem? (i := 917) (by decide +kernel)) rfl
theorem m_693 : Cond.methodLink "ElementFilesModel" 140 ⟨"ElementFilesModel", "readVint", "(I)I"⟩ ∈ ev_tbl := ev_mem (List.mem_of_getElem? (i := 918) (by decide +kernel)) rfl
theorem m_694 : Cond.instanceMethod ⟨"ElementFilesModel", "readVint", "(I)I"⟩ ∈ ev_tbl := ev_mem (List.mem_of_getElem? (i := 920) (by decide +kernel)) rfl
theorem m_695 : Cond.code ⟨"ElementFilesModel", "readVint", "(I)I"⟩ prog_11_method_19_code 3 (some .int) ∈ ev_tbl := ev_mem (List.mem_of_getElem? (i := 921) (by decide +kernel)) rfl
theorem m_696 : Cond.methodLink "ElementFilesModel" 187 ⟨"ElementFilesModel", "readData", "(II)Z"⟩ ∈ ev_tbl := ev_mem (List.mem_of_getElem? (i := 922) (by decide +kernel)) rfl
theorem m_697 : Cond.instanceMethod ⟨"ElementFilesModel", "readData", "(II)Z"⟩ ∈ ev_tbl := ev_mem (List.mem_of_getElem? (i := 924) (by decide +kernel)) rfl
theorem m_698 : Cond.code ⟨"ElementFilesModel", "readData", "(II)Z"⟩ prog_11_method_30_code 3 (some .boolean) ∈ ev_tbl := ev_mem (List.mem_of_getElem? (i := 925) (by decide +kernel)) rfl
theorem m_699 : Cond.methodLink "ElementFilesModel" 159 ⟨"ElementFilesModel", "readNumber", "(I)Z"⟩ ∈ ev_tbl := ev_mem (List.mem_of_getElem? (i := 926) (by decide +kernel)) rfl
theorem m_700 : Cond.instanceMethod ⟨"ElementFilesModel", "readNumber", "(I)Z"⟩ ∈ ev_tbl := ev_mem (List.mem_of_getElem? (i := 928) (by decide +kernel)) rfl
theorem m_701 : Cond.code ⟨"ElementFilesModel", "readNumber", "(I)Z"⟩ prog_11_method_23_code 5 (some .boolean) ∈ ev_tbl := ev_mem (List.mem_of_getElem? (i := 929) (by decide +kernel)) rfl
theorem m_702 : Cond.methodLink "ElementFilesModel" 162 ⟨"ElementFilesModel", "readText", "(I)Z"⟩ ∈ ev_tbl := ev_mem (List.mem_of_getElem? (i := 930) (by decide +kernel)) rfl
theorem m_703 : Cond.instanceMethod ⟨"ElementFilesModel", "readText", "(I)Z"⟩ ∈ ev_tbl := ev_mem (List.mem_of_getElem? (i := 932) (by decide +kernel)) rfl
theorem m_704 : Cond.code ⟨"ElementFilesModel", "readText", "(I)Z"⟩ prog_11_method_24_code 4 (some .boolean) ∈ ev_tbl := ev_mem (List.mem_of_getElem? (i := 933) (by decide +kernel)) rfl
theorem m_705 : Cond.methodLink "ElementFilesModel" 165 ⟨"ElementFilesModel", "readBlock", "(I)Z"⟩ ∈ ev_tbl := ev_mem (List.mem_of_getElem? (i := 934) (by decide +kernel)) rfl
theorem m_706 : Cond.instanceMethod ⟨"ElementFilesModel", "readBlock", "(I)Z"⟩ ∈ ev_tbl := ev_mem (List.mem_of_getElem? (i := 936) (by decide +kernel)) rfl
theorem m_707 : Cond.code ⟨"ElementFilesModel", "readBlock", "(I)Z"⟩ prog_11_method_28_code 9 (some .boolean) ∈ ev_tbl := ev_mem (List.mem_of_getElem? (i := 937) (by decide +kernel)) rfl
theorem m_708 : Cond.constantLong "ElementFilesModel" 149 (126) ∈ ev_tbl := ev_mem (List.mem_of_getElem? (i := 938) (by decide +kernel)) rfl
theorem m_709 : Cond.methodLink "ElementFilesModel" 151 ⟨"ElementFilesModel", "readSizes", "(III)Z"⟩ ∈ ev_tbl := ev_mem (List.mem_of_getElem? (i := 939) (by decide +kernel)) rfl
theorem m_710 : Cond.instanceMethod ⟨"ElementFilesModel", "readSizes", "(III)Z"⟩ ∈ ev_tbl := ev_mem (List.mem_of_getElem? (i := 941) (by decide +kernel)) rfl
theorem m_711 : Cond.code ⟨"ElementFilesModel", "readSizes", "(III)Z"⟩ prog_11_method_27_code 8 (some .boolean) ∈ ev_tbl := ev_mem (List.mem_of_getElem? (i := 942) (by decide +kernel)) rfl
theorem m_712 : Cond.methodLink "ElementFilesModel" 145 ⟨"ElementFilesModel", "readSize", "(IIII)I"⟩ ∈ ev_tbl := ev_mem (List.mem_of_getElem? (i := 943) (by decide +kernel)) rfl
theorem m_713 : Cond.instanceMethod ⟨"ElementFilesModel", "readSize", "(IIII)I"⟩ ∈ ev_tbl := ev_mem (List.mem_of_getElem? (i := 945) (by decide +kernel)) rfl
theorem m_714 : Cond.code ⟨"ElementFilesModel", "readSize", "(IIII)I"⟩ prog_11_method_26_code 8 (some .int) ∈ ev_tbl := ev_mem (List.mem_of_getElem? (i := 946) (by decide +kernel)) rfl
theorem m_715 : Cond.constantLong "ElementFilesModel" 143 (640) ∈ ev_tbl := ev_mem (List.mem_of_getElem? (i := 947) (by decide +kernel)) rfl
theorem m_716 : Cond.methodLink "ElementFilesModel" 155 ⟨"ElementFilesModel", "keep", "(I)V"⟩ ∈ ev_tbl := ev_mem (List.mem_of_getElem? (i := 948) (by decide +kernel)) rfl
theorem m_717 : Cond.instanceMethod ⟨"ElementFilesModel", "keep", "(I)V"⟩ ∈ ev_tbl := ev_mem (List.mem_of_getElem? (i := 950) (by decide +kernel)) rfl
theorem m_718 : Cond.code ⟨"ElementFilesModel", "keep", "(I)V"⟩ prog_11_method_29_code 3 none ∈ ev_tbl := ev_mem (List.mem_of_getElem? (i := 951) (by decide +kernel)) rfl
theorem m_719 : Cond.methodLink "ElementFilesModel" 168 ⟨"ElementFilesModel", "readSum", "(II)Z"⟩ ∈ ev_tbl := ev_mem (List.mem_of_getElem? (i := 952) (by decide +kernel)) rfl
theorem m_720 : Cond.instanceMethod ⟨"ElementFilesModel", "readSum", "(II)Z"⟩ ∈ ev_tbl := ev_mem (List.mem_of_getElem? (i := 954) (by decide +kernel)) rfl
theorem m_721 : Cond.code ⟨"ElementFilesModel", "readSum", "(II)Z"⟩ prog_11_method_25_code 5 (some .boolean) ∈ ev_tbl := ev_mem (List.mem_of_getElem? (i := 955) (by decide +kernel)) rfl
theorem m_722 : Cond.methodLink "ElementFilesModel" 136 ⟨"ElementFilesModel", "crcStep", "(II)I"⟩ ∈ ev_tbl := ev_mem (List.mem_of_getElem? (i := 956) (by decide +kernel)) rfl
theorem m_723 : Cond.static ⟨"ElementFilesModel", "crcStep", "(II)I"⟩ ∈ ev_tbl := ev_mem (List.mem_of_getElem? (i := 957) (by decide +kernel)) rfl
theorem m_724 : Cond.code ⟨"ElementFilesModel", "crcStep", "(II)I"⟩ prog_11_method_22_code 5 (some .int) ∈ ev_tbl := ev_mem (List.mem_of_getElem? (i := 958) (by decide +kernel)) rfl
theorem m_725 : Cond.constant "ElementFilesModel" 135 (-306674912) ∈ ev_tbl := ev_mem (List.mem_of_getElem? (i := 959) (by decide +kernel)) rfl
theorem m_726 : Cond.methodLink "ElementFilesLaw" 38 ⟨"ElementFilesModel", "where", "()I"⟩ ∈ ev_tbl := ev_mem (List.mem_of_getElem? (i := 960) (by decide +kernel)) rfl
theorem m_727 : Cond.instanceMethod ⟨"ElementFilesModel", "where", "()I"⟩ ∈ ev_tbl := ev_mem (List.mem_of_getElem? (i := 961) (by decide +kernel)) rfl
theorem m_728 : Cond.selects "ElementFilesModel" ⟨"ElementFilesModel", "where", "()I"⟩ ⟨"ElementFilesModel", "where", "()I"⟩ ∈ ev_tbl := ev_mem (List.mem_of_getElem? (i := 962) (by decide +kernel)) rfl
theorem m_729 : Cond.code ⟨"ElementFilesModel", "where", "()I"⟩ prog_11_method_34_code 1 (some .int) ∈ ev_tbl := ev_mem (List.mem_of_getElem? (i := 963) (by decide +kernel)) rfl
theorem m_730 : Cond.methodLink "ElementFilesLaw" 47 ⟨"ElementFilesModel", "make", "(IIJ)I"⟩ ∈ ev_tbl := ev_mem (List.mem_of_getElem? (i := 964) (by decide +kernel)) rfl
theorem m_731 : Cond.instanceMethod ⟨"ElementFilesModel", "make", "(IIJ)I"⟩ ∈ ev_tbl := ev_mem (List.mem_of_getElem? (i := 965) (by decide +kernel)) rfl
theorem m_732 : Cond.selects "ElementFilesModel" ⟨"ElementFilesModel", "make", "(IIJ)I"⟩ ⟨"ElementFilesModel", "make", "(IIJ)I"⟩ ∈ ev_tbl := ev_mem (List.mem_of_getElem? (i := 966) (by decide +kernel)) rfl
theorem m_733 : Cond.code ⟨"ElementFilesModel", "make", "(IIJ)I"⟩ prog_11_method_35_code 8 (some .int) ∈ ev_tbl := ev_mem (List.mem_of_getElem? (i := 967) (by decide +kernel)) rfl
theorem m_734 : Cond.methodLink "ElementFilesModel" 89 ⟨"ElementFilesModel", "isElement", "(I)Z"⟩ ∈ ev_tbl := ev_mem (List.mem_of_getElem? (i := 968) (by decide +kernel)) rfl
theorem m_735 : Cond.instanceMethod ⟨"ElementFilesModel", "isElement", "(I)Z"⟩ ∈ ev_tbl := ev_mem (List.mem_of_getElem? (i := 970) (by decide +kernel)) rfl
theorem m_736 : Cond.code ⟨"ElementFilesModel", "isElement", "(I)Z"⟩ prog_11_method_4_code 2 (some .boolean) ∈ ev_tbl := ev_mem (List.mem_of_getElem? (i := 971) (by decide +kernel)) rfl
theorem m_737 : Cond.constantLong "ElementFilesModel" 193 (64) ∈ ev_tbl := ev_mem (List.mem_of_getElem? (i := 972) (by decide +kernel)) rfl
theorem m_738 : Cond.methodLink "ElementFilesModel" 195 ⟨"ElementFilesModel", "insert", "(IIJ)I"⟩ ∈ ev_tbl := ev_mem (List.mem_of_getElem? (i := 973) (by decide +kernel)) rfl
theorem m_739 : Cond.instanceMethod ⟨"ElementFilesModel", "insert", "(IIJ)I"⟩ ∈ ev_tbl := ev_mem (List.mem_of_getElem? (i := 975) (by decide +kernel)) rfl
theorem m_740 : Cond.code ⟨"ElementFilesModel", "insert", "(IIJ)I"⟩ prog_11_method_12_code 7 (some .int) ∈ ev_tbl := ev_mem (List.mem_of_getElem? (i := 976) (by decide +kernel)) rfl
theorem m_741 : Cond.methodLink "ElementFilesModel" 97 ⟨"ElementFilesModel", "behind", "(I)I"⟩ ∈ ev_tbl := ev_mem (List.mem_of_getElem? (i := 977) (by decide +kernel)) rfl
theorem m_742 : Cond.instanceMethod ⟨"ElementFilesModel", "behind", "(I)I"⟩ ∈ ev_tbl := ev_mem (List.mem_of_getElem? (i := 979) (by decide +kernel)) rfl
theorem m_743 : Cond.code ⟨"ElementFilesModel", "behind", "(I)I"⟩ prog_11_method_10_code 3 (some .int) ∈ ev_tbl := ev_mem (List.mem_of_getElem? (i := 980) (by decide +kernel)) rfl
theorem m_744 : Cond.methodLink "ElementFilesModel" 93 ⟨"ElementFilesModel", "isIn", "(II)Z"⟩ ∈ ev_tbl := ev_mem (List.mem_of_getElem? (i := 981) (by decide +kernel)) rfl
theorem m_745 : Cond.instanceMethod ⟨"ElementFilesModel", "isIn", "(II)Z"⟩ ∈ ev_tbl := ev_mem (List.mem_of_getElem? (i := 983) (by decide +kernel)) rfl
theorem m_746 : Cond.code ⟨"ElementFilesModel", "isIn", "(II)Z"⟩ prog_11_method_11_code 4 (some .boolean) ∈ ev_tbl := ev_mem (List.mem_of_getElem? (i := 984) (by decide +kernel)) rfl
theorem m_747 : Cond.methodLink "ElementFilesModel" 100 ⟨"ElementFilesModel", "move", "(II)V"⟩ ∈ ev_tbl := ev_mem (List.mem_of_getElem? (i := 985) (by decide +kernel)) rfl
theorem m_748 : Cond.instanceMethod ⟨"ElementFilesModel", "move", "(II)V"⟩ ∈ ev_tbl := ev_mem (List.mem_of_getElem? (i := 987) (by decide +kernel)) rfl
theorem m_749 : Cond.code ⟨"ElementFilesModel", "move", "(II)V"⟩ prog_11_method_9_code 4 none ∈ ev_tbl := ev_mem (List.mem_of_getElem? (i := 988) (by decide +kernel)) rfl
theorem m_750 : Cond.methodLink "ElementFilesLaw" 52 ⟨"ElementFilesModel", "letter", "(IC)I"⟩ ∈ ev_tbl := ev_mem (List.mem_of_getElem? (i := 989) (by decide +kernel)) rfl
theorem m_751 : Cond.instanceMethod ⟨"ElementFilesModel", "letter", "(IC)I"⟩ ∈ ev_tbl := ev_mem (List.mem_of_getElem? (i := 990) (by decide +kernel)) rfl
theorem m_752 : Cond.selects "ElementFilesModel" ⟨"ElementFilesModel", "letter", "(IC)I"⟩ ⟨"ElementFilesModel", "letter", "(IC)I"⟩ ∈ ev_tbl := ev_mem (List.mem_of_getElem? (i := 991) (by decide +kernel)) rfl
theorem m_753 : Cond.code ⟨"ElementFilesModel", "letter", "(IC)I"⟩ prog_11_method_36_code 3 (some .int) ∈ ev_tbl := ev_mem (List.mem_of_getElem? (i := 992) (by decide +kernel)) rfl
theorem m_754 : Cond.methodLink "ElementFilesModel" 199 ⟨"ElementFilesModel", "isKind", "(II)Z"⟩ ∈ ev_tbl := ev_mem (List.mem_of_getElem? (i := 993) (by decide +kernel)) rfl
theorem m_755 : Cond.instanceMethod ⟨"ElementFilesModel", "isKind", "(II)Z"⟩ ∈ ev_tbl := ev_mem (List.mem_of_getElem? (i := 995) (by decide +kernel)) rfl
theorem m_756 : Cond.code ⟨"ElementFilesModel", "isKind", "(II)Z"⟩ prog_11_method_6_code 3 (some .boolean) ∈ ev_tbl := ev_mem (List.mem_of_getElem? (i := 996) (by decide +kernel)) rfl
theorem m_757 : Cond.methodLink "ElementFilesLaw" 57 ⟨"ElementFilesModel", "frame", "(II)I"⟩ ∈ ev_tbl := ev_mem (List.mem_of_getElem? (i := 997) (by decide +kernel)) rfl
theorem m_758 : Cond.instanceMethod ⟨"ElementFilesModel", "frame", "(II)I"⟩ ∈ ev_tbl := ev_mem (List.mem_of_getElem? (i := 998) (by decide +kernel)) rfl
theorem m_759 : Cond.selects "ElementFilesModel" ⟨"ElementFilesModel", "frame", "(II)I"⟩ ⟨"ElementFilesModel", "frame", "(II)I"⟩ ∈ ev_tbl := ev_mem (List.mem_of_getElem? (i := 999) (by decide +kernel)) rfl
theorem m_760 : Cond.code ⟨"ElementFilesModel", "frame", "(II)I"⟩ prog_11_method_37_code 3 (some .int) ∈ ev_tbl := ev_mem (List.mem_of_getElem? (i := 1000) (by decide +kernel)) rfl
theorem m_761 : Cond.methodLink "ElementFilesLaw" 62 ⟨"ElementFilesModel", "block", "(IIIZI)I"⟩ ∈ ev_tbl := ev_mem (List.mem_of_getElem? (i := 1001) (by decide +kernel)) rfl
theorem m_762 : Cond.instanceMethod ⟨"ElementFilesModel", "block", "(IIIZI)I"⟩ ∈ ev_tbl := ev_mem (List.mem_of_getElem? (i := 1002) (by decide +kernel)) rfl
theorem m_763 : Cond.selects "ElementFilesModel" ⟨"ElementFilesModel", "block", "(IIIZI)I"⟩ ⟨"ElementFilesModel", "block", "(IIIZI)I"⟩ ∈ ev_tbl := ev_mem (List.mem_of_getElem? (i := 1003) (by decide +kernel)) rfl
theorem m_764 : Cond.code ⟨"ElementFilesModel", "block", "(IIIZI)I"⟩ prog_11_method_39_code 9 (some .int) ∈ ev_tbl := ev_mem (List.mem_of_getElem? (i := 1004) (by decide +kernel)) rfl
theorem m_765 : Cond.methodLink "ElementFilesModel" 208 ⟨"ElementFilesModel", "is", "(II)Z"⟩ ∈ ev_tbl := ev_mem (List.mem_of_getElem? (i := 1005) (by decide +kernel)) rfl
theorem m_766 : Cond.instanceMethod ⟨"ElementFilesModel", "is", "(II)Z"⟩ ∈ ev_tbl := ev_mem (List.mem_of_getElem? (i := 1007) (by decide +kernel)) rfl
theorem m_767 : Cond.code ⟨"ElementFilesModel", "is", "(II)Z"⟩ prog_11_method_5_code 3 (some .boolean) ∈ ev_tbl := ev_mem (List.mem_of_getElem? (i := 1008) (by decide +kernel)) rfl
theorem m_768 : Cond.methodLink "ElementFilesModel" 211 ⟨"ElementFilesModel", "evenHands", "()Z"⟩ ∈ ev_tbl := ev_mem (List.mem_of_getElem? (i := 1009) (by decide +kernel)) rfl
theorem m_769 : Cond.instanceMethod ⟨"ElementFilesModel", "evenHands", "()Z"⟩ ∈ ev_tbl := ev_mem (List.mem_of_getElem? (i := 1011) (by decide +kernel)) rfl
theorem m_770 : Cond.code ⟨"ElementFilesModel", "evenHands", "()Z"⟩ prog_11_method_38_code 2 (some .boolean) ∈ ev_tbl := ev_mem (List.mem_of_getElem? (i := 1012) (by decide +kernel)) rfl
theorem m_771 : Cond.methodLink "ElementFilesLaw" 66 ⟨"ElementFilesModel", "id", "(I)I"⟩ ∈ ev_tbl := ev_mem (List.mem_of_getElem? (i := 1013) (by decide +kernel)) rfl
theorem m_772 : Cond.instanceMethod ⟨"ElementFilesModel", "id", "(I)I"⟩ ∈ ev_tbl := ev_mem (List.mem_of_getElem? (i := 1014) (by decide +kernel)) rfl
theorem m_773 : Cond.selects "ElementFilesModel" ⟨"ElementFilesModel", "id", "(I)I"⟩ ⟨"ElementFilesModel", "id", "(I)I"⟩ ∈ ev_tbl := ev_mem (List.mem_of_getElem? (i := 1015) (by decide +kernel)) rfl
theorem m_774 : Cond.code ⟨"ElementFilesModel", "id", "(I)I"⟩ prog_11_method_40_code 2 (some .int) ∈ ev_tbl := ev_mem (List.mem_of_getElem? (i := 1016) (by decide +kernel)) rfl
theorem m_775 : Cond.methodLink "ElementFilesLaw" 70 ⟨"ElementFilesModel", "parent", "(I)I"⟩ ∈ ev_tbl := ev_mem (List.mem_of_getElem? (i := 1017) (by decide +kernel)) rfl
theorem m_776 : Cond.instanceMethod ⟨"ElementFilesModel", "parent", "(I)I"⟩ ∈ ev_tbl := ev_mem (List.mem_of_getElem? (i := 1018) (by decide +kernel)) rfl
theorem m_777 : Cond.selects "ElementFilesModel" ⟨"ElementFilesModel", "parent", "(I)I"⟩ ⟨"ElementFilesModel", "parent", "(I)I"⟩ ∈ ev_tbl := ev_mem (List.mem_of_getElem? (i := 1019) (by decide +kernel)) rfl
theorem m_778 : Cond.code ⟨"ElementFilesModel", "parent", "(I)I"⟩ prog_11_method_41_code 2 (some .int) ∈ ev_tbl := ev_mem (List.mem_of_getElem? (i := 1020) (by decide +kernel)) rfl
theorem m_779 : Cond.methodLink "ElementFilesLaw" 75 ⟨"ElementFilesModel", "value", "(I)J"⟩ ∈ ev_tbl := ev_mem (List.mem_of_getElem? (i := 1021) (by decide +kernel)) rfl
theorem m_780 : Cond.instanceMethod ⟨"ElementFilesModel", "value", "(I)J"⟩ ∈ ev_tbl := ev_mem (List.mem_of_getElem? (i := 1022) (by decide +kernel)) rfl
theorem m_781 : Cond.selects "ElementFilesModel" ⟨"ElementFilesModel", "value", "(I)J"⟩ ⟨"ElementFilesModel", "value", "(I)J"⟩ ∈ ev_tbl := ev_mem (List.mem_of_getElem? (i := 1023) (by decide +kernel)) rfl
theorem m_782 : Cond.code ⟨"ElementFilesModel", "value", "(I)J"⟩ prog_11_method_42_code 3 (some .long) ∈ ev_tbl := ev_mem (List.mem_of_getElem? (i := 1024) (by decide +kernel)) rfl
theorem m_783 : Cond.constantLong "ElementFilesModel" 215 (-1) ∈ ev_tbl := ev_mem (List.mem_of_getElem? (i := 1025) (by decide +kernel)) rfl
theorem m_784 : Cond.methodLink "ElementFilesLaw" 79 ⟨"ElementFilesModel", "part", "(II)I"⟩ ∈ ev_tbl := ev_mem (List.mem_of_getElem? (i := 1026) (by decide +kernel)) rfl
theorem m_785 : Cond.instanceMethod ⟨"ElementFilesModel", "part", "(II)I"⟩ ∈ ev_tbl := ev_mem (List.mem_of_getElem? (i := 1027) (by decide +kernel)) rfl
theorem m_786 : Cond.selects "ElementFilesModel" ⟨"ElementFilesModel", "part", "(II)I"⟩ ⟨"ElementFilesModel", "part", "(II)I"⟩ ∈ ev_tbl := ev_mem (List.mem_of_getElem? (i := 1028) (by decide +kernel)) rfl
theorem m_787 : Cond.code ⟨"ElementFilesModel", "part", "(II)I"⟩ prog_11_method_43_code 3 (some .int) ∈ ev_tbl := ev_mem (List.mem_of_getElem? (i := 1029) (by decide +kernel)) rfl
theorem m_788 : Cond.methodLink "ElementFilesModel" 217 ⟨"ElementFilesModel", "child", "(II)I"⟩ ∈ ev_tbl := ev_mem (List.mem_of_getElem? (i := 1030) (by decide +kernel)) rfl
theorem m_789 : Cond.instanceMethod ⟨"ElementFilesModel", "child", "(II)I"⟩ ∈ ev_tbl := ev_mem (List.mem_of_getElem? (i := 1032) (by decide +kernel)) rfl
theorem m_790 : Cond.code ⟨"ElementFilesModel", "child", "(II)I"⟩ prog_11_method_8_code 5 (some .int) ∈ ev_tbl := ev_mem (List.mem_of_getElem? (i := 1033) (by decide +kernel)) rfl
theorem m_791 : Cond.methodLink "ElementFilesLaw" 84 ⟨"ElementFilesModel", "sample", "(III)I"⟩ ∈ ev_tbl := ev_mem (List.mem_of_getElem? (i := 1034) (by decide +kernel)) rfl
theorem m_792 : Cond.instanceMethod ⟨"ElementFilesModel", "sample", "(III)I"⟩ ∈ ev_tbl := ev_mem (List.mem_of_getElem? (i := 1035) (by decide +kernel)) rfl
theorem m_793 : Cond.selects "ElementFilesModel" ⟨"ElementFilesModel", "sample", "(III)I"⟩ ⟨"ElementFilesModel", "sample", "(III)I"⟩ ∈ ev_tbl := ev_mem (List.mem_of_getElem? (i := 1036) (by decide +kernel)) rfl
theorem m_794 : Cond.code ⟨"ElementFilesModel", "sample", "(III)I"⟩ prog_11_method_44_code 4 (some .int) ∈ ev_tbl := ev_mem (List.mem_of_getElem? (i := 1037) (by decide +kernel)) rfl
theorem m_795 : Cond.methodLink "ElementFilesLaw" 88 ⟨"ElementFilesModel", "detail", "(II)I"⟩ ∈ ev_tbl := ev_mem (List.mem_of_getElem? (i := 1038) (by decide +kernel)) rfl
theorem m_796 : Cond.instanceMethod ⟨"ElementFilesModel", "detail", "(II)I"⟩ ∈ ev_tbl := ev_mem (List.mem_of_getElem? (i := 1039) (by decide +kernel)) rfl
theorem m_797 : Cond.selects "ElementFilesModel" ⟨"ElementFilesModel", "detail", "(II)I"⟩ ⟨"ElementFilesModel", "detail", "(II)I"⟩ ∈ ev_tbl := ev_mem (List.mem_of_getElem? (i := 1040) (by decide +kernel)) rfl
theorem m_798 : Cond.code ⟨"ElementFilesModel", "detail", "(II)I"⟩ prog_11_method_45_code 3 (some .int) ∈ ev_tbl := ev_mem (List.mem_of_getElem? (i := 1041) (by decide +kernel)) rfl
theorem m_799 : Cond.constant "ElementFilesModel" 220 (-65536) ∈ ev_tbl := ev_mem (List.mem_of_getElem? (i := 1042) (by decide +kernel)) rfl
theorem m_800 : Cond.methodLink "ElementFilesLaw" 92 ⟨"ElementFilesModel", "write", "(Z)I"⟩ ∈ ev_tbl := ev_mem (List.mem_of_getElem? (i := 1043) (by decide +kernel)) rfl
theorem m_801 : Cond.instanceMethod ⟨"ElementFilesModel", "write", "(Z)I"⟩ ∈ ev_tbl := ev_mem (List.mem_of_getElem? (i := 1044) (by decide +kernel)) rfl
theorem m_802 : Cond.selects "ElementFilesModel" ⟨"ElementFilesModel", "write", "(Z)I"⟩ ⟨"ElementFilesModel", "write", "(Z)I"⟩ ∈ ev_tbl := ev_mem (List.mem_of_getElem? (i := 1045) (by decide +kernel)) rfl
theorem m_803 : Cond.code ⟨"ElementFilesModel", "write", "(Z)I"⟩ prog_11_method_59_code 5 (some .int) ∈ ev_tbl := ev_mem (List.mem_of_getElem? (i := 1046) (by decide +kernel)) rfl
theorem m_804 : Cond.methodLink "ElementFilesModel" 256 ⟨"ElementFilesModel", "measure", "(Z)V"⟩ ∈ ev_tbl := ev_mem (List.mem_of_getElem? (i := 1047) (by decide +kernel)) rfl
theorem m_805 : Cond.instanceMethod ⟨"ElementFilesModel", "measure", "(Z)V"⟩ ∈ ev_tbl := ev_mem (List.mem_of_getElem? (i := 1049) (by decide +kernel)) rfl
theorem m_806 : Cond.code ⟨"ElementFilesModel", "measure", "(Z)V"⟩ prog_11_method_52_code 7 none ∈ ev_tbl := ev_mem (List.mem_of_getElem? (i := 1050) (by decide +kernel)) rfl
theorem m_807 : Cond.methodLink "ElementFilesModel" 230 ⟨"ElementFilesModel", "numberBytes", "(J)I"⟩ ∈ ev_tbl := ev_mem (List.mem_of_getElem? (i := 1051) (by decide +kernel)) rfl
theorem m_808 : Cond.static ⟨"ElementFilesModel", "numberBytes", "(J)I"⟩ ∈ ev_tbl := ev_mem (List.mem_of_getElem? (i := 1052) (by decide +kernel)) rfl
theorem m_809 : Cond.code ⟨"ElementFilesModel", "numberBytes", "(J)I"⟩ prog_11_method_50_code 3 (some .int) ∈ ev_tbl := ev_mem (List.mem_of_getElem? (i := 1053) (by decide +kernel)) rfl
theorem m_810 : Cond.methodLink "ElementFilesModel" 233 ⟨"ElementFilesModel", "blockBytes", "(I)I"⟩ ∈ ev_tbl := ev_mem (List.mem_of_getElem? (i := 1054) (by decide +kernel)) rfl
theorem m_811 : Cond.instanceMethod ⟨"ElementFilesModel", "blockBytes", "(I)I"⟩ ∈ ev_tbl := ev_mem (List.mem_of_getElem? (i := 1056) (by decide +kernel)) rfl
theorem m_812 : Cond.code ⟨"ElementFilesModel", "blockBytes", "(I)I"⟩ prog_11_method_49_code 6 (some .int) ∈ ev_tbl := ev_mem (List.mem_of_getElem? (i := 1057) (by decide +kernel)) rfl
theorem m_813 : Cond.methodLink "ElementFilesModel" 223 ⟨"ElementFilesModel", "widthFor", "(J)I"⟩ ∈ ev_tbl := ev_mem (List.mem_of_getElem? (i := 1058) (by decide +kernel)) rfl
theorem m_814 : Cond.static ⟨"ElementFilesModel", "widthFor", "(J)I"⟩ ∈ ev_tbl := ev_mem (List.mem_of_getElem? (i := 1059) (by decide +kernel)) rfl
theorem m_815 : Cond.code ⟨"ElementFilesModel", "widthFor", "(J)I"⟩ prog_11_method_46_code 3 (some .int) ∈ ev_tbl := ev_mem (List.mem_of_getElem? (i := 1060) (by decide +kernel)) rfl
theorem m_816 : Cond.methodLink "ElementFilesModel" 227 ⟨"ElementFilesModel", "widthForStep", "(I)I"⟩ ∈ ev_tbl := ev_mem (List.mem_of_getElem? (i := 1061) (by decide +kernel)) rfl
theorem m_817 : Cond.static ⟨"ElementFilesModel", "widthForStep", "(I)I"⟩ ∈ ev_tbl := ev_mem (List.mem_of_getElem? (i := 1062) (by decide +kernel)) rfl
theorem m_818 : Cond.code ⟨"ElementFilesModel", "widthForStep", "(I)I"⟩ prog_11_method_48_code 2 (some .int) ∈ ev_tbl := ev_mem (List.mem_of_getElem? (i := 1063) (by decide +kernel)) rfl
theorem m_819 : Cond.methodLink "ElementFilesModel" 236 ⟨"ElementFilesModel", "idWidth", "(I)I"⟩ ∈ ev_tbl := ev_mem (List.mem_of_getElem? (i := 1064) (by decide +kernel)) rfl
theorem m_820 : Cond.static ⟨"ElementFilesModel", "idWidth", "(I)I"⟩ ∈ ev_tbl := ev_mem (List.mem_of_getElem? (i := 1065) (by decide +kernel)) rfl
theorem m_821 : Cond.code ⟨"ElementFilesModel", "idWidth", "(I)I"⟩ prog_11_method_47_code 1 (some .int) ∈ ev_tbl := ev_mem (List.mem_of_getElem? (i := 1066) (by decide +kernel)) rfl
theorem m_822 : Cond.constant "ElementFilesModel" 221 (16777215) ∈ ev_tbl := ev_mem (List.mem_of_getElem? (i := 1067) (by decide +kernel)) rfl
theorem m_823 : Cond.constant "ElementFilesModel" 222 (65535) ∈ ev_tbl := ev_mem (List.mem_of_getElem? (i := 1068) (by decide +kernel)) rfl
theorem m_824 : Cond.methodLink "ElementFilesModel" 239 ⟨"ElementFilesModel", "isLive", "(IZ)Z"⟩ ∈ ev_tbl := ev_mem (List.mem_of_getElem? (i := 1069) (by decide +kernel)) rfl
theorem m_825 : Cond.instanceMethod ⟨"ElementFilesModel", "isLive", "(IZ)Z"⟩ ∈ ev_tbl := ev_mem (List.mem_of_getElem? (i := 1071) (by decide +kernel)) rfl
theorem m_826 : Cond.code ⟨"ElementFilesModel", "isLive", "(IZ)Z"⟩ prog_11_method_51_code 3 (some .boolean) ∈ ev_tbl := ev_mem (List.mem_of_getElem? (i := 1072) (by decide +kernel)) rfl
theorem m_827 : Cond.methodLink "ElementFilesModel" 246 ⟨"ElementFilesModel", "putBytes", "(JI)V"⟩ ∈ ev_tbl := ev_mem (List.mem_of_getElem? (i := 1073) (by decide +kernel)) rfl
theorem m_828 : Cond.instanceMethod ⟨"ElementFilesModel", "putBytes", "(JI)V"⟩ ∈ ev_tbl := ev_mem (List.mem_of_getElem? (i := 1075) (by decide +kernel)) rfl
theorem m_829 : Cond.code ⟨"ElementFilesModel", "putBytes", "(JI)V"⟩ prog_11_method_54_code 5 none ∈ ev_tbl := ev_mem (List.mem_of_getElem? (i := 1076) (by decide +kernel)) rfl
theorem m_830 : Cond.methodLink "ElementFilesModel" 243 ⟨"ElementFilesModel", "put", "(I)V"⟩ ∈ ev_tbl := ev_mem (List.mem_of_getElem? (i := 1077) (by decide +kernel)) rfl
theorem m_831 : Cond.instanceMethod ⟨"ElementFilesModel", "put", "(I)V"⟩ ∈ ev_tbl := ev_mem (List.mem_of_getElem? (i := 1079) (by decide +kernel)) rfl
theorem m_832 : Cond.code ⟨"ElementFilesModel", "put", "(I)V"⟩ prog_11_method_53_code 2 none ∈ ev_tbl := ev_mem (List.mem_of_getElem? (i := 1080) (by decide +kernel)) rfl
theorem m_833 : Cond.methodLink "ElementFilesModel" 250 ⟨"ElementFilesModel", "putVint", "(JI)V"⟩ ∈ ev_tbl := ev_mem (List.mem_of_getElem? (i := 1081) (by decide +kernel)) rfl
theorem m_834 : Cond.instanceMethod ⟨"ElementFilesModel", "putVint", "(JI)V"⟩ ∈ ev_tbl := ev_mem (List.mem_of_getElem? (i := 1083) (by decide +kernel)) rfl
theorem m_835 : Cond.code ⟨"ElementFilesModel", "putVint", "(JI)V"⟩ prog_11_method_55_code 4 none ∈ ev_tbl := ev_mem (List.mem_of_getElem? (i := 1084) (by decide +kernel)) rfl
theorem m_836 : Cond.methodLink "ElementFilesModel" 260 ⟨"ElementFilesModel", "putData", "(I)V"⟩ ∈ ev_tbl := ev_mem (List.mem_of_getElem? (i := 1085) (by decide +kernel)) rfl
theorem m_837 : Cond.instanceMethod ⟨"ElementFilesModel", "putData", "(I)V"⟩ ∈ ev_tbl := ev_mem (List.mem_of_getElem? (i := 1087) (by decide +kernel)) rfl
theorem m_838 : Cond.code ⟨"ElementFilesModel", "putData", "(I)V"⟩ prog_11_method_57_code 3 none ∈ ev_tbl := ev_mem (List.mem_of_getElem? (i := 1088) (by decide +kernel)) rfl
theorem m_839 : Cond.methodLink "ElementFilesModel" 253 ⟨"ElementFilesModel", "putBlock", "(I)V"⟩ ∈ ev_tbl := ev_mem (List.mem_of_getElem? (i := 1089) (by decide +kernel)) rfl
theorem m_840 : Cond.instanceMethod ⟨"ElementFilesModel", "putBlock", "(I)V"⟩ ∈ ev_tbl := ev_mem (List.mem_of_getElem? (i := 1091) (by decide +kernel)) rfl
theorem m_841 : Cond.code ⟨"ElementFilesModel", "putBlock", "(I)V"⟩ prog_11_method_56_code 7 none ∈ ev_tbl := ev_mem (List.mem_of_getElem? (i := 1092) (by decide +kernel)) rfl
theorem m_842 : Cond.methodLink "ElementFilesModel" 263 ⟨"ElementFilesModel", "fillSum", "(I)V"⟩ ∈ ev_tbl := ev_mem (List.mem_of_getElem? (i := 1093) (by decide +kernel)) rfl
theorem m_843 : Cond.instanceMethod ⟨"ElementFilesModel", "fillSum", "(I)V"⟩ ∈ ev_tbl := ev_mem (List.mem_of_getElem? (i := 1095) (by decide +kernel)) rfl
theorem m_844 : Cond.code ⟨"ElementFilesModel", "fillSum", "(I)V"⟩ prog_11_method_58_code 5 none ∈ ev_tbl := ev_mem (List.mem_of_getElem? (i := 1096) (by decide +kernel)) rfl
theorem m_845 : Cond.methodLink "ElementFilesLaw" 96 ⟨"ElementFilesModel", "index", "(I)I"⟩ ∈ ev_tbl := ev_mem (List.mem_of_getElem? (i := 1097) (by decide +kernel)) rfl
theorem m_846 : Cond.instanceMethod ⟨"ElementFilesModel", "index", "(I)I"⟩ ∈ ev_tbl := ev_mem (List.mem_of_getElem? (i := 1098) (by decide +kernel)) rfl
theorem m_847 : Cond.selects "ElementFilesModel" ⟨"ElementFilesModel", "index", "(I)I"⟩ ⟨"ElementFilesModel", "index", "(I)I"⟩ ∈ ev_tbl := ev_mem (List.mem_of_getElem? (i := 1099) (by decide +kernel)) rfl
theorem m_848 : Cond.code ⟨"ElementFilesModel", "index", "(I)I"⟩ prog_11_method_63_code 9 (some .int) ∈ ev_tbl := ev_mem (List.mem_of_getElem? (i := 1100) (by decide +kernel)) rfl
theorem m_849 : Cond.methodLink "ElementFilesModel" 270 ⟨"ElementFilesModel", "isBlockOf", "(II)Z"⟩ ∈ ev_tbl := ev_mem (List.mem_of_getElem? (i := 1101) (by decide +kernel)) rfl
theorem m_850 : Cond.instanceMethod ⟨"ElementFilesModel", "isBlockOf", "(II)Z"⟩ ∈ ev_tbl := ev_mem (List.mem_of_getElem? (i := 1103) (by decide +kernel)) rfl
theorem m_851 : Cond.code ⟨"ElementFilesModel", "isBlockOf", "(II)Z"⟩ prog_11_method_62_code 3 (some .boolean) ∈ ev_tbl := ev_mem (List.mem_of_getElem? (i := 1104) (by decide +kernel)) rfl
theorem m_852 : Cond.methodLink "ElementFilesModel" 273 ⟨"ElementFilesModel", "remove", "(I)V"⟩ ∈ ev_tbl := ev_mem (List.mem_of_getElem? (i := 1105) (by decide +kernel)) rfl
theorem m_853 : Cond.instanceMethod ⟨"ElementFilesModel", "remove", "(I)V"⟩ ∈ ev_tbl := ev_mem (List.mem_of_getElem? (i := 1107) (by decide +kernel)) rfl
theorem m_854 : Cond.code ⟨"ElementFilesModel", "remove", "(I)V"⟩ prog_11_method_13_code 4 none ∈ ev_tbl := ev_mem (List.mem_of_getElem? (i := 1108) (by decide +kernel)) rfl
theorem m_855 : Cond.methodLink "ElementFilesModel" 276 ⟨"ElementFilesModel", "moment", "(I)J"⟩ ∈ ev_tbl := ev_mem (List.mem_of_getElem? (i := 1109) (by decide +kernel)) rfl
theorem m_856 : Cond.instanceMethod ⟨"ElementFilesModel", "moment", "(I)J"⟩ ∈ ev_tbl := ev_mem (List.mem_of_getElem? (i := 1111) (by decide +kernel)) rfl
theorem m_857 : Cond.code ⟨"ElementFilesModel", "moment", "(I)J"⟩ prog_11_method_61_code 2 (some .long) ∈ ev_tbl := ev_mem (List.mem_of_getElem? (i := 1112) (by decide +kernel)) rfl
theorem m_858 : Cond.methodLink "ElementFilesModel" 266 ⟨"ElementFilesModel", "first", "(II)J"⟩ ∈ ev_tbl := ev_mem (List.mem_of_getElem? (i := 1113) (by decide +kernel)) rfl
theorem m_859 : Cond.instanceMethod ⟨"ElementFilesModel", "first", "(II)J"⟩ ∈ ev_tbl := ev_mem (List.mem_of_getElem? (i := 1115) (by decide +kernel)) rfl
theorem m_860 : Cond.code ⟨"ElementFilesModel", "first", "(II)J"⟩ prog_11_method_60_code 4 (some .long) ∈ ev_tbl := ev_mem (List.mem_of_getElem? (i := 1116) (by decide +kernel)) rfl
theorem m_861 : Cond.methodLink "ElementFilesLaw" 100 ⟨"ElementFilesModel", "seek", "(IIJ)I"⟩ ∈ ev_tbl := ev_mem (List.mem_of_getElem? (i := 1117) (by decide +kernel)) rfl
theorem m_862 : Cond.instanceMethod ⟨"ElementFilesModel", "seek", "(IIJ)I"⟩ ∈ ev_tbl := ev_mem (List.mem_of_getElem? (i := 1118) (by decide +kernel)) rfl
theorem m_863 : Cond.selects "ElementFilesModel" ⟨"ElementFilesModel", "seek", "(IIJ)I"⟩ ⟨"ElementFilesModel", "seek", "(IIJ)I"⟩ ∈ ev_tbl := ev_mem (List.mem_of_getElem? (i := 1119) (by decide +kernel)) rfl
theorem m_864 : Cond.code ⟨"ElementFilesModel", "seek", "(IIJ)I"⟩ prog_11_method_64_code 7 (some .int) ∈ ev_tbl := ev_mem (List.mem_of_getElem? (i := 1120) (by decide +kernel)) rfl
theorem m_865 : Cond.methodLink "ElementFilesLaw" 104 ⟨"ElementFilesModel", "jump", "(IIJ)I"⟩ ∈ ev_tbl := ev_mem (List.mem_of_getElem? (i := 1121) (by decide +kernel)) rfl
theorem m_866 : Cond.instanceMethod ⟨"ElementFilesModel", "jump", "(IIJ)I"⟩ ∈ ev_tbl := ev_mem (List.mem_of_getElem? (i := 1122) (by decide +kernel)) rfl
theorem m_867 : Cond.selects "ElementFilesModel" ⟨"ElementFilesModel", "jump", "(IIJ)I"⟩ ⟨"ElementFilesModel", "jump", "(IIJ)I"⟩ ∈ ev_tbl := ev_mem (List.mem_of_getElem? (i := 1123) (by decide +kernel)) rfl
theorem m_868 : Cond.code ⟨"ElementFilesModel", "jump", "(IIJ)I"⟩ prog_11_method_65_code 9 (some .int) ∈ ev_tbl := ev_mem (List.mem_of_getElem? (i := 1124) (by decide +kernel)) rfl
theorem m_869 : Cond.constantLong "ElementFilesLaw" 13 (4294967295) ∈ ev_tbl := ev_mem (List.mem_of_getElem? (i := 1125) (by decide +kernel)) rfl
theorem m_870 : Cond.fieldLink "ElementFiles$Sort" 76 "ElementFiles$Sort" "tag" "I" ∈ ev_tbl := ev_mem (List.mem_of_getElem? (i := 1126) (by decide +kernel)) rfl
theorem m_871 : Cond.fieldLink "ElementFiles$Reader" 86 "ElementFiles$Sort" "inside" "I" ∈ ev_tbl := ev_mem (List.mem_of_getElem? (i := 1127) (by decide +kernel)) rfl
theorem m_872 : Cond.fieldLink "ElementFiles$Sort" 83 "ElementFiles$Sort" "places" "I" ∈ ev_tbl := ev_mem (List.mem_of_getElem? (i := 1128) (by decide +kernel)) rfl
theorem m_873 : Cond.fieldLink "ElementFiles$Tree" 58 "ElementFiles$Sort" "inside" "I" ∈ ev_tbl := ev_mem (List.mem_of_getElem? (i := 1129) (by decide +kernel)) rfl
theorem m_874 : Cond.fieldLink "ElementFiles$Reader" 117 "ElementFiles$Sort" "form" "I" ∈ ev_tbl := ev_mem (List.mem_of_getElem? (i := 1130) (by decide +kernel)) rfl
theorem m_875 : Cond.fieldLink "ElementFiles" 116 "ElementFiles$Sort" "form" "I" ∈ ev_tbl := ev_mem (List.mem_of_getElem? (i := 1131) (by decide +kernel)) rfl
theorem m_876 : Cond.fieldLink "ElementFiles" 154 "ElementFiles$Sort" "tag" "I" ∈ ev_tbl := ev_mem (List.mem_of_getElem? (i := 1132) (by decide +kernel)) rfl
theorem m_877 : Cond.fieldLink "ElementFiles$Writer" 101 "ElementFiles$Sort" "form" "I" ∈ ev_tbl := ev_mem (List.mem_of_getElem? (i := 1133) (by decide +kernel)) rfl
theorem m_878 : Cond.fieldLink "ElementFiles$Finder" 65 "ElementFiles$Sort" "tag" "I" ∈ ev_tbl := ev_mem (List.mem_of_getElem? (i := 1134) (by decide +kernel)) rfl
end
section
theorem u_EF_in : ∀ w ∈ u_ws R_EF F_EF 7, w ∈ ev_tbl := by decide +kernel
theorem u_Ro_in : ∀ w ∈ u_ws R_Ro F_Ro 2, w ∈ ev_tbl := by decide +kernel
theorem u_Fr_in : ∀ w ∈ u_ws R_Fr F_Fr 4, w ∈ ev_tbl := by decide +kernel
theorem u_El_in : ∀ w ∈ u_ws R_El F_El 17, w ∈ ev_tbl := by decide +kernel
theorem u_Tr_in : ∀ w ∈ u_ws R_Tr F_Tr 5, w ∈ ev_tbl := by decide +kernel
theorem u_Re_in : ∀ w ∈ u_ws R_Re F_Re 9, w ∈ ev_tbl := by decide +kernel
theorem u_Wr_in : ∀ w ∈ u_ws R_Wr F_Wr 3, w ∈ ev_tbl := by decide +kernel
theorem u_Fi_in : ∀ w ∈ u_ws R_Fi F_Fi 1, w ∈ ev_tbl := by decide +kernel
theorem u_Mo_in : ∀ w ∈ u_ws R_Mo F_Mo 33, w ∈ ev_tbl := by decide +kernel
theorem fl_Ro_9 : ev_F R_Ro 9 1 0 := ⟨_, _, 2, rfl, by decide, u_Ro_in, rfl, m_89⟩
theorem fp_Ro_9 : ev_FP R_Ro 9 1 0 (t_Ro 0) true := ⟨_, _, 2, t_Ro, rfl, by decide, u_Ro_in, rfl, m_89, t_Ro_ok, n_Ro, rfl, rfl⟩
theorem fl_Ro_15 : ev_F R_Ro 15 1 1 := ⟨_, _, 2, rfl, by decide, u_Ro_in, rfl, m_90⟩
theorem fp_Ro_15 : ev_FP R_Ro 15 1 1 (t_Ro 1) false := ⟨_, _, 2, t_Ro, rfl, by decide, u_Ro_in, rfl, m_90, t_Ro_ok, n_Ro, rfl, rfl⟩
theorem fl_EF_62 : ev_F R_EF 62 1 1 := ⟨_, _, 2, rfl, by decide, u_Ro_in, rfl, m_91⟩
theorem fp_EF_62 : ev_FP R_EF 62 1 1 (t_Ro 1) false := ⟨_, _, 2, t_Ro, rfl, by decide, u_Ro_in, rfl, m_91, t_Ro_ok, n_Ro, rfl, rfl⟩
theorem fl_Wr_33 : ev_F R_Wr 33 1 1 := ⟨_, _, 2, rfl, by decide, u_Ro_in, rfl, m_92⟩
theorem fp_Wr_33 : ev_FP R_Wr 33 1 1 (t_Ro 1) false := ⟨_, _, 2, t_Ro, rfl, by decide, u_Ro_in, rfl, m_92, t_Ro_ok, n_Ro, rfl, rfl⟩
theorem fl_Re_35 : ev_F R_Re 35 1 1 := ⟨_, _, 2, rfl, by decide, u_Ro_in, rfl, m_93⟩
theorem fp_Re_35 : ev_FP R_Re 35 1 1 (t_Ro 1) false := ⟨_, _, 2, t_Ro, rfl, by decide, u_Ro_in, rfl, m_93, t_Ro_ok, n_Ro, rfl, rfl⟩
theorem fl_Fr_9 : ev_F R_Fr 9 2 0 := ⟨_, _, 4, rfl, by decide, u_Fr_in, rfl, m_100⟩
theorem fp_Fr_9 : ev_FP R_Fr 9 2 0 (t_Fr 0) true := ⟨_, _, 4, t_Fr, rfl, by decide, u_Fr_in, rfl, m_100, t_Fr_ok, n_Fr, rfl, rfl⟩
theorem fl_Fr_15 : ev_F R_Fr 15 2 1 := ⟨_, _, 4, rfl, by decide, u_Fr_in, rfl, m_101⟩
theorem fp_Fr_15 : ev_FP R_Fr 15 2 1 (t_Fr 1) true := ⟨_, _, 4, t_Fr, rfl, by decide, u_Fr_in, rfl, m_101, t_Fr_ok, n_Fr, rfl, rfl⟩
theorem fl_Fr_18 : ev_F R_Fr 18 2 2 := ⟨_, _, 4, rfl, by decide, u_Fr_in, rfl, m_102⟩
theorem fp_Fr_18 : ev_FP R_Fr 18 2 2 (t_Fr 2) false := ⟨_, _, 4, t_Fr, rfl, by decide, u_Fr_in, rfl, m_102, t_Fr_ok, n_Fr, rfl, rfl⟩
theorem fl_EF_141 : ev_F R_EF 141 2 2 := ⟨_, _, 4, rfl, by decide, u_Fr_in, rfl, m_103⟩
theorem fp_EF_141 : ev_FP R_EF 141 2 2 (t_Fr 2) false := ⟨_, _, 4, t_Fr, rfl, by decide, u_Fr_in, rfl, m_103, t_Fr_ok, n_Fr, rfl, rfl⟩
theorem fl_Fr_22 : ev_F R_Fr 22 2 3 := ⟨_, _, 4, rfl, by decide, u_Fr_in, rfl, m_104⟩
theorem fp_Fr_22 : ev_FP R_Fr 22 2 3 (t_Fr 3) false := ⟨_, _, 4, t_Fr, rfl, by decide, u_Fr_in, rfl, m_104, t_Fr_ok, n_Fr, rfl, rfl⟩
theorem fl_EF_148 : ev_F R_EF 148 2 3 := ⟨_, _, 4, rfl, by decide, u_Fr_in, rfl, m_105⟩
theorem fp_EF_148 : ev_FP R_EF 148 2 3 (t_Fr 3) false := ⟨_, _, 4, t_Fr, rfl, by decide, u_Fr_in, rfl, m_105, t_Fr_ok, n_Fr, rfl, rfl⟩
theorem fl_Tr_11 : ev_F R_Tr 11 4 0 := ⟨_, _, 5, rfl, by decide, u_Tr_in, rfl, m_112⟩
theorem fp_Tr_11 : ev_FP R_Tr 11 4 0 (t_Tr 0) true := ⟨_, _, 5, t_Tr, rfl, by decide, u_Tr_in, rfl, m_112, t_Tr_ok, n_Tr, rfl, rfl⟩
theorem fl_Wr_34 : ev_F R_Wr 34 4 0 := ⟨_, _, 5, rfl, by decide, u_Tr_in, rfl, m_113⟩
theorem fp_Wr_34 : ev_FP R_Wr 34 4 0 (t_Tr 0) true := ⟨_, _, 5, t_Tr, rfl, by decide, u_Tr_in, rfl, m_113, t_Tr_ok, n_Tr, rfl, rfl⟩
theorem fl_Fi_47 : ev_F R_Fi 47 4 0 := ⟨_, _, 5, rfl, by decide, u_Tr_in, rfl, m_114⟩
theorem fp_Fi_47 : ev_FP R_Fi 47 4 0 (t_Tr 0) true := ⟨_, _, 5, t_Tr, rfl, by decide, u_Tr_in, rfl, m_114, t_Tr_ok, n_Tr, rfl, rfl⟩
theorem fl_Tr_17 : ev_F R_Tr 17 4 1 := ⟨_, _, 5, rfl, by decide, u_Tr_in, rfl, m_115⟩
theorem fp_Tr_17 : ev_FP R_Tr 17 4 1 (t_Tr 1) true := ⟨_, _, 5, t_Tr, rfl, by decide, u_Tr_in, rfl, m_115, t_Tr_ok, n_Tr, rfl, rfl⟩
theorem fl_Tr_24 : ev_F R_Tr 24 4 2 := ⟨_, _, 5, rfl, by decide, u_Tr_in, rfl, m_116⟩
theorem fp_Tr_24 : ev_FP R_Tr 24 4 2 (t_Tr 2) false := ⟨_, _, 5, t_Tr, rfl, by decide, u_Tr_in, rfl, m_116, t_Tr_ok, n_Tr, rfl, rfl⟩
theorem fl_Wr_27 : ev_F R_Wr 27 4 2 := ⟨_, _, 5, rfl, by decide, u_Tr_in, rfl, m_117⟩
theorem fp_Wr_27 : ev_FP R_Wr 27 4 2 (t_Tr 2) false := ⟨_, _, 5, t_Tr, rfl, by decide, u_Tr_in, rfl, m_117, t_Tr_ok, n_Tr, rfl, rfl⟩
theorem fl_Fi_19 : ev_F R_Fi 19 4 2 := ⟨_, _, 5, rfl, by decide, u_Tr_in, rfl, m_118⟩
theorem fp_Fi_19 : ev_FP R_Fi 19 4 2 (t_Tr 2) false := ⟨_, _, 5, t_Tr, rfl, by decide, u_Tr_in, rfl, m_118, t_Tr_ok, n_Tr, rfl, rfl⟩
theorem fl_Re_50 : ev_F R_Re 50 4 2 := ⟨_, _, 5, rfl, by decide, u_Tr_in, rfl, m_119⟩
theorem fp_Re_50 : ev_FP R_Re 50 4 2 (t_Tr 2) false := ⟨_, _, 5, t_Tr, rfl, by decide, u_Tr_in, rfl, m_119, t_Tr_ok, n_Tr, rfl, rfl⟩
theorem fl_Tr_20 : ev_F R_Tr 20 4 3 := ⟨_, _, 5, rfl, by decide, u_Tr_in, rfl, m_120⟩
theorem fp_Tr_20 : ev_FP R_Tr 20 4 3 (t_Tr 3) true := ⟨_, _, 5, t_Tr, rfl, by decide, u_Tr_in, rfl, m_120, t_Tr_ok, n_Tr, rfl, rfl⟩
theorem fl_Tr_28 : ev_F R_Tr 28 4 4 := ⟨_, _, 5, rfl, by decide, u_Tr_in, rfl, m_121⟩
theorem fp_Tr_28 : ev_FP R_Tr 28 4 4 (t_Tr 4) false := ⟨_, _, 5, t_Tr, rfl, by decide, u_Tr_in, rfl, m_121, t_Tr_ok, n_Tr, rfl, rfl⟩
theorem fl_Re_15 : ev_F R_Re 15 5 0 := ⟨_, _, 9, rfl, by decide, u_Re_in, rfl, m_128⟩
theorem fp_Re_15 : ev_FP R_Re 15 5 0 (t_Re 0) true := ⟨_, _, 9, t_Re, rfl, by decide, u_Re_in, rfl, m_128, t_Re_ok, n_Re, rfl, rfl⟩
theorem fl_Re_19 : ev_F R_Re 19 5 1 := ⟨_, _, 9, rfl, by decide, u_Re_in, rfl, m_129⟩
theorem fp_Re_19 : ev_FP R_Re 19 5 1 (t_Re 1) true := ⟨_, _, 9, t_Re, rfl, by decide, u_Re_in, rfl, m_129, t_Re_ok, n_Re, rfl, rfl⟩
theorem fl_Re_9 : ev_F R_Re 9 5 2 := ⟨_, _, 9, rfl, by decide, u_Re_in, rfl, m_130⟩
theorem fp_Re_9 : ev_FP R_Re 9 5 2 (t_Re 2) false := ⟨_, _, 9, t_Re, rfl, by decide, u_Re_in, rfl, m_130, t_Re_ok, n_Re, rfl, rfl⟩
theorem fl_EF_81 : ev_F R_EF 81 5 2 := ⟨_, _, 9, rfl, by decide, u_Re_in, rfl, m_131⟩
theorem fp_EF_81 : ev_FP R_EF 81 5 2 (t_Re 2) false := ⟨_, _, 9, t_Re, rfl, by decide, u_Re_in, rfl, m_131, t_Re_ok, n_Re, rfl, rfl⟩
theorem fl_Re_28 : ev_F R_Re 28 5 3 := ⟨_, _, 9, rfl, by decide, u_Re_in, rfl, m_132⟩
theorem fp_Re_28 : ev_FP R_Re 28 5 3 (t_Re 3) false := ⟨_, _, 9, t_Re, rfl, by decide, u_Re_in, rfl, m_132, t_Re_ok, n_Re, rfl, rfl⟩
theorem fl_Re_32 : ev_F R_Re 32 5 4 := ⟨_, _, 9, rfl, by decide, u_Re_in, rfl, m_133⟩
theorem fp_Re_32 : ev_FP R_Re 32 5 4 (t_Re 4) false := ⟨_, _, 9, t_Re, rfl, by decide, u_Re_in, rfl, m_133, t_Re_ok, n_Re, rfl, rfl⟩
theorem fl_Re_57 : ev_F R_Re 57 5 5 := ⟨_, _, 9, rfl, by decide, u_Re_in, rfl, m_134⟩
theorem fp_Re_57 : ev_FP R_Re 57 5 5 (t_Re 5) false := ⟨_, _, 9, t_Re, rfl, by decide, u_Re_in, rfl, m_134, t_Re_ok, n_Re, rfl, rfl⟩
theorem fl_Re_69 : ev_F R_Re 69 5 6 := ⟨_, _, 9, rfl, by decide, u_Re_in, rfl, m_135⟩
theorem fp_Re_69 : ev_FP R_Re 69 5 6 (t_Re 6) false := ⟨_, _, 9, t_Re, rfl, by decide, u_Re_in, rfl, m_135, t_Re_ok, n_Re, rfl, rfl⟩
theorem fl_Re_101 : ev_F R_Re 101 5 7 := ⟨_, _, 9, rfl, by decide, u_Re_in, rfl, m_136⟩
theorem fp_Re_101 : ev_FP R_Re 101 5 7 (t_Re 7) false := ⟨_, _, 9, t_Re, rfl, by decide, u_Re_in, rfl, m_136, t_Re_ok, n_Re, rfl, rfl⟩
theorem fl_Re_176 : ev_F R_Re 176 5 8 := ⟨_, _, 9, rfl, by decide, u_Re_in, rfl, m_137⟩
theorem fp_Re_176 : ev_FP R_Re 176 5 8 (t_Re 8) false := ⟨_, _, 9, t_Re, rfl, by decide, u_Re_in, rfl, m_137, t_Re_ok, n_Re, rfl, rfl⟩
theorem fl_Wr_20 : ev_F R_Wr 20 6 0 := ⟨_, _, 3, rfl, by decide, u_Wr_in, rfl, m_146⟩
theorem fp_Wr_20 : ev_FP R_Wr 20 6 0 (t_Wr 0) true := ⟨_, _, 3, t_Wr, rfl, by decide, u_Wr_in, rfl, m_146, t_Wr_ok, n_Wr, rfl, rfl⟩
theorem fl_Wr_24 : ev_F R_Wr 24 6 1 := ⟨_, _, 3, rfl, by decide, u_Wr_in, rfl, m_147⟩
theorem fp_Wr_24 : ev_FP R_Wr 24 6 1 (t_Wr 1) true := ⟨_, _, 3, t_Wr, rfl, by decide, u_Wr_in, rfl, m_147, t_Wr_ok, n_Wr, rfl, rfl⟩
theorem fl_Wr_14 : ev_F R_Wr 14 6 2 := ⟨_, _, 3, rfl, by decide, u_Wr_in, rfl, m_148⟩
theorem fp_Wr_14 : ev_FP R_Wr 14 6 2 (t_Wr 2) true := ⟨_, _, 3, t_Wr, rfl, by decide, u_Wr_in, rfl, m_148, t_Wr_ok, n_Wr, rfl, rfl⟩
theorem fl_Fi_9 : ev_F R_Fi 9 7 0 := ⟨_, _, 1, rfl, by decide, u_Fi_in, rfl, m_155⟩
theorem fp_Fi_9 : ev_FP R_Fi 9 7 0 (t_Fi 0) true := ⟨_, _, 1, t_Fi, rfl, by decide, u_Fi_in, rfl, m_155, t_Fi_ok, n_Fi, rfl, rfl⟩
theorem fl_EF_14 : ev_F R_EF 14 0 0 := ⟨_, _, 7, rfl, by decide, u_EF_in, rfl, m_156⟩
theorem fp_EF_14 : ev_FP R_EF 14 0 0 (t_EF 0) true := ⟨_, _, 7, t_EF, rfl, by decide, u_EF_in, rfl, m_156, t_EF_ok, n_EF, rfl, rfl⟩
theorem fl_EF_18 : ev_F R_EF 18 0 1 := ⟨_, _, 7, rfl, by decide, u_EF_in, rfl, m_157⟩
theorem fp_EF_18 : ev_FP R_EF 18 0 1 (t_EF 1) true := ⟨_, _, 7, t_EF, rfl, by decide, u_EF_in, rfl, m_157, t_EF_ok, n_EF, rfl, rfl⟩
theorem fl_EF_24 : ev_F R_EF 24 0 2 := ⟨_, _, 7, rfl, by decide, u_EF_in, rfl, m_158⟩
theorem fp_EF_24 : ev_FP R_EF 24 0 2 (t_EF 2) true := ⟨_, _, 7, t_EF, rfl, by decide, u_EF_in, rfl, m_158, t_EF_ok, n_EF, rfl, rfl⟩
theorem fl_EF_31 : ev_F R_EF 31 0 3 := ⟨_, _, 7, rfl, by decide, u_EF_in, rfl, m_159⟩
theorem fp_EF_31 : ev_FP R_EF 31 0 3 (t_EF 3) true := ⟨_, _, 7, t_EF, rfl, by decide, u_EF_in, rfl, m_159, t_EF_ok, n_EF, rfl, rfl⟩
theorem fl_EF_40 : ev_F R_EF 40 0 4 := ⟨_, _, 7, rfl, by decide, u_EF_in, rfl, m_160⟩
theorem fp_EF_40 : ev_FP R_EF 40 0 4 (t_EF 4) true := ⟨_, _, 7, t_EF, rfl, by decide, u_EF_in, rfl, m_160, t_EF_ok, n_EF, rfl, rfl⟩
theorem fl_EF_49 : ev_F R_EF 49 0 5 := ⟨_, _, 7, rfl, by decide, u_EF_in, rfl, m_161⟩
theorem fp_EF_49 : ev_FP R_EF 49 0 5 (t_EF 5) true := ⟨_, _, 7, t_EF, rfl, by decide, u_EF_in, rfl, m_161, t_EF_ok, n_EF, rfl, rfl⟩
theorem fl_EF_58 : ev_F R_EF 58 0 6 := ⟨_, _, 7, rfl, by decide, u_EF_in, rfl, m_162⟩
theorem fp_EF_58 : ev_FP R_EF 58 0 6 (t_EF 6) true := ⟨_, _, 7, t_EF, rfl, by decide, u_EF_in, rfl, m_162, t_EF_ok, n_EF, rfl, rfl⟩
theorem fl_El_15 : ev_F R_El 15 3 0 := ⟨_, _, 17, rfl, by decide, u_El_in, rfl, m_248⟩
theorem fp_El_15 : ev_FP R_El 15 3 0 (t_El 0) false := ⟨_, _, 17, t_El, rfl, by decide, u_El_in, rfl, m_248, t_El_ok, n_El, rfl, rfl⟩
theorem fl_Fi_51 : ev_F R_Fi 51 3 0 := ⟨_, _, 17, rfl, by decide, u_El_in, rfl, m_249⟩
theorem fp_Fi_51 : ev_FP R_Fi 51 3 0 (t_El 0) false := ⟨_, _, 17, t_El, rfl, by decide, u_El_in, rfl, m_249, t_El_ok, n_El, rfl, rfl⟩
theorem fl_Wr_69 : ev_F R_Wr 69 3 0 := ⟨_, _, 17, rfl, by decide, u_El_in, rfl, m_250⟩
theorem fp_Wr_69 : ev_FP R_Wr 69 3 0 (t_El 0) false := ⟨_, _, 17, t_El, rfl, by decide, u_El_in, rfl, m_250, t_El_ok, n_El, rfl, rfl⟩
theorem fl_Re_82 : ev_F R_Re 82 3 0 := ⟨_, _, 17, rfl, by decide, u_El_in, rfl, m_251⟩
theorem fp_Re_82 : ev_FP R_Re 82 3 0 (t_El 0) false := ⟨_, _, 17, t_El, rfl, by decide, u_El_in, rfl, m_251, t_El_ok, n_El, rfl, rfl⟩
theorem fl_Tr_55 : ev_F R_Tr 55 3 0 := ⟨_, _, 17, rfl, by decide, u_El_in, rfl, m_252⟩
theorem fp_Tr_55 : ev_FP R_Tr 55 3 0 (t_El 0) false := ⟨_, _, 17, t_El, rfl, by decide, u_El_in, rfl, m_252, t_El_ok, n_El, rfl, rfl⟩
theorem fl_EF_128 : ev_F R_EF 128 3 0 := ⟨_, _, 17, rfl, by decide, u_El_in, rfl, m_253⟩
theorem fp_EF_128 : ev_FP R_EF 128 3 0 (t_El 0) false := ⟨_, _, 17, t_El, rfl, by decide, u_El_in, rfl, m_253, t_El_ok, n_El, rfl, rfl⟩
theorem fl_El_24 : ev_F R_El 24 3 1 := ⟨_, _, 17, rfl, by decide, u_El_in, rfl, m_254⟩
theorem fp_El_24 : ev_FP R_El 24 3 1 (t_El 1) false := ⟨_, _, 17, t_El, rfl, by decide, u_El_in, rfl, m_254, t_El_ok, n_El, rfl, rfl⟩
theorem fl_Wr_55 : ev_F R_Wr 55 3 1 := ⟨_, _, 17, rfl, by decide, u_El_in, rfl, m_255⟩
theorem fp_Wr_55 : ev_FP R_Wr 55 3 1 (t_El 1) false := ⟨_, _, 17, t_El, rfl, by decide, u_El_in, rfl, m_255, t_El_ok, n_El, rfl, rfl⟩
theorem fl_EF_165 : ev_F R_EF 165 3 1 := ⟨_, _, 17, rfl, by decide, u_El_in, rfl, m_256⟩
theorem fp_EF_165 : ev_FP R_EF 165 3 1 (t_El 1) false := ⟨_, _, 17, t_El, rfl, by decide, u_El_in, rfl, m_256, t_El_ok, n_El, rfl, rfl⟩
theorem fl_El_28 : ev_F R_El 28 3 2 := ⟨_, _, 17, rfl, by decide, u_El_in, rfl, m_257⟩
theorem fp_El_28 : ev_FP R_El 28 3 2 (t_El 2) false := ⟨_, _, 17, t_El, rfl, by decide, u_El_in, rfl, m_257, t_El_ok, n_El, rfl, rfl⟩
theorem fl_Wr_61 : ev_F R_Wr 61 3 2 := ⟨_, _, 17, rfl, by decide, u_El_in, rfl, m_258⟩
theorem fp_Wr_61 : ev_FP R_Wr 61 3 2 (t_El 2) false := ⟨_, _, 17, t_El, rfl, by decide, u_El_in, rfl, m_258, t_El_ok, n_El, rfl, rfl⟩
theorem fl_Re_56 : ev_F R_Re 56 3 2 := ⟨_, _, 17, rfl, by decide, u_El_in, rfl, m_259⟩
theorem fp_Re_56 : ev_FP R_Re 56 3 2 (t_El 2) false := ⟨_, _, 17, t_El, rfl, by decide, u_El_in, rfl, m_259, t_El_ok, n_El, rfl, rfl⟩
theorem fl_Tr_41 : ev_F R_Tr 41 3 2 := ⟨_, _, 17, rfl, by decide, u_El_in, rfl, m_260⟩
theorem fp_Tr_41 : ev_FP R_Tr 41 3 2 (t_El 2) false := ⟨_, _, 17, t_El, rfl, by decide, u_El_in, rfl, m_260, t_El_ok, n_El, rfl, rfl⟩
theorem fl_Fi_96 : ev_F R_Fi 96 3 2 := ⟨_, _, 17, rfl, by decide, u_El_in, rfl, m_261⟩
theorem fp_Fi_96 : ev_FP R_Fi 96 3 2 (t_El 2) false := ⟨_, _, 17, t_El, rfl, by decide, u_El_in, rfl, m_261, t_El_ok, n_El, rfl, rfl⟩
theorem fl_EF_166 : ev_F R_EF 166 3 2 := ⟨_, _, 17, rfl, by decide, u_El_in, rfl, m_262⟩
theorem fp_EF_166 : ev_FP R_EF 166 3 2 (t_El 2) false := ⟨_, _, 17, t_El, rfl, by decide, u_El_in, rfl, m_262, t_El_ok, n_El, rfl, rfl⟩
theorem fl_El_32 : ev_F R_El 32 3 3 := ⟨_, _, 17, rfl, by decide, u_El_in, rfl, m_263⟩
theorem fp_El_32 : ev_FP R_El 32 3 3 (t_El 3) false := ⟨_, _, 17, t_El, rfl, by decide, u_El_in, rfl, m_263, t_El_ok, n_El, rfl, rfl⟩
theorem fl_Tr_34 : ev_F R_Tr 34 3 3 := ⟨_, _, 17, rfl, by decide, u_El_in, rfl, m_264⟩
theorem fp_Tr_34 : ev_FP R_Tr 34 3 3 (t_El 3) false := ⟨_, _, 17, t_El, rfl, by decide, u_El_in, rfl, m_264, t_El_ok, n_El, rfl, rfl⟩
theorem fl_Fi_42 : ev_F R_Fi 42 3 4 := ⟨_, _, 17, rfl, by decide, u_El_in, rfl, m_265⟩
theorem fp_Fi_42 : ev_FP R_Fi 42 3 4 (t_El 4) false := ⟨_, _, 17, t_El, rfl, by decide, u_El_in, rfl, m_265, t_El_ok, n_El, rfl, rfl⟩
theorem fl_Tr_31 : ev_F R_Tr 31 3 4 := ⟨_, _, 17, rfl, by decide, u_El_in, rfl, m_266⟩
theorem fp_Tr_31 : ev_FP R_Tr 31 3 4 (t_El 4) false := ⟨_, _, 17, t_El, rfl, by decide, u_El_in, rfl, m_266, t_El_ok, n_El, rfl, rfl⟩
theorem fl_EF_125 : ev_F R_EF 125 3 4 := ⟨_, _, 17, rfl, by decide, u_El_in, rfl, m_267⟩
theorem fp_EF_125 : ev_FP R_EF 125 3 4 (t_El 4) false := ⟨_, _, 17, t_El, rfl, by decide, u_El_in, rfl, m_267, t_El_ok, n_El, rfl, rfl⟩
theorem fl_El_35 : ev_F R_El 35 3 5 := ⟨_, _, 17, rfl, by decide, u_El_in, rfl, m_268⟩
theorem fp_El_35 : ev_FP R_El 35 3 5 (t_El 5) false := ⟨_, _, 17, t_El, rfl, by decide, u_El_in, rfl, m_268, t_El_ok, n_El, rfl, rfl⟩
theorem fl_Fi_92 : ev_F R_Fi 92 3 5 := ⟨_, _, 17, rfl, by decide, u_El_in, rfl, m_269⟩
theorem fp_Fi_92 : ev_FP R_Fi 92 3 5 (t_El 5) false := ⟨_, _, 17, t_El, rfl, by decide, u_El_in, rfl, m_269, t_El_ok, n_El, rfl, rfl⟩
theorem fl_Re_126 : ev_F R_Re 126 3 5 := ⟨_, _, 17, rfl, by decide, u_El_in, rfl, m_270⟩
theorem fp_Re_126 : ev_FP R_Re 126 3 5 (t_El 5) false := ⟨_, _, 17, t_El, rfl, by decide, u_El_in, rfl, m_270, t_El_ok, n_El, rfl, rfl⟩
theorem fl_Wr_104 : ev_F R_Wr 104 3 5 := ⟨_, _, 17, rfl, by decide, u_El_in, rfl, m_271⟩
theorem fp_Wr_104 : ev_FP R_Wr 104 3 5 (t_El 5) false := ⟨_, _, 17, t_El, rfl, by decide, u_El_in, rfl, m_271, t_El_ok, n_El, rfl, rfl⟩
theorem fl_EF_119 : ev_F R_EF 119 3 5 := ⟨_, _, 17, rfl, by decide, u_El_in, rfl, m_272⟩
theorem fp_EF_119 : ev_FP R_EF 119 3 5 (t_El 5) false := ⟨_, _, 17, t_El, rfl, by decide, u_El_in, rfl, m_272, t_El_ok, n_El, rfl, rfl⟩
theorem fl_El_20 : ev_F R_El 20 3 6 := ⟨_, _, 17, rfl, by decide, u_El_in, rfl, m_273⟩
theorem fp_El_20 : ev_FP R_El 20 3 6 (t_El 6) true := ⟨_, _, 17, t_El, rfl, by decide, u_El_in, rfl, m_273, t_El_ok, n_El, rfl, rfl⟩
theorem fl_El_39 : ev_F R_El 39 3 7 := ⟨_, _, 17, rfl, by decide, u_El_in, rfl, m_274⟩
theorem fp_El_39 : ev_FP R_El 39 3 7 (t_El 7) false := ⟨_, _, 17, t_El, rfl, by decide, u_El_in, rfl, m_274, t_El_ok, n_El, rfl, rfl⟩
theorem fl_Wr_130 : ev_F R_Wr 130 3 7 := ⟨_, _, 17, rfl, by decide, u_El_in, rfl, m_275⟩
theorem fp_Wr_130 : ev_FP R_Wr 130 3 7 (t_El 7) false := ⟨_, _, 17, t_El, rfl, by decide, u_El_in, rfl, m_275, t_El_ok, n_El, rfl, rfl⟩
theorem fl_Tr_70 : ev_F R_Tr 70 3 7 := ⟨_, _, 17, rfl, by decide, u_El_in, rfl, m_276⟩
theorem fp_Tr_70 : ev_FP R_Tr 70 3 7 (t_El 7) false := ⟨_, _, 17, t_El, rfl, by decide, u_El_in, rfl, m_276, t_El_ok, n_El, rfl, rfl⟩
theorem fl_EF_186 : ev_F R_EF 186 3 7 := ⟨_, _, 17, rfl, by decide, u_El_in, rfl, m_277⟩
theorem fp_EF_186 : ev_FP R_EF 186 3 7 (t_El 7) false := ⟨_, _, 17, t_El, rfl, by decide, u_El_in, rfl, m_277, t_El_ok, n_El, rfl, rfl⟩
theorem fl_El_42 : ev_F R_El 42 3 8 := ⟨_, _, 17, rfl, by decide, u_El_in, rfl, m_278⟩
theorem fp_El_42 : ev_FP R_El 42 3 8 (t_El 8) false := ⟨_, _, 17, t_El, rfl, by decide, u_El_in, rfl, m_278, t_El_ok, n_El, rfl, rfl⟩
theorem fl_Wr_127 : ev_F R_Wr 127 3 8 := ⟨_, _, 17, rfl, by decide, u_El_in, rfl, m_279⟩
theorem fp_Wr_127 : ev_FP R_Wr 127 3 8 (t_El 8) false := ⟨_, _, 17, t_El, rfl, by decide, u_El_in, rfl, m_279, t_El_ok, n_El, rfl, rfl⟩
theorem fl_Tr_73 : ev_F R_Tr 73 3 8 := ⟨_, _, 17, rfl, by decide, u_El_in, rfl, m_280⟩
theorem fp_Tr_73 : ev_FP R_Tr 73 3 8 (t_El 8) false := ⟨_, _, 17, t_El, rfl, by decide, u_El_in, rfl, m_280, t_El_ok, n_El, rfl, rfl⟩
theorem fl_EF_183 : ev_F R_EF 183 3 8 := ⟨_, _, 17, rfl, by decide, u_El_in, rfl, m_281⟩
theorem fp_EF_183 : ev_FP R_EF 183 3 8 (t_El 8) false := ⟨_, _, 17, t_El, rfl, by decide, u_El_in, rfl, m_281, t_El_ok, n_El, rfl, rfl⟩
theorem fl_El_45 : ev_F R_El 45 3 9 := ⟨_, _, 17, rfl, by decide, u_El_in, rfl, m_282⟩
theorem fp_El_45 : ev_FP R_El 45 3 9 (t_El 9) false := ⟨_, _, 17, t_El, rfl, by decide, u_El_in, rfl, m_282, t_El_ok, n_El, rfl, rfl⟩
theorem fl_Fi_86 : ev_F R_Fi 86 3 9 := ⟨_, _, 17, rfl, by decide, u_El_in, rfl, m_283⟩
theorem fp_Fi_86 : ev_FP R_Fi 86 3 9 (t_El 9) false := ⟨_, _, 17, t_El, rfl, by decide, u_El_in, rfl, m_283, t_El_ok, n_El, rfl, rfl⟩
theorem fl_Wr_136 : ev_F R_Wr 136 3 9 := ⟨_, _, 17, rfl, by decide, u_El_in, rfl, m_284⟩
theorem fp_Wr_136 : ev_FP R_Wr 136 3 9 (t_El 9) false := ⟨_, _, 17, t_El, rfl, by decide, u_El_in, rfl, m_284, t_El_ok, n_El, rfl, rfl⟩
theorem fl_EF_193 : ev_F R_EF 193 3 9 := ⟨_, _, 17, rfl, by decide, u_El_in, rfl, m_285⟩
theorem fp_EF_193 : ev_FP R_EF 193 3 9 (t_El 9) false := ⟨_, _, 17, t_El, rfl, by decide, u_El_in, rfl, m_285, t_El_ok, n_El, rfl, rfl⟩
theorem fl_El_48 : ev_F R_El 48 3 10 := ⟨_, _, 17, rfl, by decide, u_El_in, rfl, m_286⟩
theorem fp_El_48 : ev_FP R_El 48 3 10 (t_El 10) false := ⟨_, _, 17, t_El, rfl, by decide, u_El_in, rfl, m_286, t_El_ok, n_El, rfl, rfl⟩
theorem fl_Fi_100 : ev_F R_Fi 100 3 10 := ⟨_, _, 17, rfl, by decide, u_El_in, rfl, m_287⟩
theorem fp_Fi_100 : ev_FP R_Fi 100 3 10 (t_El 10) false := ⟨_, _, 17, t_El, rfl, by decide, u_El_in, rfl, m_287, t_El_ok, n_El, rfl, rfl⟩
theorem fl_Wr_139 : ev_F R_Wr 139 3 10 := ⟨_, _, 17, rfl, by decide, u_El_in, rfl, m_288⟩
theorem fp_Wr_139 : ev_FP R_Wr 139 3 10 (t_El 10) false := ⟨_, _, 17, t_El, rfl, by decide, u_El_in, rfl, m_288, t_El_ok, n_El, rfl, rfl⟩
theorem fl_EF_196 : ev_F R_EF 196 3 10 := ⟨_, _, 17, rfl, by decide, u_El_in, rfl, m_289⟩
theorem fp_EF_196 : ev_FP R_EF 196 3 10 (t_El 10) false := ⟨_, _, 17, t_El, rfl, by decide, u_El_in, rfl, m_289, t_El_ok, n_El, rfl, rfl⟩
theorem fl_Fi_57 : ev_F R_Fi 57 3 11 := ⟨_, _, 17, rfl, by decide, u_El_in, rfl, m_290⟩
theorem fp_Fi_57 : ev_FP R_Fi 57 3 11 (t_El 11) false := ⟨_, _, 17, t_El, rfl, by decide, u_El_in, rfl, m_290, t_El_ok, n_El, rfl, rfl⟩
theorem fl_El_51 : ev_F R_El 51 3 11 := ⟨_, _, 17, rfl, by decide, u_El_in, rfl, m_291⟩
theorem fp_El_51 : ev_FP R_El 51 3 11 (t_El 11) false := ⟨_, _, 17, t_El, rfl, by decide, u_El_in, rfl, m_291, t_El_ok, n_El, rfl, rfl⟩
theorem fl_Wr_142 : ev_F R_Wr 142 3 11 := ⟨_, _, 17, rfl, by decide, u_El_in, rfl, m_292⟩
theorem fp_Wr_142 : ev_FP R_Wr 142 3 11 (t_El 11) false := ⟨_, _, 17, t_El, rfl, by decide, u_El_in, rfl, m_292, t_El_ok, n_El, rfl, rfl⟩
theorem fl_EF_199 : ev_F R_EF 199 3 11 := ⟨_, _, 17, rfl, by decide, u_El_in, rfl, m_293⟩
theorem fp_EF_199 : ev_FP R_EF 199 3 11 (t_El 11) false := ⟨_, _, 17, t_El, rfl, by decide, u_El_in, rfl, m_293, t_El_ok, n_El, rfl, rfl⟩
theorem fl_El_55 : ev_F R_El 55 3 12 := ⟨_, _, 17, rfl, by decide, u_El_in, rfl, m_294⟩
theorem fp_El_55 : ev_FP R_El 55 3 12 (t_El 12) false := ⟨_, _, 17, t_El, rfl, by decide, u_El_in, rfl, m_294, t_El_ok, n_El, rfl, rfl⟩
theorem fl_Re_167 : ev_F R_Re 167 3 12 := ⟨_, _, 17, rfl, by decide, u_El_in, rfl, m_295⟩
theorem fp_Re_167 : ev_FP R_Re 167 3 12 (t_El 12) false := ⟨_, _, 17, t_El, rfl, by decide, u_El_in, rfl, m_295, t_El_ok, n_El, rfl, rfl⟩
theorem fl_Wr_146 : ev_F R_Wr 146 3 12 := ⟨_, _, 17, rfl, by decide, u_El_in, rfl, m_296⟩
theorem fp_Wr_146 : ev_FP R_Wr 146 3 12 (t_El 12) false := ⟨_, _, 17, t_El, rfl, by decide, u_El_in, rfl, m_296, t_El_ok, n_El, rfl, rfl⟩
theorem fl_EF_203 : ev_F R_EF 203 3 12 := ⟨_, _, 17, rfl, by decide, u_El_in, rfl, m_297⟩
theorem fp_EF_203 : ev_FP R_EF 203 3 12 (t_El 12) false := ⟨_, _, 17, t_El, rfl, by decide, u_El_in, rfl, m_297, t_El_ok, n_El, rfl, rfl⟩
theorem fl_Re_51 : ev_F R_Re 51 3 13 := ⟨_, _, 17, rfl, by decide, u_El_in, rfl, m_298⟩
theorem fp_Re_51 : ev_FP R_Re 51 3 13 (t_El 13) false := ⟨_, _, 17, t_El, rfl, by decide, u_El_in, rfl, m_298, t_El_ok, n_El, rfl, rfl⟩
theorem fl_Re_78 : ev_F R_Re 78 3 14 := ⟨_, _, 17, rfl, by decide, u_El_in, rfl, m_299⟩
theorem fp_Re_78 : ev_FP R_Re 78 3 14 (t_El 14) false := ⟨_, _, 17, t_El, rfl, by decide, u_El_in, rfl, m_299, t_El_ok, n_El, rfl, rfl⟩
theorem fl_Wr_42 : ev_F R_Wr 42 3 15 := ⟨_, _, 17, rfl, by decide, u_El_in, rfl, m_300⟩
theorem fp_Wr_42 : ev_FP R_Wr 42 3 15 (t_El 15) false := ⟨_, _, 17, t_El, rfl, by decide, u_El_in, rfl, m_300, t_El_ok, n_El, rfl, rfl⟩
theorem fl_Wr_98 : ev_F R_Wr 98 3 16 := ⟨_, _, 17, rfl, by decide, u_El_in, rfl, m_301⟩
theorem fp_Wr_98 : ev_FP R_Wr 98 3 16 (t_El 16) false := ⟨_, _, 17, t_El, rfl, by decide, u_El_in, rfl, m_301, t_El_ok, n_El, rfl, rfl⟩
theorem fl_Mo_86 : ev_F R_Mo 86 8 0 := ⟨_, _, 33, rfl, by decide, u_Mo_in, rfl, m_610⟩
theorem fp_Mo_86 : ev_FP R_Mo 86 8 0 (t_Mo 0) false := ⟨_, _, 33, t_Mo, rfl, by decide, u_Mo_in, rfl, m_610, t_Mo_ok, n_Mo, rfl, rfl⟩
theorem fl_Mo_7 : ev_F R_Mo 7 8 1 := ⟨_, _, 33, rfl, by decide, u_Mo_in, rfl, m_611⟩
theorem fp_Mo_7 : ev_FP R_Mo 7 8 1 (t_Mo 1) true := ⟨_, _, 33, t_Mo, rfl, by decide, u_Mo_in, rfl, m_611, t_Mo_ok, n_Mo, rfl, rfl⟩
theorem fl_Mo_13 : ev_F R_Mo 13 8 2 := ⟨_, _, 33, rfl, by decide, u_Mo_in, rfl, m_612⟩
theorem fp_Mo_13 : ev_FP R_Mo 13 8 2 (t_Mo 2) true := ⟨_, _, 33, t_Mo, rfl, by decide, u_Mo_in, rfl, m_612, t_Mo_ok, n_Mo, rfl, rfl⟩
theorem fl_Mo_16 : ev_F R_Mo 16 8 3 := ⟨_, _, 33, rfl, by decide, u_Mo_in, rfl, m_613⟩
theorem fp_Mo_16 : ev_FP R_Mo 16 8 3 (t_Mo 3) true := ⟨_, _, 33, t_Mo, rfl, by decide, u_Mo_in, rfl, m_613, t_Mo_ok, n_Mo, rfl, rfl⟩
theorem fl_Mo_20 : ev_F R_Mo 20 8 4 := ⟨_, _, 33, rfl, by decide, u_Mo_in, rfl, m_614⟩
theorem fp_Mo_20 : ev_FP R_Mo 20 8 4 (t_Mo 4) true := ⟨_, _, 33, t_Mo, rfl, by decide, u_Mo_in, rfl, m_614, t_Mo_ok, n_Mo, rfl, rfl⟩
theorem fl_Mo_23 : ev_F R_Mo 23 8 5 := ⟨_, _, 33, rfl, by decide, u_Mo_in, rfl, m_615⟩
theorem fp_Mo_23 : ev_FP R_Mo 23 8 5 (t_Mo 5) true := ⟨_, _, 33, t_Mo, rfl, by decide, u_Mo_in, rfl, m_615, t_Mo_ok, n_Mo, rfl, rfl⟩
theorem fl_Mo_26 : ev_F R_Mo 26 8 6 := ⟨_, _, 33, rfl, by decide, u_Mo_in, rfl, m_616⟩
theorem fp_Mo_26 : ev_FP R_Mo 26 8 6 (t_Mo 6) true := ⟨_, _, 33, t_Mo, rfl, by decide, u_Mo_in, rfl, m_616, t_Mo_ok, n_Mo, rfl, rfl⟩
theorem fl_Mo_29 : ev_F R_Mo 29 8 7 := ⟨_, _, 33, rfl, by decide, u_Mo_in, rfl, m_617⟩
theorem fp_Mo_29 : ev_FP R_Mo 29 8 7 (t_Mo 7) true := ⟨_, _, 33, t_Mo, rfl, by decide, u_Mo_in, rfl, m_617, t_Mo_ok, n_Mo, rfl, rfl⟩
theorem fl_Mo_32 : ev_F R_Mo 32 8 8 := ⟨_, _, 33, rfl, by decide, u_Mo_in, rfl, m_618⟩
theorem fp_Mo_32 : ev_FP R_Mo 32 8 8 (t_Mo 8) true := ⟨_, _, 33, t_Mo, rfl, by decide, u_Mo_in, rfl, m_618, t_Mo_ok, n_Mo, rfl, rfl⟩
theorem fl_Mo_36 : ev_F R_Mo 36 8 9 := ⟨_, _, 33, rfl, by decide, u_Mo_in, rfl, m_619⟩
theorem fp_Mo_36 : ev_FP R_Mo 36 8 9 (t_Mo 9) true := ⟨_, _, 33, t_Mo, rfl, by decide, u_Mo_in, rfl, m_619, t_Mo_ok, n_Mo, rfl, rfl⟩
theorem fl_Mo_39 : ev_F R_Mo 39 8 10 := ⟨_, _, 33, rfl, by decide, u_Mo_in, rfl, m_620⟩
theorem fp_Mo_39 : ev_FP R_Mo 39 8 10 (t_Mo 10) true := ⟨_, _, 33, t_Mo, rfl, by decide, u_Mo_in, rfl, m_620, t_Mo_ok, n_Mo, rfl, rfl⟩
theorem fl_Mo_42 : ev_F R_Mo 42 8 11 := ⟨_, _, 33, rfl, by decide, u_Mo_in, rfl, m_621⟩
theorem fp_Mo_42 : ev_FP R_Mo 42 8 11 (t_Mo 11) true := ⟨_, _, 33, t_Mo, rfl, by decide, u_Mo_in, rfl, m_621, t_Mo_ok, n_Mo, rfl, rfl⟩
theorem fl_Mo_45 : ev_F R_Mo 45 8 12 := ⟨_, _, 33, rfl, by decide, u_Mo_in, rfl, m_622⟩
theorem fp_Mo_45 : ev_FP R_Mo 45 8 12 (t_Mo 12) true := ⟨_, _, 33, t_Mo, rfl, by decide, u_Mo_in, rfl, m_622, t_Mo_ok, n_Mo, rfl, rfl⟩
theorem fl_Mo_104 : ev_F R_Mo 104 8 13 := ⟨_, _, 33, rfl, by decide, u_Mo_in, rfl, m_623⟩
theorem fp_Mo_104 : ev_FP R_Mo 104 8 13 (t_Mo 13) false := ⟨_, _, 33, t_Mo, rfl, by decide, u_Mo_in, rfl, m_623, t_Mo_ok, n_Mo, rfl, rfl⟩
theorem fl_Mo_202 : ev_F R_Mo 202 8 14 := ⟨_, _, 33, rfl, by decide, u_Mo_in, rfl, m_624⟩
theorem fp_Mo_202 : ev_FP R_Mo 202 8 14 (t_Mo 14) false := ⟨_, _, 33, t_Mo, rfl, by decide, u_Mo_in, rfl, m_624, t_Mo_ok, n_Mo, rfl, rfl⟩
theorem fl_Mo_48 : ev_F R_Mo 48 8 15 := ⟨_, _, 33, rfl, by decide, u_Mo_in, rfl, m_625⟩
theorem fp_Mo_48 : ev_FP R_Mo 48 8 15 (t_Mo 15) true := ⟨_, _, 33, t_Mo, rfl, by decide, u_Mo_in, rfl, m_625, t_Mo_ok, n_Mo, rfl, rfl⟩
theorem fl_Mo_51 : ev_F R_Mo 51 8 16 := ⟨_, _, 33, rfl, by decide, u_Mo_in, rfl, m_626⟩
theorem fp_Mo_51 : ev_FP R_Mo 51 8 16 (t_Mo 16) true := ⟨_, _, 33, t_Mo, rfl, by decide, u_Mo_in, rfl, m_626, t_Mo_ok, n_Mo, rfl, rfl⟩
theorem fl_Mo_205 : ev_F R_Mo 205 8 17 := ⟨_, _, 33, rfl, by decide, u_Mo_in, rfl, m_627⟩
theorem fp_Mo_205 : ev_FP R_Mo 205 8 17 (t_Mo 17) false := ⟨_, _, 33, t_Mo, rfl, by decide, u_Mo_in, rfl, m_627, t_Mo_ok, n_Mo, rfl, rfl⟩
theorem fl_Mo_54 : ev_F R_Mo 54 8 18 := ⟨_, _, 33, rfl, by decide, u_Mo_in, rfl, m_628⟩
theorem fp_Mo_54 : ev_FP R_Mo 54 8 18 (t_Mo 18) true := ⟨_, _, 33, t_Mo, rfl, by decide, u_Mo_in, rfl, m_628, t_Mo_ok, n_Mo, rfl, rfl⟩
theorem fl_Mo_107 : ev_F R_Mo 107 8 19 := ⟨_, _, 33, rfl, by decide, u_Mo_in, rfl, m_629⟩
theorem fp_Mo_107 : ev_FP R_Mo 107 8 19 (t_Mo 19) false := ⟨_, _, 33, t_Mo, rfl, by decide, u_Mo_in, rfl, m_629, t_Mo_ok, n_Mo, rfl, rfl⟩
theorem fl_Mo_57 : ev_F R_Mo 57 8 20 := ⟨_, _, 33, rfl, by decide, u_Mo_in, rfl, m_630⟩
theorem fp_Mo_57 : ev_FP R_Mo 57 8 20 (t_Mo 20) true := ⟨_, _, 33, t_Mo, rfl, by decide, u_Mo_in, rfl, m_630, t_Mo_ok, n_Mo, rfl, rfl⟩
theorem fl_Mo_112 : ev_F R_Mo 112 8 21 := ⟨_, _, 33, rfl, by decide, u_Mo_in, rfl, m_631⟩
theorem fp_Mo_112 : ev_FP R_Mo 112 8 21 (t_Mo 21) false := ⟨_, _, 33, t_Mo, rfl, by decide, u_Mo_in, rfl, m_631, t_Mo_ok, n_Mo, rfl, rfl⟩
theorem fl_Mo_60 : ev_F R_Mo 60 8 22 := ⟨_, _, 33, rfl, by decide, u_Mo_in, rfl, m_632⟩
theorem fp_Mo_60 : ev_FP R_Mo 60 8 22 (t_Mo 22) false := ⟨_, _, 33, t_Mo, rfl, by decide, u_Mo_in, rfl, m_632, t_Mo_ok, n_Mo, rfl, rfl⟩
theorem fl_Mo_115 : ev_F R_Mo 115 8 23 := ⟨_, _, 33, rfl, by decide, u_Mo_in, rfl, m_633⟩
theorem fp_Mo_115 : ev_FP R_Mo 115 8 23 (t_Mo 23) false := ⟨_, _, 33, t_Mo, rfl, by decide, u_Mo_in, rfl, m_633, t_Mo_ok, n_Mo, rfl, rfl⟩
theorem fl_Mo_121 : ev_F R_Mo 121 8 24 := ⟨_, _, 33, rfl, by decide, u_Mo_in, rfl, m_634⟩
theorem fp_Mo_121 : ev_FP R_Mo 121 8 24 (t_Mo 24) false := ⟨_, _, 33, t_Mo, rfl, by decide, u_Mo_in, rfl, m_634, t_Mo_ok, n_Mo, rfl, rfl⟩
theorem fl_Mo_124 : ev_F R_Mo 124 8 25 := ⟨_, _, 33, rfl, by decide, u_Mo_in, rfl, m_635⟩
theorem fp_Mo_124 : ev_FP R_Mo 124 8 25 (t_Mo 25) false := ⟨_, _, 33, t_Mo, rfl, by decide, u_Mo_in, rfl, m_635, t_Mo_ok, n_Mo, rfl, rfl⟩
theorem fl_Mo_128 : ev_F R_Mo 128 8 26 := ⟨_, _, 33, rfl, by decide, u_Mo_in, rfl, m_636⟩
theorem fp_Mo_128 : ev_FP R_Mo 128 8 26 (t_Mo 26) false := ⟨_, _, 33, t_Mo, rfl, by decide, u_Mo_in, rfl, m_636, t_Mo_ok, n_Mo, rfl, rfl⟩
theorem fl_Mo_132 : ev_F R_Mo 132 8 27 := ⟨_, _, 33, rfl, by decide, u_Mo_in, rfl, m_637⟩
theorem fp_Mo_132 : ev_FP R_Mo 132 8 27 (t_Mo 27) false := ⟨_, _, 33, t_Mo, rfl, by decide, u_Mo_in, rfl, m_637, t_Mo_ok, n_Mo, rfl, rfl⟩
theorem fl_Mo_64 : ev_F R_Mo 64 8 28 := ⟨_, _, 33, rfl, by decide, u_Mo_in, rfl, m_638⟩
theorem fp_Mo_64 : ev_FP R_Mo 64 8 28 (t_Mo 28) true := ⟨_, _, 33, t_Mo, rfl, by decide, u_Mo_in, rfl, m_638, t_Mo_ok, n_Mo, rfl, rfl⟩
theorem fl_Mo_67 : ev_F R_Mo 67 8 29 := ⟨_, _, 33, rfl, by decide, u_Mo_in, rfl, m_639⟩
theorem fp_Mo_67 : ev_FP R_Mo 67 8 29 (t_Mo 29) true := ⟨_, _, 33, t_Mo, rfl, by decide, u_Mo_in, rfl, m_639, t_Mo_ok, n_Mo, rfl, rfl⟩
theorem fl_Mo_70 : ev_F R_Mo 70 8 30 := ⟨_, _, 33, rfl, by decide, u_Mo_in, rfl, m_640⟩
theorem fp_Mo_70 : ev_FP R_Mo 70 8 30 (t_Mo 30) true := ⟨_, _, 33, t_Mo, rfl, by decide, u_Mo_in, rfl, m_640, t_Mo_ok, n_Mo, rfl, rfl⟩
theorem fl_Mo_73 : ev_F R_Mo 73 8 31 := ⟨_, _, 33, rfl, by decide, u_Mo_in, rfl, m_641⟩
theorem fp_Mo_73 : ev_FP R_Mo 73 8 31 (t_Mo 31) true := ⟨_, _, 33, t_Mo, rfl, by decide, u_Mo_in, rfl, m_641, t_Mo_ok, n_Mo, rfl, rfl⟩
theorem fl_Mo_76 : ev_F R_Mo 76 8 32 := ⟨_, _, 33, rfl, by decide, u_Mo_in, rfl, m_642⟩
theorem fp_Mo_76 : ev_FP R_Mo 76 8 32 (t_Mo 32) true := ⟨_, _, 33, t_Mo, rfl, by decide, u_Mo_in, rfl, m_642, t_Mo_ok, n_Mo, rfl, rfl⟩
theorem md_EF_init : ev_MD M_EF_init := ⟨by decide +kernel, rfl, m_79, by decide⟩
theorem md_EF_feed : ev_MD M_EF_feed := ⟨by decide +kernel, rfl, m_166, by decide⟩
theorem md_EF_take : ev_MD M_EF_take := ⟨by decide +kernel, rfl, m_178, by decide⟩
theorem md_EF_out : ev_MD M_EF_out := ⟨by decide +kernel, rfl, m_187, by decide⟩
theorem md_EF_read : ev_MD M_EF_read := ⟨by decide +kernel, rfl, m_191, by decide⟩
theorem md_EF_where : ev_MD M_EF_where := ⟨by decide +kernel, rfl, m_373, by decide⟩
theorem md_EF_clear : ev_MD M_EF_clear := ⟨by decide +kernel, rfl, m_377, by decide⟩
theorem md_EF_make : ev_MD M_EF_make := ⟨by decide +kernel, rfl, m_382, by decide⟩
theorem md_EF_letter : ev_MD M_EF_letter := ⟨by decide +kernel, rfl, m_394, by decide⟩
theorem md_EF_frame : ev_MD M_EF_frame := ⟨by decide +kernel, rfl, m_400, by decide⟩
theorem md_EF_block : ev_MD M_EF_block := ⟨by decide +kernel, rfl, m_408, by decide⟩
theorem md_EF_id : ev_MD M_EF_id := ⟨by decide +kernel, rfl, m_432, by decide⟩
theorem md_EF_parent : ev_MD M_EF_parent := ⟨by decide +kernel, rfl, m_436, by decide⟩
theorem md_EF_value : ev_MD M_EF_value := ⟨by decide +kernel, rfl, m_440, by decide⟩
theorem md_EF_part : ev_MD M_EF_part := ⟨by decide +kernel, rfl, m_449, by decide⟩
theorem md_EF_sample : ev_MD M_EF_sample := ⟨by decide +kernel, rfl, m_465, by decide⟩
theorem md_EF_detail : ev_MD M_EF_detail := ⟨by decide +kernel, rfl, m_469, by decide⟩
theorem md_EF_write : ev_MD M_EF_write := ⟨by decide +kernel, rfl, m_474, by decide⟩
theorem md_EF_index : ev_MD M_EF_index := ⟨by decide +kernel, rfl, m_545, by decide⟩
theorem md_EF_seek : ev_MD M_EF_seek := ⟨by decide +kernel, rfl, m_588, by decide⟩
theorem md_EF_jump : ev_MD M_EF_jump := ⟨by decide +kernel, rfl, m_596, by decide⟩
theorem md_EF_segmentAt : ev_MD M_EF_segmentAt := ⟨by decide +kernel, rfl, m_548, by decide⟩
theorem md_EF_isLetter : ev_MD M_EF_isLetter := ⟨by decide +kernel, rfl, m_323, by decide⟩
theorem md_EF_vintLengthByFirst : ev_MD M_EF_vintLengthByFirst := ⟨by decide +kernel, rfl, m_205, by decide⟩
theorem md_EF_allOnes : ev_MD M_EF_allOnes := ⟨by decide +kernel, rfl, m_236, by decide⟩
theorem md_EF_surplus : ev_MD M_EF_surplus := ⟨by decide +kernel, rfl, m_349, by decide⟩
theorem md_EF_shortestVintLength : ev_MD M_EF_shortestVintLength := ⟨by decide +kernel, rfl, m_495, by decide⟩
theorem md_Ro_init : ev_MD M_Ro_init := ⟨by decide +kernel, rfl, m_87, by decide⟩
theorem md_Ro_at : ev_MD M_Ro_at := ⟨by decide +kernel, rfl, m_182, by decide⟩
theorem md_Ro_change : ev_MD M_Ro_change := ⟨by decide +kernel, rfl, m_541, by decide⟩
theorem md_Ro_put : ev_MD M_Ro_put := ⟨by decide +kernel, rfl, m_174, by decide⟩
theorem md_Ro_putNumber : ev_MD M_Ro_putNumber := ⟨by decide +kernel, rfl, m_170, by decide⟩
theorem md_Ro_putVint : ev_MD M_Ro_putVint := ⟨by decide +kernel, rfl, m_500, by decide⟩
theorem md_Ro_sum : ev_MD M_Ro_sum := ⟨by decide +kernel, rfl, m_367, by decide⟩
theorem md_Fr_init : ev_MD M_Fr_init := ⟨by decide +kernel, rfl, m_98, by decide⟩
theorem md_Fr_add : ev_MD M_Fr_add := ⟨by decide +kernel, rfl, m_404, by decide⟩
theorem md_Fr_suit : ev_MD M_Fr_suit := ⟨by decide +kernel, rfl, m_413, by decide⟩
theorem md_Fr_areEven : ev_MD M_Fr_areEven := ⟨by decide +kernel, rfl, m_416, by decide⟩
theorem md_Fr_moveTo : ev_MD M_Fr_moveTo := ⟨by decide +kernel, rfl, m_425, by decide⟩
theorem md_El_init : ev_MD M_El_init := ⟨by decide +kernel, rfl, m_245, by decide⟩
theorem md_El_begin : ev_MD M_El_begin := ⟨by decide +kernel, rfl, m_308, by decide⟩
theorem md_El_setDetails : ev_MD M_El_setDetails := ⟨by decide +kernel, rfl, m_338, by decide⟩
theorem md_El_addPart : ev_MD M_El_addPart := ⟨by decide +kernel, rfl, m_327, by decide⟩
theorem md_El_partAt : ev_MD M_El_partAt := ⟨by decide +kernel, rfl, m_457, by decide⟩
theorem md_Tr_init : ev_MD M_Tr_init := ⟨by decide +kernel, rfl, m_109, by decide⟩
theorem md_Tr_empty : ev_MD M_Tr_empty := ⟨by decide +kernel, rfl, m_199, by decide⟩
theorem md_Tr_at : ev_MD M_Tr_at := ⟨by decide +kernel, rfl, m_315, by decide⟩
theorem md_Tr_endOf : ev_MD M_Tr_endOf := ⟨by decide +kernel, rfl, m_227, by decide⟩
theorem md_Tr_childrenOf : ev_MD M_Tr_childrenOf := ⟨by decide +kernel, rfl, m_445, by decide⟩
theorem md_Tr_childOf : ev_MD M_Tr_childOf := ⟨by decide +kernel, rfl, m_453, by decide⟩
theorem md_Tr_mayStand : ev_MD M_Tr_mayStand := ⟨by decide +kernel, rfl, m_221, by decide⟩
theorem md_Tr_add : ev_MD M_Tr_add := ⟨by decide +kernel, rfl, m_242, by decide⟩
theorem md_Tr_putInLine : ev_MD M_Tr_putInLine := ⟨by decide +kernel, rfl, m_304, by decide⟩
theorem md_Tr_weigh : ev_MD M_Tr_weigh := ⟨by decide +kernel, rfl, m_563, by decide⟩
theorem md_Tr_takeOut : ev_MD M_Tr_takeOut := ⟨by decide +kernel, rfl, m_567, by decide⟩
theorem md_Tr_canStore : ev_MD M_Tr_canStore := ⟨by decide +kernel, rfl, m_420, by decide⟩
theorem md_Tr_beginStoring : ev_MD M_Tr_beginStoring := ⟨by decide +kernel, rfl, m_356, by decide⟩
theorem md_Tr_storeFor : ev_MD M_Tr_storeFor := ⟨by decide +kernel, rfl, m_360, by decide⟩
theorem md_Tr_storedAt : ev_MD M_Tr_storedAt := ⟨by decide +kernel, rfl, m_461, by decide⟩
theorem md_Re_init : ev_MD M_Re_init := ⟨by decide +kernel, rfl, m_126, by decide⟩
theorem md_Re_readTree : ev_MD M_Re_readTree := ⟨by decide +kernel, rfl, m_195, by decide⟩
theorem md_Re_readTag : ev_MD M_Re_readTag := ⟨by decide +kernel, rfl, m_202, by decide⟩
theorem md_Re_readSize : ev_MD M_Re_readSize := ⟨by decide +kernel, rfl, m_230, by decide⟩
theorem md_Re_readData : ev_MD M_Re_readData := ⟨by decide +kernel, rfl, m_311, by decide⟩
theorem md_Re_readText : ev_MD M_Re_readText := ⟨by decide +kernel, rfl, m_321, by decide⟩
theorem md_Re_readCheck : ev_MD M_Re_readCheck := ⟨by decide +kernel, rfl, m_363, by decide⟩
theorem md_Re_readBlockHead : ev_MD M_Re_readBlockHead := ⟨by decide +kernel, rfl, m_330, by decide⟩
theorem md_Re_shareEvenly : ev_MD M_Re_shareEvenly := ⟨by decide +kernel, rfl, m_344, by decide⟩
theorem md_Re_readSizes : ev_MD M_Re_readSizes := ⟨by decide +kernel, rfl, m_341, by decide⟩
theorem md_Re_nextSizeOfBytes : ev_MD M_Re_nextSizeOfBytes := ⟨by decide +kernel, rfl, m_347, by decide⟩
theorem md_Re_storeRest : ev_MD M_Re_storeRest := ⟨by decide +kernel, rfl, m_352, by decide⟩
theorem md_Re_nextByte : ev_MD M_Re_nextByte := ⟨by decide +kernel, rfl, m_334, by decide⟩
theorem md_Re_nextNumber : ev_MD M_Re_nextNumber := ⟨by decide +kernel, rfl, m_208, by decide⟩
theorem md_Re_nextVint : ev_MD M_Re_nextVint := ⟨by decide +kernel, rfl, m_233, by decide⟩
theorem md_Wr_init : ev_MD M_Wr_init := ⟨by decide +kernel, rfl, m_142, by decide⟩
theorem md_Wr_measureTree : ev_MD M_Wr_measureTree := ⟨by decide +kernel, rfl, m_478, by decide⟩
theorem md_Wr_putTree : ev_MD M_Wr_putTree := ⟨by decide +kernel, rfl, m_529, by decide⟩
theorem md_Wr_isOpen : ev_MD M_Wr_isOpen := ⟨by decide +kernel, rfl, m_523, by decide⟩
theorem md_Wr_putHeader : ev_MD M_Wr_putHeader := ⟨by decide +kernel, rfl, m_532, by decide⟩
theorem md_Wr_putLeaf : ev_MD M_Wr_putLeaf := ⟨by decide +kernel, rfl, m_481, by decide⟩
theorem md_Wr_fewestBytes : ev_MD M_Wr_fewestBytes := ⟨by decide +kernel, rfl, m_484, by decide⟩
theorem md_Wr_putText : ev_MD M_Wr_putText := ⟨by decide +kernel, rfl, m_488, by decide⟩
theorem md_Wr_putZeros : ev_MD M_Wr_putZeros := ⟨by decide +kernel, rfl, m_520, by decide⟩
theorem md_Wr_putStored : ev_MD M_Wr_putStored := ⟨by decide +kernel, rfl, m_516, by decide⟩
theorem md_Wr_putBlockHead : ev_MD M_Wr_putBlockHead := ⟨by decide +kernel, rfl, m_493, by decide⟩
theorem md_Wr_putSizes : ev_MD M_Wr_putSizes := ⟨by decide +kernel, rfl, m_504, by decide⟩
theorem md_Wr_putSizeOfBytes : ev_MD M_Wr_putSizeOfBytes := ⟨by decide +kernel, rfl, m_507, by decide⟩
theorem md_Wr_shortestDifferenceLength : ev_MD M_Wr_shortestDifferenceLength := ⟨by decide +kernel, rfl, m_510, by decide⟩
theorem md_Wr_fillCheck : ev_MD M_Wr_fillCheck := ⟨by decide +kernel, rfl, m_536, by decide⟩
theorem md_Fi_init : ev_MD M_Fi_init := ⟨by decide +kernel, rfl, m_153, by decide⟩
theorem md_Fi_renewCues : ev_MD M_Fi_renewCues := ⟨by decide +kernel, rfl, m_553, by decide⟩
theorem md_Fi_countKeyBlocks : ev_MD M_Fi_countKeyBlocks := ⟨by decide +kernel, rfl, m_556, by decide⟩
theorem md_Fi_addCue : ev_MD M_Fi_addCue := ⟨by decide +kernel, rfl, m_570, by decide⟩
theorem md_Fi_addNumber : ev_MD M_Fi_addNumber := ⟨by decide +kernel, rfl, m_582, by decide⟩
theorem md_Fi_momentOf : ev_MD M_Fi_momentOf := ⟨by decide +kernel, rfl, m_575, by decide⟩
theorem md_Fi_firstNumber : ev_MD M_Fi_firstNumber := ⟨by decide +kernel, rfl, m_579, by decide⟩
theorem md_Fi_findByBlocks : ev_MD M_Fi_findByBlocks := ⟨by decide +kernel, rfl, m_592, by decide⟩
theorem md_Fi_findByCues : ev_MD M_Fi_findByCues := ⟨by decide +kernel, rfl, m_600, by decide⟩
theorem md_Fi_blockWithBefore : ev_MD M_Fi_blockWithBefore := ⟨by decide +kernel, rfl, m_603, by decide⟩
theorem md_Mo_init : ev_MD M_Mo_init := ⟨by decide +kernel, rfl, m_608, by decide⟩
theorem md_Mo_kindOf : ev_MD M_Mo_kindOf := ⟨by decide +kernel, rfl, m_686, by decide⟩
theorem md_Mo_stands : ev_MD M_Mo_stands := ⟨by decide +kernel, rfl, m_680, by decide⟩
theorem md_Mo_isElement : ev_MD M_Mo_isElement := ⟨by decide +kernel, rfl, m_736, by decide⟩
theorem md_Mo_is : ev_MD M_Mo_is := ⟨by decide +kernel, rfl, m_767, by decide⟩
theorem md_Mo_isKind : ev_MD M_Mo_isKind := ⟨by decide +kernel, rfl, m_756, by decide⟩
theorem md_Mo_children : ev_MD M_Mo_children := ⟨by decide +kernel, rfl, m_689, by decide⟩
theorem md_Mo_child : ev_MD M_Mo_child := ⟨by decide +kernel, rfl, m_790, by decide⟩
theorem md_Mo_move : ev_MD M_Mo_move := ⟨by decide +kernel, rfl, m_749, by decide⟩
theorem md_Mo_behind : ev_MD M_Mo_behind := ⟨by decide +kernel, rfl, m_743, by decide⟩
theorem md_Mo_isIn : ev_MD M_Mo_isIn := ⟨by decide +kernel, rfl, m_746, by decide⟩
theorem md_Mo_insert : ev_MD M_Mo_insert := ⟨by decide +kernel, rfl, m_740, by decide⟩
theorem md_Mo_remove : ev_MD M_Mo_remove := ⟨by decide +kernel, rfl, m_854, by decide⟩
theorem md_Mo_clear : ev_MD M_Mo_clear := ⟨by decide +kernel, rfl, m_648, by decide⟩
theorem md_Mo_feed : ev_MD M_Mo_feed := ⟨by decide +kernel, rfl, m_652, by decide⟩
theorem md_Mo_take : ev_MD M_Mo_take := ⟨by decide +kernel, rfl, m_657, by decide⟩
theorem md_Mo_out : ev_MD M_Mo_out := ⟨by decide +kernel, rfl, m_661, by decide⟩
theorem md_Mo_widthOf : ev_MD M_Mo_widthOf := ⟨by decide +kernel, rfl, m_674, by decide⟩
theorem md_Mo_readVint : ev_MD M_Mo_readVint := ⟨by decide +kernel, rfl, m_695, by decide⟩
theorem md_Mo_readId : ev_MD M_Mo_readId := ⟨by decide +kernel, rfl, m_671, by decide⟩
theorem md_Mo_masterId : ev_MD M_Mo_masterId := ⟨by decide +kernel, rfl, m_677, by decide⟩
theorem md_Mo_crcStep : ev_MD M_Mo_crcStep := ⟨by decide +kernel, rfl, m_724, by decide⟩
theorem md_Mo_readNumber : ev_MD M_Mo_readNumber := ⟨by decide +kernel, rfl, m_701, by decide⟩
theorem md_Mo_readText : ev_MD M_Mo_readText := ⟨by decide +kernel, rfl, m_704, by decide⟩
theorem md_Mo_readSum : ev_MD M_Mo_readSum := ⟨by decide +kernel, rfl, m_721, by decide⟩
theorem md_Mo_readSize : ev_MD M_Mo_readSize := ⟨by decide +kernel, rfl, m_714, by decide⟩
theorem md_Mo_readSizes : ev_MD M_Mo_readSizes := ⟨by decide +kernel, rfl, m_711, by decide⟩
theorem md_Mo_readBlock : ev_MD M_Mo_readBlock := ⟨by decide +kernel, rfl, m_707, by decide⟩
theorem md_Mo_keep : ev_MD M_Mo_keep := ⟨by decide +kernel, rfl, m_718, by decide⟩
theorem md_Mo_readData : ev_MD M_Mo_readData := ⟨by decide +kernel, rfl, m_698, by decide⟩
theorem md_Mo_readSizeOf : ev_MD M_Mo_readSizeOf := ⟨by decide +kernel, rfl, m_692, by decide⟩
theorem md_Mo_readElement : ev_MD M_Mo_readElement := ⟨by decide +kernel, rfl, m_668, by decide⟩
theorem md_Mo_read : ev_MD M_Mo_read := ⟨by decide +kernel, rfl, m_665, by decide⟩
theorem md_Mo_where : ev_MD M_Mo_where := ⟨by decide +kernel, rfl, m_729, by decide⟩
theorem md_Mo_make : ev_MD M_Mo_make := ⟨by decide +kernel, rfl, m_733, by decide⟩
theorem md_Mo_letter : ev_MD M_Mo_letter := ⟨by decide +kernel, rfl, m_753, by decide⟩
theorem md_Mo_frame : ev_MD M_Mo_frame := ⟨by decide +kernel, rfl, m_760, by decide⟩
theorem md_Mo_evenHands : ev_MD M_Mo_evenHands := ⟨by decide +kernel, rfl, m_770, by decide⟩
theorem md_Mo_block : ev_MD M_Mo_block := ⟨by decide +kernel, rfl, m_764, by decide⟩
theorem md_Mo_id : ev_MD M_Mo_id := ⟨by decide +kernel, rfl, m_774, by decide⟩
theorem md_Mo_parent : ev_MD M_Mo_parent := ⟨by decide +kernel, rfl, m_778, by decide⟩
theorem md_Mo_value : ev_MD M_Mo_value := ⟨by decide +kernel, rfl, m_782, by decide⟩
theorem md_Mo_part : ev_MD M_Mo_part := ⟨by decide +kernel, rfl, m_787, by decide⟩
theorem md_Mo_sample : ev_MD M_Mo_sample := ⟨by decide +kernel, rfl, m_794, by decide⟩
theorem md_Mo_detail : ev_MD M_Mo_detail := ⟨by decide +kernel, rfl, m_798, by decide⟩
theorem md_Mo_widthFor : ev_MD M_Mo_widthFor := ⟨by decide +kernel, rfl, m_815, by decide⟩
theorem md_Mo_idWidth : ev_MD M_Mo_idWidth := ⟨by decide +kernel, rfl, m_821, by decide⟩
theorem md_Mo_widthForStep : ev_MD M_Mo_widthForStep := ⟨by decide +kernel, rfl, m_818, by decide⟩
theorem md_Mo_blockBytes : ev_MD M_Mo_blockBytes := ⟨by decide +kernel, rfl, m_812, by decide⟩
theorem md_Mo_numberBytes : ev_MD M_Mo_numberBytes := ⟨by decide +kernel, rfl, m_809, by decide⟩
theorem md_Mo_isLive : ev_MD M_Mo_isLive := ⟨by decide +kernel, rfl, m_826, by decide⟩
theorem md_Mo_measure : ev_MD M_Mo_measure := ⟨by decide +kernel, rfl, m_806, by decide⟩
theorem md_Mo_put : ev_MD M_Mo_put := ⟨by decide +kernel, rfl, m_832, by decide⟩
theorem md_Mo_putBytes : ev_MD M_Mo_putBytes := ⟨by decide +kernel, rfl, m_829, by decide⟩
theorem md_Mo_putVint : ev_MD M_Mo_putVint := ⟨by decide +kernel, rfl, m_835, by decide⟩
theorem md_Mo_putBlock : ev_MD M_Mo_putBlock := ⟨by decide +kernel, rfl, m_841, by decide⟩
theorem md_Mo_putData : ev_MD M_Mo_putData := ⟨by decide +kernel, rfl, m_838, by decide⟩
theorem md_Mo_fillSum : ev_MD M_Mo_fillSum := ⟨by decide +kernel, rfl, m_844, by decide⟩
theorem md_Mo_write : ev_MD M_Mo_write := ⟨by decide +kernel, rfl, m_803, by decide⟩
theorem md_Mo_first : ev_MD M_Mo_first := ⟨by decide +kernel, rfl, m_860, by decide⟩
theorem md_Mo_moment : ev_MD M_Mo_moment := ⟨by decide +kernel, rfl, m_857, by decide⟩
theorem md_Mo_isBlockOf : ev_MD M_Mo_isBlockOf := ⟨by decide +kernel, rfl, m_851, by decide⟩
theorem md_Mo_index : ev_MD M_Mo_index := ⟨by decide +kernel, rfl, m_848, by decide⟩
theorem md_Mo_seek : ev_MD M_Mo_seek := ⟨by decide +kernel, rfl, m_864, by decide⟩
theorem md_Mo_jump : ev_MD M_Mo_jump := ⟨by decide +kernel, rfl, m_868, by decide⟩
theorem md_So_of : ev_MD M_So_of := ⟨by decide +kernel, rfl, m_211, by decide⟩
theorem md_So_fits : ev_MD M_So_fits := ⟨by decide +kernel, rfl, m_217, by decide⟩
theorem md_Ma_min : ev_MD M_Ma_min := ⟨by decide +kernel, rfl, m_318, by decide⟩
theorem md_Ma_abs : ev_MD M_Ma_abs := ⟨by decide +kernel, rfl, m_513, by decide⟩
theorem ol_EF_1 : Cond.methodLink R_EF 1 Lib.objectInit ∈ ev_tbl := m_80
theorem lk_EF_11 : ev_LI R_EF 11 M_Ro_init 1 := ⟨md_Ro_init, rfl, m_85, m_86, m_64, rfl, by decide, by decide, by decide +kernel⟩
theorem lk_EF_23 : ev_LIN R_EF 23 "ElementFiles" M_Fr_init 0 := ⟨md_Fr_init, rfl, by decide +kernel, m_97, m_65, rfl, by decide, by decide, by decide +kernel⟩
theorem lk_EF_30 : ev_LIN R_EF 30 "ElementFiles" M_Tr_init 0 := ⟨md_Tr_init, rfl, by decide +kernel, m_108, m_66, rfl, by decide, by decide, by decide +kernel⟩
theorem lk_EF_37 : ev_LI R_EF 37 M_Re_init 2 := ⟨md_Re_init, rfl, m_124, m_125, m_67, rfl, by decide, by decide, by decide +kernel⟩
theorem lk_EF_46 : ev_LI R_EF 46 M_Wr_init 2 := ⟨md_Wr_init, rfl, m_140, m_141, m_68, rfl, by decide, by decide, by decide +kernel⟩
theorem lk_EF_55 : ev_LI R_EF 55 M_Fi_init 1 := ⟨md_Fi_init, rfl, m_151, m_152, m_69, rfl, by decide, by decide, by decide +kernel⟩
theorem lk_EF_66 : ev_LV R_EF 66 M_Ro_putNumber 2 := ⟨md_Ro_putNumber, m_167, m_168, m_169, m_64, by decide, by decide, by decide +kernel⟩
theorem lk_EF_70 : ev_LV R_EF 70 M_Ro_at 1 := ⟨md_Ro_at, m_179, m_180, m_181, m_64, by decide, by decide, by decide +kernel⟩
theorem lk_EF_74 : ev_LV R_EF 74 M_Ro_put 1 := ⟨md_Ro_put, m_183, m_172, m_173, m_64, by decide, by decide, by decide +kernel⟩
theorem lk_EF_77 : ev_LV R_EF 77 M_Re_readTree 0 := ⟨md_Re_readTree, m_192, m_193, m_194, m_67, by decide, by decide, by decide +kernel⟩
theorem lk_EF_84 : ev_LV R_EF 84 M_Tr_empty 0 := ⟨md_Tr_empty, m_378, m_197, m_198, m_66, by decide, by decide, by decide +kernel⟩
theorem lk_EF_87 : ev_LV R_EF 87 M_Tr_at 1 := ⟨md_Tr_at, m_383, m_313, m_314, m_66, by decide, by decide, by decide +kernel⟩
theorem lk_EF_90 : ev_LS R_EF 90 M_So_of 1 := ⟨md_So_of, m_384, m_210, m_72, by decide, by decide, by decide +kernel⟩
theorem lk_EF_103 : ev_LV R_EF 103 M_Tr_mayStand 2 := ⟨md_Tr_mayStand, m_387, m_219, m_220, m_66, by decide, by decide, by decide +kernel⟩
theorem lk_EF_112 : ev_LV R_EF 112 M_Tr_add 3 := ⟨md_Tr_add, m_390, m_240, m_241, m_66, by decide, by decide, by decide +kernel⟩
theorem lk_EF_131 : ev_LS R_EF 131 M_EF_isLetter 1 := ⟨md_EF_isLetter, m_395, m_322, m_63, by decide, by decide, by decide +kernel⟩
theorem lk_EF_135 : ev_LV R_EF 135 M_El_addPart 1 := ⟨md_El_addPart, m_396, m_325, m_326, m_73, by decide, by decide, by decide +kernel⟩
theorem lk_EF_138 : ev_LV R_EF 138 M_Fr_add 2 := ⟨md_Fr_add, m_401, m_402, m_403, m_65, by decide, by decide, by decide +kernel⟩
theorem lk_EF_145 : ev_LV R_EF 145 M_Fr_suit 1 := ⟨md_Fr_suit, m_410, m_411, m_412, m_65, by decide, by decide, by decide +kernel⟩
theorem lk_EF_151 : ev_LV R_EF 151 M_Tr_canStore 1 := ⟨md_Tr_canStore, m_417, m_418, m_419, m_66, by decide, by decide, by decide +kernel⟩
theorem lk_EF_157 : ev_LV R_EF 157 M_El_setDetails 4 := ⟨md_El_setDetails, m_421, m_336, m_337, m_73, by decide, by decide, by decide +kernel⟩
theorem lk_EF_161 : ev_LV R_EF 161 M_Fr_moveTo 2 := ⟨md_Fr_moveTo, m_422, m_423, m_424, m_65, by decide, by decide, by decide +kernel⟩
theorem lk_EF_172 : ev_LV R_EF 172 M_Tr_childrenOf 1 := ⟨md_Tr_childrenOf, m_442, m_443, m_444, m_66, by decide, by decide, by decide +kernel⟩
theorem lk_EF_176 : ev_LV R_EF 176 M_Tr_childOf 2 := ⟨md_Tr_childOf, m_450, m_451, m_452, m_66, by decide, by decide, by decide +kernel⟩
theorem lk_EF_180 : ev_LV R_EF 180 M_El_partAt 1 := ⟨md_El_partAt, m_454, m_455, m_456, m_73, by decide, by decide, by decide +kernel⟩
theorem lk_EF_189 : ev_LV R_EF 189 M_Tr_storedAt 1 := ⟨md_Tr_storedAt, m_458, m_459, m_460, m_66, by decide, by decide, by decide +kernel⟩
theorem lk_EF_206 : ev_LV R_EF 206 M_Wr_measureTree 1 := ⟨md_Wr_measureTree, m_475, m_476, m_477, m_68, by decide, by decide, by decide +kernel⟩
theorem lk_EF_210 : ev_LV R_EF 210 M_Wr_putTree 1 := ⟨md_Wr_putTree, m_526, m_527, m_528, m_68, by decide, by decide, by decide +kernel⟩
theorem lk_EF_213 : ev_LV R_EF 213 M_EF_segmentAt 1 := ⟨md_EF_segmentAt, m_546, m_547, m_19, m_63, by decide, by decide, by decide +kernel⟩
theorem lk_EF_216 : ev_LV R_EF 216 M_Fi_renewCues 1 := ⟨md_Fi_renewCues, m_550, m_551, m_552, m_69, by decide, by decide, by decide +kernel⟩
theorem lk_EF_219 : ev_LV R_EF 219 M_Fi_findByBlocks 3 := ⟨md_Fi_findByBlocks, m_589, m_590, m_591, m_69, by decide, by decide, by decide +kernel⟩
theorem lk_EF_223 : ev_LV R_EF 223 M_Fi_findByCues 3 := ⟨md_Fi_findByCues, m_597, m_598, m_599, m_69, by decide, by decide, by decide +kernel⟩
theorem lk_EF_229 : ev_LS R_EF 229 M_EF_allOnes 1 := ⟨md_EF_allOnes, m_496, m_235, m_63, by decide, by decide, by decide +kernel⟩
theorem ol_Ro_3 : Cond.methodLink R_Ro 3 Lib.objectInit ∈ ev_tbl := m_88
theorem lk_Ro_19 : ev_LV R_Ro 19 M_Ro_put 1 := ⟨md_Ro_put, m_171, m_172, m_173, m_64, by decide, by decide, by decide +kernel⟩
theorem lk_Ro_23 : ev_LSN R_Ro 23 "ElementFiles" M_EF_allOnes 1 := ⟨md_EF_allOnes, by decide +kernel, m_235, m_63, by decide, by decide, by decide +kernel⟩
theorem lk_Ro_27 : ev_LV R_Ro 27 M_Ro_putNumber 2 := ⟨md_Ro_putNumber, m_501, m_168, m_169, m_64, by decide, by decide, by decide +kernel⟩
theorem lk_Ro_31 : ev_LV R_Ro 31 M_Ro_at 1 := ⟨md_Ro_at, m_368, m_180, m_181, m_64, by decide, by decide, by decide +kernel⟩
theorem ol_Fr_3 : Cond.methodLink R_Fr 3 Lib.objectInit ∈ ev_tbl := m_99
theorem lk_Fr_25 : ev_LV R_Fr 25 M_Fr_areEven 0 := ⟨md_Fr_areEven, m_414, m_415, m_14, m_65, by decide, by decide, by decide +kernel⟩
theorem lk_Fr_29 : ev_LV R_Fr 29 M_El_addPart 1 := ⟨md_El_addPart, m_426, m_325, m_326, m_73, by decide, by decide, by decide +kernel⟩
theorem lk_Fr_35 : ev_LV R_Fr 35 M_Tr_beginStoring 1 := ⟨md_Tr_beginStoring, m_427, m_354, m_355, m_66, by decide, by decide, by decide +kernel⟩
theorem lk_Fr_41 : ev_LV R_Fr 41 M_Tr_storeFor 2 := ⟨md_Tr_storeFor, m_428, m_358, m_359, m_66, by decide, by decide, by decide +kernel⟩
theorem ol_El_3 : Cond.methodLink R_El 3 Lib.objectInit ∈ ev_tbl := m_246
theorem ol_Tr_3 : Cond.methodLink R_Tr 3 Lib.objectInit ∈ ev_tbl := m_110
theorem lk_Tr_37 : ev_LV R_Tr 37 M_Tr_endOf 1 := ⟨md_Tr_endOf, m_224, m_225, m_226, m_66, by decide, by decide, by decide +kernel⟩
theorem lk_Tr_45 : ev_LV R_Tr 45 M_So_fits 1 := ⟨md_So_fits, m_222, m_215, m_216, m_72, by decide, by decide, by decide +kernel⟩
theorem lk_Tr_61 : ev_LIN R_Tr 61 "ElementFiles" M_El_init 0 := ⟨md_El_init, rfl, by decide +kernel, m_244, m_73, rfl, by decide, by decide, by decide +kernel⟩
theorem lk_Tr_62 : ev_LV R_Tr 62 M_Tr_putInLine 2 := ⟨md_Tr_putInLine, m_302, m_303, m_4, m_66, by decide, by decide, by decide +kernel⟩
theorem lk_Tr_66 : ev_LV R_Tr 66 M_El_begin 3 := ⟨md_El_begin, m_305, m_306, m_307, m_73, by decide, by decide, by decide +kernel⟩
theorem ol_Re_3 : Cond.methodLink R_Re 3 Lib.objectInit ∈ ev_tbl := m_127
theorem lk_Re_23 : ev_LV R_Re 23 M_Tr_empty 0 := ⟨md_Tr_empty, m_196, m_197, m_198, m_66, by decide, by decide, by decide +kernel⟩
theorem lk_Re_40 : ev_LV R_Re 40 M_Re_readTag 0 := ⟨md_Re_readTag, m_200, m_201, m_0, m_67, by decide, by decide, by decide +kernel⟩
theorem lk_Re_44 : ev_LV R_Re 44 M_Re_readSize 0 := ⟨md_Re_readSize, m_228, m_229, m_2, m_67, by decide, by decide, by decide +kernel⟩
theorem lk_Re_47 : ev_LV R_Re 47 M_Re_readData 0 := ⟨md_Re_readData, m_309, m_310, m_5, m_67, by decide, by decide, by decide +kernel⟩
theorem lk_Re_58 : ev_LV R_Re 58 M_Ro_at 1 := ⟨md_Ro_at, m_203, m_180, m_181, m_64, by decide, by decide, by decide +kernel⟩
theorem lk_Re_62 : ev_LSN R_Re 62 "ElementFiles" M_EF_vintLengthByFirst 1 := ⟨md_EF_vintLengthByFirst, by decide +kernel, m_204, m_63, by decide, by decide, by decide +kernel⟩
theorem lk_Re_65 : ev_LV R_Re 65 M_Re_nextNumber 1 := ⟨md_Re_nextNumber, m_206, m_207, m_1, m_67, by decide, by decide, by decide +kernel⟩
theorem lk_Re_72 : ev_LS R_Re 72 M_So_of 1 := ⟨md_So_of, m_209, m_210, m_72, by decide, by decide, by decide +kernel⟩
theorem lk_Re_89 : ev_LV R_Re 89 M_So_fits 1 := ⟨md_So_fits, m_214, m_215, m_216, m_72, by decide, by decide, by decide +kernel⟩
theorem lk_Re_93 : ev_LV R_Re 93 M_Tr_mayStand 2 := ⟨md_Tr_mayStand, m_218, m_219, m_220, m_66, by decide, by decide, by decide +kernel⟩
theorem lk_Re_97 : ev_LV R_Re 97 M_Re_nextVint 0 := ⟨md_Re_nextVint, m_231, m_232, m_3, m_67, by decide, by decide, by decide +kernel⟩
theorem lk_Re_110 : ev_LV R_Re 110 M_Tr_add 3 := ⟨md_Tr_add, m_239, m_240, m_241, m_66, by decide, by decide, by decide +kernel⟩
theorem lk_Re_114 : ev_LV R_Re 114 M_Tr_at 1 := ⟨md_Tr_at, m_312, m_313, m_314, m_66, by decide, by decide, by decide +kernel⟩
theorem lk_Re_120 : ev_LS R_Re 120 M_Ma_min 2 := ⟨md_Ma_min, m_316, m_317, m_74, by decide, by decide, by decide +kernel⟩
theorem lk_Re_130 : ev_LV R_Re 130 M_Re_readText 1 := ⟨md_Re_readText, m_319, m_320, m_6, m_67, by decide, by decide, by decide +kernel⟩
theorem lk_Re_134 : ev_LV R_Re 134 M_Re_readBlockHead 1 := ⟨md_Re_readBlockHead, m_328, m_329, m_7, m_67, by decide, by decide, by decide +kernel⟩
theorem lk_Re_138 : ev_LV R_Re 138 M_Re_readSizes 2 := ⟨md_Re_readSizes, m_339, m_340, m_9, m_67, by decide, by decide, by decide +kernel⟩
theorem lk_Re_142 : ev_LV R_Re 142 M_Re_storeRest 1 := ⟨md_Re_storeRest, m_350, m_351, m_12, m_67, by decide, by decide, by decide +kernel⟩
theorem lk_Re_146 : ev_LV R_Re 146 M_Re_readCheck 1 := ⟨md_Re_readCheck, m_361, m_362, m_13, m_67, by decide, by decide, by decide +kernel⟩
theorem lk_Re_149 : ev_LSN R_Re 149 "ElementFiles" M_EF_isLetter 1 := ⟨md_EF_isLetter, by decide +kernel, m_322, m_63, by decide, by decide, by decide +kernel⟩
theorem lk_Re_152 : ev_LV R_Re 152 M_El_addPart 1 := ⟨md_El_addPart, m_324, m_325, m_326, m_73, by decide, by decide, by decide +kernel⟩
theorem lk_Re_155 : ev_LV R_Re 155 M_Ro_sum 2 := ⟨md_Ro_sum, m_364, m_365, m_366, m_64, by decide, by decide, by decide +kernel⟩
theorem lk_Re_160 : ev_LV R_Re 160 M_Re_nextByte 0 := ⟨md_Re_nextByte, m_332, m_333, m_8, m_67, by decide, by decide, by decide +kernel⟩
theorem lk_Re_163 : ev_LV R_Re 163 M_El_setDetails 4 := ⟨md_El_setDetails, m_335, m_336, m_337, m_73, by decide, by decide, by decide +kernel⟩
theorem lk_Re_170 : ev_LV R_Re 170 M_Re_shareEvenly 2 := ⟨md_Re_shareEvenly, m_342, m_343, m_10, m_67, by decide, by decide, by decide +kernel⟩
theorem lk_Re_173 : ev_LV R_Re 173 M_Re_nextSizeOfBytes 0 := ⟨md_Re_nextSizeOfBytes, m_345, m_346, m_11, m_67, by decide, by decide, by decide +kernel⟩
theorem lk_Re_179 : ev_LSN R_Re 179 "ElementFiles" M_EF_surplus 1 := ⟨md_EF_surplus, by decide +kernel, m_348, m_63, by decide, by decide, by decide +kernel⟩
theorem lk_Re_184 : ev_LV R_Re 184 M_Tr_beginStoring 1 := ⟨md_Tr_beginStoring, m_353, m_354, m_355, m_66, by decide, by decide, by decide +kernel⟩
theorem lk_Re_187 : ev_LV R_Re 187 M_Tr_storeFor 2 := ⟨md_Tr_storeFor, m_357, m_358, m_359, m_66, by decide, by decide, by decide +kernel⟩
theorem lk_Re_191 : ev_LSN R_Re 191 "ElementFiles" M_EF_allOnes 1 := ⟨md_EF_allOnes, by decide +kernel, m_235, m_63, by decide, by decide, by decide +kernel⟩
theorem ol_Wr_3 : Cond.methodLink R_Wr 3 Lib.objectInit ∈ ev_tbl := m_143
theorem lk_Wr_11 : ev_LI R_Wr 11 M_Ro_init 1 := ⟨md_Ro_init, rfl, m_145, m_86, m_64, rfl, by decide, by decide, by decide +kernel⟩
theorem lk_Wr_38 : ev_LV R_Wr 38 M_Wr_putLeaf 2 := ⟨md_Wr_putLeaf, m_479, m_480, m_15, m_68, by decide, by decide, by decide +kernel⟩
theorem lk_Wr_47 : ev_LS R_Wr 47 M_Wr_isOpen 2 := ⟨md_Wr_isOpen, m_521, m_522, m_68, by decide, by decide, by decide +kernel⟩
theorem lk_Wr_51 : ev_LSN R_Wr 51 "ElementFiles" M_EF_shortestVintLength 1 := ⟨md_EF_shortestVintLength, by decide +kernel, m_494, m_63, by decide, by decide, by decide +kernel⟩
theorem lk_Wr_58 : ev_LS R_Wr 58 M_Wr_fewestBytes 1 := ⟨md_Wr_fewestBytes, m_482, m_483, m_68, by decide, by decide, by decide +kernel⟩
theorem lk_Wr_65 : ev_LV R_Wr 65 M_Wr_putHeader 2 := ⟨md_Wr_putHeader, m_530, m_531, m_17, m_68, by decide, by decide, by decide +kernel⟩
theorem lk_Wr_78 : ev_LV R_Wr 78 M_Wr_fillCheck 1 := ⟨md_Wr_fillCheck, m_534, m_535, m_18, m_68, by decide, by decide, by decide +kernel⟩
theorem lk_Wr_88 : ev_LV R_Wr 88 M_Ro_putNumber 2 := ⟨md_Ro_putNumber, m_485, m_168, m_169, m_64, by decide, by decide, by decide +kernel⟩
theorem lk_Wr_92 : ev_LV R_Wr 92 M_Ro_put 1 := ⟨md_Ro_put, m_490, m_172, m_173, m_64, by decide, by decide, by decide +kernel⟩
theorem lk_Wr_95 : ev_LV R_Wr 95 M_Ro_putVint 2 := ⟨md_Ro_putVint, m_497, m_498, m_499, m_64, by decide, by decide, by decide +kernel⟩
theorem lk_Wr_108 : ev_LS R_Wr 108 M_Wr_putText 2 := ⟨md_Wr_putText, m_486, m_487, m_68, by decide, by decide, by decide +kernel⟩
theorem lk_Wr_111 : ev_LS R_Wr 111 M_Wr_putBlockHead 2 := ⟨md_Wr_putBlockHead, m_491, m_492, m_68, by decide, by decide, by decide +kernel⟩
theorem lk_Wr_114 : ev_LS R_Wr 114 M_Wr_putSizes 2 := ⟨md_Wr_putSizes, m_502, m_503, m_68, by decide, by decide, by decide +kernel⟩
theorem lk_Wr_117 : ev_LV R_Wr 117 M_Wr_putStored 2 := ⟨md_Wr_putStored, m_514, m_515, m_16, m_68, by decide, by decide, by decide +kernel⟩
theorem lk_Wr_120 : ev_LS R_Wr 120 M_Wr_putZeros 2 := ⟨md_Wr_putZeros, m_518, m_519, m_68, by decide, by decide, by decide +kernel⟩
theorem lk_Wr_123 : ev_LV R_Wr 123 M_El_partAt 1 := ⟨md_El_partAt, m_489, m_455, m_456, m_73, by decide, by decide, by decide +kernel⟩
theorem lk_Wr_133 : ev_LV R_Wr 133 M_Tr_storedAt 1 := ⟨md_Tr_storedAt, m_517, m_459, m_460, m_66, by decide, by decide, by decide +kernel⟩
theorem lk_Wr_149 : ev_LS R_Wr 149 M_Wr_putSizeOfBytes 2 := ⟨md_Wr_putSizeOfBytes, m_505, m_506, m_68, by decide, by decide, by decide +kernel⟩
theorem lk_Wr_153 : ev_LS R_Wr 153 M_Wr_shortestDifferenceLength 1 := ⟨md_Wr_shortestDifferenceLength, m_508, m_509, m_68, by decide, by decide, by decide +kernel⟩
theorem lk_Wr_156 : ev_LSN R_Wr 156 "ElementFiles" M_EF_surplus 1 := ⟨md_EF_surplus, by decide +kernel, m_348, m_63, by decide, by decide, by decide +kernel⟩
theorem lk_Wr_160 : ev_LS R_Wr 160 M_Ma_abs 1 := ⟨md_Ma_abs, m_511, m_512, m_74, by decide, by decide, by decide +kernel⟩
theorem lk_Wr_165 : ev_LV R_Wr 165 M_Ro_sum 2 := ⟨md_Ro_sum, m_537, m_365, m_366, m_64, by decide, by decide, by decide +kernel⟩
theorem lk_Wr_169 : ev_LV R_Wr 169 M_Ro_change 2 := ⟨md_Ro_change, m_538, m_539, m_540, m_64, by decide, by decide, by decide +kernel⟩
theorem ol_Fi_3 : Cond.methodLink R_Fi 3 Lib.objectInit ∈ ev_tbl := m_154
theorem lk_Fi_15 : ev_LV R_Fi 15 M_Fi_countKeyBlocks 1 := ⟨md_Fi_countKeyBlocks, m_554, m_555, m_20, m_69, by decide, by decide, by decide +kernel⟩
theorem lk_Fi_31 : ev_LV R_Fi 31 M_Tr_weigh 2 := ⟨md_Tr_weigh, m_560, m_561, m_562, m_66, by decide, by decide, by decide +kernel⟩
theorem lk_Fi_35 : ev_LV R_Fi 35 M_Tr_takeOut 2 := ⟨md_Tr_takeOut, m_564, m_565, m_566, m_66, by decide, by decide, by decide +kernel⟩
theorem lk_Fi_39 : ev_LV R_Fi 39 M_Tr_endOf 1 := ⟨md_Tr_endOf, m_557, m_225, m_226, m_66, by decide, by decide, by decide +kernel⟩
theorem lk_Fi_61 : ev_LV R_Fi 61 M_Fi_addCue 3 := ⟨md_Fi_addCue, m_568, m_569, m_21, m_69, by decide, by decide, by decide +kernel⟩
theorem lk_Fi_68 : ev_LV R_Fi 68 M_Tr_add 3 := ⟨md_Tr_add, m_571, m_240, m_241, m_66, by decide, by decide, by decide +kernel⟩
theorem lk_Fi_75 : ev_LV R_Fi 75 M_Fi_momentOf 1 := ⟨md_Fi_momentOf, m_573, m_574, m_22, m_69, by decide, by decide, by decide +kernel⟩
theorem lk_Fi_79 : ev_LV R_Fi 79 M_Fi_addNumber 3 := ⟨md_Fi_addNumber, m_580, m_581, m_24, m_69, by decide, by decide, by decide +kernel⟩
theorem lk_Fi_106 : ev_LV R_Fi 106 M_Fi_firstNumber 2 := ⟨md_Fi_firstNumber, m_577, m_578, m_23, m_69, by decide, by decide, by decide +kernel⟩
theorem lk_Fi_110 : ev_LV R_Fi 110 M_Fi_blockWithBefore 2 := ⟨md_Fi_blockWithBefore, m_601, m_602, m_25, m_69, by decide, by decide, by decide +kernel⟩
theorem ol_Mo_1 : Cond.methodLink R_Mo 1 Lib.objectInit ∈ ev_tbl := m_609
theorem lk_Mo_82 : ev_LS R_Mo 82 M_Mo_kindOf 1 := ⟨md_Mo_kindOf, m_684, m_685, m_70, by decide, by decide, by decide +kernel⟩
theorem lk_Mo_89 : ev_LV R_Mo 89 M_Mo_isElement 1 := ⟨md_Mo_isElement, m_734, m_735, m_40, m_70, by decide, by decide, by decide +kernel⟩
theorem lk_Mo_93 : ev_LV R_Mo 93 M_Mo_isIn 2 := ⟨md_Mo_isIn, m_744, m_745, m_43, m_70, by decide, by decide, by decide +kernel⟩
theorem lk_Mo_97 : ev_LV R_Mo 97 M_Mo_behind 1 := ⟨md_Mo_behind, m_741, m_742, m_42, m_70, by decide, by decide, by decide +kernel⟩
theorem lk_Mo_100 : ev_LV R_Mo 100 M_Mo_move 2 := ⟨md_Mo_move, m_747, m_748, m_44, m_70, by decide, by decide, by decide +kernel⟩
theorem lk_Mo_118 : ev_LS R_Mo 118 M_Mo_widthOf 1 := ⟨md_Mo_widthOf, m_672, m_673, m_70, by decide, by decide, by decide +kernel⟩
theorem lk_Mo_136 : ev_LS R_Mo 136 M_Mo_crcStep 2 := ⟨md_Mo_crcStep, m_722, m_723, m_70, by decide, by decide, by decide +kernel⟩
theorem lk_Mo_140 : ev_LV R_Mo 140 M_Mo_readVint 1 := ⟨md_Mo_readVint, m_693, m_694, m_31, m_70, by decide, by decide, by decide +kernel⟩
theorem lk_Mo_145 : ev_LV R_Mo 145 M_Mo_readSize 4 := ⟨md_Mo_readSize, m_712, m_713, m_37, m_70, by decide, by decide, by decide +kernel⟩
theorem lk_Mo_151 : ev_LV R_Mo 151 M_Mo_readSizes 3 := ⟨md_Mo_readSizes, m_709, m_710, m_36, m_70, by decide, by decide, by decide +kernel⟩
theorem lk_Mo_155 : ev_LV R_Mo 155 M_Mo_keep 1 := ⟨md_Mo_keep, m_716, m_717, m_38, m_70, by decide, by decide, by decide +kernel⟩
theorem lk_Mo_159 : ev_LV R_Mo 159 M_Mo_readNumber 1 := ⟨md_Mo_readNumber, m_699, m_700, m_33, m_70, by decide, by decide, by decide +kernel⟩
theorem lk_Mo_162 : ev_LV R_Mo 162 M_Mo_readText 1 := ⟨md_Mo_readText, m_702, m_703, m_34, m_70, by decide, by decide, by decide +kernel⟩
theorem lk_Mo_165 : ev_LV R_Mo 165 M_Mo_readBlock 1 := ⟨md_Mo_readBlock, m_705, m_706, m_35, m_70, by decide, by decide, by decide +kernel⟩
theorem lk_Mo_168 : ev_LV R_Mo 168 M_Mo_readSum 2 := ⟨md_Mo_readSum, m_719, m_720, m_39, m_70, by decide, by decide, by decide +kernel⟩
theorem lk_Mo_171 : ev_LV R_Mo 171 M_Mo_readId 1 := ⟨md_Mo_readId, m_669, m_670, m_27, m_70, by decide, by decide, by decide +kernel⟩
theorem lk_Mo_174 : ev_LV R_Mo 174 M_Mo_masterId 0 := ⟨md_Mo_masterId, m_675, m_676, m_28, m_70, by decide, by decide, by decide +kernel⟩
theorem lk_Mo_178 : ev_LS R_Mo 178 M_Mo_stands 2 := ⟨md_Mo_stands, m_678, m_679, m_70, by decide, by decide, by decide +kernel⟩
theorem lk_Mo_181 : ev_LV R_Mo 181 M_Mo_children 1 := ⟨md_Mo_children, m_687, m_688, m_29, m_70, by decide, by decide, by decide +kernel⟩
theorem lk_Mo_184 : ev_LV R_Mo 184 M_Mo_readSizeOf 1 := ⟨md_Mo_readSizeOf, m_690, m_691, m_30, m_70, by decide, by decide, by decide +kernel⟩
theorem lk_Mo_187 : ev_LV R_Mo 187 M_Mo_readData 2 := ⟨md_Mo_readData, m_696, m_697, m_32, m_70, by decide, by decide, by decide +kernel⟩
theorem lk_Mo_190 : ev_LV R_Mo 190 M_Mo_readElement 0 := ⟨md_Mo_readElement, m_666, m_667, m_26, m_70, by decide, by decide, by decide +kernel⟩
theorem lk_Mo_195 : ev_LV R_Mo 195 M_Mo_insert 3 := ⟨md_Mo_insert, m_738, m_739, m_41, m_70, by decide, by decide, by decide +kernel⟩
theorem lk_Mo_199 : ev_LV R_Mo 199 M_Mo_isKind 2 := ⟨md_Mo_isKind, m_754, m_755, m_45, m_70, by decide, by decide, by decide +kernel⟩
theorem lk_Mo_208 : ev_LV R_Mo 208 M_Mo_is 2 := ⟨md_Mo_is, m_765, m_766, m_46, m_70, by decide, by decide, by decide +kernel⟩
theorem lk_Mo_211 : ev_LV R_Mo 211 M_Mo_evenHands 0 := ⟨md_Mo_evenHands, m_768, m_769, m_47, m_70, by decide, by decide, by decide +kernel⟩
theorem lk_Mo_217 : ev_LV R_Mo 217 M_Mo_child 2 := ⟨md_Mo_child, m_788, m_789, m_48, m_70, by decide, by decide, by decide +kernel⟩
theorem lk_Mo_223 : ev_LS R_Mo 223 M_Mo_widthFor 1 := ⟨md_Mo_widthFor, m_813, m_814, m_70, by decide, by decide, by decide +kernel⟩
theorem lk_Mo_227 : ev_LS R_Mo 227 M_Mo_widthForStep 1 := ⟨md_Mo_widthForStep, m_816, m_817, m_70, by decide, by decide, by decide +kernel⟩
theorem lk_Mo_230 : ev_LS R_Mo 230 M_Mo_numberBytes 1 := ⟨md_Mo_numberBytes, m_807, m_808, m_70, by decide, by decide, by decide +kernel⟩
theorem lk_Mo_233 : ev_LV R_Mo 233 M_Mo_blockBytes 1 := ⟨md_Mo_blockBytes, m_810, m_811, m_50, m_70, by decide, by decide, by decide +kernel⟩
theorem lk_Mo_236 : ev_LS R_Mo 236 M_Mo_idWidth 1 := ⟨md_Mo_idWidth, m_819, m_820, m_70, by decide, by decide, by decide +kernel⟩
theorem lk_Mo_239 : ev_LV R_Mo 239 M_Mo_isLive 2 := ⟨md_Mo_isLive, m_824, m_825, m_51, m_70, by decide, by decide, by decide +kernel⟩
theorem lk_Mo_243 : ev_LV R_Mo 243 M_Mo_put 1 := ⟨md_Mo_put, m_830, m_831, m_53, m_70, by decide, by decide, by decide +kernel⟩
theorem lk_Mo_246 : ev_LV R_Mo 246 M_Mo_putBytes 2 := ⟨md_Mo_putBytes, m_827, m_828, m_52, m_70, by decide, by decide, by decide +kernel⟩
theorem lk_Mo_250 : ev_LV R_Mo 250 M_Mo_putVint 2 := ⟨md_Mo_putVint, m_833, m_834, m_54, m_70, by decide, by decide, by decide +kernel⟩
theorem lk_Mo_253 : ev_LV R_Mo 253 M_Mo_putBlock 1 := ⟨md_Mo_putBlock, m_839, m_840, m_56, m_70, by decide, by decide, by decide +kernel⟩
theorem lk_Mo_256 : ev_LV R_Mo 256 M_Mo_measure 1 := ⟨md_Mo_measure, m_804, m_805, m_49, m_70, by decide, by decide, by decide +kernel⟩
theorem lk_Mo_260 : ev_LV R_Mo 260 M_Mo_putData 1 := ⟨md_Mo_putData, m_836, m_837, m_55, m_70, by decide, by decide, by decide +kernel⟩
theorem lk_Mo_263 : ev_LV R_Mo 263 M_Mo_fillSum 1 := ⟨md_Mo_fillSum, m_842, m_843, m_57, m_70, by decide, by decide, by decide +kernel⟩
theorem lk_Mo_266 : ev_LV R_Mo 266 M_Mo_first 2 := ⟨md_Mo_first, m_858, m_859, m_61, m_70, by decide, by decide, by decide +kernel⟩
theorem lk_Mo_270 : ev_LV R_Mo 270 M_Mo_isBlockOf 2 := ⟨md_Mo_isBlockOf, m_849, m_850, m_58, m_70, by decide, by decide, by decide +kernel⟩
theorem lk_Mo_273 : ev_LV R_Mo 273 M_Mo_remove 1 := ⟨md_Mo_remove, m_852, m_853, m_59, m_70, by decide, by decide, by decide +kernel⟩
theorem lk_Mo_276 : ev_LV R_Mo 276 M_Mo_moment 1 := ⟨md_Mo_moment, m_855, m_856, m_60, m_70, by decide, by decide, by decide +kernel⟩
theorem lk_La_9 : ev_LI R_La 9 M_EF_init 0 := ⟨md_EF_init, rfl, m_77, m_78, m_63, rfl, by decide, by decide, by decide +kernel⟩
theorem lk_La_12 : ev_LI R_La 12 M_Mo_init 0 := ⟨md_Mo_init, rfl, m_606, m_607, m_70, rfl, by decide, by decide, by decide +kernel⟩
theorem lk_La_15 : ev_LV R_La 15 M_EF_feed 2 := ⟨md_EF_feed, m_163, m_164, m_165, m_63, by decide, by decide, by decide +kernel⟩
theorem lk_La_19 : ev_LV R_La 19 M_Mo_feed 2 := ⟨md_Mo_feed, m_649, m_650, m_651, m_70, by decide, by decide, by decide +kernel⟩
theorem lk_La_20 : ev_LV R_La 20 M_EF_take 1 := ⟨md_EF_take, m_175, m_176, m_177, m_63, by decide, by decide, by decide +kernel⟩
theorem lk_La_24 : ev_LV R_La 24 M_Mo_take 1 := ⟨md_Mo_take, m_654, m_655, m_656, m_70, by decide, by decide, by decide +kernel⟩
theorem lk_La_25 : ev_LV R_La 25 M_EF_out 1 := ⟨md_EF_out, m_184, m_185, m_186, m_63, by decide, by decide, by decide +kernel⟩
theorem lk_La_29 : ev_LV R_La 29 M_Mo_out 1 := ⟨md_Mo_out, m_658, m_659, m_660, m_70, by decide, by decide, by decide +kernel⟩
theorem lk_La_30 : ev_LV R_La 30 M_EF_read 0 := ⟨md_EF_read, m_188, m_189, m_190, m_63, by decide, by decide, by decide +kernel⟩
theorem lk_La_34 : ev_LV R_La 34 M_Mo_read 0 := ⟨md_Mo_read, m_662, m_663, m_664, m_70, by decide, by decide, by decide +kernel⟩
theorem lk_La_35 : ev_LV R_La 35 M_EF_where 0 := ⟨md_EF_where, m_370, m_371, m_372, m_63, by decide, by decide, by decide +kernel⟩
theorem lk_La_38 : ev_LV R_La 38 M_Mo_where 0 := ⟨md_Mo_where, m_726, m_727, m_728, m_70, by decide, by decide, by decide +kernel⟩
theorem lk_La_39 : ev_LV R_La 39 M_EF_clear 0 := ⟨md_EF_clear, m_374, m_375, m_376, m_63, by decide, by decide, by decide +kernel⟩
theorem lk_La_42 : ev_LV R_La 42 M_Mo_clear 0 := ⟨md_Mo_clear, m_645, m_646, m_647, m_70, by decide, by decide, by decide +kernel⟩
theorem lk_La_43 : ev_LV R_La 43 M_EF_make 3 := ⟨md_EF_make, m_379, m_380, m_381, m_63, by decide, by decide, by decide +kernel⟩
theorem lk_La_47 : ev_LV R_La 47 M_Mo_make 3 := ⟨md_Mo_make, m_730, m_731, m_732, m_70, by decide, by decide, by decide +kernel⟩
theorem lk_La_48 : ev_LV R_La 48 M_EF_letter 2 := ⟨md_EF_letter, m_391, m_392, m_393, m_63, by decide, by decide, by decide +kernel⟩
theorem lk_La_52 : ev_LV R_La 52 M_Mo_letter 2 := ⟨md_Mo_letter, m_750, m_751, m_752, m_70, by decide, by decide, by decide +kernel⟩
theorem lk_La_53 : ev_LV R_La 53 M_EF_frame 2 := ⟨md_EF_frame, m_397, m_398, m_399, m_63, by decide, by decide, by decide +kernel⟩
theorem lk_La_57 : ev_LV R_La 57 M_Mo_frame 2 := ⟨md_Mo_frame, m_757, m_758, m_759, m_70, by decide, by decide, by decide +kernel⟩
theorem lk_La_58 : ev_LV R_La 58 M_EF_block 5 := ⟨md_EF_block, m_405, m_406, m_407, m_63, by decide, by decide, by decide +kernel⟩
theorem lk_La_62 : ev_LV R_La 62 M_Mo_block 5 := ⟨md_Mo_block, m_761, m_762, m_763, m_70, by decide, by decide, by decide +kernel⟩
theorem lk_La_63 : ev_LV R_La 63 M_EF_id 1 := ⟨md_EF_id, m_429, m_430, m_431, m_63, by decide, by decide, by decide +kernel⟩
theorem lk_La_66 : ev_LV R_La 66 M_Mo_id 1 := ⟨md_Mo_id, m_771, m_772, m_773, m_70, by decide, by decide, by decide +kernel⟩
theorem lk_La_67 : ev_LV R_La 67 M_EF_parent 1 := ⟨md_EF_parent, m_433, m_434, m_435, m_63, by decide, by decide, by decide +kernel⟩
theorem lk_La_70 : ev_LV R_La 70 M_Mo_parent 1 := ⟨md_Mo_parent, m_775, m_776, m_777, m_70, by decide, by decide, by decide +kernel⟩
theorem lk_La_71 : ev_LV R_La 71 M_EF_value 1 := ⟨md_EF_value, m_437, m_438, m_439, m_63, by decide, by decide, by decide +kernel⟩
theorem lk_La_75 : ev_LV R_La 75 M_Mo_value 1 := ⟨md_Mo_value, m_779, m_780, m_781, m_70, by decide, by decide, by decide +kernel⟩
theorem lk_La_76 : ev_LV R_La 76 M_EF_part 2 := ⟨md_EF_part, m_446, m_447, m_448, m_63, by decide, by decide, by decide +kernel⟩
theorem lk_La_79 : ev_LV R_La 79 M_Mo_part 2 := ⟨md_Mo_part, m_784, m_785, m_786, m_70, by decide, by decide, by decide +kernel⟩
theorem lk_La_80 : ev_LV R_La 80 M_EF_sample 3 := ⟨md_EF_sample, m_462, m_463, m_464, m_63, by decide, by decide, by decide +kernel⟩
theorem lk_La_84 : ev_LV R_La 84 M_Mo_sample 3 := ⟨md_Mo_sample, m_791, m_792, m_793, m_70, by decide, by decide, by decide +kernel⟩
theorem lk_La_85 : ev_LV R_La 85 M_EF_detail 2 := ⟨md_EF_detail, m_466, m_467, m_468, m_63, by decide, by decide, by decide +kernel⟩
theorem lk_La_88 : ev_LV R_La 88 M_Mo_detail 2 := ⟨md_Mo_detail, m_795, m_796, m_797, m_70, by decide, by decide, by decide +kernel⟩
theorem lk_La_89 : ev_LV R_La 89 M_EF_write 1 := ⟨md_EF_write, m_471, m_472, m_473, m_63, by decide, by decide, by decide +kernel⟩
theorem lk_La_92 : ev_LV R_La 92 M_Mo_write 1 := ⟨md_Mo_write, m_800, m_801, m_802, m_70, by decide, by decide, by decide +kernel⟩
theorem lk_La_93 : ev_LV R_La 93 M_EF_index 1 := ⟨md_EF_index, m_542, m_543, m_544, m_63, by decide, by decide, by decide +kernel⟩
theorem lk_La_96 : ev_LV R_La 96 M_Mo_index 1 := ⟨md_Mo_index, m_845, m_846, m_847, m_70, by decide, by decide, by decide +kernel⟩
theorem lk_La_97 : ev_LV R_La 97 M_EF_seek 3 := ⟨md_EF_seek, m_585, m_586, m_587, m_63, by decide, by decide, by decide +kernel⟩
theorem lk_La_100 : ev_LV R_La 100 M_Mo_seek 3 := ⟨md_Mo_seek, m_861, m_862, m_863, m_70, by decide, by decide, by decide +kernel⟩
theorem lk_La_101 : ev_LV R_La 101 M_EF_jump 3 := ⟨md_EF_jump, m_593, m_594, m_595, m_63, by decide, by decide, by decide +kernel⟩
theorem lk_La_104 : ev_LV R_La 104 M_Mo_jump 3 := ⟨md_Mo_jump, m_865, m_866, m_867, m_70, by decide, by decide, by decide +kernel⟩
end
