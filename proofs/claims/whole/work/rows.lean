section
-- ===== PART A: goes FIRST, ahead of the names: the tables' words, and 'selects' of the private methods out of them =====
/-- a private method of a class that the tables say can be made, by its rows of tables_1 -/
def lw_okq (q : MethodName × Nat) : Prop := (q.1.cls ≠ "java/lang/invoke/MethodHandle" ∧ q.1.cls ≠ "java/lang/invoke/VarHandle") ∧ Cond.instantiable q.1.cls q.2 ∈ tables_1 ∧ Cond.privateMethod q.1 ∈ tables_1 ∧ Cond.instanceMethod q.1 ∈ tables_1
theorem lw_p0 : lw_okq (⟨"ElementFiles$Reader", "readTag", "()I"⟩, 9) := ⟨⟨by decide +kernel, by decide +kernel⟩, List.mem_of_getElem? (i := 89) (by decide +kernel), List.mem_of_getElem? (i := 211) (by decide +kernel), List.mem_of_getElem? (i := 212) (by decide +kernel)⟩
theorem lw_p1 : lw_okq (⟨"ElementFiles$Reader", "nextNumber", "(I)J"⟩, 9) := ⟨⟨by decide +kernel, by decide +kernel⟩, List.mem_of_getElem? (i := 89) (by decide +kernel), List.mem_of_getElem? (i := 219) (by decide +kernel), List.mem_of_getElem? (i := 220) (by decide +kernel)⟩
theorem lw_p2 : lw_okq (⟨"ElementFiles$Reader", "readSize", "()I"⟩, 9) := ⟨⟨by decide +kernel, by decide +kernel⟩, List.mem_of_getElem? (i := 89) (by decide +kernel), List.mem_of_getElem? (i := 245) (by decide +kernel), List.mem_of_getElem? (i := 246) (by decide +kernel)⟩
theorem lw_p3 : lw_okq (⟨"ElementFiles$Reader", "nextVint", "()J"⟩, 9) := ⟨⟨by decide +kernel, by decide +kernel⟩, List.mem_of_getElem? (i := 89) (by decide +kernel), List.mem_of_getElem? (i := 249) (by decide +kernel), List.mem_of_getElem? (i := 250) (by decide +kernel)⟩
theorem lw_p4 : lw_okq (⟨"ElementFiles$Tree", "putInLine", "(ILElementFiles$Element;)V"⟩, 5) := ⟨⟨by decide +kernel, by decide +kernel⟩, List.mem_of_getElem? (i := 60) (by decide +kernel), List.mem_of_getElem? (i := 360) (by decide +kernel), List.mem_of_getElem? (i := 361) (by decide +kernel)⟩
theorem lw_p5 : lw_okq (⟨"ElementFiles$Reader", "readData", "()I"⟩, 9) := ⟨⟨by decide +kernel, by decide +kernel⟩, List.mem_of_getElem? (i := 89) (by decide +kernel), List.mem_of_getElem? (i := 368) (by decide +kernel), List.mem_of_getElem? (i := 369) (by decide +kernel)⟩
theorem lw_p6 : lw_okq (⟨"ElementFiles$Reader", "readText", "(LElementFiles$Element;)Z"⟩, 9) := ⟨⟨by decide +kernel, by decide +kernel⟩, List.mem_of_getElem? (i := 89) (by decide +kernel), List.mem_of_getElem? (i := 379) (by decide +kernel), List.mem_of_getElem? (i := 380) (by decide +kernel)⟩
theorem lw_p7 : lw_okq (⟨"ElementFiles$Reader", "readBlockHead", "(LElementFiles$Element;)I"⟩, 9) := ⟨⟨by decide +kernel, by decide +kernel⟩, List.mem_of_getElem? (i := 89) (by decide +kernel), List.mem_of_getElem? (i := 390) (by decide +kernel), List.mem_of_getElem? (i := 391) (by decide +kernel)⟩
theorem lw_p8 : lw_okq (⟨"ElementFiles$Reader", "nextByte", "()I"⟩, 9) := ⟨⟨by decide +kernel, by decide +kernel⟩, List.mem_of_getElem? (i := 89) (by decide +kernel), List.mem_of_getElem? (i := 395) (by decide +kernel), List.mem_of_getElem? (i := 396) (by decide +kernel)⟩
theorem lw_p9 : lw_okq (⟨"ElementFiles$Reader", "readSizes", "(LElementFiles$Element;I)Z"⟩, 9) := ⟨⟨by decide +kernel, by decide +kernel⟩, List.mem_of_getElem? (i := 89) (by decide +kernel), List.mem_of_getElem? (i := 403) (by decide +kernel), List.mem_of_getElem? (i := 404) (by decide +kernel)⟩
theorem lw_p10 : lw_okq (⟨"ElementFiles$Reader", "shareEvenly", "(LElementFiles$Element;I)Z"⟩, 9) := ⟨⟨by decide +kernel, by decide +kernel⟩, List.mem_of_getElem? (i := 89) (by decide +kernel), List.mem_of_getElem? (i := 407) (by decide +kernel), List.mem_of_getElem? (i := 408) (by decide +kernel)⟩
theorem lw_p11 : lw_okq (⟨"ElementFiles$Reader", "nextSizeOfBytes", "()J"⟩, 9) := ⟨⟨by decide +kernel, by decide +kernel⟩, List.mem_of_getElem? (i := 89) (by decide +kernel), List.mem_of_getElem? (i := 411) (by decide +kernel), List.mem_of_getElem? (i := 412) (by decide +kernel)⟩
theorem lw_p12 : lw_okq (⟨"ElementFiles$Reader", "storeRest", "(LElementFiles$Element;)V"⟩, 9) := ⟨⟨by decide +kernel, by decide +kernel⟩, List.mem_of_getElem? (i := 89) (by decide +kernel), List.mem_of_getElem? (i := 418) (by decide +kernel), List.mem_of_getElem? (i := 419) (by decide +kernel)⟩
theorem lw_p13 : lw_okq (⟨"ElementFiles$Reader", "readCheck", "(LElementFiles$Element;)Z"⟩, 9) := ⟨⟨by decide +kernel, by decide +kernel⟩, List.mem_of_getElem? (i := 89) (by decide +kernel), List.mem_of_getElem? (i := 430) (by decide +kernel), List.mem_of_getElem? (i := 431) (by decide +kernel)⟩
theorem lw_p14 : lw_okq (⟨"ElementFiles$Frames", "areEven", "()Z"⟩, 4) := ⟨⟨by decide +kernel, by decide +kernel⟩, List.mem_of_getElem? (i := 39) (by decide +kernel), List.mem_of_getElem? (i := 486) (by decide +kernel), List.mem_of_getElem? (i := 487) (by decide +kernel)⟩
theorem lw_p15 : lw_okq (⟨"ElementFiles$Writer", "putLeaf", "(LElementFiles$Element;LElementFiles$Row;)V"⟩, 3) := ⟨⟨by decide +kernel, by decide +kernel⟩, List.mem_of_getElem? (i := 124) (by decide +kernel), List.mem_of_getElem? (i := 552) (by decide +kernel), List.mem_of_getElem? (i := 553) (by decide +kernel)⟩
def lw_privs_1 : List (MethodName × Nat) := [(⟨"ElementFiles$Reader", "readTag", "()I"⟩, 9), (⟨"ElementFiles$Reader", "nextNumber", "(I)J"⟩, 9), (⟨"ElementFiles$Reader", "readSize", "()I"⟩, 9), (⟨"ElementFiles$Reader", "nextVint", "()J"⟩, 9), (⟨"ElementFiles$Tree", "putInLine", "(ILElementFiles$Element;)V"⟩, 5), (⟨"ElementFiles$Reader", "readData", "()I"⟩, 9), (⟨"ElementFiles$Reader", "readText", "(LElementFiles$Element;)Z"⟩, 9), (⟨"ElementFiles$Reader", "readBlockHead", "(LElementFiles$Element;)I"⟩, 9), (⟨"ElementFiles$Reader", "nextByte", "()I"⟩, 9), (⟨"ElementFiles$Reader", "readSizes", "(LElementFiles$Element;I)Z"⟩, 9), (⟨"ElementFiles$Reader", "shareEvenly", "(LElementFiles$Element;I)Z"⟩, 9), (⟨"ElementFiles$Reader", "nextSizeOfBytes", "()J"⟩, 9), (⟨"ElementFiles$Reader", "storeRest", "(LElementFiles$Element;)V"⟩, 9), (⟨"ElementFiles$Reader", "readCheck", "(LElementFiles$Element;)Z"⟩, 9), (⟨"ElementFiles$Frames", "areEven", "()Z"⟩, 4), (⟨"ElementFiles$Writer", "putLeaf", "(LElementFiles$Element;LElementFiles$Row;)V"⟩, 3)]
theorem lw_r1 : ∀ q ∈ lw_privs_1, lw_okq q := List.forall_mem_cons.mpr ⟨lw_p0, List.forall_mem_cons.mpr ⟨lw_p1, List.forall_mem_cons.mpr ⟨lw_p2, List.forall_mem_cons.mpr ⟨lw_p3, List.forall_mem_cons.mpr ⟨lw_p4, List.forall_mem_cons.mpr ⟨lw_p5, List.forall_mem_cons.mpr ⟨lw_p6, List.forall_mem_cons.mpr ⟨lw_p7, List.forall_mem_cons.mpr ⟨lw_p8, List.forall_mem_cons.mpr ⟨lw_p9, List.forall_mem_cons.mpr ⟨lw_p10, List.forall_mem_cons.mpr ⟨lw_p11, List.forall_mem_cons.mpr ⟨lw_p12, List.forall_mem_cons.mpr ⟨lw_p13, List.forall_mem_cons.mpr ⟨lw_p14, List.forall_mem_cons.mpr ⟨lw_p15, fun _ h => absurd h List.not_mem_nil⟩⟩⟩⟩⟩⟩⟩⟩⟩⟩⟩⟩⟩⟩⟩⟩
theorem lw_p16 : lw_okq (⟨"ElementFiles$Writer", "putStored", "(LElementFiles$Element;LElementFiles$Row;)V"⟩, 3) := ⟨⟨by decide +kernel, by decide +kernel⟩, List.mem_of_getElem? (i := 124) (by decide +kernel), List.mem_of_getElem? (i := 591) (by decide +kernel), List.mem_of_getElem? (i := 592) (by decide +kernel)⟩
theorem lw_p17 : lw_okq (⟨"ElementFiles$Writer", "putHeader", "(LElementFiles$Element;Z)V"⟩, 3) := ⟨⟨by decide +kernel, by decide +kernel⟩, List.mem_of_getElem? (i := 124) (by decide +kernel), List.mem_of_getElem? (i := 608) (by decide +kernel), List.mem_of_getElem? (i := 609) (by decide +kernel)⟩
theorem lw_p18 : lw_okq (⟨"ElementFiles$Writer", "fillCheck", "(LElementFiles$Element;)V"⟩, 3) := ⟨⟨by decide +kernel, by decide +kernel⟩, List.mem_of_getElem? (i := 124) (by decide +kernel), List.mem_of_getElem? (i := 613) (by decide +kernel), List.mem_of_getElem? (i := 614) (by decide +kernel)⟩
theorem lw_p19 : lw_okq (⟨"ElementFiles", "segmentAt", "(I)LElementFiles$Element;"⟩, 7) := ⟨⟨by decide +kernel, by decide +kernel⟩, List.mem_of_getElem? (i := 14) (by decide +kernel), List.mem_of_getElem? (i := 626) (by decide +kernel), List.mem_of_getElem? (i := 627) (by decide +kernel)⟩
theorem lw_p20 : lw_okq (⟨"ElementFiles$Finder", "countKeyBlocks", "(LElementFiles$Element;)I"⟩, 1) := ⟨⟨by decide +kernel, by decide +kernel⟩, List.mem_of_getElem? (i := 142) (by decide +kernel), List.mem_of_getElem? (i := 635) (by decide +kernel), List.mem_of_getElem? (i := 636) (by decide +kernel)⟩
theorem lw_p21 : lw_okq (⟨"ElementFiles$Finder", "addCue", "(LElementFiles$Element;LElementFiles$Element;I)V"⟩, 1) := ⟨⟨by decide +kernel, by decide +kernel⟩, List.mem_of_getElem? (i := 142) (by decide +kernel), List.mem_of_getElem? (i := 651) (by decide +kernel), List.mem_of_getElem? (i := 652) (by decide +kernel)⟩
theorem lw_p22 : lw_okq (⟨"ElementFiles$Finder", "momentOf", "(LElementFiles$Element;)J"⟩, 1) := ⟨⟨by decide +kernel, by decide +kernel⟩, List.mem_of_getElem? (i := 142) (by decide +kernel), List.mem_of_getElem? (i := 658) (by decide +kernel), List.mem_of_getElem? (i := 659) (by decide +kernel)⟩
theorem lw_p23 : lw_okq (⟨"ElementFiles$Finder", "firstNumber", "(LElementFiles$Element;LElementFiles$Sort;)J"⟩, 1) := ⟨⟨by decide +kernel, by decide +kernel⟩, List.mem_of_getElem? (i := 142) (by decide +kernel), List.mem_of_getElem? (i := 664) (by decide +kernel), List.mem_of_getElem? (i := 665) (by decide +kernel)⟩
theorem lw_p24 : lw_okq (⟨"ElementFiles$Finder", "addNumber", "(LElementFiles$Element;LElementFiles$Sort;J)V"⟩, 1) := ⟨⟨by decide +kernel, by decide +kernel⟩, List.mem_of_getElem? (i := 142) (by decide +kernel), List.mem_of_getElem? (i := 668) (by decide +kernel), List.mem_of_getElem? (i := 669) (by decide +kernel)⟩
theorem lw_p25 : lw_okq (⟨"ElementFiles$Finder", "blockWithBefore", "(LElementFiles$Element;J)I"⟩, 1) := ⟨⟨by decide +kernel, by decide +kernel⟩, List.mem_of_getElem? (i := 142) (by decide +kernel), List.mem_of_getElem? (i := 692) (by decide +kernel), List.mem_of_getElem? (i := 693) (by decide +kernel)⟩
theorem lw_p26 : lw_okq (⟨"ElementFilesModel", "readElement", "()I"⟩, 33) := ⟨⟨by decide +kernel, by decide +kernel⟩, List.mem_of_getElem? (i := 696) (by decide +kernel), List.mem_of_getElem? (i := 825) (by decide +kernel), List.mem_of_getElem? (i := 826) (by decide +kernel)⟩
theorem lw_p27 : lw_okq (⟨"ElementFilesModel", "readId", "(I)I"⟩, 33) := ⟨⟨by decide +kernel, by decide +kernel⟩, List.mem_of_getElem? (i := 696) (by decide +kernel), List.mem_of_getElem? (i := 829) (by decide +kernel), List.mem_of_getElem? (i := 830) (by decide +kernel)⟩
theorem lw_p28 : lw_okq (⟨"ElementFilesModel", "masterId", "()I"⟩, 33) := ⟨⟨by decide +kernel, by decide +kernel⟩, List.mem_of_getElem? (i := 696) (by decide +kernel), List.mem_of_getElem? (i := 836) (by decide +kernel), List.mem_of_getElem? (i := 837) (by decide +kernel)⟩
theorem lw_p29 : lw_okq (⟨"ElementFilesModel", "children", "(I)I"⟩, 33) := ⟨⟨by decide +kernel, by decide +kernel⟩, List.mem_of_getElem? (i := 696) (by decide +kernel), List.mem_of_getElem? (i := 849) (by decide +kernel), List.mem_of_getElem? (i := 850) (by decide +kernel)⟩
theorem lw_p30 : lw_okq (⟨"ElementFilesModel", "readSizeOf", "(I)I"⟩, 33) := ⟨⟨by decide +kernel, by decide +kernel⟩, List.mem_of_getElem? (i := 696) (by decide +kernel), List.mem_of_getElem? (i := 853) (by decide +kernel), List.mem_of_getElem? (i := 854) (by decide +kernel)⟩
theorem lw_p31 : lw_okq (⟨"ElementFilesModel", "readVint", "(I)I"⟩, 33) := ⟨⟨by decide +kernel, by decide +kernel⟩, List.mem_of_getElem? (i := 696) (by decide +kernel), List.mem_of_getElem? (i := 857) (by decide +kernel), List.mem_of_getElem? (i := 858) (by decide +kernel)⟩
def lw_privs_2 : List (MethodName × Nat) := [(⟨"ElementFiles$Writer", "putStored", "(LElementFiles$Element;LElementFiles$Row;)V"⟩, 3), (⟨"ElementFiles$Writer", "putHeader", "(LElementFiles$Element;Z)V"⟩, 3), (⟨"ElementFiles$Writer", "fillCheck", "(LElementFiles$Element;)V"⟩, 3), (⟨"ElementFiles", "segmentAt", "(I)LElementFiles$Element;"⟩, 7), (⟨"ElementFiles$Finder", "countKeyBlocks", "(LElementFiles$Element;)I"⟩, 1), (⟨"ElementFiles$Finder", "addCue", "(LElementFiles$Element;LElementFiles$Element;I)V"⟩, 1), (⟨"ElementFiles$Finder", "momentOf", "(LElementFiles$Element;)J"⟩, 1), (⟨"ElementFiles$Finder", "firstNumber", "(LElementFiles$Element;LElementFiles$Sort;)J"⟩, 1), (⟨"ElementFiles$Finder", "addNumber", "(LElementFiles$Element;LElementFiles$Sort;J)V"⟩, 1), (⟨"ElementFiles$Finder", "blockWithBefore", "(LElementFiles$Element;J)I"⟩, 1), (⟨"ElementFilesModel", "readElement", "()I"⟩, 33), (⟨"ElementFilesModel", "readId", "(I)I"⟩, 33), (⟨"ElementFilesModel", "masterId", "()I"⟩, 33), (⟨"ElementFilesModel", "children", "(I)I"⟩, 33), (⟨"ElementFilesModel", "readSizeOf", "(I)I"⟩, 33), (⟨"ElementFilesModel", "readVint", "(I)I"⟩, 33)]
theorem lw_r2 : ∀ q ∈ lw_privs_2, lw_okq q := List.forall_mem_cons.mpr ⟨lw_p16, List.forall_mem_cons.mpr ⟨lw_p17, List.forall_mem_cons.mpr ⟨lw_p18, List.forall_mem_cons.mpr ⟨lw_p19, List.forall_mem_cons.mpr ⟨lw_p20, List.forall_mem_cons.mpr ⟨lw_p21, List.forall_mem_cons.mpr ⟨lw_p22, List.forall_mem_cons.mpr ⟨lw_p23, List.forall_mem_cons.mpr ⟨lw_p24, List.forall_mem_cons.mpr ⟨lw_p25, List.forall_mem_cons.mpr ⟨lw_p26, List.forall_mem_cons.mpr ⟨lw_p27, List.forall_mem_cons.mpr ⟨lw_p28, List.forall_mem_cons.mpr ⟨lw_p29, List.forall_mem_cons.mpr ⟨lw_p30, List.forall_mem_cons.mpr ⟨lw_p31, fun _ h => absurd h List.not_mem_nil⟩⟩⟩⟩⟩⟩⟩⟩⟩⟩⟩⟩⟩⟩⟩⟩
theorem lw_p32 : lw_okq (⟨"ElementFilesModel", "readData", "(II)Z"⟩, 33) := ⟨⟨by decide +kernel, by decide +kernel⟩, List.mem_of_getElem? (i := 696) (by decide +kernel), List.mem_of_getElem? (i := 861) (by decide +kernel), List.mem_of_getElem? (i := 862) (by decide +kernel)⟩
theorem lw_p33 : lw_okq (⟨"ElementFilesModel", "readNumber", "(I)Z"⟩, 33) := ⟨⟨by decide +kernel, by decide +kernel⟩, List.mem_of_getElem? (i := 696) (by decide +kernel), List.mem_of_getElem? (i := 865) (by decide +kernel), List.mem_of_getElem? (i := 866) (by decide +kernel)⟩
theorem lw_p34 : lw_okq (⟨"ElementFilesModel", "readText", "(I)Z"⟩, 33) := ⟨⟨by decide +kernel, by decide +kernel⟩, List.mem_of_getElem? (i := 696) (by decide +kernel), List.mem_of_getElem? (i := 869) (by decide +kernel), List.mem_of_getElem? (i := 870) (by decide +kernel)⟩
theorem lw_p35 : lw_okq (⟨"ElementFilesModel", "readBlock", "(I)Z"⟩, 33) := ⟨⟨by decide +kernel, by decide +kernel⟩, List.mem_of_getElem? (i := 696) (by decide +kernel), List.mem_of_getElem? (i := 873) (by decide +kernel), List.mem_of_getElem? (i := 874) (by decide +kernel)⟩
theorem lw_p36 : lw_okq (⟨"ElementFilesModel", "readSizes", "(III)Z"⟩, 33) := ⟨⟨by decide +kernel, by decide +kernel⟩, List.mem_of_getElem? (i := 696) (by decide +kernel), List.mem_of_getElem? (i := 878) (by decide +kernel), List.mem_of_getElem? (i := 879) (by decide +kernel)⟩
theorem lw_p37 : lw_okq (⟨"ElementFilesModel", "readSize", "(IIII)I"⟩, 33) := ⟨⟨by decide +kernel, by decide +kernel⟩, List.mem_of_getElem? (i := 696) (by decide +kernel), List.mem_of_getElem? (i := 882) (by decide +kernel), List.mem_of_getElem? (i := 883) (by decide +kernel)⟩
theorem lw_p38 : lw_okq (⟨"ElementFilesModel", "keep", "(I)V"⟩, 33) := ⟨⟨by decide +kernel, by decide +kernel⟩, List.mem_of_getElem? (i := 696) (by decide +kernel), List.mem_of_getElem? (i := 887) (by decide +kernel), List.mem_of_getElem? (i := 888) (by decide +kernel)⟩
theorem lw_p39 : lw_okq (⟨"ElementFilesModel", "readSum", "(II)Z"⟩, 33) := ⟨⟨by decide +kernel, by decide +kernel⟩, List.mem_of_getElem? (i := 696) (by decide +kernel), List.mem_of_getElem? (i := 891) (by decide +kernel), List.mem_of_getElem? (i := 892) (by decide +kernel)⟩
theorem lw_p40 : lw_okq (⟨"ElementFilesModel", "isElement", "(I)Z"⟩, 33) := ⟨⟨by decide +kernel, by decide +kernel⟩, List.mem_of_getElem? (i := 696) (by decide +kernel), List.mem_of_getElem? (i := 907) (by decide +kernel), List.mem_of_getElem? (i := 908) (by decide +kernel)⟩
theorem lw_p41 : lw_okq (⟨"ElementFilesModel", "insert", "(IIJ)I"⟩, 33) := ⟨⟨by decide +kernel, by decide +kernel⟩, List.mem_of_getElem? (i := 696) (by decide +kernel), List.mem_of_getElem? (i := 912) (by decide +kernel), List.mem_of_getElem? (i := 913) (by decide +kernel)⟩
theorem lw_p42 : lw_okq (⟨"ElementFilesModel", "behind", "(I)I"⟩, 33) := ⟨⟨by decide +kernel, by decide +kernel⟩, List.mem_of_getElem? (i := 696) (by decide +kernel), List.mem_of_getElem? (i := 916) (by decide +kernel), List.mem_of_getElem? (i := 917) (by decide +kernel)⟩
theorem lw_p43 : lw_okq (⟨"ElementFilesModel", "isIn", "(II)Z"⟩, 33) := ⟨⟨by decide +kernel, by decide +kernel⟩, List.mem_of_getElem? (i := 696) (by decide +kernel), List.mem_of_getElem? (i := 920) (by decide +kernel), List.mem_of_getElem? (i := 921) (by decide +kernel)⟩
theorem lw_p44 : lw_okq (⟨"ElementFilesModel", "move", "(II)V"⟩, 33) := ⟨⟨by decide +kernel, by decide +kernel⟩, List.mem_of_getElem? (i := 696) (by decide +kernel), List.mem_of_getElem? (i := 924) (by decide +kernel), List.mem_of_getElem? (i := 925) (by decide +kernel)⟩
theorem lw_p45 : lw_okq (⟨"ElementFilesModel", "isKind", "(II)Z"⟩, 33) := ⟨⟨by decide +kernel, by decide +kernel⟩, List.mem_of_getElem? (i := 696) (by decide +kernel), List.mem_of_getElem? (i := 932) (by decide +kernel), List.mem_of_getElem? (i := 933) (by decide +kernel)⟩
theorem lw_p46 : lw_okq (⟨"ElementFilesModel", "is", "(II)Z"⟩, 33) := ⟨⟨by decide +kernel, by decide +kernel⟩, List.mem_of_getElem? (i := 696) (by decide +kernel), List.mem_of_getElem? (i := 944) (by decide +kernel), List.mem_of_getElem? (i := 945) (by decide +kernel)⟩
theorem lw_p47 : lw_okq (⟨"ElementFilesModel", "evenHands", "()Z"⟩, 33) := ⟨⟨by decide +kernel, by decide +kernel⟩, List.mem_of_getElem? (i := 696) (by decide +kernel), List.mem_of_getElem? (i := 948) (by decide +kernel), List.mem_of_getElem? (i := 949) (by decide +kernel)⟩
def lw_privs_3 : List (MethodName × Nat) := [(⟨"ElementFilesModel", "readData", "(II)Z"⟩, 33), (⟨"ElementFilesModel", "readNumber", "(I)Z"⟩, 33), (⟨"ElementFilesModel", "readText", "(I)Z"⟩, 33), (⟨"ElementFilesModel", "readBlock", "(I)Z"⟩, 33), (⟨"ElementFilesModel", "readSizes", "(III)Z"⟩, 33), (⟨"ElementFilesModel", "readSize", "(IIII)I"⟩, 33), (⟨"ElementFilesModel", "keep", "(I)V"⟩, 33), (⟨"ElementFilesModel", "readSum", "(II)Z"⟩, 33), (⟨"ElementFilesModel", "isElement", "(I)Z"⟩, 33), (⟨"ElementFilesModel", "insert", "(IIJ)I"⟩, 33), (⟨"ElementFilesModel", "behind", "(I)I"⟩, 33), (⟨"ElementFilesModel", "isIn", "(II)Z"⟩, 33), (⟨"ElementFilesModel", "move", "(II)V"⟩, 33), (⟨"ElementFilesModel", "isKind", "(II)Z"⟩, 33), (⟨"ElementFilesModel", "is", "(II)Z"⟩, 33), (⟨"ElementFilesModel", "evenHands", "()Z"⟩, 33)]
theorem lw_r3 : ∀ q ∈ lw_privs_3, lw_okq q := List.forall_mem_cons.mpr ⟨lw_p32, List.forall_mem_cons.mpr ⟨lw_p33, List.forall_mem_cons.mpr ⟨lw_p34, List.forall_mem_cons.mpr ⟨lw_p35, List.forall_mem_cons.mpr ⟨lw_p36, List.forall_mem_cons.mpr ⟨lw_p37, List.forall_mem_cons.mpr ⟨lw_p38, List.forall_mem_cons.mpr ⟨lw_p39, List.forall_mem_cons.mpr ⟨lw_p40, List.forall_mem_cons.mpr ⟨lw_p41, List.forall_mem_cons.mpr ⟨lw_p42, List.forall_mem_cons.mpr ⟨lw_p43, List.forall_mem_cons.mpr ⟨lw_p44, List.forall_mem_cons.mpr ⟨lw_p45, List.forall_mem_cons.mpr ⟨lw_p46, List.forall_mem_cons.mpr ⟨lw_p47, fun _ h => absurd h List.not_mem_nil⟩⟩⟩⟩⟩⟩⟩⟩⟩⟩⟩⟩⟩⟩⟩⟩
theorem lw_p48 : lw_okq (⟨"ElementFilesModel", "child", "(II)I"⟩, 33) := ⟨⟨by decide +kernel, by decide +kernel⟩, List.mem_of_getElem? (i := 696) (by decide +kernel), List.mem_of_getElem? (i := 969) (by decide +kernel), List.mem_of_getElem? (i := 970) (by decide +kernel)⟩
theorem lw_p49 : lw_okq (⟨"ElementFilesModel", "measure", "(Z)V"⟩, 33) := ⟨⟨by decide +kernel, by decide +kernel⟩, List.mem_of_getElem? (i := 696) (by decide +kernel), List.mem_of_getElem? (i := 986) (by decide +kernel), List.mem_of_getElem? (i := 987) (by decide +kernel)⟩
theorem lw_p50 : lw_okq (⟨"ElementFilesModel", "blockBytes", "(I)I"⟩, 33) := ⟨⟨by decide +kernel, by decide +kernel⟩, List.mem_of_getElem? (i := 696) (by decide +kernel), List.mem_of_getElem? (i := 993) (by decide +kernel), List.mem_of_getElem? (i := 994) (by decide +kernel)⟩
theorem lw_p51 : lw_okq (⟨"ElementFilesModel", "isLive", "(IZ)Z"⟩, 33) := ⟨⟨by decide +kernel, by decide +kernel⟩, List.mem_of_getElem? (i := 696) (by decide +kernel), List.mem_of_getElem? (i := 1008) (by decide +kernel), List.mem_of_getElem? (i := 1009) (by decide +kernel)⟩
theorem lw_p52 : lw_okq (⟨"ElementFilesModel", "putBytes", "(JI)V"⟩, 33) := ⟨⟨by decide +kernel, by decide +kernel⟩, List.mem_of_getElem? (i := 696) (by decide +kernel), List.mem_of_getElem? (i := 1012) (by decide +kernel), List.mem_of_getElem? (i := 1013) (by decide +kernel)⟩
theorem lw_p53 : lw_okq (⟨"ElementFilesModel", "put", "(I)V"⟩, 33) := ⟨⟨by decide +kernel, by decide +kernel⟩, List.mem_of_getElem? (i := 696) (by decide +kernel), List.mem_of_getElem? (i := 1016) (by decide +kernel), List.mem_of_getElem? (i := 1017) (by decide +kernel)⟩
theorem lw_p54 : lw_okq (⟨"ElementFilesModel", "putVint", "(JI)V"⟩, 33) := ⟨⟨by decide +kernel, by decide +kernel⟩, List.mem_of_getElem? (i := 696) (by decide +kernel), List.mem_of_getElem? (i := 1020) (by decide +kernel), List.mem_of_getElem? (i := 1021) (by decide +kernel)⟩
theorem lw_p55 : lw_okq (⟨"ElementFilesModel", "putData", "(I)V"⟩, 33) := ⟨⟨by decide +kernel, by decide +kernel⟩, List.mem_of_getElem? (i := 696) (by decide +kernel), List.mem_of_getElem? (i := 1024) (by decide +kernel), List.mem_of_getElem? (i := 1025) (by decide +kernel)⟩
theorem lw_p56 : lw_okq (⟨"ElementFilesModel", "putBlock", "(I)V"⟩, 33) := ⟨⟨by decide +kernel, by decide +kernel⟩, List.mem_of_getElem? (i := 696) (by decide +kernel), List.mem_of_getElem? (i := 1028) (by decide +kernel), List.mem_of_getElem? (i := 1029) (by decide +kernel)⟩
theorem lw_p57 : lw_okq (⟨"ElementFilesModel", "fillSum", "(I)V"⟩, 33) := ⟨⟨by decide +kernel, by decide +kernel⟩, List.mem_of_getElem? (i := 696) (by decide +kernel), List.mem_of_getElem? (i := 1032) (by decide +kernel), List.mem_of_getElem? (i := 1033) (by decide +kernel)⟩
theorem lw_p58 : lw_okq (⟨"ElementFilesModel", "isBlockOf", "(II)Z"⟩, 33) := ⟨⟨by decide +kernel, by decide +kernel⟩, List.mem_of_getElem? (i := 696) (by decide +kernel), List.mem_of_getElem? (i := 1040) (by decide +kernel), List.mem_of_getElem? (i := 1041) (by decide +kernel)⟩
theorem lw_p59 : lw_okq (⟨"ElementFilesModel", "remove", "(I)V"⟩, 33) := ⟨⟨by decide +kernel, by decide +kernel⟩, List.mem_of_getElem? (i := 696) (by decide +kernel), List.mem_of_getElem? (i := 1044) (by decide +kernel), List.mem_of_getElem? (i := 1045) (by decide +kernel)⟩
theorem lw_p60 : lw_okq (⟨"ElementFilesModel", "moment", "(I)J"⟩, 33) := ⟨⟨by decide +kernel, by decide +kernel⟩, List.mem_of_getElem? (i := 696) (by decide +kernel), List.mem_of_getElem? (i := 1048) (by decide +kernel), List.mem_of_getElem? (i := 1049) (by decide +kernel)⟩
theorem lw_p61 : lw_okq (⟨"ElementFilesModel", "first", "(II)J"⟩, 33) := ⟨⟨by decide +kernel, by decide +kernel⟩, List.mem_of_getElem? (i := 696) (by decide +kernel), List.mem_of_getElem? (i := 1052) (by decide +kernel), List.mem_of_getElem? (i := 1053) (by decide +kernel)⟩
def lw_privs_4 : List (MethodName × Nat) := [(⟨"ElementFilesModel", "child", "(II)I"⟩, 33), (⟨"ElementFilesModel", "measure", "(Z)V"⟩, 33), (⟨"ElementFilesModel", "blockBytes", "(I)I"⟩, 33), (⟨"ElementFilesModel", "isLive", "(IZ)Z"⟩, 33), (⟨"ElementFilesModel", "putBytes", "(JI)V"⟩, 33), (⟨"ElementFilesModel", "put", "(I)V"⟩, 33), (⟨"ElementFilesModel", "putVint", "(JI)V"⟩, 33), (⟨"ElementFilesModel", "putData", "(I)V"⟩, 33), (⟨"ElementFilesModel", "putBlock", "(I)V"⟩, 33), (⟨"ElementFilesModel", "fillSum", "(I)V"⟩, 33), (⟨"ElementFilesModel", "isBlockOf", "(II)Z"⟩, 33), (⟨"ElementFilesModel", "remove", "(I)V"⟩, 33), (⟨"ElementFilesModel", "moment", "(I)J"⟩, 33), (⟨"ElementFilesModel", "first", "(II)J"⟩, 33)]
theorem lw_r4 : ∀ q ∈ lw_privs_4, lw_okq q := List.forall_mem_cons.mpr ⟨lw_p48, List.forall_mem_cons.mpr ⟨lw_p49, List.forall_mem_cons.mpr ⟨lw_p50, List.forall_mem_cons.mpr ⟨lw_p51, List.forall_mem_cons.mpr ⟨lw_p52, List.forall_mem_cons.mpr ⟨lw_p53, List.forall_mem_cons.mpr ⟨lw_p54, List.forall_mem_cons.mpr ⟨lw_p55, List.forall_mem_cons.mpr ⟨lw_p56, List.forall_mem_cons.mpr ⟨lw_p57, List.forall_mem_cons.mpr ⟨lw_p58, List.forall_mem_cons.mpr ⟨lw_p59, List.forall_mem_cons.mpr ⟨lw_p60, List.forall_mem_cons.mpr ⟨lw_p61, fun _ h => absurd h List.not_mem_nil⟩⟩⟩⟩⟩⟩⟩⟩⟩⟩⟩⟩⟩⟩
def lw_privs : List (MethodName × Nat) := lw_privs_1 ++ (lw_privs_2 ++ (lw_privs_3 ++ (lw_privs_4)))
def lw_tbl : List Cond := k2_sels lw_privs ++ tables_1
theorem lw_privs_ok : ∀ q ∈ lw_privs, lw_okq q := by
  show ∀ q ∈ lw_privs_1 ++ (lw_privs_2 ++ (lw_privs_3 ++ (lw_privs_4))), lw_okq q
  exact List.forall_mem_append.mpr ⟨lw_r1, List.forall_mem_append.mpr ⟨lw_r2, List.forall_mem_append.mpr ⟨lw_r3, lw_r4⟩⟩⟩
end
section
def R_EF : String := "ElementFiles"
def F_EF : u_T := fun k => match k with
  | 0 => ("ElementFiles", "fed", "LElementFiles$Row;", true)
  | 1 => ("ElementFiles", "written", "LElementFiles$Row;", true)
  | 2 => ("ElementFiles", "atHand", "LElementFiles$Frames;", true)
  | 3 => ("ElementFiles", "tree", "LElementFiles$Tree;", true)
  | 4 => ("ElementFiles", "reader", "LElementFiles$Reader;", true)
  | 5 => ("ElementFiles", "writer", "LElementFiles$Writer;", true)
  | _ => ("ElementFiles", "finder", "LElementFiles$Finder;", true)
def t_EF : Nat → FieldType := fun k => match k with
  | 0 => .object "ElementFiles$Row"
  | 1 => .object "ElementFiles$Row"
  | 2 => .object "ElementFiles$Frames"
  | 3 => .object "ElementFiles$Tree"
  | 4 => .object "ElementFiles$Reader"
  | 5 => .object "ElementFiles$Writer"
  | _ => .object "ElementFiles$Finder"
theorem n_EF : ∀ a, a < 7 → ∀ b, b < 7 → a ≠ b → (F_EF a).2.1 ≠ (F_EF b).2.1 := by decide +kernel
theorem t_EF_ok : ∀ k, k < 7 → parseFieldDescriptor (F_EF k).2.2.1 = some (t_EF k) := by decide +kernel
def R_Ro : String := "ElementFiles$Row"
def F_Ro : u_T := fun k => match k with
  | 0 => ("ElementFiles$Row", "bytes", "[I", true)
  | _ => ("ElementFiles$Row", "count", "I", false)
def t_Ro : Nat → FieldType := fun k => match k with
  | 0 => .array .int
  | _ => .int
theorem n_Ro : ∀ a, a < 2 → ∀ b, b < 2 → a ≠ b → (F_Ro a).2.1 ≠ (F_Ro b).2.1 := by decide +kernel
theorem t_Ro_ok : ∀ k, k < 2 → parseFieldDescriptor (F_Ro k).2.2.1 = some (t_Ro k) := by decide +kernel
def R_Fr : String := "ElementFiles$Frames"
def F_Fr : u_T := fun k => match k with
  | 0 => ("ElementFiles$Frames", "sizes", "[I", true)
  | 1 => ("ElementFiles$Frames", "bytes", "[I", true)
  | 2 => ("ElementFiles$Frames", "count", "I", false)
  | _ => ("ElementFiles$Frames", "filled", "I", false)
def t_Fr : Nat → FieldType := fun k => match k with
  | 0 => .array .int
  | 1 => .array .int
  | 2 => .int
  | _ => .int
theorem n_Fr : ∀ a, a < 4 → ∀ b, b < 4 → a ≠ b → (F_Fr a).2.1 ≠ (F_Fr b).2.1 := by decide +kernel
theorem t_Fr_ok : ∀ k, k < 4 → parseFieldDescriptor (F_Fr k).2.2.1 = some (t_Fr k) := by decide +kernel
def R_El : String := "ElementFiles$Element"
def F_El : u_T := fun k => match k with
  | 0 => ("ElementFiles$Element", "sort", "LElementFiles$Sort;", false)
  | 1 => ("ElementFiles$Element", "tag", "I", false)
  | 2 => ("ElementFiles$Element", "master", "LElementFiles$Element;", false)
  | 3 => ("ElementFiles$Element", "level", "I", false)
  | 4 => ("ElementFiles$Element", "number", "I", false)
  | 5 => ("ElementFiles$Element", "amount", "J", false)
  | 6 => ("ElementFiles$Element", "parts", "[I", true)
  | 7 => ("ElementFiles$Element", "storedFrom", "I", false)
  | 8 => ("ElementFiles$Element", "storedSize", "I", false)
  | 9 => ("ElementFiles$Element", "track", "I", false)
  | 10 => ("ElementFiles$Element", "time", "I", false)
  | 11 => ("ElementFiles$Element", "key", "Z", false)
  | 12 => ("ElementFiles$Element", "lacing", "I", false)
  | 13 => ("ElementFiles$Element", "end", "I", false)
  | 14 => ("ElementFiles$Element", "open", "Z", false)
  | 15 => ("ElementFiles$Element", "dataSize", "I", false)
  | _ => ("ElementFiles$Element", "dataPlace", "I", false)
def t_El : Nat → FieldType := fun k => match k with
  | 0 => .object "ElementFiles$Sort"
  | 1 => .int
  | 2 => .object "ElementFiles$Element"
  | 3 => .int
  | 4 => .int
  | 5 => .long
  | 6 => .array .int
  | 7 => .int
  | 8 => .int
  | 9 => .int
  | 10 => .int
  | 11 => .boolean
  | 12 => .int
  | 13 => .int
  | 14 => .boolean
  | 15 => .int
  | _ => .int
theorem n_El : ∀ a, a < 17 → ∀ b, b < 17 → a ≠ b → (F_El a).2.1 ≠ (F_El b).2.1 := by decide +kernel
theorem t_El_ok : ∀ k, k < 17 → parseFieldDescriptor (F_El k).2.2.1 = some (t_El k) := by decide +kernel
def R_Tr : String := "ElementFiles$Tree"
def F_Tr : u_T := fun k => match k with
  | 0 => ("ElementFiles$Tree", "line", "[LElementFiles$Element;", true)
  | 1 => ("ElementFiles$Tree", "aside", "[LElementFiles$Element;", true)
  | 2 => ("ElementFiles$Tree", "count", "I", false)
  | 3 => ("ElementFiles$Tree", "store", "[I", true)
  | _ => ("ElementFiles$Tree", "stored", "I", false)
def t_Tr : Nat → FieldType := fun k => match k with
  | 0 => .array (.object "ElementFiles$Element")
  | 1 => .array (.object "ElementFiles$Element")
  | 2 => .int
  | 3 => .array .int
  | _ => .int
theorem n_Tr : ∀ a, a < 5 → ∀ b, b < 5 → a ≠ b → (F_Tr a).2.1 ≠ (F_Tr b).2.1 := by decide +kernel
theorem t_Tr_ok : ∀ k, k < 5 → parseFieldDescriptor (F_Tr k).2.2.1 = some (t_Tr k) := by decide +kernel
def R_Re : String := "ElementFiles$Reader"
def F_Re : u_T := fun k => match k with
  | 0 => ("ElementFiles$Reader", "source", "LElementFiles$Row;", true)
  | 1 => ("ElementFiles$Reader", "tree", "LElementFiles$Tree;", true)
  | 2 => ("ElementFiles$Reader", "faultPlace", "I", false)
  | 3 => ("ElementFiles$Reader", "master", "LElementFiles$Element;", false)
  | 4 => ("ElementFiles$Reader", "place", "I", false)
  | 5 => ("ElementFiles$Reader", "end", "I", false)
  | 6 => ("ElementFiles$Reader", "tag", "I", false)
  | 7 => ("ElementFiles$Reader", "vintIsFull", "Z", false)
  | _ => ("ElementFiles$Reader", "vintLength", "I", false)
def t_Re : Nat → FieldType := fun k => match k with
  | 0 => .object "ElementFiles$Row"
  | 1 => .object "ElementFiles$Tree"
  | 2 => .int
  | 3 => .object "ElementFiles$Element"
  | 4 => .int
  | 5 => .int
  | 6 => .int
  | 7 => .boolean
  | _ => .int
theorem n_Re : ∀ a, a < 9 → ∀ b, b < 9 → a ≠ b → (F_Re a).2.1 ≠ (F_Re b).2.1 := by decide +kernel
theorem t_Re_ok : ∀ k, k < 9 → parseFieldDescriptor (F_Re k).2.2.1 = some (t_Re k) := by decide +kernel
def R_Wr : String := "ElementFiles$Writer"
def F_Wr : u_T := fun k => match k with
  | 0 => ("ElementFiles$Writer", "tree", "LElementFiles$Tree;", true)
  | 1 => ("ElementFiles$Writer", "target", "LElementFiles$Row;", true)
  | _ => ("ElementFiles$Writer", "counter", "LElementFiles$Row;", true)
def t_Wr : Nat → FieldType := fun k => match k with
  | 0 => .object "ElementFiles$Tree"
  | 1 => .object "ElementFiles$Row"
  | _ => .object "ElementFiles$Row"
theorem n_Wr : ∀ a, a < 3 → ∀ b, b < 3 → a ≠ b → (F_Wr a).2.1 ≠ (F_Wr b).2.1 := by decide +kernel
theorem t_Wr_ok : ∀ k, k < 3 → parseFieldDescriptor (F_Wr k).2.2.1 = some (t_Wr k) := by decide +kernel
def R_Fi : String := "ElementFiles$Finder"
def F_Fi : u_T := fun k => match k with
  | _ => ("ElementFiles$Finder", "tree", "LElementFiles$Tree;", true)
def t_Fi : Nat → FieldType := fun k => match k with
  | _ => .object "ElementFiles$Tree"
theorem n_Fi : ∀ a, a < 1 → ∀ b, b < 1 → a ≠ b → (F_Fi a).2.1 ≠ (F_Fi b).2.1 := by decide +kernel
theorem t_Fi_ok : ∀ k, k < 1 → parseFieldDescriptor (F_Fi k).2.2.1 = some (t_Fi k) := by decide +kernel
def R_Mo : String := "ElementFilesModel"
def F_Mo : u_T := fun k => match k with
  | 0 => ("ElementFilesModel", "count", "I", false)
  | 1 => ("ElementFilesModel", "ids", "[I", true)
  | 2 => ("ElementFilesModel", "masters", "[I", true)
  | 3 => ("ElementFilesModel", "values", "[J", true)
  | 4 => ("ElementFilesModel", "many", "[I", true)
  | 5 => ("ElementFilesModel", "letters", "[I", true)
  | 6 => ("ElementFilesModel", "tracks", "[I", true)
  | 7 => ("ElementFilesModel", "times", "[I", true)
  | 8 => ("ElementFilesModel", "keys", "[Z", true)
  | 9 => ("ElementFilesModel", "lacings", "[I", true)
  | 10 => ("ElementFilesModel", "sizes", "[I", true)
  | 11 => ("ElementFilesModel", "places", "[I", true)
  | 12 => ("ElementFilesModel", "heap", "[I", true)
  | 13 => ("ElementFilesModel", "used", "I", false)
  | 14 => ("ElementFilesModel", "hands", "I", false)
  | 15 => ("ElementFilesModel", "handSize", "[I", true)
  | 16 => ("ElementFilesModel", "handFirst", "[I", true)
  | 17 => ("ElementFilesModel", "handBytes", "I", false)
  | 18 => ("ElementFilesModel", "in", "[I", true)
  | 19 => ("ElementFilesModel", "ins", "I", false)
  | 20 => ("ElementFilesModel", "out", "[I", true)
  | 21 => ("ElementFilesModel", "outs", "I", false)
  | 22 => ("ElementFilesModel", "fault", "I", false)
  | 23 => ("ElementFilesModel", "at", "I", false)
  | 24 => ("ElementFilesModel", "width", "I", false)
  | 25 => ("ElementFilesModel", "vint", "J", false)
  | 26 => ("ElementFilesModel", "ones", "Z", false)
  | 27 => ("ElementFilesModel", "depth", "I", false)
  | 28 => ("ElementFilesModel", "openMaster", "[I", true)
  | 29 => ("ElementFilesModel", "openEnd", "[I", true)
  | 30 => ("ElementFilesModel", "unknown", "[Z", true)
  | 31 => ("ElementFilesModel", "data", "[I", true)
  | _ => ("ElementFilesModel", "begins", "[I", true)
def t_Mo : Nat → FieldType := fun k => match k with
  | 0 => .int
  | 1 => .array .int
  | 2 => .array .int
  | 3 => .array .long
  | 4 => .array .int
  | 5 => .array .int
  | 6 => .array .int
  | 7 => .array .int
  | 8 => .array .boolean
  | 9 => .array .int
  | 10 => .array .int
  | 11 => .array .int
  | 12 => .array .int
  | 13 => .int
  | 14 => .int
  | 15 => .array .int
  | 16 => .array .int
  | 17 => .int
  | 18 => .array .int
  | 19 => .int
  | 20 => .array .int
  | 21 => .int
  | 22 => .int
  | 23 => .int
  | 24 => .int
  | 25 => .long
  | 26 => .boolean
  | 27 => .int
  | 28 => .array .int
  | 29 => .array .int
  | 30 => .array .boolean
  | 31 => .array .int
  | _ => .array .int
theorem n_Mo : ∀ a, a < 33 → ∀ b, b < 33 → a ≠ b → (F_Mo a).2.1 ≠ (F_Mo b).2.1 := by decide +kernel
theorem t_Mo_ok : ∀ k, k < 33 → parseFieldDescriptor (F_Mo k).2.2.1 = some (t_Mo k) := by decide +kernel
abbrev vwCl : List vw_C := [(R_EF, F_EF, 7), (R_Ro, F_Ro, 2), (R_Fr, F_Fr, 4), (R_El, F_El, 17), (R_Tr, F_Tr, 5), (R_Re, F_Re, 9), (R_Wr, F_Wr, 3), (R_Fi, F_Fi, 1), (R_Mo, F_Mo, 33)]
def R_So : String := "ElementFiles$Sort"
def R_La : String := "ElementFilesLaw"
def R_Ma : String := "java/lang/Math"
abbrev ev_arrs : List FieldType := [.int, .long, .boolean, .object "ElementFiles$Element"]
abbrev ev_over : List String := ["ElementFiles$Element"]
abbrev ev_nm : List String := ["HEAD", "SEGMENT", "VERSION", "TYPE", "TRACK", "NUMBER", "NAME", "CLUSTER", "TIME", "BLOCK", "CUE", "WHEN", "WHOSE", "WHICH", "CHECK", "VOID", "FOREIGN"]
abbrev ev_fl : List (String × String × String × List Int32) := [("ElementFiles$Sort", "tag", "I", [440786851, 408125543, 17030, 17026, 174, 215, 21358, 524531317, 231, 163, 187, 179, 247, 241, 191, 236, 0]), ("ElementFiles$Sort", "form", "I", [0, 0, 1, 2, 0, 1, 2, 0, 1, 3, 0, 1, 1, 1, 4, 5, 6]), ("ElementFiles$Sort", "places", "I", [1, 1, 2, 2, 4, 8, 8, 4, 16, 16, 4, 32, 32, 32, 42, 63, 63]), ("ElementFiles$Sort", "inside", "I", [2, 4, 0, 0, 8, 0, 0, 16, 0, 0, 32, 0, 0, 0, 0, 0, 0])]
def ev_nest : List Cond := [.methodLinkNest "ElementFiles" 23 ⟨"ElementFiles$Frames", "<init>", "()V"⟩ "ElementFiles", .methodLinkNest "ElementFiles" 30 ⟨"ElementFiles$Tree", "<init>", "()V"⟩ "ElementFiles", .methodLinkNest "ElementFiles$Reader" 62 ⟨"ElementFiles", "vintLengthByFirst", "(I)I"⟩ "ElementFiles", .methodLinkNest "ElementFiles$Reader" 191 ⟨"ElementFiles", "allOnes", "(I)J"⟩ "ElementFiles", .methodLinkNest "ElementFiles$Tree" 61 ⟨"ElementFiles$Element", "<init>", "()V"⟩ "ElementFiles", .methodLinkNest "ElementFiles$Reader" 149 ⟨"ElementFiles", "isLetter", "(I)Z"⟩ "ElementFiles", .methodLinkNest "ElementFiles$Reader" 179 ⟨"ElementFiles", "surplus", "(I)J"⟩ "ElementFiles", .methodLinkNest "ElementFiles$Writer" 51 ⟨"ElementFiles", "shortestVintLength", "(J)I"⟩ "ElementFiles", .methodLinkNest "ElementFiles$Row" 23 ⟨"ElementFiles", "allOnes", "(I)J"⟩ "ElementFiles", .methodLinkNest "ElementFiles$Writer" 156 ⟨"ElementFiles", "surplus", "(I)J"⟩ "ElementFiles"]
theorem ev_nest_is : ∀ w ∈ ev_nest, ∃ (a : String) (i : Nat) (x : MethodName) (h : String), w = .methodLinkNest a i x h := by
  intro w hw
  simp only [ev_nest, List.mem_cons, List.not_mem_nil, or_false] at hw
  rcases hw with h | h | h | h | h | h | h | h | h | h <;> exact ⟨_, _, _, _, h⟩
theorem ev_nest_tab (w : Cond) (hw : w ∈ ev_nest) : w.onTables = true := by
  obtain ⟨a, i, x, h, e⟩ := ev_nest_is w hw
  rw [e]; rfl
theorem ev_nest_warm (w : Cond) (hw : w ∈ ev_nest) {s U : State} (h : s.WarmedH U.vm) (k : va_Nw w s) : va_Nw w U := by
  obtain ⟨a, i, x, hh, e⟩ := ev_nest_is w hw
  subst e
  exact va_Nw.warmM h k
theorem ev_nest_in : ∀ w ∈ ev_nest, w ∈ lw_tbl := by decide +kernel
end
section
/-! ===== PURE WORLDS: a world is the number of the next cell, and a cell at each number; numbers below 100 are cells that stood before, from 100 on those that the law made ===== -/
abbrev Ev_K : Type := (Nat × Nat × ((Nat → Int32) ⊕ (Nat → Int64) ⊕ (Nat → Option Nat))) ⊕ (Nat × List Value)
abbrev Ev_W : Type := Nat × (Nat → Option Ev_K)
/-- launch; numbers of classes and slots; array classes; cells that stood before; the heap at the law's start -/
abbrev Ev_G : Type := Launch × va_G × (Nat → ClassId) × (Nat → Nat) × Heap
def ev_rho (G : Ev_G) (r : Nat) : Nat := if r < 100 then G.2.2.2.1 r else G.2.2.2.2.size + (r - 100)
def ev_mv (G : Ev_G) : Value → Value
  | .ref r => .ref (ev_rho G r)
  | v => v
def ev_cnv (G : Ev_G) : Ev_K → va_E
  | .inl (k, n, .inl f) => .inl (G.2.2.1 k, n, .inl f)
  | .inl (k, n, .inr (.inl f)) => .inl (G.2.2.1 k, n, .inr (.inl f))
  | .inl (k, n, .inr (.inr f)) => .inl (G.2.2.1 k, n, .inr (.inr (.inr (.inr (fun j => (f j).map (ev_rho G))))))
  | .inr (ci, fs) => .inr (ci, fs.map (ev_mv G))
theorem ev_mv_cat (G : Ev_G) (v : Value) : (ev_mv G v).category = v.category := by cases v <;> rfl
theorem ev_mv_rf (G : Ev_G) (o : Option Nat) : ev_mv G (va_rf o) = va_rf (o.map (ev_rho G)) := by cases o <;> rfl
/-- what the heap holds of a world -/
def ev_H (cl : List vw_C) (G : Ev_G) (w : Ev_W) (H : Heap) : Prop :=
  (∀ q : Nat, q < G.2.2.2.2.size → H[q]? = G.2.2.2.2[q]?) ∧ H.size + 100 = G.2.2.2.2.size + w.1 ∧ G.2.2.2.2.size ≤ H.size ∧ ∀ (r : Nat) (c : Ev_K), w.2 r = some c → va_at G.2.1 cl (ev_rho G r, ev_cnv G c) H
def ev_set (w : Ev_W) (r : Nat) (c : Ev_K) : Ev_W := (w.1, fun q => if q = r then some c else w.2 q)
def ev_new (w : Ev_W) (c : Ev_K) : Ev_W := (w.1 + 1, fun q => if q = w.1 then some c else w.2 q)
theorem ev_set_self (w : Ev_W) (r : Nat) (c : Ev_K) : (ev_set w r c).2 r = some c := by simp [ev_set]
theorem ev_set_ne (w : Ev_W) {r q : Nat} (c : Ev_K) (h : q ≠ r) : (ev_set w r c).2 q = w.2 q := by simp [ev_set, h]
theorem ev_new_self (w : Ev_W) (c : Ev_K) : (ev_new w c).2 w.1 = some c := by simp [ev_new]
theorem ev_new_ne (w : Ev_W) {q : Nat} (c : Ev_K) (h : q ≠ w.1) : (ev_new w c).2 q = w.2 q := by simp [ev_new, h]
/-- cells that stood before: 17 constants, apart from each other, and an array -/
def ev_inj (G : Ev_G) : Prop := (∀ r : Nat, r < 100 → G.2.2.2.1 r < G.2.2.2.2.size) ∧ ∀ r q : Nat, r < 17 → q < 17 → G.2.2.2.1 r = G.2.2.2.1 q → r = q
theorem ev_rho_inj {G : Ev_G} (h : ev_inj G) {r q : Nat} (hr0 : r < 17 ∨ 100 ≤ r) (hq0 : q < 17 ∨ 100 ≤ q) (e : ev_rho G r = ev_rho G q) : r = q := by
  unfold ev_rho at e
  by_cases hr : r < 100 <;> by_cases hq : q < 100
  · rw [if_pos hr, if_pos hq] at e; exact h.2 r q (by omega) (by omega) e
  · rw [if_pos hr, if_neg hq] at e; have := h.1 r hr; omega
  · rw [if_neg hr, if_pos hq] at e; have := h.1 q hq; omega
  · rw [if_neg hr, if_neg hq] at e; omega
theorem ev_rho_hi {G : Ev_G} (h : ev_inj G) {r q : Nat} (hr0 : 100 ≤ r) (e : ev_rho G q = ev_rho G r) : q = r := by
  unfold ev_rho at e
  rw [if_neg (show ¬ r < 100 by omega)] at e
  by_cases hq : q < 100
  · rw [if_pos hq] at e; have := h.1 q hq; omega
  · rw [if_neg hq] at e; omega
def ev_ok (o : Option Nat) : Prop := ∀ r : Nat, o = some r → r < 17 ∨ 100 ≤ r
theorem ev_H.fresh {cl : List vw_C} {G : Ev_G} {w : Ev_W} {H : Heap} (h : ev_H cl G w H) (hi : 100 ≤ w.1) : w.2 w.1 = none := by
  cases hc : w.2 w.1 with
  | none => rfl
  | some c =>
    have h1 := (h.2.2.2 _ _ hc).lt
    have h2 := h.2.1
    simp only [ev_rho] at h1
    rw [if_neg (by omega)] at h1
    omega
theorem ev_H.lo {cl : List vw_C} {G : Ev_G} {w : Ev_W} {H : Heap} (h : ev_H cl G w H) : 100 ≤ w.1 := by have := h.2.1; have := h.2.2.1; omega
/-- a cell is written -/
theorem ev_H.set {cl : List vw_C} {G : Ev_G} {w : Ev_W} {H H1 : Heap} {r : Nat} {c : Ev_K} (hi : ev_inj G) (h : ev_H cl G w H) (hr : 100 ≤ r) (he : va_at G.2.1 cl (ev_rho G r, ev_cnv G c) H1) (z : H1.size = H.size) (o : ∀ q, q ≠ ev_rho G r → H1[q]? = H[q]?) : ev_H cl G (ev_set w r c) H1 := by
  obtain ⟨h1, h2, h3, h4⟩ := h
  refine ⟨fun q hq => ?_, by rw [z]; exact h2, by rw [z]; exact h3, fun q c' hc => ?_⟩
  · rw [o q (fun e => by simp only [ev_rho] at e; rw [if_neg (by omega)] at e; omega)]
    exact h1 q hq
  · by_cases hq : q = r
    · subst hq
      simp only [ev_set, if_pos] at hc
      cases hc
      exact he
    · simp only [ev_set, if_neg hq] at hc
      exact (h4 q c' hc).kept (o _ (fun e => hq (ev_rho_hi hi hr e)))
/-- a cell is made -/
theorem ev_H.new {cl : List vw_C} {G : Ev_G} {w : Ev_W} {H H1 : Heap} {c : Ev_K} (h : ev_H cl G w H) (he : va_at G.2.1 cl (H.size, ev_cnv G c) H1) (z : H1.size = H.size + 1) (o : ∀ q, q < H.size → H1[q]? = H[q]?) : ev_H cl G (ev_new w c) H1 := by
  have hlo := h.lo
  obtain ⟨h1, h2, h3, h4⟩ := h
  refine ⟨fun q hq => ?_, by rw [z]; show _ = _ + (w.1 + 1); omega, by omega, fun q c' hc => ?_⟩
  · rw [o q (by omega)]
    exact h1 q hq
  · by_cases hq : q = w.1
    · subst hq
      simp only [ev_new, if_pos] at hc
      cases hc
      have e : ev_rho G w.1 = H.size := by
        simp only [ev_rho]; rw [if_neg (by omega)]; omega
      rw [e]
      exact he
    · simp only [ev_new, if_neg hq] at hc
      have h5 := h4 q c' hc
      exact h5.kept (o _ h5.lt)
theorem ev_rho_next {cl : List vw_C} {G : Ev_G} {w : Ev_W} {H : Heap} (h : ev_H cl G w H) : ev_rho G w.1 = H.size := by
  have hlo := h.lo
  have h2 := h.2.1
  simp only [ev_rho]; rw [if_neg (by omega)]; omega
/-! ===== LOCALS: values of one word, and longs ===== -/
abbrev Ev_L : Type := (Nat → Option Value) × (Nat → Option Int64)
def ev_L (G : Ev_G) (nL : Nat) (ls : Ev_L) (a : Array Slot) : Prop := a.size = nL ∧ lv_wf a ∧ (∀ (i : Nat) (v : Value), ls.1 i = some v → v.category = 1 ∧ a[i]? = some (.val (ev_mv G v))) ∧ ∀ (i : Nat) (x : Int64), ls.2 i = some x → a[i]? = some (.val (.long x))
def ev_st (ls : Ev_L) (i : Nat) (v : Value) : Ev_L := (fun j => if j = i then some v else ls.1 j, fun j => if j = i then none else if j + 1 = i then none else ls.2 j)
def ev_sl (ls : Ev_L) (i : Nat) (x : Int64) : Ev_L := (fun j => if j = i then none else if j = i + 1 then none else ls.1 j, fun j => if j = i then some x else if j = i + 1 then none else if j + 1 = i then none else ls.2 j)
def ev_tab (G : Ev_G) (n : Nat) (ls : Ev_L) : List (Nat × Value) := (List.range n).flatMap fun i => (match ls.1 i with | some v => [(i, ev_mv G v)] | none => []) ++ (match ls.2 i with | some x => [(i, Value.long x)] | none => [])
theorem ev_tab1 {G : Ev_G} {n : Nat} {ls : Ev_L} {i : Nat} {v : Value} (hi : i < n) (h : ls.1 i = some v) : (i, ev_mv G v) ∈ ev_tab G n ls := by
  refine List.mem_flatMap.mpr ⟨i, List.mem_range.mpr hi, ?_⟩
  rw [h]
  simp
theorem ev_tab2 {G : Ev_G} {n : Nat} {ls : Ev_L} {i : Nat} {x : Int64} (hi : i < n) (h : ls.2 i = some x) : (i, Value.long x) ∈ ev_tab G n ls := by
  refine List.mem_flatMap.mpr ⟨i, List.mem_range.mpr hi, ?_⟩
  rw [h]
  simp
theorem ev_L.has {G : Ev_G} {nL : Nat} {ls : Ev_L} {a : Array Slot} (h : ev_L G nL ls a) : lv_has a nL (ev_tab G nL ls) := by
  refine ⟨h.1, h.2.1, fun q hq => ?_⟩
  obtain ⟨i, -, hm⟩ := List.mem_flatMap.mp hq
  rcases List.mem_append.mp hm with hm | hm
  · cases e : ls.1 i with
    | none => rw [e] at hm; cases hm
    | some v =>
      rw [e] at hm
      rw [List.mem_singleton.mp hm]
      exact (h.2.2.1 i v e).2
  · cases e : ls.2 i with
    | none => rw [e] at hm; cases hm
    | some v =>
      rw [e] at hm
      rw [List.mem_singleton.mp hm]
      exact h.2.2.2 i v e
theorem ev_lt {G : Ev_G} {nL : Nat} {ls : Ev_L} {a : Array Slot} (h : ev_L G nL ls a) {i : Nat} {s : Slot} (e : a[i]? = some s) : i < nL := by rw [← h.1]; exact (Array.getElem?_eq_some_iff.mp e).1
/-- storing a word -/
theorem ev_L.st {G : Ev_G} {nL : Nat} {ls : Ev_L} {a a' : Array Slot} {i : Nat} {v : Value} (h : ev_L G nL ls a) (hc : v.category = 1)
    (h' : lv_has a' nL ((i, ev_mv G v) :: (ev_tab G nL ls).filter (fun q => !(q.1 == i) && !(q.1 + 1 == i && q.2.category == 2)))) : ev_L G nL (ev_st ls i v) a' := by
  refine ⟨h'.1, h'.2.1, fun j u hj => ?_, fun j x hj => ?_⟩
  · by_cases e : j = i
    · subst e
      simp only [ev_st, if_pos] at hj
      cases hj
      exact ⟨hc, h'.2.2 _ List.mem_cons_self⟩
    · simp only [ev_st, if_neg e] at hj
      obtain ⟨c1, c2⟩ := h.2.2.1 j u hj
      refine ⟨c1, h'.2.2 (j, ev_mv G u) (List.mem_cons_of_mem _ (List.mem_filter.mpr ⟨ev_tab1 (ev_lt h c2) hj, ?_⟩))⟩
      simp [e, ev_mv_cat, c1]
  · by_cases e : j = i
    · simp [ev_st, e] at hj
    · by_cases e2 : j + 1 = i
      · simp [ev_st, e, e2] at hj
      · simp only [ev_st, if_neg e, if_neg e2] at hj
        have c2 := h.2.2.2 j x hj
        refine h'.2.2 (j, .long x) (List.mem_cons_of_mem _ (List.mem_filter.mpr ⟨ev_tab2 (ev_lt h c2) hj, ?_⟩))
        simp [e, e2]
/-- storing a long -/
theorem ev_L.sl {G : Ev_G} {nL : Nat} {ls : Ev_L} {a a' : Array Slot} {i : Nat} {y : Int64} (h : ev_L G nL ls a)
    (h' : lv_has a' nL ((i, Value.long y) :: (ev_tab G nL ls).filter (fun q => !(q.1 == i) && (!(q.1 == i + 1) && !(q.1 + 1 == i && q.2.category == 2))))) : ev_L G nL (ev_sl ls i y) a' := by
  refine ⟨h'.1, h'.2.1, fun j u hj => ?_, fun j x hj => ?_⟩
  · by_cases e : j = i
    · simp [ev_sl, e] at hj
    · by_cases e2 : j = i + 1
      · simp [ev_sl, e2] at hj
      · simp only [ev_sl, if_neg e, if_neg e2] at hj
        obtain ⟨c1, c2⟩ := h.2.2.1 j u hj
        refine ⟨c1, h'.2.2 (j, ev_mv G u) (List.mem_cons_of_mem _ (List.mem_filter.mpr ⟨ev_tab1 (ev_lt h c2) hj, ?_⟩))⟩
        simp [e, e2, ev_mv_cat, c1]
  · by_cases e : j = i
    · subst e
      simp only [ev_sl, if_pos] at hj
      cases hj
      exact h'.2.2 _ List.mem_cons_self
    · by_cases e2 : j = i + 1
      · simp [ev_sl, e2] at hj
      · by_cases e3 : j + 1 = i
        · simp [ev_sl, e, e2, e3] at hj
        · simp only [ev_sl, if_neg e, if_neg e2, if_neg e3] at hj
          have c2 := h.2.2.2 j x hj
          refine h'.2.2 (j, .long x) (List.mem_cons_of_mem _ (List.mem_filter.mpr ⟨ev_tab2 (ev_lt h c2) hj, ?_⟩))
          simp [e, e2, e3]
/-- the locals at a method's entry -/
def ev_in (as : List Value) : Ev_L := (fun j => match (lv_args 0 as).lookup j with | some v => if v.category = 1 then some v else none | none => none, fun j => match (lv_args 0 as).lookup j with | some (.long x) => some x | _ => none)
theorem ev_lookup_args : ∀ (as : List Value) (i j : Nat) (v : Value), (lv_args i as).lookup j = some v → (j, v) ∈ lv_args i as
  | [], i, j, v, h => by simp [lv_args] at h
  | a :: t, i, j, v, h => by
    simp only [lv_args, List.lookup_cons] at h
    by_cases e : j = i
    · subst e
      simp at h
      subst h
      exact List.mem_cons_self
    · have e2 : (j == i) = false := by simp [e]
      rw [e2] at h
      exact List.mem_cons_of_mem _ (ev_lookup_args t _ j v h)
theorem ev_args_map (G : Ev_G) : ∀ (as : List Value) (i : Nat), lv_args i (as.map (ev_mv G)) = (lv_args i as).map (fun q => (q.1, ev_mv G q.2))
  | [], i => rfl
  | a :: t, i => by
    simp only [List.map_cons, lv_args, ev_mv_cat]
    rw [ev_args_map G t]
theorem ev_L.entry {G : Ev_G} (as : List Value) {n : Nat} (h : (lg_sl (as.map (ev_mv G))).length ≤ n) : ev_L G n (ev_in as) ((lg_sl (as.map (ev_mv G)) ++ List.replicate (n - (lg_sl (as.map (ev_mv G))).length) Slot.unset).toArray) := by
  have hl := lv_entry (as.map (ev_mv G)) h
  refine ⟨hl.1, hl.2.1, fun i v e => ?_, fun i x e => ?_⟩
  · simp only [ev_in] at e
    cases e2 : (lv_args 0 as).lookup i with
    | none => rw [e2] at e; cases e
    | some u =>
      rw [e2] at e
      by_cases hc : u.category = 1
      · simp [hc] at e
        subst e
        refine ⟨hc, hl.2.2 (i, ev_mv G u) ?_⟩
        rw [ev_args_map]
        exact List.mem_map.mpr ⟨(i, u), ev_lookup_args _ _ _ _ e2, rfl⟩
      · simp [hc] at e
  · simp only [ev_in] at e
    have h2 : (lv_args 0 as).lookup i = some (.long x) := by
      cases e2 : (lv_args 0 as).lookup i with
      | none => rw [e2] at e; cases e
      | some u => rw [e2] at e; cases u <;> simp_all
    refine hl.2.2 (i, .long x) ?_
    rw [ev_args_map]
    exact List.mem_map.mpr ⟨(i, .long x), ev_lookup_args _ _ _ _ h2, rfl⟩
/-! ===== THE MACHINE'S CONTEXT OF A WALK ===== -/
abbrev Ev_X : Type := Program × Env × Room × State × MethodId × Array Value × List Frame × Method × Code × (State → Prop)
/-- class, name, code, locals, what it returns -/
abbrev Ev_M : Type := String × MethodName × ByteArray × Nat × Option FieldType
def ev_good (w : Cond) : Bool := (w.onTables && w.keeps) || (match w with | .arrayClass _ => true | _ => false)
def ev_tbl : List Cond := lw_tbl.filter ev_good
theorem ev_tbl_in {w : Cond} (h : w ∈ ev_tbl) : w ∈ lw_tbl := (List.mem_filter.mp h).1
theorem ev_tbl_ok {w : Cond} (h : w ∈ ev_tbl) : ((w.onTables && w.keeps) = true ∨ ∃ ty, w = .arrayClass ty) := by
  have h2 := (List.mem_filter.mp h).2
  unfold ev_good at h2
  rcases Bool.or_eq_true_iff.mp h2 with h3 | h3
  · exact Or.inl h3
  · cases w <;> first | exact Or.inr ⟨_, rfl⟩ | (simp at h3)
def ev_tys (G : Ev_G) : List (ClassId × FieldType) := ev_arrs.zipIdx.map (fun q => (G.2.2.1 q.2, q.1))
abbrev ev_A (G : Ev_G) : Nat → Prop := fun q => G.2.2.2.2.size ≤ q
/-- what a state's tables say, and the static fields -/
def ev_T (G : Ev_G) (U : State) : Prop := va_K G.2.1 vwCl (ev_tys G) U ∧ va_En "ElementFiles$Sort" "LElementFiles$Sort;" ev_nm ev_fl G.2.2.2.1 (ev_A G) U G.2.2.2.2 ∧ va_Z "ElementFiles$Sort" "ALL" "[LElementFiles$Sort;" (.ref (G.2.2.2.1 17)) (ev_A G) U G.2.2.2.2 ∧ va_T (.object "ElementFiles$Sort") (G.2.2.2.1 17) 17 (fun j => .ref (G.2.2.2.1 j)) (ev_A G) U G.2.2.2.2 ∧ (∀ w ∈ ev_nest, va_Nw w U) ∧ ∀ C ∈ ev_over, va_AO C U
theorem ev_T.same {G : Ev_G} {u U : State} (h : u.vm = U.vm) (k : ev_T G u) : ev_T G U := by
  have ha : u.vm.Alike U.vm := by rw [h]; exact Vm.Alike.refl _
  exact ⟨va_K.moved ha k.1, k.2.1.moved ha, k.2.2.1.moved ha, k.2.2.2.1.moved ha, fun w hw => (k.2.2.2.2.1 w hw).same (ev_nest_tab w hw) h, fun C hC => (k.2.2.2.2.2 C hC).moved ha⟩
theorem ev_T.warm {G : Ev_G} {s U : State} (h : s.WarmedH U.vm) (k : ev_T G s) : ev_T G U :=
  ⟨va_K.moved h.alike k.1, k.2.1.moved h.alike, k.2.2.1.moved h.alike, k.2.2.2.1.moved h.alike, fun w hw => ev_nest_warm w hw h (k.2.2.2.2.1 w hw), fun C hC => (k.2.2.2.2.2 C hC).moved h.alike⟩
def ev_C (G : Ev_G) (M : Ev_M) (d : Nat) (X : Ev_X) : Prop :=
  X.1.tables.exec = Jvm.exec ∧ X.2.2.2.2.2.2.2.2.1.code = M.2.2.1 ∧ X.2.2.2.2.2.2.2.2.1.maxLocals = M.2.2.2.1 ∧ X.2.2.2.1.vm.findClass M.1 = some X.2.2.2.2.1.cls ∧ (∀ w ∈ ev_tbl, w.before X.2.2.2.2.2.1 X.2.2.2.1 = true) ∧ ev_T G X.2.2.2.1 ∧ ev_inj G ∧ (∀ q : Nat, q < G.2.2.2.2.size → X.2.2.2.1.heap[q]? = G.2.2.2.2[q]?) ∧ G.2.2.2.2.size ≤ X.2.2.2.1.heap.size ∧ d ≤ X.2.2.1.frames ∧ d * 38 ≤ X.2.2.1.locals ∧ X.2.2.2.2.2.2.2.1.locks = false
/-- the machine, at pc with these locals, this stack, this world, comes to the end that X asks; it may make bc cells of bs slots more -/
def ev_W (G : Ev_G) (M : Ev_M) (X : Ev_X) (bc bs pc : Nat) (ls : Ev_L) (st : List Value) (w : Ev_W) : Prop :=
  ∀ (H : Heap) (locs : List Loc) (a : Array Slot) (cells slots : Nat), ev_H vwCl G w H → (∀ q ∈ locs, G.2.2.2.2.size ≤ q.base) → ev_L G M.2.2.2.1 ls a → cells + bc ≤ X.2.2.1.cells → slots + bs ≤ X.2.2.1.slots →
    W X.1 G.1 X.2.1 X.2.2.1 X.2.2.2.1 X.2.2.2.2.1 X.2.2.2.2.2.1 X.2.2.2.2.2.2.1 X.2.2.2.2.2.2.2.1 X.2.2.2.2.2.2.2.2.1 H locs cells slots X.2.2.2.2.2.2.2.2.2 (F0 X.2.2.2.2.1 pc a (st.map (ev_mv G)))
def ev_rm (d mc ms : Nat) : Room := { frames := d, cells := mc, slots := ms, locals := d * 38 }
def ev_Q (G : Ev_G) (Q : Option Value → Ev_W → Prop) : Array Value → State → Outcome → State → Prop := fun _ _ o t => ∃ (v : Option Value) (w : Ev_W), o = .returned (v.map (ev_mv G)) ∧ ev_H vwCl G w t.heap ∧ Q v w
def ev_R (G : Ev_G) (M : Ev_M) (mc ms : Nat) (Q : Option Value → Ev_W → Prop) (X : Ev_X) : Prop :=
  X.2.2.2.2.2.2.2.2.2 = MQ X.2.2.2.2.2.2.1 (ev_Q G Q) X.2.2.2.2.2.1 X.2.2.2.1 mc ms (fun q => G.2.2.2.2.size ≤ q) ∧ X.2.2.1.cells = mc ∧ X.2.2.1.slots = ms ∧ X.2.2.2.2.2.2.2.1.sig.returnType = M.2.2.2.2 ∧ X.2.2.2.2.2.2.2.1.name = M.2.1.name
def ev_ws (M : Ev_M) : List Cond := Cond.code M.2.1 M.2.2.1 M.2.2.2.1 M.2.2.2.2 :: ev_tbl
/-- THE CONTRACT of a method at these arguments in this world: it returns, with Q -/
def ev_Met (G : Ev_G) (M : Ev_M) (d mc ms : Nat) (as : List Value) (w : Ev_W) (Q : Option Value → Ev_W → Prop) : Prop :=
  Met G.1 M.2.1 (ev_ws M) (ev_rm d mc ms) (va_Pc (as.map (ev_mv G)) (fun U => ev_H vwCl G w U.heap ∧ ev_T G U ∧ ev_inj G)) (ev_Q G Q) mc ms (fun q => G.2.2.2.2.size ≤ q)
/-- a method's own facts: its code is in the tables, its class is named as it must be -/
def ev_MD (M : Ev_M) : Prop := plainName M.2.1.cls = true ∧ M.2.1.cls = M.1 ∧ Cond.code M.2.1 M.2.2.1 M.2.2.2.1 M.2.2.2.2 ∈ ev_tbl ∧ M.2.2.2.1 ≤ 19
theorem ev_Met.of {G : Ev_G} {M : Ev_M} {d mc ms : Nat} {as : List Value} {w : Ev_W} {Q : Option Value → Ev_W → Prop} (hM : ev_MD M) (hn : (lg_sl (as.map (ev_mv G))).length ≤ M.2.2.2.1)
    (body : ∀ X : Ev_X, ev_C G M d X → ev_R G M mc ms Q X → ev_W G M X mc ms 0 (ev_in as) [] w) : ev_Met G M d mc ms as w Q := by
  refine Met.ofW (cc := M.2.2.1) (maxL := M.2.2.2.1) (ret := M.2.2.2.2) hM.1 rfl ?_
  intro p e s m args below meth c s₁ B hml hv
  obtain ⟨rfl, hH, hT, hi⟩ := hv
  have hts := atoms_spec (ws := ev_ws M) B.pre
  have hown : s.vm.findClass M.1 = some m.cls := by rw [← hM.2.1]; exact findClass_of_methodNamed B.named
  rw [lg_entry_eq]
  refine body (p, e, ev_rm d mc ms, s, m, (as.map (ev_mv G)).toArray, below, meth, c, MQ below (ev_Q G Q) (as.map (ev_mv G)).toArray s mc ms (fun q => G.2.2.2.2.size ≤ q)) ⟨B.exec, B.bytes, hml, hown, fun w hw => hts w (List.mem_cons_of_mem _ hw), hT, hi, hH.1, hH.2.2.1, Nat.le_refl _, Nat.le_refl _, B.notSynchronized⟩ ⟨rfl, rfl, rfl, B.returns, (name_of_methodNamed B.named B.method).1⟩ s.heap [] _ 0 0 hH (fun _ h => by cases h) (ev_L.entry as hn) (by show 0 + mc ≤ mc; omega) (by show 0 + ms ≤ ms; omega)
theorem ev_Met.mono {G : Ev_G} {M : Ev_M} {d mc ms : Nat} {as : List Value} {w : Ev_W} {Q Q' : Option Value → Ev_W → Prop} (h : ev_Met G M d mc ms as w Q) (hq : ∀ v w', Q v w' → Q' v w') : ev_Met G M d mc ms as w Q' := by
  intro p e ha hc hk s m args below hf happ hP hK
  obtain ⟨n, o, h1, h2, h3, ⟨v, w', e1, e2, e3⟩, h5⟩ := h p e ha hc hk s m args below hf happ hP hK
  exact ⟨n, o, h1, h2, h3, ⟨v, w', e1, e2, hq v w' e3⟩, h5⟩
end
