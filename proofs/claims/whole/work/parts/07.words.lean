theorem ev_mem {w : Cond} (h : w ∈ lw_tbl) (g : ev_good w = true) : w ∈ ev_tbl := List.mem_filter.mpr ⟨h, g⟩
theorem m_0 : Cond.selects "ElementFiles$Reader" ⟨"ElementFiles$Reader", "readTag", "()I"⟩ ⟨"ElementFiles$Reader", "readTag", "()I"⟩ ∈ ev_tbl := ev_mem (List.mem_of_getElem? (i := 0) (by decide +kernel)) rfl
theorem m_1 : Cond.selects "ElementFiles$Reader" ⟨"ElementFiles$Reader", "nextNumber", "(I)J"⟩ ⟨"ElementFiles$Reader", "nextNumber", "(I)J"⟩ ∈ ev_tbl := ev_mem (List.mem_of_getElem? (i := 1) (by decide +kernel)) rfl
theorem m_2 : Cond.selects "ElementFiles$Reader" ⟨"ElementFiles$Reader", "readSize", "()I"⟩ ⟨"ElementFiles$Reader", "readSize", "()I"⟩ ∈ ev_tbl := ev_mem (List.mem_of_getElem? (i := 2) (by decide +kernel)) rfl
theorem m_3 : Cond.selects "ElementFiles$Reader" ⟨"ElementFiles$Reader", "nextVint", "()J"⟩ ⟨"ElementFiles$Reader", "nextVint", "()J"⟩ ∈ ev_tbl := ev_mem (List.mem_of_getElem? (i := 3) (by decide +kernel)) rfl
theorem m_4 : Cond.selects "ElementFiles$Tree" ⟨"ElementFiles$Tree", "putInLine", "(ILElementFiles$Element;)V"⟩ ⟨"ElementFiles$Tree", "putInLine", "(ILElementFiles$Element;)V"⟩ ∈ ev_tbl := ev_mem (List.mem_of_getElem? (i := 4) (by decide +kernel)) rfl
theorem m_5 : Cond.selects "ElementFiles$Reader" ⟨"ElementFiles$Reader", "readData", "()I"⟩ ⟨"ElementFiles$Reader", "readData", "()I"⟩ ∈ ev_tbl := ev_mem (List.mem_of_getElem? (i := 5) (by decide +kernel)) rfl
theorem m_6 : Cond.selects "ElementFiles$Reader" ⟨"ElementFiles$Reader", "readText", "(LElementFiles$Element;)Z"⟩ ⟨"ElementFiles$Reader", "readText", "(LElementFiles$Element;)Z"⟩ ∈ ev_tbl := ev_mem (List.mem_of_getElem? (i := 6) (by decide +kernel)) rfl
theorem m_7 : Cond.selects "ElementFiles$Reader" ⟨"ElementFiles$Reader", "readBlockHead", "(LElementFiles$Element;)I"⟩ ⟨"ElementFiles$Reader", "readBlockHead", "(LElementFiles$Element;)I"⟩ ∈ ev_tbl := ev_mem (List.mem_of_getElem? (i := 7) (by decide +kernel)) rfl
theorem m_8 : Cond.selects "ElementFiles$Reader" ⟨"ElementFiles$Reader", "nextByte", "()I"⟩ ⟨"ElementFiles$Reader", "nextByte", "()I"⟩ ∈ ev_tbl := ev_mem (List.mem_of_getElem? (i := 8) (by decide +kernel)) rfl
theorem m_9 : Cond.selects "ElementFiles$Reader" ⟨"ElementFiles$Reader", "readSizes", "(LElementFiles$Element;I)Z"⟩ ⟨"ElementFiles$Reader", "readSizes", "(LElementFiles$Element;I)Z"⟩ ∈ ev_tbl := ev_mem (List.mem_of_getElem? (i := 9) (by decide +kernel)) rfl
theorem m_10 : Cond.selects "ElementFiles$Reader" ⟨"ElementFiles$Reader", "shareEvenly", "(LElementFiles$Element;I)Z"⟩ ⟨"ElementFiles$Reader", "shareEvenly", "(LElementFiles$Element;I)Z"⟩ ∈ ev_tbl := ev_mem (List.mem_of_getElem? (i := 10) (by decide +kernel)) rfl
theorem m_11 : Cond.selects "ElementFiles$Reader" ⟨"ElementFiles$Reader", "nextSizeOfBytes", "()J"⟩ ⟨"ElementFiles$Reader", "nextSizeOfBytes", "()J"⟩ ∈ ev_tbl := ev_mem (List.mem_of_getElem? (i := 11) (by decide +kernel)) rfl
theorem m_12 : Cond.selects "ElementFiles$Reader" ⟨"ElementFiles$Reader", "storeRest", "(LElementFiles$Element;)V"⟩ ⟨"ElementFiles$Reader", "storeRest", "(LElementFiles$Element;)V"⟩ ∈ ev_tbl := ev_mem (List.mem_of_getElem? (i := 12) (by decide +kernel)) rfl
theorem m_13 : Cond.selects "ElementFiles$Reader" ⟨"ElementFiles$Reader", "readCheck", "(LElementFiles$Element;)Z"⟩ ⟨"ElementFiles$Reader", "readCheck", "(LElementFiles$Element;)Z"⟩ ∈ ev_tbl := ev_mem (List.mem_of_getElem? (i := 13) (by decide +kernel)) rfl
theorem m_14 : Cond.selects "ElementFiles$Frames" ⟨"ElementFiles$Frames", "areEven", "()Z"⟩ ⟨"ElementFiles$Frames", "areEven", "()Z"⟩ ∈ ev_tbl := ev_mem (List.mem_of_getElem? (i := 14) (by decide +kernel)) rfl
theorem m_15 : Cond.selects "ElementFiles$Writer" ⟨"ElementFiles$Writer", "putLeaf", "(LElementFiles$Element;LElementFiles$Row;)V"⟩ ⟨"ElementFiles$Writer", "putLeaf", "(LElementFiles$Element;LElementFiles$Row;)V"⟩ ∈ ev_tbl := ev_mem (List.mem_of_getElem? (i := 15) (by decide +kernel)) rfl
theorem m_16 : Cond.selects "ElementFiles$Writer" ⟨"ElementFiles$Writer", "putStored", "(LElementFiles$Element;LElementFiles$Row;)V"⟩ ⟨"ElementFiles$Writer", "putStored", "(LElementFiles$Element;LElementFiles$Row;)V"⟩ ∈ ev_tbl := ev_mem (List.mem_of_getElem? (i := 16) (by decide +kernel)) rfl
theorem m_17 : Cond.selects "ElementFiles$Writer" ⟨"ElementFiles$Writer", "putHeader", "(LElementFiles$Element;Z)V"⟩ ⟨"ElementFiles$Writer", "putHeader", "(LElementFiles$Element;Z)V"⟩ ∈ ev_tbl := ev_mem (List.mem_of_getElem? (i := 17) (by decide +kernel)) rfl
theorem m_18 : Cond.selects "ElementFiles$Writer" ⟨"ElementFiles$Writer", "fillCheck", "(LElementFiles$Element;)V"⟩ ⟨"ElementFiles$Writer", "fillCheck", "(LElementFiles$Element;)V"⟩ ∈ ev_tbl := ev_mem (List.mem_of_getElem? (i := 18) (by decide +kernel)) rfl
theorem m_19 : Cond.selects "ElementFiles" ⟨"ElementFiles", "segmentAt", "(I)LElementFiles$Element;"⟩ ⟨"ElementFiles", "segmentAt", "(I)LElementFiles$Element;"⟩ ∈ ev_tbl := ev_mem (List.mem_of_getElem? (i := 19) (by decide +kernel)) rfl
theorem m_20 : Cond.selects "ElementFiles$Finder" ⟨"ElementFiles$Finder", "countKeyBlocks", "(LElementFiles$Element;)I"⟩ ⟨"ElementFiles$Finder", "countKeyBlocks", "(LElementFiles$Element;)I"⟩ ∈ ev_tbl := ev_mem (List.mem_of_getElem? (i := 20) (by decide +kernel)) rfl
theorem m_21 : Cond.selects "ElementFiles$Finder" ⟨"ElementFiles$Finder", "addCue", "(LElementFiles$Element;LElementFiles$Element;I)V"⟩ ⟨"ElementFiles$Finder", "addCue", "(LElementFiles$Element;LElementFiles$Element;I)V"⟩ ∈ ev_tbl := ev_mem (List.mem_of_getElem? (i := 21) (by decide +kernel)) rfl
theorem m_22 : Cond.selects "ElementFiles$Finder" ⟨"ElementFiles$Finder", "momentOf", "(LElementFiles$Element;)J"⟩ ⟨"ElementFiles$Finder", "momentOf", "(LElementFiles$Element;)J"⟩ ∈ ev_tbl := ev_mem (List.mem_of_getElem? (i := 22) (by decide +kernel)) rfl
theorem m_23 : Cond.selects "ElementFiles$Finder" ⟨"ElementFiles$Finder", "firstNumber", "(LElementFiles$Element;LElementFiles$Sort;)J"⟩ ⟨"ElementFiles$Finder", "firstNumber", "(LElementFiles$Element;LElementFiles$Sort;)J"⟩ ∈ ev_tbl := ev_mem (List.mem_of_getElem? (i := 23) (by decide +kernel)) rfl
theorem m_24 : Cond.selects "ElementFiles$Finder" ⟨"ElementFiles$Finder", "addNumber", "(LElementFiles$Element;LElementFiles$Sort;J)V"⟩ ⟨"ElementFiles$Finder", "addNumber", "(LElementFiles$Element;LElementFiles$Sort;J)V"⟩ ∈ ev_tbl := ev_mem (List.mem_of_getElem? (i := 24) (by decide +kernel)) rfl
theorem m_25 : Cond.selects "ElementFiles$Finder" ⟨"ElementFiles$Finder", "blockWithBefore", "(LElementFiles$Element;J)I"⟩ ⟨"ElementFiles$Finder", "blockWithBefore", "(LElementFiles$Element;J)I"⟩ ∈ ev_tbl := ev_mem (List.mem_of_getElem? (i := 25) (by decide +kernel)) rfl
theorem m_26 : Cond.selects "ElementFilesModel" ⟨"ElementFilesModel", "readElement", "()I"⟩ ⟨"ElementFilesModel", "readElement", "()I"⟩ ∈ ev_tbl := ev_mem (List.mem_of_getElem? (i := 26) (by decide +kernel)) rfl
theorem m_27 : Cond.selects "ElementFilesModel" ⟨"ElementFilesModel", "readId", "(I)I"⟩ ⟨"ElementFilesModel", "readId", "(I)I"⟩ ∈ ev_tbl := ev_mem (List.mem_of_getElem? (i := 27) (by decide +kernel)) rfl
theorem m_28 : Cond.selects "ElementFilesModel" ⟨"ElementFilesModel", "masterId", "()I"⟩ ⟨"ElementFilesModel", "masterId", "()I"⟩ ∈ ev_tbl := ev_mem (List.mem_of_getElem? (i := 28) (by decide +kernel)) rfl
theorem m_29 : Cond.selects "ElementFilesModel" ⟨"ElementFilesModel", "children", "(I)I"⟩ ⟨"ElementFilesModel", "children", "(I)I"⟩ ∈ ev_tbl := ev_mem (List.mem_of_getElem? (i := 29) (by decide +kernel)) rfl
theorem m_30 : Cond.selects "ElementFilesModel" ⟨"ElementFilesModel", "readSizeOf", "(I)I"⟩ ⟨"ElementFilesModel", "readSizeOf", "(I)I"⟩ ∈ ev_tbl := ev_mem (List.mem_of_getElem? (i := 30) (by decide +kernel)) rfl
theorem m_31 : Cond.selects "ElementFilesModel" ⟨"ElementFilesModel", "readVint", "(I)I"⟩ ⟨"ElementFilesModel", "readVint", "(I)I"⟩ ∈ ev_tbl := ev_mem (List.mem_of_getElem? (i := 31) (by decide +kernel)) rfl
theorem m_32 : Cond.selects "ElementFilesModel" ⟨"ElementFilesModel", "readData", "(II)Z"⟩ ⟨"ElementFilesModel", "readData", "(II)Z"⟩ ∈ ev_tbl := ev_mem (List.mem_of_getElem? (i := 32) (by decide +kernel)) rfl
theorem m_33 : Cond.selects "ElementFilesModel" ⟨"ElementFilesModel", "readNumber", "(I)Z"⟩ ⟨"ElementFilesModel", "readNumber", "(I)Z"⟩ ∈ ev_tbl := ev_mem (List.mem_of_getElem? (i := 33) (by decide +kernel)) rfl
theorem m_34 : Cond.selects "ElementFilesModel" ⟨"ElementFilesModel", "readText", "(I)Z"⟩ ⟨"ElementFilesModel", "readText", "(I)Z"⟩ ∈ ev_tbl := ev_mem (List.mem_of_getElem? (i := 34) (by decide +kernel)) rfl
theorem m_35 : Cond.selects "ElementFilesModel" ⟨"ElementFilesModel", "readBlock", "(I)Z"⟩ ⟨"ElementFilesModel", "readBlock", "(I)Z"⟩ ∈ ev_tbl := ev_mem (List.mem_of_getElem? (i := 35) (by decide +kernel)) rfl
theorem m_36 : Cond.selects "ElementFilesModel" ⟨"ElementFilesModel", "readSizes", "(III)Z"⟩ ⟨"ElementFilesModel", "readSizes", "(III)Z"⟩ ∈ ev_tbl := ev_mem (List.mem_of_getElem? (i := 36) (by decide +kernel)) rfl
theorem m_37 : Cond.selects "ElementFilesModel" ⟨"ElementFilesModel", "readSize", "(IIII)I"⟩ ⟨"ElementFilesModel", "readSize", "(IIII)I"⟩ ∈ ev_tbl := ev_mem (List.mem_of_getElem? (i := 37) (by decide +kernel)) rfl
theorem m_38 : Cond.selects "ElementFilesModel" ⟨"ElementFilesModel", "keep", "(I)V"⟩ ⟨"ElementFilesModel", "keep", "(I)V"⟩ ∈ ev_tbl := ev_mem (List.mem_of_getElem? (i := 38) (by decide +kernel)) rfl
theorem m_39 : Cond.selects "ElementFilesModel" ⟨"ElementFilesModel", "readSum", "(II)Z"⟩ ⟨"ElementFilesModel", "readSum", "(II)Z"⟩ ∈ ev_tbl := ev_mem (List.mem_of_getElem? (i := 39) (by decide +kernel)) rfl
theorem m_40 : Cond.selects "ElementFilesModel" ⟨"ElementFilesModel", "isElement", "(I)Z"⟩ ⟨"ElementFilesModel", "isElement", "(I)Z"⟩ ∈ ev_tbl := ev_mem (List.mem_of_getElem? (i := 40) (by decide +kernel)) rfl
theorem m_41 : Cond.selects "ElementFilesModel" ⟨"ElementFilesModel", "insert", "(IIJ)I"⟩ ⟨"ElementFilesModel", "insert", "(IIJ)I"⟩ ∈ ev_tbl := ev_mem (List.mem_of_getElem? (i := 41) (by decide +kernel)) rfl
theorem m_42 : Cond.selects "ElementFilesModel" ⟨"ElementFilesModel", "behind", "(I)I"⟩ ⟨"ElementFilesModel", "behind", "(I)I"⟩ ∈ ev_tbl := ev_mem (List.mem_of_getElem? (i := 42) (by decide +kernel)) rfl
theorem m_43 : Cond.selects "ElementFilesModel" ⟨"ElementFilesModel", "isIn", "(II)Z"⟩ ⟨"ElementFilesModel", "isIn", "(II)Z"⟩ ∈ ev_tbl := ev_mem (List.mem_of_getElem? (i := 43) (by decide +kernel)) rfl
theorem m_44 : Cond.selects "ElementFilesModel" ⟨"ElementFilesModel", "move", "(II)V"⟩ ⟨"ElementFilesModel", "move", "(II)V"⟩ ∈ ev_tbl := ev_mem (List.mem_of_getElem? (i := 44) (by decide +kernel)) rfl
theorem m_45 : Cond.selects "ElementFilesModel" ⟨"ElementFilesModel", "isKind", "(II)Z"⟩ ⟨"ElementFilesModel", "isKind", "(II)Z"⟩ ∈ ev_tbl := ev_mem (List.mem_of_getElem? (i := 45) (by decide +kernel)) rfl
theorem m_46 : Cond.selects "ElementFilesModel" ⟨"ElementFilesModel", "is", "(II)Z"⟩ ⟨"ElementFilesModel", "is", "(II)Z"⟩ ∈ ev_tbl := ev_mem (List.mem_of_getElem? (i := 46) (by decide +kernel)) rfl
theorem m_47 : Cond.selects "ElementFilesModel" ⟨"ElementFilesModel", "evenHands", "()Z"⟩ ⟨"ElementFilesModel", "evenHands", "()Z"⟩ ∈ ev_tbl := ev_mem (List.mem_of_getElem? (i := 47) (by decide +kernel)) rfl
theorem m_48 : Cond.selects "ElementFilesModel" ⟨"ElementFilesModel", "child", "(II)I"⟩ ⟨"ElementFilesModel", "child", "(II)I"⟩ ∈ ev_tbl := ev_mem (List.mem_of_getElem? (i := 48) (by decide +kernel)) rfl
theorem m_49 : Cond.selects "ElementFilesModel" ⟨"ElementFilesModel", "measure", "(Z)V"⟩ ⟨"ElementFilesModel", "measure", "(Z)V"⟩ ∈ ev_tbl := ev_mem (List.mem_of_getElem? (i := 49) (by decide +kernel)) rfl
theorem m_50 : Cond.selects "ElementFilesModel" ⟨"ElementFilesModel", "blockBytes", "(I)I"⟩ ⟨"ElementFilesModel", "blockBytes", "(I)I"⟩ ∈ ev_tbl := ev_mem (List.mem_of_getElem? (i := 50) (by decide +kernel)) rfl
theorem m_51 : Cond.selects "ElementFilesModel" ⟨"ElementFilesModel", "isLive", "(IZ)Z"⟩ ⟨"ElementFilesModel", "isLive", "(IZ)Z"⟩ ∈ ev_tbl := ev_mem (List.mem_of_getElem? (i := 51) (by decide +kernel)) rfl
theorem m_52 : Cond.selects "ElementFilesModel" ⟨"ElementFilesModel", "putBytes", "(JI)V"⟩ ⟨"ElementFilesModel", "putBytes", "(JI)V"⟩ ∈ ev_tbl := ev_mem (List.mem_of_getElem? (i := 52) (by decide +kernel)) rfl
theorem m_53 : Cond.selects "ElementFilesModel" ⟨"ElementFilesModel", "put", "(I)V"⟩ ⟨"ElementFilesModel", "put", "(I)V"⟩ ∈ ev_tbl := ev_mem (List.mem_of_getElem? (i := 53) (by decide +kernel)) rfl
theorem m_54 : Cond.selects "ElementFilesModel" ⟨"ElementFilesModel", "putVint", "(JI)V"⟩ ⟨"ElementFilesModel", "putVint", "(JI)V"⟩ ∈ ev_tbl := ev_mem (List.mem_of_getElem? (i := 54) (by decide +kernel)) rfl
theorem m_55 : Cond.selects "ElementFilesModel" ⟨"ElementFilesModel", "putData", "(I)V"⟩ ⟨"ElementFilesModel", "putData", "(I)V"⟩ ∈ ev_tbl := ev_mem (List.mem_of_getElem? (i := 55) (by decide +kernel)) rfl
theorem m_56 : Cond.selects "ElementFilesModel" ⟨"ElementFilesModel", "putBlock", "(I)V"⟩ ⟨"ElementFilesModel", "putBlock", "(I)V"⟩ ∈ ev_tbl := ev_mem (List.mem_of_getElem? (i := 56) (by decide +kernel)) rfl
theorem m_57 : Cond.selects "ElementFilesModel" ⟨"ElementFilesModel", "fillSum", "(I)V"⟩ ⟨"ElementFilesModel", "fillSum", "(I)V"⟩ ∈ ev_tbl := ev_mem (List.mem_of_getElem? (i := 57) (by decide +kernel)) rfl
theorem m_58 : Cond.selects "ElementFilesModel" ⟨"ElementFilesModel", "isBlockOf", "(II)Z"⟩ ⟨"ElementFilesModel", "isBlockOf", "(II)Z"⟩ ∈ ev_tbl := ev_mem (List.mem_of_getElem? (i := 58) (by decide +kernel)) rfl
theorem m_59 : Cond.selects "ElementFilesModel" ⟨"ElementFilesModel", "remove", "(I)V"⟩ ⟨"ElementFilesModel", "remove", "(I)V"⟩ ∈ ev_tbl := ev_mem (List.mem_of_getElem? (i := 59) (by decide +kernel)) rfl
theorem m_60 : Cond.selects "ElementFilesModel" ⟨"ElementFilesModel", "moment", "(I)J"⟩ ⟨"ElementFilesModel", "moment", "(I)J"⟩ ∈ ev_tbl := ev_mem (List.mem_of_getElem? (i := 60) (by decide +kernel)) rfl
theorem m_61 : Cond.selects "ElementFilesModel" ⟨"ElementFilesModel", "first", "(II)J"⟩ ⟨"ElementFilesModel", "first", "(II)J"⟩ ∈ ev_tbl := ev_mem (List.mem_of_getElem? (i := 61) (by decide +kernel)) rfl
theorem m_62 : Cond.initialized "ElementFilesLaw" ∈ ev_tbl := ev_mem (List.mem_of_getElem? (i := 62) (by decide +kernel)) rfl
theorem m_63 : Cond.initialized "ElementFiles" ∈ ev_tbl := ev_mem (List.mem_of_getElem? (i := 63) (by decide +kernel)) rfl
theorem m_64 : Cond.initialized "ElementFiles$Row" ∈ ev_tbl := ev_mem (List.mem_of_getElem? (i := 64) (by decide +kernel)) rfl
theorem m_65 : Cond.initialized "ElementFiles$Frames" ∈ ev_tbl := ev_mem (List.mem_of_getElem? (i := 65) (by decide +kernel)) rfl
theorem m_66 : Cond.initialized "ElementFiles$Tree" ∈ ev_tbl := ev_mem (List.mem_of_getElem? (i := 66) (by decide +kernel)) rfl
theorem m_67 : Cond.initialized "ElementFiles$Reader" ∈ ev_tbl := ev_mem (List.mem_of_getElem? (i := 67) (by decide +kernel)) rfl
theorem m_68 : Cond.initialized "ElementFiles$Writer" ∈ ev_tbl := ev_mem (List.mem_of_getElem? (i := 68) (by decide +kernel)) rfl
theorem m_69 : Cond.initialized "ElementFiles$Finder" ∈ ev_tbl := ev_mem (List.mem_of_getElem? (i := 69) (by decide +kernel)) rfl
theorem m_70 : Cond.initialized "ElementFilesModel" ∈ ev_tbl := ev_mem (List.mem_of_getElem? (i := 70) (by decide +kernel)) rfl
theorem m_71 : Cond.initialized "java/lang/Enum" ∈ ev_tbl := ev_mem (List.mem_of_getElem? (i := 71) (by decide +kernel)) rfl
theorem m_72 : Cond.initialized "ElementFiles$Sort" ∈ ev_tbl := ev_mem (List.mem_of_getElem? (i := 72) (by decide +kernel)) rfl
theorem m_73 : Cond.initialized "ElementFiles$Element" ∈ ev_tbl := ev_mem (List.mem_of_getElem? (i := 73) (by decide +kernel)) rfl
theorem m_74 : Cond.initialized "java/lang/Math" ∈ ev_tbl := ev_mem (List.mem_of_getElem? (i := 74) (by decide +kernel)) rfl
theorem m_75 : Cond.classLink "ElementFilesLaw" 7 "ElementFiles" ∈ ev_tbl := ev_mem (List.mem_of_getElem? (i := 75) (by decide +kernel)) rfl
theorem m_76 : Cond.instantiable "ElementFiles" 7 ∈ ev_tbl := ev_mem (List.mem_of_getElem? (i := 76) (by decide +kernel)) rfl
theorem m_77 : Cond.methodLink "ElementFilesLaw" 9 ⟨"ElementFiles", "<init>", "()V"⟩ ∈ ev_tbl := ev_mem (List.mem_of_getElem? (i := 77) (by decide +kernel)) rfl
theorem m_78 : Cond.instanceMethod ⟨"ElementFiles", "<init>", "()V"⟩ ∈ ev_tbl := ev_mem (List.mem_of_getElem? (i := 78) (by decide +kernel)) rfl
theorem m_79 : Cond.code ⟨"ElementFiles", "<init>", "()V"⟩ prog_1_method_1_code 1 none ∈ ev_tbl := ev_mem (List.mem_of_getElem? (i := 79) (by decide +kernel)) rfl
theorem m_80 : Cond.methodLink "ElementFiles" 1 ⟨"java/lang/Object", "<init>", "()V"⟩ ∈ ev_tbl := ev_mem (List.mem_of_getElem? (i := 80) (by decide +kernel)) rfl
theorem m_81 : Cond.instanceMethod ⟨"java/lang/Object", "<init>", "()V"⟩ ∈ ev_tbl := ev_mem (List.mem_of_getElem? (i := 81) (by decide +kernel)) rfl
theorem m_82 : Cond.code ⟨"java/lang/Object", "<init>", "()V"⟩ ⟨#[0xb1]⟩ 1 none ∈ ev_tbl := ev_mem (List.mem_of_getElem? (i := 82) (by decide +kernel)) rfl
theorem m_83 : Cond.classLink "ElementFiles" 7 "ElementFiles$Row" ∈ ev_tbl := ev_mem (List.mem_of_getElem? (i := 83) (by decide +kernel)) rfl
theorem m_84 : Cond.instantiable "ElementFiles$Row" 2 ∈ ev_tbl := ev_mem (List.mem_of_getElem? (i := 84) (by decide +kernel)) rfl
theorem m_85 : Cond.methodLink "ElementFiles" 11 ⟨"ElementFiles$Row", "<init>", "(I)V"⟩ ∈ ev_tbl := ev_mem (List.mem_of_getElem? (i := 85) (by decide +kernel)) rfl
theorem m_86 : Cond.instanceMethod ⟨"ElementFiles$Row", "<init>", "(I)V"⟩ ∈ ev_tbl := ev_mem (List.mem_of_getElem? (i := 86) (by decide +kernel)) rfl
theorem m_87 : Cond.code ⟨"ElementFiles$Row", "<init>", "(I)V"⟩ prog_6_method_1_code 2 none ∈ ev_tbl := ev_mem (List.mem_of_getElem? (i := 87) (by decide +kernel)) rfl
theorem m_88 : Cond.methodLink "ElementFiles$Row" 3 ⟨"java/lang/Object", "<init>", "()V"⟩ ∈ ev_tbl := ev_mem (List.mem_of_getElem? (i := 88) (by decide +kernel)) rfl
theorem m_89 : Cond.fieldLink "ElementFiles$Row" 9 "ElementFiles$Row" "bytes" "[I" ∈ ev_tbl := ev_mem (List.mem_of_getElem? (i := 89) (by decide +kernel)) rfl
theorem m_90 : Cond.fieldLink "ElementFiles$Row" 15 "ElementFiles$Row" "count" "I" ∈ ev_tbl := ev_mem (List.mem_of_getElem? (i := 90) (by decide +kernel)) rfl
theorem m_91 : Cond.fieldLink "ElementFiles" 62 "ElementFiles$Row" "count" "I" ∈ ev_tbl := ev_mem (List.mem_of_getElem? (i := 91) (by decide +kernel)) rfl
theorem m_92 : Cond.fieldLink "ElementFiles$Writer" 33 "ElementFiles$Row" "count" "I" ∈ ev_tbl := ev_mem (List.mem_of_getElem? (i := 92) (by decide +kernel)) rfl
theorem m_93 : Cond.fieldLink "ElementFiles$Reader" 35 "ElementFiles$Row" "count" "I" ∈ ev_tbl := ev_mem (List.mem_of_getElem? (i := 93) (by decide +kernel)) rfl
theorem m_94 : Cond.arrayClass .int ∈ ev_tbl := ev_mem (List.mem_of_getElem? (i := 99) (by decide +kernel)) rfl
theorem m_95 : Cond.classLink "ElementFiles" 21 "ElementFiles$Frames" ∈ ev_tbl := ev_mem (List.mem_of_getElem? (i := 100) (by decide +kernel)) rfl
theorem m_96 : Cond.instantiable "ElementFiles$Frames" 4 ∈ ev_tbl := ev_mem (List.mem_of_getElem? (i := 101) (by decide +kernel)) rfl
theorem m_97 : Cond.instanceMethod ⟨"ElementFiles$Frames", "<init>", "()V"⟩ ∈ ev_tbl := ev_mem (List.mem_of_getElem? (i := 103) (by decide +kernel)) rfl
theorem m_98 : Cond.code ⟨"ElementFiles$Frames", "<init>", "()V"⟩ prog_4_method_1_code 1 none ∈ ev_tbl := ev_mem (List.mem_of_getElem? (i := 104) (by decide +kernel)) rfl
theorem m_99 : Cond.methodLink "ElementFiles$Frames" 3 ⟨"java/lang/Object", "<init>", "()V"⟩ ∈ ev_tbl := ev_mem (List.mem_of_getElem? (i := 105) (by decide +kernel)) rfl
theorem m_100 : Cond.fieldLink "ElementFiles$Frames" 9 "ElementFiles$Frames" "sizes" "[I" ∈ ev_tbl := ev_mem (List.mem_of_getElem? (i := 106) (by decide +kernel)) rfl
theorem m_101 : Cond.fieldLink "ElementFiles$Frames" 15 "ElementFiles$Frames" "bytes" "[I" ∈ ev_tbl := ev_mem (List.mem_of_getElem? (i := 107) (by decide +kernel)) rfl
theorem m_102 : Cond.fieldLink "ElementFiles$Frames" 18 "ElementFiles$Frames" "count" "I" ∈ ev_tbl := ev_mem (List.mem_of_getElem? (i := 108) (by decide +kernel)) rfl
theorem m_103 : Cond.fieldLink "ElementFiles" 141 "ElementFiles$Frames" "count" "I" ∈ ev_tbl := ev_mem (List.mem_of_getElem? (i := 109) (by decide +kernel)) rfl
theorem m_104 : Cond.fieldLink "ElementFiles$Frames" 22 "ElementFiles$Frames" "filled" "I" ∈ ev_tbl := ev_mem (List.mem_of_getElem? (i := 110) (by decide +kernel)) rfl
theorem m_105 : Cond.fieldLink "ElementFiles" 148 "ElementFiles$Frames" "filled" "I" ∈ ev_tbl := ev_mem (List.mem_of_getElem? (i := 111) (by decide +kernel)) rfl
theorem m_106 : Cond.classLink "ElementFiles" 28 "ElementFiles$Tree" ∈ ev_tbl := ev_mem (List.mem_of_getElem? (i := 121) (by decide +kernel)) rfl
theorem m_107 : Cond.instantiable "ElementFiles$Tree" 5 ∈ ev_tbl := ev_mem (List.mem_of_getElem? (i := 122) (by decide +kernel)) rfl
theorem m_108 : Cond.instanceMethod ⟨"ElementFiles$Tree", "<init>", "()V"⟩ ∈ ev_tbl := ev_mem (List.mem_of_getElem? (i := 124) (by decide +kernel)) rfl
theorem m_109 : Cond.code ⟨"ElementFiles$Tree", "<init>", "()V"⟩ prog_8_method_1_code 1 none ∈ ev_tbl := ev_mem (List.mem_of_getElem? (i := 125) (by decide +kernel)) rfl
theorem m_110 : Cond.methodLink "ElementFiles$Tree" 3 ⟨"java/lang/Object", "<init>", "()V"⟩ ∈ ev_tbl := ev_mem (List.mem_of_getElem? (i := 126) (by decide +kernel)) rfl
theorem m_111 : Cond.classLink "ElementFiles$Tree" 9 "ElementFiles$Element" ∈ ev_tbl := ev_mem (List.mem_of_getElem? (i := 127) (by decide +kernel)) rfl
theorem m_112 : Cond.fieldLink "ElementFiles$Tree" 11 "ElementFiles$Tree" "line" "[LElementFiles$Element;" ∈ ev_tbl := ev_mem (List.mem_of_getElem? (i := 129) (by decide +kernel)) rfl
theorem m_113 : Cond.fieldLink "ElementFiles$Writer" 34 "ElementFiles$Tree" "line" "[LElementFiles$Element;" ∈ ev_tbl := ev_mem (List.mem_of_getElem? (i := 130) (by decide +kernel)) rfl
theorem m_114 : Cond.fieldLink "ElementFiles$Finder" 47 "ElementFiles$Tree" "line" "[LElementFiles$Element;" ∈ ev_tbl := ev_mem (List.mem_of_getElem? (i := 131) (by decide +kernel)) rfl
theorem m_115 : Cond.fieldLink "ElementFiles$Tree" 17 "ElementFiles$Tree" "aside" "[LElementFiles$Element;" ∈ ev_tbl := ev_mem (List.mem_of_getElem? (i := 132) (by decide +kernel)) rfl
theorem m_116 : Cond.fieldLink "ElementFiles$Tree" 24 "ElementFiles$Tree" "count" "I" ∈ ev_tbl := ev_mem (List.mem_of_getElem? (i := 133) (by decide +kernel)) rfl
theorem m_117 : Cond.fieldLink "ElementFiles$Writer" 27 "ElementFiles$Tree" "count" "I" ∈ ev_tbl := ev_mem (List.mem_of_getElem? (i := 134) (by decide +kernel)) rfl
theorem m_118 : Cond.fieldLink "ElementFiles$Finder" 19 "ElementFiles$Tree" "count" "I" ∈ ev_tbl := ev_mem (List.mem_of_getElem? (i := 135) (by decide +kernel)) rfl
theorem m_119 : Cond.fieldLink "ElementFiles$Reader" 50 "ElementFiles$Tree" "count" "I" ∈ ev_tbl := ev_mem (List.mem_of_getElem? (i := 136) (by decide +kernel)) rfl
theorem m_120 : Cond.fieldLink "ElementFiles$Tree" 20 "ElementFiles$Tree" "store" "[I" ∈ ev_tbl := ev_mem (List.mem_of_getElem? (i := 137) (by decide +kernel)) rfl
theorem m_121 : Cond.fieldLink "ElementFiles$Tree" 28 "ElementFiles$Tree" "stored" "I" ∈ ev_tbl := ev_mem (List.mem_of_getElem? (i := 138) (by decide +kernel)) rfl
theorem m_122 : Cond.classLink "ElementFiles" 35 "ElementFiles$Reader" ∈ ev_tbl := ev_mem (List.mem_of_getElem? (i := 150) (by decide +kernel)) rfl
theorem m_123 : Cond.instantiable "ElementFiles$Reader" 9 ∈ ev_tbl := ev_mem (List.mem_of_getElem? (i := 151) (by decide +kernel)) rfl
theorem m_124 : Cond.methodLink "ElementFiles" 37 ⟨"ElementFiles$Reader", "<init>", "(LElementFiles$Row;LElementFiles$Tree;)V"⟩ ∈ ev_tbl := ev_mem (List.mem_of_getElem? (i := 152) (by decide +kernel)) rfl
theorem m_125 : Cond.instanceMethod ⟨"ElementFiles$Reader", "<init>", "(LElementFiles$Row;LElementFiles$Tree;)V"⟩ ∈ ev_tbl := ev_mem (List.mem_of_getElem? (i := 153) (by decide +kernel)) rfl
theorem m_126 : Cond.code ⟨"ElementFiles$Reader", "<init>", "(LElementFiles$Row;LElementFiles$Tree;)V"⟩ prog_5_method_1_code 3 none ∈ ev_tbl := ev_mem (List.mem_of_getElem? (i := 154) (by decide +kernel)) rfl
theorem m_127 : Cond.methodLink "ElementFiles$Reader" 3 ⟨"java/lang/Object", "<init>", "()V"⟩ ∈ ev_tbl := ev_mem (List.mem_of_getElem? (i := 155) (by decide +kernel)) rfl
theorem m_128 : Cond.fieldLink "ElementFiles$Reader" 15 "ElementFiles$Reader" "source" "LElementFiles$Row;" ∈ ev_tbl := ev_mem (List.mem_of_getElem? (i := 156) (by decide +kernel)) rfl
theorem m_129 : Cond.fieldLink "ElementFiles$Reader" 19 "ElementFiles$Reader" "tree" "LElementFiles$Tree;" ∈ ev_tbl := ev_mem (List.mem_of_getElem? (i := 157) (by decide +kernel)) rfl
theorem m_130 : Cond.fieldLink "ElementFiles$Reader" 9 "ElementFiles$Reader" "faultPlace" "I" ∈ ev_tbl := ev_mem (List.mem_of_getElem? (i := 158) (by decide +kernel)) rfl
theorem m_131 : Cond.fieldLink "ElementFiles" 81 "ElementFiles$Reader" "faultPlace" "I" ∈ ev_tbl := ev_mem (List.mem_of_getElem? (i := 159) (by decide +kernel)) rfl
theorem m_132 : Cond.fieldLink "ElementFiles$Reader" 28 "ElementFiles$Reader" "master" "LElementFiles$Element;" ∈ ev_tbl := ev_mem (List.mem_of_getElem? (i := 160) (by decide +kernel)) rfl
theorem m_133 : Cond.fieldLink "ElementFiles$Reader" 32 "ElementFiles$Reader" "place" "I" ∈ ev_tbl := ev_mem (List.mem_of_getElem? (i := 161) (by decide +kernel)) rfl
theorem m_134 : Cond.fieldLink "ElementFiles$Reader" 57 "ElementFiles$Reader" "end" "I" ∈ ev_tbl := ev_mem (List.mem_of_getElem? (i := 162) (by decide +kernel)) rfl
theorem m_135 : Cond.fieldLink "ElementFiles$Reader" 69 "ElementFiles$Reader" "tag" "I" ∈ ev_tbl := ev_mem (List.mem_of_getElem? (i := 163) (by decide +kernel)) rfl
theorem m_136 : Cond.fieldLink "ElementFiles$Reader" 101 "ElementFiles$Reader" "vintIsFull" "Z" ∈ ev_tbl := ev_mem (List.mem_of_getElem? (i := 164) (by decide +kernel)) rfl
theorem m_137 : Cond.fieldLink "ElementFiles$Reader" 176 "ElementFiles$Reader" "vintLength" "I" ∈ ev_tbl := ev_mem (List.mem_of_getElem? (i := 165) (by decide +kernel)) rfl
theorem m_138 : Cond.classLink "ElementFiles" 44 "ElementFiles$Writer" ∈ ev_tbl := ev_mem (List.mem_of_getElem? (i := 185) (by decide +kernel)) rfl
theorem m_139 : Cond.instantiable "ElementFiles$Writer" 3 ∈ ev_tbl := ev_mem (List.mem_of_getElem? (i := 186) (by decide +kernel)) rfl
theorem m_140 : Cond.methodLink "ElementFiles" 46 ⟨"ElementFiles$Writer", "<init>", "(LElementFiles$Tree;LElementFiles$Row;)V"⟩ ∈ ev_tbl := ev_mem (List.mem_of_getElem? (i := 187) (by decide +kernel)) rfl
theorem m_141 : Cond.instanceMethod ⟨"ElementFiles$Writer", "<init>", "(LElementFiles$Tree;LElementFiles$Row;)V"⟩ ∈ ev_tbl := ev_mem (List.mem_of_getElem? (i := 188) (by decide +kernel)) rfl
theorem m_142 : Cond.code ⟨"ElementFiles$Writer", "<init>", "(LElementFiles$Tree;LElementFiles$Row;)V"⟩ prog_9_method_1_code 3 none ∈ ev_tbl := ev_mem (List.mem_of_getElem? (i := 189) (by decide +kernel)) rfl
theorem m_143 : Cond.methodLink "ElementFiles$Writer" 3 ⟨"java/lang/Object", "<init>", "()V"⟩ ∈ ev_tbl := ev_mem (List.mem_of_getElem? (i := 190) (by decide +kernel)) rfl
theorem m_144 : Cond.classLink "ElementFiles$Writer" 9 "ElementFiles$Row" ∈ ev_tbl := ev_mem (List.mem_of_getElem? (i := 191) (by decide +kernel)) rfl
theorem m_145 : Cond.methodLink "ElementFiles$Writer" 11 ⟨"ElementFiles$Row", "<init>", "(I)V"⟩ ∈ ev_tbl := ev_mem (List.mem_of_getElem? (i := 192) (by decide +kernel)) rfl
theorem m_146 : Cond.fieldLink "ElementFiles$Writer" 20 "ElementFiles$Writer" "tree" "LElementFiles$Tree;" ∈ ev_tbl := ev_mem (List.mem_of_getElem? (i := 193) (by decide +kernel)) rfl
theorem m_147 : Cond.fieldLink "ElementFiles$Writer" 24 "ElementFiles$Writer" "target" "LElementFiles$Row;" ∈ ev_tbl := ev_mem (List.mem_of_getElem? (i := 194) (by decide +kernel)) rfl
theorem m_148 : Cond.fieldLink "ElementFiles$Writer" 14 "ElementFiles$Writer" "counter" "LElementFiles$Row;" ∈ ev_tbl := ev_mem (List.mem_of_getElem? (i := 195) (by decide +kernel)) rfl
theorem m_149 : Cond.classLink "ElementFiles" 53 "ElementFiles$Finder" ∈ ev_tbl := ev_mem (List.mem_of_getElem? (i := 203) (by decide +kernel)) rfl
theorem m_150 : Cond.instantiable "ElementFiles$Finder" 1 ∈ ev_tbl := ev_mem (List.mem_of_getElem? (i := 204) (by decide +kernel)) rfl
theorem m_151 : Cond.methodLink "ElementFiles" 55 ⟨"ElementFiles$Finder", "<init>", "(LElementFiles$Tree;)V"⟩ ∈ ev_tbl := ev_mem (List.mem_of_getElem? (i := 205) (by decide +kernel)) rfl
theorem m_152 : Cond.instanceMethod ⟨"ElementFiles$Finder", "<init>", "(LElementFiles$Tree;)V"⟩ ∈ ev_tbl := ev_mem (List.mem_of_getElem? (i := 206) (by decide +kernel)) rfl
theorem m_153 : Cond.code ⟨"ElementFiles$Finder", "<init>", "(LElementFiles$Tree;)V"⟩ prog_3_method_1_code 2 none ∈ ev_tbl := ev_mem (List.mem_of_getElem? (i := 207) (by decide +kernel)) rfl
theorem m_154 : Cond.methodLink "ElementFiles$Finder" 3 ⟨"java/lang/Object", "<init>", "()V"⟩ ∈ ev_tbl := ev_mem (List.mem_of_getElem? (i := 208) (by decide +kernel)) rfl
theorem m_155 : Cond.fieldLink "ElementFiles$Finder" 9 "ElementFiles$Finder" "tree" "LElementFiles$Tree;" ∈ ev_tbl := ev_mem (List.mem_of_getElem? (i := 209) (by decide +kernel)) rfl
theorem m_156 : Cond.fieldLink "ElementFiles" 14 "ElementFiles" "fed" "LElementFiles$Row;" ∈ ev_tbl := ev_mem (List.mem_of_getElem? (i := 213) (by decide +kernel)) rfl
theorem m_157 : Cond.fieldLink "ElementFiles" 18 "ElementFiles" "written" "LElementFiles$Row;" ∈ ev_tbl := ev_mem (List.mem_of_getElem? (i := 214) (by decide +kernel)) rfl
theorem m_158 : Cond.fieldLink "ElementFiles" 24 "ElementFiles" "atHand" "LElementFiles$Frames;" ∈ ev_tbl := ev_mem (List.mem_of_getElem? (i := 215) (by decide +kernel)) rfl
theorem m_159 : Cond.fieldLink "ElementFiles" 31 "ElementFiles" "tree" "LElementFiles$Tree;" ∈ ev_tbl := ev_mem (List.mem_of_getElem? (i := 216) (by decide +kernel)) rfl
theorem m_160 : Cond.fieldLink "ElementFiles" 40 "ElementFiles" "reader" "LElementFiles$Reader;" ∈ ev_tbl := ev_mem (List.mem_of_getElem? (i := 217) (by decide +kernel)) rfl
theorem m_161 : Cond.fieldLink "ElementFiles" 49 "ElementFiles" "writer" "LElementFiles$Writer;" ∈ ev_tbl := ev_mem (List.mem_of_getElem? (i := 218) (by decide +kernel)) rfl
theorem m_162 : Cond.fieldLink "ElementFiles" 58 "ElementFiles" "finder" "LElementFiles$Finder;" ∈ ev_tbl := ev_mem (List.mem_of_getElem? (i := 219) (by decide +kernel)) rfl
theorem m_163 : Cond.methodLink "ElementFilesLaw" 15 ⟨"ElementFiles", "feed", "(JI)I"⟩ ∈ ev_tbl := ev_mem (List.mem_of_getElem? (i := 235) (by decide +kernel)) rfl
theorem m_164 : Cond.instanceMethod ⟨"ElementFiles", "feed", "(JI)I"⟩ ∈ ev_tbl := ev_mem (List.mem_of_getElem? (i := 236) (by decide +kernel)) rfl
theorem m_165 : Cond.selects "ElementFiles" ⟨"ElementFiles", "feed", "(JI)I"⟩ ⟨"ElementFiles", "feed", "(JI)I"⟩ ∈ ev_tbl := ev_mem (List.mem_of_getElem? (i := 237) (by decide +kernel)) rfl
theorem m_166 : Cond.code ⟨"ElementFiles", "feed", "(JI)I"⟩ prog_1_method_2_code 4 (some .int) ∈ ev_tbl := ev_mem (List.mem_of_getElem? (i := 238) (by decide +kernel)) rfl
theorem m_167 : Cond.methodLink "ElementFiles" 66 ⟨"ElementFiles$Row", "putNumber", "(JI)V"⟩ ∈ ev_tbl := ev_mem (List.mem_of_getElem? (i := 239) (by decide +kernel)) rfl
theorem m_168 : Cond.instanceMethod ⟨"ElementFiles$Row", "putNumber", "(JI)V"⟩ ∈ ev_tbl := ev_mem (List.mem_of_getElem? (i := 240) (by decide +kernel)) rfl
theorem m_169 : Cond.selects "ElementFiles$Row" ⟨"ElementFiles$Row", "putNumber", "(JI)V"⟩ ⟨"ElementFiles$Row", "putNumber", "(JI)V"⟩ ∈ ev_tbl := ev_mem (List.mem_of_getElem? (i := 241) (by decide +kernel)) rfl
theorem m_170 : Cond.code ⟨"ElementFiles$Row", "putNumber", "(JI)V"⟩ prog_6_method_5_code 5 none ∈ ev_tbl := ev_mem (List.mem_of_getElem? (i := 242) (by decide +kernel)) rfl
theorem m_171 : Cond.methodLink "ElementFiles$Row" 19 ⟨"ElementFiles$Row", "put", "(I)V"⟩ ∈ ev_tbl := ev_mem (List.mem_of_getElem? (i := 243) (by decide +kernel)) rfl
theorem m_172 : Cond.instanceMethod ⟨"ElementFiles$Row", "put", "(I)V"⟩ ∈ ev_tbl := ev_mem (List.mem_of_getElem? (i := 244) (by decide +kernel)) rfl
theorem m_173 : Cond.selects "ElementFiles$Row" ⟨"ElementFiles$Row", "put", "(I)V"⟩ ⟨"ElementFiles$Row", "put", "(I)V"⟩ ∈ ev_tbl := ev_mem (List.mem_of_getElem? (i := 245) (by decide +kernel)) rfl
theorem m_174 : Cond.code ⟨"ElementFiles$Row", "put", "(I)V"⟩ prog_6_method_4_code 2 none ∈ ev_tbl := ev_mem (List.mem_of_getElem? (i := 246) (by decide +kernel)) rfl
theorem m_175 : Cond.methodLink "ElementFilesLaw" 20 ⟨"ElementFiles", "take", "(Z)I"⟩ ∈ ev_tbl := ev_mem (List.mem_of_getElem? (i := 247) (by decide +kernel)) rfl
theorem m_176 : Cond.instanceMethod ⟨"ElementFiles", "take", "(Z)I"⟩ ∈ ev_tbl := ev_mem (List.mem_of_getElem? (i := 248) (by decide +kernel)) rfl
theorem m_177 : Cond.selects "ElementFiles" ⟨"ElementFiles", "take", "(Z)I"⟩ ⟨"ElementFiles", "take", "(Z)I"⟩ ∈ ev_tbl := ev_mem (List.mem_of_getElem? (i := 249) (by decide +kernel)) rfl
theorem m_178 : Cond.code ⟨"ElementFiles", "take", "(Z)I"⟩ prog_1_method_3_code 3 (some .int) ∈ ev_tbl := ev_mem (List.mem_of_getElem? (i := 250) (by decide +kernel)) rfl
theorem m_179 : Cond.methodLink "ElementFiles" 70 ⟨"ElementFiles$Row", "at", "(I)I"⟩ ∈ ev_tbl := ev_mem (List.mem_of_getElem? (i := 251) (by decide +kernel)) rfl
theorem m_180 : Cond.instanceMethod ⟨"ElementFiles$Row", "at", "(I)I"⟩ ∈ ev_tbl := ev_mem (List.mem_of_getElem? (i := 252) (by decide +kernel)) rfl
theorem m_181 : Cond.selects "ElementFiles$Row" ⟨"ElementFiles$Row", "at", "(I)I"⟩ ⟨"ElementFiles$Row", "at", "(I)I"⟩ ∈ ev_tbl := ev_mem (List.mem_of_getElem? (i := 253) (by decide +kernel)) rfl
theorem m_182 : Cond.code ⟨"ElementFiles$Row", "at", "(I)I"⟩ prog_6_method_2_code 2 (some .int) ∈ ev_tbl := ev_mem (List.mem_of_getElem? (i := 254) (by decide +kernel)) rfl
theorem m_183 : Cond.methodLink "ElementFiles" 74 ⟨"ElementFiles$Row", "put", "(I)V"⟩ ∈ ev_tbl := ev_mem (List.mem_of_getElem? (i := 255) (by decide +kernel)) rfl
theorem m_184 : Cond.methodLink "ElementFilesLaw" 25 ⟨"ElementFiles", "out", "(I)I"⟩ ∈ ev_tbl := ev_mem (List.mem_of_getElem? (i := 256) (by decide +kernel)) rfl
theorem m_185 : Cond.instanceMethod ⟨"ElementFiles", "out", "(I)I"⟩ ∈ ev_tbl := ev_mem (List.mem_of_getElem? (i := 257) (by decide +kernel)) rfl
theorem m_186 : Cond.selects "ElementFiles" ⟨"ElementFiles", "out", "(I)I"⟩ ⟨"ElementFiles", "out", "(I)I"⟩ ∈ ev_tbl := ev_mem (List.mem_of_getElem? (i := 258) (by decide +kernel)) rfl
theorem m_187 : Cond.code ⟨"ElementFiles", "out", "(I)I"⟩ prog_1_method_4_code 2 (some .int) ∈ ev_tbl := ev_mem (List.mem_of_getElem? (i := 259) (by decide +kernel)) rfl
theorem m_188 : Cond.methodLink "ElementFilesLaw" 30 ⟨"ElementFiles", "read", "()I"⟩ ∈ ev_tbl := ev_mem (List.mem_of_getElem? (i := 260) (by decide +kernel)) rfl
theorem m_189 : Cond.instanceMethod ⟨"ElementFiles", "read", "()I"⟩ ∈ ev_tbl := ev_mem (List.mem_of_getElem? (i := 261) (by decide +kernel)) rfl
theorem m_190 : Cond.selects "ElementFiles" ⟨"ElementFiles", "read", "()I"⟩ ⟨"ElementFiles", "read", "()I"⟩ ∈ ev_tbl := ev_mem (List.mem_of_getElem? (i := 262) (by decide +kernel)) rfl
theorem m_191 : Cond.code ⟨"ElementFiles", "read", "()I"⟩ prog_1_method_5_code 1 (some .int) ∈ ev_tbl := ev_mem (List.mem_of_getElem? (i := 263) (by decide +kernel)) rfl
theorem m_192 : Cond.methodLink "ElementFiles" 77 ⟨"ElementFiles$Reader", "readTree", "()I"⟩ ∈ ev_tbl := ev_mem (List.mem_of_getElem? (i := 264) (by decide +kernel)) rfl
theorem m_193 : Cond.instanceMethod ⟨"ElementFiles$Reader", "readTree", "()I"⟩ ∈ ev_tbl := ev_mem (List.mem_of_getElem? (i := 265) (by decide +kernel)) rfl
theorem m_194 : Cond.selects "ElementFiles$Reader" ⟨"ElementFiles$Reader", "readTree", "()I"⟩ ⟨"ElementFiles$Reader", "readTree", "()I"⟩ ∈ ev_tbl := ev_mem (List.mem_of_getElem? (i := 266) (by decide +kernel)) rfl
theorem m_195 : Cond.code ⟨"ElementFiles$Reader", "readTree", "()I"⟩ prog_5_method_2_code 4 (some .int) ∈ ev_tbl := ev_mem (List.mem_of_getElem? (i := 267) (by decide +kernel)) rfl
theorem m_196 : Cond.methodLink "ElementFiles$Reader" 23 ⟨"ElementFiles$Tree", "empty", "()V"⟩ ∈ ev_tbl := ev_mem (List.mem_of_getElem? (i := 268) (by decide +kernel)) rfl
theorem m_197 : Cond.instanceMethod ⟨"ElementFiles$Tree", "empty", "()V"⟩ ∈ ev_tbl := ev_mem (List.mem_of_getElem? (i := 269) (by decide +kernel)) rfl
theorem m_198 : Cond.selects "ElementFiles$Tree" ⟨"ElementFiles$Tree", "empty", "()V"⟩ ⟨"ElementFiles$Tree", "empty", "()V"⟩ ∈ ev_tbl := ev_mem (List.mem_of_getElem? (i := 270) (by decide +kernel)) rfl
theorem m_199 : Cond.code ⟨"ElementFiles$Tree", "empty", "()V"⟩ prog_8_method_2_code 1 none ∈ ev_tbl := ev_mem (List.mem_of_getElem? (i := 271) (by decide +kernel)) rfl
theorem m_200 : Cond.methodLink "ElementFiles$Reader" 40 ⟨"ElementFiles$Reader", "readTag", "()I"⟩ ∈ ev_tbl := ev_mem (List.mem_of_getElem? (i := 272) (by decide +kernel)) rfl
theorem m_201 : Cond.instanceMethod ⟨"ElementFiles$Reader", "readTag", "()I"⟩ ∈ ev_tbl := ev_mem (List.mem_of_getElem? (i := 274) (by decide +kernel)) rfl
theorem m_202 : Cond.code ⟨"ElementFiles$Reader", "readTag", "()I"⟩ prog_5_method_3_code 4 (some .int) ∈ ev_tbl := ev_mem (List.mem_of_getElem? (i := 275) (by decide +kernel)) rfl
theorem m_203 : Cond.methodLink "ElementFiles$Reader" 58 ⟨"ElementFiles$Row", "at", "(I)I"⟩ ∈ ev_tbl := ev_mem (List.mem_of_getElem? (i := 276) (by decide +kernel)) rfl
theorem m_204 : Cond.static ⟨"ElementFiles", "vintLengthByFirst", "(I)I"⟩ ∈ ev_tbl := ev_mem (List.mem_of_getElem? (i := 278) (by decide +kernel)) rfl
theorem m_205 : Cond.code ⟨"ElementFiles", "vintLengthByFirst", "(I)I"⟩ prog_1_method_24_code 2 (some .int) ∈ ev_tbl := ev_mem (List.mem_of_getElem? (i := 279) (by decide +kernel)) rfl
theorem m_206 : Cond.methodLink "ElementFiles$Reader" 65 ⟨"ElementFiles$Reader", "nextNumber", "(I)J"⟩ ∈ ev_tbl := ev_mem (List.mem_of_getElem? (i := 280) (by decide +kernel)) rfl
theorem m_207 : Cond.instanceMethod ⟨"ElementFiles$Reader", "nextNumber", "(I)J"⟩ ∈ ev_tbl := ev_mem (List.mem_of_getElem? (i := 282) (by decide +kernel)) rfl
theorem m_208 : Cond.code ⟨"ElementFiles$Reader", "nextNumber", "(I)J"⟩ prog_5_method_14_code 5 (some .long) ∈ ev_tbl := ev_mem (List.mem_of_getElem? (i := 283) (by decide +kernel)) rfl
theorem m_209 : Cond.methodLink "ElementFiles$Reader" 72 ⟨"ElementFiles$Sort", "of", "(I)LElementFiles$Sort;"⟩ ∈ ev_tbl := ev_mem (List.mem_of_getElem? (i := 284) (by decide +kernel)) rfl
theorem m_210 : Cond.static ⟨"ElementFiles$Sort", "of", "(I)LElementFiles$Sort;"⟩ ∈ ev_tbl := ev_mem (List.mem_of_getElem? (i := 285) (by decide +kernel)) rfl
theorem m_211 : Cond.code ⟨"ElementFiles$Sort", "of", "(I)LElementFiles$Sort;"⟩ prog_7_method_4_code 2 (some (.object "ElementFiles$Sort")) ∈ ev_tbl := ev_mem (List.mem_of_getElem? (i := 286) (by decide +kernel)) rfl
theorem m_212 : Cond.fieldLink "ElementFiles$Sort" 89 "ElementFiles$Sort" "ALL" "[LElementFiles$Sort;" ∈ ev_tbl := ev_mem (List.mem_of_getElem? (i := 287) (by decide +kernel)) rfl
theorem m_213 : Cond.fieldLink "ElementFiles$Sort" 54 "ElementFiles$Sort" "FOREIGN" "LElementFiles$Sort;" ∈ ev_tbl := ev_mem (List.mem_of_getElem? (i := 289) (by decide +kernel)) rfl
theorem m_214 : Cond.methodLink "ElementFiles$Reader" 89 ⟨"ElementFiles$Sort", "fits", "(I)Z"⟩ ∈ ev_tbl := ev_mem (List.mem_of_getElem? (i := 291) (by decide +kernel)) rfl
theorem m_215 : Cond.instanceMethod ⟨"ElementFiles$Sort", "fits", "(I)Z"⟩ ∈ ev_tbl := ev_mem (List.mem_of_getElem? (i := 292) (by decide +kernel)) rfl
theorem m_216 : Cond.selects "ElementFiles$Sort" ⟨"ElementFiles$Sort", "fits", "(I)Z"⟩ ⟨"ElementFiles$Sort", "fits", "(I)Z"⟩ ∈ ev_tbl := ev_mem (List.mem_of_getElem? (i := 293) (by decide +kernel)) rfl
theorem m_217 : Cond.code ⟨"ElementFiles$Sort", "fits", "(I)Z"⟩ prog_7_method_5_code 2 (some .boolean) ∈ ev_tbl := ev_mem (List.mem_of_getElem? (i := 294) (by decide +kernel)) rfl
theorem m_218 : Cond.methodLink "ElementFiles$Reader" 93 ⟨"ElementFiles$Tree", "mayStand", "(LElementFiles$Sort;LElementFiles$Element;)Z"⟩ ∈ ev_tbl := ev_mem (List.mem_of_getElem? (i := 295) (by decide +kernel)) rfl
theorem m_219 : Cond.instanceMethod ⟨"ElementFiles$Tree", "mayStand", "(LElementFiles$Sort;LElementFiles$Element;)Z"⟩ ∈ ev_tbl := ev_mem (List.mem_of_getElem? (i := 296) (by decide +kernel)) rfl
theorem m_220 : Cond.selects "ElementFiles$Tree" ⟨"ElementFiles$Tree", "mayStand", "(LElementFiles$Sort;LElementFiles$Element;)Z"⟩ ⟨"ElementFiles$Tree", "mayStand", "(LElementFiles$Sort;LElementFiles$Element;)Z"⟩ ∈ ev_tbl := ev_mem (List.mem_of_getElem? (i := 297) (by decide +kernel)) rfl
theorem m_221 : Cond.code ⟨"ElementFiles$Tree", "mayStand", "(LElementFiles$Sort;LElementFiles$Element;)Z"⟩ prog_8_method_7_code 4 (some .boolean) ∈ ev_tbl := ev_mem (List.mem_of_getElem? (i := 298) (by decide +kernel)) rfl
theorem m_222 : Cond.methodLink "ElementFiles$Tree" 45 ⟨"ElementFiles$Sort", "fits", "(I)Z"⟩ ∈ ev_tbl := ev_mem (List.mem_of_getElem? (i := 299) (by decide +kernel)) rfl
theorem m_223 : Cond.fieldLink "ElementFiles$Tree" 51 "ElementFiles$Sort" "CHECK" "LElementFiles$Sort;" ∈ ev_tbl := ev_mem (List.mem_of_getElem? (i := 300) (by decide +kernel)) rfl
theorem m_224 : Cond.methodLink "ElementFiles$Tree" 37 ⟨"ElementFiles$Tree", "endOf", "(LElementFiles$Element;)I"⟩ ∈ ev_tbl := ev_mem (List.mem_of_getElem? (i := 302) (by decide +kernel)) rfl
theorem m_225 : Cond.instanceMethod ⟨"ElementFiles$Tree", "endOf", "(LElementFiles$Element;)I"⟩ ∈ ev_tbl := ev_mem (List.mem_of_getElem? (i := 303) (by decide +kernel)) rfl
theorem m_226 : Cond.selects "ElementFiles$Tree" ⟨"ElementFiles$Tree", "endOf", "(LElementFiles$Element;)I"⟩ ⟨"ElementFiles$Tree", "endOf", "(LElementFiles$Element;)I"⟩ ∈ ev_tbl := ev_mem (List.mem_of_getElem? (i := 304) (by decide +kernel)) rfl
theorem m_227 : Cond.code ⟨"ElementFiles$Tree", "endOf", "(LElementFiles$Element;)I"⟩ prog_8_method_4_code 3 (some .int) ∈ ev_tbl := ev_mem (List.mem_of_getElem? (i := 305) (by decide +kernel)) rfl
theorem m_228 : Cond.methodLink "ElementFiles$Reader" 44 ⟨"ElementFiles$Reader", "readSize", "()I"⟩ ∈ ev_tbl := ev_mem (List.mem_of_getElem? (i := 306) (by decide +kernel)) rfl
theorem m_229 : Cond.instanceMethod ⟨"ElementFiles$Reader", "readSize", "()I"⟩ ∈ ev_tbl := ev_mem (List.mem_of_getElem? (i := 308) (by decide +kernel)) rfl
theorem m_230 : Cond.code ⟨"ElementFiles$Reader", "readSize", "()I"⟩ prog_5_method_4_code 6 (some .int) ∈ ev_tbl := ev_mem (List.mem_of_getElem? (i := 309) (by decide +kernel)) rfl
theorem m_231 : Cond.methodLink "ElementFiles$Reader" 97 ⟨"ElementFiles$Reader", "nextVint", "()J"⟩ ∈ ev_tbl := ev_mem (List.mem_of_getElem? (i := 310) (by decide +kernel)) rfl
theorem m_232 : Cond.instanceMethod ⟨"ElementFiles$Reader", "nextVint", "()J"⟩ ∈ ev_tbl := ev_mem (List.mem_of_getElem? (i := 312) (by decide +kernel)) rfl
theorem m_233 : Cond.code ⟨"ElementFiles$Reader", "nextVint", "()J"⟩ prog_5_method_15_code 5 (some .long) ∈ ev_tbl := ev_mem (List.mem_of_getElem? (i := 313) (by decide +kernel)) rfl
theorem m_234 : Cond.constantLong "ElementFiles$Reader" 182 (-1) ∈ ev_tbl := ev_mem (List.mem_of_getElem? (i := 314) (by decide +kernel)) rfl
theorem m_235 : Cond.static ⟨"ElementFiles", "allOnes", "(I)J"⟩ ∈ ev_tbl := ev_mem (List.mem_of_getElem? (i := 316) (by decide +kernel)) rfl
theorem m_236 : Cond.code ⟨"ElementFiles", "allOnes", "(I)J"⟩ prog_1_method_25_code 1 (some .long) ∈ ev_tbl := ev_mem (List.mem_of_getElem? (i := 317) (by decide +kernel)) rfl
theorem m_237 : Cond.fieldLink "ElementFiles$Reader" 104 "ElementFiles$Sort" "SEGMENT" "LElementFiles$Sort;" ∈ ev_tbl := ev_mem (List.mem_of_getElem? (i := 318) (by decide +kernel)) rfl
theorem m_238 : Cond.fieldLink "ElementFiles$Reader" 107 "ElementFiles$Sort" "CLUSTER" "LElementFiles$Sort;" ∈ ev_tbl := ev_mem (List.mem_of_getElem? (i := 320) (by decide +kernel)) rfl
theorem m_239 : Cond.methodLink "ElementFiles$Reader" 110 ⟨"ElementFiles$Tree", "add", "(LElementFiles$Element;LElementFiles$Sort;I)LElementFiles$Element;"⟩ ∈ ev_tbl := ev_mem (List.mem_of_getElem? (i := 322) (by decide +kernel)) rfl
theorem m_240 : Cond.instanceMethod ⟨"ElementFiles$Tree", "add", "(LElementFiles$Element;LElementFiles$Sort;I)LElementFiles$Element;"⟩ ∈ ev_tbl := ev_mem (List.mem_of_getElem? (i := 323) (by decide +kernel)) rfl
theorem m_241 : Cond.selects "ElementFiles$Tree" ⟨"ElementFiles$Tree", "add", "(LElementFiles$Element;LElementFiles$Sort;I)LElementFiles$Element;"⟩ ⟨"ElementFiles$Tree", "add", "(LElementFiles$Element;LElementFiles$Sort;I)LElementFiles$Element;"⟩ ∈ ev_tbl := ev_mem (List.mem_of_getElem? (i := 324) (by decide +kernel)) rfl
theorem m_242 : Cond.code ⟨"ElementFiles$Tree", "add", "(LElementFiles$Element;LElementFiles$Sort;I)LElementFiles$Element;"⟩ prog_8_method_8_code 7 (some (.object "ElementFiles$Element")) ∈ ev_tbl := ev_mem (List.mem_of_getElem? (i := 325) (by decide +kernel)) rfl
theorem m_243 : Cond.instantiable "ElementFiles$Element" 17 ∈ ev_tbl := ev_mem (List.mem_of_getElem? (i := 326) (by decide +kernel)) rfl
theorem m_244 : Cond.instanceMethod ⟨"ElementFiles$Element", "<init>", "()V"⟩ ∈ ev_tbl := ev_mem (List.mem_of_getElem? (i := 328) (by decide +kernel)) rfl
theorem m_245 : Cond.code ⟨"ElementFiles$Element", "<init>", "()V"⟩ prog_2_method_1_code 1 none ∈ ev_tbl := ev_mem (List.mem_of_getElem? (i := 329) (by decide +kernel)) rfl
theorem m_246 : Cond.methodLink "ElementFiles$Element" 3 ⟨"java/lang/Object", "<init>", "()V"⟩ ∈ ev_tbl := ev_mem (List.mem_of_getElem? (i := 330) (by decide +kernel)) rfl
theorem m_247 : Cond.fieldLink "ElementFiles$Element" 9 "ElementFiles$Sort" "FOREIGN" "LElementFiles$Sort;" ∈ ev_tbl := ev_mem (List.mem_of_getElem? (i := 331) (by decide +kernel)) rfl
theorem m_248 : Cond.fieldLink "ElementFiles$Element" 15 "ElementFiles$Element" "sort" "LElementFiles$Sort;" ∈ ev_tbl := ev_mem (List.mem_of_getElem? (i := 332) (by decide +kernel)) rfl
theorem m_249 : Cond.fieldLink "ElementFiles$Finder" 51 "ElementFiles$Element" "sort" "LElementFiles$Sort;" ∈ ev_tbl := ev_mem (List.mem_of_getElem? (i := 333) (by decide +kernel)) rfl
theorem m_250 : Cond.fieldLink "ElementFiles$Writer" 69 "ElementFiles$Element" "sort" "LElementFiles$Sort;" ∈ ev_tbl := ev_mem (List.mem_of_getElem? (i := 334) (by decide +kernel)) rfl
theorem m_251 : Cond.fieldLink "ElementFiles$Reader" 82 "ElementFiles$Element" "sort" "LElementFiles$Sort;" ∈ ev_tbl := ev_mem (List.mem_of_getElem? (i := 335) (by decide +kernel)) rfl
theorem m_252 : Cond.fieldLink "ElementFiles$Tree" 55 "ElementFiles$Element" "sort" "LElementFiles$Sort;" ∈ ev_tbl := ev_mem (List.mem_of_getElem? (i := 336) (by decide +kernel)) rfl
theorem m_253 : Cond.fieldLink "ElementFiles" 128 "ElementFiles$Element" "sort" "LElementFiles$Sort;" ∈ ev_tbl := ev_mem (List.mem_of_getElem? (i := 337) (by decide +kernel)) rfl
theorem m_254 : Cond.fieldLink "ElementFiles$Element" 24 "ElementFiles$Element" "tag" "I" ∈ ev_tbl := ev_mem (List.mem_of_getElem? (i := 338) (by decide +kernel)) rfl
theorem m_255 : Cond.fieldLink "ElementFiles$Writer" 55 "ElementFiles$Element" "tag" "I" ∈ ev_tbl := ev_mem (List.mem_of_getElem? (i := 339) (by decide +kernel)) rfl
theorem m_256 : Cond.fieldLink "ElementFiles" 165 "ElementFiles$Element" "tag" "I" ∈ ev_tbl := ev_mem (List.mem_of_getElem? (i := 340) (by decide +kernel)) rfl
theorem m_257 : Cond.fieldLink "ElementFiles$Element" 28 "ElementFiles$Element" "master" "LElementFiles$Element;" ∈ ev_tbl := ev_mem (List.mem_of_getElem? (i := 341) (by decide +kernel)) rfl
theorem m_258 : Cond.fieldLink "ElementFiles$Writer" 61 "ElementFiles$Element" "master" "LElementFiles$Element;" ∈ ev_tbl := ev_mem (List.mem_of_getElem? (i := 342) (by decide +kernel)) rfl
theorem m_259 : Cond.fieldLink "ElementFiles$Reader" 56 "ElementFiles$Element" "master" "LElementFiles$Element;" ∈ ev_tbl := ev_mem (List.mem_of_getElem? (i := 343) (by decide +kernel)) rfl
theorem m_260 : Cond.fieldLink "ElementFiles$Tree" 41 "ElementFiles$Element" "master" "LElementFiles$Element;" ∈ ev_tbl := ev_mem (List.mem_of_getElem? (i := 344) (by decide +kernel)) rfl
theorem m_261 : Cond.fieldLink "ElementFiles$Finder" 96 "ElementFiles$Element" "master" "LElementFiles$Element;" ∈ ev_tbl := ev_mem (List.mem_of_getElem? (i := 345) (by decide +kernel)) rfl
theorem m_262 : Cond.fieldLink "ElementFiles" 166 "ElementFiles$Element" "master" "LElementFiles$Element;" ∈ ev_tbl := ev_mem (List.mem_of_getElem? (i := 346) (by decide +kernel)) rfl
theorem m_263 : Cond.fieldLink "ElementFiles$Element" 32 "ElementFiles$Element" "level" "I" ∈ ev_tbl := ev_mem (List.mem_of_getElem? (i := 347) (by decide +kernel)) rfl
theorem m_264 : Cond.fieldLink "ElementFiles$Tree" 34 "ElementFiles$Element" "level" "I" ∈ ev_tbl := ev_mem (List.mem_of_getElem? (i := 348) (by decide +kernel)) rfl
theorem m_265 : Cond.fieldLink "ElementFiles$Finder" 42 "ElementFiles$Element" "number" "I" ∈ ev_tbl := ev_mem (List.mem_of_getElem? (i := 349) (by decide +kernel)) rfl
theorem m_266 : Cond.fieldLink "ElementFiles$Tree" 31 "ElementFiles$Element" "number" "I" ∈ ev_tbl := ev_mem (List.mem_of_getElem? (i := 350) (by decide +kernel)) rfl
theorem m_267 : Cond.fieldLink "ElementFiles" 125 "ElementFiles$Element" "number" "I" ∈ ev_tbl := ev_mem (List.mem_of_getElem? (i := 351) (by decide +kernel)) rfl
theorem m_268 : Cond.fieldLink "ElementFiles$Element" 35 "ElementFiles$Element" "amount" "J" ∈ ev_tbl := ev_mem (List.mem_of_getElem? (i := 352) (by decide +kernel)) rfl
theorem m_269 : Cond.fieldLink "ElementFiles$Finder" 92 "ElementFiles$Element" "amount" "J" ∈ ev_tbl := ev_mem (List.mem_of_getElem? (i := 353) (by decide +kernel)) rfl
theorem m_270 : Cond.fieldLink "ElementFiles$Reader" 126 "ElementFiles$Element" "amount" "J" ∈ ev_tbl := ev_mem (List.mem_of_getElem? (i := 354) (by decide +kernel)) rfl
theorem m_271 : Cond.fieldLink "ElementFiles$Writer" 104 "ElementFiles$Element" "amount" "J" ∈ ev_tbl := ev_mem (List.mem_of_getElem? (i := 355) (by decide +kernel)) rfl
theorem m_272 : Cond.fieldLink "ElementFiles" 119 "ElementFiles$Element" "amount" "J" ∈ ev_tbl := ev_mem (List.mem_of_getElem? (i := 356) (by decide +kernel)) rfl
theorem m_273 : Cond.fieldLink "ElementFiles$Element" 20 "ElementFiles$Element" "parts" "[I" ∈ ev_tbl := ev_mem (List.mem_of_getElem? (i := 357) (by decide +kernel)) rfl
theorem m_274 : Cond.fieldLink "ElementFiles$Element" 39 "ElementFiles$Element" "storedFrom" "I" ∈ ev_tbl := ev_mem (List.mem_of_getElem? (i := 358) (by decide +kernel)) rfl
theorem m_275 : Cond.fieldLink "ElementFiles$Writer" 130 "ElementFiles$Element" "storedFrom" "I" ∈ ev_tbl := ev_mem (List.mem_of_getElem? (i := 359) (by decide +kernel)) rfl
theorem m_276 : Cond.fieldLink "ElementFiles$Tree" 70 "ElementFiles$Element" "storedFrom" "I" ∈ ev_tbl := ev_mem (List.mem_of_getElem? (i := 360) (by decide +kernel)) rfl
theorem m_277 : Cond.fieldLink "ElementFiles" 186 "ElementFiles$Element" "storedFrom" "I" ∈ ev_tbl := ev_mem (List.mem_of_getElem? (i := 361) (by decide +kernel)) rfl
theorem m_278 : Cond.fieldLink "ElementFiles$Element" 42 "ElementFiles$Element" "storedSize" "I" ∈ ev_tbl := ev_mem (List.mem_of_getElem? (i := 362) (by decide +kernel)) rfl
theorem m_279 : Cond.fieldLink "ElementFiles$Writer" 127 "ElementFiles$Element" "storedSize" "I" ∈ ev_tbl := ev_mem (List.mem_of_getElem? (i := 363) (by decide +kernel)) rfl
theorem m_280 : Cond.fieldLink "ElementFiles$Tree" 73 "ElementFiles$Element" "storedSize" "I" ∈ ev_tbl := ev_mem (List.mem_of_getElem? (i := 364) (by decide +kernel)) rfl
theorem m_281 : Cond.fieldLink "ElementFiles" 183 "ElementFiles$Element" "storedSize" "I" ∈ ev_tbl := ev_mem (List.mem_of_getElem? (i := 365) (by decide +kernel)) rfl
theorem m_282 : Cond.fieldLink "ElementFiles$Element" 45 "ElementFiles$Element" "track" "I" ∈ ev_tbl := ev_mem (List.mem_of_getElem? (i := 366) (by decide +kernel)) rfl
theorem m_283 : Cond.fieldLink "ElementFiles$Finder" 86 "ElementFiles$Element" "track" "I" ∈ ev_tbl := ev_mem (List.mem_of_getElem? (i := 367) (by decide +kernel)) rfl
theorem m_284 : Cond.fieldLink "ElementFiles$Writer" 136 "ElementFiles$Element" "track" "I" ∈ ev_tbl := ev_mem (List.mem_of_getElem? (i := 368) (by decide +kernel)) rfl
theorem m_285 : Cond.fieldLink "ElementFiles" 193 "ElementFiles$Element" "track" "I" ∈ ev_tbl := ev_mem (List.mem_of_getElem? (i := 369) (by decide +kernel)) rfl
theorem m_286 : Cond.fieldLink "ElementFiles$Element" 48 "ElementFiles$Element" "time" "I" ∈ ev_tbl := ev_mem (List.mem_of_getElem? (i := 370) (by decide +kernel)) rfl
theorem m_287 : Cond.fieldLink "ElementFiles$Finder" 100 "ElementFiles$Element" "time" "I" ∈ ev_tbl := ev_mem (List.mem_of_getElem? (i := 371) (by decide +kernel)) rfl
theorem m_288 : Cond.fieldLink "ElementFiles$Writer" 139 "ElementFiles$Element" "time" "I" ∈ ev_tbl := ev_mem (List.mem_of_getElem? (i := 372) (by decide +kernel)) rfl
theorem m_289 : Cond.fieldLink "ElementFiles" 196 "ElementFiles$Element" "time" "I" ∈ ev_tbl := ev_mem (List.mem_of_getElem? (i := 373) (by decide +kernel)) rfl
theorem m_290 : Cond.fieldLink "ElementFiles$Finder" 57 "ElementFiles$Element" "key" "Z" ∈ ev_tbl := ev_mem (List.mem_of_getElem? (i := 374) (by decide +kernel)) rfl
theorem m_291 : Cond.fieldLink "ElementFiles$Element" 51 "ElementFiles$Element" "key" "Z" ∈ ev_tbl := ev_mem (List.mem_of_getElem? (i := 375) (by decide +kernel)) rfl
theorem m_292 : Cond.fieldLink "ElementFiles$Writer" 142 "ElementFiles$Element" "key" "Z" ∈ ev_tbl := ev_mem (List.mem_of_getElem? (i := 376) (by decide +kernel)) rfl
theorem m_293 : Cond.fieldLink "ElementFiles" 199 "ElementFiles$Element" "key" "Z" ∈ ev_tbl := ev_mem (List.mem_of_getElem? (i := 377) (by decide +kernel)) rfl
theorem m_294 : Cond.fieldLink "ElementFiles$Element" 55 "ElementFiles$Element" "lacing" "I" ∈ ev_tbl := ev_mem (List.mem_of_getElem? (i := 378) (by decide +kernel)) rfl
theorem m_295 : Cond.fieldLink "ElementFiles$Reader" 167 "ElementFiles$Element" "lacing" "I" ∈ ev_tbl := ev_mem (List.mem_of_getElem? (i := 379) (by decide +kernel)) rfl
theorem m_296 : Cond.fieldLink "ElementFiles$Writer" 146 "ElementFiles$Element" "lacing" "I" ∈ ev_tbl := ev_mem (List.mem_of_getElem? (i := 380) (by decide +kernel)) rfl
theorem m_297 : Cond.fieldLink "ElementFiles" 203 "ElementFiles$Element" "lacing" "I" ∈ ev_tbl := ev_mem (List.mem_of_getElem? (i := 381) (by decide +kernel)) rfl
theorem m_298 : Cond.fieldLink "ElementFiles$Reader" 51 "ElementFiles$Element" "end" "I" ∈ ev_tbl := ev_mem (List.mem_of_getElem? (i := 382) (by decide +kernel)) rfl
theorem m_299 : Cond.fieldLink "ElementFiles$Reader" 78 "ElementFiles$Element" "open" "Z" ∈ ev_tbl := ev_mem (List.mem_of_getElem? (i := 383) (by decide +kernel)) rfl
theorem m_300 : Cond.fieldLink "ElementFiles$Writer" 42 "ElementFiles$Element" "dataSize" "I" ∈ ev_tbl := ev_mem (List.mem_of_getElem? (i := 384) (by decide +kernel)) rfl
theorem m_301 : Cond.fieldLink "ElementFiles$Writer" 98 "ElementFiles$Element" "dataPlace" "I" ∈ ev_tbl := ev_mem (List.mem_of_getElem? (i := 385) (by decide +kernel)) rfl
theorem m_302 : Cond.methodLink "ElementFiles$Tree" 62 ⟨"ElementFiles$Tree", "putInLine", "(ILElementFiles$Element;)V"⟩ ∈ ev_tbl := ev_mem (List.mem_of_getElem? (i := 421) (by decide +kernel)) rfl
theorem m_303 : Cond.instanceMethod ⟨"ElementFiles$Tree", "putInLine", "(ILElementFiles$Element;)V"⟩ ∈ ev_tbl := ev_mem (List.mem_of_getElem? (i := 423) (by decide +kernel)) rfl
theorem m_304 : Cond.code ⟨"ElementFiles$Tree", "putInLine", "(ILElementFiles$Element;)V"⟩ prog_8_method_9_code 3 none ∈ ev_tbl := ev_mem (List.mem_of_getElem? (i := 424) (by decide +kernel)) rfl
theorem m_305 : Cond.methodLink "ElementFiles$Tree" 66 ⟨"ElementFiles$Element", "begin", "(LElementFiles$Sort;ILElementFiles$Element;)V"⟩ ∈ ev_tbl := ev_mem (List.mem_of_getElem? (i := 425) (by decide +kernel)) rfl
theorem m_306 : Cond.instanceMethod ⟨"ElementFiles$Element", "begin", "(LElementFiles$Sort;ILElementFiles$Element;)V"⟩ ∈ ev_tbl := ev_mem (List.mem_of_getElem? (i := 426) (by decide +kernel)) rfl
theorem m_307 : Cond.selects "ElementFiles$Element" ⟨"ElementFiles$Element", "begin", "(LElementFiles$Sort;ILElementFiles$Element;)V"⟩ ⟨"ElementFiles$Element", "begin", "(LElementFiles$Sort;ILElementFiles$Element;)V"⟩ ∈ ev_tbl := ev_mem (List.mem_of_getElem? (i := 427) (by decide +kernel)) rfl
theorem m_308 : Cond.code ⟨"ElementFiles$Element", "begin", "(LElementFiles$Sort;ILElementFiles$Element;)V"⟩ prog_2_method_2_code 4 none ∈ ev_tbl := ev_mem (List.mem_of_getElem? (i := 428) (by decide +kernel)) rfl
theorem m_309 : Cond.methodLink "ElementFiles$Reader" 47 ⟨"ElementFiles$Reader", "readData", "()I"⟩ ∈ ev_tbl := ev_mem (List.mem_of_getElem? (i := 429) (by decide +kernel)) rfl
theorem m_310 : Cond.instanceMethod ⟨"ElementFiles$Reader", "readData", "()I"⟩ ∈ ev_tbl := ev_mem (List.mem_of_getElem? (i := 431) (by decide +kernel)) rfl
theorem m_311 : Cond.code ⟨"ElementFiles$Reader", "readData", "()I"⟩ prog_5_method_5_code 3 (some .int) ∈ ev_tbl := ev_mem (List.mem_of_getElem? (i := 432) (by decide +kernel)) rfl
theorem m_312 : Cond.methodLink "ElementFiles$Reader" 114 ⟨"ElementFiles$Tree", "at", "(I)LElementFiles$Element;"⟩ ∈ ev_tbl := ev_mem (List.mem_of_getElem? (i := 433) (by decide +kernel)) rfl
theorem m_313 : Cond.instanceMethod ⟨"ElementFiles$Tree", "at", "(I)LElementFiles$Element;"⟩ ∈ ev_tbl := ev_mem (List.mem_of_getElem? (i := 434) (by decide +kernel)) rfl
theorem m_314 : Cond.selects "ElementFiles$Tree" ⟨"ElementFiles$Tree", "at", "(I)LElementFiles$Element;"⟩ ⟨"ElementFiles$Tree", "at", "(I)LElementFiles$Element;"⟩ ∈ ev_tbl := ev_mem (List.mem_of_getElem? (i := 435) (by decide +kernel)) rfl
theorem m_315 : Cond.code ⟨"ElementFiles$Tree", "at", "(I)LElementFiles$Element;"⟩ prog_8_method_3_code 2 (some (.object "ElementFiles$Element")) ∈ ev_tbl := ev_mem (List.mem_of_getElem? (i := 436) (by decide +kernel)) rfl
theorem m_316 : Cond.methodLink "ElementFiles$Reader" 120 ⟨"java/lang/Math", "min", "(II)I"⟩ ∈ ev_tbl := ev_mem (List.mem_of_getElem? (i := 437) (by decide +kernel)) rfl
theorem m_317 : Cond.static ⟨"java/lang/Math", "min", "(II)I"⟩ ∈ ev_tbl := ev_mem (List.mem_of_getElem? (i := 438) (by decide +kernel)) rfl
theorem m_318 : Cond.code ⟨"java/lang/Math", "min", "(II)I"⟩ prog_13_method_69_code 2 (some .int) ∈ ev_tbl := ev_mem (List.mem_of_getElem? (i := 439) (by decide +kernel)) rfl
theorem m_319 : Cond.methodLink "ElementFiles$Reader" 130 ⟨"ElementFiles$Reader", "readText", "(LElementFiles$Element;)Z"⟩ ∈ ev_tbl := ev_mem (List.mem_of_getElem? (i := 440) (by decide +kernel)) rfl
theorem m_320 : Cond.instanceMethod ⟨"ElementFiles$Reader", "readText", "(LElementFiles$Element;)Z"⟩ ∈ ev_tbl := ev_mem (List.mem_of_getElem? (i := 442) (by decide +kernel)) rfl
theorem m_321 : Cond.code ⟨"ElementFiles$Reader", "readText", "(LElementFiles$Element;)Z"⟩ prog_5_method_6_code 5 (some .boolean) ∈ ev_tbl := ev_mem (List.mem_of_getElem? (i := 443) (by decide +kernel)) rfl
theorem m_322 : Cond.static ⟨"ElementFiles", "isLetter", "(I)Z"⟩ ∈ ev_tbl := ev_mem (List.mem_of_getElem? (i := 445) (by decide +kernel)) rfl
theorem m_323 : Cond.code ⟨"ElementFiles", "isLetter", "(I)Z"⟩ prog_1_method_23_code 1 (some .boolean) ∈ ev_tbl := ev_mem (List.mem_of_getElem? (i := 446) (by decide +kernel)) rfl
theorem m_324 : Cond.methodLink "ElementFiles$Reader" 152 ⟨"ElementFiles$Element", "addPart", "(I)Z"⟩ ∈ ev_tbl := ev_mem (List.mem_of_getElem? (i := 447) (by decide +kernel)) rfl
theorem m_325 : Cond.instanceMethod ⟨"ElementFiles$Element", "addPart", "(I)Z"⟩ ∈ ev_tbl := ev_mem (List.mem_of_getElem? (i := 448) (by decide +kernel)) rfl
theorem m_326 : Cond.selects "ElementFiles$Element" ⟨"ElementFiles$Element", "addPart", "(I)Z"⟩ ⟨"ElementFiles$Element", "addPart", "(I)Z"⟩ ∈ ev_tbl := ev_mem (List.mem_of_getElem? (i := 449) (by decide +kernel)) rfl
theorem m_327 : Cond.code ⟨"ElementFiles$Element", "addPart", "(I)Z"⟩ prog_2_method_4_code 2 (some .boolean) ∈ ev_tbl := ev_mem (List.mem_of_getElem? (i := 450) (by decide +kernel)) rfl
theorem m_328 : Cond.methodLink "ElementFiles$Reader" 134 ⟨"ElementFiles$Reader", "readBlockHead", "(LElementFiles$Element;)I"⟩ ∈ ev_tbl := ev_mem (List.mem_of_getElem? (i := 451) (by decide +kernel)) rfl
theorem m_329 : Cond.instanceMethod ⟨"ElementFiles$Reader", "readBlockHead", "(LElementFiles$Element;)I"⟩ ∈ ev_tbl := ev_mem (List.mem_of_getElem? (i := 453) (by decide +kernel)) rfl
theorem m_330 : Cond.code ⟨"ElementFiles$Reader", "readBlockHead", "(LElementFiles$Element;)I"⟩ prog_5_method_8_code 7 (some .int) ∈ ev_tbl := ev_mem (List.mem_of_getElem? (i := 454) (by decide +kernel)) rfl
theorem m_331 : Cond.constantLong "ElementFiles$Reader" 158 (126) ∈ ev_tbl := ev_mem (List.mem_of_getElem? (i := 455) (by decide +kernel)) rfl
theorem m_332 : Cond.methodLink "ElementFiles$Reader" 160 ⟨"ElementFiles$Reader", "nextByte", "()I"⟩ ∈ ev_tbl := ev_mem (List.mem_of_getElem? (i := 456) (by decide +kernel)) rfl
theorem m_333 : Cond.instanceMethod ⟨"ElementFiles$Reader", "nextByte", "()I"⟩ ∈ ev_tbl := ev_mem (List.mem_of_getElem? (i := 458) (by decide +kernel)) rfl
theorem m_334 : Cond.code ⟨"ElementFiles$Reader", "nextByte", "()I"⟩ prog_5_method_13_code 2 (some .int) ∈ ev_tbl := ev_mem (List.mem_of_getElem? (i := 459) (by decide +kernel)) rfl
theorem m_335 : Cond.methodLink "ElementFiles$Reader" 163 ⟨"ElementFiles$Element", "setDetails", "(IIZI)V"⟩ ∈ ev_tbl := ev_mem (List.mem_of_getElem? (i := 460) (by decide +kernel)) rfl
theorem m_336 : Cond.instanceMethod ⟨"ElementFiles$Element", "setDetails", "(IIZI)V"⟩ ∈ ev_tbl := ev_mem (List.mem_of_getElem? (i := 461) (by decide +kernel)) rfl
theorem m_337 : Cond.selects "ElementFiles$Element" ⟨"ElementFiles$Element", "setDetails", "(IIZI)V"⟩ ⟨"ElementFiles$Element", "setDetails", "(IIZI)V"⟩ ∈ ev_tbl := ev_mem (List.mem_of_getElem? (i := 462) (by decide +kernel)) rfl
theorem m_338 : Cond.code ⟨"ElementFiles$Element", "setDetails", "(IIZI)V"⟩ prog_2_method_3_code 5 none ∈ ev_tbl := ev_mem (List.mem_of_getElem? (i := 463) (by decide +kernel)) rfl
theorem m_339 : Cond.methodLink "ElementFiles$Reader" 138 ⟨"ElementFiles$Reader", "readSizes", "(LElementFiles$Element;I)Z"⟩ ∈ ev_tbl := ev_mem (List.mem_of_getElem? (i := 464) (by decide +kernel)) rfl
theorem m_340 : Cond.instanceMethod ⟨"ElementFiles$Reader", "readSizes", "(LElementFiles$Element;I)Z"⟩ ∈ ev_tbl := ev_mem (List.mem_of_getElem? (i := 466) (by decide +kernel)) rfl
theorem m_341 : Cond.code ⟨"ElementFiles$Reader", "readSizes", "(LElementFiles$Element;I)Z"⟩ prog_5_method_10_code 9 (some .boolean) ∈ ev_tbl := ev_mem (List.mem_of_getElem? (i := 467) (by decide +kernel)) rfl
theorem m_342 : Cond.methodLink "ElementFiles$Reader" 170 ⟨"ElementFiles$Reader", "shareEvenly", "(LElementFiles$Element;I)Z"⟩ ∈ ev_tbl := ev_mem (List.mem_of_getElem? (i := 468) (by decide +kernel)) rfl
theorem m_343 : Cond.instanceMethod ⟨"ElementFiles$Reader", "shareEvenly", "(LElementFiles$Element;I)Z"⟩ ∈ ev_tbl := ev_mem (List.mem_of_getElem? (i := 470) (by decide +kernel)) rfl
theorem m_344 : Cond.code ⟨"ElementFiles$Reader", "shareEvenly", "(LElementFiles$Element;I)Z"⟩ prog_5_method_9_code 4 (some .boolean) ∈ ev_tbl := ev_mem (List.mem_of_getElem? (i := 471) (by decide +kernel)) rfl
theorem m_345 : Cond.methodLink "ElementFiles$Reader" 173 ⟨"ElementFiles$Reader", "nextSizeOfBytes", "()J"⟩ ∈ ev_tbl := ev_mem (List.mem_of_getElem? (i := 472) (by decide +kernel)) rfl
theorem m_346 : Cond.instanceMethod ⟨"ElementFiles$Reader", "nextSizeOfBytes", "()J"⟩ ∈ ev_tbl := ev_mem (List.mem_of_getElem? (i := 474) (by decide +kernel)) rfl
theorem m_347 : Cond.code ⟨"ElementFiles$Reader", "nextSizeOfBytes", "()J"⟩ prog_5_method_11_code 5 (some .long) ∈ ev_tbl := ev_mem (List.mem_of_getElem? (i := 475) (by decide +kernel)) rfl
theorem m_348 : Cond.static ⟨"ElementFiles", "surplus", "(I)J"⟩ ∈ ev_tbl := ev_mem (List.mem_of_getElem? (i := 477) (by decide +kernel)) rfl
theorem m_349 : Cond.code ⟨"ElementFiles", "surplus", "(I)J"⟩ prog_1_method_26_code 1 (some .long) ∈ ev_tbl := ev_mem (List.mem_of_getElem? (i := 478) (by decide +kernel)) rfl
theorem m_350 : Cond.methodLink "ElementFiles$Reader" 142 ⟨"ElementFiles$Reader", "storeRest", "(LElementFiles$Element;)V"⟩ ∈ ev_tbl := ev_mem (List.mem_of_getElem? (i := 479) (by decide +kernel)) rfl
theorem m_351 : Cond.instanceMethod ⟨"ElementFiles$Reader", "storeRest", "(LElementFiles$Element;)V"⟩ ∈ ev_tbl := ev_mem (List.mem_of_getElem? (i := 481) (by decide +kernel)) rfl
theorem m_352 : Cond.code ⟨"ElementFiles$Reader", "storeRest", "(LElementFiles$Element;)V"⟩ prog_5_method_12_code 3 none ∈ ev_tbl := ev_mem (List.mem_of_getElem? (i := 482) (by decide +kernel)) rfl
theorem m_353 : Cond.methodLink "ElementFiles$Reader" 184 ⟨"ElementFiles$Tree", "beginStoring", "(LElementFiles$Element;)V"⟩ ∈ ev_tbl := ev_mem (List.mem_of_getElem? (i := 483) (by decide +kernel)) rfl
theorem m_354 : Cond.instanceMethod ⟨"ElementFiles$Tree", "beginStoring", "(LElementFiles$Element;)V"⟩ ∈ ev_tbl := ev_mem (List.mem_of_getElem? (i := 484) (by decide +kernel)) rfl
theorem m_355 : Cond.selects "ElementFiles$Tree" ⟨"ElementFiles$Tree", "beginStoring", "(LElementFiles$Element;)V"⟩ ⟨"ElementFiles$Tree", "beginStoring", "(LElementFiles$Element;)V"⟩ ∈ ev_tbl := ev_mem (List.mem_of_getElem? (i := 485) (by decide +kernel)) rfl
theorem m_356 : Cond.code ⟨"ElementFiles$Tree", "beginStoring", "(LElementFiles$Element;)V"⟩ prog_8_method_13_code 2 none ∈ ev_tbl := ev_mem (List.mem_of_getElem? (i := 486) (by decide +kernel)) rfl
theorem m_357 : Cond.methodLink "ElementFiles$Reader" 187 ⟨"ElementFiles$Tree", "storeFor", "(LElementFiles$Element;I)V"⟩ ∈ ev_tbl := ev_mem (List.mem_of_getElem? (i := 487) (by decide +kernel)) rfl
theorem m_358 : Cond.instanceMethod ⟨"ElementFiles$Tree", "storeFor", "(LElementFiles$Element;I)V"⟩ ∈ ev_tbl := ev_mem (List.mem_of_getElem? (i := 488) (by decide +kernel)) rfl
theorem m_359 : Cond.selects "ElementFiles$Tree" ⟨"ElementFiles$Tree", "storeFor", "(LElementFiles$Element;I)V"⟩ ⟨"ElementFiles$Tree", "storeFor", "(LElementFiles$Element;I)V"⟩ ∈ ev_tbl := ev_mem (List.mem_of_getElem? (i := 489) (by decide +kernel)) rfl
theorem m_360 : Cond.code ⟨"ElementFiles$Tree", "storeFor", "(LElementFiles$Element;I)V"⟩ prog_8_method_14_code 3 none ∈ ev_tbl := ev_mem (List.mem_of_getElem? (i := 490) (by decide +kernel)) rfl
theorem m_361 : Cond.methodLink "ElementFiles$Reader" 146 ⟨"ElementFiles$Reader", "readCheck", "(LElementFiles$Element;)Z"⟩ ∈ ev_tbl := ev_mem (List.mem_of_getElem? (i := 491) (by decide +kernel)) rfl
theorem m_362 : Cond.instanceMethod ⟨"ElementFiles$Reader", "readCheck", "(LElementFiles$Element;)Z"⟩ ∈ ev_tbl := ev_mem (List.mem_of_getElem? (i := 493) (by decide +kernel)) rfl
theorem m_363 : Cond.code ⟨"ElementFiles$Reader", "readCheck", "(LElementFiles$Element;)Z"⟩ prog_5_method_7_code 4 (some .boolean) ∈ ev_tbl := ev_mem (List.mem_of_getElem? (i := 494) (by decide +kernel)) rfl
theorem m_364 : Cond.methodLink "ElementFiles$Reader" 155 ⟨"ElementFiles$Row", "sum", "(II)I"⟩ ∈ ev_tbl := ev_mem (List.mem_of_getElem? (i := 495) (by decide +kernel)) rfl
theorem m_365 : Cond.instanceMethod ⟨"ElementFiles$Row", "sum", "(II)I"⟩ ∈ ev_tbl := ev_mem (List.mem_of_getElem? (i := 496) (by decide +kernel)) rfl
theorem m_366 : Cond.selects "ElementFiles$Row" ⟨"ElementFiles$Row", "sum", "(II)I"⟩ ⟨"ElementFiles$Row", "sum", "(II)I"⟩ ∈ ev_tbl := ev_mem (List.mem_of_getElem? (i := 497) (by decide +kernel)) rfl
theorem m_367 : Cond.code ⟨"ElementFiles$Row", "sum", "(II)I"⟩ prog_6_method_7_code 6 (some .int) ∈ ev_tbl := ev_mem (List.mem_of_getElem? (i := 498) (by decide +kernel)) rfl
theorem m_368 : Cond.methodLink "ElementFiles$Row" 31 ⟨"ElementFiles$Row", "at", "(I)I"⟩ ∈ ev_tbl := ev_mem (List.mem_of_getElem? (i := 499) (by decide +kernel)) rfl
theorem m_369 : Cond.constant "ElementFiles$Row" 35 (-306674912) ∈ ev_tbl := ev_mem (List.mem_of_getElem? (i := 500) (by decide +kernel)) rfl
theorem m_370 : Cond.methodLink "ElementFilesLaw" 35 ⟨"ElementFiles", "where", "()I"⟩ ∈ ev_tbl := ev_mem (List.mem_of_getElem? (i := 501) (by decide +kernel)) rfl
theorem m_371 : Cond.instanceMethod ⟨"ElementFiles", "where", "()I"⟩ ∈ ev_tbl := ev_mem (List.mem_of_getElem? (i := 502) (by decide +kernel)) rfl
theorem m_372 : Cond.selects "ElementFiles" ⟨"ElementFiles", "where", "()I"⟩ ⟨"ElementFiles", "where", "()I"⟩ ∈ ev_tbl := ev_mem (List.mem_of_getElem? (i := 503) (by decide +kernel)) rfl
theorem m_373 : Cond.code ⟨"ElementFiles", "where", "()I"⟩ prog_1_method_6_code 1 (some .int) ∈ ev_tbl := ev_mem (List.mem_of_getElem? (i := 504) (by decide +kernel)) rfl
theorem m_374 : Cond.methodLink "ElementFilesLaw" 39 ⟨"ElementFiles", "clear", "()V"⟩ ∈ ev_tbl := ev_mem (List.mem_of_getElem? (i := 505) (by decide +kernel)) rfl
theorem m_375 : Cond.instanceMethod ⟨"ElementFiles", "clear", "()V"⟩ ∈ ev_tbl := ev_mem (List.mem_of_getElem? (i := 506) (by decide +kernel)) rfl
theorem m_376 : Cond.selects "ElementFiles" ⟨"ElementFiles", "clear", "()V"⟩ ⟨"ElementFiles", "clear", "()V"⟩ ∈ ev_tbl := ev_mem (List.mem_of_getElem? (i := 507) (by decide +kernel)) rfl
theorem m_377 : Cond.code ⟨"ElementFiles", "clear", "()V"⟩ prog_1_method_7_code 1 none ∈ ev_tbl := ev_mem (List.mem_of_getElem? (i := 508) (by decide +kernel)) rfl
theorem m_378 : Cond.methodLink "ElementFiles" 84 ⟨"ElementFiles$Tree", "empty", "()V"⟩ ∈ ev_tbl := ev_mem (List.mem_of_getElem? (i := 509) (by decide +kernel)) rfl
theorem m_379 : Cond.methodLink "ElementFilesLaw" 43 ⟨"ElementFiles", "make", "(IIJ)I"⟩ ∈ ev_tbl := ev_mem (List.mem_of_getElem? (i := 510) (by decide +kernel)) rfl
theorem m_380 : Cond.instanceMethod ⟨"ElementFiles", "make", "(IIJ)I"⟩ ∈ ev_tbl := ev_mem (List.mem_of_getElem? (i := 511) (by decide +kernel)) rfl
theorem m_381 : Cond.selects "ElementFiles" ⟨"ElementFiles", "make", "(IIJ)I"⟩ ⟨"ElementFiles", "make", "(IIJ)I"⟩ ∈ ev_tbl := ev_mem (List.mem_of_getElem? (i := 512) (by decide +kernel)) rfl
theorem m_382 : Cond.code ⟨"ElementFiles", "make", "(IIJ)I"⟩ prog_1_method_8_code 8 (some .int) ∈ ev_tbl := ev_mem (List.mem_of_getElem? (i := 513) (by decide +kernel)) rfl
theorem m_383 : Cond.methodLink "ElementFiles" 87 ⟨"ElementFiles$Tree", "at", "(I)LElementFiles$Element;"⟩ ∈ ev_tbl := ev_mem (List.mem_of_getElem? (i := 514) (by decide +kernel)) rfl
theorem m_384 : Cond.methodLink "ElementFiles" 90 ⟨"ElementFiles$Sort", "of", "(I)LElementFiles$Sort;"⟩ ∈ ev_tbl := ev_mem (List.mem_of_getElem? (i := 515) (by decide +kernel)) rfl
theorem m_385 : Cond.fieldLink "ElementFiles" 96 "ElementFiles$Sort" "BLOCK" "LElementFiles$Sort;" ∈ ev_tbl := ev_mem (List.mem_of_getElem? (i := 516) (by decide +kernel)) rfl
theorem m_386 : Cond.fieldLink "ElementFiles" 100 "ElementFiles$Sort" "FOREIGN" "LElementFiles$Sort;" ∈ ev_tbl := ev_mem (List.mem_of_getElem? (i := 518) (by decide +kernel)) rfl
theorem m_387 : Cond.methodLink "ElementFiles" 103 ⟨"ElementFiles$Tree", "mayStand", "(LElementFiles$Sort;LElementFiles$Element;)Z"⟩ ∈ ev_tbl := ev_mem (List.mem_of_getElem? (i := 519) (by decide +kernel)) rfl
theorem m_388 : Cond.fieldLink "ElementFiles" 107 "ElementFiles$Sort" "VOID" "LElementFiles$Sort;" ∈ ev_tbl := ev_mem (List.mem_of_getElem? (i := 520) (by decide +kernel)) rfl
theorem m_389 : Cond.constantLong "ElementFiles" 110 (64) ∈ ev_tbl := ev_mem (List.mem_of_getElem? (i := 522) (by decide +kernel)) rfl
theorem m_390 : Cond.methodLink "ElementFiles" 112 ⟨"ElementFiles$Tree", "add", "(LElementFiles$Element;LElementFiles$Sort;I)LElementFiles$Element;"⟩ ∈ ev_tbl := ev_mem (List.mem_of_getElem? (i := 523) (by decide +kernel)) rfl
theorem m_391 : Cond.methodLink "ElementFilesLaw" 48 ⟨"ElementFiles", "letter", "(IC)I"⟩ ∈ ev_tbl := ev_mem (List.mem_of_getElem? (i := 524) (by decide +kernel)) rfl
theorem m_392 : Cond.instanceMethod ⟨"ElementFiles", "letter", "(IC)I"⟩ ∈ ev_tbl := ev_mem (List.mem_of_getElem? (i := 525) (by decide +kernel)) rfl
theorem m_393 : Cond.selects "ElementFiles" ⟨"ElementFiles", "letter", "(IC)I"⟩ ⟨"ElementFiles", "letter", "(IC)I"⟩ ∈ ev_tbl := ev_mem (List.mem_of_getElem? (i := 526) (by decide +kernel)) rfl
theorem m_394 : Cond.code ⟨"ElementFiles", "letter", "(IC)I"⟩ prog_1_method_9_code 4 (some .int) ∈ ev_tbl := ev_mem (List.mem_of_getElem? (i := 527) (by decide +kernel)) rfl
theorem m_395 : Cond.methodLink "ElementFiles" 131 ⟨"ElementFiles", "isLetter", "(I)Z"⟩ ∈ ev_tbl := ev_mem (List.mem_of_getElem? (i := 528) (by decide +kernel)) rfl
theorem m_396 : Cond.methodLink "ElementFiles" 135 ⟨"ElementFiles$Element", "addPart", "(I)Z"⟩ ∈ ev_tbl := ev_mem (List.mem_of_getElem? (i := 529) (by decide +kernel)) rfl
theorem m_397 : Cond.methodLink "ElementFilesLaw" 53 ⟨"ElementFiles", "frame", "(II)I"⟩ ∈ ev_tbl := ev_mem (List.mem_of_getElem? (i := 530) (by decide +kernel)) rfl
theorem m_398 : Cond.instanceMethod ⟨"ElementFiles", "frame", "(II)I"⟩ ∈ ev_tbl := ev_mem (List.mem_of_getElem? (i := 531) (by decide +kernel)) rfl
theorem m_399 : Cond.selects "ElementFiles" ⟨"ElementFiles", "frame", "(II)I"⟩ ⟨"ElementFiles", "frame", "(II)I"⟩ ∈ ev_tbl := ev_mem (List.mem_of_getElem? (i := 532) (by decide +kernel)) rfl
theorem m_400 : Cond.code ⟨"ElementFiles", "frame", "(II)I"⟩ prog_1_method_10_code 3 (some .int) ∈ ev_tbl := ev_mem (List.mem_of_getElem? (i := 533) (by decide +kernel)) rfl
theorem m_401 : Cond.methodLink "ElementFiles" 138 ⟨"ElementFiles$Frames", "add", "(II)Z"⟩ ∈ ev_tbl := ev_mem (List.mem_of_getElem? (i := 534) (by decide +kernel)) rfl
theorem m_402 : Cond.instanceMethod ⟨"ElementFiles$Frames", "add", "(II)Z"⟩ ∈ ev_tbl := ev_mem (List.mem_of_getElem? (i := 535) (by decide +kernel)) rfl
theorem m_403 : Cond.selects "ElementFiles$Frames" ⟨"ElementFiles$Frames", "add", "(II)Z"⟩ ⟨"ElementFiles$Frames", "add", "(II)Z"⟩ ∈ ev_tbl := ev_mem (List.mem_of_getElem? (i := 536) (by decide +kernel)) rfl
theorem m_404 : Cond.code ⟨"ElementFiles$Frames", "add", "(II)Z"⟩ prog_4_method_2_code 4 (some .boolean) ∈ ev_tbl := ev_mem (List.mem_of_getElem? (i := 537) (by decide +kernel)) rfl
theorem m_405 : Cond.methodLink "ElementFilesLaw" 58 ⟨"ElementFiles", "block", "(IIIZI)I"⟩ ∈ ev_tbl := ev_mem (List.mem_of_getElem? (i := 538) (by decide +kernel)) rfl
theorem m_406 : Cond.instanceMethod ⟨"ElementFiles", "block", "(IIIZI)I"⟩ ∈ ev_tbl := ev_mem (List.mem_of_getElem? (i := 539) (by decide +kernel)) rfl
theorem m_407 : Cond.selects "ElementFiles" ⟨"ElementFiles", "block", "(IIIZI)I"⟩ ⟨"ElementFiles", "block", "(IIIZI)I"⟩ ∈ ev_tbl := ev_mem (List.mem_of_getElem? (i := 540) (by decide +kernel)) rfl
theorem m_408 : Cond.code ⟨"ElementFiles", "block", "(IIIZI)I"⟩ prog_1_method_11_code 8 (some .int) ∈ ev_tbl := ev_mem (List.mem_of_getElem? (i := 541) (by decide +kernel)) rfl
theorem m_409 : Cond.fieldLink "ElementFiles" 142 "ElementFiles$Sort" "CLUSTER" "LElementFiles$Sort;" ∈ ev_tbl := ev_mem (List.mem_of_getElem? (i := 542) (by decide +kernel)) rfl
theorem m_410 : Cond.methodLink "ElementFiles" 145 ⟨"ElementFiles$Frames", "suit", "(I)Z"⟩ ∈ ev_tbl := ev_mem (List.mem_of_getElem? (i := 543) (by decide +kernel)) rfl
theorem m_411 : Cond.instanceMethod ⟨"ElementFiles$Frames", "suit", "(I)Z"⟩ ∈ ev_tbl := ev_mem (List.mem_of_getElem? (i := 544) (by decide +kernel)) rfl
theorem m_412 : Cond.selects "ElementFiles$Frames" ⟨"ElementFiles$Frames", "suit", "(I)Z"⟩ ⟨"ElementFiles$Frames", "suit", "(I)Z"⟩ ∈ ev_tbl := ev_mem (List.mem_of_getElem? (i := 545) (by decide +kernel)) rfl
theorem m_413 : Cond.code ⟨"ElementFiles$Frames", "suit", "(I)Z"⟩ prog_4_method_3_code 2 (some .boolean) ∈ ev_tbl := ev_mem (List.mem_of_getElem? (i := 546) (by decide +kernel)) rfl
theorem m_414 : Cond.methodLink "ElementFiles$Frames" 25 ⟨"ElementFiles$Frames", "areEven", "()Z"⟩ ∈ ev_tbl := ev_mem (List.mem_of_getElem? (i := 547) (by decide +kernel)) rfl
theorem m_415 : Cond.instanceMethod ⟨"ElementFiles$Frames", "areEven", "()Z"⟩ ∈ ev_tbl := ev_mem (List.mem_of_getElem? (i := 549) (by decide +kernel)) rfl
theorem m_416 : Cond.code ⟨"ElementFiles$Frames", "areEven", "()Z"⟩ prog_4_method_4_code 2 (some .boolean) ∈ ev_tbl := ev_mem (List.mem_of_getElem? (i := 550) (by decide +kernel)) rfl
theorem m_417 : Cond.methodLink "ElementFiles" 151 ⟨"ElementFiles$Tree", "canStore", "(I)Z"⟩ ∈ ev_tbl := ev_mem (List.mem_of_getElem? (i := 551) (by decide +kernel)) rfl
theorem m_418 : Cond.instanceMethod ⟨"ElementFiles$Tree", "canStore", "(I)Z"⟩ ∈ ev_tbl := ev_mem (List.mem_of_getElem? (i := 552) (by decide +kernel)) rfl
theorem m_419 : Cond.selects "ElementFiles$Tree" ⟨"ElementFiles$Tree", "canStore", "(I)Z"⟩ ⟨"ElementFiles$Tree", "canStore", "(I)Z"⟩ ∈ ev_tbl := ev_mem (List.mem_of_getElem? (i := 553) (by decide +kernel)) rfl
theorem m_420 : Cond.code ⟨"ElementFiles$Tree", "canStore", "(I)Z"⟩ prog_8_method_12_code 2 (some .boolean) ∈ ev_tbl := ev_mem (List.mem_of_getElem? (i := 554) (by decide +kernel)) rfl
theorem m_421 : Cond.methodLink "ElementFiles" 157 ⟨"ElementFiles$Element", "setDetails", "(IIZI)V"⟩ ∈ ev_tbl := ev_mem (List.mem_of_getElem? (i := 555) (by decide +kernel)) rfl
theorem m_422 : Cond.methodLink "ElementFiles" 161 ⟨"ElementFiles$Frames", "moveTo", "(LElementFiles$Element;LElementFiles$Tree;)V"⟩ ∈ ev_tbl := ev_mem (List.mem_of_getElem? (i := 556) (by decide +kernel)) rfl
theorem m_423 : Cond.instanceMethod ⟨"ElementFiles$Frames", "moveTo", "(LElementFiles$Element;LElementFiles$Tree;)V"⟩ ∈ ev_tbl := ev_mem (List.mem_of_getElem? (i := 557) (by decide +kernel)) rfl
theorem m_424 : Cond.selects "ElementFiles$Frames" ⟨"ElementFiles$Frames", "moveTo", "(LElementFiles$Element;LElementFiles$Tree;)V"⟩ ⟨"ElementFiles$Frames", "moveTo", "(LElementFiles$Element;LElementFiles$Tree;)V"⟩ ∈ ev_tbl := ev_mem (List.mem_of_getElem? (i := 558) (by decide +kernel)) rfl
theorem m_425 : Cond.code ⟨"ElementFiles$Frames", "moveTo", "(LElementFiles$Element;LElementFiles$Tree;)V"⟩ prog_4_method_5_code 4 none ∈ ev_tbl := ev_mem (List.mem_of_getElem? (i := 559) (by decide +kernel)) rfl
theorem m_426 : Cond.methodLink "ElementFiles$Frames" 29 ⟨"ElementFiles$Element", "addPart", "(I)Z"⟩ ∈ ev_tbl := ev_mem (List.mem_of_getElem? (i := 560) (by decide +kernel)) rfl
theorem m_427 : Cond.methodLink "ElementFiles$Frames" 35 ⟨"ElementFiles$Tree", "beginStoring", "(LElementFiles$Element;)V"⟩ ∈ ev_tbl := ev_mem (List.mem_of_getElem? (i := 561) (by decide +kernel)) rfl
theorem m_428 : Cond.methodLink "ElementFiles$Frames" 41 ⟨"ElementFiles$Tree", "storeFor", "(LElementFiles$Element;I)V"⟩ ∈ ev_tbl := ev_mem (List.mem_of_getElem? (i := 562) (by decide +kernel)) rfl
theorem m_429 : Cond.methodLink "ElementFilesLaw" 63 ⟨"ElementFiles", "id", "(I)I"⟩ ∈ ev_tbl := ev_mem (List.mem_of_getElem? (i := 563) (by decide +kernel)) rfl
theorem m_430 : Cond.instanceMethod ⟨"ElementFiles", "id", "(I)I"⟩ ∈ ev_tbl := ev_mem (List.mem_of_getElem? (i := 564) (by decide +kernel)) rfl
theorem m_431 : Cond.selects "ElementFiles" ⟨"ElementFiles", "id", "(I)I"⟩ ⟨"ElementFiles", "id", "(I)I"⟩ ∈ ev_tbl := ev_mem (List.mem_of_getElem? (i := 565) (by decide +kernel)) rfl
theorem m_432 : Cond.code ⟨"ElementFiles", "id", "(I)I"⟩ prog_1_method_12_code 3 (some .int) ∈ ev_tbl := ev_mem (List.mem_of_getElem? (i := 566) (by decide +kernel)) rfl
theorem m_433 : Cond.methodLink "ElementFilesLaw" 67 ⟨"ElementFiles", "parent", "(I)I"⟩ ∈ ev_tbl := ev_mem (List.mem_of_getElem? (i := 567) (by decide +kernel)) rfl
theorem m_434 : Cond.instanceMethod ⟨"ElementFiles", "parent", "(I)I"⟩ ∈ ev_tbl := ev_mem (List.mem_of_getElem? (i := 568) (by decide +kernel)) rfl
theorem m_435 : Cond.selects "ElementFiles" ⟨"ElementFiles", "parent", "(I)I"⟩ ⟨"ElementFiles", "parent", "(I)I"⟩ ∈ ev_tbl := ev_mem (List.mem_of_getElem? (i := 569) (by decide +kernel)) rfl
theorem m_436 : Cond.code ⟨"ElementFiles", "parent", "(I)I"⟩ prog_1_method_13_code 3 (some .int) ∈ ev_tbl := ev_mem (List.mem_of_getElem? (i := 570) (by decide +kernel)) rfl
theorem m_437 : Cond.methodLink "ElementFilesLaw" 71 ⟨"ElementFiles", "value", "(I)J"⟩ ∈ ev_tbl := ev_mem (List.mem_of_getElem? (i := 571) (by decide +kernel)) rfl
theorem m_438 : Cond.instanceMethod ⟨"ElementFiles", "value", "(I)J"⟩ ∈ ev_tbl := ev_mem (List.mem_of_getElem? (i := 572) (by decide +kernel)) rfl
theorem m_439 : Cond.selects "ElementFiles" ⟨"ElementFiles", "value", "(I)J"⟩ ⟨"ElementFiles", "value", "(I)J"⟩ ∈ ev_tbl := ev_mem (List.mem_of_getElem? (i := 573) (by decide +kernel)) rfl
theorem m_440 : Cond.code ⟨"ElementFiles", "value", "(I)J"⟩ prog_1_method_14_code 3 (some .long) ∈ ev_tbl := ev_mem (List.mem_of_getElem? (i := 574) (by decide +kernel)) rfl
theorem m_441 : Cond.constantLong "ElementFiles" 170 (-1) ∈ ev_tbl := ev_mem (List.mem_of_getElem? (i := 575) (by decide +kernel)) rfl
theorem m_442 : Cond.methodLink "ElementFiles" 172 ⟨"ElementFiles$Tree", "childrenOf", "(LElementFiles$Element;)I"⟩ ∈ ev_tbl := ev_mem (List.mem_of_getElem? (i := 576) (by decide +kernel)) rfl
theorem m_443 : Cond.instanceMethod ⟨"ElementFiles$Tree", "childrenOf", "(LElementFiles$Element;)I"⟩ ∈ ev_tbl := ev_mem (List.mem_of_getElem? (i := 577) (by decide +kernel)) rfl
theorem m_444 : Cond.selects "ElementFiles$Tree" ⟨"ElementFiles$Tree", "childrenOf", "(LElementFiles$Element;)I"⟩ ⟨"ElementFiles$Tree", "childrenOf", "(LElementFiles$Element;)I"⟩ ∈ ev_tbl := ev_mem (List.mem_of_getElem? (i := 578) (by decide +kernel)) rfl
theorem m_445 : Cond.code ⟨"ElementFiles$Tree", "childrenOf", "(LElementFiles$Element;)I"⟩ prog_8_method_5_code 5 (some .int) ∈ ev_tbl := ev_mem (List.mem_of_getElem? (i := 579) (by decide +kernel)) rfl
theorem m_446 : Cond.methodLink "ElementFilesLaw" 76 ⟨"ElementFiles", "part", "(II)I"⟩ ∈ ev_tbl := ev_mem (List.mem_of_getElem? (i := 580) (by decide +kernel)) rfl
theorem m_447 : Cond.instanceMethod ⟨"ElementFiles", "part", "(II)I"⟩ ∈ ev_tbl := ev_mem (List.mem_of_getElem? (i := 581) (by decide +kernel)) rfl
theorem m_448 : Cond.selects "ElementFiles" ⟨"ElementFiles", "part", "(II)I"⟩ ⟨"ElementFiles", "part", "(II)I"⟩ ∈ ev_tbl := ev_mem (List.mem_of_getElem? (i := 582) (by decide +kernel)) rfl
theorem m_449 : Cond.code ⟨"ElementFiles", "part", "(II)I"⟩ prog_1_method_15_code 4 (some .int) ∈ ev_tbl := ev_mem (List.mem_of_getElem? (i := 583) (by decide +kernel)) rfl
theorem m_450 : Cond.methodLink "ElementFiles" 176 ⟨"ElementFiles$Tree", "childOf", "(LElementFiles$Element;I)I"⟩ ∈ ev_tbl := ev_mem (List.mem_of_getElem? (i := 584) (by decide +kernel)) rfl
theorem m_451 : Cond.instanceMethod ⟨"ElementFiles$Tree", "childOf", "(LElementFiles$Element;I)I"⟩ ∈ ev_tbl := ev_mem (List.mem_of_getElem? (i := 585) (by decide +kernel)) rfl
theorem m_452 : Cond.selects "ElementFiles$Tree" ⟨"ElementFiles$Tree", "childOf", "(LElementFiles$Element;I)I"⟩ ⟨"ElementFiles$Tree", "childOf", "(LElementFiles$Element;I)I"⟩ ∈ ev_tbl := ev_mem (List.mem_of_getElem? (i := 586) (by decide +kernel)) rfl
theorem m_453 : Cond.code ⟨"ElementFiles$Tree", "childOf", "(LElementFiles$Element;I)I"⟩ prog_8_method_6_code 6 (some .int) ∈ ev_tbl := ev_mem (List.mem_of_getElem? (i := 587) (by decide +kernel)) rfl
theorem m_454 : Cond.methodLink "ElementFiles" 180 ⟨"ElementFiles$Element", "partAt", "(I)I"⟩ ∈ ev_tbl := ev_mem (List.mem_of_getElem? (i := 588) (by decide +kernel)) rfl
theorem m_455 : Cond.instanceMethod ⟨"ElementFiles$Element", "partAt", "(I)I"⟩ ∈ ev_tbl := ev_mem (List.mem_of_getElem? (i := 589) (by decide +kernel)) rfl
theorem m_456 : Cond.selects "ElementFiles$Element" ⟨"ElementFiles$Element", "partAt", "(I)I"⟩ ⟨"ElementFiles$Element", "partAt", "(I)I"⟩ ∈ ev_tbl := ev_mem (List.mem_of_getElem? (i := 590) (by decide +kernel)) rfl
theorem m_457 : Cond.code ⟨"ElementFiles$Element", "partAt", "(I)I"⟩ prog_2_method_5_code 2 (some .int) ∈ ev_tbl := ev_mem (List.mem_of_getElem? (i := 591) (by decide +kernel)) rfl
theorem m_458 : Cond.methodLink "ElementFiles" 189 ⟨"ElementFiles$Tree", "storedAt", "(I)I"⟩ ∈ ev_tbl := ev_mem (List.mem_of_getElem? (i := 592) (by decide +kernel)) rfl
theorem m_459 : Cond.instanceMethod ⟨"ElementFiles$Tree", "storedAt", "(I)I"⟩ ∈ ev_tbl := ev_mem (List.mem_of_getElem? (i := 593) (by decide +kernel)) rfl
theorem m_460 : Cond.selects "ElementFiles$Tree" ⟨"ElementFiles$Tree", "storedAt", "(I)I"⟩ ⟨"ElementFiles$Tree", "storedAt", "(I)I"⟩ ∈ ev_tbl := ev_mem (List.mem_of_getElem? (i := 594) (by decide +kernel)) rfl
theorem m_461 : Cond.code ⟨"ElementFiles$Tree", "storedAt", "(I)I"⟩ prog_8_method_15_code 2 (some .int) ∈ ev_tbl := ev_mem (List.mem_of_getElem? (i := 595) (by decide +kernel)) rfl
theorem m_462 : Cond.methodLink "ElementFilesLaw" 80 ⟨"ElementFiles", "sample", "(III)I"⟩ ∈ ev_tbl := ev_mem (List.mem_of_getElem? (i := 596) (by decide +kernel)) rfl
theorem m_463 : Cond.instanceMethod ⟨"ElementFiles", "sample", "(III)I"⟩ ∈ ev_tbl := ev_mem (List.mem_of_getElem? (i := 597) (by decide +kernel)) rfl
theorem m_464 : Cond.selects "ElementFiles" ⟨"ElementFiles", "sample", "(III)I"⟩ ⟨"ElementFiles", "sample", "(III)I"⟩ ∈ ev_tbl := ev_mem (List.mem_of_getElem? (i := 598) (by decide +kernel)) rfl
theorem m_465 : Cond.code ⟨"ElementFiles", "sample", "(III)I"⟩ prog_1_method_16_code 7 (some .int) ∈ ev_tbl := ev_mem (List.mem_of_getElem? (i := 599) (by decide +kernel)) rfl
theorem m_466 : Cond.methodLink "ElementFilesLaw" 85 ⟨"ElementFiles", "detail", "(II)I"⟩ ∈ ev_tbl := ev_mem (List.mem_of_getElem? (i := 600) (by decide +kernel)) rfl
theorem m_467 : Cond.instanceMethod ⟨"ElementFiles", "detail", "(II)I"⟩ ∈ ev_tbl := ev_mem (List.mem_of_getElem? (i := 601) (by decide +kernel)) rfl
theorem m_468 : Cond.selects "ElementFiles" ⟨"ElementFiles", "detail", "(II)I"⟩ ⟨"ElementFiles", "detail", "(II)I"⟩ ∈ ev_tbl := ev_mem (List.mem_of_getElem? (i := 602) (by decide +kernel)) rfl
theorem m_469 : Cond.code ⟨"ElementFiles", "detail", "(II)I"⟩ prog_1_method_17_code 4 (some .int) ∈ ev_tbl := ev_mem (List.mem_of_getElem? (i := 603) (by decide +kernel)) rfl
theorem m_470 : Cond.constant "ElementFiles" 192 (-65536) ∈ ev_tbl := ev_mem (List.mem_of_getElem? (i := 604) (by decide +kernel)) rfl
theorem m_471 : Cond.methodLink "ElementFilesLaw" 89 ⟨"ElementFiles", "write", "(Z)I"⟩ ∈ ev_tbl := ev_mem (List.mem_of_getElem? (i := 605) (by decide +kernel)) rfl
theorem m_472 : Cond.instanceMethod ⟨"ElementFiles", "write", "(Z)I"⟩ ∈ ev_tbl := ev_mem (List.mem_of_getElem? (i := 606) (by decide +kernel)) rfl
theorem m_473 : Cond.selects "ElementFiles" ⟨"ElementFiles", "write", "(Z)I"⟩ ⟨"ElementFiles", "write", "(Z)I"⟩ ∈ ev_tbl := ev_mem (List.mem_of_getElem? (i := 607) (by decide +kernel)) rfl
theorem m_474 : Cond.code ⟨"ElementFiles", "write", "(Z)I"⟩ prog_1_method_18_code 2 (some .int) ∈ ev_tbl := ev_mem (List.mem_of_getElem? (i := 608) (by decide +kernel)) rfl
theorem m_475 : Cond.methodLink "ElementFiles" 206 ⟨"ElementFiles$Writer", "measureTree", "(Z)I"⟩ ∈ ev_tbl := ev_mem (List.mem_of_getElem? (i := 609) (by decide +kernel)) rfl
theorem m_476 : Cond.instanceMethod ⟨"ElementFiles$Writer", "measureTree", "(Z)I"⟩ ∈ ev_tbl := ev_mem (List.mem_of_getElem? (i := 610) (by decide +kernel)) rfl
theorem m_477 : Cond.selects "ElementFiles$Writer" ⟨"ElementFiles$Writer", "measureTree", "(Z)I"⟩ ⟨"ElementFiles$Writer", "measureTree", "(Z)I"⟩ ∈ ev_tbl := ev_mem (List.mem_of_getElem? (i := 611) (by decide +kernel)) rfl
theorem m_478 : Cond.code ⟨"ElementFiles$Writer", "measureTree", "(Z)I"⟩ prog_9_method_2_code 7 (some .int) ∈ ev_tbl := ev_mem (List.mem_of_getElem? (i := 612) (by decide +kernel)) rfl
theorem m_479 : Cond.methodLink "ElementFiles$Writer" 38 ⟨"ElementFiles$Writer", "putLeaf", "(LElementFiles$Element;LElementFiles$Row;)V"⟩ ∈ ev_tbl := ev_mem (List.mem_of_getElem? (i := 613) (by decide +kernel)) rfl
theorem m_480 : Cond.instanceMethod ⟨"ElementFiles$Writer", "putLeaf", "(LElementFiles$Element;LElementFiles$Row;)V"⟩ ∈ ev_tbl := ev_mem (List.mem_of_getElem? (i := 615) (by decide +kernel)) rfl
theorem m_481 : Cond.code ⟨"ElementFiles$Writer", "putLeaf", "(LElementFiles$Element;LElementFiles$Row;)V"⟩ prog_9_method_6_code 3 none ∈ ev_tbl := ev_mem (List.mem_of_getElem? (i := 616) (by decide +kernel)) rfl
theorem m_482 : Cond.methodLink "ElementFiles$Writer" 58 ⟨"ElementFiles$Writer", "fewestBytes", "(J)I"⟩ ∈ ev_tbl := ev_mem (List.mem_of_getElem? (i := 617) (by decide +kernel)) rfl
theorem m_483 : Cond.static ⟨"ElementFiles$Writer", "fewestBytes", "(J)I"⟩ ∈ ev_tbl := ev_mem (List.mem_of_getElem? (i := 618) (by decide +kernel)) rfl
theorem m_484 : Cond.code ⟨"ElementFiles$Writer", "fewestBytes", "(J)I"⟩ prog_9_method_7_code 3 (some .int) ∈ ev_tbl := ev_mem (List.mem_of_getElem? (i := 619) (by decide +kernel)) rfl
theorem m_485 : Cond.methodLink "ElementFiles$Writer" 88 ⟨"ElementFiles$Row", "putNumber", "(JI)V"⟩ ∈ ev_tbl := ev_mem (List.mem_of_getElem? (i := 620) (by decide +kernel)) rfl
theorem m_486 : Cond.methodLink "ElementFiles$Writer" 108 ⟨"ElementFiles$Writer", "putText", "(LElementFiles$Element;LElementFiles$Row;)V"⟩ ∈ ev_tbl := ev_mem (List.mem_of_getElem? (i := 621) (by decide +kernel)) rfl
theorem m_487 : Cond.static ⟨"ElementFiles$Writer", "putText", "(LElementFiles$Element;LElementFiles$Row;)V"⟩ ∈ ev_tbl := ev_mem (List.mem_of_getElem? (i := 622) (by decide +kernel)) rfl
theorem m_488 : Cond.code ⟨"ElementFiles$Writer", "putText", "(LElementFiles$Element;LElementFiles$Row;)V"⟩ prog_9_method_8_code 3 none ∈ ev_tbl := ev_mem (List.mem_of_getElem? (i := 623) (by decide +kernel)) rfl
theorem m_489 : Cond.methodLink "ElementFiles$Writer" 123 ⟨"ElementFiles$Element", "partAt", "(I)I"⟩ ∈ ev_tbl := ev_mem (List.mem_of_getElem? (i := 624) (by decide +kernel)) rfl
theorem m_490 : Cond.methodLink "ElementFiles$Writer" 92 ⟨"ElementFiles$Row", "put", "(I)V"⟩ ∈ ev_tbl := ev_mem (List.mem_of_getElem? (i := 625) (by decide +kernel)) rfl
theorem m_491 : Cond.methodLink "ElementFiles$Writer" 111 ⟨"ElementFiles$Writer", "putBlockHead", "(LElementFiles$Element;LElementFiles$Row;)V"⟩ ∈ ev_tbl := ev_mem (List.mem_of_getElem? (i := 626) (by decide +kernel)) rfl
theorem m_492 : Cond.static ⟨"ElementFiles$Writer", "putBlockHead", "(LElementFiles$Element;LElementFiles$Row;)V"⟩ ∈ ev_tbl := ev_mem (List.mem_of_getElem? (i := 627) (by decide +kernel)) rfl
theorem m_493 : Cond.code ⟨"ElementFiles$Writer", "putBlockHead", "(LElementFiles$Element;LElementFiles$Row;)V"⟩ prog_9_method_11_code 2 none ∈ ev_tbl := ev_mem (List.mem_of_getElem? (i := 628) (by decide +kernel)) rfl
theorem m_494 : Cond.static ⟨"ElementFiles", "shortestVintLength", "(J)I"⟩ ∈ ev_tbl := ev_mem (List.mem_of_getElem? (i := 630) (by decide +kernel)) rfl
theorem m_495 : Cond.code ⟨"ElementFiles", "shortestVintLength", "(J)I"⟩ prog_1_method_27_code 3 (some .int) ∈ ev_tbl := ev_mem (List.mem_of_getElem? (i := 631) (by decide +kernel)) rfl
theorem m_496 : Cond.methodLink "ElementFiles" 229 ⟨"ElementFiles", "allOnes", "(I)J"⟩ ∈ ev_tbl := ev_mem (List.mem_of_getElem? (i := 632) (by decide +kernel)) rfl
theorem m_497 : Cond.methodLink "ElementFiles$Writer" 95 ⟨"ElementFiles$Row", "putVint", "(JI)V"⟩ ∈ ev_tbl := ev_mem (List.mem_of_getElem? (i := 633) (by decide +kernel)) rfl
theorem m_498 : Cond.instanceMethod ⟨"ElementFiles$Row", "putVint", "(JI)V"⟩ ∈ ev_tbl := ev_mem (List.mem_of_getElem? (i := 634) (by decide +kernel)) rfl
theorem m_499 : Cond.selects "ElementFiles$Row" ⟨"ElementFiles$Row", "putVint", "(JI)V"⟩ ⟨"ElementFiles$Row", "putVint", "(JI)V"⟩ ∈ ev_tbl := ev_mem (List.mem_of_getElem? (i := 635) (by decide +kernel)) rfl
theorem m_500 : Cond.code ⟨"ElementFiles$Row", "putVint", "(JI)V"⟩ prog_6_method_6_code 4 none ∈ ev_tbl := ev_mem (List.mem_of_getElem? (i := 636) (by decide +kernel)) rfl
theorem m_501 : Cond.methodLink "ElementFiles$Row" 27 ⟨"ElementFiles$Row", "putNumber", "(JI)V"⟩ ∈ ev_tbl := ev_mem (List.mem_of_getElem? (i := 638) (by decide +kernel)) rfl
theorem m_502 : Cond.methodLink "ElementFiles$Writer" 114 ⟨"ElementFiles$Writer", "putSizes", "(LElementFiles$Element;LElementFiles$Row;)V"⟩ ∈ ev_tbl := ev_mem (List.mem_of_getElem? (i := 639) (by decide +kernel)) rfl
theorem m_503 : Cond.static ⟨"ElementFiles$Writer", "putSizes", "(LElementFiles$Element;LElementFiles$Row;)V"⟩ ∈ ev_tbl := ev_mem (List.mem_of_getElem? (i := 640) (by decide +kernel)) rfl
theorem m_504 : Cond.code ⟨"ElementFiles$Writer", "putSizes", "(LElementFiles$Element;LElementFiles$Row;)V"⟩ prog_9_method_12_code 6 none ∈ ev_tbl := ev_mem (List.mem_of_getElem? (i := 641) (by decide +kernel)) rfl
theorem m_505 : Cond.methodLink "ElementFiles$Writer" 149 ⟨"ElementFiles$Writer", "putSizeOfBytes", "(ILElementFiles$Row;)V"⟩ ∈ ev_tbl := ev_mem (List.mem_of_getElem? (i := 642) (by decide +kernel)) rfl
theorem m_506 : Cond.static ⟨"ElementFiles$Writer", "putSizeOfBytes", "(ILElementFiles$Row;)V"⟩ ∈ ev_tbl := ev_mem (List.mem_of_getElem? (i := 643) (by decide +kernel)) rfl
theorem m_507 : Cond.code ⟨"ElementFiles$Writer", "putSizeOfBytes", "(ILElementFiles$Row;)V"⟩ prog_9_method_13_code 3 none ∈ ev_tbl := ev_mem (List.mem_of_getElem? (i := 644) (by decide +kernel)) rfl
theorem m_508 : Cond.methodLink "ElementFiles$Writer" 153 ⟨"ElementFiles$Writer", "shortestDifferenceLength", "(I)I"⟩ ∈ ev_tbl := ev_mem (List.mem_of_getElem? (i := 645) (by decide +kernel)) rfl
theorem m_509 : Cond.static ⟨"ElementFiles$Writer", "shortestDifferenceLength", "(I)I"⟩ ∈ ev_tbl := ev_mem (List.mem_of_getElem? (i := 646) (by decide +kernel)) rfl
theorem m_510 : Cond.code ⟨"ElementFiles$Writer", "shortestDifferenceLength", "(I)I"⟩ prog_9_method_14_code 2 (some .int) ∈ ev_tbl := ev_mem (List.mem_of_getElem? (i := 647) (by decide +kernel)) rfl
theorem m_511 : Cond.methodLink "ElementFiles$Writer" 160 ⟨"java/lang/Math", "abs", "(I)I"⟩ ∈ ev_tbl := ev_mem (List.mem_of_getElem? (i := 648) (by decide +kernel)) rfl
theorem m_512 : Cond.static ⟨"java/lang/Math", "abs", "(I)I"⟩ ∈ ev_tbl := ev_mem (List.mem_of_getElem? (i := 649) (by decide +kernel)) rfl
theorem m_513 : Cond.code ⟨"java/lang/Math", "abs", "(I)I"⟩ prog_13_method_59_code 1 (some .int) ∈ ev_tbl := ev_mem (List.mem_of_getElem? (i := 650) (by decide +kernel)) rfl
theorem m_514 : Cond.methodLink "ElementFiles$Writer" 117 ⟨"ElementFiles$Writer", "putStored", "(LElementFiles$Element;LElementFiles$Row;)V"⟩ ∈ ev_tbl := ev_mem (List.mem_of_getElem? (i := 652) (by decide +kernel)) rfl
theorem m_515 : Cond.instanceMethod ⟨"ElementFiles$Writer", "putStored", "(LElementFiles$Element;LElementFiles$Row;)V"⟩ ∈ ev_tbl := ev_mem (List.mem_of_getElem? (i := 654) (by decide +kernel)) rfl
theorem m_516 : Cond.code ⟨"ElementFiles$Writer", "putStored", "(LElementFiles$Element;LElementFiles$Row;)V"⟩ prog_9_method_10_code 4 none ∈ ev_tbl := ev_mem (List.mem_of_getElem? (i := 655) (by decide +kernel)) rfl
theorem m_517 : Cond.methodLink "ElementFiles$Writer" 133 ⟨"ElementFiles$Tree", "storedAt", "(I)I"⟩ ∈ ev_tbl := ev_mem (List.mem_of_getElem? (i := 656) (by decide +kernel)) rfl
theorem m_518 : Cond.methodLink "ElementFiles$Writer" 120 ⟨"ElementFiles$Writer", "putZeros", "(LElementFiles$Element;LElementFiles$Row;)V"⟩ ∈ ev_tbl := ev_mem (List.mem_of_getElem? (i := 657) (by decide +kernel)) rfl
theorem m_519 : Cond.static ⟨"ElementFiles$Writer", "putZeros", "(LElementFiles$Element;LElementFiles$Row;)V"⟩ ∈ ev_tbl := ev_mem (List.mem_of_getElem? (i := 658) (by decide +kernel)) rfl
theorem m_520 : Cond.code ⟨"ElementFiles$Writer", "putZeros", "(LElementFiles$Element;LElementFiles$Row;)V"⟩ prog_9_method_9_code 3 none ∈ ev_tbl := ev_mem (List.mem_of_getElem? (i := 659) (by decide +kernel)) rfl
theorem m_521 : Cond.methodLink "ElementFiles$Writer" 47 ⟨"ElementFiles$Writer", "isOpen", "(LElementFiles$Element;Z)Z"⟩ ∈ ev_tbl := ev_mem (List.mem_of_getElem? (i := 660) (by decide +kernel)) rfl
theorem m_522 : Cond.static ⟨"ElementFiles$Writer", "isOpen", "(LElementFiles$Element;Z)Z"⟩ ∈ ev_tbl := ev_mem (List.mem_of_getElem? (i := 661) (by decide +kernel)) rfl
theorem m_523 : Cond.code ⟨"ElementFiles$Writer", "isOpen", "(LElementFiles$Element;Z)Z"⟩ prog_9_method_4_code 2 (some .boolean) ∈ ev_tbl := ev_mem (List.mem_of_getElem? (i := 662) (by decide +kernel)) rfl
theorem m_524 : Cond.fieldLink "ElementFiles$Writer" 82 "ElementFiles$Sort" "SEGMENT" "LElementFiles$Sort;" ∈ ev_tbl := ev_mem (List.mem_of_getElem? (i := 663) (by decide +kernel)) rfl
theorem m_525 : Cond.fieldLink "ElementFiles$Writer" 85 "ElementFiles$Sort" "CLUSTER" "LElementFiles$Sort;" ∈ ev_tbl := ev_mem (List.mem_of_getElem? (i := 664) (by decide +kernel)) rfl
theorem m_526 : Cond.methodLink "ElementFiles" 210 ⟨"ElementFiles$Writer", "putTree", "(Z)I"⟩ ∈ ev_tbl := ev_mem (List.mem_of_getElem? (i := 665) (by decide +kernel)) rfl
theorem m_527 : Cond.instanceMethod ⟨"ElementFiles$Writer", "putTree", "(Z)I"⟩ ∈ ev_tbl := ev_mem (List.mem_of_getElem? (i := 666) (by decide +kernel)) rfl
theorem m_528 : Cond.selects "ElementFiles$Writer" ⟨"ElementFiles$Writer", "putTree", "(Z)I"⟩ ⟨"ElementFiles$Writer", "putTree", "(Z)I"⟩ ∈ ev_tbl := ev_mem (List.mem_of_getElem? (i := 667) (by decide +kernel)) rfl
theorem m_529 : Cond.code ⟨"ElementFiles$Writer", "putTree", "(Z)I"⟩ prog_9_method_3_code 3 (some .int) ∈ ev_tbl := ev_mem (List.mem_of_getElem? (i := 668) (by decide +kernel)) rfl
theorem m_530 : Cond.methodLink "ElementFiles$Writer" 65 ⟨"ElementFiles$Writer", "putHeader", "(LElementFiles$Element;Z)V"⟩ ∈ ev_tbl := ev_mem (List.mem_of_getElem? (i := 669) (by decide +kernel)) rfl
theorem m_531 : Cond.instanceMethod ⟨"ElementFiles$Writer", "putHeader", "(LElementFiles$Element;Z)V"⟩ ∈ ev_tbl := ev_mem (List.mem_of_getElem? (i := 671) (by decide +kernel)) rfl
theorem m_532 : Cond.code ⟨"ElementFiles$Writer", "putHeader", "(LElementFiles$Element;Z)V"⟩ prog_9_method_5_code 3 none ∈ ev_tbl := ev_mem (List.mem_of_getElem? (i := 672) (by decide +kernel)) rfl
theorem m_533 : Cond.fieldLink "ElementFiles$Writer" 73 "ElementFiles$Sort" "CHECK" "LElementFiles$Sort;" ∈ ev_tbl := ev_mem (List.mem_of_getElem? (i := 673) (by decide +kernel)) rfl
theorem m_534 : Cond.methodLink "ElementFiles$Writer" 78 ⟨"ElementFiles$Writer", "fillCheck", "(LElementFiles$Element;)V"⟩ ∈ ev_tbl := ev_mem (List.mem_of_getElem? (i := 674) (by decide +kernel)) rfl
theorem m_535 : Cond.instanceMethod ⟨"ElementFiles$Writer", "fillCheck", "(LElementFiles$Element;)V"⟩ ∈ ev_tbl := ev_mem (List.mem_of_getElem? (i := 676) (by decide +kernel)) rfl
theorem m_536 : Cond.code ⟨"ElementFiles$Writer", "fillCheck", "(LElementFiles$Element;)V"⟩ prog_9_method_15_code 5 none ∈ ev_tbl := ev_mem (List.mem_of_getElem? (i := 677) (by decide +kernel)) rfl
theorem m_537 : Cond.methodLink "ElementFiles$Writer" 165 ⟨"ElementFiles$Row", "sum", "(II)I"⟩ ∈ ev_tbl := ev_mem (List.mem_of_getElem? (i := 678) (by decide +kernel)) rfl
theorem m_538 : Cond.methodLink "ElementFiles$Writer" 169 ⟨"ElementFiles$Row", "change", "(II)V"⟩ ∈ ev_tbl := ev_mem (List.mem_of_getElem? (i := 679) (by decide +kernel)) rfl
theorem m_539 : Cond.instanceMethod ⟨"ElementFiles$Row", "change", "(II)V"⟩ ∈ ev_tbl := ev_mem (List.mem_of_getElem? (i := 680) (by decide +kernel)) rfl
theorem m_540 : Cond.selects "ElementFiles$Row" ⟨"ElementFiles$Row", "change", "(II)V"⟩ ⟨"ElementFiles$Row", "change", "(II)V"⟩ ∈ ev_tbl := ev_mem (List.mem_of_getElem? (i := 681) (by decide +kernel)) rfl
theorem m_541 : Cond.code ⟨"ElementFiles$Row", "change", "(II)V"⟩ prog_6_method_3_code 3 none ∈ ev_tbl := ev_mem (List.mem_of_getElem? (i := 682) (by decide +kernel)) rfl
theorem m_542 : Cond.methodLink "ElementFilesLaw" 93 ⟨"ElementFiles", "index", "(I)I"⟩ ∈ ev_tbl := ev_mem (List.mem_of_getElem? (i := 683) (by decide +kernel)) rfl
theorem m_543 : Cond.instanceMethod ⟨"ElementFiles", "index", "(I)I"⟩ ∈ ev_tbl := ev_mem (List.mem_of_getElem? (i := 684) (by decide +kernel)) rfl
theorem m_544 : Cond.selects "ElementFiles" ⟨"ElementFiles", "index", "(I)I"⟩ ⟨"ElementFiles", "index", "(I)I"⟩ ∈ ev_tbl := ev_mem (List.mem_of_getElem? (i := 685) (by decide +kernel)) rfl
theorem m_545 : Cond.code ⟨"ElementFiles", "index", "(I)I"⟩ prog_1_method_19_code 3 (some .int) ∈ ev_tbl := ev_mem (List.mem_of_getElem? (i := 686) (by decide +kernel)) rfl
theorem m_546 : Cond.methodLink "ElementFiles" 213 ⟨"ElementFiles", "segmentAt", "(I)LElementFiles$Element;"⟩ ∈ ev_tbl := ev_mem (List.mem_of_getElem? (i := 687) (by decide +kernel)) rfl
theorem m_547 : Cond.instanceMethod ⟨"ElementFiles", "segmentAt", "(I)LElementFiles$Element;"⟩ ∈ ev_tbl := ev_mem (List.mem_of_getElem? (i := 689) (by decide +kernel)) rfl
theorem m_548 : Cond.code ⟨"ElementFiles", "segmentAt", "(I)LElementFiles$Element;"⟩ prog_1_method_22_code 3 (some (.object "ElementFiles$Element")) ∈ ev_tbl := ev_mem (List.mem_of_getElem? (i := 690) (by decide +kernel)) rfl
theorem m_549 : Cond.fieldLink "ElementFiles" 226 "ElementFiles$Sort" "SEGMENT" "LElementFiles$Sort;" ∈ ev_tbl := ev_mem (List.mem_of_getElem? (i := 691) (by decide +kernel)) rfl
theorem m_550 : Cond.methodLink "ElementFiles" 216 ⟨"ElementFiles$Finder", "renewCues", "(LElementFiles$Element;)I"⟩ ∈ ev_tbl := ev_mem (List.mem_of_getElem? (i := 692) (by decide +kernel)) rfl
theorem m_551 : Cond.instanceMethod ⟨"ElementFiles$Finder", "renewCues", "(LElementFiles$Element;)I"⟩ ∈ ev_tbl := ev_mem (List.mem_of_getElem? (i := 693) (by decide +kernel)) rfl
theorem m_552 : Cond.selects "ElementFiles$Finder" ⟨"ElementFiles$Finder", "renewCues", "(LElementFiles$Element;)I"⟩ ⟨"ElementFiles$Finder", "renewCues", "(LElementFiles$Element;)I"⟩ ∈ ev_tbl := ev_mem (List.mem_of_getElem? (i := 694) (by decide +kernel)) rfl
theorem m_553 : Cond.code ⟨"ElementFiles$Finder", "renewCues", "(LElementFiles$Element;)I"⟩ prog_3_method_2_code 8 (some .int) ∈ ev_tbl := ev_mem (List.mem_of_getElem? (i := 695) (by decide +kernel)) rfl
theorem m_554 : Cond.methodLink "ElementFiles$Finder" 15 ⟨"ElementFiles$Finder", "countKeyBlocks", "(LElementFiles$Element;)I"⟩ ∈ ev_tbl := ev_mem (List.mem_of_getElem? (i := 696) (by decide +kernel)) rfl
theorem m_555 : Cond.instanceMethod ⟨"ElementFiles$Finder", "countKeyBlocks", "(LElementFiles$Element;)I"⟩ ∈ ev_tbl := ev_mem (List.mem_of_getElem? (i := 698) (by decide +kernel)) rfl
theorem m_556 : Cond.code ⟨"ElementFiles$Finder", "countKeyBlocks", "(LElementFiles$Element;)I"⟩ prog_3_method_3_code 5 (some .int) ∈ ev_tbl := ev_mem (List.mem_of_getElem? (i := 699) (by decide +kernel)) rfl
theorem m_557 : Cond.methodLink "ElementFiles$Finder" 39 ⟨"ElementFiles$Tree", "endOf", "(LElementFiles$Element;)I"⟩ ∈ ev_tbl := ev_mem (List.mem_of_getElem? (i := 700) (by decide +kernel)) rfl
theorem m_558 : Cond.fieldLink "ElementFiles$Finder" 54 "ElementFiles$Sort" "BLOCK" "LElementFiles$Sort;" ∈ ev_tbl := ev_mem (List.mem_of_getElem? (i := 701) (by decide +kernel)) rfl
theorem m_559 : Cond.fieldLink "ElementFiles$Finder" 25 "ElementFiles$Sort" "CUE" "LElementFiles$Sort;" ∈ ev_tbl := ev_mem (List.mem_of_getElem? (i := 702) (by decide +kernel)) rfl
theorem m_560 : Cond.methodLink "ElementFiles$Finder" 31 ⟨"ElementFiles$Tree", "weigh", "(LElementFiles$Element;LElementFiles$Sort;)I"⟩ ∈ ev_tbl := ev_mem (List.mem_of_getElem? (i := 704) (by decide +kernel)) rfl
theorem m_561 : Cond.instanceMethod ⟨"ElementFiles$Tree", "weigh", "(LElementFiles$Element;LElementFiles$Sort;)I"⟩ ∈ ev_tbl := ev_mem (List.mem_of_getElem? (i := 705) (by decide +kernel)) rfl
theorem m_562 : Cond.selects "ElementFiles$Tree" ⟨"ElementFiles$Tree", "weigh", "(LElementFiles$Element;LElementFiles$Sort;)I"⟩ ⟨"ElementFiles$Tree", "weigh", "(LElementFiles$Element;LElementFiles$Sort;)I"⟩ ∈ ev_tbl := ev_mem (List.mem_of_getElem? (i := 706) (by decide +kernel)) rfl
theorem m_563 : Cond.code ⟨"ElementFiles$Tree", "weigh", "(LElementFiles$Element;LElementFiles$Sort;)I"⟩ prog_8_method_10_code 7 (some .int) ∈ ev_tbl := ev_mem (List.mem_of_getElem? (i := 707) (by decide +kernel)) rfl
theorem m_564 : Cond.methodLink "ElementFiles$Finder" 35 ⟨"ElementFiles$Tree", "takeOut", "(LElementFiles$Element;LElementFiles$Sort;)V"⟩ ∈ ev_tbl := ev_mem (List.mem_of_getElem? (i := 708) (by decide +kernel)) rfl
theorem m_565 : Cond.instanceMethod ⟨"ElementFiles$Tree", "takeOut", "(LElementFiles$Element;LElementFiles$Sort;)V"⟩ ∈ ev_tbl := ev_mem (List.mem_of_getElem? (i := 709) (by decide +kernel)) rfl
theorem m_566 : Cond.selects "ElementFiles$Tree" ⟨"ElementFiles$Tree", "takeOut", "(LElementFiles$Element;LElementFiles$Sort;)V"⟩ ⟨"ElementFiles$Tree", "takeOut", "(LElementFiles$Element;LElementFiles$Sort;)V"⟩ ∈ ev_tbl := ev_mem (List.mem_of_getElem? (i := 710) (by decide +kernel)) rfl
theorem m_567 : Cond.code ⟨"ElementFiles$Tree", "takeOut", "(LElementFiles$Element;LElementFiles$Sort;)V"⟩ prog_8_method_11_code 9 none ∈ ev_tbl := ev_mem (List.mem_of_getElem? (i := 711) (by decide +kernel)) rfl
theorem m_568 : Cond.methodLink "ElementFiles$Finder" 61 ⟨"ElementFiles$Finder", "addCue", "(LElementFiles$Element;LElementFiles$Element;I)V"⟩ ∈ ev_tbl := ev_mem (List.mem_of_getElem? (i := 712) (by decide +kernel)) rfl
theorem m_569 : Cond.instanceMethod ⟨"ElementFiles$Finder", "addCue", "(LElementFiles$Element;LElementFiles$Element;I)V"⟩ ∈ ev_tbl := ev_mem (List.mem_of_getElem? (i := 714) (by decide +kernel)) rfl
theorem m_570 : Cond.code ⟨"ElementFiles$Finder", "addCue", "(LElementFiles$Element;LElementFiles$Element;I)V"⟩ prog_3_method_4_code 5 none ∈ ev_tbl := ev_mem (List.mem_of_getElem? (i := 715) (by decide +kernel)) rfl
theorem m_571 : Cond.methodLink "ElementFiles$Finder" 68 ⟨"ElementFiles$Tree", "add", "(LElementFiles$Element;LElementFiles$Sort;I)LElementFiles$Element;"⟩ ∈ ev_tbl := ev_mem (List.mem_of_getElem? (i := 716) (by decide +kernel)) rfl
theorem m_572 : Cond.fieldLink "ElementFiles$Finder" 72 "ElementFiles$Sort" "WHEN" "LElementFiles$Sort;" ∈ ev_tbl := ev_mem (List.mem_of_getElem? (i := 717) (by decide +kernel)) rfl
theorem m_573 : Cond.methodLink "ElementFiles$Finder" 75 ⟨"ElementFiles$Finder", "momentOf", "(LElementFiles$Element;)J"⟩ ∈ ev_tbl := ev_mem (List.mem_of_getElem? (i := 719) (by decide +kernel)) rfl
theorem m_574 : Cond.instanceMethod ⟨"ElementFiles$Finder", "momentOf", "(LElementFiles$Element;)J"⟩ ∈ ev_tbl := ev_mem (List.mem_of_getElem? (i := 721) (by decide +kernel)) rfl
theorem m_575 : Cond.code ⟨"ElementFiles$Finder", "momentOf", "(LElementFiles$Element;)J"⟩ prog_3_method_6_code 2 (some .long) ∈ ev_tbl := ev_mem (List.mem_of_getElem? (i := 722) (by decide +kernel)) rfl
theorem m_576 : Cond.fieldLink "ElementFiles$Finder" 103 "ElementFiles$Sort" "TIME" "LElementFiles$Sort;" ∈ ev_tbl := ev_mem (List.mem_of_getElem? (i := 723) (by decide +kernel)) rfl
theorem m_577 : Cond.methodLink "ElementFiles$Finder" 106 ⟨"ElementFiles$Finder", "firstNumber", "(LElementFiles$Element;LElementFiles$Sort;)J"⟩ ∈ ev_tbl := ev_mem (List.mem_of_getElem? (i := 725) (by decide +kernel)) rfl
theorem m_578 : Cond.instanceMethod ⟨"ElementFiles$Finder", "firstNumber", "(LElementFiles$Element;LElementFiles$Sort;)J"⟩ ∈ ev_tbl := ev_mem (List.mem_of_getElem? (i := 727) (by decide +kernel)) rfl
theorem m_579 : Cond.code ⟨"ElementFiles$Finder", "firstNumber", "(LElementFiles$Element;LElementFiles$Sort;)J"⟩ prog_3_method_7_code 5 (some .long) ∈ ev_tbl := ev_mem (List.mem_of_getElem? (i := 728) (by decide +kernel)) rfl
theorem m_580 : Cond.methodLink "ElementFiles$Finder" 79 ⟨"ElementFiles$Finder", "addNumber", "(LElementFiles$Element;LElementFiles$Sort;J)V"⟩ ∈ ev_tbl := ev_mem (List.mem_of_getElem? (i := 729) (by decide +kernel)) rfl
theorem m_581 : Cond.instanceMethod ⟨"ElementFiles$Finder", "addNumber", "(LElementFiles$Element;LElementFiles$Sort;J)V"⟩ ∈ ev_tbl := ev_mem (List.mem_of_getElem? (i := 731) (by decide +kernel)) rfl
theorem m_582 : Cond.code ⟨"ElementFiles$Finder", "addNumber", "(LElementFiles$Element;LElementFiles$Sort;J)V"⟩ prog_3_method_5_code 6 none ∈ ev_tbl := ev_mem (List.mem_of_getElem? (i := 732) (by decide +kernel)) rfl
theorem m_583 : Cond.fieldLink "ElementFiles$Finder" 83 "ElementFiles$Sort" "WHOSE" "LElementFiles$Sort;" ∈ ev_tbl := ev_mem (List.mem_of_getElem? (i := 733) (by decide +kernel)) rfl
theorem m_584 : Cond.fieldLink "ElementFiles$Finder" 89 "ElementFiles$Sort" "WHICH" "LElementFiles$Sort;" ∈ ev_tbl := ev_mem (List.mem_of_getElem? (i := 735) (by decide +kernel)) rfl
theorem m_585 : Cond.methodLink "ElementFilesLaw" 97 ⟨"ElementFiles", "seek", "(IIJ)I"⟩ ∈ ev_tbl := ev_mem (List.mem_of_getElem? (i := 737) (by decide +kernel)) rfl
theorem m_586 : Cond.instanceMethod ⟨"ElementFiles", "seek", "(IIJ)I"⟩ ∈ ev_tbl := ev_mem (List.mem_of_getElem? (i := 738) (by decide +kernel)) rfl
theorem m_587 : Cond.selects "ElementFiles" ⟨"ElementFiles", "seek", "(IIJ)I"⟩ ⟨"ElementFiles", "seek", "(IIJ)I"⟩ ∈ ev_tbl := ev_mem (List.mem_of_getElem? (i := 739) (by decide +kernel)) rfl
theorem m_588 : Cond.code ⟨"ElementFiles", "seek", "(IIJ)I"⟩ prog_1_method_20_code 6 (some .int) ∈ ev_tbl := ev_mem (List.mem_of_getElem? (i := 740) (by decide +kernel)) rfl
theorem m_589 : Cond.methodLink "ElementFiles" 219 ⟨"ElementFiles$Finder", "findByBlocks", "(LElementFiles$Element;IJ)I"⟩ ∈ ev_tbl := ev_mem (List.mem_of_getElem? (i := 741) (by decide +kernel)) rfl
theorem m_590 : Cond.instanceMethod ⟨"ElementFiles$Finder", "findByBlocks", "(LElementFiles$Element;IJ)I"⟩ ∈ ev_tbl := ev_mem (List.mem_of_getElem? (i := 742) (by decide +kernel)) rfl
theorem m_591 : Cond.selects "ElementFiles$Finder" ⟨"ElementFiles$Finder", "findByBlocks", "(LElementFiles$Element;IJ)I"⟩ ⟨"ElementFiles$Finder", "findByBlocks", "(LElementFiles$Element;IJ)I"⟩ ∈ ev_tbl := ev_mem (List.mem_of_getElem? (i := 743) (by decide +kernel)) rfl
theorem m_592 : Cond.code ⟨"ElementFiles$Finder", "findByBlocks", "(LElementFiles$Element;IJ)I"⟩ prog_3_method_8_code 8 (some .int) ∈ ev_tbl := ev_mem (List.mem_of_getElem? (i := 744) (by decide +kernel)) rfl
theorem m_593 : Cond.methodLink "ElementFilesLaw" 101 ⟨"ElementFiles", "jump", "(IIJ)I"⟩ ∈ ev_tbl := ev_mem (List.mem_of_getElem? (i := 745) (by decide +kernel)) rfl
theorem m_594 : Cond.instanceMethod ⟨"ElementFiles", "jump", "(IIJ)I"⟩ ∈ ev_tbl := ev_mem (List.mem_of_getElem? (i := 746) (by decide +kernel)) rfl
theorem m_595 : Cond.selects "ElementFiles" ⟨"ElementFiles", "jump", "(IIJ)I"⟩ ⟨"ElementFiles", "jump", "(IIJ)I"⟩ ∈ ev_tbl := ev_mem (List.mem_of_getElem? (i := 747) (by decide +kernel)) rfl
theorem m_596 : Cond.code ⟨"ElementFiles", "jump", "(IIJ)I"⟩ prog_1_method_21_code 6 (some .int) ∈ ev_tbl := ev_mem (List.mem_of_getElem? (i := 748) (by decide +kernel)) rfl
theorem m_597 : Cond.methodLink "ElementFiles" 223 ⟨"ElementFiles$Finder", "findByCues", "(LElementFiles$Element;IJ)I"⟩ ∈ ev_tbl := ev_mem (List.mem_of_getElem? (i := 749) (by decide +kernel)) rfl
theorem m_598 : Cond.instanceMethod ⟨"ElementFiles$Finder", "findByCues", "(LElementFiles$Element;IJ)I"⟩ ∈ ev_tbl := ev_mem (List.mem_of_getElem? (i := 750) (by decide +kernel)) rfl
theorem m_599 : Cond.selects "ElementFiles$Finder" ⟨"ElementFiles$Finder", "findByCues", "(LElementFiles$Element;IJ)I"⟩ ⟨"ElementFiles$Finder", "findByCues", "(LElementFiles$Element;IJ)I"⟩ ∈ ev_tbl := ev_mem (List.mem_of_getElem? (i := 751) (by decide +kernel)) rfl
theorem m_600 : Cond.code ⟨"ElementFiles$Finder", "findByCues", "(LElementFiles$Element;IJ)I"⟩ prog_3_method_9_code 8 (some .int) ∈ ev_tbl := ev_mem (List.mem_of_getElem? (i := 752) (by decide +kernel)) rfl
theorem m_601 : Cond.methodLink "ElementFiles$Finder" 110 ⟨"ElementFiles$Finder", "blockWithBefore", "(LElementFiles$Element;J)I"⟩ ∈ ev_tbl := ev_mem (List.mem_of_getElem? (i := 753) (by decide +kernel)) rfl
theorem m_602 : Cond.instanceMethod ⟨"ElementFiles$Finder", "blockWithBefore", "(LElementFiles$Element;J)I"⟩ ∈ ev_tbl := ev_mem (List.mem_of_getElem? (i := 755) (by decide +kernel)) rfl
theorem m_603 : Cond.code ⟨"ElementFiles$Finder", "blockWithBefore", "(LElementFiles$Element;J)I"⟩ prog_3_method_10_code 8 (some .int) ∈ ev_tbl := ev_mem (List.mem_of_getElem? (i := 756) (by decide +kernel)) rfl
theorem m_604 : Cond.classLink "ElementFilesLaw" 10 "ElementFilesModel" ∈ ev_tbl := ev_mem (List.mem_of_getElem? (i := 757) (by decide +kernel)) rfl
theorem m_605 : Cond.instantiable "ElementFilesModel" 33 ∈ ev_tbl := ev_mem (List.mem_of_getElem? (i := 758) (by decide +kernel)) rfl
theorem m_606 : Cond.methodLink "ElementFilesLaw" 12 ⟨"ElementFilesModel", "<init>", "()V"⟩ ∈ ev_tbl := ev_mem (List.mem_of_getElem? (i := 759) (by decide +kernel)) rfl
theorem m_607 : Cond.instanceMethod ⟨"ElementFilesModel", "<init>", "()V"⟩ ∈ ev_tbl := ev_mem (List.mem_of_getElem? (i := 760) (by decide +kernel)) rfl
theorem m_608 : Cond.code ⟨"ElementFilesModel", "<init>", "()V"⟩ prog_11_method_1_code 1 none ∈ ev_tbl := ev_mem (List.mem_of_getElem? (i := 761) (by decide +kernel)) rfl
theorem m_609 : Cond.methodLink "ElementFilesModel" 1 ⟨"java/lang/Object", "<init>", "()V"⟩ ∈ ev_tbl := ev_mem (List.mem_of_getElem? (i := 762) (by decide +kernel)) rfl
theorem m_610 : Cond.fieldLink "ElementFilesModel" 86 "ElementFilesModel" "count" "I" ∈ ev_tbl := ev_mem (List.mem_of_getElem? (i := 763) (by decide +kernel)) rfl
theorem m_611 : Cond.fieldLink "ElementFilesModel" 7 "ElementFilesModel" "ids" "[I" ∈ ev_tbl := ev_mem (List.mem_of_getElem? (i := 764) (by decide +kernel)) rfl
theorem m_612 : Cond.fieldLink "ElementFilesModel" 13 "ElementFilesModel" "masters" "[I" ∈ ev_tbl := ev_mem (List.mem_of_getElem? (i := 765) (by decide +kernel)) rfl
theorem m_613 : Cond.fieldLink "ElementFilesModel" 16 "ElementFilesModel" "values" "[J" ∈ ev_tbl := ev_mem (List.mem_of_getElem? (i := 766) (by decide +kernel)) rfl
theorem m_614 : Cond.fieldLink "ElementFilesModel" 20 "ElementFilesModel" "many" "[I" ∈ ev_tbl := ev_mem (List.mem_of_getElem? (i := 767) (by decide +kernel)) rfl
theorem m_615 : Cond.fieldLink "ElementFilesModel" 23 "ElementFilesModel" "letters" "[I" ∈ ev_tbl := ev_mem (List.mem_of_getElem? (i := 768) (by decide +kernel)) rfl
theorem m_616 : Cond.fieldLink "ElementFilesModel" 26 "ElementFilesModel" "tracks" "[I" ∈ ev_tbl := ev_mem (List.mem_of_getElem? (i := 769) (by decide +kernel)) rfl
theorem m_617 : Cond.fieldLink "ElementFilesModel" 29 "ElementFilesModel" "times" "[I" ∈ ev_tbl := ev_mem (List.mem_of_getElem? (i := 770) (by decide +kernel)) rfl
theorem m_618 : Cond.fieldLink "ElementFilesModel" 32 "ElementFilesModel" "keys" "[Z" ∈ ev_tbl := ev_mem (List.mem_of_getElem? (i := 771) (by decide +kernel)) rfl
theorem m_619 : Cond.fieldLink "ElementFilesModel" 36 "ElementFilesModel" "lacings" "[I" ∈ ev_tbl := ev_mem (List.mem_of_getElem? (i := 772) (by decide +kernel)) rfl
theorem m_620 : Cond.fieldLink "ElementFilesModel" 39 "ElementFilesModel" "sizes" "[I" ∈ ev_tbl := ev_mem (List.mem_of_getElem? (i := 773) (by decide +kernel)) rfl
theorem m_621 : Cond.fieldLink "ElementFilesModel" 42 "ElementFilesModel" "places" "[I" ∈ ev_tbl := ev_mem (List.mem_of_getElem? (i := 774) (by decide +kernel)) rfl
theorem m_622 : Cond.fieldLink "ElementFilesModel" 45 "ElementFilesModel" "heap" "[I" ∈ ev_tbl := ev_mem (List.mem_of_getElem? (i := 775) (by decide +kernel)) rfl
theorem m_623 : Cond.fieldLink "ElementFilesModel" 104 "ElementFilesModel" "used" "I" ∈ ev_tbl := ev_mem (List.mem_of_getElem? (i := 776) (by decide +kernel)) rfl
theorem m_624 : Cond.fieldLink "ElementFilesModel" 202 "ElementFilesModel" "hands" "I" ∈ ev_tbl := ev_mem (List.mem_of_getElem? (i := 777) (by decide +kernel)) rfl
theorem m_625 : Cond.fieldLink "ElementFilesModel" 48 "ElementFilesModel" "handSize" "[I" ∈ ev_tbl := ev_mem (List.mem_of_getElem? (i := 778) (by decide +kernel)) rfl
theorem m_626 : Cond.fieldLink "ElementFilesModel" 51 "ElementFilesModel" "handFirst" "[I" ∈ ev_tbl := ev_mem (List.mem_of_getElem? (i := 779) (by decide +kernel)) rfl
theorem m_627 : Cond.fieldLink "ElementFilesModel" 205 "ElementFilesModel" "handBytes" "I" ∈ ev_tbl := ev_mem (List.mem_of_getElem? (i := 780) (by decide +kernel)) rfl
theorem m_628 : Cond.fieldLink "ElementFilesModel" 54 "ElementFilesModel" "in" "[I" ∈ ev_tbl := ev_mem (List.mem_of_getElem? (i := 781) (by decide +kernel)) rfl
theorem m_629 : Cond.fieldLink "ElementFilesModel" 107 "ElementFilesModel" "ins" "I" ∈ ev_tbl := ev_mem (List.mem_of_getElem? (i := 782) (by decide +kernel)) rfl
theorem m_630 : Cond.fieldLink "ElementFilesModel" 57 "ElementFilesModel" "out" "[I" ∈ ev_tbl := ev_mem (List.mem_of_getElem? (i := 783) (by decide +kernel)) rfl
theorem m_631 : Cond.fieldLink "ElementFilesModel" 112 "ElementFilesModel" "outs" "I" ∈ ev_tbl := ev_mem (List.mem_of_getElem? (i := 784) (by decide +kernel)) rfl
theorem m_632 : Cond.fieldLink "ElementFilesModel" 60 "ElementFilesModel" "fault" "I" ∈ ev_tbl := ev_mem (List.mem_of_getElem? (i := 785) (by decide +kernel)) rfl
theorem m_633 : Cond.fieldLink "ElementFilesModel" 115 "ElementFilesModel" "at" "I" ∈ ev_tbl := ev_mem (List.mem_of_getElem? (i := 786) (by decide +kernel)) rfl
theorem m_634 : Cond.fieldLink "ElementFilesModel" 121 "ElementFilesModel" "width" "I" ∈ ev_tbl := ev_mem (List.mem_of_getElem? (i := 787) (by decide +kernel)) rfl
theorem m_635 : Cond.fieldLink "ElementFilesModel" 124 "ElementFilesModel" "vint" "J" ∈ ev_tbl := ev_mem (List.mem_of_getElem? (i := 788) (by decide +kernel)) rfl
theorem m_636 : Cond.fieldLink "ElementFilesModel" 128 "ElementFilesModel" "ones" "Z" ∈ ev_tbl := ev_mem (List.mem_of_getElem? (i := 789) (by decide +kernel)) rfl
theorem m_637 : Cond.fieldLink "ElementFilesModel" 132 "ElementFilesModel" "depth" "I" ∈ ev_tbl := ev_mem (List.mem_of_getElem? (i := 790) (by decide +kernel)) rfl
theorem m_638 : Cond.fieldLink "ElementFilesModel" 64 "ElementFilesModel" "openMaster" "[I" ∈ ev_tbl := ev_mem (List.mem_of_getElem? (i := 791) (by decide +kernel)) rfl
theorem m_639 : Cond.fieldLink "ElementFilesModel" 67 "ElementFilesModel" "openEnd" "[I" ∈ ev_tbl := ev_mem (List.mem_of_getElem? (i := 792) (by decide +kernel)) rfl
theorem m_640 : Cond.fieldLink "ElementFilesModel" 70 "ElementFilesModel" "unknown" "[Z" ∈ ev_tbl := ev_mem (List.mem_of_getElem? (i := 793) (by decide +kernel)) rfl
theorem m_641 : Cond.fieldLink "ElementFilesModel" 73 "ElementFilesModel" "data" "[I" ∈ ev_tbl := ev_mem (List.mem_of_getElem? (i := 794) (by decide +kernel)) rfl
theorem m_642 : Cond.fieldLink "ElementFilesModel" 76 "ElementFilesModel" "begins" "[I" ∈ ev_tbl := ev_mem (List.mem_of_getElem? (i := 795) (by decide +kernel)) rfl
theorem m_643 : Cond.arrayClass .long ∈ ev_tbl := ev_mem (List.mem_of_getElem? (i := 863) (by decide +kernel)) rfl
theorem m_644 : Cond.arrayClass .boolean ∈ ev_tbl := ev_mem (List.mem_of_getElem? (i := 864) (by decide +kernel)) rfl
theorem m_645 : Cond.methodLink "ElementFilesLaw" 42 ⟨"ElementFilesModel", "clear", "()V"⟩ ∈ ev_tbl := ev_mem (List.mem_of_getElem? (i := 865) (by decide +kernel)) rfl
theorem m_646 : Cond.instanceMethod ⟨"ElementFilesModel", "clear", "()V"⟩ ∈ ev_tbl := ev_mem (List.mem_of_getElem? (i := 866) (by decide +kernel)) rfl
theorem m_647 : Cond.selects "ElementFilesModel" ⟨"ElementFilesModel", "clear", "()V"⟩ ⟨"ElementFilesModel", "clear", "()V"⟩ ∈ ev_tbl := ev_mem (List.mem_of_getElem? (i := 867) (by decide +kernel)) rfl
theorem m_648 : Cond.code ⟨"ElementFilesModel", "clear", "()V"⟩ prog_11_method_14_code 1 none ∈ ev_tbl := ev_mem (List.mem_of_getElem? (i := 868) (by decide +kernel)) rfl
theorem m_649 : Cond.methodLink "ElementFilesLaw" 19 ⟨"ElementFilesModel", "feed", "(JI)I"⟩ ∈ ev_tbl := ev_mem (List.mem_of_getElem? (i := 869) (by decide +kernel)) rfl
theorem m_650 : Cond.instanceMethod ⟨"ElementFilesModel", "feed", "(JI)I"⟩ ∈ ev_tbl := ev_mem (List.mem_of_getElem? (i := 870) (by decide +kernel)) rfl
theorem m_651 : Cond.selects "ElementFilesModel" ⟨"ElementFilesModel", "feed", "(JI)I"⟩ ⟨"ElementFilesModel", "feed", "(JI)I"⟩ ∈ ev_tbl := ev_mem (List.mem_of_getElem? (i := 871) (by decide +kernel)) rfl
theorem m_652 : Cond.code ⟨"ElementFilesModel", "feed", "(JI)I"⟩ prog_11_method_15_code 5 (some .int) ∈ ev_tbl := ev_mem (List.mem_of_getElem? (i := 872) (by decide +kernel)) rfl
theorem m_653 : Cond.constantLong "ElementFilesModel" 110 (255) ∈ ev_tbl := ev_mem (List.mem_of_getElem? (i := 873) (by decide +kernel)) rfl
theorem m_654 : Cond.methodLink "ElementFilesLaw" 24 ⟨"ElementFilesModel", "take", "(Z)I"⟩ ∈ ev_tbl := ev_mem (List.mem_of_getElem? (i := 874) (by decide +kernel)) rfl
theorem m_655 : Cond.instanceMethod ⟨"ElementFilesModel", "take", "(Z)I"⟩ ∈ ev_tbl := ev_mem (List.mem_of_getElem? (i := 875) (by decide +kernel)) rfl
theorem m_656 : Cond.selects "ElementFilesModel" ⟨"ElementFilesModel", "take", "(Z)I"⟩ ⟨"ElementFilesModel", "take", "(Z)I"⟩ ∈ ev_tbl := ev_mem (List.mem_of_getElem? (i := 876) (by decide +kernel)) rfl
theorem m_657 : Cond.code ⟨"ElementFilesModel", "take", "(Z)I"⟩ prog_11_method_16_code 3 (some .int) ∈ ev_tbl := ev_mem (List.mem_of_getElem? (i := 877) (by decide +kernel)) rfl
theorem m_658 : Cond.methodLink "ElementFilesLaw" 29 ⟨"ElementFilesModel", "out", "(I)I"⟩ ∈ ev_tbl := ev_mem (List.mem_of_getElem? (i := 878) (by decide +kernel)) rfl
theorem m_659 : Cond.instanceMethod ⟨"ElementFilesModel", "out", "(I)I"⟩ ∈ ev_tbl := ev_mem (List.mem_of_getElem? (i := 879) (by decide +kernel)) rfl
theorem m_660 : Cond.selects "ElementFilesModel" ⟨"ElementFilesModel", "out", "(I)I"⟩ ⟨"ElementFilesModel", "out", "(I)I"⟩ ∈ ev_tbl := ev_mem (List.mem_of_getElem? (i := 880) (by decide +kernel)) rfl
theorem m_661 : Cond.code ⟨"ElementFilesModel", "out", "(I)I"⟩ prog_11_method_17_code 2 (some .int) ∈ ev_tbl := ev_mem (List.mem_of_getElem? (i := 881) (by decide +kernel)) rfl
theorem m_662 : Cond.methodLink "ElementFilesLaw" 34 ⟨"ElementFilesModel", "read", "()I"⟩ ∈ ev_tbl := ev_mem (List.mem_of_getElem? (i := 882) (by decide +kernel)) rfl
theorem m_663 : Cond.instanceMethod ⟨"ElementFilesModel", "read", "()I"⟩ ∈ ev_tbl := ev_mem (List.mem_of_getElem? (i := 883) (by decide +kernel)) rfl
theorem m_664 : Cond.selects "ElementFilesModel" ⟨"ElementFilesModel", "read", "()I"⟩ ⟨"ElementFilesModel", "read", "()I"⟩ ∈ ev_tbl := ev_mem (List.mem_of_getElem? (i := 884) (by decide +kernel)) rfl
theorem m_665 : Cond.code ⟨"ElementFilesModel", "read", "()I"⟩ prog_11_method_33_code 3 (some .int) ∈ ev_tbl := ev_mem (List.mem_of_getElem? (i := 885) (by decide +kernel)) rfl
theorem m_666 : Cond.methodLink "ElementFilesModel" 190 ⟨"ElementFilesModel", "readElement", "()I"⟩ ∈ ev_tbl := ev_mem (List.mem_of_getElem? (i := 886) (by decide +kernel)) rfl
theorem m_667 : Cond.instanceMethod ⟨"ElementFilesModel", "readElement", "()I"⟩ ∈ ev_tbl := ev_mem (List.mem_of_getElem? (i := 888) (by decide +kernel)) rfl
theorem m_668 : Cond.code ⟨"ElementFilesModel", "readElement", "()I"⟩ prog_11_method_32_code 5 (some .int) ∈ ev_tbl := ev_mem (List.mem_of_getElem? (i := 889) (by decide +kernel)) rfl
theorem m_669 : Cond.methodLink "ElementFilesModel" 171 ⟨"ElementFilesModel", "readId", "(I)I"⟩ ∈ ev_tbl := ev_mem (List.mem_of_getElem? (i := 890) (by decide +kernel)) rfl
theorem m_670 : Cond.instanceMethod ⟨"ElementFilesModel", "readId", "(I)I"⟩ ∈ ev_tbl := ev_mem (List.mem_of_getElem? (i := 892) (by decide +kernel)) rfl
theorem m_671 : Cond.code ⟨"ElementFilesModel", "readId", "(I)I"⟩ prog_11_method_20_code 5 (some .int) ∈ ev_tbl := ev_mem (List.mem_of_getElem? (i := 893) (by decide +kernel)) rfl
theorem m_672 : Cond.methodLink "ElementFilesModel" 118 ⟨"ElementFilesModel", "widthOf", "(I)I"⟩ ∈ ev_tbl := ev_mem (List.mem_of_getElem? (i := 894) (by decide +kernel)) rfl
theorem m_673 : Cond.static ⟨"ElementFilesModel", "widthOf", "(I)I"⟩ ∈ ev_tbl := ev_mem (List.mem_of_getElem? (i := 895) (by decide +kernel)) rfl
theorem m_674 : Cond.code ⟨"ElementFilesModel", "widthOf", "(I)I"⟩ prog_11_method_18_code 2 (some .int) ∈ ev_tbl := ev_mem (List.mem_of_getElem? (i := 896) (by decide +kernel)) rfl
theorem m_675 : Cond.methodLink "ElementFilesModel" 174 ⟨"ElementFilesModel", "masterId", "()I"⟩ ∈ ev_tbl := ev_mem (List.mem_of_getElem? (i := 897) (by decide +kernel)) rfl
theorem m_676 : Cond.instanceMethod ⟨"ElementFilesModel", "masterId", "()I"⟩ ∈ ev_tbl := ev_mem (List.mem_of_getElem? (i := 899) (by decide +kernel)) rfl
theorem m_677 : Cond.code ⟨"ElementFilesModel", "masterId", "()I"⟩ prog_11_method_21_code 1 (some .int) ∈ ev_tbl := ev_mem (List.mem_of_getElem? (i := 900) (by decide +kernel)) rfl
theorem m_678 : Cond.methodLink "ElementFilesModel" 178 ⟨"ElementFilesModel", "stands", "(II)Z"⟩ ∈ ev_tbl := ev_mem (List.mem_of_getElem? (i := 901) (by decide +kernel)) rfl
theorem m_679 : Cond.static ⟨"ElementFilesModel", "stands", "(II)Z"⟩ ∈ ev_tbl := ev_mem (List.mem_of_getElem? (i := 902) (by decide +kernel)) rfl
theorem m_680 : Cond.code ⟨"ElementFilesModel", "stands", "(II)Z"⟩ prog_11_method_3_code 2 (some .boolean) ∈ ev_tbl := ev_mem (List.mem_of_getElem? (i := 903) (by decide +kernel)) rfl
theorem m_681 : Cond.constant "ElementFilesModel" 79 (440786851) ∈ ev_tbl := ev_mem (List.mem_of_getElem? (i := 904) (by decide +kernel)) rfl
theorem m_682 : Cond.constant "ElementFilesModel" 80 (408125543) ∈ ev_tbl := ev_mem (List.mem_of_getElem? (i := 905) (by decide +kernel)) rfl
theorem m_683 : Cond.constant "ElementFilesModel" 81 (524531317) ∈ ev_tbl := ev_mem (List.mem_of_getElem? (i := 906) (by decide +kernel)) rfl
theorem m_684 : Cond.methodLink "ElementFilesModel" 82 ⟨"ElementFilesModel", "kindOf", "(I)I"⟩ ∈ ev_tbl := ev_mem (List.mem_of_getElem? (i := 907) (by decide +kernel)) rfl
theorem m_685 : Cond.static ⟨"ElementFilesModel", "kindOf", "(I)I"⟩ ∈ ev_tbl := ev_mem (List.mem_of_getElem? (i := 908) (by decide +kernel)) rfl
theorem m_686 : Cond.code ⟨"ElementFilesModel", "kindOf", "(I)I"⟩ prog_11_method_2_code 1 (some .int) ∈ ev_tbl := ev_mem (List.mem_of_getElem? (i := 909) (by decide +kernel)) rfl
theorem m_687 : Cond.methodLink "ElementFilesModel" 181 ⟨"ElementFilesModel", "children", "(I)I"⟩ ∈ ev_tbl := ev_mem (List.mem_of_getElem? (i := 910) (by decide +kernel)) rfl
theorem m_688 : Cond.instanceMethod ⟨"ElementFilesModel", "children", "(I)I"⟩ ∈ ev_tbl := ev_mem (List.mem_of_getElem? (i := 912) (by decide +kernel)) rfl
theorem m_689 : Cond.code ⟨"ElementFilesModel", "children", "(I)I"⟩ prog_11_method_7_code 4 (some .int) ∈ ev_tbl := ev_mem (List.mem_of_getElem? (i := 913) (by decide +kernel)) rfl
theorem m_690 : Cond.methodLink "ElementFilesModel" 184 ⟨"ElementFilesModel", "readSizeOf", "(I)I"⟩ ∈ ev_tbl := ev_mem (List.mem_of_getElem? (i := 914) (by decide +kernel)) rfl
theorem m_691 : Cond.instanceMethod ⟨"ElementFilesModel", "readSizeOf", "(I)I"⟩ ∈ ev_tbl := ev_mem (List.mem_of_getElem? (i := 916) (by decide +kernel)) rfl
theorem m_692 : Cond.code ⟨"ElementFilesModel", "readSizeOf", "(I)I"⟩ prog_11_method_31_code 4 (some .int) ∈ ev_tbl := ev_mem (List.mem_of_getElem? (i := 917) (by decide +kernel)) rfl
theorem m_693 : Cond.methodLink "ElementFilesModel" 140 ⟨"ElementFilesModel", "readVint", "(I)I"⟩ ∈ ev_tbl := ev_mem (List.mem_of_getElem? (i := 918) (by decide +kernel)) rfl
theorem m_694 : Cond.instanceMethod ⟨"ElementFilesModel", "readVint", "(I)I"⟩ ∈ ev_tbl := ev_mem (List.mem_of_getElem? (i := 920) (by decide +kernel)) rfl
theorem m_695 : Cond.code ⟨"ElementFilesModel", "readVint", "(I)I"⟩ prog_11_method_19_code 3 (some .int) ∈ ev_tbl := ev_mem (List.mem_of_getElem? (i := 921) (by decide +kernel)) rfl
theorem m_696 : Cond.methodLink "ElementFilesModel" 187 ⟨"ElementFilesModel", "readData", "(II)Z"⟩ ∈ ev_tbl := ev_mem (List.mem_of_getElem? (i := 922) (by decide +kernel)) rfl
theorem m_697 : Cond.instanceMethod ⟨"ElementFilesModel", "readData", "(II)Z"⟩ ∈ ev_tbl := ev_mem (List.mem_of_getElem? (i := 924) (by decide +kernel)) rfl
theorem m_698 : Cond.code ⟨"ElementFilesModel", "readData", "(II)Z"⟩ prog_11_method_30_code 3 (some .boolean) ∈ ev_tbl := ev_mem (List.mem_of_getElem? (i := 925) (by decide +kernel)) rfl
theorem m_699 : Cond.methodLink "ElementFilesModel" 159 ⟨"ElementFilesModel", "readNumber", "(I)Z"⟩ ∈ ev_tbl := ev_mem (List.mem_of_getElem? (i := 926) (by decide +kernel)) rfl
theorem m_700 : Cond.instanceMethod ⟨"ElementFilesModel", "readNumber", "(I)Z"⟩ ∈ ev_tbl := ev_mem (List.mem_of_getElem? (i := 928) (by decide +kernel)) rfl
theorem m_701 : Cond.code ⟨"ElementFilesModel", "readNumber", "(I)Z"⟩ prog_11_method_23_code 5 (some .boolean) ∈ ev_tbl := ev_mem (List.mem_of_getElem? (i := 929) (by decide +kernel)) rfl
theorem m_702 : Cond.methodLink "ElementFilesModel" 162 ⟨"ElementFilesModel", "readText", "(I)Z"⟩ ∈ ev_tbl := ev_mem (List.mem_of_getElem? (i := 930) (by decide +kernel)) rfl
theorem m_703 : Cond.instanceMethod ⟨"ElementFilesModel", "readText", "(I)Z"⟩ ∈ ev_tbl := ev_mem (List.mem_of_getElem? (i := 932) (by decide +kernel)) rfl
theorem m_704 : Cond.code ⟨"ElementFilesModel", "readText", "(I)Z"⟩ prog_11_method_24_code 4 (some .boolean) ∈ ev_tbl := ev_mem (List.mem_of_getElem? (i := 933) (by decide +kernel)) rfl
theorem m_705 : Cond.methodLink "ElementFilesModel" 165 ⟨"ElementFilesModel", "readBlock", "(I)Z"⟩ ∈ ev_tbl := ev_mem (List.mem_of_getElem? (i := 934) (by decide +kernel)) rfl
theorem m_706 : Cond.instanceMethod ⟨"ElementFilesModel", "readBlock", "(I)Z"⟩ ∈ ev_tbl := ev_mem (List.mem_of_getElem? (i := 936) (by decide +kernel)) rfl
theorem m_707 : Cond.code ⟨"ElementFilesModel", "readBlock", "(I)Z"⟩ prog_11_method_28_code 9 (some .boolean) ∈ ev_tbl := ev_mem (List.mem_of_getElem? (i := 937) (by decide +kernel)) rfl
theorem m_708 : Cond.constantLong "ElementFilesModel" 149 (126) ∈ ev_tbl := ev_mem (List.mem_of_getElem? (i := 938) (by decide +kernel)) rfl
theorem m_709 : Cond.methodLink "ElementFilesModel" 151 ⟨"ElementFilesModel", "readSizes", "(III)Z"⟩ ∈ ev_tbl := ev_mem (List.mem_of_getElem? (i := 939) (by decide +kernel)) rfl
theorem m_710 : Cond.instanceMethod ⟨"ElementFilesModel", "readSizes", "(III)Z"⟩ ∈ ev_tbl := ev_mem (List.mem_of_getElem? (i := 941) (by decide +kernel)) rfl
theorem m_711 : Cond.code ⟨"ElementFilesModel", "readSizes", "(III)Z"⟩ prog_11_method_27_code 8 (some .boolean) ∈ ev_tbl := ev_mem (List.mem_of_getElem? (i := 942) (by decide +kernel)) rfl
theorem m_712 : Cond.methodLink "ElementFilesModel" 145 ⟨"ElementFilesModel", "readSize", "(IIII)I"⟩ ∈ ev_tbl := ev_mem (List.mem_of_getElem? (i := 943) (by decide +kernel)) rfl
theorem m_713 : Cond.instanceMethod ⟨"ElementFilesModel", "readSize", "(IIII)I"⟩ ∈ ev_tbl := ev_mem (List.mem_of_getElem? (i := 945) (by decide +kernel)) rfl
theorem m_714 : Cond.code ⟨"ElementFilesModel", "readSize", "(IIII)I"⟩ prog_11_method_26_code 8 (some .int) ∈ ev_tbl := ev_mem (List.mem_of_getElem? (i := 946) (by decide +kernel)) rfl
theorem m_715 : Cond.constantLong "ElementFilesModel" 143 (640) ∈ ev_tbl := ev_mem (List.mem_of_getElem? (i := 947) (by decide +kernel)) rfl
theorem m_716 : Cond.methodLink "ElementFilesModel" 155 ⟨"ElementFilesModel", "keep", "(I)V"⟩ ∈ ev_tbl := ev_mem (List.mem_of_getElem? (i := 948) (by decide +kernel)) rfl
theorem m_717 : Cond.instanceMethod ⟨"ElementFilesModel", "keep", "(I)V"⟩ ∈ ev_tbl := ev_mem (List.mem_of_getElem? (i := 950) (by decide +kernel)) rfl
theorem m_718 : Cond.code ⟨"ElementFilesModel", "keep", "(I)V"⟩ prog_11_method_29_code 3 none ∈ ev_tbl := ev_mem (List.mem_of_getElem? (i := 951) (by decide +kernel)) rfl
theorem m_719 : Cond.methodLink "ElementFilesModel" 168 ⟨"ElementFilesModel", "readSum", "(II)Z"⟩ ∈ ev_tbl := ev_mem (List.mem_of_getElem? (i := 952) (by decide +kernel)) rfl
theorem m_720 : Cond.instanceMethod ⟨"ElementFilesModel", "readSum", "(II)Z"⟩ ∈ ev_tbl := ev_mem (List.mem_of_getElem? (i := 954) (by decide +kernel)) rfl
theorem m_721 : Cond.code ⟨"ElementFilesModel", "readSum", "(II)Z"⟩ prog_11_method_25_code 5 (some .boolean) ∈ ev_tbl := ev_mem (List.mem_of_getElem? (i := 955) (by decide +kernel)) rfl
theorem m_722 : Cond.methodLink "ElementFilesModel" 136 ⟨"ElementFilesModel", "crcStep", "(II)I"⟩ ∈ ev_tbl := ev_mem (List.mem_of_getElem? (i := 956) (by decide +kernel)) rfl
theorem m_723 : Cond.static ⟨"ElementFilesModel", "crcStep", "(II)I"⟩ ∈ ev_tbl := ev_mem (List.mem_of_getElem? (i := 957) (by decide +kernel)) rfl
theorem m_724 : Cond.code ⟨"ElementFilesModel", "crcStep", "(II)I"⟩ prog_11_method_22_code 5 (some .int) ∈ ev_tbl := ev_mem (List.mem_of_getElem? (i := 958) (by decide +kernel)) rfl
theorem m_725 : Cond.constant "ElementFilesModel" 135 (-306674912) ∈ ev_tbl := ev_mem (List.mem_of_getElem? (i := 959) (by decide +kernel)) rfl
theorem m_726 : Cond.methodLink "ElementFilesLaw" 38 ⟨"ElementFilesModel", "where", "()I"⟩ ∈ ev_tbl := ev_mem (List.mem_of_getElem? (i := 960) (by decide +kernel)) rfl
theorem m_727 : Cond.instanceMethod ⟨"ElementFilesModel", "where", "()I"⟩ ∈ ev_tbl := ev_mem (List.mem_of_getElem? (i := 961) (by decide +kernel)) rfl
theorem m_728 : Cond.selects "ElementFilesModel" ⟨"ElementFilesModel", "where", "()I"⟩ ⟨"ElementFilesModel", "where", "()I"⟩ ∈ ev_tbl := ev_mem (List.mem_of_getElem? (i := 962) (by decide +kernel)) rfl
theorem m_729 : Cond.code ⟨"ElementFilesModel", "where", "()I"⟩ prog_11_method_34_code 1 (some .int) ∈ ev_tbl := ev_mem (List.mem_of_getElem? (i := 963) (by decide +kernel)) rfl
theorem m_730 : Cond.methodLink "ElementFilesLaw" 47 ⟨"ElementFilesModel", "make", "(IIJ)I"⟩ ∈ ev_tbl := ev_mem (List.mem_of_getElem? (i := 964) (by decide +kernel)) rfl
theorem m_731 : Cond.instanceMethod ⟨"ElementFilesModel", "make", "(IIJ)I"⟩ ∈ ev_tbl := ev_mem (List.mem_of_getElem? (i := 965) (by decide +kernel)) rfl
theorem m_732 : Cond.selects "ElementFilesModel" ⟨"ElementFilesModel", "make", "(IIJ)I"⟩ ⟨"ElementFilesModel", "make", "(IIJ)I"⟩ ∈ ev_tbl := ev_mem (List.mem_of_getElem? (i := 966) (by decide +kernel)) rfl
theorem m_733 : Cond.code ⟨"ElementFilesModel", "make", "(IIJ)I"⟩ prog_11_method_35_code 8 (some .int) ∈ ev_tbl := ev_mem (List.mem_of_getElem? (i := 967) (by decide +kernel)) rfl
theorem m_734 : Cond.methodLink "ElementFilesModel" 89 ⟨"ElementFilesModel", "isElement", "(I)Z"⟩ ∈ ev_tbl := ev_mem (List.mem_of_getElem? (i := 968) (by decide +kernel)) rfl
theorem m_735 : Cond.instanceMethod ⟨"ElementFilesModel", "isElement", "(I)Z"⟩ ∈ ev_tbl := ev_mem (List.mem_of_getElem? (i := 970) (by decide +kernel)) rfl
theorem m_736 : Cond.code ⟨"ElementFilesModel", "isElement", "(I)Z"⟩ prog_11_method_4_code 2 (some .boolean) ∈ ev_tbl := ev_mem (List.mem_of_getElem? (i := 971) (by decide +kernel)) rfl
theorem m_737 : Cond.constantLong "ElementFilesModel" 193 (64) ∈ ev_tbl := ev_mem (List.mem_of_getElem? (i := 972) (by decide +kernel)) rfl
theorem m_738 : Cond.methodLink "ElementFilesModel" 195 ⟨"ElementFilesModel", "insert", "(IIJ)I"⟩ ∈ ev_tbl := ev_mem (List.mem_of_getElem? (i := 973) (by decide +kernel)) rfl
theorem m_739 : Cond.instanceMethod ⟨"ElementFilesModel", "insert", "(IIJ)I"⟩ ∈ ev_tbl := ev_mem (List.mem_of_getElem? (i := 975) (by decide +kernel)) rfl
theorem m_740 : Cond.code ⟨"ElementFilesModel", "insert", "(IIJ)I"⟩ prog_11_method_12_code 7 (some .int) ∈ ev_tbl := ev_mem (List.mem_of_getElem? (i := 976) (by decide +kernel)) rfl
theorem m_741 : Cond.methodLink "ElementFilesModel" 97 ⟨"ElementFilesModel", "behind", "(I)I"⟩ ∈ ev_tbl := ev_mem (List.mem_of_getElem? (i := 977) (by decide +kernel)) rfl
theorem m_742 : Cond.instanceMethod ⟨"ElementFilesModel", "behind", "(I)I"⟩ ∈ ev_tbl := ev_mem (List.mem_of_getElem? (i := 979) (by decide +kernel)) rfl
theorem m_743 : Cond.code ⟨"ElementFilesModel", "behind", "(I)I"⟩ prog_11_method_10_code 3 (some .int) ∈ ev_tbl := ev_mem (List.mem_of_getElem? (i := 980) (by decide +kernel)) rfl
theorem m_744 : Cond.methodLink "ElementFilesModel" 93 ⟨"ElementFilesModel", "isIn", "(II)Z"⟩ ∈ ev_tbl := ev_mem (List.mem_of_getElem? (i := 981) (by decide +kernel)) rfl
theorem m_745 : Cond.instanceMethod ⟨"ElementFilesModel", "isIn", "(II)Z"⟩ ∈ ev_tbl := ev_mem (List.mem_of_getElem? (i := 983) (by decide +kernel)) rfl
theorem m_746 : Cond.code ⟨"ElementFilesModel", "isIn", "(II)Z"⟩ prog_11_method_11_code 4 (some .boolean) ∈ ev_tbl := ev_mem (List.mem_of_getElem? (i := 984) (by decide +kernel)) rfl
theorem m_747 : Cond.methodLink "ElementFilesModel" 100 ⟨"ElementFilesModel", "move", "(II)V"⟩ ∈ ev_tbl := ev_mem (List.mem_of_getElem? (i := 985) (by decide +kernel)) rfl
theorem m_748 : Cond.instanceMethod ⟨"ElementFilesModel", "move", "(II)V"⟩ ∈ ev_tbl := ev_mem (List.mem_of_getElem? (i := 987) (by decide +kernel)) rfl
theorem m_749 : Cond.code ⟨"ElementFilesModel", "move", "(II)V"⟩ prog_11_method_9_code 4 none ∈ ev_tbl := ev_mem (List.mem_of_getElem? (i := 988) (by decide +kernel)) rfl
theorem m_750 : Cond.methodLink "ElementFilesLaw" 52 ⟨"ElementFilesModel", "letter", "(IC)I"⟩ ∈ ev_tbl := ev_mem (List.mem_of_getElem? (i := 989) (by decide +kernel)) rfl
theorem m_751 : Cond.instanceMethod ⟨"ElementFilesModel", "letter", "(IC)I"⟩ ∈ ev_tbl := ev_mem (List.mem_of_getElem? (i := 990) (by decide +kernel)) rfl
theorem m_752 : Cond.selects "ElementFilesModel" ⟨"ElementFilesModel", "letter", "(IC)I"⟩ ⟨"ElementFilesModel", "letter", "(IC)I"⟩ ∈ ev_tbl := ev_mem (List.mem_of_getElem? (i := 991) (by decide +kernel)) rfl
theorem m_753 : Cond.code ⟨"ElementFilesModel", "letter", "(IC)I"⟩ prog_11_method_36_code 3 (some .int) ∈ ev_tbl := ev_mem (List.mem_of_getElem? (i := 992) (by decide +kernel)) rfl
theorem m_754 : Cond.methodLink "ElementFilesModel" 199 ⟨"ElementFilesModel", "isKind", "(II)Z"⟩ ∈ ev_tbl := ev_mem (List.mem_of_getElem? (i := 993) (by decide +kernel)) rfl
theorem m_755 : Cond.instanceMethod ⟨"ElementFilesModel", "isKind", "(II)Z"⟩ ∈ ev_tbl := ev_mem (List.mem_of_getElem? (i := 995) (by decide +kernel)) rfl
theorem m_756 : Cond.code ⟨"ElementFilesModel", "isKind", "(II)Z"⟩ prog_11_method_6_code 3 (some .boolean) ∈ ev_tbl := ev_mem (List.mem_of_getElem? (i := 996) (by decide +kernel)) rfl
theorem m_757 : Cond.methodLink "ElementFilesLaw" 57 ⟨"ElementFilesModel", "frame", "(II)I"⟩ ∈ ev_tbl := ev_mem (List.mem_of_getElem? (i := 997) (by decide +kernel)) rfl
theorem m_758 : Cond.instanceMethod ⟨"ElementFilesModel", "frame", "(II)I"⟩ ∈ ev_tbl := ev_mem (List.mem_of_getElem? (i := 998) (by decide +kernel)) rfl
theorem m_759 : Cond.selects "ElementFilesModel" ⟨"ElementFilesModel", "frame", "(II)I"⟩ ⟨"ElementFilesModel", "frame", "(II)I"⟩ ∈ ev_tbl := ev_mem (List.mem_of_getElem? (i := 999) (by decide +kernel)) rfl
theorem m_760 : Cond.code ⟨"ElementFilesModel", "frame", "(II)I"⟩ prog_11_method_37_code 3 (some .int) ∈ ev_tbl := ev_mem (List.mem_of_getElem? (i := 1000) (by decide +kernel)) rfl
theorem m_761 : Cond.methodLink "ElementFilesLaw" 62 ⟨"ElementFilesModel", "block", "(IIIZI)I"⟩ ∈ ev_tbl := ev_mem (List.mem_of_getElem? (i := 1001) (by decide +kernel)) rfl
theorem m_762 : Cond.instanceMethod ⟨"ElementFilesModel", "block", "(IIIZI)I"⟩ ∈ ev_tbl := ev_mem (List.mem_of_getElem? (i := 1002) (by decide +kernel)) rfl
theorem m_763 : Cond.selects "ElementFilesModel" ⟨"ElementFilesModel", "block", "(IIIZI)I"⟩ ⟨"ElementFilesModel", "block", "(IIIZI)I"⟩ ∈ ev_tbl := ev_mem (List.mem_of_getElem? (i := 1003) (by decide +kernel)) rfl
theorem m_764 : Cond.code ⟨"ElementFilesModel", "block", "(IIIZI)I"⟩ prog_11_method_39_code 9 (some .int) ∈ ev_tbl := ev_mem (List.mem_of_getElem? (i := 1004) (by decide +kernel)) rfl
theorem m_765 : Cond.methodLink "ElementFilesModel" 208 ⟨"ElementFilesModel", "is", "(II)Z"⟩ ∈ ev_tbl := ev_mem (List.mem_of_getElem? (i := 1005) (by decide +kernel)) rfl
theorem m_766 : Cond.instanceMethod ⟨"ElementFilesModel", "is", "(II)Z"⟩ ∈ ev_tbl := ev_mem (List.mem_of_getElem? (i := 1007) (by decide +kernel)) rfl
theorem m_767 : Cond.code ⟨"ElementFilesModel", "is", "(II)Z"⟩ prog_11_method_5_code 3 (some .boolean) ∈ ev_tbl := ev_mem (List.mem_of_getElem? (i := 1008) (by decide +kernel)) rfl
theorem m_768 : Cond.methodLink "ElementFilesModel" 211 ⟨"ElementFilesModel", "evenHands", "()Z"⟩ ∈ ev_tbl := ev_mem (List.mem_of_getElem? (i := 1009) (by decide +kernel)) rfl
theorem m_769 : Cond.instanceMethod ⟨"ElementFilesModel", "evenHands", "()Z"⟩ ∈ ev_tbl := ev_mem (List.mem_of_getElem? (i := 1011) (by decide +kernel)) rfl
theorem m_770 : Cond.code ⟨"ElementFilesModel", "evenHands", "()Z"⟩ prog_11_method_38_code 2 (some .boolean) ∈ ev_tbl := ev_mem (List.mem_of_getElem? (i := 1012) (by decide +kernel)) rfl
theorem m_771 : Cond.methodLink "ElementFilesLaw" 66 ⟨"ElementFilesModel", "id", "(I)I"⟩ ∈ ev_tbl := ev_mem (List.mem_of_getElem? (i := 1013) (by decide +kernel)) rfl
theorem m_772 : Cond.instanceMethod ⟨"ElementFilesModel", "id", "(I)I"⟩ ∈ ev_tbl := ev_mem (List.mem_of_getElem? (i := 1014) (by decide +kernel)) rfl
theorem m_773 : Cond.selects "ElementFilesModel" ⟨"ElementFilesModel", "id", "(I)I"⟩ ⟨"ElementFilesModel", "id", "(I)I"⟩ ∈ ev_tbl := ev_mem (List.mem_of_getElem? (i := 1015) (by decide +kernel)) rfl
theorem m_774 : Cond.code ⟨"ElementFilesModel", "id", "(I)I"⟩ prog_11_method_40_code 2 (some .int) ∈ ev_tbl := ev_mem (List.mem_of_getElem? (i := 1016) (by decide +kernel)) rfl
theorem m_775 : Cond.methodLink "ElementFilesLaw" 70 ⟨"ElementFilesModel", "parent", "(I)I"⟩ ∈ ev_tbl := ev_mem (List.mem_of_getElem? (i := 1017) (by decide +kernel)) rfl
theorem m_776 : Cond.instanceMethod ⟨"ElementFilesModel", "parent", "(I)I"⟩ ∈ ev_tbl := ev_mem (List.mem_of_getElem? (i := 1018) (by decide +kernel)) rfl
theorem m_777 : Cond.selects "ElementFilesModel" ⟨"ElementFilesModel", "parent", "(I)I"⟩ ⟨"ElementFilesModel", "parent", "(I)I"⟩ ∈ ev_tbl := ev_mem (List.mem_of_getElem? (i := 1019) (by decide +kernel)) rfl
theorem m_778 : Cond.code ⟨"ElementFilesModel", "parent", "(I)I"⟩ prog_11_method_41_code 2 (some .int) ∈ ev_tbl := ev_mem (List.mem_of_getElem? (i := 1020) (by decide +kernel)) rfl
theorem m_779 : Cond.methodLink "ElementFilesLaw" 75 ⟨"ElementFilesModel", "value", "(I)J"⟩ ∈ ev_tbl := ev_mem (List.mem_of_getElem? (i := 1021) (by decide +kernel)) rfl
theorem m_780 : Cond.instanceMethod ⟨"ElementFilesModel", "value", "(I)J"⟩ ∈ ev_tbl := ev_mem (List.mem_of_getElem? (i := 1022) (by decide +kernel)) rfl
theorem m_781 : Cond.selects "ElementFilesModel" ⟨"ElementFilesModel", "value", "(I)J"⟩ ⟨"ElementFilesModel", "value", "(I)J"⟩ ∈ ev_tbl := ev_mem (List.mem_of_getElem? (i := 1023) (by decide +kernel)) rfl
theorem m_782 : Cond.code ⟨"ElementFilesModel", "value", "(I)J"⟩ prog_11_method_42_code 3 (some .long) ∈ ev_tbl := ev_mem (List.mem_of_getElem? (i := 1024) (by decide +kernel)) rfl
theorem m_783 : Cond.constantLong "ElementFilesModel" 215 (-1) ∈ ev_tbl := ev_mem (List.mem_of_getElem? (i := 1025) (by decide +kernel)) rfl
theorem m_784 : Cond.methodLink "ElementFilesLaw" 79 ⟨"ElementFilesModel", "part", "(II)I"⟩ ∈ ev_tbl := ev_mem (List.mem_of_getElem? (i := 1026) (by decide +kernel)) rfl
theorem m_785 : Cond.instanceMethod ⟨"ElementFilesModel", "part", "(II)I"⟩ ∈ ev_tbl := ev_mem (List.mem_of_getElem? (i := 1027) (by decide +kernel)) rfl
theorem m_786 : Cond.selects "ElementFilesModel" ⟨"ElementFilesModel", "part", "(II)I"⟩ ⟨"ElementFilesModel", "part", "(II)I"⟩ ∈ ev_tbl := ev_mem (List.mem_of_getElem? (i := 1028) (by decide +kernel)) rfl
theorem m_787 : Cond.code ⟨"ElementFilesModel", "part", "(II)I"⟩ prog_11_method_43_code 3 (some .int) ∈ ev_tbl := ev_mem (List.mem_of_getElem? (i := 1029) (by decide +kernel)) rfl
theorem m_788 : Cond.methodLink "ElementFilesModel" 217 ⟨"ElementFilesModel", "child", "(II)I"⟩ ∈ ev_tbl := ev_mem (List.mem_of_getElem? (i := 1030) (by decide +kernel)) rfl
theorem m_789 : Cond.instanceMethod ⟨"ElementFilesModel", "child", "(II)I"⟩ ∈ ev_tbl := ev_mem (List.mem_of_getElem? (i := 1032) (by decide +kernel)) rfl
theorem m_790 : Cond.code ⟨"ElementFilesModel", "child", "(II)I"⟩ prog_11_method_8_code 5 (some .int) ∈ ev_tbl := ev_mem (List.mem_of_getElem? (i := 1033) (by decide +kernel)) rfl
theorem m_791 : Cond.methodLink "ElementFilesLaw" 84 ⟨"ElementFilesModel", "sample", "(III)I"⟩ ∈ ev_tbl := ev_mem (List.mem_of_getElem? (i := 1034) (by decide +kernel)) rfl
theorem m_792 : Cond.instanceMethod ⟨"ElementFilesModel", "sample", "(III)I"⟩ ∈ ev_tbl := ev_mem (List.mem_of_getElem? (i := 1035) (by decide +kernel)) rfl
theorem m_793 : Cond.selects "ElementFilesModel" ⟨"ElementFilesModel", "sample", "(III)I"⟩ ⟨"ElementFilesModel", "sample", "(III)I"⟩ ∈ ev_tbl := ev_mem (List.mem_of_getElem? (i := 1036) (by decide +kernel)) rfl
theorem m_794 : Cond.code ⟨"ElementFilesModel", "sample", "(III)I"⟩ prog_11_method_44_code 4 (some .int) ∈ ev_tbl := ev_mem (List.mem_of_getElem? (i := 1037) (by decide +kernel)) rfl
theorem m_795 : Cond.methodLink "ElementFilesLaw" 88 ⟨"ElementFilesModel", "detail", "(II)I"⟩ ∈ ev_tbl := ev_mem (List.mem_of_getElem? (i := 1038) (by decide +kernel)) rfl
theorem m_796 : Cond.instanceMethod ⟨"ElementFilesModel", "detail", "(II)I"⟩ ∈ ev_tbl := ev_mem (List.mem_of_getElem? (i := 1039) (by decide +kernel)) rfl
theorem m_797 : Cond.selects "ElementFilesModel" ⟨"ElementFilesModel", "detail", "(II)I"⟩ ⟨"ElementFilesModel", "detail", "(II)I"⟩ ∈ ev_tbl := ev_mem (List.mem_of_getElem? (i := 1040) (by decide +kernel)) rfl
theorem m_798 : Cond.code ⟨"ElementFilesModel", "detail", "(II)I"⟩ prog_11_method_45_code 3 (some .int) ∈ ev_tbl := ev_mem (List.mem_of_getElem? (i := 1041) (by decide +kernel)) rfl
theorem m_799 : Cond.constant "ElementFilesModel" 220 (-65536) ∈ ev_tbl := ev_mem (List.mem_of_getElem? (i := 1042) (by decide +kernel)) rfl
theorem m_800 : Cond.methodLink "ElementFilesLaw" 92 ⟨"ElementFilesModel", "write", "(Z)I"⟩ ∈ ev_tbl := ev_mem (List.mem_of_getElem? (i := 1043) (by decide +kernel)) rfl
theorem m_801 : Cond.instanceMethod ⟨"ElementFilesModel", "write", "(Z)I"⟩ ∈ ev_tbl := ev_mem (List.mem_of_getElem? (i := 1044) (by decide +kernel)) rfl
theorem m_802 : Cond.selects "ElementFilesModel" ⟨"ElementFilesModel", "write", "(Z)I"⟩ ⟨"ElementFilesModel", "write", "(Z)I"⟩ ∈ ev_tbl := ev_mem (List.mem_of_getElem? (i := 1045) (by decide +kernel)) rfl
theorem m_803 : Cond.code ⟨"ElementFilesModel", "write", "(Z)I"⟩ prog_11_method_59_code 5 (some .int) ∈ ev_tbl := ev_mem (List.mem_of_getElem? (i := 1046) (by decide +kernel)) rfl
theorem m_804 : Cond.methodLink "ElementFilesModel" 256 ⟨"ElementFilesModel", "measure", "(Z)V"⟩ ∈ ev_tbl := ev_mem (List.mem_of_getElem? (i := 1047) (by decide +kernel)) rfl
theorem m_805 : Cond.instanceMethod ⟨"ElementFilesModel", "measure", "(Z)V"⟩ ∈ ev_tbl := ev_mem (List.mem_of_getElem? (i := 1049) (by decide +kernel)) rfl
theorem m_806 : Cond.code ⟨"ElementFilesModel", "measure", "(Z)V"⟩ prog_11_method_52_code 7 none ∈ ev_tbl := ev_mem (List.mem_of_getElem? (i := 1050) (by decide +kernel)) rfl
theorem m_807 : Cond.methodLink "ElementFilesModel" 230 ⟨"ElementFilesModel", "numberBytes", "(J)I"⟩ ∈ ev_tbl := ev_mem (List.mem_of_getElem? (i := 1051) (by decide +kernel)) rfl
theorem m_808 : Cond.static ⟨"ElementFilesModel", "numberBytes", "(J)I"⟩ ∈ ev_tbl := ev_mem (List.mem_of_getElem? (i := 1052) (by decide +kernel)) rfl
theorem m_809 : Cond.code ⟨"ElementFilesModel", "numberBytes", "(J)I"⟩ prog_11_method_50_code 3 (some .int) ∈ ev_tbl := ev_mem (List.mem_of_getElem? (i := 1053) (by decide +kernel)) rfl
theorem m_810 : Cond.methodLink "ElementFilesModel" 233 ⟨"ElementFilesModel", "blockBytes", "(I)I"⟩ ∈ ev_tbl := ev_mem (List.mem_of_getElem? (i := 1054) (by decide +kernel)) rfl
theorem m_811 : Cond.instanceMethod ⟨"ElementFilesModel", "blockBytes", "(I)I"⟩ ∈ ev_tbl := ev_mem (List.mem_of_getElem? (i := 1056) (by decide +kernel)) rfl
theorem m_812 : Cond.code ⟨"ElementFilesModel", "blockBytes", "(I)I"⟩ prog_11_method_49_code 6 (some .int) ∈ ev_tbl := ev_mem (List.mem_of_getElem? (i := 1057) (by decide +kernel)) rfl
theorem m_813 : Cond.methodLink "ElementFilesModel" 223 ⟨"ElementFilesModel", "widthFor", "(J)I"⟩ ∈ ev_tbl := ev_mem (List.mem_of_getElem? (i := 1058) (by decide +kernel)) rfl
theorem m_814 : Cond.static ⟨"ElementFilesModel", "widthFor", "(J)I"⟩ ∈ ev_tbl := ev_mem (List.mem_of_getElem? (i := 1059) (by decide +kernel)) rfl
theorem m_815 : Cond.code ⟨"ElementFilesModel", "widthFor", "(J)I"⟩ prog_11_method_46_code 3 (some .int) ∈ ev_tbl := ev_mem (List.mem_of_getElem? (i := 1060) (by decide +kernel)) rfl
theorem m_816 : Cond.methodLink "ElementFilesModel" 227 ⟨"ElementFilesModel", "widthForStep", "(I)I"⟩ ∈ ev_tbl := ev_mem (List.mem_of_getElem? (i := 1061) (by decide +kernel)) rfl
theorem m_817 : Cond.static ⟨"ElementFilesModel", "widthForStep", "(I)I"⟩ ∈ ev_tbl := ev_mem (List.mem_of_getElem? (i := 1062) (by decide +kernel)) rfl
theorem m_818 : Cond.code ⟨"ElementFilesModel", "widthForStep", "(I)I"⟩ prog_11_method_48_code 2 (some .int) ∈ ev_tbl := ev_mem (List.mem_of_getElem? (i := 1063) (by decide +kernel)) rfl
theorem m_819 : Cond.methodLink "ElementFilesModel" 236 ⟨"ElementFilesModel", "idWidth", "(I)I"⟩ ∈ ev_tbl := ev_mem (List.mem_of_getElem? (i := 1064) (by decide +kernel)) rfl
theorem m_820 : Cond.static ⟨"ElementFilesModel", "idWidth", "(I)I"⟩ ∈ ev_tbl := ev_mem (List.mem_of_getElem? (i := 1065) (by decide +kernel)) rfl
theorem m_821 : Cond.code ⟨"ElementFilesModel", "idWidth", "(I)I"⟩ prog_11_method_47_code 1 (some .int) ∈ ev_tbl := ev_mem (List.mem_of_getElem? (i := 1066) (by decide +kernel)) rfl
theorem m_822 : Cond.constant "ElementFilesModel" 221 (16777215) ∈ ev_tbl := ev_mem (List.mem_of_getElem? (i := 1067) (by decide +kernel)) rfl
theorem m_823 : Cond.constant "ElementFilesModel" 222 (65535) ∈ ev_tbl := ev_mem (List.mem_of_getElem? (i := 1068) (by decide +kernel)) rfl
theorem m_824 : Cond.methodLink "ElementFilesModel" 239 ⟨"ElementFilesModel", "isLive", "(IZ)Z"⟩ ∈ ev_tbl := ev_mem (List.mem_of_getElem? (i := 1069) (by decide +kernel)) rfl
theorem m_825 : Cond.instanceMethod ⟨"ElementFilesModel", "isLive", "(IZ)Z"⟩ ∈ ev_tbl := ev_mem (List.mem_of_getElem? (i := 1071) (by decide +kernel)) rfl
theorem m_826 : Cond.code ⟨"ElementFilesModel", "isLive", "(IZ)Z"⟩ prog_11_method_51_code 3 (some .boolean) ∈ ev_tbl := ev_mem (List.mem_of_getElem? (i := 1072) (by decide +kernel)) rfl
theorem m_827 : Cond.methodLink "ElementFilesModel" 246 ⟨"ElementFilesModel", "putBytes", "(JI)V"⟩ ∈ ev_tbl := ev_mem (List.mem_of_getElem? (i := 1073) (by decide +kernel)) rfl
theorem m_828 : Cond.instanceMethod ⟨"ElementFilesModel", "putBytes", "(JI)V"⟩ ∈ ev_tbl := ev_mem (List.mem_of_getElem? (i := 1075) (by decide +kernel)) rfl
theorem m_829 : Cond.code ⟨"ElementFilesModel", "putBytes", "(JI)V"⟩ prog_11_method_54_code 5 none ∈ ev_tbl := ev_mem (List.mem_of_getElem? (i := 1076) (by decide +kernel)) rfl
theorem m_830 : Cond.methodLink "ElementFilesModel" 243 ⟨"ElementFilesModel", "put", "(I)V"⟩ ∈ ev_tbl := ev_mem (List.mem_of_getElem? (i := 1077) (by decide +kernel)) rfl
theorem m_831 : Cond.instanceMethod ⟨"ElementFilesModel", "put", "(I)V"⟩ ∈ ev_tbl := ev_mem (List.mem_of_getElem? (i := 1079) (by decide +kernel)) rfl
theorem m_832 : Cond.code ⟨"ElementFilesModel", "put", "(I)V"⟩ prog_11_method_53_code 2 none ∈ ev_tbl := ev_mem (List.mem_of_getElem? (i := 1080) (by decide +kernel)) rfl
theorem m_833 : Cond.methodLink "ElementFilesModel" 250 ⟨"ElementFilesModel", "putVint", "(JI)V"⟩ ∈ ev_tbl := ev_mem (List.mem_of_getElem? (i := 1081) (by decide +kernel)) rfl
theorem m_834 : Cond.instanceMethod ⟨"ElementFilesModel", "putVint", "(JI)V"⟩ ∈ ev_tbl := ev_mem (List.mem_of_getElem? (i := 1083) (by decide +kernel)) rfl
theorem m_835 : Cond.code ⟨"ElementFilesModel", "putVint", "(JI)V"⟩ prog_11_method_55_code 4 none ∈ ev_tbl := ev_mem (List.mem_of_getElem? (i := 1084) (by decide +kernel)) rfl
theorem m_836 : Cond.methodLink "ElementFilesModel" 260 ⟨"ElementFilesModel", "putData", "(I)V"⟩ ∈ ev_tbl := ev_mem (List.mem_of_getElem? (i := 1085) (by decide +kernel)) rfl
theorem m_837 : Cond.instanceMethod ⟨"ElementFilesModel", "putData", "(I)V"⟩ ∈ ev_tbl := ev_mem (List.mem_of_getElem? (i := 1087) (by decide +kernel)) rfl
theorem m_838 : Cond.code ⟨"ElementFilesModel", "putData", "(I)V"⟩ prog_11_method_57_code 3 none ∈ ev_tbl := ev_mem (List.mem_of_getElem? (i := 1088) (by decide +kernel)) rfl
theorem m_839 : Cond.methodLink "ElementFilesModel" 253 ⟨"ElementFilesModel", "putBlock", "(I)V"⟩ ∈ ev_tbl := ev_mem (List.mem_of_getElem? (i := 1089) (by decide +kernel)) rfl
theorem m_840 : Cond.instanceMethod ⟨"ElementFilesModel", "putBlock", "(I)V"⟩ ∈ ev_tbl := ev_mem (List.mem_of_getElem? (i := 1091) (by decide +kernel)) rfl
theorem m_841 : Cond.code ⟨"ElementFilesModel", "putBlock", "(I)V"⟩ prog_11_method_56_code 7 none ∈ ev_tbl := ev_mem (List.mem_of_getElem? (i := 1092) (by decide +kernel)) rfl
theorem m_842 : Cond.methodLink "ElementFilesModel" 263 ⟨"ElementFilesModel", "fillSum", "(I)V"⟩ ∈ ev_tbl := ev_mem (List.mem_of_getElem? (i := 1093) (by decide +kernel)) rfl
theorem m_843 : Cond.instanceMethod ⟨"ElementFilesModel", "fillSum", "(I)V"⟩ ∈ ev_tbl := ev_mem (List.mem_of_getElem? (i := 1095) (by decide +kernel)) rfl
theorem m_844 : Cond.code ⟨"ElementFilesModel", "fillSum", "(I)V"⟩ prog_11_method_58_code 5 none ∈ ev_tbl := ev_mem (List.mem_of_getElem? (i := 1096) (by decide +kernel)) rfl
theorem m_845 : Cond.methodLink "ElementFilesLaw" 96 ⟨"ElementFilesModel", "index", "(I)I"⟩ ∈ ev_tbl := ev_mem (List.mem_of_getElem? (i := 1097) (by decide +kernel)) rfl
theorem m_846 : Cond.instanceMethod ⟨"ElementFilesModel", "index", "(I)I"⟩ ∈ ev_tbl := ev_mem (List.mem_of_getElem? (i := 1098) (by decide +kernel)) rfl
theorem m_847 : Cond.selects "ElementFilesModel" ⟨"ElementFilesModel", "index", "(I)I"⟩ ⟨"ElementFilesModel", "index", "(I)I"⟩ ∈ ev_tbl := ev_mem (List.mem_of_getElem? (i := 1099) (by decide +kernel)) rfl
theorem m_848 : Cond.code ⟨"ElementFilesModel", "index", "(I)I"⟩ prog_11_method_63_code 9 (some .int) ∈ ev_tbl := ev_mem (List.mem_of_getElem? (i := 1100) (by decide +kernel)) rfl
theorem m_849 : Cond.methodLink "ElementFilesModel" 270 ⟨"ElementFilesModel", "isBlockOf", "(II)Z"⟩ ∈ ev_tbl := ev_mem (List.mem_of_getElem? (i := 1101) (by decide +kernel)) rfl
theorem m_850 : Cond.instanceMethod ⟨"ElementFilesModel", "isBlockOf", "(II)Z"⟩ ∈ ev_tbl := ev_mem (List.mem_of_getElem? (i := 1103) (by decide +kernel)) rfl
theorem m_851 : Cond.code ⟨"ElementFilesModel", "isBlockOf", "(II)Z"⟩ prog_11_method_62_code 3 (some .boolean) ∈ ev_tbl := ev_mem (List.mem_of_getElem? (i := 1104) (by decide +kernel)) rfl
theorem m_852 : Cond.methodLink "ElementFilesModel" 273 ⟨"ElementFilesModel", "remove", "(I)V"⟩ ∈ ev_tbl := ev_mem (List.mem_of_getElem? (i := 1105) (by decide +kernel)) rfl
theorem m_853 : Cond.instanceMethod ⟨"ElementFilesModel", "remove", "(I)V"⟩ ∈ ev_tbl := ev_mem (List.mem_of_getElem? (i := 1107) (by decide +kernel)) rfl
theorem m_854 : Cond.code ⟨"ElementFilesModel", "remove", "(I)V"⟩ prog_11_method_13_code 4 none ∈ ev_tbl := ev_mem (List.mem_of_getElem? (i := 1108) (by decide +kernel)) rfl
theorem m_855 : Cond.methodLink "ElementFilesModel" 276 ⟨"ElementFilesModel", "moment", "(I)J"⟩ ∈ ev_tbl := ev_mem (List.mem_of_getElem? (i := 1109) (by decide +kernel)) rfl
theorem m_856 : Cond.instanceMethod ⟨"ElementFilesModel", "moment", "(I)J"⟩ ∈ ev_tbl := ev_mem (List.mem_of_getElem? (i := 1111) (by decide +kernel)) rfl
theorem m_857 : Cond.code ⟨"ElementFilesModel", "moment", "(I)J"⟩ prog_11_method_61_code 2 (some .long) ∈ ev_tbl := ev_mem (List.mem_of_getElem? (i := 1112) (by decide +kernel)) rfl
theorem m_858 : Cond.methodLink "ElementFilesModel" 266 ⟨"ElementFilesModel", "first", "(II)J"⟩ ∈ ev_tbl := ev_mem (List.mem_of_getElem? (i := 1113) (by decide +kernel)) rfl
theorem m_859 : Cond.instanceMethod ⟨"ElementFilesModel", "first", "(II)J"⟩ ∈ ev_tbl := ev_mem (List.mem_of_getElem? (i := 1115) (by decide +kernel)) rfl
theorem m_860 : Cond.code ⟨"ElementFilesModel", "first", "(II)J"⟩ prog_11_method_60_code 4 (some .long) ∈ ev_tbl := ev_mem (List.mem_of_getElem? (i := 1116) (by decide +kernel)) rfl
theorem m_861 : Cond.methodLink "ElementFilesLaw" 100 ⟨"ElementFilesModel", "seek", "(IIJ)I"⟩ ∈ ev_tbl := ev_mem (List.mem_of_getElem? (i := 1117) (by decide +kernel)) rfl
theorem m_862 : Cond.instanceMethod ⟨"ElementFilesModel", "seek", "(IIJ)I"⟩ ∈ ev_tbl := ev_mem (List.mem_of_getElem? (i := 1118) (by decide +kernel)) rfl
theorem m_863 : Cond.selects "ElementFilesModel" ⟨"ElementFilesModel", "seek", "(IIJ)I"⟩ ⟨"ElementFilesModel", "seek", "(IIJ)I"⟩ ∈ ev_tbl := ev_mem (List.mem_of_getElem? (i := 1119) (by decide +kernel)) rfl
theorem m_864 : Cond.code ⟨"ElementFilesModel", "seek", "(IIJ)I"⟩ prog_11_method_64_code 7 (some .int) ∈ ev_tbl := ev_mem (List.mem_of_getElem? (i := 1120) (by decide +kernel)) rfl
theorem m_865 : Cond.methodLink "ElementFilesLaw" 104 ⟨"ElementFilesModel", "jump", "(IIJ)I"⟩ ∈ ev_tbl := ev_mem (List.mem_of_getElem? (i := 1121) (by decide +kernel)) rfl
theorem m_866 : Cond.instanceMethod ⟨"ElementFilesModel", "jump", "(IIJ)I"⟩ ∈ ev_tbl := ev_mem (List.mem_of_getElem? (i := 1122) (by decide +kernel)) rfl
theorem m_867 : Cond.selects "ElementFilesModel" ⟨"ElementFilesModel", "jump", "(IIJ)I"⟩ ⟨"ElementFilesModel", "jump", "(IIJ)I"⟩ ∈ ev_tbl := ev_mem (List.mem_of_getElem? (i := 1123) (by decide +kernel)) rfl
theorem m_868 : Cond.code ⟨"ElementFilesModel", "jump", "(IIJ)I"⟩ prog_11_method_65_code 9 (some .int) ∈ ev_tbl := ev_mem (List.mem_of_getElem? (i := 1124) (by decide +kernel)) rfl
theorem m_869 : Cond.constantLong "ElementFilesLaw" 13 (4294967295) ∈ ev_tbl := ev_mem (List.mem_of_getElem? (i := 1125) (by decide +kernel)) rfl
theorem m_870 : Cond.fieldLink "ElementFiles$Sort" 76 "ElementFiles$Sort" "tag" "I" ∈ ev_tbl := ev_mem (List.mem_of_getElem? (i := 1126) (by decide +kernel)) rfl
theorem m_871 : Cond.fieldLink "ElementFiles$Reader" 86 "ElementFiles$Sort" "inside" "I" ∈ ev_tbl := ev_mem (List.mem_of_getElem? (i := 1127) (by decide +kernel)) rfl
theorem m_872 : Cond.fieldLink "ElementFiles$Sort" 83 "ElementFiles$Sort" "places" "I" ∈ ev_tbl := ev_mem (List.mem_of_getElem? (i := 1128) (by decide +kernel)) rfl
theorem m_873 : Cond.fieldLink "ElementFiles$Tree" 58 "ElementFiles$Sort" "inside" "I" ∈ ev_tbl := ev_mem (List.mem_of_getElem? (i := 1129) (by decide +kernel)) rfl
theorem m_874 : Cond.fieldLink "ElementFiles$Reader" 117 "ElementFiles$Sort" "form" "I" ∈ ev_tbl := ev_mem (List.mem_of_getElem? (i := 1130) (by decide +kernel)) rfl
theorem m_875 : Cond.fieldLink "ElementFiles" 116 "ElementFiles$Sort" "form" "I" ∈ ev_tbl := ev_mem (List.mem_of_getElem? (i := 1131) (by decide +kernel)) rfl
theorem m_876 : Cond.fieldLink "ElementFiles" 154 "ElementFiles$Sort" "tag" "I" ∈ ev_tbl := ev_mem (List.mem_of_getElem? (i := 1132) (by decide +kernel)) rfl
theorem m_877 : Cond.fieldLink "ElementFiles$Writer" 101 "ElementFiles$Sort" "form" "I" ∈ ev_tbl := ev_mem (List.mem_of_getElem? (i := 1133) (by decide +kernel)) rfl
theorem m_878 : Cond.fieldLink "ElementFiles$Finder" 65 "ElementFiles$Sort" "tag" "I" ∈ ev_tbl := ev_mem (List.mem_of_getElem? (i := 1134) (by decide +kernel)) rfl
