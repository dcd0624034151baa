-- ===== PART A: goes FIRST, ahead of the names: the tables' words, and 'selects' of the hidden methods out of them =====
/-- a hidden method of a kind that the tables say can be made, by its rows of tables_1 -/
def lw_okq (q : MethodName × Nat) : Prop := (q.1.cls ≠ "java/lang/invoke/MethodHandle" ∧ q.1.cls ≠ "java/lang/invoke/VarHandle") ∧ Cond.instantiable q.1.cls q.2 ∈ tables_1 ∧ Cond.privateMethod q.1 ∈ tables_1 ∧ Cond.instanceMethod q.1 ∈ tables_1
theorem lw_p0 : lw_okq (⟨"TelegraphHouse$Tape", "takes", "(II)Z"⟩, 7) := ⟨⟨by decide +kernel, by decide +kernel⟩, List.mem_of_getElem? (i := 26) (by decide +kernel), List.mem_of_getElem? (i := 244) (by decide +kernel), List.mem_of_getElem? (i := 245) (by decide +kernel)⟩
theorem lw_p1 : lw_okq (⟨"TelegraphHouse$Tape", "mayGrow", "()Z"⟩, 7) := ⟨⟨by decide +kernel, by decide +kernel⟩, List.mem_of_getElem? (i := 26) (by decide +kernel), List.mem_of_getElem? (i := 248) (by decide +kernel), List.mem_of_getElem? (i := 249) (by decide +kernel)⟩
theorem lw_p2 : lw_okq (⟨"TelegraphHouse$Tape", "grow", "(I)Z"⟩, 7) := ⟨⟨by decide +kernel, by decide +kernel⟩, List.mem_of_getElem? (i := 26) (by decide +kernel), List.mem_of_getElem? (i := 252) (by decide +kernel), List.mem_of_getElem? (i := 253) (by decide +kernel)⟩
theorem lw_p3 : lw_okq (⟨"TelegraphHouse", "bookAt", "(I)LTelegraphHouse$Book;"⟩, 9) := ⟨⟨by decide +kernel, by decide +kernel⟩, List.mem_of_getElem? (i := 18) (by decide +kernel), List.mem_of_getElem? (i := 441) (by decide +kernel), List.mem_of_getElem? (i := 442) (by decide +kernel)⟩
theorem lw_p4 : lw_okq (⟨"TelegraphHouse", "messageAt", "(I)LTelegraphHouse$Message;"⟩, 9) := ⟨⟨by decide +kernel, by decide +kernel⟩, List.mem_of_getElem? (i := 18) (by decide +kernel), List.mem_of_getElem? (i := 520) (by decide +kernel), List.mem_of_getElem? (i := 521) (by decide +kernel)⟩
theorem lw_p5 : lw_okq (⟨"TelegraphHouse$Condenser", "take", "(IIII)V"⟩, 4) := ⟨⟨by decide +kernel, by decide +kernel⟩, List.mem_of_getElem? (i := 79) (by decide +kernel), List.mem_of_getElem? (i := 562) (by decide +kernel), List.mem_of_getElem? (i := 563) (by decide +kernel)⟩
theorem lw_p6 : lw_okq (⟨"TelegraphHouse$Condenser", "isBetter", "(II)Z"⟩, 4) := ⟨⟨by decide +kernel, by decide +kernel⟩, List.mem_of_getElem? (i := 79) (by decide +kernel), List.mem_of_getElem? (i := 567) (by decide +kernel), List.mem_of_getElem? (i := 568) (by decide +kernel)⟩
theorem lw_p7 : lw_okq (⟨"TelegraphHouse$Form", "addDigits", "(II)V"⟩, 11) := ⟨⟨by decide +kernel, by decide +kernel⟩, List.mem_of_getElem? (i := 269) (by decide +kernel), List.mem_of_getElem? (i := 602) (by decide +kernel), List.mem_of_getElem? (i := 603) (by decide +kernel)⟩
theorem lw_p8 : lw_okq (⟨"TelegraphHouse$Expander", "readNext", "(LTelegraphHouse$Message;LTelegraphHouse$Book;)Z"⟩, 3) := ⟨⟨by decide +kernel, by decide +kernel⟩, List.mem_of_getElem? (i := 98) (by decide +kernel), List.mem_of_getElem? (i := 647) (by decide +kernel), List.mem_of_getElem? (i := 648) (by decide +kernel)⟩
theorem lw_p9 : lw_okq (⟨"TelegraphHouse$Expander", "readShortNumber", "(LTelegraphHouse$Message;)Z"⟩, 3) := ⟨⟨by decide +kernel, by decide +kernel⟩, List.mem_of_getElem? (i := 98) (by decide +kernel), List.mem_of_getElem? (i := 652) (by decide +kernel), List.mem_of_getElem? (i := 653) (by decide +kernel)⟩
theorem lw_p10 : lw_okq (⟨"TelegraphHouse$Expander", "tell", "(LTelegraphHouse$Message;J)V"⟩, 3) := ⟨⟨by decide +kernel, by decide +kernel⟩, List.mem_of_getElem? (i := 98) (by decide +kernel), List.mem_of_getElem? (i := 660) (by decide +kernel), List.mem_of_getElem? (i := 661) (by decide +kernel)⟩
theorem lw_p11 : lw_okq (⟨"TelegraphHouse$Expander", "readLongNumber", "(LTelegraphHouse$Message;)Z"⟩, 3) := ⟨⟨by decide +kernel, by decide +kernel⟩, List.mem_of_getElem? (i := 98) (by decide +kernel), List.mem_of_getElem? (i := 664) (by decide +kernel), List.mem_of_getElem? (i := 665) (by decide +kernel)⟩
theorem lw_p12 : lw_okq (⟨"TelegraphHouse$Expander", "readSpelled", "(LTelegraphHouse$Message;)Z"⟩, 3) := ⟨⟨by decide +kernel, by decide +kernel⟩, List.mem_of_getElem? (i := 98) (by decide +kernel), List.mem_of_getElem? (i := 671) (by decide +kernel), List.mem_of_getElem? (i := 672) (by decide +kernel)⟩
theorem lw_p13 : lw_okq (⟨"TelegraphHouse$Expander", "isPadded", "(LTelegraphHouse$Form;II)Z"⟩, 3) := ⟨⟨by decide +kernel, by decide +kernel⟩, List.mem_of_getElem? (i := 98) (by decide +kernel), List.mem_of_getElem? (i := 676) (by decide +kernel), List.mem_of_getElem? (i := 677) (by decide +kernel)⟩
theorem lw_p14 : lw_okq (⟨"TelegraphHouse$Expander", "withGroup", "(JLTelegraphHouse$Form;II)J"⟩, 3) := ⟨⟨by decide +kernel, by decide +kernel⟩, List.mem_of_getElem? (i := 98) (by decide +kernel), List.mem_of_getElem? (i := 681) (by decide +kernel), List.mem_of_getElem? (i := 682) (by decide +kernel)⟩
theorem lw_p15 : lw_okq (⟨"TelegraphHouse$Expander", "readPhrase", "(LTelegraphHouse$Message;LTelegraphHouse$Book;)Z"⟩, 3) := ⟨⟨by decide +kernel, by decide +kernel⟩, List.mem_of_getElem? (i := 98) (by decide +kernel), List.mem_of_getElem? (i := 686) (by decide +kernel), List.mem_of_getElem? (i := 687) (by decide +kernel)⟩
def lw_privs_1 : List (MethodName × Nat) := [(⟨"TelegraphHouse$Tape", "takes", "(II)Z"⟩, 7), (⟨"TelegraphHouse$Tape", "mayGrow", "()Z"⟩, 7), (⟨"TelegraphHouse$Tape", "grow", "(I)Z"⟩, 7), (⟨"TelegraphHouse", "bookAt", "(I)LTelegraphHouse$Book;"⟩, 9), (⟨"TelegraphHouse", "messageAt", "(I)LTelegraphHouse$Message;"⟩, 9), (⟨"TelegraphHouse$Condenser", "take", "(IIII)V"⟩, 4), (⟨"TelegraphHouse$Condenser", "isBetter", "(II)Z"⟩, 4), (⟨"TelegraphHouse$Form", "addDigits", "(II)V"⟩, 11), (⟨"TelegraphHouse$Expander", "readNext", "(LTelegraphHouse$Message;LTelegraphHouse$Book;)Z"⟩, 3), (⟨"TelegraphHouse$Expander", "readShortNumber", "(LTelegraphHouse$Message;)Z"⟩, 3), (⟨"TelegraphHouse$Expander", "tell", "(LTelegraphHouse$Message;J)V"⟩, 3), (⟨"TelegraphHouse$Expander", "readLongNumber", "(LTelegraphHouse$Message;)Z"⟩, 3), (⟨"TelegraphHouse$Expander", "readSpelled", "(LTelegraphHouse$Message;)Z"⟩, 3), (⟨"TelegraphHouse$Expander", "isPadded", "(LTelegraphHouse$Form;II)Z"⟩, 3), (⟨"TelegraphHouse$Expander", "withGroup", "(JLTelegraphHouse$Form;II)J"⟩, 3), (⟨"TelegraphHouse$Expander", "readPhrase", "(LTelegraphHouse$Message;LTelegraphHouse$Book;)Z"⟩, 3)]
theorem lw_r1 : ∀ q ∈ lw_privs_1, lw_okq q := List.forall_mem_cons.mpr ⟨lw_p0, List.forall_mem_cons.mpr ⟨lw_p1, List.forall_mem_cons.mpr ⟨lw_p2, List.forall_mem_cons.mpr ⟨lw_p3, List.forall_mem_cons.mpr ⟨lw_p4, List.forall_mem_cons.mpr ⟨lw_p5, List.forall_mem_cons.mpr ⟨lw_p6, List.forall_mem_cons.mpr ⟨lw_p7, List.forall_mem_cons.mpr ⟨lw_p8, List.forall_mem_cons.mpr ⟨lw_p9, List.forall_mem_cons.mpr ⟨lw_p10, List.forall_mem_cons.mpr ⟨lw_p11, List.forall_mem_cons.mpr ⟨lw_p12, List.forall_mem_cons.mpr ⟨lw_p13, List.forall_mem_cons.mpr ⟨lw_p14, List.forall_mem_cons.mpr ⟨lw_p15, fun _ h => absurd h List.not_mem_nil⟩⟩⟩⟩⟩⟩⟩⟩⟩⟩⟩⟩⟩⟩⟩⟩
theorem lw_p16 : lw_okq (⟨"TelegraphHouse$Form", "letterSum", "(I)I"⟩, 11) := ⟨⟨by decide +kernel, by decide +kernel⟩, List.mem_of_getElem? (i := 269) (by decide +kernel), List.mem_of_getElem? (i := 710) (by decide +kernel), List.mem_of_getElem? (i := 711) (by decide +kernel)⟩
theorem lw_p17 : lw_okq (⟨"TelegraphHouse$Form", "lettersInBlock", "(I)I"⟩, 11) := ⟨⟨by decide +kernel, by decide +kernel⟩, List.mem_of_getElem? (i := 269) (by decide +kernel), List.mem_of_getElem? (i := 714) (by decide +kernel), List.mem_of_getElem? (i := 715) (by decide +kernel)⟩
theorem lw_p18 : lw_okq (⟨"TelegraphHouse$Form", "blockLetter", "(II)I"⟩, 11) := ⟨⟨by decide +kernel, by decide +kernel⟩, List.mem_of_getElem? (i := 269) (by decide +kernel), List.mem_of_getElem? (i := 718) (by decide +kernel), List.mem_of_getElem? (i := 719) (by decide +kernel)⟩
theorem lw_p19 : lw_okq (⟨"TelegraphHouse$Form", "placeSum", "(I)I"⟩, 11) := ⟨⟨by decide +kernel, by decide +kernel⟩, List.mem_of_getElem? (i := 269) (by decide +kernel), List.mem_of_getElem? (i := 722) (by decide +kernel), List.mem_of_getElem? (i := 723) (by decide +kernel)⟩
theorem lw_p20 : lw_okq (⟨"TelegraphHouse$Form", "mendBlock", "(I)I"⟩, 11) := ⟨⟨by decide +kernel, by decide +kernel⟩, List.mem_of_getElem? (i := 269) (by decide +kernel), List.mem_of_getElem? (i := 752) (by decide +kernel), List.mem_of_getElem? (i := 753) (by decide +kernel)⟩
theorem lw_p21 : lw_okq (⟨"TelegraphHouse$Form", "mendNeighbours", "(II)I"⟩, 11) := ⟨⟨by decide +kernel, by decide +kernel⟩, List.mem_of_getElem? (i := 269) (by decide +kernel), List.mem_of_getElem? (i := 759) (by decide +kernel), List.mem_of_getElem? (i := 760) (by decide +kernel)⟩
theorem lw_p22 : lw_okq (⟨"TelegraphHouse$Form", "setBlockLetter", "(III)V"⟩, 11) := ⟨⟨by decide +kernel, by decide +kernel⟩, List.mem_of_getElem? (i := 269) (by decide +kernel), List.mem_of_getElem? (i := 763) (by decide +kernel), List.mem_of_getElem? (i := 764) (by decide +kernel)⟩
theorem lw_p23 : lw_okq (⟨"TelegraphHouse$Form", "mendLetter", "(III)I"⟩, 11) := ⟨⟨by decide +kernel, by decide +kernel⟩, List.mem_of_getElem? (i := 269) (by decide +kernel), List.mem_of_getElem? (i := 767) (by decide +kernel), List.mem_of_getElem? (i := 768) (by decide +kernel)⟩
theorem lw_p24 : lw_okq (⟨"TelegraphHouse$Form", "putBack", "(III)I"⟩, 11) := ⟨⟨by decide +kernel, by decide +kernel⟩, List.mem_of_getElem? (i := 269) (by decide +kernel), List.mem_of_getElem? (i := 771) (by decide +kernel), List.mem_of_getElem? (i := 772) (by decide +kernel)⟩
theorem lw_p25 : lw_okq (⟨"TelegraphHouse$Net", "findCosts", "(I)V"⟩, 11) := ⟨⟨by decide +kernel, by decide +kernel⟩, List.mem_of_getElem? (i := 114) (by decide +kernel), List.mem_of_getElem? (i := 857) (by decide +kernel), List.mem_of_getElem? (i := 858) (by decide +kernel)⟩
theorem lw_p26 : lw_okq (⟨"TelegraphHouse$Net", "lowerCost", "(LTelegraphHouse$Line;II)Z"⟩, 11) := ⟨⟨by decide +kernel, by decide +kernel⟩, List.mem_of_getElem? (i := 114) (by decide +kernel), List.mem_of_getElem? (i := 870) (by decide +kernel), List.mem_of_getElem? (i := 871) (by decide +kernel)⟩
theorem lw_p27 : lw_okq (⟨"TelegraphHouse$Net", "costOf", "(I)I"⟩, 11) := ⟨⟨by decide +kernel, by decide +kernel⟩, List.mem_of_getElem? (i := 114) (by decide +kernel), List.mem_of_getElem? (i := 874) (by decide +kernel), List.mem_of_getElem? (i := 875) (by decide +kernel)⟩
theorem lw_p28 : lw_okq (⟨"TelegraphHouse$Net", "lineToward", "(I)I"⟩, 11) := ⟨⟨by decide +kernel, by decide +kernel⟩, List.mem_of_getElem? (i := 114) (by decide +kernel), List.mem_of_getElem? (i := 885) (by decide +kernel), List.mem_of_getElem? (i := 886) (by decide +kernel)⟩
theorem lw_p29 : lw_okq (⟨"TelegraphHouse$Net", "leadsOn", "(LTelegraphHouse$Line;I)Z"⟩, 11) := ⟨⟨by decide +kernel, by decide +kernel⟩, List.mem_of_getElem? (i := 114) (by decide +kernel), List.mem_of_getElem? (i := 889) (by decide +kernel), List.mem_of_getElem? (i := 890) (by decide +kernel)⟩
theorem lw_p30 : lw_okq (⟨"TelegraphHouse$Net", "setOut", "(LTelegraphHouse$Journey;)V"⟩, 11) := ⟨⟨by decide +kernel, by decide +kernel⟩, List.mem_of_getElem? (i := 114) (by decide +kernel), List.mem_of_getElem? (i := 922) (by decide +kernel), List.mem_of_getElem? (i := 923) (by decide +kernel)⟩
theorem lw_p31 : lw_okq (⟨"TelegraphHouse$Net", "note", "(III)V"⟩, 11) := ⟨⟨by decide +kernel, by decide +kernel⟩, List.mem_of_getElem? (i := 114) (by decide +kernel), List.mem_of_getElem? (i := 934) (by decide +kernel), List.mem_of_getElem? (i := 935) (by decide +kernel)⟩
def lw_privs_2 : List (MethodName × Nat) := [(⟨"TelegraphHouse$Form", "letterSum", "(I)I"⟩, 11), (⟨"TelegraphHouse$Form", "lettersInBlock", "(I)I"⟩, 11), (⟨"TelegraphHouse$Form", "blockLetter", "(II)I"⟩, 11), (⟨"TelegraphHouse$Form", "placeSum", "(I)I"⟩, 11), (⟨"TelegraphHouse$Form", "mendBlock", "(I)I"⟩, 11), (⟨"TelegraphHouse$Form", "mendNeighbours", "(II)I"⟩, 11), (⟨"TelegraphHouse$Form", "setBlockLetter", "(III)V"⟩, 11), (⟨"TelegraphHouse$Form", "mendLetter", "(III)I"⟩, 11), (⟨"TelegraphHouse$Form", "putBack", "(III)I"⟩, 11), (⟨"TelegraphHouse$Net", "findCosts", "(I)V"⟩, 11), (⟨"TelegraphHouse$Net", "lowerCost", "(LTelegraphHouse$Line;II)Z"⟩, 11), (⟨"TelegraphHouse$Net", "costOf", "(I)I"⟩, 11), (⟨"TelegraphHouse$Net", "lineToward", "(I)I"⟩, 11), (⟨"TelegraphHouse$Net", "leadsOn", "(LTelegraphHouse$Line;I)Z"⟩, 11), (⟨"TelegraphHouse$Net", "setOut", "(LTelegraphHouse$Journey;)V"⟩, 11), (⟨"TelegraphHouse$Net", "note", "(III)V"⟩, 11)]
theorem lw_r2 : ∀ q ∈ lw_privs_2, lw_okq q := List.forall_mem_cons.mpr ⟨lw_p16, List.forall_mem_cons.mpr ⟨lw_p17, List.forall_mem_cons.mpr ⟨lw_p18, List.forall_mem_cons.mpr ⟨lw_p19, List.forall_mem_cons.mpr ⟨lw_p20, List.forall_mem_cons.mpr ⟨lw_p21, List.forall_mem_cons.mpr ⟨lw_p22, List.forall_mem_cons.mpr ⟨lw_p23, List.forall_mem_cons.mpr ⟨lw_p24, List.forall_mem_cons.mpr ⟨lw_p25, List.forall_mem_cons.mpr ⟨lw_p26, List.forall_mem_cons.mpr ⟨lw_p27, List.forall_mem_cons.mpr ⟨lw_p28, List.forall_mem_cons.mpr ⟨lw_p29, List.forall_mem_cons.mpr ⟨lw_p30, List.forall_mem_cons.mpr ⟨lw_p31, fun _ h => absurd h List.not_mem_nil⟩⟩⟩⟩⟩⟩⟩⟩⟩⟩⟩⟩⟩⟩⟩⟩
theorem lw_p32 : lw_okq (⟨"TelegraphHouse$Net", "beginWait", "(LTelegraphHouse$Journey;)V"⟩, 11) := ⟨⟨by decide +kernel, by decide +kernel⟩, List.mem_of_getElem? (i := 114) (by decide +kernel), List.mem_of_getElem? (i := 938) (by decide +kernel), List.mem_of_getElem? (i := 939) (by decide +kernel)⟩
theorem lw_p33 : lw_okq (⟨"TelegraphHouse$Net", "endRun", "(LTelegraphHouse$Line;I)I"⟩, 11) := ⟨⟨by decide +kernel, by decide +kernel⟩, List.mem_of_getElem? (i := 114) (by decide +kernel), List.mem_of_getElem? (i := 958) (by decide +kernel), List.mem_of_getElem? (i := 959) (by decide +kernel)⟩
theorem lw_p34 : lw_okq (⟨"TelegraphHouse$Net", "beLost", "(LTelegraphHouse$Journey;)V"⟩, 11) := ⟨⟨by decide +kernel, by decide +kernel⟩, List.mem_of_getElem? (i := 114) (by decide +kernel), List.mem_of_getElem? (i := 962) (by decide +kernel), List.mem_of_getElem? (i := 963) (by decide +kernel)⟩
theorem lw_p35 : lw_okq (⟨"TelegraphHouse$Net", "arrive", "(LTelegraphHouse$Journey;)V"⟩, 11) := ⟨⟨by decide +kernel, by decide +kernel⟩, List.mem_of_getElem? (i := 114) (by decide +kernel), List.mem_of_getElem? (i := 966) (by decide +kernel), List.mem_of_getElem? (i := 967) (by decide +kernel)⟩
theorem lw_p36 : lw_okq (⟨"TelegraphHouse$Net", "beginRun", "(ILTelegraphHouse$Line;I)V"⟩, 11) := ⟨⟨by decide +kernel, by decide +kernel⟩, List.mem_of_getElem? (i := 114) (by decide +kernel), List.mem_of_getElem? (i := 974) (by decide +kernel), List.mem_of_getElem? (i := 975) (by decide +kernel)⟩
theorem lw_p37 : lw_okq (⟨"TelegraphHouse$Net", "nextFor", "(II)I"⟩, 11) := ⟨⟨by decide +kernel, by decide +kernel⟩, List.mem_of_getElem? (i := 114) (by decide +kernel), List.mem_of_getElem? (i := 982) (by decide +kernel), List.mem_of_getElem? (i := 983) (by decide +kernel)⟩
theorem lw_p38 : lw_okq (⟨"TelegraphHouse$Net", "goesAhead", "(LTelegraphHouse$Journey;I)Z"⟩, 11) := ⟨⟨by decide +kernel, by decide +kernel⟩, List.mem_of_getElem? (i := 114) (by decide +kernel), List.mem_of_getElem? (i := 990) (by decide +kernel), List.mem_of_getElem? (i := 991) (by decide +kernel)⟩
theorem lw_p39 : lw_okq (⟨"TelegraphHouse$Net", "aheadOf", "(LTelegraphHouse$Journey;I)I"⟩, 11) := ⟨⟨by decide +kernel, by decide +kernel⟩, List.mem_of_getElem? (i := 114) (by decide +kernel), List.mem_of_getElem? (i := 1015) (by decide +kernel), List.mem_of_getElem? (i := 1016) (by decide +kernel)⟩
theorem lw_p40 : lw_okq (⟨"TelegraphHouseModel", "cutUp", "()I"⟩, 69) := ⟨⟨by decide +kernel, by decide +kernel⟩, List.mem_of_getElem? (i := 1049) (by decide +kernel), List.mem_of_getElem? (i := 1281) (by decide +kernel), List.mem_of_getElem? (i := 1282) (by decide +kernel)⟩
theorem lw_p41 : lw_okq (⟨"TelegraphHouseModel", "isBook", "(I)Z"⟩, 69) := ⟨⟨by decide +kernel, by decide +kernel⟩, List.mem_of_getElem? (i := 1049) (by decide +kernel), List.mem_of_getElem? (i := 1300) (by decide +kernel), List.mem_of_getElem? (i := 1301) (by decide +kernel)⟩
theorem lw_p42 : lw_okq (⟨"TelegraphHouseModel", "fits", "(I[JII)Z"⟩, 69) := ⟨⟨by decide +kernel, by decide +kernel⟩, List.mem_of_getElem? (i := 1049) (by decide +kernel), List.mem_of_getElem? (i := 1304) (by decide +kernel), List.mem_of_getElem? (i := 1305) (by decide +kernel)⟩
theorem lw_p43 : lw_okq (⟨"TelegraphHouseModel", "soundAt", "(I)I"⟩, 69) := ⟨⟨by decide +kernel, by decide +kernel⟩, List.mem_of_getElem? (i := 1049) (by decide +kernel), List.mem_of_getElem? (i := 1312) (by decide +kernel), List.mem_of_getElem? (i := 1313) (by decide +kernel)⟩
theorem lw_p44 : lw_okq (⟨"TelegraphHouseModel", "isMessage", "(I)Z"⟩, 69) := ⟨⟨by decide +kernel, by decide +kernel⟩, List.mem_of_getElem? (i := 1049) (by decide +kernel), List.mem_of_getElem? (i := 1336) (by decide +kernel), List.mem_of_getElem? (i := 1337) (by decide +kernel)⟩
theorem lw_p45 : lw_okq (⟨"TelegraphHouseModel", "countOf", "(I)I"⟩, 69) := ⟨⟨by decide +kernel, by decide +kernel⟩, List.mem_of_getElem? (i := 1049) (by decide +kernel), List.mem_of_getElem? (i := 1340) (by decide +kernel), List.mem_of_getElem? (i := 1341) (by decide +kernel)⟩
theorem lw_p46 : lw_okq (⟨"TelegraphHouseModel", "choose", "(II)V"⟩, 69) := ⟨⟨by decide +kernel, by decide +kernel⟩, List.mem_of_getElem? (i := 1049) (by decide +kernel), List.mem_of_getElem? (i := 1348) (by decide +kernel), List.mem_of_getElem? (i := 1349) (by decide +kernel)⟩
theorem lw_p47 : lw_okq (⟨"TelegraphHouseModel", "plainGroups", "(I)I"⟩, 69) := ⟨⟨by decide +kernel, by decide +kernel⟩, List.mem_of_getElem? (i := 1049) (by decide +kernel), List.mem_of_getElem? (i := 1352) (by decide +kernel), List.mem_of_getElem? (i := 1353) (by decide +kernel)⟩
def lw_privs_3 : List (MethodName × Nat) := [(⟨"TelegraphHouse$Net", "beginWait", "(LTelegraphHouse$Journey;)V"⟩, 11), (⟨"TelegraphHouse$Net", "endRun", "(LTelegraphHouse$Line;I)I"⟩, 11), (⟨"TelegraphHouse$Net", "beLost", "(LTelegraphHouse$Journey;)V"⟩, 11), (⟨"TelegraphHouse$Net", "arrive", "(LTelegraphHouse$Journey;)V"⟩, 11), (⟨"TelegraphHouse$Net", "beginRun", "(ILTelegraphHouse$Line;I)V"⟩, 11), (⟨"TelegraphHouse$Net", "nextFor", "(II)I"⟩, 11), (⟨"TelegraphHouse$Net", "goesAhead", "(LTelegraphHouse$Journey;I)Z"⟩, 11), (⟨"TelegraphHouse$Net", "aheadOf", "(LTelegraphHouse$Journey;I)I"⟩, 11), (⟨"TelegraphHouseModel", "cutUp", "()I"⟩, 69), (⟨"TelegraphHouseModel", "isBook", "(I)Z"⟩, 69), (⟨"TelegraphHouseModel", "fits", "(I[JII)Z"⟩, 69), (⟨"TelegraphHouseModel", "soundAt", "(I)I"⟩, 69), (⟨"TelegraphHouseModel", "isMessage", "(I)Z"⟩, 69), (⟨"TelegraphHouseModel", "countOf", "(I)I"⟩, 69), (⟨"TelegraphHouseModel", "choose", "(II)V"⟩, 69), (⟨"TelegraphHouseModel", "plainGroups", "(I)I"⟩, 69)]
theorem lw_r3 : ∀ q ∈ lw_privs_3, lw_okq q := List.forall_mem_cons.mpr ⟨lw_p32, List.forall_mem_cons.mpr ⟨lw_p33, List.forall_mem_cons.mpr ⟨lw_p34, List.forall_mem_cons.mpr ⟨lw_p35, List.forall_mem_cons.mpr ⟨lw_p36, List.forall_mem_cons.mpr ⟨lw_p37, List.forall_mem_cons.mpr ⟨lw_p38, List.forall_mem_cons.mpr ⟨lw_p39, List.forall_mem_cons.mpr ⟨lw_p40, List.forall_mem_cons.mpr ⟨lw_p41, List.forall_mem_cons.mpr ⟨lw_p42, List.forall_mem_cons.mpr ⟨lw_p43, List.forall_mem_cons.mpr ⟨lw_p44, List.forall_mem_cons.mpr ⟨lw_p45, List.forall_mem_cons.mpr ⟨lw_p46, List.forall_mem_cons.mpr ⟨lw_p47, fun _ h => absurd h List.not_mem_nil⟩⟩⟩⟩⟩⟩⟩⟩⟩⟩⟩⟩⟩⟩⟩⟩
theorem lw_p48 : lw_okq (⟨"TelegraphHouseModel", "add", "(IIIIII)V"⟩, 69) := ⟨⟨by decide +kernel, by decide +kernel⟩, List.mem_of_getElem? (i := 1049) (by decide +kernel), List.mem_of_getElem? (i := 1358) (by decide +kernel), List.mem_of_getElem? (i := 1359) (by decide +kernel)⟩
theorem lw_p49 : lw_okq (⟨"TelegraphHouseModel", "spell", "(IJI)V"⟩, 69) := ⟨⟨by decide +kernel, by decide +kernel⟩, List.mem_of_getElem? (i := 1049) (by decide +kernel), List.mem_of_getElem? (i := 1362) (by decide +kernel), List.mem_of_getElem? (i := 1363) (by decide +kernel)⟩
theorem lw_p50 : lw_okq (⟨"TelegraphHouseModel", "addNumber", "(IIJ)V"⟩, 69) := ⟨⟨by decide +kernel, by decide +kernel⟩, List.mem_of_getElem? (i := 1049) (by decide +kernel), List.mem_of_getElem? (i := 1369) (by decide +kernel), List.mem_of_getElem? (i := 1370) (by decide +kernel)⟩
theorem lw_p51 : lw_okq (⟨"TelegraphHouseModel", "isGroup", "(II)Z"⟩, 69) := ⟨⟨by decide +kernel, by decide +kernel⟩, List.mem_of_getElem? (i := 1049) (by decide +kernel), List.mem_of_getElem? (i := 1381) (by decide +kernel), List.mem_of_getElem? (i := 1382) (by decide +kernel)⟩
theorem lw_p52 : lw_okq (⟨"TelegraphHouseModel", "groupAt", "(II)I"⟩, 69) := ⟨⟨by decide +kernel, by decide +kernel⟩, List.mem_of_getElem? (i := 1049) (by decide +kernel), List.mem_of_getElem? (i := 1385) (by decide +kernel), List.mem_of_getElem? (i := 1386) (by decide +kernel)⟩
theorem lw_p53 : lw_okq (⟨"TelegraphHouseModel", "readPhrase", "(II)V"⟩, 69) := ⟨⟨by decide +kernel, by decide +kernel⟩, List.mem_of_getElem? (i := 1049) (by decide +kernel), List.mem_of_getElem? (i := 1393) (by decide +kernel), List.mem_of_getElem? (i := 1394) (by decide +kernel)⟩
theorem lw_p54 : lw_okq (⟨"TelegraphHouseModel", "readWord", "(II)V"⟩, 69) := ⟨⟨by decide +kernel, by decide +kernel⟩, List.mem_of_getElem? (i := 1049) (by decide +kernel), List.mem_of_getElem? (i := 1397) (by decide +kernel), List.mem_of_getElem? (i := 1398) (by decide +kernel)⟩
theorem lw_p55 : lw_okq (⟨"TelegraphHouseModel", "readNumber", "(II)V"⟩, 69) := ⟨⟨by decide +kernel, by decide +kernel⟩, List.mem_of_getElem? (i := 1049) (by decide +kernel), List.mem_of_getElem? (i := 1402) (by decide +kernel), List.mem_of_getElem? (i := 1403) (by decide +kernel)⟩
theorem lw_p56 : lw_okq (⟨"TelegraphHouseModel", "digitsAt", "(I)I"⟩, 69) := ⟨⟨by decide +kernel, by decide +kernel⟩, List.mem_of_getElem? (i := 1049) (by decide +kernel), List.mem_of_getElem? (i := 1406) (by decide +kernel), List.mem_of_getElem? (i := 1407) (by decide +kernel)⟩
theorem lw_p57 : lw_okq (⟨"TelegraphHouseModel", "sumOf", "(IIZ)I"⟩, 69) := ⟨⟨by decide +kernel, by decide +kernel⟩, List.mem_of_getElem? (i := 1049) (by decide +kernel), List.mem_of_getElem? (i := 1419) (by decide +kernel), List.mem_of_getElem? (i := 1420) (by decide +kernel)⟩
theorem lw_p58 : lw_okq (⟨"TelegraphHouseModel", "placesOf", "(II)I"⟩, 69) := ⟨⟨by decide +kernel, by decide +kernel⟩, List.mem_of_getElem? (i := 1049) (by decide +kernel), List.mem_of_getElem? (i := 1423) (by decide +kernel), List.mem_of_getElem? (i := 1424) (by decide +kernel)⟩
theorem lw_p59 : lw_okq (⟨"TelegraphHouseModel", "isBlock", "(II)Z"⟩, 69) := ⟨⟨by decide +kernel, by decide +kernel⟩, List.mem_of_getElem? (i := 1049) (by decide +kernel), List.mem_of_getElem? (i := 1431) (by decide +kernel), List.mem_of_getElem? (i := 1432) (by decide +kernel)⟩
theorem lw_p60 : lw_okq (⟨"TelegraphHouseModel", "change", "(I)V"⟩, 69) := ⟨⟨by decide +kernel, by decide +kernel⟩, List.mem_of_getElem? (i := 1049) (by decide +kernel), List.mem_of_getElem? (i := 1446) (by decide +kernel), List.mem_of_getElem? (i := 1447) (by decide +kernel)⟩
theorem lw_p61 : lw_okq (⟨"TelegraphHouseModel", "mendBlock", "(II)I"⟩, 69) := ⟨⟨by decide +kernel, by decide +kernel⟩, List.mem_of_getElem? (i := 1049) (by decide +kernel), List.mem_of_getElem? (i := 1454) (by decide +kernel), List.mem_of_getElem? (i := 1455) (by decide +kernel)⟩
theorem lw_p62 : lw_okq (⟨"TelegraphHouseModel", "isStation", "(I)Z"⟩, 69) := ⟨⟨by decide +kernel, by decide +kernel⟩, List.mem_of_getElem? (i := 1049) (by decide +kernel), List.mem_of_getElem? (i := 1474) (by decide +kernel), List.mem_of_getElem? (i := 1475) (by decide +kernel)⟩
theorem lw_p63 : lw_okq (⟨"TelegraphHouseModel", "goBack", "(I)V"⟩, 69) := ⟨⟨by decide +kernel, by decide +kernel⟩, List.mem_of_getElem? (i := 1049) (by decide +kernel), List.mem_of_getElem? (i := 1484) (by decide +kernel), List.mem_of_getElem? (i := 1485) (by decide +kernel)⟩
def lw_privs_4 : List (MethodName × Nat) := [(⟨"TelegraphHouseModel", "add", "(IIIIII)V"⟩, 69), (⟨"TelegraphHouseModel", "spell", "(IJI)V"⟩, 69), (⟨"TelegraphHouseModel", "addNumber", "(IIJ)V"⟩, 69), (⟨"TelegraphHouseModel", "isGroup", "(II)Z"⟩, 69), (⟨"TelegraphHouseModel", "groupAt", "(II)I"⟩, 69), (⟨"TelegraphHouseModel", "readPhrase", "(II)V"⟩, 69), (⟨"TelegraphHouseModel", "readWord", "(II)V"⟩, 69), (⟨"TelegraphHouseModel", "readNumber", "(II)V"⟩, 69), (⟨"TelegraphHouseModel", "digitsAt", "(I)I"⟩, 69), (⟨"TelegraphHouseModel", "sumOf", "(IIZ)I"⟩, 69), (⟨"TelegraphHouseModel", "placesOf", "(II)I"⟩, 69), (⟨"TelegraphHouseModel", "isBlock", "(II)Z"⟩, 69), (⟨"TelegraphHouseModel", "change", "(I)V"⟩, 69), (⟨"TelegraphHouseModel", "mendBlock", "(II)I"⟩, 69), (⟨"TelegraphHouseModel", "isStation", "(I)Z"⟩, 69), (⟨"TelegraphHouseModel", "goBack", "(I)V"⟩, 69)]
theorem lw_r4 : ∀ q ∈ lw_privs_4, lw_okq q := List.forall_mem_cons.mpr ⟨lw_p48, List.forall_mem_cons.mpr ⟨lw_p49, List.forall_mem_cons.mpr ⟨lw_p50, List.forall_mem_cons.mpr ⟨lw_p51, List.forall_mem_cons.mpr ⟨lw_p52, List.forall_mem_cons.mpr ⟨lw_p53, List.forall_mem_cons.mpr ⟨lw_p54, List.forall_mem_cons.mpr ⟨lw_p55, List.forall_mem_cons.mpr ⟨lw_p56, List.forall_mem_cons.mpr ⟨lw_p57, List.forall_mem_cons.mpr ⟨lw_p58, List.forall_mem_cons.mpr ⟨lw_p59, List.forall_mem_cons.mpr ⟨lw_p60, List.forall_mem_cons.mpr ⟨lw_p61, List.forall_mem_cons.mpr ⟨lw_p62, List.forall_mem_cons.mpr ⟨lw_p63, fun _ h => absurd h List.not_mem_nil⟩⟩⟩⟩⟩⟩⟩⟩⟩⟩⟩⟩⟩⟩⟩⟩
theorem lw_p64 : lw_okq (⟨"TelegraphHouseModel", "quickest", "(II)I"⟩, 69) := ⟨⟨by decide +kernel, by decide +kernel⟩, List.mem_of_getElem? (i := 1049) (by decide +kernel), List.mem_of_getElem? (i := 1489) (by decide +kernel), List.mem_of_getElem? (i := 1490) (by decide +kernel)⟩
theorem lw_p65 : lw_okq (⟨"TelegraphHouseModel", "next", "(I)I"⟩, 69) := ⟨⟨by decide +kernel, by decide +kernel⟩, List.mem_of_getElem? (i := 1049) (by decide +kernel), List.mem_of_getElem? (i := 1493) (by decide +kernel), List.mem_of_getElem? (i := 1494) (by decide +kernel)⟩
theorem lw_p66 : lw_okq (⟨"TelegraphHouseModel", "begin", "(I)V"⟩, 69) := ⟨⟨by decide +kernel, by decide +kernel⟩, List.mem_of_getElem? (i := 1049) (by decide +kernel), List.mem_of_getElem? (i := 1506) (by decide +kernel), List.mem_of_getElem? (i := 1507) (by decide +kernel)⟩
theorem lw_p67 : lw_okq (⟨"TelegraphHouseModel", "arrive", "(I)I"⟩, 69) := ⟨⟨by decide +kernel, by decide +kernel⟩, List.mem_of_getElem? (i := 1049) (by decide +kernel), List.mem_of_getElem? (i := 1515) (by decide +kernel), List.mem_of_getElem? (i := 1516) (by decide +kernel)⟩
theorem lw_p68 : lw_okq (⟨"TelegraphHouseModel", "depart", "(I)V"⟩, 69) := ⟨⟨by decide +kernel, by decide +kernel⟩, List.mem_of_getElem? (i := 1049) (by decide +kernel), List.mem_of_getElem? (i := 1519) (by decide +kernel), List.mem_of_getElem? (i := 1520) (by decide +kernel)⟩
theorem lw_p69 : lw_okq (⟨"TelegraphHouseModel", "isOpen", "(I)Z"⟩, 69) := ⟨⟨by decide +kernel, by decide +kernel⟩, List.mem_of_getElem? (i := 1049) (by decide +kernel), List.mem_of_getElem? (i := 1523) (by decide +kernel), List.mem_of_getElem? (i := 1524) (by decide +kernel)⟩
theorem lw_p70 : lw_okq (⟨"TelegraphHouseModel", "isAhead", "(II)Z"⟩, 69) := ⟨⟨by decide +kernel, by decide +kernel⟩, List.mem_of_getElem? (i := 1049) (by decide +kernel), List.mem_of_getElem? (i := 1527) (by decide +kernel), List.mem_of_getElem? (i := 1528) (by decide +kernel)⟩
theorem lw_p71 : lw_okq (⟨"TelegraphHouseModel", "many", "(I)I"⟩, 69) := ⟨⟨by decide +kernel, by decide +kernel⟩, List.mem_of_getElem? (i := 1049) (by decide +kernel), List.mem_of_getElem? (i := 1559) (by decide +kernel), List.mem_of_getElem? (i := 1560) (by decide +kernel)⟩
def lw_privs_5 : List (MethodName × Nat) := [(⟨"TelegraphHouseModel", "quickest", "(II)I"⟩, 69), (⟨"TelegraphHouseModel", "next", "(I)I"⟩, 69), (⟨"TelegraphHouseModel", "begin", "(I)V"⟩, 69), (⟨"TelegraphHouseModel", "arrive", "(I)I"⟩, 69), (⟨"TelegraphHouseModel", "depart", "(I)V"⟩, 69), (⟨"TelegraphHouseModel", "isOpen", "(I)Z"⟩, 69), (⟨"TelegraphHouseModel", "isAhead", "(II)Z"⟩, 69), (⟨"TelegraphHouseModel", "many", "(I)I"⟩, 69)]
theorem lw_r5 : ∀ q ∈ lw_privs_5, lw_okq q := List.forall_mem_cons.mpr ⟨lw_p64, List.forall_mem_cons.mpr ⟨lw_p65, List.forall_mem_cons.mpr ⟨lw_p66, List.forall_mem_cons.mpr ⟨lw_p67, List.forall_mem_cons.mpr ⟨lw_p68, List.forall_mem_cons.mpr ⟨lw_p69, List.forall_mem_cons.mpr ⟨lw_p70, List.forall_mem_cons.mpr ⟨lw_p71, fun _ h => absurd h List.not_mem_nil⟩⟩⟩⟩⟩⟩⟩⟩
def lw_privs : List (MethodName × Nat) := lw_privs_1 ++ (lw_privs_2 ++ (lw_privs_3 ++ (lw_privs_4 ++ (lw_privs_5))))
def lw_tbl : List Cond := k2_sels lw_privs ++ tables_1
theorem lw_privs_ok : ∀ q ∈ lw_privs, lw_okq q := by
  show ∀ q ∈ lw_privs_1 ++ (lw_privs_2 ++ (lw_privs_3 ++ (lw_privs_4 ++ (lw_privs_5)))), lw_okq q
  exact List.forall_mem_append.mpr ⟨lw_r1, List.forall_mem_append.mpr ⟨lw_r2, List.forall_mem_append.mpr ⟨lw_r3, List.forall_mem_append.mpr ⟨lw_r4, lw_r5⟩⟩⟩⟩
def RX0 : String := "TelegraphHouse$Book"
def TX0 : u_T := fun k => match k with
  | 0 => ("TelegraphHouse$Book", "start", "I", true)
  | 1 => ("TelegraphHouse$Book", "stride", "I", true)
  | 2 => ("TelegraphHouse$Book", "words", "[J", true)
  | 3 => ("TelegraphHouse$Book", "sizes", "[I", true)
  | 4 => ("TelegraphHouse$Book", "groups", "[I", true)
  | 5 => ("TelegraphHouse$Book", "phraseCount", "I", false)
  | _ => ("TelegraphHouse$Book", "closed", "Z", false)
def tyX0 : Nat → FieldType := fun k => match k with
  | 0 => .int
  | 1 => .int
  | 2 => .array .long
  | 3 => .array .int
  | 4 => .array .int
  | 5 => .int
  | _ => .boolean
theorem nmX0 : ∀ a, a < 7 → ∀ b, b < 7 → a ≠ b → (TX0 a).2.1 ≠ (TX0 b).2.1 := by decide +kernel
theorem tyX0_ok : ∀ k, k < 7 → parseFieldDescriptor (TX0 k).2.2.1 = some (tyX0 k) := by decide +kernel
def RX1 : String := "TelegraphHouse$Condenser"
def TX1 : u_T := fun k => match k with
  | 0 => ("TelegraphHouse$Condenser", "groups", "[I", true)
  | 1 => ("TelegraphHouse$Condenser", "parts", "[I", true)
  | 2 => ("TelegraphHouse$Condenser", "covers", "[I", true)
  | _ => ("TelegraphHouse$Condenser", "phrases", "[I", true)
def tyX1 : Nat → FieldType := fun k => match k with
  | 0 => .array .int
  | 1 => .array .int
  | 2 => .array .int
  | _ => .array .int
theorem nmX1 : ∀ a, a < 4 → ∀ b, b < 4 → a ≠ b → (TX1 a).2.1 ≠ (TX1 b).2.1 := by decide +kernel
theorem tyX1_ok : ∀ k, k < 4 → parseFieldDescriptor (TX1 k).2.2.1 = some (tyX1 k) := by decide +kernel
def RX2 : String := "TelegraphHouse$Expander"
def TX2 : u_T := fun k => match k with
  | 0 => ("TelegraphHouse$Expander", "at", "I", false)
  | 1 => ("TelegraphHouse$Expander", "told", "I", false)
  | _ => ("TelegraphHouse$Expander", "alike", "Z", false)
def tyX2 : Nat → FieldType := fun k => match k with
  | 0 => .int
  | 1 => .int
  | _ => .boolean
theorem nmX2 : ∀ a, a < 3 → ∀ b, b < 3 → a ≠ b → (TX2 a).2.1 ≠ (TX2 b).2.1 := by decide +kernel
theorem tyX2_ok : ∀ k, k < 3 → parseFieldDescriptor (TX2 k).2.2.1 = some (tyX2 k) := by decide +kernel
def RX3 : String := "TelegraphHouse$Form"
def TX3 : u_T := fun k => match k with
  | 0 => ("TelegraphHouse$Form", "letters", "[I", true)
  | 1 => ("TelegraphHouse$Form", "groupCount", "I", false)
  | 2 => ("TelegraphHouse$Form", "book", "I", false)
  | 3 => ("TelegraphHouse$Form", "partSorts", "[I", true)
  | 4 => ("TelegraphHouse$Form", "partCovers", "[I", true)
  | 5 => ("TelegraphHouse$Form", "partPhrases", "[I", true)
  | 6 => ("TelegraphHouse$Form", "partCount", "I", false)
  | 7 => ("TelegraphHouse$Form", "letterSums", "[I", true)
  | 8 => ("TelegraphHouse$Form", "placeSums", "[I", true)
  | 9 => ("TelegraphHouse$Form", "findings", "[I", true)
  | _ => ("TelegraphHouse$Form", "blockCount", "I", false)
def tyX3 : Nat → FieldType := fun k => match k with
  | 0 => .array .int
  | 1 => .int
  | 2 => .int
  | 3 => .array .int
  | 4 => .array .int
  | 5 => .array .int
  | 6 => .int
  | 7 => .array .int
  | 8 => .array .int
  | 9 => .array .int
  | _ => .int
theorem nmX3 : ∀ a, a < 11 → ∀ b, b < 11 → a ≠ b → (TX3 a).2.1 ≠ (TX3 b).2.1 := by decide +kernel
theorem tyX3_ok : ∀ k, k < 11 → parseFieldDescriptor (TX3 k).2.2.1 = some (tyX3 k) := by decide +kernel
def RX4 : String := "TelegraphHouse$Journey"
def TX4 : u_T := fun k => match k with
  | 0 => ("TelegraphHouse$Journey", "route", "LTelegraphHouse$Route;", true)
  | 1 => ("TelegraphHouse$Journey", "leg", "I", false)
  | 2 => ("TelegraphHouse$Journey", "state", "I", false)
  | 3 => ("TelegraphHouse$Journey", "place", "I", false)
  | 4 => ("TelegraphHouse$Journey", "cameAt", "I", false)
  | 5 => ("TelegraphHouse$Journey", "timesLost", "I", false)
  | 6 => ("TelegraphHouse$Journey", "isDoomed", "Z", false)
  | 7 => ("TelegraphHouse$Journey", "priority", "I", false)
  | 8 => ("TelegraphHouse$Journey", "order", "I", false)
  | _ => ("TelegraphHouse$Journey", "sentCount", "I", false)
def tyX4 : Nat → FieldType := fun k => match k with
  | 0 => .object "TelegraphHouse$Route"
  | 1 => .int
  | 2 => .int
  | 3 => .int
  | 4 => .int
  | 5 => .int
  | 6 => .boolean
  | 7 => .int
  | 8 => .int
  | _ => .int
theorem nmX4 : ∀ a, a < 10 → ∀ b, b < 10 → a ≠ b → (TX4 a).2.1 ≠ (TX4 b).2.1 := by decide +kernel
theorem tyX4_ok : ∀ k, k < 10 → parseFieldDescriptor (TX4 k).2.2.1 = some (tyX4 k) := by decide +kernel
def RX5 : String := "TelegraphHouse$Line"
def TX5 : u_T := fun k => match k with
  | 0 => ("TelegraphHouse$Line", "first", "I", true)
  | 1 => ("TelegraphHouse$Line", "second", "I", true)
  | 2 => ("TelegraphHouse$Line", "minutes", "I", true)
  | 3 => ("TelegraphHouse$Line", "opens", "I", true)
  | 4 => ("TelegraphHouse$Line", "shuts", "I", true)
  | 5 => ("TelegraphHouse$Line", "waiting", "[I", true)
  | 6 => ("TelegraphHouse$Line", "runners", "[I", true)
  | 7 => ("TelegraphHouse$Line", "endMinutes", "[I", true)
  | _ => ("TelegraphHouse$Line", "toLose", "I", false)
def tyX5 : Nat → FieldType := fun k => match k with
  | 0 => .int
  | 1 => .int
  | 2 => .int
  | 3 => .int
  | 4 => .int
  | 5 => .array .int
  | 6 => .array .int
  | 7 => .array .int
  | _ => .int
theorem nmX5 : ∀ a, a < 9 → ∀ b, b < 9 → a ≠ b → (TX5 a).2.1 ≠ (TX5 b).2.1 := by decide +kernel
theorem tyX5_ok : ∀ k, k < 9 → parseFieldDescriptor (TX5 k).2.2.1 = some (tyX5 k) := by decide +kernel
def RX6 : String := "TelegraphHouse$Message"
def TX6 : u_T := fun k => match k with
  | 0 => ("TelegraphHouse$Message", "tokens", "[J", true)
  | 1 => ("TelegraphHouse$Message", "tokenCount", "I", true)
  | _ => ("TelegraphHouse$Message", "form", "LTelegraphHouse$Form;", true)
def tyX6 : Nat → FieldType := fun k => match k with
  | 0 => .array .long
  | 1 => .int
  | _ => .object "TelegraphHouse$Form"
theorem nmX6 : ∀ a, a < 3 → ∀ b, b < 3 → a ≠ b → (TX6 a).2.1 ≠ (TX6 b).2.1 := by decide +kernel
theorem tyX6_ok : ∀ k, k < 3 → parseFieldDescriptor (TX6 k).2.2.1 = some (tyX6 k) := by decide +kernel
def RX7 : String := "TelegraphHouse$Net"
def TX7 : u_T := fun k => match k with
  | 0 => ("TelegraphHouse$Net", "stationCount", "I", false)
  | 1 => ("TelegraphHouse$Net", "ledgers", "[I", true)
  | 2 => ("TelegraphHouse$Net", "lines", "[LTelegraphHouse$Line;", true)
  | 3 => ("TelegraphHouse$Net", "lineCount", "I", false)
  | 4 => ("TelegraphHouse$Net", "journeys", "[LTelegraphHouse$Journey;", true)
  | 5 => ("TelegraphHouse$Net", "journeyCount", "I", false)
  | 6 => ("TelegraphHouse$Net", "costs", "[I", true)
  | 7 => ("TelegraphHouse$Net", "route", "LTelegraphHouse$Route;", true)
  | 8 => ("TelegraphHouse$Net", "minute", "I", false)
  | 9 => ("TelegraphHouse$Net", "messagesSent", "I", false)
  | _ => ("TelegraphHouse$Net", "sendings", "I", false)
def tyX7 : Nat → FieldType := fun k => match k with
  | 0 => .int
  | 1 => .array .int
  | 2 => .array (.object "TelegraphHouse$Line")
  | 3 => .int
  | 4 => .array (.object "TelegraphHouse$Journey")
  | 5 => .int
  | 6 => .array .int
  | 7 => .object "TelegraphHouse$Route"
  | 8 => .int
  | 9 => .int
  | _ => .int
theorem nmX7 : ∀ a, a < 11 → ∀ b, b < 11 → a ≠ b → (TX7 a).2.1 ≠ (TX7 b).2.1 := by decide +kernel
theorem tyX7_ok : ∀ k, k < 11 → parseFieldDescriptor (TX7 k).2.2.1 = some (tyX7 k) := by decide +kernel
def RX8 : String := "TelegraphHouse$Route"
def TX8 : u_T := fun k => match k with
  | 0 => ("TelegraphHouse$Route", "stations", "[I", true)
  | 1 => ("TelegraphHouse$Route", "lines", "[I", true)
  | _ => ("TelegraphHouse$Route", "legs", "I", false)
def tyX8 : Nat → FieldType := fun k => match k with
  | 0 => .array .int
  | 1 => .array .int
  | _ => .int
theorem nmX8 : ∀ a, a < 3 → ∀ b, b < 3 → a ≠ b → (TX8 a).2.1 ≠ (TX8 b).2.1 := by decide +kernel
theorem tyX8_ok : ∀ k, k < 3 → parseFieldDescriptor (TX8 k).2.2.1 = some (tyX8 k) := by decide +kernel
def RX9 : String := "TelegraphHouse$SoundGroups"
def TX9 : u_T := fun k => match k with
  | 0 => ("TelegraphHouse$SoundGroups", "groups", "[I", true)
  | 1 => ("TelegraphHouse$SoundGroups", "known", "I", false)
  | _ => ("TelegraphHouse$SoundGroups", "head", "I", false)
def tyX9 : Nat → FieldType := fun k => match k with
  | 0 => .array .int
  | 1 => .int
  | _ => .int
theorem nmX9 : ∀ a, a < 3 → ∀ b, b < 3 → a ≠ b → (TX9 a).2.1 ≠ (TX9 b).2.1 := by decide +kernel
theorem tyX9_ok : ∀ k, k < 3 → parseFieldDescriptor (TX9 k).2.2.1 = some (tyX9 k) := by decide +kernel
def RX10 : String := "TelegraphHouse$Tape"
def TX10 : u_T := fun k => match k with
  | 0 => ("TelegraphHouse$Tape", "bytes", "[I", true)
  | 1 => ("TelegraphHouse$Tape", "length", "I", false)
  | 2 => ("TelegraphHouse$Tape", "tokens", "[J", true)
  | 3 => ("TelegraphHouse$Tape", "tokenCount", "I", false)
  | 4 => ("TelegraphHouse$Tape", "openSort", "I", false)
  | 5 => ("TelegraphHouse$Tape", "openSize", "I", false)
  | _ => ("TelegraphHouse$Tape", "openValue", "J", false)
def tyX10 : Nat → FieldType := fun k => match k with
  | 0 => .array .int
  | 1 => .int
  | 2 => .array .long
  | 3 => .int
  | 4 => .int
  | 5 => .int
  | _ => .long
theorem nmX10 : ∀ a, a < 7 → ∀ b, b < 7 → a ≠ b → (TX10 a).2.1 ≠ (TX10 b).2.1 := by decide +kernel
theorem tyX10_ok : ∀ k, k < 7 → parseFieldDescriptor (TX10 k).2.2.1 = some (tyX10 k) := by decide +kernel
def RX11 : String := "TelegraphHouse"
def TX11 : u_T := fun k => match k with
  | 0 => ("TelegraphHouse", "tape", "LTelegraphHouse$Tape;", true)
  | 1 => ("TelegraphHouse", "soundGroups", "LTelegraphHouse$SoundGroups;", true)
  | 2 => ("TelegraphHouse", "books", "[LTelegraphHouse$Book;", true)
  | 3 => ("TelegraphHouse", "bookCount", "I", false)
  | 4 => ("TelegraphHouse", "messages", "[LTelegraphHouse$Message;", true)
  | 5 => ("TelegraphHouse", "messageCount", "I", false)
  | 6 => ("TelegraphHouse", "condenser", "LTelegraphHouse$Condenser;", true)
  | 7 => ("TelegraphHouse", "expander", "LTelegraphHouse$Expander;", true)
  | _ => ("TelegraphHouse", "net", "LTelegraphHouse$Net;", true)
def tyX11 : Nat → FieldType := fun k => match k with
  | 0 => .object "TelegraphHouse$Tape"
  | 1 => .object "TelegraphHouse$SoundGroups"
  | 2 => .array (.object "TelegraphHouse$Book")
  | 3 => .int
  | 4 => .array (.object "TelegraphHouse$Message")
  | 5 => .int
  | 6 => .object "TelegraphHouse$Condenser"
  | 7 => .object "TelegraphHouse$Expander"
  | _ => .object "TelegraphHouse$Net"
theorem nmX11 : ∀ a, a < 9 → ∀ b, b < 9 → a ≠ b → (TX11 a).2.1 ≠ (TX11 b).2.1 := by decide +kernel
theorem tyX11_ok : ∀ k, k < 9 → parseFieldDescriptor (TX11 k).2.2.1 = some (tyX11 k) := by decide +kernel
def RX12 : String := "TelegraphHouseModel"
def TX12 : u_T := fun k => match k with
  | 0 => ("TelegraphHouseModel", "tape", "[B", true)
  | 1 => ("TelegraphHouseModel", "size", "I", false)
  | 2 => ("TelegraphHouseModel", "tokens", "I", false)
  | 3 => ("TelegraphHouseModel", "token", "[J", true)
  | 4 => ("TelegraphHouseModel", "long0", "[I", true)
  | 5 => ("TelegraphHouseModel", "messages", "I", false)
  | 6 => ("TelegraphHouseModel", "tokenMany", "[I", true)
  | 7 => ("TelegraphHouseModel", "said", "[J", true)
  | 8 => ("TelegraphHouseModel", "length", "[I", true)
  | 9 => ("TelegraphHouseModel", "bookOf", "[I", true)
  | 10 => ("TelegraphHouseModel", "partMany", "[I", true)
  | 11 => ("TelegraphHouseModel", "partSort", "[I", true)
  | 12 => ("TelegraphHouseModel", "partLong", "[I", true)
  | 13 => ("TelegraphHouseModel", "partPhrase", "[I", true)
  | 14 => ("TelegraphHouseModel", "groupMany", "[I", true)
  | 15 => ("TelegraphHouseModel", "letter", "[I", true)
  | 16 => ("TelegraphHouseModel", "blocks", "[I", true)
  | 17 => ("TelegraphHouseModel", "sumA", "[I", true)
  | 18 => ("TelegraphHouseModel", "sumB", "[I", true)
  | 19 => ("TelegraphHouseModel", "mended", "[I", true)
  | 20 => ("TelegraphHouseModel", "books", "I", false)
  | 21 => ("TelegraphHouseModel", "begin", "[I", true)
  | 22 => ("TelegraphHouseModel", "by", "[I", true)
  | 23 => ("TelegraphHouseModel", "isClosed", "[Z", true)
  | 24 => ("TelegraphHouseModel", "phrases", "[I", true)
  | 25 => ("TelegraphHouseModel", "wordMany", "[I", true)
  | 26 => ("TelegraphHouseModel", "word", "[J", true)
  | 27 => ("TelegraphHouseModel", "code", "[I", true)
  | 28 => ("TelegraphHouseModel", "sounds", "[I", true)
  | 29 => ("TelegraphHouseModel", "soundMany", "I", false)
  | 30 => ("TelegraphHouseModel", "groupsFrom", "[I", true)
  | 31 => ("TelegraphHouseModel", "partsFrom", "[I", true)
  | 32 => ("TelegraphHouseModel", "taken", "[I", true)
  | 33 => ("TelegraphHouseModel", "covers", "[I", true)
  | 34 => ("TelegraphHouseModel", "got", "J", false)
  | 35 => ("TelegraphHouseModel", "gotPhrase", "I", false)
  | 36 => ("TelegraphHouseModel", "gotMany", "I", false)
  | 37 => ("TelegraphHouseModel", "stations", "I", false)
  | 38 => ("TelegraphHouseModel", "lines", "I", false)
  | 39 => ("TelegraphHouseModel", "one", "[I", true)
  | 40 => ("TelegraphHouseModel", "other", "[I", true)
  | 41 => ("TelegraphHouseModel", "minutes", "[I", true)
  | 42 => ("TelegraphHouseModel", "opens", "[I", true)
  | 43 => ("TelegraphHouseModel", "closes", "[I", true)
  | 44 => ("TelegraphHouseModel", "toLose", "[I", true)
  | 45 => ("TelegraphHouseModel", "runner", "[I", true)
  | 46 => ("TelegraphHouseModel", "ends", "[I", true)
  | 47 => ("TelegraphHouseModel", "isLost", "[Z", true)
  | 48 => ("TelegraphHouseModel", "clock", "I", false)
  | 49 => ("TelegraphHouseModel", "how", "[I", true)
  | 50 => ("TelegraphHouseModel", "at", "[I", true)
  | 51 => ("TelegraphHouseModel", "cameAt", "[I", true)
  | 52 => ("TelegraphHouseModel", "losses", "[I", true)
  | 53 => ("TelegraphHouseModel", "priority", "[I", true)
  | 54 => ("TelegraphHouseModel", "turn", "[I", true)
  | 55 => ("TelegraphHouseModel", "from", "[I", true)
  | 56 => ("TelegraphHouseModel", "goal", "[I", true)
  | 57 => ("TelegraphHouseModel", "step", "[I", true)
  | 58 => ("TelegraphHouseModel", "pathMany", "[I", true)
  | 59 => ("TelegraphHouseModel", "pathStation", "[I", true)
  | 60 => ("TelegraphHouseModel", "pathLine", "[I", true)
  | 61 => ("TelegraphHouseModel", "sends", "I", false)
  | 62 => ("TelegraphHouseModel", "turns", "I", false)
  | 63 => ("TelegraphHouseModel", "sentFrom", "[I", true)
  | 64 => ("TelegraphHouseModel", "cameTo", "[I", true)
  | 65 => ("TelegraphHouseModel", "countFrom", "[I", true)
  | 66 => ("TelegraphHouseModel", "beganAt", "[I", true)
  | 67 => ("TelegraphHouseModel", "far", "[I", true)
  | _ => ("TelegraphHouseModel", "hops", "[I", true)
def tyX12 : Nat → FieldType := fun k => match k with
  | 0 => .array .byte
  | 1 => .int
  | 2 => .int
  | 3 => .array .long
  | 4 => .array .int
  | 5 => .int
  | 6 => .array .int
  | 7 => .array .long
  | 8 => .array .int
  | 9 => .array .int
  | 10 => .array .int
  | 11 => .array .int
  | 12 => .array .int
  | 13 => .array .int
  | 14 => .array .int
  | 15 => .array .int
  | 16 => .array .int
  | 17 => .array .int
  | 18 => .array .int
  | 19 => .array .int
  | 20 => .int
  | 21 => .array .int
  | 22 => .array .int
  | 23 => .array .boolean
  | 24 => .array .int
  | 25 => .array .int
  | 26 => .array .long
  | 27 => .array .int
  | 28 => .array .int
  | 29 => .int
  | 30 => .array .int
  | 31 => .array .int
  | 32 => .array .int
  | 33 => .array .int
  | 34 => .long
  | 35 => .int
  | 36 => .int
  | 37 => .int
  | 38 => .int
  | 39 => .array .int
  | 40 => .array .int
  | 41 => .array .int
  | 42 => .array .int
  | 43 => .array .int
  | 44 => .array .int
  | 45 => .array .int
  | 46 => .array .int
  | 47 => .array .boolean
  | 48 => .int
  | 49 => .array .int
  | 50 => .array .int
  | 51 => .array .int
  | 52 => .array .int
  | 53 => .array .int
  | 54 => .array .int
  | 55 => .array .int
  | 56 => .array .int
  | 57 => .array .int
  | 58 => .array .int
  | 59 => .array .int
  | 60 => .array .int
  | 61 => .int
  | 62 => .int
  | 63 => .array .int
  | 64 => .array .int
  | 65 => .array .int
  | 66 => .array .int
  | 67 => .array .int
  | _ => .array .int
theorem nmX12 : ∀ a, a < 69 → ∀ b, b < 69 → a ≠ b → (TX12 a).2.1 ≠ (TX12 b).2.1 := by decide +kernel
theorem tyX12_ok : ∀ k, k < 69 → parseFieldDescriptor (TX12 k).2.2.1 = some (tyX12 k) := by decide +kernel
abbrev vwCl : List vw_C := [(RX0, TX0, 7), (RX1, TX1, 4), (RX2, TX2, 3), (RX3, TX3, 11), (RX4, TX4, 10), (RX5, TX5, 9), (RX6, TX6, 3), (RX7, TX7, 11), (RX8, TX8, 3), (RX9, TX9, 3), (RX10, TX10, 7), (RX11, TX11, 9), (RX12, TX12, 69)]
/-! words that hold on every way -/
def clL : List String := ["TelegraphHouse$Book", "TelegraphHouse$Condenser", "TelegraphHouse$Expander", "TelegraphHouse$Form", "TelegraphHouse$Journey", "TelegraphHouse$Line", "TelegraphHouse$Message", "TelegraphHouse$Net", "TelegraphHouse$Route", "TelegraphHouse$SoundGroups", "TelegraphHouse$Tape", "TelegraphHouse", "TelegraphHouseModel", "TelegraphHouseLaw", "java/lang/Math", "java/util/Arrays"]
def clN (i : Nat) : String := clL.getD i ""
def T0 : List Cond := lw_tbl.filter goodWord
theorem T0_at {i : Nat} {w : Cond} (h : lw_tbl[i]? = some w) (g : goodWord w = true) : w ∈ T0 := List.mem_filter.mpr ⟨List.mem_of_getElem? h, g⟩
theorem T0_good : ∀ w ∈ T0, (w.onTables && w.keeps) = true ∨ ∃ ty, w = .arrayClass ty := fun _ h => good_of_word (List.mem_filter.mp h).2
/-- a word of the table at its place, and good -/
def wAt (i : Nat) (w : Cond) : Bool := decide (lw_tbl[i]? = some w) && goodWord w
theorem wAt_in {i : Nat} {w : Cond} (h : wAt i w = true) : w ∈ T0 := by
  simp only [wAt, Bool.and_eq_true, decide_eq_true_eq] at h
  exact T0_at h.1 h.2
theorem inX0 : ∀ w ∈ u_ws RX0 TX0 7, w ∈ T0 := by
  have h : ∀ k, k < 7 → wAt (([493, 495, 497, 499, 501, 503, 505] : List Nat).getD k 0) (u_lay RX0 TX0 k) = true := by decide +kernel
  intro w hw
  obtain ⟨k, hk, rfl⟩ := List.mem_map.mp hw
  exact wAt_in (h k (List.mem_range.mp hk))
theorem inX1 : ∀ w ∈ u_ws RX1 TX1 4, w ∈ T0 := by
  have h : ∀ k, k < 4 → wAt (([160, 162, 164, 166] : List Nat).getD k 0) (u_lay RX1 TX1 k) = true := by decide +kernel
  intro w hw
  obtain ⟨k, hk, rfl⟩ := List.mem_map.mp hw
  exact wAt_in (h k (List.mem_range.mp hk))
theorem inX2 : ∀ w ∈ u_ws RX2 TX2 3, w ∈ T0 := by
  have h : ∀ k, k < 3 → wAt (([178, 180, 182] : List Nat).getD k 0) (u_lay RX2 TX2 k) = true := by decide +kernel
  intro w hw
  obtain ⟨k, hk, rfl⟩ := List.mem_map.mp hw
  exact wAt_in (h k (List.mem_range.mp hk))
theorem inX3 : ∀ w ∈ u_ws RX3 TX3 11, w ∈ T0 := by
  have h : ∀ k, k < 11 → wAt (([369, 371, 373, 375, 377, 379, 381, 383, 385, 387, 389] : List Nat).getD k 0) (u_lay RX3 TX3 k) = true := by decide +kernel
  intro w hw
  obtain ⟨k, hk, rfl⟩ := List.mem_map.mp hw
  exact wAt_in (h k (List.mem_range.mp hk))
theorem inX4 : ∀ w ∈ u_ws RX4 TX4 10, w ∈ T0 := by
  have h : ∀ k, k < 10 → wAt (([444, 446, 448, 450, 452, 454, 456, 458, 460, 462] : List Nat).getD k 0) (u_lay RX4 TX4 k) = true := by decide +kernel
  intro w hw
  obtain ⟨k, hk, rfl⟩ := List.mem_map.mp hw
  exact wAt_in (h k (List.mem_range.mp hk))
theorem inX5 : ∀ w ∈ u_ws RX5 TX5 9, w ∈ T0 := by
  have h : ∀ k, k < 9 → wAt (([901, 903, 905, 907, 909, 911, 913, 915, 917] : List Nat).getD k 0) (u_lay RX5 TX5 k) = true := by decide +kernel
  intro w hw
  obtain ⟨k, hk, rfl⟩ := List.mem_map.mp hw
  exact wAt_in (h k (List.mem_range.mp hk))
theorem inX6 : ∀ w ∈ u_ws RX6 TX6 3, w ∈ T0 := by
  have h : ∀ k, k < 3 → wAt (([406, 408, 410] : List Nat).getD k 0) (u_lay RX6 TX6 k) = true := by decide +kernel
  intro w hw
  obtain ⟨k, hk, rfl⟩ := List.mem_map.mp hw
  exact wAt_in (h k (List.mem_range.mp hk))
theorem inX7 : ∀ w ∈ u_ws RX7 TX7 11, w ∈ T0 := by
  have h : ∀ k, k < 11 → wAt (([227, 229, 231, 233, 235, 237, 239, 241, 243, 245, 247] : List Nat).getD k 0) (u_lay RX7 TX7 k) = true := by decide +kernel
  intro w hw
  obtain ⟨k, hk, rfl⟩ := List.mem_map.mp hw
  exact wAt_in (h k (List.mem_range.mp hk))
theorem inX8 : ∀ w ∈ u_ws RX8 TX8 3, w ∈ T0 := by
  have h : ∀ k, k < 3 → wAt (([205, 207, 209] : List Nat).getD k 0) (u_lay RX8 TX8 k) = true := by decide +kernel
  intro w hw
  obtain ⟨k, hk, rfl⟩ := List.mem_map.mp hw
  exact wAt_in (h k (List.mem_range.mp hk))
theorem inX9 : ∀ w ∈ u_ws RX9 TX9 3, w ∈ T0 := by
  have h : ∀ k, k < 3 → wAt (([139, 141, 143] : List Nat).getD k 0) (u_lay RX9 TX9 k) = true := by decide +kernel
  intro w hw
  obtain ⟨k, hk, rfl⟩ := List.mem_map.mp hw
  exact wAt_in (h k (List.mem_range.mp hk))
theorem inX10 : ∀ w ∈ u_ws RX10 TX10 7, w ∈ T0 := by
  have h : ∀ k, k < 7 → wAt (([113, 115, 117, 119, 121, 123, 125] : List Nat).getD k 0) (u_lay RX10 TX10 k) = true := by decide +kernel
  intro w hw
  obtain ⟨k, hk, rfl⟩ := List.mem_map.mp hw
  exact wAt_in (h k (List.mem_range.mp hk))
theorem inX11 : ∀ w ∈ u_ws RX11 TX11 9, w ∈ T0 := by
  have h : ∀ k, k < 9 → wAt (([259, 261, 263, 265, 267, 269, 271, 273, 275] : List Nat).getD k 0) (u_lay RX11 TX11 k) = true := by decide +kernel
  intro w hw
  obtain ⟨k, hk, rfl⟩ := List.mem_map.mp hw
  exact wAt_in (h k (List.mem_range.mp hk))
theorem inX12 : ∀ w ∈ u_ws RX12 TX12 69, w ∈ T0 := by
  have h : ∀ k, k < 69 → wAt (([1195, 1197, 1199, 1201, 1203, 1205, 1207, 1209, 1211, 1213, 1215, 1217, 1219, 1221, 1223, 1225, 1227, 1229, 1231, 1233, 1235, 1237, 1239, 1241, 1243, 1245, 1247, 1249, 1251, 1253, 1255, 1257, 1259, 1261, 1263, 1265, 1267, 1269, 1271, 1273, 1275, 1277, 1279, 1281, 1283, 1285, 1287, 1289, 1291, 1293, 1295, 1297, 1299, 1301, 1303, 1305, 1307, 1309, 1311, 1313, 1315, 1317, 1319, 1321, 1323, 1325, 1327, 1329, 1331] : List Nat).getD k 0) (u_lay RX12 TX12 k) = true := by decide +kernel
  intro w hw
  obtain ⟨k, hk, rfl⟩ := List.mem_map.mp hw
  exact wAt_in (h k (List.mem_range.mp hk))
/-! methods by number -/
def g2 {α : Type} (l : List (List α)) (i : Nat) (d : α) : α := (l.getD (i / 16) []).getD (i % 16) d
def yL : List (List MethodName) := [[⟨"TelegraphHouse$Book", "<init>", "(II)V"⟩, ⟨"TelegraphHouse$Book", "hasPhrase", "(I)Z"⟩, ⟨"TelegraphHouse$Book", "wordOf", "(II)J"⟩, ⟨"TelegraphHouse$Book", "addPhrase", "([JI)V"⟩, ⟨"TelegraphHouse$Book", "holds", "([JI)Z"⟩, ⟨"TelegraphHouse$Book", "standsAt", "(I[JII)Z"⟩, ⟨"TelegraphHouse$Book", "seal", "(LTelegraphHouse$SoundGroups;)V"⟩, ⟨"TelegraphHouse$Book", "phraseWithGroup", "(I)I"⟩, ⟨"TelegraphHouse$Book", "leastDistance", "()I"⟩, ⟨"TelegraphHouse$Book", "unlikePlaces", "(II)I"⟩, ⟨"TelegraphHouse$Condenser", "<init>", "()V"⟩, ⟨"TelegraphHouse$Condenser", "weigh", "(LTelegraphHouse$Message;LTelegraphHouse$Book;)I"⟩, ⟨"TelegraphHouse$Condenser", "take", "(IIII)V"⟩, ⟨"TelegraphHouse$Condenser", "isBetter", "(II)Z"⟩, ⟨"TelegraphHouse$Condenser", "write", "(LTelegraphHouse$Message;LTelegraphHouse$Book;I)V"⟩, ⟨"TelegraphHouse$Condenser", "writeToken", "(LTelegraphHouse$Form;J)V"⟩],
  [⟨"TelegraphHouse$Expander", "<init>", "()V"⟩, ⟨"TelegraphHouse$Expander", "compare", "(LTelegraphHouse$Message;LTelegraphHouse$Book;)I"⟩, ⟨"TelegraphHouse$Expander", "readNext", "(LTelegraphHouse$Message;LTelegraphHouse$Book;)Z"⟩, ⟨"TelegraphHouse$Expander", "tell", "(LTelegraphHouse$Message;J)V"⟩, ⟨"TelegraphHouse$Expander", "readPhrase", "(LTelegraphHouse$Message;LTelegraphHouse$Book;)Z"⟩, ⟨"TelegraphHouse$Expander", "readShortNumber", "(LTelegraphHouse$Message;)Z"⟩, ⟨"TelegraphHouse$Expander", "readLongNumber", "(LTelegraphHouse$Message;)Z"⟩, ⟨"TelegraphHouse$Expander", "digitsOf", "(LTelegraphHouse$Form;I)I"⟩, ⟨"TelegraphHouse$Expander", "readSpelled", "(LTelegraphHouse$Message;)Z"⟩, ⟨"TelegraphHouse$Expander", "isPadded", "(LTelegraphHouse$Form;II)Z"⟩, ⟨"TelegraphHouse$Expander", "withGroup", "(JLTelegraphHouse$Form;II)J"⟩, ⟨"TelegraphHouse$Form", "<init>", "()V"⟩, ⟨"TelegraphHouse$Form", "restart", "(I)V"⟩, ⟨"TelegraphHouse$Form", "hasGroup", "(I)Z"⟩, ⟨"TelegraphHouse$Form", "hasBlock", "(I)Z"⟩, ⟨"TelegraphHouse$Form", "letterAt", "(II)I"⟩],
  [⟨"TelegraphHouse$Form", "replaceLetter", "(III)I"⟩, ⟨"TelegraphHouse$Form", "groupNumber", "(I)I"⟩, ⟨"TelegraphHouse$Form", "addPart", "(III)V"⟩, ⟨"TelegraphHouse$Form", "addGroup", "(I)V"⟩, ⟨"TelegraphHouse$Form", "addNumber", "(I)V"⟩, ⟨"TelegraphHouse$Form", "addDigits", "(II)V"⟩, ⟨"TelegraphHouse$Form", "addSpelled", "(J)V"⟩, ⟨"TelegraphHouse$Form", "spelledIndex", "(II)I"⟩, ⟨"TelegraphHouse$Form", "takeSums", "()V"⟩, ⟨"TelegraphHouse$Form", "lettersInBlock", "(I)I"⟩, ⟨"TelegraphHouse$Form", "blockLetter", "(II)I"⟩, ⟨"TelegraphHouse$Form", "setBlockLetter", "(III)V"⟩, ⟨"TelegraphHouse$Form", "letterSum", "(I)I"⟩, ⟨"TelegraphHouse$Form", "placeSum", "(I)I"⟩, ⟨"TelegraphHouse$Form", "mendBlocks", "()I"⟩, ⟨"TelegraphHouse$Form", "mendBlock", "(I)I"⟩],
  [⟨"TelegraphHouse$Form", "mendLetter", "(III)I"⟩, ⟨"TelegraphHouse$Form", "putBack", "(III)I"⟩, ⟨"TelegraphHouse$Form", "mendNeighbours", "(II)I"⟩, ⟨"TelegraphHouse$Journey", "<init>", "()V"⟩, ⟨"TelegraphHouse$Journey", "waitsAt", "(I)Z"⟩, ⟨"TelegraphHouse$Journey", "goesAheadOf", "(LTelegraphHouse$Journey;)Z"⟩, ⟨"TelegraphHouse$Line", "<init>", "(IIIII)V"⟩, ⟨"TelegraphHouse$Line", "isOpen", "(I)Z"⟩, ⟨"TelegraphHouse$Line", "otherEnd", "(I)I"⟩, ⟨"TelegraphHouse$Line", "wayFrom", "(I)I"⟩, ⟨"TelegraphHouse$Line", "startOf", "(I)I"⟩, ⟨"TelegraphHouse$Message", "<init>", "([JI)V"⟩, ⟨"TelegraphHouse$Message", "chargedCount", "()I"⟩, ⟨"TelegraphHouse$Net", "<init>", "()V"⟩, ⟨"TelegraphHouse$Net", "addStation", "()I"⟩, ⟨"TelegraphHouse$Net", "addLine", "(IIIII)I"⟩],
  [⟨"TelegraphHouse$Net", "addJourney", "()V"⟩, ⟨"TelegraphHouse$Net", "hasStation", "(I)Z"⟩, ⟨"TelegraphHouse$Net", "noted", "(II)I"⟩, ⟨"TelegraphHouse$Net", "note", "(III)V"⟩, ⟨"TelegraphHouse$Net", "lineAt", "(I)LTelegraphHouse$Line;"⟩, ⟨"TelegraphHouse$Net", "journeyAt", "(I)LTelegraphHouse$Journey;"⟩, ⟨"TelegraphHouse$Net", "wasSent", "(I)Z"⟩, ⟨"TelegraphHouse$Net", "inState", "(I)I"⟩, ⟨"TelegraphHouse$Net", "minutesBetween", "(II)I"⟩, ⟨"TelegraphHouse$Net", "findRoute", "(II)Z"⟩, ⟨"TelegraphHouse$Net", "findCosts", "(I)V"⟩, ⟨"TelegraphHouse$Net", "lowerCost", "(LTelegraphHouse$Line;II)Z"⟩, ⟨"TelegraphHouse$Net", "costOf", "(I)I"⟩, ⟨"TelegraphHouse$Net", "legCost", "(LTelegraphHouse$Line;)I"⟩, ⟨"TelegraphHouse$Net", "lineToward", "(I)I"⟩, ⟨"TelegraphHouse$Net", "leadsOn", "(LTelegraphHouse$Line;I)Z"⟩],
  [⟨"TelegraphHouse$Net", "dispatch", "(III)I"⟩, ⟨"TelegraphHouse$Net", "setOut", "(LTelegraphHouse$Journey;)V"⟩, ⟨"TelegraphHouse$Net", "beginWait", "(LTelegraphHouse$Journey;)V"⟩, ⟨"TelegraphHouse$Net", "askFor", "(I)I"⟩, ⟨"TelegraphHouse$Net", "passMinute", "()I"⟩, ⟨"TelegraphHouse$Net", "endRun", "(LTelegraphHouse$Line;I)I"⟩, ⟨"TelegraphHouse$Net", "beLost", "(LTelegraphHouse$Journey;)V"⟩, ⟨"TelegraphHouse$Net", "arrive", "(LTelegraphHouse$Journey;)V"⟩, ⟨"TelegraphHouse$Net", "beginRun", "(ILTelegraphHouse$Line;I)V"⟩, ⟨"TelegraphHouse$Net", "nextFor", "(II)I"⟩, ⟨"TelegraphHouse$Net", "goesAhead", "(LTelegraphHouse$Journey;I)Z"⟩, ⟨"TelegraphHouse$Net", "waitingAt", "(II)I"⟩, ⟨"TelegraphHouse$Net", "aheadOf", "(LTelegraphHouse$Journey;I)I"⟩, ⟨"TelegraphHouse$Route", "<init>", "()V"⟩, ⟨"TelegraphHouse$Route", "startAt", "(I)V"⟩, ⟨"TelegraphHouse$Route", "addLeg", "(II)V"⟩],
  [⟨"TelegraphHouse$Route", "stationAt", "(I)I"⟩, ⟨"TelegraphHouse$Route", "lineAfter", "(I)I"⟩, ⟨"TelegraphHouse$Route", "copyFrom", "(LTelegraphHouse$Route;)V"⟩, ⟨"TelegraphHouse$SoundGroups", "<init>", "()V"⟩, ⟨"TelegraphHouse$SoundGroups", "at", "(I)I"⟩, ⟨"TelegraphHouse$SoundGroups", "soundWith", "(I)I"⟩, ⟨"TelegraphHouse$SoundGroups", "clash", "(II)Z"⟩, ⟨"TelegraphHouse$Tape", "<init>", "()V"⟩, ⟨"TelegraphHouse$Tape", "append", "(J)I"⟩, ⟨"TelegraphHouse$Tape", "shorten", "(I)I"⟩, ⟨"TelegraphHouse$Tape", "clear", "()V"⟩, ⟨"TelegraphHouse$Tape", "read", "()I"⟩, ⟨"TelegraphHouse$Tape", "hasNumber", "()Z"⟩, ⟨"TelegraphHouse$Tape", "takes", "(II)Z"⟩, ⟨"TelegraphHouse$Tape", "mayGrow", "()Z"⟩, ⟨"TelegraphHouse$Tape", "grow", "(I)Z"⟩],
  [⟨"TelegraphHouse$Tape", "sortOf", "(I)I"⟩, ⟨"TelegraphHouse$Tape", "bytesAheadOfZero", "(J)I"⟩, ⟨"TelegraphHouse$Tape", "byteOf", "(JI)I"⟩, ⟨"TelegraphHouse", "<init>", "()V"⟩, ⟨"TelegraphHouse", "feed", "(J)I"⟩, ⟨"TelegraphHouse", "cut", "(I)I"⟩, ⟨"TelegraphHouse", "message", "()I"⟩, ⟨"TelegraphHouse", "book", "(II)I"⟩, ⟨"TelegraphHouse", "phrase", "(I)I"⟩, ⟨"TelegraphHouse", "close", "(I)I"⟩, ⟨"TelegraphHouse", "groupOf", "(II)I"⟩, ⟨"TelegraphHouse", "sound", "(I)I"⟩, ⟨"TelegraphHouse", "distance", "(I)I"⟩, ⟨"TelegraphHouse", "about", "(II)I"⟩, ⟨"TelegraphHouse", "condense", "(II)I"⟩, ⟨"TelegraphHouse", "part", "(III)I"⟩],
  [⟨"TelegraphHouse", "group", "(II)I"⟩, ⟨"TelegraphHouse", "expands", "(I)I"⟩, ⟨"TelegraphHouse", "best", "(I)I"⟩, ⟨"TelegraphHouse", "guard", "(I)I"⟩, ⟨"TelegraphHouse", "sum", "(III)I"⟩, ⟨"TelegraphHouse", "hurt", "(IIII)I"⟩, ⟨"TelegraphHouse", "swap", "(III)I"⟩, ⟨"TelegraphHouse", "mend", "(I)I"⟩, ⟨"TelegraphHouse", "mended", "(II)I"⟩, ⟨"TelegraphHouse", "charge", "(IIZZZ)I"⟩, ⟨"TelegraphHouse", "station", "()I"⟩, ⟨"TelegraphHouse", "line", "(IIIII)I"⟩, ⟨"TelegraphHouse", "path", "(III)I"⟩, ⟨"TelegraphHouse", "far", "(II)I"⟩, ⟨"TelegraphHouse", "send", "(IIII)I"⟩, ⟨"TelegraphHouse", "step", "(I)I"⟩],
  [⟨"TelegraphHouse", "clock", "()I"⟩, ⟨"TelegraphHouse", "where", "(II)I"⟩, ⟨"TelegraphHouse", "queue", "(II)I"⟩, ⟨"TelegraphHouse", "lose", "(I)I"⟩, ⟨"TelegraphHouse", "ask", "(I)I"⟩, ⟨"TelegraphHouse", "ledger", "(II)I"⟩, ⟨"TelegraphHouse", "count", "(I)I"⟩, ⟨"TelegraphHouse", "bookAt", "(I)LTelegraphHouse$Book;"⟩, ⟨"TelegraphHouse", "messageAt", "(I)LTelegraphHouse$Message;"⟩, ⟨"TelegraphHouse", "within", "(III)Z"⟩, ⟨"TelegraphHouse", "isNumber", "(J)Z"⟩, ⟨"TelegraphHouse", "numberToken", "(J)J"⟩, ⟨"TelegraphHouse", "numberValue", "(J)I"⟩, ⟨"TelegraphHouse", "withLetter", "(JI)J"⟩, ⟨"TelegraphHouse", "lettersIn", "(J)I"⟩, ⟨"TelegraphHouse", "letterOf", "(JII)I"⟩],
  [⟨"TelegraphHouse", "digitsIn", "(I)I"⟩, ⟨"TelegraphHouse", "groupsFor", "(J)I"⟩, ⟨"TelegraphHouse", "chargedWords", "(J)I"⟩, ⟨"TelegraphHouseModel", "<init>", "()V"⟩, ⟨"TelegraphHouseModel", "in", "(JJJ)Z"⟩, ⟨"TelegraphHouseModel", "feed", "(J)I"⟩, ⟨"TelegraphHouseModel", "cut", "(I)I"⟩, ⟨"TelegraphHouseModel", "cutUp", "()I"⟩, ⟨"TelegraphHouseModel", "isMessage", "(I)Z"⟩, ⟨"TelegraphHouseModel", "message", "()I"⟩, ⟨"TelegraphHouseModel", "isBook", "(I)Z"⟩, ⟨"TelegraphHouseModel", "book", "(II)I"⟩, ⟨"TelegraphHouseModel", "fits", "(I[JII)Z"⟩, ⟨"TelegraphHouseModel", "phrase", "(I)I"⟩, ⟨"TelegraphHouseModel", "soundAt", "(I)I"⟩, ⟨"TelegraphHouseModel", "apart", "(II)Z"⟩],
  [⟨"TelegraphHouseModel", "close", "(I)I"⟩, ⟨"TelegraphHouseModel", "groupOf", "(II)I"⟩, ⟨"TelegraphHouseModel", "sound", "(I)I"⟩, ⟨"TelegraphHouseModel", "distance", "(I)I"⟩, ⟨"TelegraphHouseModel", "countOf", "(I)I"⟩, ⟨"TelegraphHouseModel", "about", "(II)I"⟩, ⟨"TelegraphHouseModel", "plainGroups", "(I)I"⟩, ⟨"TelegraphHouseModel", "choose", "(II)V"⟩, ⟨"TelegraphHouseModel", "add", "(IIIIII)V"⟩, ⟨"TelegraphHouseModel", "addNumber", "(IIJ)V"⟩, ⟨"TelegraphHouseModel", "letterOf", "(JII)I"⟩, ⟨"TelegraphHouseModel", "spell", "(IJI)V"⟩, ⟨"TelegraphHouseModel", "condense", "(II)I"⟩, ⟨"TelegraphHouseModel", "part", "(III)I"⟩, ⟨"TelegraphHouseModel", "isGroup", "(II)Z"⟩, ⟨"TelegraphHouseModel", "groupAt", "(II)I"⟩],
  [⟨"TelegraphHouseModel", "group", "(II)I"⟩, ⟨"TelegraphHouseModel", "digitsAt", "(I)I"⟩, ⟨"TelegraphHouseModel", "readNumber", "(II)V"⟩, ⟨"TelegraphHouseModel", "readWord", "(II)V"⟩, ⟨"TelegraphHouseModel", "readPhrase", "(II)V"⟩, ⟨"TelegraphHouseModel", "expands", "(I)I"⟩, ⟨"TelegraphHouseModel", "best", "(I)I"⟩, ⟨"TelegraphHouseModel", "placesOf", "(II)I"⟩, ⟨"TelegraphHouseModel", "sumOf", "(IIZ)I"⟩, ⟨"TelegraphHouseModel", "guard", "(I)I"⟩, ⟨"TelegraphHouseModel", "isBlock", "(II)Z"⟩, ⟨"TelegraphHouseModel", "sum", "(III)I"⟩, ⟨"TelegraphHouseModel", "hurt", "(IIII)I"⟩, ⟨"TelegraphHouseModel", "change", "(I)V"⟩, ⟨"TelegraphHouseModel", "swap", "(III)I"⟩, ⟨"TelegraphHouseModel", "mendBlock", "(II)I"⟩],
  [⟨"TelegraphHouseModel", "mend", "(I)I"⟩, ⟨"TelegraphHouseModel", "mended", "(II)I"⟩, ⟨"TelegraphHouseModel", "charge", "(IIZZZ)I"⟩, ⟨"TelegraphHouseModel", "isStation", "(I)Z"⟩, ⟨"TelegraphHouseModel", "station", "()I"⟩, ⟨"TelegraphHouseModel", "line", "(IIIII)I"⟩, ⟨"TelegraphHouseModel", "quickest", "(II)I"⟩, ⟨"TelegraphHouseModel", "goBack", "(I)V"⟩, ⟨"TelegraphHouseModel", "next", "(I)I"⟩, ⟨"TelegraphHouseModel", "path", "(III)I"⟩, ⟨"TelegraphHouseModel", "far", "(II)I"⟩, ⟨"TelegraphHouseModel", "begin", "(I)V"⟩, ⟨"TelegraphHouseModel", "send", "(IIII)I"⟩, ⟨"TelegraphHouseModel", "isOpen", "(I)Z"⟩, ⟨"TelegraphHouseModel", "arrive", "(I)I"⟩, ⟨"TelegraphHouseModel", "isAhead", "(II)Z"⟩],
  [⟨"TelegraphHouseModel", "depart", "(I)V"⟩, ⟨"TelegraphHouseModel", "step", "(I)I"⟩, ⟨"TelegraphHouseModel", "clock", "()I"⟩, ⟨"TelegraphHouseModel", "where", "(II)I"⟩, ⟨"TelegraphHouseModel", "queue", "(II)I"⟩, ⟨"TelegraphHouseModel", "lose", "(I)I"⟩, ⟨"TelegraphHouseModel", "ask", "(I)I"⟩, ⟨"TelegraphHouseModel", "ledger", "(II)I"⟩, ⟨"TelegraphHouseModel", "many", "(I)I"⟩, ⟨"TelegraphHouseModel", "count", "(I)I"⟩, ⟨"java/lang/Math", "floorMod", "(II)I"⟩, ⟨"java/lang/Math", "abs", "(I)I"⟩, ⟨"java/lang/Math", "max", "(II)I"⟩, ⟨"java/lang/Math", "min", "(II)I"⟩, ⟨"java/util/Arrays", "fill", "([II)V"⟩]]
def cL : List (List ByteArray) := [[prog_2_method_1_code, prog_2_method_2_code, prog_2_method_3_code, prog_2_method_4_code, prog_2_method_5_code, prog_2_method_6_code, prog_2_method_7_code, prog_2_method_8_code, prog_2_method_9_code, prog_2_method_10_code, prog_3_method_1_code, prog_3_method_2_code, prog_3_method_3_code, prog_3_method_4_code, prog_3_method_5_code, prog_3_method_6_code],
  [prog_4_method_1_code, prog_4_method_2_code, prog_4_method_3_code, prog_4_method_4_code, prog_4_method_5_code, prog_4_method_6_code, prog_4_method_7_code, prog_4_method_8_code, prog_4_method_9_code, prog_4_method_10_code, prog_4_method_11_code, prog_5_method_1_code, prog_5_method_2_code, prog_5_method_3_code, prog_5_method_4_code, prog_5_method_5_code],
  [prog_5_method_6_code, prog_5_method_7_code, prog_5_method_8_code, prog_5_method_9_code, prog_5_method_10_code, prog_5_method_11_code, prog_5_method_12_code, prog_5_method_13_code, prog_5_method_14_code, prog_5_method_15_code, prog_5_method_16_code, prog_5_method_17_code, prog_5_method_18_code, prog_5_method_19_code, prog_5_method_20_code, prog_5_method_21_code],
  [prog_5_method_22_code, prog_5_method_23_code, prog_5_method_24_code, prog_6_method_1_code, prog_6_method_2_code, prog_6_method_3_code, prog_7_method_1_code, prog_7_method_2_code, prog_7_method_3_code, prog_7_method_4_code, prog_7_method_5_code, prog_8_method_1_code, prog_8_method_2_code, prog_9_method_1_code, prog_9_method_2_code, prog_9_method_3_code],
  [prog_9_method_4_code, prog_9_method_5_code, prog_9_method_6_code, prog_9_method_7_code, prog_9_method_8_code, prog_9_method_9_code, prog_9_method_10_code, prog_9_method_11_code, prog_9_method_12_code, prog_9_method_13_code, prog_9_method_14_code, prog_9_method_15_code, prog_9_method_16_code, prog_9_method_17_code, prog_9_method_18_code, prog_9_method_19_code],
  [prog_9_method_20_code, prog_9_method_21_code, prog_9_method_22_code, prog_9_method_23_code, prog_9_method_24_code, prog_9_method_25_code, prog_9_method_26_code, prog_9_method_27_code, prog_9_method_28_code, prog_9_method_29_code, prog_9_method_30_code, prog_9_method_31_code, prog_9_method_32_code, prog_10_method_1_code, prog_10_method_2_code, prog_10_method_3_code],
  [prog_10_method_4_code, prog_10_method_5_code, prog_10_method_6_code, prog_11_method_1_code, prog_11_method_2_code, prog_11_method_3_code, prog_11_method_4_code, prog_12_method_1_code, prog_12_method_2_code, prog_12_method_3_code, prog_12_method_4_code, prog_12_method_5_code, prog_12_method_6_code, prog_12_method_7_code, prog_12_method_8_code, prog_12_method_9_code],
  [prog_12_method_10_code, prog_12_method_11_code, prog_12_method_12_code, prog_1_method_1_code, prog_1_method_2_code, prog_1_method_3_code, prog_1_method_4_code, prog_1_method_5_code, prog_1_method_6_code, prog_1_method_7_code, prog_1_method_8_code, prog_1_method_9_code, prog_1_method_10_code, prog_1_method_11_code, prog_1_method_12_code, prog_1_method_13_code],
  [prog_1_method_14_code, prog_1_method_15_code, prog_1_method_16_code, prog_1_method_17_code, prog_1_method_18_code, prog_1_method_19_code, prog_1_method_20_code, prog_1_method_21_code, prog_1_method_22_code, prog_1_method_23_code, prog_1_method_24_code, prog_1_method_25_code, prog_1_method_26_code, prog_1_method_27_code, prog_1_method_28_code, prog_1_method_29_code],
  [prog_1_method_30_code, prog_1_method_31_code, prog_1_method_32_code, prog_1_method_33_code, prog_1_method_34_code, prog_1_method_35_code, prog_1_method_36_code, prog_1_method_37_code, prog_1_method_38_code, prog_1_method_39_code, prog_1_method_40_code, prog_1_method_41_code, prog_1_method_42_code, prog_1_method_43_code, prog_1_method_44_code, prog_1_method_45_code],
  [prog_1_method_46_code, prog_1_method_47_code, prog_1_method_48_code, prog_14_method_1_code, prog_14_method_3_code, prog_14_method_4_code, prog_14_method_5_code, prog_14_method_6_code, prog_14_method_7_code, prog_14_method_8_code, prog_14_method_9_code, prog_14_method_10_code, prog_14_method_11_code, prog_14_method_12_code, prog_14_method_13_code, prog_14_method_14_code],
  [prog_14_method_15_code, prog_14_method_16_code, prog_14_method_17_code, prog_14_method_18_code, prog_14_method_19_code, prog_14_method_20_code, prog_14_method_21_code, prog_14_method_22_code, prog_14_method_23_code, prog_14_method_24_code, prog_14_method_25_code, prog_14_method_26_code, prog_14_method_27_code, prog_14_method_28_code, prog_14_method_29_code, prog_14_method_30_code],
  [prog_14_method_31_code, prog_14_method_32_code, prog_14_method_33_code, prog_14_method_34_code, prog_14_method_35_code, prog_14_method_36_code, prog_14_method_37_code, prog_14_method_38_code, prog_14_method_39_code, prog_14_method_40_code, prog_14_method_41_code, prog_14_method_42_code, prog_14_method_43_code, prog_14_method_44_code, prog_14_method_45_code, prog_14_method_46_code],
  [prog_14_method_47_code, prog_14_method_48_code, prog_14_method_49_code, prog_14_method_50_code, prog_14_method_51_code, prog_14_method_52_code, prog_14_method_53_code, prog_14_method_54_code, prog_14_method_55_code, prog_14_method_56_code, prog_14_method_57_code, prog_14_method_58_code, prog_14_method_59_code, prog_14_method_60_code, prog_14_method_61_code, prog_14_method_62_code],
  [prog_14_method_63_code, prog_14_method_64_code, prog_14_method_65_code, prog_14_method_66_code, prog_14_method_67_code, prog_14_method_68_code, prog_14_method_69_code, prog_14_method_70_code, prog_14_method_71_code, prog_14_method_72_code, prog_15_method_50_code, prog_15_method_59_code, prog_15_method_65_code, prog_15_method_69_code, prog_17_method_103_code]]
def lL : List (List Nat) := [[3, 2, 3, 4, 4, 7, 3, 3, 4, 6, 1, 6, 5, 5, 7, 3],
  [1, 4, 3, 4, 5, 3, 8, 5, 7, 5, 9, 1, 2, 2, 2, 4],
  [6, 4, 4, 4, 2, 5, 7, 2, 2, 2, 3, 4, 5, 5, 3, 4],
  [6, 5, 9, 1, 2, 2, 6, 2, 2, 2, 2, 4, 3, 1, 1, 6],
  [1, 2, 3, 4, 2, 2, 3, 5, 4, 7, 8, 5, 2, 1, 6, 5],
  [5, 3, 3, 5, 6, 4, 2, 2, 7, 6, 4, 5, 6, 1, 2, 3],
  [2, 2, 2, 1, 3, 8, 2, 1, 5, 3, 1, 3, 2, 3, 1, 3],
  [1, 3, 3, 1, 3, 2, 2, 3, 4, 3, 4, 2, 3, 4, 5, 5],
  [4, 4, 8, 3, 5, 6, 7, 3, 4, 8, 1, 6, 4, 3, 6, 4],
  [1, 4, 3, 3, 2, 3, 2, 2, 2, 3, 2, 2, 2, 3, 3, 4],
  [3, 2, 2, 1, 6, 5, 3, 10, 2, 4, 2, 3, 7, 7, 10, 2],
  [3, 3, 2, 9, 4, 3, 2, 11, 8, 6, 7, 7, 9, 5, 3, 5],
  [3, 5, 8, 7, 5, 11, 5, 4, 6, 3, 3, 4, 6, 3, 6, 10],
  [5, 3, 9, 2, 1, 6, 6, 7, 4, 6, 3, 5, 5, 3, 4, 3],
  [6, 5, 1, 3, 6, 2, 4, 3, 4, 2, 3, 1, 2, 2, 4]]
def rL : List (List (Option FieldType)) := [[none, (some .boolean), (some .long), none, (some .boolean), (some .boolean), none, (some .int), (some .int), (some .int), none, (some .int), none, (some .boolean), none, none],
  [none, (some .int), (some .boolean), none, (some .boolean), (some .boolean), (some .boolean), (some .int), (some .boolean), (some .boolean), (some .long), none, none, (some .boolean), (some .boolean), (some .int)],
  [(some .int), (some .int), none, none, none, none, none, (some .int), none, (some .int), (some .int), none, (some .int), (some .int), (some .int), (some .int)],
  [(some .int), (some .int), (some .int), none, (some .boolean), (some .boolean), none, (some .boolean), (some .int), (some .int), (some .int), none, (some .int), none, (some .int), (some .int)],
  [none, (some .boolean), (some .int), none, (some (.object "TelegraphHouse$Line")), (some (.object "TelegraphHouse$Journey")), (some .boolean), (some .int), (some .int), (some .boolean), none, (some .boolean), (some .int), (some .int), (some .int), (some .boolean)],
  [(some .int), none, none, (some .int), (some .int), (some .int), none, none, none, (some .int), (some .boolean), (some .int), (some .int), none, none, none],
  [(some .int), (some .int), none, none, (some .int), (some .int), (some .boolean), none, (some .int), (some .int), none, (some .int), (some .boolean), (some .boolean), (some .boolean), (some .boolean)],
  [(some .int), (some .int), (some .int), none, (some .int), (some .int), (some .int), (some .int), (some .int), (some .int), (some .int), (some .int), (some .int), (some .int), (some .int), (some .int)],
  [(some .int), (some .int), (some .int), (some .int), (some .int), (some .int), (some .int), (some .int), (some .int), (some .int), (some .int), (some .int), (some .int), (some .int), (some .int), (some .int)],
  [(some .int), (some .int), (some .int), (some .int), (some .int), (some .int), (some .int), (some (.object "TelegraphHouse$Book")), (some (.object "TelegraphHouse$Message")), (some .boolean), (some .boolean), (some .long), (some .int), (some .long), (some .int), (some .int)],
  [(some .int), (some .int), (some .int), none, (some .boolean), (some .int), (some .int), (some .int), (some .boolean), (some .int), (some .boolean), (some .int), (some .boolean), (some .int), (some .int), (some .boolean)],
  [(some .int), (some .int), (some .int), (some .int), (some .int), (some .int), (some .int), none, none, none, (some .int), none, (some .int), (some .int), (some .boolean), (some .int)],
  [(some .int), (some .int), none, none, none, (some .int), (some .int), (some .int), (some .int), (some .int), (some .boolean), (some .int), (some .int), none, (some .int), (some .int)],
  [(some .int), (some .int), (some .int), (some .boolean), (some .int), (some .int), (some .int), none, (some .int), (some .int), (some .int), none, (some .int), (some .boolean), (some .int), (some .boolean)],
  [none, (some .int), (some .int), (some .int), (some .int), (some .int), (some .int), (some .int), (some .int), (some .int), (some .int), (some .int), (some .int), (some .int), none]]
def oL : List (List Nat) := [[0, 0, 0, 0, 0, 0, 0, 0, 0, 0, 1, 1, 1, 1, 1, 1],
  [2, 2, 2, 2, 2, 2, 2, 2, 2, 2, 2, 3, 3, 3, 3, 3],
  [3, 3, 3, 3, 3, 3, 3, 3, 3, 3, 3, 3, 3, 3, 3, 3],
  [3, 3, 3, 4, 4, 4, 5, 5, 5, 5, 5, 6, 6, 7, 7, 7],
  [7, 7, 7, 7, 7, 7, 7, 7, 7, 7, 7, 7, 7, 7, 7, 7],
  [7, 7, 7, 7, 7, 7, 7, 7, 7, 7, 7, 7, 7, 8, 8, 8],
  [8, 8, 8, 9, 9, 9, 9, 10, 10, 10, 10, 10, 10, 10, 10, 10],
  [10, 10, 10, 11, 11, 11, 11, 11, 11, 11, 11, 11, 11, 11, 11, 11],
  [11, 11, 11, 11, 11, 11, 11, 11, 11, 11, 11, 11, 11, 11, 11, 11],
  [11, 11, 11, 11, 11, 11, 11, 11, 11, 11, 11, 11, 11, 11, 11, 11],
  [11, 11, 11, 12, 12, 12, 12, 12, 12, 12, 12, 12, 12, 12, 12, 12],
  [12, 12, 12, 12, 12, 12, 12, 12, 12, 12, 12, 12, 12, 12, 12, 12],
  [12, 12, 12, 12, 12, 12, 12, 12, 12, 12, 12, 12, 12, 12, 12, 12],
  [12, 12, 12, 12, 12, 12, 12, 12, 12, 12, 12, 12, 12, 12, 12, 12],
  [12, 12, 12, 12, 12, 12, 12, 12, 12, 12, 14, 14, 14, 14, 15]]
def roomL : List (List (Nat × Nat × Nat × Nat)) := [[(1, 3, 180, 20), (1, 0, 0, 22), (0, 0, 0, 0), (0, 0, 0, 0), (2, 0, 0, 48), (1, 0, 0, 22), (4, 0, 0, 91), (0, 0, 0, 0), (1, 0, 0, 25), (0, 0, 0, 0), (1, 4, 84, 20), (2, 0, 0, 48), (0, 0, 0, 0), (0, 0, 0, 0), (4, 0, 0, 92), (3, 0, 0, 70)],
  [(1, 0, 0, 20), (4, 0, 0, 99), (3, 0, 0, 77), (0, 0, 0, 0), (2, 0, 0, 46), (2, 0, 0, 47), (2, 0, 0, 47), (1, 0, 0, 23), (2, 0, 0, 51), (1, 0, 0, 23), (1, 0, 0, 23), (1, 7, 490, 20), (0, 0, 0, 0), (1, 0, 0, 22), (1, 0, 0, 22), (0, 0, 0, 0)],
  [(0, 0, 0, 0), (1, 0, 0, 23), (0, 0, 0, 0), (1, 0, 0, 25), (2, 0, 0, 49), (1, 0, 0, 25), (1, 0, 0, 25), (0, 0, 0, 0), (3, 0, 0, 69), (1, 0, 0, 21), (1, 0, 0, 23), (1, 0, 0, 25), (2, 0, 0, 45), (2, 0, 0, 45), (5, 0, 0, 120), (4, 0, 0, 97)],
  [(3, 0, 0, 72), (2, 0, 0, 48), (2, 0, 0, 48), (2, 3, 19, 40), (0, 0, 0, 0), (0, 0, 0, 0), (1, 3, 6, 20), (0, 0, 0, 0), (0, 0, 0, 0), (0, 0, 0, 0), (0, 0, 0, 0), (2, 9, 521, 40), (2, 0, 0, 43), (2, 7, 101, 40), (0, 0, 0, 0), (2, 4, 15, 45)],
  [(3, 4, 29, 60), (0, 0, 0, 0), (1, 0, 0, 22), (1, 0, 0, 22), (1, 0, 0, 22), (1, 0, 0, 22), (2, 0, 0, 43), (2, 0, 0, 43), (4, 0, 0, 93), (4, 0, 0, 93), (3, 0, 0, 66), (2, 0, 0, 42), (1, 0, 0, 21), (0, 0, 0, 0), (3, 0, 0, 66), (2, 0, 0, 42)],
  [(4, 0, 0, 87), (3, 0, 0, 65), (2, 0, 0, 43), (5, 0, 0, 119), (5, 0, 0, 117), (3, 0, 0, 66), (0, 0, 0, 0), (2, 0, 0, 45), (4, 0, 0, 91), (3, 0, 0, 66), (2, 0, 0, 43), (3, 0, 0, 68), (2, 0, 0, 43), (1, 2, 16, 20), (0, 0, 0, 0), (0, 0, 0, 0)],
  [(1, 0, 0, 22), (1, 0, 0, 22), (1, 0, 0, 30), (1, 1, 10000, 20), (3, 0, 0, 69), (2, 0, 0, 42), (1, 0, 0, 21), (1, 2, 320, 20), (2, 0, 0, 44), (1, 0, 0, 22), (0, 0, 0, 0), (3, 0, 0, 66), (1, 0, 0, 21), (2, 0, 0, 44), (0, 0, 0, 0), (1, 0, 0, 22)],
  [(0, 0, 0, 0), (1, 0, 0, 22), (0, 0, 0, 0), (3, 21, 10566, 60), (3, 0, 0, 68), (2, 0, 0, 44), (4, 14, 553, 88), (2, 4, 187, 42), (4, 0, 0, 88), (5, 0, 0, 113), (2, 0, 0, 43), (4, 0, 0, 91), (2, 0, 0, 48), (3, 0, 0, 65), (5, 0, 0, 118), (2, 0, 0, 43)],
  [(2, 0, 0, 46), (5, 0, 0, 122), (3, 0, 0, 73), (4, 0, 0, 90), (2, 0, 0, 43), (2, 0, 0, 43), (2, 0, 0, 43), (6, 0, 0, 142), (2, 0, 0, 43), (3, 0, 0, 65), (1, 0, 0, 20), (3, 4, 15, 70), (5, 0, 0, 119), (5, 0, 0, 116), (5, 0, 0, 119), (6, 0, 0, 142)],
  [(0, 0, 0, 0), (2, 0, 0, 43), (4, 0, 0, 92), (2, 0, 0, 43), (6, 0, 0, 143), (2, 0, 0, 44), (3, 0, 0, 67), (1, 0, 0, 22), (1, 0, 0, 22), (0, 0, 0, 0), (0, 0, 0, 0), (0, 0, 0, 0), (0, 0, 0, 0), (0, 0, 0, 0), (0, 0, 0, 0), (0, 0, 0, 0)],
  [(0, 0, 0, 0), (1, 0, 0, 22), (1, 0, 0, 22), (1, 56, 28000, 20), (0, 0, 0, 0), (0, 0, 0, 0), (1, 0, 0, 25), (0, 0, 0, 0), (1, 0, 0, 25), (1, 0, 0, 29), (1, 0, 0, 25), (1, 0, 0, 25), (0, 0, 0, 0), (2, 0, 0, 46), (1, 0, 0, 21), (0, 0, 0, 0)],
  [(2, 0, 0, 50), (2, 0, 0, 46), (2, 0, 0, 50), (2, 0, 0, 46), (0, 0, 0, 0), (2, 0, 0, 46), (0, 0, 0, 0), (1, 0, 0, 26), (0, 0, 0, 0), (1, 0, 0, 27), (0, 0, 0, 0), (1, 0, 0, 27), (2, 0, 0, 56), (2, 0, 0, 46), (2, 0, 0, 46), (0, 0, 0, 0)],
  [(3, 0, 0, 68), (0, 0, 0, 0), (1, 0, 0, 24), (1, 0, 0, 25), (1, 0, 0, 24), (2, 0, 0, 51), (2, 0, 0, 56), (0, 0, 0, 0), (1, 0, 0, 23), (2, 0, 0, 48), (2, 0, 0, 46), (3, 0, 0, 68), (3, 0, 0, 68), (0, 0, 0, 0), (3, 0, 0, 68), (2, 0, 0, 48)],
  [(3, 0, 0, 77), (3, 0, 0, 68), (2, 0, 0, 46), (1, 0, 0, 25), (0, 0, 0, 0), (2, 0, 0, 46), (0, 0, 0, 0), (1, 0, 0, 25), (1, 0, 0, 25), (2, 0, 0, 51), (2, 0, 0, 51), (2, 0, 0, 51), (3, 0, 0, 75), (1, 0, 0, 25), (0, 0, 0, 0), (0, 0, 0, 0)],
  [(2, 0, 0, 47), (3, 0, 0, 72), (0, 0, 0, 0), (2, 0, 0, 46), (2, 0, 0, 46), (1, 0, 0, 25), (3, 0, 0, 75), (2, 0, 0, 46), (0, 0, 0, 0), (1, 0, 0, 23), (0, 0, 0, 0), (0, 0, 0, 0), (0, 0, 0, 0), (0, 0, 0, 0), (0, 0, 0, 0)]]
def yM (i : Nat) : MethodName := g2 yL i ⟨"", "", ""⟩
def cM (i : Nat) : ByteArray := g2 cL i code
def lM (i : Nat) : Nat := g2 lL i 4
def rM (i : Nat) : Option FieldType := g2 rL i (some .boolean)
def oM (i : Nat) : Nat := g2 oL i 13
def rmM (i : Nat) : Room := if i < 239 then { frames := (g2 roomL i (0, 0, 0, 0)).1, cells := (g2 roomL i (0, 0, 0, 0)).2.1, slots := (g2 roomL i (0, 0, 0, 0)).2.2.1, locals := (g2 roomL i (0, 0, 0, 0)).2.2.2 } else room_1
def wsM (i : Nat) : List Cond := Cond.code (yM i) (cM i) (lM i) (rM i) :: T0
/-- field links: kind of the code, index, kind of the object, field, place of the word -/
def fT : List (Nat × Nat × Nat × Nat × Nat) := [(10, 9, 10, 0, 103), (10, 23, 10, 1, 104), (11, 304, 10, 1, 105), (10, 15, 10, 2, 106), (11, 72, 10, 2, 107), (11, 76, 10, 3, 108), (10, 35, 10, 3, 109), (10, 38, 10, 4, 110), (10, 61, 10, 5, 111), (10, 64, 10, 6, 112), (9, 9, 9, 0, 136), (9, 15, 9, 1, 137), (9, 19, 9, 2, 138), (1, 9, 1, 0, 156), (1, 15, 1, 1, 157), (1, 18, 1, 2, 158), (1, 21, 1, 3, 159), (2, 9, 2, 0, 175), (2, 15, 2, 1, 176), (2, 18, 2, 2, 177), (8, 9, 8, 0, 201), (8, 15, 8, 1, 202), (8, 18, 8, 2, 203), (7, 168, 8, 2, 204), (7, 37, 7, 0, 212), (11, 298, 7, 0, 213), (7, 11, 7, 1, 214), (7, 17, 7, 2, 215), (7, 41, 7, 3, 216), (11, 301, 7, 3, 217), (7, 23, 7, 4, 218), (7, 47, 7, 5, 219), (7, 27, 7, 6, 220), (7, 33, 7, 7, 221), (11, 241, 7, 7, 222), (7, 179, 7, 8, 223), (11, 256, 7, 8, 224), (7, 125, 7, 9, 225), (7, 132, 7, 10, 226), (11, 12, 11, 0, 250), (11, 19, 11, 1, 251), (11, 25, 11, 2, 252), (11, 92, 11, 3, 253), (11, 31, 11, 4, 254), (11, 64, 11, 5, 255), (11, 38, 11, 6, 256), (11, 45, 11, 7, 257), (11, 52, 11, 8, 258), (3, 9, 3, 0, 346), (6, 32, 3, 1, 347), (3, 37, 3, 1, 348), (2, 28, 3, 1, 349), (11, 150, 3, 1, 350), (3, 15, 3, 2, 351), (11, 155, 3, 2, 352), (3, 19, 3, 3, 353), (11, 175, 3, 3, 354), (3, 22, 3, 4, 355), (11, 178, 3, 4, 356), (3, 25, 3, 5, 357), (11, 181, 3, 5, 358), (3, 40, 3, 6, 359), (11, 158, 3, 6, 360), (3, 28, 3, 7, 361), (11, 199, 3, 7, 362), (3, 31, 3, 8, 363), (11, 202, 3, 8, 364), (3, 34, 3, 9, 365), (11, 216, 3, 9, 366), (3, 43, 3, 10, 367), (11, 161, 3, 10, 368), (6, 9, 6, 0, 395), (1, 30, 6, 0, 396), (2, 57, 6, 0, 397), (6, 28, 6, 1, 398), (1, 24, 6, 1, 399), (2, 37, 6, 1, 400), (11, 142, 6, 1, 401), (6, 18, 6, 2, 402), (2, 22, 6, 2, 403), (1, 58, 6, 2, 404), (11, 146, 6, 2, 405), (4, 12, 4, 0, 424), (7, 138, 4, 0, 425), (7, 143, 4, 1, 426), (4, 18, 4, 2, 427), (7, 63, 4, 2, 428), (11, 266, 4, 2, 429), (4, 22, 4, 3, 430), (7, 156, 4, 3, 431), (11, 271, 4, 3, 432), (4, 25, 4, 4, 433), (7, 208, 4, 4, 434), (11, 274, 4, 4, 435), (7, 205, 4, 5, 436), (11, 277, 4, 5, 437), (7, 195, 4, 6, 438), (4, 28, 4, 7, 439), (7, 119, 4, 7, 440), (4, 31, 4, 8, 441), (7, 135, 4, 8, 442), (7, 122, 4, 9, 443), (0, 22, 0, 0, 479), (0, 26, 0, 1, 480), (0, 9, 0, 2, 481), (0, 15, 0, 3, 482), (1, 51, 0, 3, 483), (2, 74, 0, 3, 484), (0, 19, 0, 4, 485), (1, 76, 0, 4, 486), (11, 128, 0, 4, 487), (0, 29, 0, 5, 488), (1, 42, 0, 5, 489), (11, 114, 0, 5, 490), (11, 106, 0, 6, 491), (0, 50, 0, 6, 492), (5, 21, 5, 0, 885), (7, 98, 5, 0, 886), (5, 25, 5, 1, 887), (7, 101, 5, 1, 888), (5, 28, 5, 2, 889), (7, 112, 5, 2, 890), (5, 31, 5, 3, 891), (5, 34, 5, 4, 892), (5, 11, 5, 5, 893), (7, 162, 5, 5, 894), (5, 15, 5, 6, 895), (7, 189, 5, 6, 896), (5, 18, 5, 7, 897), (7, 192, 5, 7, 898), (7, 218, 5, 8, 899), (11, 287, 5, 8, 900), (12, 7, 12, 0, 1126), (12, 183, 12, 1, 1127), (12, 191, 12, 2, 1128), (12, 13, 12, 3, 1129), (12, 17, 12, 4, 1130), (12, 204, 12, 5, 1131), (12, 21, 12, 6, 1132), (12, 24, 12, 7, 1133), (12, 27, 12, 8, 1134), (12, 30, 12, 9, 1135), (12, 33, 12, 10, 1136), (12, 36, 12, 11, 1137), (12, 39, 12, 12, 1138), (12, 42, 12, 13, 1139), (12, 45, 12, 14, 1140), (12, 48, 12, 15, 1141), (12, 51, 12, 16, 1142), (12, 54, 12, 17, 1143), (12, 57, 12, 18, 1144), (12, 60, 12, 19, 1145), (12, 211, 12, 20, 1146), (12, 63, 12, 21, 1147), (12, 66, 12, 22, 1148), (12, 69, 12, 23, 1149), (12, 73, 12, 24, 1150), (12, 76, 12, 25, 1151), (12, 79, 12, 26, 1152), (12, 82, 12, 27, 1153), (12, 85, 12, 28, 1154), (12, 226, 12, 29, 1155), (12, 88, 12, 30, 1156), (12, 91, 12, 31, 1157), (12, 94, 12, 32, 1158), (12, 97, 12, 33, 1159), (12, 281, 12, 34, 1160), (12, 292, 12, 35, 1161), (12, 285, 12, 36, 1162), (12, 327, 12, 37, 1163), (12, 337, 12, 38, 1164), (12, 100, 12, 39, 1165), (12, 103, 12, 40, 1166), (12, 106, 12, 41, 1167), (12, 109, 12, 42, 1168), (12, 112, 12, 43, 1169), (12, 115, 12, 44, 1170), (12, 118, 12, 45, 1171), (12, 121, 12, 46, 1172), (12, 124, 12, 47, 1173), (12, 360, 12, 48, 1174), (12, 127, 12, 49, 1175), (12, 130, 12, 50, 1176), (12, 133, 12, 51, 1177), (12, 136, 12, 52, 1178), (12, 139, 12, 53, 1179), (12, 142, 12, 54, 1180), (12, 145, 12, 55, 1181), (12, 148, 12, 56, 1182), (12, 151, 12, 57, 1183), (12, 154, 12, 58, 1184), (12, 157, 12, 59, 1185), (12, 160, 12, 60, 1186), (12, 357, 12, 61, 1187), (12, 350, 12, 62, 1188), (12, 163, 12, 63, 1189), (12, 166, 12, 64, 1190), (12, 169, 12, 65, 1191), (12, 172, 12, 66, 1192), (12, 175, 12, 67, 1193), (12, 178, 12, 68, 1194)]
def TXf (i : Nat) : u_T := (vwCl.getD i (RX0, TX0, 7)).2.1
def fOk (q : Nat × Nat × Nat × Nat × Nat) : Bool := wAt q.2.2.2.2 (.fieldLink (clN q.1) q.2.1 (clN q.2.2.1) ((TXf q.2.2.1) q.2.2.2.1).2.1 ((TXf q.2.2.1) q.2.2.2.1).2.2.1) && decide (q.2.2.2.1 < (vwCl.getD q.2.2.1 (RX0, TX0, 7)).2.2) && decide (q.2.2.1 < 13) && decide (((TXf q.2.2.1) q.2.2.2.1).1 = clN q.2.2.1)
set_option maxRecDepth 100000 in
theorem fT_ok : fT.all fOk = true := by decide +kernel
def nestL : List (String × Nat × MethodName × String) := [("TelegraphHouse", 11, ⟨"TelegraphHouse$Tape", "<init>", "()V"⟩, "TelegraphHouse"), ("TelegraphHouse", 18, ⟨"TelegraphHouse$SoundGroups", "<init>", "()V"⟩, "TelegraphHouse"), ("TelegraphHouse", 37, ⟨"TelegraphHouse$Condenser", "<init>", "()V"⟩, "TelegraphHouse"), ("TelegraphHouse", 44, ⟨"TelegraphHouse$Expander", "<init>", "()V"⟩, "TelegraphHouse"), ("TelegraphHouse", 51, ⟨"TelegraphHouse$Net", "<init>", "()V"⟩, "TelegraphHouse"), ("TelegraphHouse$Net", 32, ⟨"TelegraphHouse$Route", "<init>", "()V"⟩, "TelegraphHouse"), ("TelegraphHouse$Tape", 31, ⟨"TelegraphHouse", "within", "(III)Z"⟩, "TelegraphHouse"), ("TelegraphHouse$Tape", 68, ⟨"TelegraphHouse", "withLetter", "(JI)J"⟩, "TelegraphHouse"), ("TelegraphHouse$Tape", 74, ⟨"TelegraphHouse", "numberToken", "(J)J"⟩, "TelegraphHouse"), ("TelegraphHouse$Message", 17, ⟨"TelegraphHouse$Form", "<init>", "()V"⟩, "TelegraphHouse"), ("TelegraphHouse$Net", 50, ⟨"TelegraphHouse$Journey", "<init>", "()V"⟩, "TelegraphHouse"), ("TelegraphHouse$Journey", 11, ⟨"TelegraphHouse$Route", "<init>", "()V"⟩, "TelegraphHouse"), ("TelegraphHouse$Tape", 49, ⟨"TelegraphHouse", "isNumber", "(J)Z"⟩, "TelegraphHouse"), ("TelegraphHouse$Book", 32, ⟨"TelegraphHouse", "within", "(III)Z"⟩, "TelegraphHouse"), ("TelegraphHouse$Message", 35, ⟨"TelegraphHouse", "chargedWords", "(J)I"⟩, "TelegraphHouse"), ("TelegraphHouse$Net", 55, ⟨"TelegraphHouse", "within", "(III)Z"⟩, "TelegraphHouse"), ("TelegraphHouse$Condenser", 34, ⟨"TelegraphHouse", "groupsFor", "(J)I"⟩, "TelegraphHouse"), ("TelegraphHouse$Condenser", 84, ⟨"TelegraphHouse", "isNumber", "(J)Z"⟩, "TelegraphHouse"), ("TelegraphHouse$Condenser", 88, ⟨"TelegraphHouse", "numberValue", "(J)I"⟩, "TelegraphHouse"), ("TelegraphHouse$Form", 63, ⟨"TelegraphHouse", "lettersIn", "(J)I"⟩, "TelegraphHouse"), ("TelegraphHouse$Form", 70, ⟨"TelegraphHouse", "letterOf", "(JII)I"⟩, "TelegraphHouse"), ("TelegraphHouse$Form", 46, ⟨"TelegraphHouse", "within", "(III)Z"⟩, "TelegraphHouse"), ("TelegraphHouse$Expander", 90, ⟨"TelegraphHouse", "numberToken", "(J)J"⟩, "TelegraphHouse"), ("TelegraphHouse$Expander", 101, ⟨"TelegraphHouse", "within", "(III)Z"⟩, "TelegraphHouse"), ("TelegraphHouse$Expander", 116, ⟨"TelegraphHouse", "withLetter", "(JI)J"⟩, "TelegraphHouse"), ("TelegraphHouse$Route", 22, ⟨"TelegraphHouse", "within", "(III)Z"⟩, "TelegraphHouse")]
def kT : List (Nat × Nat × Nat × Nat × Nat × Nat) := [(13, 7, 11, 89, 90, 73), (11, 9, 10, 97, 98, 74), (11, 16, 9, 130, 131, 75), (11, 23, 0, 146, 474, 85), (11, 29, 6, 148, 335, 81), (11, 35, 1, 150, 151, 76), (11, 42, 2, 169, 170, 77), (11, 49, 7, 185, 186, 78), (7, 15, 5, 191, 880, 86), (7, 21, 4, 193, 417, 84), (7, 30, 8, 195, 196, 79), (6, 15, 3, 340, 341, 82), (4, 9, 8, 422, 196, 79), (13, 10, 12, 1120, 1121, 80)]
def kOk (q : Nat × Nat × Nat × Nat × Nat × Nat) : Bool := wAt q.2.2.2.1 (.classLink (clN q.1) q.2.1 (clN q.2.2.1)) && wAt q.2.2.2.2.1 (.instantiable (clN q.2.2.1) (vwCl.getD q.2.2.1 (RX0, TX0, 7)).2.2) && wAt q.2.2.2.2.2 (.initialized (clN q.2.2.1)) && decide (q.2.2.1 < 13)
set_option maxRecDepth 100000 in
theorem kT_ok : kT.all kOk = true := by decide +kernel
