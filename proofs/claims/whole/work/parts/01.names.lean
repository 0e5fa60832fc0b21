-- ===== PART A: goes FIRST, ahead of the names: the tables' words, and 'selects' of the private methods out of them =====
/-- a private method of a class that the tables say can be made, by its rows of tables_1 -/
def lw_okq (q : MethodName × Nat) : Prop := (q.1.cls ≠ "java/lang/invoke/MethodHandle" ∧ q.1.cls ≠ "java/lang/invoke/VarHandle") ∧ Cond.instantiable q.1.cls q.2 ∈ tables_1 ∧ Cond.privateMethod q.1 ∈ tables_1 ∧ Cond.instanceMethod q.1 ∈ tables_1
theorem lw_p0 : lw_okq (⟨"SlateShop$Rows", "fits", "(III)Z"⟩, 4) := ⟨⟨by decide +kernel, by decide +kernel⟩, List.mem_of_getElem? (i := 22) (by decide +kernel), List.mem_of_getElem? (i := 195) (by decide +kernel), List.mem_of_getElem? (i := 196) (by decide +kernel)⟩
theorem lw_p1 : lw_okq (⟨"SlateShop$Tape", "readToken", "(LSlateShop$Book;)I"⟩, 5) := ⟨⟨by decide +kernel, by decide +kernel⟩, List.mem_of_getElem? (i := 46) (by decide +kernel), List.mem_of_getElem? (i := 242) (by decide +kernel), List.mem_of_getElem? (i := 243) (by decide +kernel)⟩
theorem lw_p2 : lw_okq (⟨"SlateShop$Tape", "readLetter", "(LSlateShop$Book;)I"⟩, 5) := ⟨⟨by decide +kernel, by decide +kernel⟩, List.mem_of_getElem? (i := 46) (by decide +kernel), List.mem_of_getElem? (i := 246) (by decide +kernel), List.mem_of_getElem? (i := 247) (by decide +kernel)⟩
theorem lw_p3 : lw_okq (⟨"SlateShop$Tape", "readSign", "(C)I"⟩, 5) := ⟨⟨by decide +kernel, by decide +kernel⟩, List.mem_of_getElem? (i := 46) (by decide +kernel), List.mem_of_getElem? (i := 250) (by decide +kernel), List.mem_of_getElem? (i := 251) (by decide +kernel)⟩
theorem lw_p4 : lw_okq (⟨"SlateShop$Tape", "readNumber", "(LSlateShop$Book;)I"⟩, 5) := ⟨⟨by decide +kernel, by decide +kernel⟩, List.mem_of_getElem? (i := 46) (by decide +kernel), List.mem_of_getElem? (i := 257) (by decide +kernel), List.mem_of_getElem? (i := 258) (by decide +kernel)⟩
theorem lw_p5 : lw_okq (⟨"SlateShop$Tape", "leastTold", "()I"⟩, 5) := ⟨⟨by decide +kernel, by decide +kernel⟩, List.mem_of_getElem? (i := 46) (by decide +kernel), List.mem_of_getElem? (i := 264) (by decide +kernel), List.mem_of_getElem? (i := 265) (by decide +kernel)⟩
theorem lw_p6 : lw_okq (⟨"SlateShop$Tape", "mostTold", "()I"⟩, 5) := ⟨⟨by decide +kernel, by decide +kernel⟩, List.mem_of_getElem? (i := 46) (by decide +kernel), List.mem_of_getElem? (i := 268) (by decide +kernel), List.mem_of_getElem? (i := 269) (by decide +kernel)⟩
theorem lw_p7 : lw_okq (⟨"SlateShop$Tape", "placeTold", "()I"⟩, 5) := ⟨⟨by decide +kernel, by decide +kernel⟩, List.mem_of_getElem? (i := 46) (by decide +kernel), List.mem_of_getElem? (i := 272) (by decide +kernel), List.mem_of_getElem? (i := 273) (by decide +kernel)⟩
theorem lw_p8 : lw_okq (⟨"SlateShop$Book", "takeAll", "()V"⟩, 1) := ⟨⟨by decide +kernel, by decide +kernel⟩, List.mem_of_getElem? (i := 70) (by decide +kernel), List.mem_of_getElem? (i := 324) (by decide +kernel), List.mem_of_getElem? (i := 325) (by decide +kernel)⟩
theorem lw_p9 : lw_okq (⟨"SlateShop$Book", "take", "(I)V"⟩, 1) := ⟨⟨by decide +kernel, by decide +kernel⟩, List.mem_of_getElem? (i := 70) (by decide +kernel), List.mem_of_getElem? (i := 336) (by decide +kernel), List.mem_of_getElem? (i := 337) (by decide +kernel)⟩
theorem lw_p10 : lw_okq (⟨"SlateShop$Book", "payAll", "()I"⟩, 1) := ⟨⟨by decide +kernel, by decide +kernel⟩, List.mem_of_getElem? (i := 70) (by decide +kernel), List.mem_of_getElem? (i := 344) (by decide +kernel), List.mem_of_getElem? (i := 345) (by decide +kernel)⟩
theorem lw_p11 : lw_okq (⟨"SlateShop$Book", "makesOff", "(I)Z"⟩, 1) := ⟨⟨by decide +kernel, by decide +kernel⟩, List.mem_of_getElem? (i := 70) (by decide +kernel), List.mem_of_getElem? (i := 348) (by decide +kernel), List.mem_of_getElem? (i := 349) (by decide +kernel)⟩
theorem lw_p12 : lw_okq (⟨"SlateShop$Book", "pay", "(I)I"⟩, 1) := ⟨⟨by decide +kernel, by decide +kernel⟩, List.mem_of_getElem? (i := 70) (by decide +kernel), List.mem_of_getElem? (i := 352) (by decide +kernel), List.mem_of_getElem? (i := 353) (by decide +kernel)⟩
theorem lw_p13 : lw_okq (⟨"SlateShop$Book", "spared", "(II)I"⟩, 1) := ⟨⟨by decide +kernel, by decide +kernel⟩, List.mem_of_getElem? (i := 70) (by decide +kernel), List.mem_of_getElem? (i := 356) (by decide +kernel), List.mem_of_getElem? (i := 357) (by decide +kernel)⟩
theorem lw_p14 : lw_okq (⟨"SlateShop", "change", "(II)I"⟩, 9) := ⟨⟨by decide +kernel, by decide +kernel⟩, List.mem_of_getElem? (i := 14) (by decide +kernel), List.mem_of_getElem? (i := 365) (by decide +kernel), List.mem_of_getElem? (i := 366) (by decide +kernel)⟩
theorem lw_p15 : lw_okq (⟨"SlateShop$Foretold", "pass", "(I)V"⟩, 2) := ⟨⟨by decide +kernel, by decide +kernel⟩, List.mem_of_getElem? (i := 103) (by decide +kernel), List.mem_of_getElem? (i := 406) (by decide +kernel), List.mem_of_getElem? (i := 407) (by decide +kernel)⟩
def lw_privs_1 : List (MethodName × Nat) := [(⟨"SlateShop$Rows", "fits", "(III)Z"⟩, 4), (⟨"SlateShop$Tape", "readToken", "(LSlateShop$Book;)I"⟩, 5), (⟨"SlateShop$Tape", "readLetter", "(LSlateShop$Book;)I"⟩, 5), (⟨"SlateShop$Tape", "readSign", "(C)I"⟩, 5), (⟨"SlateShop$Tape", "readNumber", "(LSlateShop$Book;)I"⟩, 5), (⟨"SlateShop$Tape", "leastTold", "()I"⟩, 5), (⟨"SlateShop$Tape", "mostTold", "()I"⟩, 5), (⟨"SlateShop$Tape", "placeTold", "()I"⟩, 5), (⟨"SlateShop$Book", "takeAll", "()V"⟩, 1), (⟨"SlateShop$Book", "take", "(I)V"⟩, 1), (⟨"SlateShop$Book", "payAll", "()I"⟩, 1), (⟨"SlateShop$Book", "makesOff", "(I)Z"⟩, 1), (⟨"SlateShop$Book", "pay", "(I)I"⟩, 1), (⟨"SlateShop$Book", "spared", "(II)I"⟩, 1), (⟨"SlateShop", "change", "(II)I"⟩, 9), (⟨"SlateShop$Foretold", "pass", "(I)V"⟩, 2)]
theorem lw_r1 : ∀ q ∈ lw_privs_1, lw_okq q := List.forall_mem_cons.mpr ⟨lw_p0, List.forall_mem_cons.mpr ⟨lw_p1, List.forall_mem_cons.mpr ⟨lw_p2, List.forall_mem_cons.mpr ⟨lw_p3, List.forall_mem_cons.mpr ⟨lw_p4, List.forall_mem_cons.mpr ⟨lw_p5, List.forall_mem_cons.mpr ⟨lw_p6, List.forall_mem_cons.mpr ⟨lw_p7, List.forall_mem_cons.mpr ⟨lw_p8, List.forall_mem_cons.mpr ⟨lw_p9, List.forall_mem_cons.mpr ⟨lw_p10, List.forall_mem_cons.mpr ⟨lw_p11, List.forall_mem_cons.mpr ⟨lw_p12, List.forall_mem_cons.mpr ⟨lw_p13, List.forall_mem_cons.mpr ⟨lw_p14, List.forall_mem_cons.mpr ⟨lw_p15, fun _ h => absurd h List.not_mem_nil⟩⟩⟩⟩⟩⟩⟩⟩⟩⟩⟩⟩⟩⟩⟩⟩
theorem lw_p16 : lw_okq (⟨"SlateShop$Foretold", "giveOnlyTo", "(II)V"⟩, 2) := ⟨⟨by decide +kernel, by decide +kernel⟩, List.mem_of_getElem? (i := 103) (by decide +kernel), List.mem_of_getElem? (i := 444) (by decide +kernel), List.mem_of_getElem? (i := 445) (by decide +kernel)⟩
theorem lw_p17 : lw_okq (⟨"SlateShop$Foretold", "lasts", "(III)Z"⟩, 2) := ⟨⟨by decide +kernel, by decide +kernel⟩, List.mem_of_getElem? (i := 103) (by decide +kernel), List.mem_of_getElem? (i := 462) (by decide +kernel), List.mem_of_getElem? (i := 463) (by decide +kernel)⟩
theorem lw_p18 : lw_okq (⟨"SlateShop$Foretold", "grown", "(I)I"⟩, 2) := ⟨⟨by decide +kernel, by decide +kernel⟩, List.mem_of_getElem? (i := 103) (by decide +kernel), List.mem_of_getElem? (i := 483) (by decide +kernel), List.mem_of_getElem? (i := 484) (by decide +kernel)⟩
theorem lw_p19 : lw_okq (⟨"SlateShop$Foretold", "paysAsTold", "(I[III)Z"⟩, 2) := ⟨⟨by decide +kernel, by decide +kernel⟩, List.mem_of_getElem? (i := 103) (by decide +kernel), List.mem_of_getElem? (i := 496) (by decide +kernel), List.mem_of_getElem? (i := 497) (by decide +kernel)⟩
theorem lw_p20 : lw_okq (⟨"SlateShop$Book", "aheadOf", "(I)I"⟩, 1) := ⟨⟨by decide +kernel, by decide +kernel⟩, List.mem_of_getElem? (i := 70) (by decide +kernel), List.mem_of_getElem? (i := 508) (by decide +kernel), List.mem_of_getElem? (i := 509) (by decide +kernel)⟩
theorem lw_p21 : lw_okq (⟨"SlateShop$Asks", "size11", "(I)I"⟩, 3) := ⟨⟨by decide +kernel, by decide +kernel⟩, List.mem_of_getElem? (i := 116) (by decide +kernel), List.mem_of_getElem? (i := 580) (by decide +kernel), List.mem_of_getElem? (i := 581) (by decide +kernel)⟩
theorem lw_p22 : lw_okq (⟨"SlateShop$Asks", "begin", "(I)V"⟩, 3) := ⟨⟨by decide +kernel, by decide +kernel⟩, List.mem_of_getElem? (i := 116) (by decide +kernel), List.mem_of_getElem? (i := 584) (by decide +kernel), List.mem_of_getElem? (i := 585) (by decide +kernel)⟩
theorem lw_p23 : lw_okq (⟨"SlateShop$Asks", "size10", "(I)I"⟩, 3) := ⟨⟨by decide +kernel, by decide +kernel⟩, List.mem_of_getElem? (i := 116) (by decide +kernel), List.mem_of_getElem? (i := 588) (by decide +kernel), List.mem_of_getElem? (i := 589) (by decide +kernel)⟩
theorem lw_p24 : lw_okq (⟨"SlateShop$Asks", "markOfSteady", "(I)I"⟩, 3) := ⟨⟨by decide +kernel, by decide +kernel⟩, List.mem_of_getElem? (i := 116) (by decide +kernel), List.mem_of_getElem? (i := 592) (by decide +kernel), List.mem_of_getElem? (i := 593) (by decide +kernel)⟩
theorem lw_p25 : lw_okq (⟨"SlateShop$Asks", "mark22", "(I)I"⟩, 3) := ⟨⟨by decide +kernel, by decide +kernel⟩, List.mem_of_getElem? (i := 116) (by decide +kernel), List.mem_of_getElem? (i := 596) (by decide +kernel), List.mem_of_getElem? (i := 597) (by decide +kernel)⟩
theorem lw_p26 : lw_okq (⟨"SlateShop$Asks", "mark21", "(I)I"⟩, 3) := ⟨⟨by decide +kernel, by decide +kernel⟩, List.mem_of_getElem? (i := 116) (by decide +kernel), List.mem_of_getElem? (i := 600) (by decide +kernel), List.mem_of_getElem? (i := 601) (by decide +kernel)⟩
theorem lw_p27 : lw_okq (⟨"SlateShop$Asks", "mark24", "(I)I"⟩, 3) := ⟨⟨by decide +kernel, by decide +kernel⟩, List.mem_of_getElem? (i := 116) (by decide +kernel), List.mem_of_getElem? (i := 604) (by decide +kernel), List.mem_of_getElem? (i := 605) (by decide +kernel)⟩
theorem lw_p28 : lw_okq (⟨"SlateShop$Asks", "size12", "(I)I"⟩, 3) := ⟨⟨by decide +kernel, by decide +kernel⟩, List.mem_of_getElem? (i := 116) (by decide +kernel), List.mem_of_getElem? (i := 608) (by decide +kernel), List.mem_of_getElem? (i := 609) (by decide +kernel)⟩
theorem lw_p29 : lw_okq (⟨"SlateShop$Asks", "sizeOfTwice", "(I)I"⟩, 3) := ⟨⟨by decide +kernel, by decide +kernel⟩, List.mem_of_getElem? (i := 116) (by decide +kernel), List.mem_of_getElem? (i := 612) (by decide +kernel), List.mem_of_getElem? (i := 613) (by decide +kernel)⟩
theorem lw_p30 : lw_okq (⟨"SlateShop$Asks", "size14", "(I)I"⟩, 3) := ⟨⟨by decide +kernel, by decide +kernel⟩, List.mem_of_getElem? (i := 116) (by decide +kernel), List.mem_of_getElem? (i := 616) (by decide +kernel), List.mem_of_getElem? (i := 617) (by decide +kernel)⟩
theorem lw_p31 : lw_okq (⟨"SlateShop$Asks", "size13", "(I)I"⟩, 3) := ⟨⟨by decide +kernel, by decide +kernel⟩, List.mem_of_getElem? (i := 116) (by decide +kernel), List.mem_of_getElem? (i := 620) (by decide +kernel), List.mem_of_getElem? (i := 621) (by decide +kernel)⟩
def lw_privs_2 : List (MethodName × Nat) := [(⟨"SlateShop$Foretold", "giveOnlyTo", "(II)V"⟩, 2), (⟨"SlateShop$Foretold", "lasts", "(III)Z"⟩, 2), (⟨"SlateShop$Foretold", "grown", "(I)I"⟩, 2), (⟨"SlateShop$Foretold", "paysAsTold", "(I[III)Z"⟩, 2), (⟨"SlateShop$Book", "aheadOf", "(I)I"⟩, 1), (⟨"SlateShop$Asks", "size11", "(I)I"⟩, 3), (⟨"SlateShop$Asks", "begin", "(I)V"⟩, 3), (⟨"SlateShop$Asks", "size10", "(I)I"⟩, 3), (⟨"SlateShop$Asks", "markOfSteady", "(I)I"⟩, 3), (⟨"SlateShop$Asks", "mark22", "(I)I"⟩, 3), (⟨"SlateShop$Asks", "mark21", "(I)I"⟩, 3), (⟨"SlateShop$Asks", "mark24", "(I)I"⟩, 3), (⟨"SlateShop$Asks", "size12", "(I)I"⟩, 3), (⟨"SlateShop$Asks", "sizeOfTwice", "(I)I"⟩, 3), (⟨"SlateShop$Asks", "size14", "(I)I"⟩, 3), (⟨"SlateShop$Asks", "size13", "(I)I"⟩, 3)]
theorem lw_r2 : ∀ q ∈ lw_privs_2, lw_okq q := List.forall_mem_cons.mpr ⟨lw_p16, List.forall_mem_cons.mpr ⟨lw_p17, List.forall_mem_cons.mpr ⟨lw_p18, List.forall_mem_cons.mpr ⟨lw_p19, List.forall_mem_cons.mpr ⟨lw_p20, List.forall_mem_cons.mpr ⟨lw_p21, List.forall_mem_cons.mpr ⟨lw_p22, List.forall_mem_cons.mpr ⟨lw_p23, List.forall_mem_cons.mpr ⟨lw_p24, List.forall_mem_cons.mpr ⟨lw_p25, List.forall_mem_cons.mpr ⟨lw_p26, List.forall_mem_cons.mpr ⟨lw_p27, List.forall_mem_cons.mpr ⟨lw_p28, List.forall_mem_cons.mpr ⟨lw_p29, List.forall_mem_cons.mpr ⟨lw_p30, List.forall_mem_cons.mpr ⟨lw_p31, fun _ h => absurd h List.not_mem_nil⟩⟩⟩⟩⟩⟩⟩⟩⟩⟩⟩⟩⟩⟩⟩⟩
theorem lw_p32 : lw_okq (⟨"SlateShop$Asks", "mark23", "(I)I"⟩, 3) := ⟨⟨by decide +kernel, by decide +kernel⟩, List.mem_of_getElem? (i := 116) (by decide +kernel), List.mem_of_getElem? (i := 628) (by decide +kernel), List.mem_of_getElem? (i := 629) (by decide +kernel)⟩
theorem lw_p33 : lw_okq (⟨"SlateShop$Asks", "mark20", "(I)I"⟩, 3) := ⟨⟨by decide +kernel, by decide +kernel⟩, List.mem_of_getElem? (i := 116) (by decide +kernel), List.mem_of_getElem? (i := 632) (by decide +kernel), List.mem_of_getElem? (i := 633) (by decide +kernel)⟩
theorem lw_p34 : lw_okq (⟨"SlateShopModel", "finding", "(I)I"⟩, 23) := ⟨⟨by decide +kernel, by decide +kernel⟩, List.mem_of_getElem? (i := 657) (by decide +kernel), List.mem_of_getElem? (i := 747) (by decide +kernel), List.mem_of_getElem? (i := 748) (by decide +kernel)⟩
theorem lw_p35 : lw_okq (⟨"SlateShopModel", "begin", "()V"⟩, 23) := ⟨⟨by decide +kernel, by decide +kernel⟩, List.mem_of_getElem? (i := 657) (by decide +kernel), List.mem_of_getElem? (i := 778) (by decide +kernel), List.mem_of_getElem? (i := 779) (by decide +kernel)⟩
theorem lw_p36 : lw_okq (⟨"SlateShopModel", "nextToken", "()V"⟩, 23) := ⟨⟨by decide +kernel, by decide +kernel⟩, List.mem_of_getElem? (i := 657) (by decide +kernel), List.mem_of_getElem? (i := 782) (by decide +kernel), List.mem_of_getElem? (i := 783) (by decide +kernel)⟩
theorem lw_p37 : lw_okq (⟨"SlateShopModel", "isLetter", "(I)Z"⟩, 23) := ⟨⟨by decide +kernel, by decide +kernel⟩, List.mem_of_getElem? (i := 657) (by decide +kernel), List.mem_of_getElem? (i := 791) (by decide +kernel), List.mem_of_getElem? (i := 792) (by decide +kernel)⟩
theorem lw_p38 : lw_okq (⟨"SlateShopModel", "must", "(Z)V"⟩, 23) := ⟨⟨by decide +kernel, by decide +kernel⟩, List.mem_of_getElem? (i := 657) (by decide +kernel), List.mem_of_getElem? (i := 795) (by decide +kernel), List.mem_of_getElem? (i := 796) (by decide +kernel)⟩
theorem lw_p39 : lw_okq (⟨"SlateShopModel", "bad", "(I)V"⟩, 23) := ⟨⟨by decide +kernel, by decide +kernel⟩, List.mem_of_getElem? (i := 657) (by decide +kernel), List.mem_of_getElem? (i := 799) (by decide +kernel), List.mem_of_getElem? (i := 800) (by decide +kernel)⟩
theorem lw_p40 : lw_okq (⟨"SlateShopModel", "number", "(II)I"⟩, 23) := ⟨⟨by decide +kernel, by decide +kernel⟩, List.mem_of_getElem? (i := 657) (by decide +kernel), List.mem_of_getElem? (i := 803) (by decide +kernel), List.mem_of_getElem? (i := 804) (by decide +kernel)⟩
theorem lw_p41 : lw_okq (⟨"SlateShopModel", "mustSign", "(I)V"⟩, 23) := ⟨⟨by decide +kernel, by decide +kernel⟩, List.mem_of_getElem? (i := 657) (by decide +kernel), List.mem_of_getElem? (i := 807) (by decide +kernel), List.mem_of_getElem? (i := 808) (by decide +kernel)⟩
theorem lw_p42 : lw_okq (⟨"SlateShopModel", "isSort", "()Z"⟩, 23) := ⟨⟨by decide +kernel, by decide +kernel⟩, List.mem_of_getElem? (i := 657) (by decide +kernel), List.mem_of_getElem? (i := 811) (by decide +kernel), List.mem_of_getElem? (i := 812) (by decide +kernel)⟩
theorem lw_p43 : lw_okq (⟨"SlateShopModel", "readDebtor", "()V"⟩, 23) := ⟨⟨by decide +kernel, by decide +kernel⟩, List.mem_of_getElem? (i := 657) (by decide +kernel), List.mem_of_getElem? (i := 818) (by decide +kernel), List.mem_of_getElem? (i := 819) (by decide +kernel)⟩
theorem lw_p44 : lw_okq (⟨"SlateShopModel", "failed", "()Z"⟩, 23) := ⟨⟨by decide +kernel, by decide +kernel⟩, List.mem_of_getElem? (i := 657) (by decide +kernel), List.mem_of_getElem? (i := 822) (by decide +kernel), List.mem_of_getElem? (i := 823) (by decide +kernel)⟩
theorem lw_p45 : lw_okq (⟨"SlateShopModel", "isThere", "()Z"⟩, 23) := ⟨⟨by decide +kernel, by decide +kernel⟩, List.mem_of_getElem? (i := 657) (by decide +kernel), List.mem_of_getElem? (i := 831) (by decide +kernel), List.mem_of_getElem? (i := 832) (by decide +kernel)⟩
theorem lw_p46 : lw_okq (⟨"SlateShopModel", "keep", "()V"⟩, 23) := ⟨⟨by decide +kernel, by decide +kernel⟩, List.mem_of_getElem? (i := 657) (by decide +kernel), List.mem_of_getElem? (i := 837) (by decide +kernel), List.mem_of_getElem? (i := 838) (by decide +kernel)⟩
theorem lw_p47 : lw_okq (⟨"SlateShopModel", "isDebtor", "(I)Z"⟩, 23) := ⟨⟨by decide +kernel, by decide +kernel⟩, List.mem_of_getElem? (i := 657) (by decide +kernel), List.mem_of_getElem? (i := 866) (by decide +kernel), List.mem_of_getElem? (i := 867) (by decide +kernel)⟩
def lw_privs_3 : List (MethodName × Nat) := [(⟨"SlateShop$Asks", "mark23", "(I)I"⟩, 3), (⟨"SlateShop$Asks", "mark20", "(I)I"⟩, 3), (⟨"SlateShopModel", "finding", "(I)I"⟩, 23), (⟨"SlateShopModel", "begin", "()V"⟩, 23), (⟨"SlateShopModel", "nextToken", "()V"⟩, 23), (⟨"SlateShopModel", "isLetter", "(I)Z"⟩, 23), (⟨"SlateShopModel", "must", "(Z)V"⟩, 23), (⟨"SlateShopModel", "bad", "(I)V"⟩, 23), (⟨"SlateShopModel", "number", "(II)I"⟩, 23), (⟨"SlateShopModel", "mustSign", "(I)V"⟩, 23), (⟨"SlateShopModel", "isSort", "()Z"⟩, 23), (⟨"SlateShopModel", "readDebtor", "()V"⟩, 23), (⟨"SlateShopModel", "failed", "()Z"⟩, 23), (⟨"SlateShopModel", "isThere", "()Z"⟩, 23), (⟨"SlateShopModel", "keep", "()V"⟩, 23), (⟨"SlateShopModel", "isDebtor", "(I)Z"⟩, 23)]
theorem lw_r3 : ∀ q ∈ lw_privs_3, lw_okq q := List.forall_mem_cons.mpr ⟨lw_p32, List.forall_mem_cons.mpr ⟨lw_p33, List.forall_mem_cons.mpr ⟨lw_p34, List.forall_mem_cons.mpr ⟨lw_p35, List.forall_mem_cons.mpr ⟨lw_p36, List.forall_mem_cons.mpr ⟨lw_p37, List.forall_mem_cons.mpr ⟨lw_p38, List.forall_mem_cons.mpr ⟨lw_p39, List.forall_mem_cons.mpr ⟨lw_p40, List.forall_mem_cons.mpr ⟨lw_p41, List.forall_mem_cons.mpr ⟨lw_p42, List.forall_mem_cons.mpr ⟨lw_p43, List.forall_mem_cons.mpr ⟨lw_p44, List.forall_mem_cons.mpr ⟨lw_p45, List.forall_mem_cons.mpr ⟨lw_p46, List.forall_mem_cons.mpr ⟨lw_p47, fun _ h => absurd h List.not_mem_nil⟩⟩⟩⟩⟩⟩⟩⟩⟩⟩⟩⟩⟩⟩⟩⟩
theorem lw_p48 : lw_okq (⟨"SlateShopModel", "layThen", "()V"⟩, 23) := ⟨⟨by decide +kernel, by decide +kernel⟩, List.mem_of_getElem? (i := 657) (by decide +kernel), List.mem_of_getElem? (i := 907) (by decide +kernel), List.mem_of_getElem? (i := 908) (by decide +kernel)⟩
theorem lw_p49 : lw_okq (⟨"SlateShopModel", "sizeOf", "(I)I"⟩, 23) := ⟨⟨by decide +kernel, by decide +kernel⟩, List.mem_of_getElem? (i := 657) (by decide +kernel), List.mem_of_getElem? (i := 992) (by decide +kernel), List.mem_of_getElem? (i := 993) (by decide +kernel)⟩
theorem lw_p50 : lw_okq (⟨"SlateShopModel", "twiceSize", "(I)I"⟩, 23) := ⟨⟨by decide +kernel, by decide +kernel⟩, List.mem_of_getElem? (i := 657) (by decide +kernel), List.mem_of_getElem? (i := 996) (by decide +kernel), List.mem_of_getElem? (i := 997) (by decide +kernel)⟩
theorem lw_p51 : lw_okq (⟨"SlateShopModel", "began", "(I)V"⟩, 23) := ⟨⟨by decide +kernel, by decide +kernel⟩, List.mem_of_getElem? (i := 657) (by decide +kernel), List.mem_of_getElem? (i := 1000) (by decide +kernel), List.mem_of_getElem? (i := 1001) (by decide +kernel)⟩
theorem lw_p52 : lw_okq (⟨"SlateShopModel", "plainSize", "(I)I"⟩, 23) := ⟨⟨by decide +kernel, by decide +kernel⟩, List.mem_of_getElem? (i := 657) (by decide +kernel), List.mem_of_getElem? (i := 1004) (by decide +kernel), List.mem_of_getElem? (i := 1005) (by decide +kernel)⟩
theorem lw_p53 : lw_okq (⟨"SlateShopModel", "markOf", "(I)I"⟩, 23) := ⟨⟨by decide +kernel, by decide +kernel⟩, List.mem_of_getElem? (i := 657) (by decide +kernel), List.mem_of_getElem? (i := 1008) (by decide +kernel), List.mem_of_getElem? (i := 1009) (by decide +kernel)⟩
theorem lw_p54 : lw_okq (⟨"SlateShopModel", "setOf", "(I)I"⟩, 23) := ⟨⟨by decide +kernel, by decide +kernel⟩, List.mem_of_getElem? (i := 657) (by decide +kernel), List.mem_of_getElem? (i := 1020) (by decide +kernel), List.mem_of_getElem? (i := 1021) (by decide +kernel)⟩
def lw_privs_4 : List (MethodName × Nat) := [(⟨"SlateShopModel", "layThen", "()V"⟩, 23), (⟨"SlateShopModel", "sizeOf", "(I)I"⟩, 23), (⟨"SlateShopModel", "twiceSize", "(I)I"⟩, 23), (⟨"SlateShopModel", "began", "(I)V"⟩, 23), (⟨"SlateShopModel", "plainSize", "(I)I"⟩, 23), (⟨"SlateShopModel", "markOf", "(I)I"⟩, 23), (⟨"SlateShopModel", "setOf", "(I)I"⟩, 23)]
theorem lw_r4 : ∀ q ∈ lw_privs_4, lw_okq q := List.forall_mem_cons.mpr ⟨lw_p48, List.forall_mem_cons.mpr ⟨lw_p49, List.forall_mem_cons.mpr ⟨lw_p50, List.forall_mem_cons.mpr ⟨lw_p51, List.forall_mem_cons.mpr ⟨lw_p52, List.forall_mem_cons.mpr ⟨lw_p53, List.forall_mem_cons.mpr ⟨lw_p54, fun _ h => absurd h List.not_mem_nil⟩⟩⟩⟩⟩⟩⟩
def lw_privs : List (MethodName × Nat) := lw_privs_1 ++ (lw_privs_2 ++ (lw_privs_3 ++ (lw_privs_4)))
def lw_tbl : List Cond := k2_sels lw_privs ++ tables_1
theorem lw_privs_ok : ∀ q ∈ lw_privs, lw_okq q := by
  show ∀ q ∈ lw_privs_1 ++ (lw_privs_2 ++ (lw_privs_3 ++ (lw_privs_4))), lw_okq q
  exact List.forall_mem_append.mpr ⟨lw_r1, List.forall_mem_append.mpr ⟨lw_r2, List.forall_mem_append.mpr ⟨lw_r3, lw_r4⟩⟩⟩
def RX0 : String := "SlateShop$Acts"
def TX0 : u_T := fun k => match k with
  | 0 => ("SlateShop$Acts", "before", "[[I", true)
  | 1 => ("SlateShop$Acts", "next", "I", false)
  | _ => ("SlateShop$Acts", "kept", "I", false)
def tyX0 : Nat → FieldType := fun k => match k with
  | 0 => .array (.array .int)
  | 1 => .int
  | _ => .int
theorem nmX0 : ∀ a, a < 3 → ∀ b, b < 3 → a ≠ b → (TX0 a).2.1 ≠ (TX0 b).2.1 := by decide +kernel
theorem tyX0_ok : ∀ k, k < 3 → parseFieldDescriptor (TX0 k).2.2.1 = some (tyX0 k) := by decide +kernel
abbrev cX0_init : ByteArray := prog_2_method_1_code
def yX0_init : MethodName := ⟨RX0, "<init>", "()V"⟩
abbrev cX0_forget : ByteArray := prog_2_method_2_code
def yX0_forget : MethodName := ⟨RX0, "forget", "()V"⟩
abbrev cX0_keep : ByteArray := prog_2_method_3_code
def yX0_keep : MethodName := ⟨RX0, "keep", "(LSlateShop$Book;)V"⟩
abbrev cX0_takeBack : ByteArray := prog_2_method_4_code
def yX0_takeBack : MethodName := ⟨RX0, "takeBack", "(LSlateShop$Book;)I"⟩
def RX1 : String := "SlateShop$Asks"
def TX1 : u_T := fun k => match k with
  | 0 => ("SlateShop$Asks", "begun", "[I", true)
  | 1 => ("SlateShop$Asks", "traced", "I", false)
  | _ => ("SlateShop$Asks", "book", "LSlateShop$Book;", true)
def tyX1 : Nat → FieldType := fun k => match k with
  | 0 => .array .int
  | 1 => .int
  | _ => .object "SlateShop$Book"
theorem nmX1 : ∀ a, a < 3 → ∀ b, b < 3 → a ≠ b → (TX1 a).2.1 ≠ (TX1 b).2.1 := by decide +kernel
theorem tyX1_ok : ∀ k, k < 3 → parseFieldDescriptor (TX1 k).2.2.1 = some (tyX1 k) := by decide +kernel
abbrev cX1_init : ByteArray := prog_3_method_1_code
def yX1_init : MethodName := ⟨RX1, "<init>", "(LSlateShop$Book;)V"⟩
abbrev cX1_sizeOf : ByteArray := prog_3_method_2_code
def yX1_sizeOf : MethodName := ⟨RX1, "sizeOf", "(I)I"⟩
abbrev cX1_markOf : ByteArray := prog_3_method_3_code
def yX1_markOf : MethodName := ⟨RX1, "markOf", "(I)I"⟩
abbrev cX1_markOfSteady : ByteArray := prog_3_method_4_code
def yX1_markOfSteady : MethodName := ⟨RX1, "markOfSteady", "(I)I"⟩
abbrev cX1_sizeOfTwice : ByteArray := prog_3_method_5_code
def yX1_sizeOfTwice : MethodName := ⟨RX1, "sizeOfTwice", "(I)I"⟩
abbrev cX1_begin : ByteArray := prog_3_method_6_code
def yX1_begin : MethodName := ⟨RX1, "begin", "(I)V"⟩
abbrev cX1_size10 : ByteArray := prog_3_method_7_code
def yX1_size10 : MethodName := ⟨RX1, "size10", "(I)I"⟩
abbrev cX1_size11 : ByteArray := prog_3_method_8_code
def yX1_size11 : MethodName := ⟨RX1, "size11", "(I)I"⟩
abbrev cX1_size12 : ByteArray := prog_3_method_9_code
def yX1_size12 : MethodName := ⟨RX1, "size12", "(I)I"⟩
abbrev cX1_size13 : ByteArray := prog_3_method_10_code
def yX1_size13 : MethodName := ⟨RX1, "size13", "(I)I"⟩
abbrev cX1_size14 : ByteArray := prog_3_method_11_code
def yX1_size14 : MethodName := ⟨RX1, "size14", "(I)I"⟩
abbrev cX1_mark20 : ByteArray := prog_3_method_12_code
def yX1_mark20 : MethodName := ⟨RX1, "mark20", "(I)I"⟩
abbrev cX1_mark21 : ByteArray := prog_3_method_13_code
def yX1_mark21 : MethodName := ⟨RX1, "mark21", "(I)I"⟩
abbrev cX1_mark22 : ByteArray := prog_3_method_14_code
def yX1_mark22 : MethodName := ⟨RX1, "mark22", "(I)I"⟩
abbrev cX1_mark23 : ByteArray := prog_3_method_15_code
def yX1_mark23 : MethodName := ⟨RX1, "mark23", "(I)I"⟩
abbrev cX1_mark24 : ByteArray := prog_3_method_16_code
def yX1_mark24 : MethodName := ⟨RX1, "mark24", "(I)I"⟩
def RX2 : String := "SlateShop$Book"
def TX2 : u_T := fun k => match k with
  | _ => ("SlateShop$Book", "sums", "[I", true)
def tyX2 : Nat → FieldType := fun k => match k with
  | _ => .array .int
theorem nmX2 : ∀ a, a < 1 → ∀ b, b < 1 → a ≠ b → (TX2 a).2.1 ≠ (TX2 b).2.1 := by decide +kernel
theorem tyX2_ok : ∀ k, k < 1 → parseFieldDescriptor (TX2 k).2.2.1 = some (tyX2 k) := by decide +kernel
abbrev cX2_init : ByteArray := prog_4_method_1_code
def yX2_init : MethodName := ⟨RX2, "<init>", "()V"⟩
abbrev cX2_clear : ByteArray := prog_4_method_2_code
def yX2_clear : MethodName := ⟨RX2, "clear", "()V"⟩
abbrev cX2_becomes : ByteArray := prog_4_method_3_code
def yX2_becomes : MethodName := ⟨RX2, "becomes", "(LSlateShop$Book;)V"⟩
abbrev cX2_isThere : ByteArray := prog_4_method_4_code
def yX2_isThere : MethodName := ⟨RX2, "isThere", "()Z"⟩
abbrev cX2_has : ByteArray := prog_4_method_5_code
def yX2_has : MethodName := ⟨RX2, "has", "(I)Z"⟩
abbrev cX2_comes : ByteArray := prog_4_method_6_code
def yX2_comes : MethodName := ⟨RX2, "comes", "(I)Z"⟩
abbrev cX2_isKind : ByteArray := prog_4_method_7_code
def yX2_isKind : MethodName := ⟨RX2, "isKind", "(II)Z"⟩
abbrev cX2_nearestKind : ByteArray := prog_4_method_8_code
def yX2_nearestKind : MethodName := ⟨RX2, "nearestKind", "(I)I"⟩
abbrev cX2_passWeek : ByteArray := prog_4_method_9_code
def yX2_passWeek : MethodName := ⟨RX2, "passWeek", "()I"⟩
abbrev cX2_takeAll : ByteArray := prog_4_method_10_code
def yX2_takeAll : MethodName := ⟨RX2, "takeAll", "()V"⟩
abbrev cX2_take : ByteArray := prog_4_method_11_code
def yX2_take : MethodName := ⟨RX2, "take", "(I)V"⟩
abbrev cX2_payAll : ByteArray := prog_4_method_12_code
def yX2_payAll : MethodName := ⟨RX2, "payAll", "()I"⟩
abbrev cX2_makesOff : ByteArray := prog_4_method_13_code
def yX2_makesOff : MethodName := ⟨RX2, "makesOff", "(I)Z"⟩
abbrev cX2_pay : ByteArray := prog_4_method_14_code
def yX2_pay : MethodName := ⟨RX2, "pay", "(I)I"⟩
abbrev cX2_spared : ByteArray := prog_4_method_15_code
def yX2_spared : MethodName := ⟨RX2, "spared", "(II)I"⟩
abbrev cX2_worth : ByteArray := prog_4_method_16_code
def yX2_worth : MethodName := ⟨RX2, "worth", "()I"⟩
abbrev cX2_allDebts : ByteArray := prog_4_method_17_code
def yX2_allDebts : MethodName := ⟨RX2, "allDebts", "()I"⟩
abbrev cX2_lost : ByteArray := prog_4_method_18_code
def yX2_lost : MethodName := ⟨RX2, "lost", "()I"⟩
abbrev cX2_bits : ByteArray := prog_4_method_19_code
def yX2_bits : MethodName := ⟨RX2, "bits", "(I)I"⟩
abbrev cX2_howManyCome : ByteArray := prog_4_method_20_code
def yX2_howManyCome : MethodName := ⟨RX2, "howManyCome", "()I"⟩
abbrev cX2_owingMost : ByteArray := prog_4_method_21_code
def yX2_owingMost : MethodName := ⟨RX2, "owingMost", "(I)I"⟩
abbrev cX2_aheadOf : ByteArray := prog_4_method_22_code
def yX2_aheadOf : MethodName := ⟨RX2, "aheadOf", "(I)I"⟩
def RX3 : String := "SlateShop$Chance"
def TX3 : u_T := fun k => match k with
  | _ => ("", "", "", false)
def tyX3 : Nat → FieldType := fun k => match k with
  | _ => .int
theorem nmX3 : ∀ a, a < 0 → ∀ b, b < 0 → a ≠ b → (TX3 a).2.1 ≠ (TX3 b).2.1 := by decide +kernel
theorem tyX3_ok : ∀ k, k < 0 → parseFieldDescriptor (TX3 k).2.2.1 = some (tyX3 k) := by decide +kernel
abbrev cX3_atLeast : ByteArray := prog_5_method_2_code
def yX3_atLeast : MethodName := ⟨RX3, "atLeast", "(IIII)J"⟩
abbrev cX3_choices : ByteArray := prog_5_method_3_code
def yX3_choices : MethodName := ⟨RX3, "choices", "(II)J"⟩
abbrev cX3_power : ByteArray := prog_5_method_4_code
def yX3_power : MethodName := ⟨RX3, "power", "(II)J"⟩
abbrev cX3_commonDivisor : ByteArray := prog_5_method_5_code
def yX3_commonDivisor : MethodName := ⟨RX3, "commonDivisor", "(JJ)J"⟩
def RX4 : String := "SlateShop$Foretold"
def TX4 : u_T := fun k => match k with
  | 0 => ("SlateShop$Foretold", "now", "LSlateShop$Book;", true)
  | _ => ("SlateShop$Foretold", "then", "LSlateShop$Book;", true)
def tyX4 : Nat → FieldType := fun k => match k with
  | 0 => .object "SlateShop$Book"
  | _ => .object "SlateShop$Book"
theorem nmX4 : ∀ a, a < 2 → ∀ b, b < 2 → a ≠ b → (TX4 a).2.1 ≠ (TX4 b).2.1 := by decide +kernel
theorem tyX4_ok : ∀ k, k < 2 → parseFieldDescriptor (TX4 k).2.2.1 = some (tyX4 k) := by decide +kernel
abbrev cX4_init : ByteArray := prog_6_method_1_code
def yX4_init : MethodName := ⟨RX4, "<init>", "(LSlateShop$Book;LSlateShop$Book;)V"⟩
abbrev cX4_look : ByteArray := prog_6_method_2_code
def yX4_look : MethodName := ⟨RX4, "look", "(I)V"⟩
abbrev cX4_pass : ByteArray := prog_6_method_3_code
def yX4_pass : MethodName := ⟨RX4, "pass", "(I)V"⟩
abbrev cX4_weeksUntilShut : ByteArray := prog_6_method_4_code
def yX4_weeksUntilShut : MethodName := ⟨RX4, "weeksUntilShut", "(I)I"⟩
abbrev cX4_stopForShop : ByteArray := prog_6_method_5_code
def yX4_stopForShop : MethodName := ⟨RX4, "stopForShop", "(III)I"⟩
abbrev cX4_stopForRogue : ByteArray := prog_6_method_6_code
def yX4_stopForRogue : MethodName := ⟨RX4, "stopForRogue", "(III)I"⟩
abbrev cX4_grown : ByteArray := prog_6_method_7_code
def yX4_grown : MethodName := ⟨RX4, "grown", "(I)I"⟩
abbrev cX4_bestSet : ByteArray := prog_6_method_8_code
def yX4_bestSet : MethodName := ⟨RX4, "bestSet", "(II)I"⟩
abbrev cX4_giveOnlyTo : ByteArray := prog_6_method_9_code
def yX4_giveOnlyTo : MethodName := ⟨RX4, "giveOnlyTo", "(II)V"⟩
abbrev cX4_longestStrike : ByteArray := prog_6_method_10_code
def yX4_longestStrike : MethodName := ⟨RX4, "longestStrike", "()I"⟩
abbrev cX4_leastDearer : ByteArray := prog_6_method_11_code
def yX4_leastDearer : MethodName := ⟨RX4, "leastDearer", "(I)I"⟩
abbrev cX4_lasts : ByteArray := prog_6_method_12_code
def yX4_lasts : MethodName := ⟨RX4, "lasts", "(III)Z"⟩
abbrev cX4_kindsThatPay : ByteArray := prog_6_method_13_code
def yX4_kindsThatPay : MethodName := ⟨RX4, "kindsThatPay", "(I[III)I"⟩
abbrev cX4_paysAsTold : ByteArray := prog_6_method_14_code
def yX4_paysAsTold : MethodName := ⟨RX4, "paysAsTold", "(I[III)Z"⟩
abbrev cX4_idleWeeks : ByteArray := prog_6_method_15_code
def yX4_idleWeeks : MethodName := ⟨RX4, "idleWeeks", "(II)I"⟩
def RX5 : String := "SlateShop$Rows"
def TX5 : u_T := fun k => match k with
  | 0 => ("SlateShop$Rows", "items", "[[I", true)
  | 1 => ("SlateShop$Rows", "lanes", "[I", true)
  | 2 => ("SlateShop$Rows", "sizes", "[I", true)
  | _ => ("SlateShop$Rows", "found", "I", false)
def tyX5 : Nat → FieldType := fun k => match k with
  | 0 => .array (.array .int)
  | 1 => .array .int
  | 2 => .array .int
  | _ => .int
theorem nmX5 : ∀ a, a < 4 → ∀ b, b < 4 → a ≠ b → (TX5 a).2.1 ≠ (TX5 b).2.1 := by decide +kernel
theorem tyX5_ok : ∀ k, k < 4 → parseFieldDescriptor (TX5 k).2.2.1 = some (tyX5 k) := by decide +kernel
abbrev cX5_init : ByteArray := prog_7_method_1_code
def yX5_init : MethodName := ⟨RX5, "<init>", "()V"⟩
abbrev cX5_isRow : ByteArray := prog_7_method_2_code
def yX5_isRow : MethodName := ⟨RX5, "isRow", "(I)Z"⟩
abbrev cX5_find : ByteArray := prog_7_method_3_code
def yX5_find : MethodName := ⟨RX5, "find", "(I)I"⟩
abbrev cX5_make : ByteArray := prog_7_method_4_code
def yX5_make : MethodName := ⟨RX5, "make", "(III)I"⟩
abbrev cX5_put : ByteArray := prog_7_method_5_code
def yX5_put : MethodName := ⟨RX5, "put", "(III)I"⟩
abbrev cX5_carry : ByteArray := prog_7_method_6_code
def yX5_carry : MethodName := ⟨RX5, "carry", "(IIIII)I"⟩
abbrev cX5_lose : ByteArray := prog_7_method_7_code
def yX5_lose : MethodName := ⟨RX5, "lose", "(I)I"⟩
abbrev cX5_look : ByteArray := prog_7_method_8_code
def yX5_look : MethodName := ⟨RX5, "look", "(III)I"⟩
abbrev cX5_present : ByteArray := prog_7_method_9_code
def yX5_present : MethodName := ⟨RX5, "present", "()I"⟩
abbrev cX5_fits : ByteArray := prog_7_method_10_code
def yX5_fits : MethodName := ⟨RX5, "fits", "(III)Z"⟩
abbrev cX5_narrowed : ByteArray := prog_7_method_11_code
def yX5_narrowed : MethodName := ⟨RX5, "narrowed", "(II)I"⟩
def RX6 : String := "SlateShop$Tape"
def TX6 : u_T := fun k => match k with
  | 0 => ("SlateShop$Tape", "letters", "[I", true)
  | 1 => ("SlateShop$Tape", "length", "I", false)
  | 2 => ("SlateShop$Tape", "place", "I", false)
  | 3 => ("SlateShop$Tape", "step", "I", false)
  | _ => ("SlateShop$Tape", "part", "I", false)
def tyX6 : Nat → FieldType := fun k => match k with
  | 0 => .array .int
  | 1 => .int
  | 2 => .int
  | 3 => .int
  | _ => .int
theorem nmX6 : ∀ a, a < 5 → ∀ b, b < 5 → a ≠ b → (TX6 a).2.1 ≠ (TX6 b).2.1 := by decide +kernel
theorem tyX6_ok : ∀ k, k < 5 → parseFieldDescriptor (TX6 k).2.2.1 = some (tyX6 k) := by decide +kernel
abbrev cX6_init : ByteArray := prog_8_method_1_code
def yX6_init : MethodName := ⟨RX6, "<init>", "()V"⟩
abbrev cX6_add : ByteArray := prog_8_method_2_code
def yX6_add : MethodName := ⟨RX6, "add", "(I)I"⟩
abbrev cX6_empty : ByteArray := prog_8_method_3_code
def yX6_empty : MethodName := ⟨RX6, "empty", "()V"⟩
abbrev cX6_read : ByteArray := prog_8_method_4_code
def yX6_read : MethodName := ⟨RX6, "read", "(LSlateShop$Book;)I"⟩
abbrev cX6_readToken : ByteArray := prog_8_method_5_code
def yX6_readToken : MethodName := ⟨RX6, "readToken", "(LSlateShop$Book;)I"⟩
abbrev cX6_readSign : ByteArray := prog_8_method_6_code
def yX6_readSign : MethodName := ⟨RX6, "readSign", "(C)I"⟩
abbrev cX6_readLetter : ByteArray := prog_8_method_7_code
def yX6_readLetter : MethodName := ⟨RX6, "readLetter", "(LSlateShop$Book;)I"⟩
abbrev cX6_kindOf : ByteArray := prog_8_method_8_code
def yX6_kindOf : MethodName := ⟨RX6, "kindOf", "(I)I"⟩
abbrev cX6_readNumber : ByteArray := prog_8_method_9_code
def yX6_readNumber : MethodName := ⟨RX6, "readNumber", "(LSlateShop$Book;)I"⟩
abbrev cX6_isFigure : ByteArray := prog_8_method_10_code
def yX6_isFigure : MethodName := ⟨RX6, "isFigure", "(I)Z"⟩
abbrev cX6_leastTold : ByteArray := prog_8_method_11_code
def yX6_leastTold : MethodName := ⟨RX6, "leastTold", "()I"⟩
abbrev cX6_mostTold : ByteArray := prog_8_method_12_code
def yX6_mostTold : MethodName := ⟨RX6, "mostTold", "()I"⟩
abbrev cX6_placeTold : ByteArray := prog_8_method_13_code
def yX6_placeTold : MethodName := ⟨RX6, "placeTold", "()I"⟩
def RX7 : String := "SlateShop"
def TX7 : u_T := fun k => match k with
  | 0 => ("SlateShop", "rows", "LSlateShop$Rows;", true)
  | 1 => ("SlateShop", "tape", "LSlateShop$Tape;", true)
  | 2 => ("SlateShop", "book", "LSlateShop$Book;", true)
  | 3 => ("SlateShop", "spare", "LSlateShop$Book;", true)
  | 4 => ("SlateShop", "acts", "LSlateShop$Acts;", true)
  | 5 => ("SlateShop", "foretold", "LSlateShop$Foretold;", true)
  | 6 => ("SlateShop", "asks", "LSlateShop$Asks;", true)
  | 7 => ("SlateShop", "images", "[LSlateShop$Book;", true)
  | _ => ("SlateShop", "latestFault", "I", false)
def tyX7 : Nat → FieldType := fun k => match k with
  | 0 => .object "SlateShop$Rows"
  | 1 => .object "SlateShop$Tape"
  | 2 => .object "SlateShop$Book"
  | 3 => .object "SlateShop$Book"
  | 4 => .object "SlateShop$Acts"
  | 5 => .object "SlateShop$Foretold"
  | 6 => .object "SlateShop$Asks"
  | 7 => .array (.object "SlateShop$Book")
  | _ => .int
theorem nmX7 : ∀ a, a < 9 → ∀ b, b < 9 → a ≠ b → (TX7 a).2.1 ≠ (TX7 b).2.1 := by decide +kernel
theorem tyX7_ok : ∀ k, k < 9 → parseFieldDescriptor (TX7 k).2.2.1 = some (tyX7 k) := by decide +kernel
abbrev cX7_init : ByteArray := prog_1_method_1_code
def yX7_init : MethodName := ⟨RX7, "<init>", "()V"⟩
abbrev cX7_row : ByteArray := prog_1_method_2_code
def yX7_row : MethodName := ⟨RX7, "row", "(III)I"⟩
abbrev cX7_set : ByteArray := prog_1_method_3_code
def yX7_set : MethodName := ⟨RX7, "set", "(III)I"⟩
abbrev cX7_copy : ByteArray := prog_1_method_4_code
def yX7_copy : MethodName := ⟨RX7, "copy", "(IIIII)I"⟩
abbrev cX7_drop : ByteArray := prog_1_method_5_code
def yX7_drop : MethodName := ⟨RX7, "drop", "(I)I"⟩
abbrev cX7_feed : ByteArray := prog_1_method_6_code
def yX7_feed : MethodName := ⟨RX7, "feed", "(I)I"⟩
abbrev cX7_shop : ByteArray := prog_1_method_7_code
def yX7_shop : MethodName := ⟨RX7, "shop", "()I"⟩
abbrev cX7_fault : ByteArray := prog_1_method_8_code
def yX7_fault : MethodName := ⟨RX7, "fault", "()I"⟩
abbrev cX7_undo : ByteArray := prog_1_method_9_code
def yX7_undo : MethodName := ⟨RX7, "undo", "()I"⟩
abbrev cX7_weeks : ByteArray := prog_1_method_10_code
def yX7_weeks : MethodName := ⟨RX7, "weeks", "(I)I"⟩
abbrev cX7_stop : ByteArray := prog_1_method_11_code
def yX7_stop : MethodName := ⟨RX7, "stop", "(II)I"⟩
abbrev cX7_strike : ByteArray := prog_1_method_12_code
def yX7_strike : MethodName := ⟨RX7, "strike", "(I)I"⟩
abbrev cX7_cross : ByteArray := prog_1_method_13_code
def yX7_cross : MethodName := ⟨RX7, "cross", "(II)I"⟩
abbrev cX7_dearer : ByteArray := prog_1_method_14_code
def yX7_dearer : MethodName := ⟨RX7, "dearer", "(I)I"⟩
abbrev cX7_debtor : ByteArray := prog_1_method_15_code
def yX7_debtor : MethodName := ⟨RX7, "debtor", "(II)I"⟩
abbrev cX7_shopHas : ByteArray := prog_1_method_16_code
def yX7_shopHas : MethodName := ⟨RX7, "shopHas", "(I)I"⟩
abbrev cX7_ahead : ByteArray := prog_1_method_17_code
def yX7_ahead : MethodName := ⟨RX7, "ahead", "(II)I"⟩
abbrev cX7_debt : ByteArray := prog_1_method_18_code
def yX7_debt : MethodName := ⟨RX7, "debt", "(II)I"⟩
abbrev cX7_shuts : ByteArray := prog_1_method_19_code
def yX7_shuts : MethodName := ⟨RX7, "shuts", "()I"⟩
abbrev cX7_bestStop : ByteArray := prog_1_method_20_code
def yX7_bestStop : MethodName := ⟨RX7, "bestStop", "(III)I"⟩
abbrev cX7_whom : ByteArray := prog_1_method_21_code
def yX7_whom : MethodName := ⟨RX7, "whom", "(II)I"⟩
abbrev cX7_stands : ByteArray := prog_1_method_22_code
def yX7_stands : MethodName := ⟨RX7, "stands", "()I"⟩
abbrev cX7_dear : ByteArray := prog_1_method_23_code
def yX7_dear : MethodName := ⟨RX7, "dear", "(I)I"⟩
abbrev cX7_rogue : ByteArray := prog_1_method_24_code
def yX7_rogue : MethodName := ⟨RX7, "rogue", "(III)I"⟩
abbrev cX7_who : ByteArray := prog_1_method_25_code
def yX7_who : MethodName := ⟨RX7, "who", "(IIII)I"⟩
abbrev cX7_atDoor : ByteArray := prog_1_method_26_code
def yX7_atDoor : MethodName := ⟨RX7, "atDoor", "(I)I"⟩
abbrev cX7_pays : ByteArray := prog_1_method_27_code
def yX7_pays : MethodName := ⟨RX7, "pays", "(III)J"⟩
abbrev cX7_drawn : ByteArray := prog_1_method_28_code
def yX7_drawn : MethodName := ⟨RX7, "drawn", "(III)I"⟩
abbrev cX7_image : ByteArray := prog_1_method_29_code
def yX7_image : MethodName := ⟨RX7, "image", "(I)I"⟩
abbrev cX7_restore : ByteArray := prog_1_method_30_code
def yX7_restore : MethodName := ⟨RX7, "restore", "(I)I"⟩
abbrev cX7_kind : ByteArray := prog_1_method_31_code
def yX7_kind : MethodName := ⟨RX7, "kind", "(I)I"⟩
abbrev cX7_as : ByteArray := prog_1_method_32_code
def yX7_as : MethodName := ⟨RX7, "as", "(II)I"⟩
abbrev cX7_ask : ByteArray := prog_1_method_33_code
def yX7_ask : MethodName := ⟨RX7, "ask", "(II)I"⟩
abbrev cX7_trace : ByteArray := prog_1_method_34_code
def yX7_trace : MethodName := ⟨RX7, "trace", "(I)I"⟩
abbrev cX7_count : ByteArray := prog_1_method_35_code
def yX7_count : MethodName := ⟨RX7, "count", "(I)I"⟩
abbrev cX7_status : ByteArray := prog_1_method_36_code
def yX7_status : MethodName := ⟨RX7, "status", "()I"⟩
abbrev cX7_within : ByteArray := prog_1_method_37_code
def yX7_within : MethodName := ⟨RX7, "within", "(III)Z"⟩
abbrev cX7_change : ByteArray := prog_1_method_38_code
def yX7_change : MethodName := ⟨RX7, "change", "(II)I"⟩
def RX8 : String := "SlateShopModel"
def TX8 : u_T := fun k => match k with
  | 0 => ("SlateShopModel", "thrown", "I", false)
  | 1 => ("SlateShopModel", "status", "I", false)
  | 2 => ("SlateShopModel", "lane", "[I", true)
  | 3 => ("SlateShopModel", "many", "[I", true)
  | 4 => ("SlateShopModel", "item", "[I", true)
  | 5 => ("SlateShopModel", "shop", "[I", true)
  | 6 => ("SlateShopModel", "fresh", "[I", true)
  | 7 => ("SlateShopModel", "then", "[I", true)
  | 8 => ("SlateShopModel", "was", "[I", true)
  | 9 => ("SlateShopModel", "acts", "I", false)
  | 10 => ("SlateShopModel", "tape", "[I", true)
  | 11 => ("SlateShopModel", "taped", "I", false)
  | 12 => ("SlateShopModel", "cursor", "I", false)
  | 13 => ("SlateShopModel", "start", "I", false)
  | 14 => ("SlateShopModel", "token", "I", false)
  | 15 => ("SlateShopModel", "value", "I", false)
  | 16 => ("SlateShopModel", "fault", "I", false)
  | 17 => ("SlateShopModel", "faultAt", "I", false)
  | 18 => ("SlateShopModel", "latest", "I", false)
  | 19 => ("SlateShopModel", "isKept", "[Z", true)
  | 20 => ("SlateShopModel", "kept", "[I", true)
  | 21 => ("SlateShopModel", "trace", "[I", true)
  | _ => ("SlateShopModel", "traced", "I", false)
def tyX8 : Nat → FieldType := fun k => match k with
  | 0 => .int
  | 1 => .int
  | 2 => .array .int
  | 3 => .array .int
  | 4 => .array .int
  | 5 => .array .int
  | 6 => .array .int
  | 7 => .array .int
  | 8 => .array .int
  | 9 => .int
  | 10 => .array .int
  | 11 => .int
  | 12 => .int
  | 13 => .int
  | 14 => .int
  | 15 => .int
  | 16 => .int
  | 17 => .int
  | 18 => .int
  | 19 => .array .boolean
  | 20 => .array .int
  | 21 => .array .int
  | _ => .int
theorem nmX8 : ∀ a, a < 23 → ∀ b, b < 23 → a ≠ b → (TX8 a).2.1 ≠ (TX8 b).2.1 := by decide +kernel
theorem tyX8_ok : ∀ k, k < 23 → parseFieldDescriptor (TX8 k).2.2.1 = some (tyX8 k) := by decide +kernel
abbrev cX8_init : ByteArray := prog_10_method_1_code
def yX8_init : MethodName := ⟨RX8, "<init>", "()V"⟩
abbrev cX8_in : ByteArray := prog_10_method_3_code
def yX8_in : MethodName := ⟨RX8, "in", "(JJJ)Z"⟩
abbrev cX8_finding : ByteArray := prog_10_method_4_code
def yX8_finding : MethodName := ⟨RX8, "finding", "(I)I"⟩
abbrev cX8_isRow : ByteArray := prog_10_method_5_code
def yX8_isRow : MethodName := ⟨RX8, "isRow", "(I)Z"⟩
abbrev cX8_row : ByteArray := prog_10_method_6_code
def yX8_row : MethodName := ⟨RX8, "row", "(III)I"⟩
abbrev cX8_set : ByteArray := prog_10_method_7_code
def yX8_set : MethodName := ⟨RX8, "set", "(III)I"⟩
abbrev cX8_copy : ByteArray := prog_10_method_8_code
def yX8_copy : MethodName := ⟨RX8, "copy", "(IIIII)I"⟩
abbrev cX8_drop : ByteArray := prog_10_method_9_code
def yX8_drop : MethodName := ⟨RX8, "drop", "(I)I"⟩
abbrev cX8_feed : ByteArray := prog_10_method_10_code
def yX8_feed : MethodName := ⟨RX8, "feed", "(I)I"⟩
abbrev cX8_bad : ByteArray := prog_10_method_11_code
def yX8_bad : MethodName := ⟨RX8, "bad", "(I)V"⟩
abbrev cX8_nextToken : ByteArray := prog_10_method_12_code
def yX8_nextToken : MethodName := ⟨RX8, "nextToken", "()V"⟩
abbrev cX8_must : ByteArray := prog_10_method_13_code
def yX8_must : MethodName := ⟨RX8, "must", "(Z)V"⟩
abbrev cX8_isLetter : ByteArray := prog_10_method_14_code
def yX8_isLetter : MethodName := ⟨RX8, "isLetter", "(I)Z"⟩
abbrev cX8_number : ByteArray := prog_10_method_15_code
def yX8_number : MethodName := ⟨RX8, "number", "(II)I"⟩
abbrev cX8_mustSign : ByteArray := prog_10_method_16_code
def yX8_mustSign : MethodName := ⟨RX8, "mustSign", "(I)V"⟩
abbrev cX8_begin : ByteArray := prog_10_method_17_code
def yX8_begin : MethodName := ⟨RX8, "begin", "()V"⟩
abbrev cX8_failed : ByteArray := prog_10_method_18_code
def yX8_failed : MethodName := ⟨RX8, "failed", "()Z"⟩
abbrev cX8_fault : ByteArray := prog_10_method_19_code
def yX8_fault : MethodName := ⟨RX8, "fault", "()I"⟩
abbrev cX8_kindBy : ByteArray := prog_10_method_20_code
def yX8_kindBy : MethodName := ⟨RX8, "kindBy", "(I)I"⟩
abbrev cX8_isSort : ByteArray := prog_10_method_21_code
def yX8_isSort : MethodName := ⟨RX8, "isSort", "()Z"⟩
abbrev cX8_readDebtor : ByteArray := prog_10_method_22_code
def yX8_readDebtor : MethodName := ⟨RX8, "readDebtor", "()V"⟩
abbrev cX8_shop : ByteArray := prog_10_method_23_code
def yX8_shop : MethodName := ⟨RX8, "shop", "()I"⟩
abbrev cX8_isThere : ByteArray := prog_10_method_24_code
def yX8_isThere : MethodName := ⟨RX8, "isThere", "()Z"⟩
abbrev cX8_isDebtor : ByteArray := prog_10_method_25_code
def yX8_isDebtor : MethodName := ⟨RX8, "isDebtor", "(I)Z"⟩
abbrev cX8_of : ByteArray := prog_10_method_26_code
def yX8_of : MethodName := ⟨RX8, "of", "([III)I"⟩
abbrev cX8_isOut : ByteArray := prog_10_method_27_code
def yX8_isOut : MethodName := ⟨RX8, "isOut", "([II)Z"⟩
abbrev cX8_least : ByteArray := prog_10_method_28_code
def yX8_least : MethodName := ⟨RX8, "least", "(II)I"⟩
abbrev cX8_takes : ByteArray := prog_10_method_29_code
def yX8_takes : MethodName := ⟨RX8, "takes", "([II)V"⟩
abbrev cX8_payBy : ByteArray := prog_10_method_30_code
def yX8_payBy : MethodName := ⟨RX8, "payBy", "([II)I"⟩
abbrev cX8_payOne : ByteArray := prog_10_method_31_code
def yX8_payOne : MethodName := ⟨RX8, "payOne", "([II)V"⟩
abbrev cX8_week : ByteArray := prog_10_method_32_code
def yX8_week : MethodName := ⟨RX8, "week", "([I)V"⟩
abbrev cX8_weeksOf : ByteArray := prog_10_method_33_code
def yX8_weeksOf : MethodName := ⟨RX8, "weeksOf", "([II)V"⟩
abbrev cX8_layThen : ByteArray := prog_10_method_34_code
def yX8_layThen : MethodName := ⟨RX8, "layThen", "()V"⟩
abbrev cX8_lostOf : ByteArray := prog_10_method_35_code
def yX8_lostOf : MethodName := ⟨RX8, "lostOf", "([I)I"⟩
abbrev cX8_debtsOf : ByteArray := prog_10_method_36_code
def yX8_debtsOf : MethodName := ⟨RX8, "debtsOf", "([I)I"⟩
abbrev cX8_keep : ByteArray := prog_10_method_37_code
def yX8_keep : MethodName := ⟨RX8, "keep", "()V"⟩
abbrev cX8_weeks : ByteArray := prog_10_method_38_code
def yX8_weeks : MethodName := ⟨RX8, "weeks", "(I)I"⟩
abbrev cX8_stop : ByteArray := prog_10_method_39_code
def yX8_stop : MethodName := ⟨RX8, "stop", "(II)I"⟩
abbrev cX8_strike : ByteArray := prog_10_method_40_code
def yX8_strike : MethodName := ⟨RX8, "strike", "(I)I"⟩
abbrev cX8_cross : ByteArray := prog_10_method_41_code
def yX8_cross : MethodName := ⟨RX8, "cross", "(II)I"⟩
abbrev cX8_dearer : ByteArray := prog_10_method_42_code
def yX8_dearer : MethodName := ⟨RX8, "dearer", "(I)I"⟩
abbrev cX8_undo : ByteArray := prog_10_method_43_code
def yX8_undo : MethodName := ⟨RX8, "undo", "()I"⟩
abbrev cX8_debtor : ByteArray := prog_10_method_44_code
def yX8_debtor : MethodName := ⟨RX8, "debtor", "(II)I"⟩
abbrev cX8_shopHas : ByteArray := prog_10_method_45_code
def yX8_shopHas : MethodName := ⟨RX8, "shopHas", "(I)I"⟩
abbrev cX8_ahead : ByteArray := prog_10_method_46_code
def yX8_ahead : MethodName := ⟨RX8, "ahead", "(II)I"⟩
abbrev cX8_debt : ByteArray := prog_10_method_47_code
def yX8_debt : MethodName := ⟨RX8, "debt", "(II)I"⟩
abbrev cX8_shuts : ByteArray := prog_10_method_48_code
def yX8_shuts : MethodName := ⟨RX8, "shuts", "()I"⟩
abbrev cX8_bestStop : ByteArray := prog_10_method_49_code
def yX8_bestStop : MethodName := ⟨RX8, "bestStop", "(III)I"⟩
abbrev cX8_bits : ByteArray := prog_10_method_50_code
def yX8_bits : MethodName := ⟨RX8, "bits", "(I)I"⟩
abbrev cX8_whom : ByteArray := prog_10_method_51_code
def yX8_whom : MethodName := ⟨RX8, "whom", "(II)I"⟩
abbrev cX8_stands : ByteArray := prog_10_method_52_code
def yX8_stands : MethodName := ⟨RX8, "stands", "()I"⟩
abbrev cX8_dear : ByteArray := prog_10_method_53_code
def yX8_dear : MethodName := ⟨RX8, "dear", "(I)I"⟩
abbrev cX8_rogue : ByteArray := prog_10_method_54_code
def yX8_rogue : MethodName := ⟨RX8, "rogue", "(III)I"⟩
abbrev cX8_who : ByteArray := prog_10_method_55_code
def yX8_who : MethodName := ⟨RX8, "who", "(IIII)I"⟩
abbrev cX8_atDoor : ByteArray := prog_10_method_56_code
def yX8_atDoor : MethodName := ⟨RX8, "atDoor", "(I)I"⟩
abbrev cX8_pays : ByteArray := prog_10_method_57_code
def yX8_pays : MethodName := ⟨RX8, "pays", "(III)J"⟩
abbrev cX8_drawn : ByteArray := prog_10_method_58_code
def yX8_drawn : MethodName := ⟨RX8, "drawn", "(III)I"⟩
abbrev cX8_image : ByteArray := prog_10_method_59_code
def yX8_image : MethodName := ⟨RX8, "image", "(I)I"⟩
abbrev cX8_restore : ByteArray := prog_10_method_60_code
def yX8_restore : MethodName := ⟨RX8, "restore", "(I)I"⟩
abbrev cX8_isOf : ByteArray := prog_10_method_61_code
def yX8_isOf : MethodName := ⟨RX8, "isOf", "(II)Z"⟩
abbrev cX8_kind : ByteArray := prog_10_method_62_code
def yX8_kind : MethodName := ⟨RX8, "kind", "(I)I"⟩
abbrev cX8_as : ByteArray := prog_10_method_63_code
def yX8_as : MethodName := ⟨RX8, "as", "(II)I"⟩
abbrev cX8_began : ByteArray := prog_10_method_64_code
def yX8_began : MethodName := ⟨RX8, "began", "(I)V"⟩
abbrev cX8_plainSize : ByteArray := prog_10_method_65_code
def yX8_plainSize : MethodName := ⟨RX8, "plainSize", "(I)I"⟩
abbrev cX8_twiceSize : ByteArray := prog_10_method_66_code
def yX8_twiceSize : MethodName := ⟨RX8, "twiceSize", "(I)I"⟩
abbrev cX8_markOf : ByteArray := prog_10_method_67_code
def yX8_markOf : MethodName := ⟨RX8, "markOf", "(I)I"⟩
abbrev cX8_sizeOf : ByteArray := prog_10_method_68_code
def yX8_sizeOf : MethodName := ⟨RX8, "sizeOf", "(I)I"⟩
abbrev cX8_ask : ByteArray := prog_10_method_69_code
def yX8_ask : MethodName := ⟨RX8, "ask", "(II)I"⟩
abbrev cX8_trace : ByteArray := prog_10_method_70_code
def yX8_trace : MethodName := ⟨RX8, "trace", "(I)I"⟩
abbrev cX8_setOf : ByteArray := prog_10_method_71_code
def yX8_setOf : MethodName := ⟨RX8, "setOf", "(I)I"⟩
abbrev cX8_count : ByteArray := prog_10_method_72_code
def yX8_count : MethodName := ⟨RX8, "count", "(I)I"⟩
abbrev cX8_status : ByteArray := prog_10_method_73_code
def yX8_status : MethodName := ⟨RX8, "status", "()I"⟩
def RJ6 : String := "java/lang/Integer"
def TJ6 : u_T := fun k => match k with
  | _ => ("", "", "", false)
def tyJ6 : Nat → FieldType := fun k => match k with
  | _ => .int
theorem nmJ6 : ∀ a, a < 0 → ∀ b, b < 0 → a ≠ b → (TJ6 a).2.1 ≠ (TJ6 b).2.1 := by decide +kernel
theorem tyJ6_ok : ∀ k, k < 0 → parseFieldDescriptor (TJ6 k).2.2.1 = some (tyJ6 k) := by decide +kernel
abbrev cJ6_bitCount_0f7a4 : ByteArray := prog_11_method_49_code
def yJ6_bitCount_0f7a4 : MethodName := ⟨RJ6, "bitCount", "(I)I"⟩
def RJ9 : String := "java/lang/Math"
def TJ9 : u_T := fun k => match k with
  | _ => ("", "", "", false)
def tyJ9 : Nat → FieldType := fun k => match k with
  | _ => .int
theorem nmJ9 : ∀ a, a < 0 → ∀ b, b < 0 → a ≠ b → (TJ9 a).2.1 ≠ (TJ9 b).2.1 := by decide +kernel
theorem tyJ9_ok : ∀ k, k < 0 → parseFieldDescriptor (TJ9 k).2.2.1 = some (tyJ9 k) := by decide +kernel
abbrev cJ9_max_7cf53 : ByteArray := prog_12_method_65_code
def yJ9_max_7cf53 : MethodName := ⟨RJ9, "max", "(II)I"⟩
abbrev cJ9_min_7cf53 : ByteArray := prog_12_method_69_code
def yJ9_min_7cf53 : MethodName := ⟨RJ9, "min", "(II)I"⟩
def RJ10 : String := "java/lang/System"
def TJ10 : u_T := fun k => match k with
  | _ => ("", "", "", false)
def tyJ10 : Nat → FieldType := fun k => match k with
  | _ => .int
theorem nmJ10 : ∀ a, a < 0 → ∀ b, b < 0 → a ≠ b → (TJ10 a).2.1 ≠ (TJ10 b).2.1 := by decide +kernel
theorem tyJ10_ok : ∀ k, k < 0 → parseFieldDescriptor (TJ10 k).2.2.1 = some (tyJ10 k) := by decide +kernel
def RL : String := "SlateShopLaw"
abbrev cL_law : ByteArray := code
def yL_law : MethodName := ⟨RL, "law", "([I)Z"⟩
abbrev vwCl : List vw_C := [(RX0, TX0, 3), (RX1, TX1, 3), (RX2, TX2, 1), (RX4, TX4, 2), (RX5, TX5, 4), (RX6, TX6, 5), (RX7, TX7, 9), (RX8, TX8, 23)]
/-- the words that every method here is proved over: the good ones of the tables -/
def sx_U : List Cond := lw_tbl.filter goodWord
theorem sx_Ug : ∀ w ∈ sx_U, goodWord w = true := fun w h => (List.mem_filter.mp h).2
theorem sx_Ul : ∀ w ∈ sx_U, w ∈ lw_tbl := fun w h => (List.mem_filter.mp h).1
theorem sx_u0 {w : Cond} (i : Nat) (h : (k2_sels lw_privs)[i]? = some w) (g : goodWord w = true) : w ∈ sx_U := List.mem_filter.mpr ⟨List.mem_append_left _ (List.mem_of_getElem? h), g⟩
theorem sx_u1 {w : Cond} (i : Nat) (h : tables_1_1[i]? = some w) (g : goodWord w = true) : w ∈ sx_U := List.mem_filter.mpr ⟨List.mem_append_right _ (List.mem_append_left _ (List.mem_of_getElem? h)), g⟩
theorem sx_u2 {w : Cond} (i : Nat) (h : tables_1_2[i]? = some w) (g : goodWord w = true) : w ∈ sx_U := List.mem_filter.mpr ⟨List.mem_append_right _ (List.mem_append_right _ (List.mem_append_left _ (List.mem_of_getElem? h))), g⟩
theorem sx_u3 {w : Cond} (i : Nat) (h : tables_1_3[i]? = some w) (g : goodWord w = true) : w ∈ sx_U := List.mem_filter.mpr ⟨List.mem_append_right _ (List.mem_append_right _ (List.mem_append_right _ (List.mem_append_left _ (List.mem_of_getElem? h)))), g⟩
theorem sx_u4 {w : Cond} (i : Nat) (h : tables_1_4[i]? = some w) (g : goodWord w = true) : w ∈ sx_U := List.mem_filter.mpr ⟨List.mem_append_right _ (List.mem_append_right _ (List.mem_append_right _ (List.mem_append_right _ (List.mem_append_left _ (List.mem_of_getElem? h))))), g⟩
theorem sx_u5 {w : Cond} (i : Nat) (h : tables_1_5[i]? = some w) (g : goodWord w = true) : w ∈ sx_U := List.mem_filter.mpr ⟨List.mem_append_right _ (List.mem_append_right _ (List.mem_append_right _ (List.mem_append_right _ (List.mem_append_right _ (List.mem_of_getElem? h))))), g⟩
