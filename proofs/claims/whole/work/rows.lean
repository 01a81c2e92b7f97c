section
-- ===== PART A: goes FIRST, ahead of the names: the tables' words, and 'selects' of the private methods out of them =====
/-- a private method of a class that the tables say can be made, by its rows of tables_1 -/
def lw_okq (q : MethodName × Nat) : Prop := (q.1.cls ≠ "java/lang/invoke/MethodHandle" ∧ q.1.cls ≠ "java/lang/invoke/VarHandle") ∧ Cond.instantiable q.1.cls q.2 ∈ tables_1 ∧ Cond.privateMethod q.1 ∈ tables_1 ∧ Cond.instanceMethod q.1 ∈ tables_1
theorem lw_p0 : lw_okq (⟨"AchromatDesk$GlassText", "nameLength", "()I"⟩, 2) := ⟨⟨by decide +kernel, by decide +kernel⟩, List.mem_of_getElem? (i := 19) (by decide +kernel), List.mem_of_getElem? (i := 158) (by decide +kernel), List.mem_of_getElem? (i := 159) (by decide +kernel)⟩
theorem lw_p1 : lw_okq (⟨"AchromatDesk$DoubletRanking", "keep", "(IILAchromatDesk$Catalogue;)V"⟩, 6) := ⟨⟨by decide +kernel, by decide +kernel⟩, List.mem_of_getElem? (i := 59) (by decide +kernel), List.mem_of_getElem? (i := 334) (by decide +kernel), List.mem_of_getElem? (i := 335) (by decide +kernel)⟩
theorem lw_p2 : lw_okq (⟨"AchromatDesk$DoubletRanking", "placeAmong", "(IZ)I"⟩, 6) := ⟨⟨by decide +kernel, by decide +kernel⟩, List.mem_of_getElem? (i := 59) (by decide +kernel), List.mem_of_getElem? (i := 348) (by decide +kernel), List.mem_of_getElem? (i := 349) (by decide +kernel)⟩
theorem lw_p3 : lw_okq (⟨"AchromatDesk$DoubletRanking", "compareSlots", "(IIZ)I"⟩, 6) := ⟨⟨by decide +kernel, by decide +kernel⟩, List.mem_of_getElem? (i := 59) (by decide +kernel), List.mem_of_getElem? (i := 352) (by decide +kernel), List.mem_of_getElem? (i := 353) (by decide +kernel)⟩
theorem lw_p4 : lw_okq (⟨"AchromatDesk", "greatestTripletPower", "(III)J"⟩, 5) := ⟨⟨by decide +kernel, by decide +kernel⟩, List.mem_of_getElem? (i := 11) (by decide +kernel), List.mem_of_getElem? (i := 380) (by decide +kernel), List.mem_of_getElem? (i := 381) (by decide +kernel)⟩
theorem lw_p5 : lw_okq (⟨"AchromatDesk$LensSystem", "lensPower", "(IIILAchromatDesk$Catalogue;)J"⟩, 3) := ⟨⟨by decide +kernel, by decide +kernel⟩, List.mem_of_getElem? (i := 85) (by decide +kernel), List.mem_of_getElem? (i := 429) (by decide +kernel), List.mem_of_getElem? (i := 430) (by decide +kernel)⟩
theorem lw_p6 : lw_okq (⟨"AchromatDesk", "missWith", "(IIJJJ)J"⟩, 5) := ⟨⟨by decide +kernel, by decide +kernel⟩, List.mem_of_getElem? (i := 11) (by decide +kernel), List.mem_of_getElem? (i := 451) (by decide +kernel), List.mem_of_getElem? (i := 452) (by decide +kernel)⟩
theorem lw_p7 : lw_okq (⟨"AchromatDesk", "powerBetween", "(JII)J"⟩, 5) := ⟨⟨by decide +kernel, by decide +kernel⟩, List.mem_of_getElem? (i := 11) (by decide +kernel), List.mem_of_getElem? (i := 497) (by decide +kernel), List.mem_of_getElem? (i := 498) (by decide +kernel)⟩
theorem lw_p8 : lw_okq (⟨"AchromatDesk", "withGlasses", "(J)J"⟩, 5) := ⟨⟨by decide +kernel, by decide +kernel⟩, List.mem_of_getElem? (i := 11) (by decide +kernel), List.mem_of_getElem? (i := 519) (by decide +kernel), List.mem_of_getElem? (i := 520) (by decide +kernel)⟩
theorem lw_p9 : lw_okq (⟨"AchromatDesk", "withDesigns", "(J)J"⟩, 5) := ⟨⟨by decide +kernel, by decide +kernel⟩, List.mem_of_getElem? (i := 11) (by decide +kernel), List.mem_of_getElem? (i := 532) (by decide +kernel), List.mem_of_getElem? (i := 533) (by decide +kernel)⟩
theorem lw_p10 : lw_okq (⟨"AchromatDesk", "withLenses", "(J)J"⟩, 5) := ⟨⟨by decide +kernel, by decide +kernel⟩, List.mem_of_getElem? (i := 11) (by decide +kernel), List.mem_of_getElem? (i := 539) (by decide +kernel), List.mem_of_getElem? (i := 540) (by decide +kernel)⟩
theorem lw_p11 : lw_okq (⟨"AchromatDesk", "withPlates", "(J)J"⟩, 5) := ⟨⟨by decide +kernel, by decide +kernel⟩, List.mem_of_getElem? (i := 11) (by decide +kernel), List.mem_of_getElem? (i := 545) (by decide +kernel), List.mem_of_getElem? (i := 546) (by decide +kernel)⟩
theorem lw_p12 : lw_okq (⟨"AchromatDesk", "withBuffer", "(J)J"⟩, 5) := ⟨⟨by decide +kernel, by decide +kernel⟩, List.mem_of_getElem? (i := 11) (by decide +kernel), List.mem_of_getElem? (i := 550) (by decide +kernel), List.mem_of_getElem? (i := 551) (by decide +kernel)⟩
theorem lw_p13 : lw_okq (⟨"AchromatDeskModel", "parse", "()V"⟩, 18) := ⟨⟨by decide +kernel, by decide +kernel⟩, List.mem_of_getElem? (i := 555) (by decide +kernel), List.mem_of_getElem? (i := 635) (by decide +kernel), List.mem_of_getElem? (i := 636) (by decide +kernel)⟩
theorem lw_p14 : lw_okq (⟨"AchromatDeskModel", "isRight", "()Z"⟩, 18) := ⟨⟨by decide +kernel, by decide +kernel⟩, List.mem_of_getElem? (i := 555) (by decide +kernel), List.mem_of_getElem? (i := 651) (by decide +kernel), List.mem_of_getElem? (i := 652) (by decide +kernel)⟩
theorem lw_p15 : lw_okq (⟨"AchromatDeskModel", "isNamed", "(J)Z"⟩, 18) := ⟨⟨by decide +kernel, by decide +kernel⟩, List.mem_of_getElem? (i := 555) (by decide +kernel), List.mem_of_getElem? (i := 657) (by decide +kernel), List.mem_of_getElem? (i := 658) (by decide +kernel)⟩
def lw_privs_1 : List (MethodName × Nat) := [(⟨"AchromatDesk$GlassText", "nameLength", "()I"⟩, 2), (⟨"AchromatDesk$DoubletRanking", "keep", "(IILAchromatDesk$Catalogue;)V"⟩, 6), (⟨"AchromatDesk$DoubletRanking", "placeAmong", "(IZ)I"⟩, 6), (⟨"AchromatDesk$DoubletRanking", "compareSlots", "(IIZ)I"⟩, 6), (⟨"AchromatDesk", "greatestTripletPower", "(III)J"⟩, 5), (⟨"AchromatDesk$LensSystem", "lensPower", "(IIILAchromatDesk$Catalogue;)J"⟩, 3), (⟨"AchromatDesk", "missWith", "(IIJJJ)J"⟩, 5), (⟨"AchromatDesk", "powerBetween", "(JII)J"⟩, 5), (⟨"AchromatDesk", "withGlasses", "(J)J"⟩, 5), (⟨"AchromatDesk", "withDesigns", "(J)J"⟩, 5), (⟨"AchromatDesk", "withLenses", "(J)J"⟩, 5), (⟨"AchromatDesk", "withPlates", "(J)J"⟩, 5), (⟨"AchromatDesk", "withBuffer", "(J)J"⟩, 5), (⟨"AchromatDeskModel", "parse", "()V"⟩, 18), (⟨"AchromatDeskModel", "isRight", "()Z"⟩, 18), (⟨"AchromatDeskModel", "isNamed", "(J)Z"⟩, 18)]
theorem lw_r1 : ∀ q ∈ lw_privs_1, lw_okq q := List.forall_mem_cons.mpr ⟨lw_p0, List.forall_mem_cons.mpr ⟨lw_p1, List.forall_mem_cons.mpr ⟨lw_p2, List.forall_mem_cons.mpr ⟨lw_p3, List.forall_mem_cons.mpr ⟨lw_p4, List.forall_mem_cons.mpr ⟨lw_p5, List.forall_mem_cons.mpr ⟨lw_p6, List.forall_mem_cons.mpr ⟨lw_p7, List.forall_mem_cons.mpr ⟨lw_p8, List.forall_mem_cons.mpr ⟨lw_p9, List.forall_mem_cons.mpr ⟨lw_p10, List.forall_mem_cons.mpr ⟨lw_p11, List.forall_mem_cons.mpr ⟨lw_p12, List.forall_mem_cons.mpr ⟨lw_p13, List.forall_mem_cons.mpr ⟨lw_p14, List.forall_mem_cons.mpr ⟨lw_p15, fun _ h => absurd h List.not_mem_nil⟩⟩⟩⟩⟩⟩⟩⟩⟩⟩⟩⟩⟩⟩⟩⟩
theorem lw_p16 : lw_okq (⟨"AchromatDeskModel", "isGlass", "(I)Z"⟩, 18) := ⟨⟨by decide +kernel, by decide +kernel⟩, List.mem_of_getElem? (i := 555) (by decide +kernel), List.mem_of_getElem? (i := 666) (by decide +kernel), List.mem_of_getElem? (i := 667) (by decide +kernel)⟩
theorem lw_p17 : lw_okq (⟨"AchromatDeskModel", "placeNow", "(I)J"⟩, 18) := ⟨⟨by decide +kernel, by decide +kernel⟩, List.mem_of_getElem? (i := 555) (by decide +kernel), List.mem_of_getElem? (i := 687) (by decide +kernel), List.mem_of_getElem? (i := 688) (by decide +kernel)⟩
theorem lw_p18 : lw_okq (⟨"AchromatDeskModel", "abbeNow", "(I)J"⟩, 18) := ⟨⟨by decide +kernel, by decide +kernel⟩, List.mem_of_getElem? (i := 555) (by decide +kernel), List.mem_of_getElem? (i := 695) (by decide +kernel), List.mem_of_getElem? (i := 696) (by decide +kernel)⟩
theorem lw_p19 : lw_okq (⟨"AchromatDeskModel", "a", "(I)J"⟩, 18) := ⟨⟨by decide +kernel, by decide +kernel⟩, List.mem_of_getElem? (i := 555) (by decide +kernel), List.mem_of_getElem? (i := 700) (by decide +kernel), List.mem_of_getElem? (i := 701) (by decide +kernel)⟩
theorem lw_p20 : lw_okq (⟨"AchromatDeskModel", "b", "(I)J"⟩, 18) := ⟨⟨by decide +kernel, by decide +kernel⟩, List.mem_of_getElem? (i := 555) (by decide +kernel), List.mem_of_getElem? (i := 705) (by decide +kernel), List.mem_of_getElem? (i := 706) (by decide +kernel)⟩
theorem lw_p21 : lw_okq (⟨"AchromatDeskModel", "partialNow", "(I)J"⟩, 18) := ⟨⟨by decide +kernel, by decide +kernel⟩, List.mem_of_getElem? (i := 555) (by decide +kernel), List.mem_of_getElem? (i := 713) (by decide +kernel), List.mem_of_getElem? (i := 714) (by decide +kernel)⟩
theorem lw_p22 : lw_okq (⟨"AchromatDeskModel", "d", "(I)J"⟩, 18) := ⟨⟨by decide +kernel, by decide +kernel⟩, List.mem_of_getElem? (i := 555) (by decide +kernel), List.mem_of_getElem? (i := 718) (by decide +kernel), List.mem_of_getElem? (i := 719) (by decide +kernel)⟩
theorem lw_p23 : lw_okq (⟨"AchromatDeskModel", "e", "(II)J"⟩, 18) := ⟨⟨by decide +kernel, by decide +kernel⟩, List.mem_of_getElem? (i := 555) (by decide +kernel), List.mem_of_getElem? (i := 733) (by decide +kernel), List.mem_of_getElem? (i := 734) (by decide +kernel)⟩
theorem lw_p24 : lw_okq (⟨"AchromatDeskModel", "spectrum", "(II)J"⟩, 18) := ⟨⟨by decide +kernel, by decide +kernel⟩, List.mem_of_getElem? (i := 555) (by decide +kernel), List.mem_of_getElem? (i := 745) (by decide +kernel), List.mem_of_getElem? (i := 746) (by decide +kernel)⟩
theorem lw_p25 : lw_okq (⟨"AchromatDeskModel", "doubletNow", "(ZI)J"⟩, 18) := ⟨⟨by decide +kernel, by decide +kernel⟩, List.mem_of_getElem? (i := 555) (by decide +kernel), List.mem_of_getElem? (i := 753) (by decide +kernel), List.mem_of_getElem? (i := 754) (by decide +kernel)⟩
theorem lw_p26 : lw_okq (⟨"AchromatDeskModel", "doublets", "()J"⟩, 18) := ⟨⟨by decide +kernel, by decide +kernel⟩, List.mem_of_getElem? (i := 555) (by decide +kernel), List.mem_of_getElem? (i := 757) (by decide +kernel), List.mem_of_getElem? (i := 758) (by decide +kernel)⟩
theorem lw_p27 : lw_okq (⟨"AchromatDeskModel", "isDoublet", "(II)Z"⟩, 18) := ⟨⟨by decide +kernel, by decide +kernel⟩, List.mem_of_getElem? (i := 555) (by decide +kernel), List.mem_of_getElem? (i := 761) (by decide +kernel), List.mem_of_getElem? (i := 762) (by decide +kernel)⟩
theorem lw_p28 : lw_okq (⟨"AchromatDeskModel", "findNext", "(Z)V"⟩, 18) := ⟨⟨by decide +kernel, by decide +kernel⟩, List.mem_of_getElem? (i := 555) (by decide +kernel), List.mem_of_getElem? (i := 765) (by decide +kernel), List.mem_of_getElem? (i := 766) (by decide +kernel)⟩
theorem lw_p29 : lw_okq (⟨"AchromatDeskModel", "isBefore", "(IIIIZ)Z"⟩, 18) := ⟨⟨by decide +kernel, by decide +kernel⟩, List.mem_of_getElem? (i := 555) (by decide +kernel), List.mem_of_getElem? (i := 769) (by decide +kernel), List.mem_of_getElem? (i := 770) (by decide +kernel)⟩
theorem lw_p30 : lw_okq (⟨"AchromatDeskModel", "strain", "(II)J"⟩, 18) := ⟨⟨by decide +kernel, by decide +kernel⟩, List.mem_of_getElem? (i := 555) (by decide +kernel), List.mem_of_getElem? (i := 779) (by decide +kernel), List.mem_of_getElem? (i := 780) (by decide +kernel)⟩
theorem lw_p31 : lw_okq (⟨"AchromatDeskModel", "t", "(III)J"⟩, 18) := ⟨⟨by decide +kernel, by decide +kernel⟩, List.mem_of_getElem? (i := 555) (by decide +kernel), List.mem_of_getElem? (i := 792) (by decide +kernel), List.mem_of_getElem? (i := 793) (by decide +kernel)⟩
def lw_privs_2 : List (MethodName × Nat) := [(⟨"AchromatDeskModel", "isGlass", "(I)Z"⟩, 18), (⟨"AchromatDeskModel", "placeNow", "(I)J"⟩, 18), (⟨"AchromatDeskModel", "abbeNow", "(I)J"⟩, 18), (⟨"AchromatDeskModel", "a", "(I)J"⟩, 18), (⟨"AchromatDeskModel", "b", "(I)J"⟩, 18), (⟨"AchromatDeskModel", "partialNow", "(I)J"⟩, 18), (⟨"AchromatDeskModel", "d", "(I)J"⟩, 18), (⟨"AchromatDeskModel", "e", "(II)J"⟩, 18), (⟨"AchromatDeskModel", "spectrum", "(II)J"⟩, 18), (⟨"AchromatDeskModel", "doubletNow", "(ZI)J"⟩, 18), (⟨"AchromatDeskModel", "doublets", "()J"⟩, 18), (⟨"AchromatDeskModel", "isDoublet", "(II)Z"⟩, 18), (⟨"AchromatDeskModel", "findNext", "(Z)V"⟩, 18), (⟨"AchromatDeskModel", "isBefore", "(IIIIZ)Z"⟩, 18), (⟨"AchromatDeskModel", "strain", "(II)J"⟩, 18), (⟨"AchromatDeskModel", "t", "(III)J"⟩, 18)]
theorem lw_r2 : ∀ q ∈ lw_privs_2, lw_okq q := List.forall_mem_cons.mpr ⟨lw_p16, List.forall_mem_cons.mpr ⟨lw_p17, List.forall_mem_cons.mpr ⟨lw_p18, List.forall_mem_cons.mpr ⟨lw_p19, List.forall_mem_cons.mpr ⟨lw_p20, List.forall_mem_cons.mpr ⟨lw_p21, List.forall_mem_cons.mpr ⟨lw_p22, List.forall_mem_cons.mpr ⟨lw_p23, List.forall_mem_cons.mpr ⟨lw_p24, List.forall_mem_cons.mpr ⟨lw_p25, List.forall_mem_cons.mpr ⟨lw_p26, List.forall_mem_cons.mpr ⟨lw_p27, List.forall_mem_cons.mpr ⟨lw_p28, List.forall_mem_cons.mpr ⟨lw_p29, List.forall_mem_cons.mpr ⟨lw_p30, List.forall_mem_cons.mpr ⟨lw_p31, fun _ h => absurd h List.not_mem_nil⟩⟩⟩⟩⟩⟩⟩⟩⟩⟩⟩⟩⟩⟩⟩⟩
theorem lw_p32 : lw_okq (⟨"AchromatDeskModel", "x", "(II)J"⟩, 18) := ⟨⟨by decide +kernel, by decide +kernel⟩, List.mem_of_getElem? (i := 555) (by decide +kernel), List.mem_of_getElem? (i := 796) (by decide +kernel), List.mem_of_getElem? (i := 797) (by decide +kernel)⟩
theorem lw_p33 : lw_okq (⟨"AchromatDeskModel", "tripletNow", "(IIIII)J"⟩, 18) := ⟨⟨by decide +kernel, by decide +kernel⟩, List.mem_of_getElem? (i := 555) (by decide +kernel), List.mem_of_getElem? (i := 800) (by decide +kernel), List.mem_of_getElem? (i := 801) (by decide +kernel)⟩
theorem lw_p34 : lw_okq (⟨"AchromatDeskModel", "tripletBest", "()J"⟩, 18) := ⟨⟨by decide +kernel, by decide +kernel⟩, List.mem_of_getElem? (i := 555) (by decide +kernel), List.mem_of_getElem? (i := 808) (by decide +kernel), List.mem_of_getElem? (i := 809) (by decide +kernel)⟩
theorem lw_p35 : lw_okq (⟨"AchromatDeskModel", "strongest", "(III)J"⟩, 18) := ⟨⟨by decide +kernel, by decide +kernel⟩, List.mem_of_getElem? (i := 555) (by decide +kernel), List.mem_of_getElem? (i := 813) (by decide +kernel), List.mem_of_getElem? (i := 814) (by decide +kernel)⟩
theorem lw_p36 : lw_okq (⟨"AchromatDeskModel", "isLens", "(I)Z"⟩, 18) := ⟨⟨by decide +kernel, by decide +kernel⟩, List.mem_of_getElem? (i := 555) (by decide +kernel), List.mem_of_getElem? (i := 827) (by decide +kernel), List.mem_of_getElem? (i := 828) (by decide +kernel)⟩
theorem lw_p37 : lw_okq (⟨"AchromatDeskModel", "systemNow", "(I)J"⟩, 18) := ⟨⟨by decide +kernel, by decide +kernel⟩, List.mem_of_getElem? (i := 555) (by decide +kernel), List.mem_of_getElem? (i := 840) (by decide +kernel), List.mem_of_getElem? (i := 841) (by decide +kernel)⟩
theorem lw_p38 : lw_okq (⟨"AchromatDeskModel", "lensPower", "(III)J"⟩, 18) := ⟨⟨by decide +kernel, by decide +kernel⟩, List.mem_of_getElem? (i := 555) (by decide +kernel), List.mem_of_getElem? (i := 844) (by decide +kernel), List.mem_of_getElem? (i := 845) (by decide +kernel)⟩
theorem lw_p39 : lw_okq (⟨"AchromatDeskModel", "balanceNow", "(I)J"⟩, 18) := ⟨⟨by decide +kernel, by decide +kernel⟩, List.mem_of_getElem? (i := 555) (by decide +kernel), List.mem_of_getElem? (i := 852) (by decide +kernel), List.mem_of_getElem? (i := 853) (by decide +kernel)⟩
theorem lw_p40 : lw_okq (⟨"AchromatDeskModel", "wrongNow", "(JJJ)J"⟩, 18) := ⟨⟨by decide +kernel, by decide +kernel⟩, List.mem_of_getElem? (i := 555) (by decide +kernel), List.mem_of_getElem? (i := 865) (by decide +kernel), List.mem_of_getElem? (i := 866) (by decide +kernel)⟩
theorem lw_p41 : lw_okq (⟨"AchromatDeskModel", "miss", "(II)J"⟩, 18) := ⟨⟨by decide +kernel, by decide +kernel⟩, List.mem_of_getElem? (i := 555) (by decide +kernel), List.mem_of_getElem? (i := 869) (by decide +kernel), List.mem_of_getElem? (i := 870) (by decide +kernel)⟩
theorem lw_p42 : lw_okq (⟨"AchromatDeskModel", "surfacesBest", "(I)J"⟩, 18) := ⟨⟨by decide +kernel, by decide +kernel⟩, List.mem_of_getElem? (i := 555) (by decide +kernel), List.mem_of_getElem? (i := 889) (by decide +kernel), List.mem_of_getElem? (i := 890) (by decide +kernel)⟩
theorem lw_p43 : lw_okq (⟨"AchromatDeskModel", "signed", "(II)J"⟩, 18) := ⟨⟨by decide +kernel, by decide +kernel⟩, List.mem_of_getElem? (i := 555) (by decide +kernel), List.mem_of_getElem? (i := 893) (by decide +kernel), List.mem_of_getElem? (i := 894) (by decide +kernel)⟩
theorem lw_p44 : lw_okq (⟨"AchromatDeskModel", "surfaces", "(IJJ)J"⟩, 18) := ⟨⟨by decide +kernel, by decide +kernel⟩, List.mem_of_getElem? (i := 555) (by decide +kernel), List.mem_of_getElem? (i := 897) (by decide +kernel), List.mem_of_getElem? (i := 898) (by decide +kernel)⟩
theorem lw_p45 : lw_okq (⟨"AchromatDeskModel", "mix", "(J)V"⟩, 18) := ⟨⟨by decide +kernel, by decide +kernel⟩, List.mem_of_getElem? (i := 555) (by decide +kernel), List.mem_of_getElem? (i := 911) (by decide +kernel), List.mem_of_getElem? (i := 912) (by decide +kernel)⟩
def lw_privs_3 : List (MethodName × Nat) := [(⟨"AchromatDeskModel", "x", "(II)J"⟩, 18), (⟨"AchromatDeskModel", "tripletNow", "(IIIII)J"⟩, 18), (⟨"AchromatDeskModel", "tripletBest", "()J"⟩, 18), (⟨"AchromatDeskModel", "strongest", "(III)J"⟩, 18), (⟨"AchromatDeskModel", "isLens", "(I)Z"⟩, 18), (⟨"AchromatDeskModel", "systemNow", "(I)J"⟩, 18), (⟨"AchromatDeskModel", "lensPower", "(III)J"⟩, 18), (⟨"AchromatDeskModel", "balanceNow", "(I)J"⟩, 18), (⟨"AchromatDeskModel", "wrongNow", "(JJJ)J"⟩, 18), (⟨"AchromatDeskModel", "miss", "(II)J"⟩, 18), (⟨"AchromatDeskModel", "surfacesBest", "(I)J"⟩, 18), (⟨"AchromatDeskModel", "signed", "(II)J"⟩, 18), (⟨"AchromatDeskModel", "surfaces", "(IJJ)J"⟩, 18), (⟨"AchromatDeskModel", "mix", "(J)V"⟩, 18)]
theorem lw_r3 : ∀ q ∈ lw_privs_3, lw_okq q := List.forall_mem_cons.mpr ⟨lw_p32, List.forall_mem_cons.mpr ⟨lw_p33, List.forall_mem_cons.mpr ⟨lw_p34, List.forall_mem_cons.mpr ⟨lw_p35, List.forall_mem_cons.mpr ⟨lw_p36, List.forall_mem_cons.mpr ⟨lw_p37, List.forall_mem_cons.mpr ⟨lw_p38, List.forall_mem_cons.mpr ⟨lw_p39, List.forall_mem_cons.mpr ⟨lw_p40, List.forall_mem_cons.mpr ⟨lw_p41, List.forall_mem_cons.mpr ⟨lw_p42, List.forall_mem_cons.mpr ⟨lw_p43, List.forall_mem_cons.mpr ⟨lw_p44, List.forall_mem_cons.mpr ⟨lw_p45, fun _ h => absurd h List.not_mem_nil⟩⟩⟩⟩⟩⟩⟩⟩⟩⟩⟩⟩⟩⟩
def lw_privs : List (MethodName × Nat) := lw_privs_1 ++ (lw_privs_2 ++ (lw_privs_3))
def lw_tbl : List Cond := k2_sels lw_privs ++ tables_1
theorem lw_privs_ok : ∀ q ∈ lw_privs, lw_okq q := by
  show ∀ q ∈ lw_privs_1 ++ (lw_privs_2 ++ (lw_privs_3)), lw_okq q
  exact List.forall_mem_append.mpr ⟨lw_r1, List.forall_mem_append.mpr ⟨lw_r2, lw_r3⟩⟩
end
section
/-! ===== BEGIN words of one list among another's, by their places ===== -/
theorem goodIn_r {big : List Cond} (ws : List Cond) (ps : List Nat) (hp : ws = ps.filterMap (fun i => big[i]?)) (h : ws.all goodWord = true) : GoodIn big ws := by
  intro w hw
  have h1 := List.all_eq_true.mp h w hw
  rw [hp] at hw
  obtain ⟨i, -, hi⟩ := List.mem_filterMap.mp hw
  have hm : w ∈ big := by first | exact List.mem_of_getElem? hi | exact List.getElem?_mem hi
  exact ⟨hm, good_of_word h1⟩
theorem goodIn_app {big a b : List Cond} (ha : GoodIn big a) (hb : GoodIn big b) : GoodIn big (a ++ b) := fun w h => (List.mem_append.mp h).elim (ha w) (hb w)
theorem goodIn_ca {big a b : List Cond} {c : Cond} (ha : GoodIn big (c :: a)) (hb : GoodIn big b) : GoodIn big (c :: (a ++ b)) := fun w h => (List.mem_cons.mp h).elim (fun e => ha w (List.mem_cons.mpr (Or.inl e))) (fun h => (List.mem_append.mp h).elim (fun h => ha w (List.mem_cons.mpr (Or.inr h))) (hb w))
theorem goodIn_sub {big ws : List Cond} (hm : ∀ w ∈ ws, w ∈ big) (h : ws.all goodWord = true) : GoodIn big ws := fun w hw => ⟨hm w hw, good_of_word (List.all_eq_true.mp h w hw)⟩
/-! ===== END ===== -/

/-! ===== BEGIN printed: names, fields, word lists, decode rows ===== -/
def RX0 : String := "AchromatDesk$Catalogue"
def TX0 : u_T := fun k => match k with
  | 0 => ("AchromatDesk$Catalogue", "nameKeys", "[J", true)
  | 1 => ("AchromatDesk$Catalogue", "indicesF", "[I", true)
  | 2 => ("AchromatDesk$Catalogue", "indicesD", "[I", true)
  | 3 => ("AchromatDesk$Catalogue", "indicesC", "[I", true)
  | _ => ("AchromatDesk$Catalogue", "count", "I", false)
def tyX0 : Nat → FieldType := fun k => match k with
  | 0 => .array .long
  | 1 => .array .int
  | 2 => .array .int
  | 3 => .array .int
  | _ => .int
abbrev wsX00 : List Cond := u_ws RX0 TX0 5
theorem nmX0 : ∀ a, a < 5 → ∀ b, b < 5 → a ≠ b → (TX0 a).2.1 ≠ (TX0 b).2.1 := by decide +kernel
theorem tyX0_ok : ∀ k, k < 5 → parseFieldDescriptor (TX0 k).2.2.1 = some (tyX0 k) := by decide +kernel
abbrev cX0_init : ByteArray := prog_2_method_1_code
def yX0_init : MethodName := ⟨RX0, "<init>", "()V"⟩
abbrev cX0_has : ByteArray := prog_2_method_2_code
def yX0_has : MethodName := ⟨RX0, "has", "(I)Z"⟩
abbrev cX0_hasName : ByteArray := prog_2_method_3_code
def yX0_hasName : MethodName := ⟨RX0, "hasName", "(J)Z"⟩
abbrev cX0_add : ByteArray := prog_2_method_4_code
def yX0_add : MethodName := ⟨RX0, "add", "(JIII)V"⟩
abbrev cX0_remove : ByteArray := prog_2_method_5_code
def yX0_remove : MethodName := ⟨RX0, "remove", "(I)V"⟩
abbrev cX0_indexFor : ByteArray := prog_2_method_6_code
def yX0_indexFor : MethodName := ⟨RX0, "indexFor", "(II)J"⟩
abbrev cX0_namesBefore : ByteArray := prog_2_method_7_code
def yX0_namesBefore : MethodName := ⟨RX0, "namesBefore", "(I)I"⟩
abbrev cX0_abbeNumber : ByteArray := prog_2_method_8_code
def yX0_abbeNumber : MethodName := ⟨RX0, "abbeNumber", "(I)J"⟩
abbrev cX0_leastAbbeFrom : ByteArray := prog_2_method_9_code
def yX0_leastAbbeFrom : MethodName := ⟨RX0, "leastAbbeFrom", "(I)I"⟩
abbrev cX0_valueA : ByteArray := prog_2_method_10_code
def yX0_valueA : MethodName := ⟨RX0, "valueA", "(I)J"⟩
abbrev cX0_valueB : ByteArray := prog_2_method_11_code
def yX0_valueB : MethodName := ⟨RX0, "valueB", "(I)J"⟩
abbrev cX0_valueD : ByteArray := prog_2_method_12_code
def yX0_valueD : MethodName := ⟨RX0, "valueD", "(I)J"⟩
abbrev cX0_valueE : ByteArray := prog_2_method_13_code
def yX0_valueE : MethodName := ⟨RX0, "valueE", "(II)J"⟩
abbrev cX0_valueX : ByteArray := prog_2_method_14_code
def yX0_valueX : MethodName := ⟨RX0, "valueX", "(II)J"⟩
abbrev cX0_tripletShare : ByteArray := prog_2_method_15_code
def yX0_tripletShare : MethodName := ⟨RX0, "tripletShare", "(III)J"⟩
def RX1 : String := "AchromatDesk$DoubletRanking"
def TX1 : u_T := fun k => match k with
  | 0 => ("AchromatDesk$DoubletRanking", "codes", "[I", true)
  | 1 => ("AchromatDesk$DoubletRanking", "divisors", "[J", true)
  | 2 => ("AchromatDesk$DoubletRanking", "spectra", "[J", true)
  | 3 => ("AchromatDesk$DoubletRanking", "strains", "[J", true)
  | 4 => ("AchromatDesk$DoubletRanking", "order", "[I", true)
  | _ => ("AchromatDesk$DoubletRanking", "count", "I", false)
def tyX1 : Nat → FieldType := fun k => match k with
  | 0 => .array .int
  | 1 => .array .long
  | 2 => .array .long
  | 3 => .array .long
  | 4 => .array .int
  | _ => .int
abbrev wsX10 : List Cond := u_ws RX1 TX1 6
theorem nmX1 : ∀ a, a < 6 → ∀ b, b < 6 → a ≠ b → (TX1 a).2.1 ≠ (TX1 b).2.1 := by decide +kernel
theorem tyX1_ok : ∀ k, k < 6 → parseFieldDescriptor (TX1 k).2.2.1 = some (tyX1 k) := by decide +kernel
abbrev cX1_init : ByteArray := prog_3_method_1_code
def yX1_init : MethodName := ⟨RX1, "<init>", "()V"⟩
abbrev cX1_collect : ByteArray := prog_3_method_2_code
def yX1_collect : MethodName := ⟨RX1, "collect", "(LAchromatDesk$Catalogue;)V"⟩
abbrev cX1_rank : ByteArray := prog_3_method_3_code
def yX1_rank : MethodName := ⟨RX1, "rank", "(Z)V"⟩
abbrev cX1_codeAt : ByteArray := prog_3_method_4_code
def yX1_codeAt : MethodName := ⟨RX1, "codeAt", "(I)I"⟩
abbrev cX1_keep : ByteArray := prog_3_method_5_code
def yX1_keep : MethodName := ⟨RX1, "keep", "(IILAchromatDesk$Catalogue;)V"⟩
abbrev cX1_placeAmong : ByteArray := prog_3_method_6_code
def yX1_placeAmong : MethodName := ⟨RX1, "placeAmong", "(IZ)I"⟩
abbrev cX1_compareSlots : ByteArray := prog_3_method_7_code
def yX1_compareSlots : MethodName := ⟨RX1, "compareSlots", "(IIZ)I"⟩
def RX2 : String := "AchromatDesk$GlassText"
def TX2 : u_T := fun k => match k with
  | 0 => ("AchromatDesk$GlassText", "codes", "[I", true)
  | _ => ("AchromatDesk$GlassText", "length", "I", false)
def tyX2 : Nat → FieldType := fun k => match k with
  | 0 => .array .int
  | _ => .int
abbrev wsX20 : List Cond := u_ws RX2 TX2 2
theorem nmX2 : ∀ a, a < 2 → ∀ b, b < 2 → a ≠ b → (TX2 a).2.1 ≠ (TX2 b).2.1 := by decide +kernel
theorem tyX2_ok : ∀ k, k < 2 → parseFieldDescriptor (TX2 k).2.2.1 = some (tyX2 k) := by decide +kernel
abbrev cX2_init : ByteArray := prog_4_method_1_code
def yX2_init : MethodName := ⟨RX2, "<init>", "()V"⟩
abbrev cX2_add : ByteArray := prog_4_method_2_code
def yX2_add : MethodName := ⟨RX2, "add", "(I)V"⟩
abbrev cX2_empty : ByteArray := prog_4_method_3_code
def yX2_empty : MethodName := ⟨RX2, "empty", "()V"⟩
abbrev cX2_codeAt : ByteArray := prog_4_method_4_code
def yX2_codeAt : MethodName := ⟨RX2, "codeAt", "(I)I"⟩
abbrev cX2_firstFault : ByteArray := prog_4_method_5_code
def yX2_firstFault : MethodName := ⟨RX2, "firstFault", "()I"⟩
abbrev cX2_isComplete : ByteArray := prog_4_method_6_code
def yX2_isComplete : MethodName := ⟨RX2, "isComplete", "()Z"⟩
abbrev cX2_number : ByteArray := prog_4_method_7_code
def yX2_number : MethodName := ⟨RX2, "number", "(I)I"⟩
abbrev cX2_nameKey : ByteArray := prog_4_method_8_code
def yX2_nameKey : MethodName := ⟨RX2, "nameKey", "()J"⟩
abbrev cX2_nameLength : ByteArray := prog_4_method_9_code
def yX2_nameLength : MethodName := ⟨RX2, "nameLength", "()I"⟩
abbrev cX2_isAllowedBehindName : ByteArray := prog_4_method_10_code
def yX2_isAllowedBehindName : MethodName := ⟨RX2, "isAllowedBehindName", "(II)Z"⟩
abbrev cX2_isLetter : ByteArray := prog_4_method_11_code
def yX2_isLetter : MethodName := ⟨RX2, "isLetter", "(I)Z"⟩
abbrev cX2_isDigit : ByteArray := prog_4_method_12_code
def yX2_isDigit : MethodName := ⟨RX2, "isDigit", "(I)Z"⟩
def RX3 : String := "AchromatDesk$LensSystem"
def TX3 : u_T := fun k => match k with
  | 0 => ("AchromatDesk$LensSystem", "glassNumbers", "[I", true)
  | 1 => ("AchromatDesk$LensSystem", "powers", "[I", true)
  | _ => ("AchromatDesk$LensSystem", "count", "I", false)
def tyX3 : Nat → FieldType := fun k => match k with
  | 0 => .array .int
  | 1 => .array .int
  | _ => .int
abbrev wsX30 : List Cond := u_ws RX3 TX3 3
theorem nmX3 : ∀ a, a < 3 → ∀ b, b < 3 → a ≠ b → (TX3 a).2.1 ≠ (TX3 b).2.1 := by decide +kernel
theorem tyX3_ok : ∀ k, k < 3 → parseFieldDescriptor (TX3 k).2.2.1 = some (tyX3 k) := by decide +kernel
abbrev cX3_init : ByteArray := prog_5_method_1_code
def yX3_init : MethodName := ⟨RX3, "<init>", "()V"⟩
abbrev cX3_has : ByteArray := prog_5_method_2_code
def yX3_has : MethodName := ⟨RX3, "has", "(I)Z"⟩
abbrev cX3_uses : ByteArray := prog_5_method_3_code
def yX3_uses : MethodName := ⟨RX3, "uses", "(I)Z"⟩
abbrev cX3_add : ByteArray := prog_5_method_4_code
def yX3_add : MethodName := ⟨RX3, "add", "(II)V"⟩
abbrev cX3_remove : ByteArray := prog_5_method_5_code
def yX3_remove : MethodName := ⟨RX3, "remove", "(I)V"⟩
abbrev cX3_closeGapAt : ByteArray := prog_5_method_6_code
def yX3_closeGapAt : MethodName := ⟨RX3, "closeGapAt", "(I)V"⟩
abbrev cX3_glassOf : ByteArray := prog_5_method_7_code
def yX3_glassOf : MethodName := ⟨RX3, "glassOf", "(I)I"⟩
abbrev cX3_powerOf : ByteArray := prog_5_method_8_code
def yX3_powerOf : MethodName := ⟨RX3, "powerOf", "(I)I"⟩
abbrev cX3_powerFor : ByteArray := prog_5_method_9_code
def yX3_powerFor : MethodName := ⟨RX3, "powerFor", "(ILAchromatDesk$Catalogue;)J"⟩
abbrev cX3_changeWith : ByteArray := prog_5_method_10_code
def yX3_changeWith : MethodName := ⟨RX3, "changeWith", "(IIILAchromatDesk$Catalogue;)J"⟩
abbrev cX3_lensPower : ByteArray := prog_5_method_11_code
def yX3_lensPower : MethodName := ⟨RX3, "lensPower", "(IIILAchromatDesk$Catalogue;)J"⟩
def RX4 : String := "AchromatDesk$PlateSet"
def TX4 : u_T := fun k => match k with
  | 0 => ("AchromatDesk$PlateSet", "radii", "[I", true)
  | _ => ("AchromatDesk$PlateSet", "count", "I", false)
def tyX4 : Nat → FieldType := fun k => match k with
  | 0 => .array .int
  | _ => .int
abbrev wsX40 : List Cond := u_ws RX4 TX4 2
theorem nmX4 : ∀ a, a < 2 → ∀ b, b < 2 → a ≠ b → (TX4 a).2.1 ≠ (TX4 b).2.1 := by decide +kernel
theorem tyX4_ok : ∀ k, k < 2 → parseFieldDescriptor (TX4 k).2.2.1 = some (tyX4 k) := by decide +kernel
abbrev cX4_init : ByteArray := prog_6_method_1_code
def yX4_init : MethodName := ⟨RX4, "<init>", "()V"⟩
abbrev cX4_has : ByteArray := prog_6_method_2_code
def yX4_has : MethodName := ⟨RX4, "has", "(I)Z"⟩
abbrev cX4_hasRadius : ByteArray := prog_6_method_3_code
def yX4_hasRadius : MethodName := ⟨RX4, "hasRadius", "(I)Z"⟩
abbrev cX4_add : ByteArray := prog_6_method_4_code
def yX4_add : MethodName := ⟨RX4, "add", "(I)V"⟩
abbrev cX4_nearestTo : ByteArray := prog_6_method_5_code
def yX4_nearestTo : MethodName := ⟨RX4, "nearestTo", "(I)I"⟩
abbrev cX4_signedRadius : ByteArray := prog_6_method_6_code
def yX4_signedRadius : MethodName := ⟨RX4, "signedRadius", "(I)J"⟩
def RX5 : String := "AchromatDesk"
def TX5 : u_T := fun k => match k with
  | 0 => ("AchromatDesk", "buffer", "LAchromatDesk$GlassText;", true)
  | 1 => ("AchromatDesk", "glasses", "LAchromatDesk$Catalogue;", true)
  | 2 => ("AchromatDesk", "doublets", "LAchromatDesk$DoubletRanking;", true)
  | 3 => ("AchromatDesk", "system", "LAchromatDesk$LensSystem;", true)
  | _ => ("AchromatDesk", "plates", "LAchromatDesk$PlateSet;", true)
def tyX5 : Nat → FieldType := fun k => match k with
  | 0 => .object "AchromatDesk$GlassText"
  | 1 => .object "AchromatDesk$Catalogue"
  | 2 => .object "AchromatDesk$DoubletRanking"
  | 3 => .object "AchromatDesk$LensSystem"
  | _ => .object "AchromatDesk$PlateSet"
abbrev wsX50 : List Cond := u_ws RX5 TX5 5
theorem nmX5 : ∀ a, a < 5 → ∀ b, b < 5 → a ≠ b → (TX5 a).2.1 ≠ (TX5 b).2.1 := by decide +kernel
theorem tyX5_ok : ∀ k, k < 5 → parseFieldDescriptor (TX5 k).2.2.1 = some (tyX5 k) := by decide +kernel
abbrev cX5_init : ByteArray := prog_1_method_1_code
def yX5_init : MethodName := ⟨RX5, "<init>", "()V"⟩
abbrev cX5_append : ByteArray := prog_1_method_2_code
def yX5_append : MethodName := ⟨RX5, "append", "(I)J"⟩
abbrev cX5_clearBuffer : ByteArray := prog_1_method_3_code
def yX5_clearBuffer : MethodName := ⟨RX5, "clearBuffer", "()J"⟩
abbrev cX5_errorPosition : ByteArray := prog_1_method_4_code
def yX5_errorPosition : MethodName := ⟨RX5, "errorPosition", "()J"⟩
abbrev cX5_addGlass : ByteArray := prog_1_method_5_code
def yX5_addGlass : MethodName := ⟨RX5, "addGlass", "()J"⟩
abbrev cX5_removeGlass : ByteArray := prog_1_method_6_code
def yX5_removeGlass : MethodName := ⟨RX5, "removeGlass", "(I)J"⟩
abbrev cX5_glassCount : ByteArray := prog_1_method_7_code
def yX5_glassCount : MethodName := ⟨RX5, "glassCount", "()J"⟩
abbrev cX5_index : ByteArray := prog_1_method_8_code
def yX5_index : MethodName := ⟨RX5, "index", "(II)J"⟩
abbrev cX5_placeByName : ByteArray := prog_1_method_9_code
def yX5_placeByName : MethodName := ⟨RX5, "placeByName", "(I)J"⟩
abbrev cX5_abbe : ByteArray := prog_1_method_10_code
def yX5_abbe : MethodName := ⟨RX5, "abbe", "(I)J"⟩
abbrev cX5_partial : ByteArray := prog_1_method_11_code
def yX5_partial : MethodName := ⟨RX5, "partial", "(I)J"⟩
abbrev cX5_glassWithAbbe : ByteArray := prog_1_method_12_code
def yX5_glassWithAbbe : MethodName := ⟨RX5, "glassWithAbbe", "(I)J"⟩
abbrev cX5_doubletPower : ByteArray := prog_1_method_13_code
def yX5_doubletPower : MethodName := ⟨RX5, "doubletPower", "(IIII)J"⟩
abbrev cX5_secondarySpectrum : ByteArray := prog_1_method_14_code
def yX5_secondarySpectrum : MethodName := ⟨RX5, "secondarySpectrum", "(III)J"⟩
abbrev cX5_doubletAt : ByteArray := prog_1_method_15_code
def yX5_doubletAt : MethodName := ⟨RX5, "doubletAt", "(ZI)J"⟩
abbrev cX5_doubletCount : ByteArray := prog_1_method_16_code
def yX5_doubletCount : MethodName := ⟨RX5, "doubletCount", "()J"⟩
abbrev cX5_tripletPower : ByteArray := prog_1_method_17_code
def yX5_tripletPower : MethodName := ⟨RX5, "tripletPower", "(IIIII)J"⟩
abbrev cX5_bestTriplet : ByteArray := prog_1_method_18_code
def yX5_bestTriplet : MethodName := ⟨RX5, "bestTriplet", "()J"⟩
abbrev cX5_addLens : ByteArray := prog_1_method_19_code
def yX5_addLens : MethodName := ⟨RX5, "addLens", "(II)J"⟩
abbrev cX5_removeLens : ByteArray := prog_1_method_20_code
def yX5_removeLens : MethodName := ⟨RX5, "removeLens", "(I)J"⟩
abbrev cX5_lensCount : ByteArray := prog_1_method_21_code
def yX5_lensCount : MethodName := ⟨RX5, "lensCount", "()J"⟩
abbrev cX5_systemPower : ByteArray := prog_1_method_22_code
def yX5_systemPower : MethodName := ⟨RX5, "systemPower", "(I)J"⟩
abbrev cX5_balancePower : ByteArray := prog_1_method_23_code
def yX5_balancePower : MethodName := ⟨RX5, "balancePower", "(I)J"⟩
abbrev cX5_findWrongGlass : ByteArray := prog_1_method_24_code
def yX5_findWrongGlass : MethodName := ⟨RX5, "findWrongGlass", "(JJJ)J"⟩
abbrev cX5_addPlate : ByteArray := prog_1_method_25_code
def yX5_addPlate : MethodName := ⟨RX5, "addPlate", "(I)J"⟩
abbrev cX5_plateCount : ByteArray := prog_1_method_26_code
def yX5_plateCount : MethodName := ⟨RX5, "plateCount", "()J"⟩
abbrev cX5_nearestPlate : ByteArray := prog_1_method_27_code
def yX5_nearestPlate : MethodName := ⟨RX5, "nearestPlate", "(I)J"⟩
abbrev cX5_bestSurfaces : ByteArray := prog_1_method_28_code
def yX5_bestSurfaces : MethodName := ⟨RX5, "bestSurfaces", "(I)J"⟩
abbrev cX5_surfacePower : ByteArray := prog_1_method_29_code
def yX5_surfacePower : MethodName := ⟨RX5, "surfacePower", "(II)J"⟩
abbrev cX5_digest : ByteArray := prog_1_method_30_code
def yX5_digest : MethodName := ⟨RX5, "digest", "()J"⟩
abbrev cX5_isColour : ByteArray := prog_1_method_31_code
def yX5_isColour : MethodName := ⟨RX5, "isColour", "(I)Z"⟩
abbrev cX5_isDesignPower : ByteArray := prog_1_method_32_code
def yX5_isDesignPower : MethodName := ⟨RX5, "isDesignPower", "(I)Z"⟩
abbrev cX5_isMeasurable : ByteArray := prog_1_method_33_code
def yX5_isMeasurable : MethodName := ⟨RX5, "isMeasurable", "(J)Z"⟩
abbrev cX5_areGlassIndices : ByteArray := prog_1_method_34_code
def yX5_areGlassIndices : MethodName := ⟨RX5, "areGlassIndices", "(III)Z"⟩
abbrev cX5_floorQuotient : ByteArray := prog_1_method_35_code
def yX5_floorQuotient : MethodName := ⟨RX5, "floorQuotient", "(JJ)J"⟩
abbrev cX5_greatestTripletPower : ByteArray := prog_1_method_36_code
def yX5_greatestTripletPower : MethodName := ⟨RX5, "greatestTripletPower", "(III)J"⟩
abbrev cX5_absolutePower : ByteArray := prog_1_method_37_code
def yX5_absolutePower : MethodName := ⟨RX5, "absolutePower", "(JJ)J"⟩
abbrev cX5_missWith : ByteArray := prog_1_method_38_code
def yX5_missWith : MethodName := ⟨RX5, "missWith", "(IIJJJ)J"⟩
abbrev cX5_powerBetween : ByteArray := prog_1_method_39_code
def yX5_powerBetween : MethodName := ⟨RX5, "powerBetween", "(JII)J"⟩
abbrev cX5_mixed : ByteArray := prog_1_method_40_code
def yX5_mixed : MethodName := ⟨RX5, "mixed", "(JJ)J"⟩
abbrev cX5_withGlasses : ByteArray := prog_1_method_41_code
def yX5_withGlasses : MethodName := ⟨RX5, "withGlasses", "(J)J"⟩
abbrev cX5_withDesigns : ByteArray := prog_1_method_42_code
def yX5_withDesigns : MethodName := ⟨RX5, "withDesigns", "(J)J"⟩
abbrev cX5_withLenses : ByteArray := prog_1_method_43_code
def yX5_withLenses : MethodName := ⟨RX5, "withLenses", "(J)J"⟩
abbrev cX5_withPlates : ByteArray := prog_1_method_44_code
def yX5_withPlates : MethodName := ⟨RX5, "withPlates", "(J)J"⟩
abbrev cX5_withBuffer : ByteArray := prog_1_method_45_code
def yX5_withBuffer : MethodName := ⟨RX5, "withBuffer", "(J)J"⟩
def RX6 : String := "AchromatDeskModel"
def TX6 : u_T := fun k => match k with
  | 0 => ("AchromatDeskModel", "bufferLength", "I", false)
  | 1 => ("AchromatDeskModel", "buffer", "[I", true)
  | 2 => ("AchromatDeskModel", "glasses", "I", false)
  | 3 => ("AchromatDeskModel", "name", "[J", true)
  | 4 => ("AchromatDeskModel", "indices", "[I", true)
  | 5 => ("AchromatDeskModel", "lenses", "I", false)
  | 6 => ("AchromatDeskModel", "glassOf", "[I", true)
  | 7 => ("AchromatDeskModel", "powerOf", "[I", true)
  | 8 => ("AchromatDeskModel", "plates", "I", false)
  | 9 => ("AchromatDeskModel", "radius", "[I", true)
  | 10 => ("AchromatDeskModel", "readName", "J", false)
  | 11 => ("AchromatDeskModel", "readNumber", "[I", true)
  | 12 => ("AchromatDeskModel", "errorAt", "I", false)
  | 13 => ("AchromatDeskModel", "isWhole", "Z", false)
  | 14 => ("AchromatDeskModel", "one", "I", false)
  | 15 => ("AchromatDeskModel", "other", "I", false)
  | 16 => ("AchromatDeskModel", "measured", "[J", true)
  | _ => ("AchromatDeskModel", "h", "J", false)
def tyX6 : Nat → FieldType := fun k => match k with
  | 0 => .int
  | 1 => .array .int
  | 2 => .int
  | 3 => .array .long
  | 4 => .array .int
  | 5 => .int
  | 6 => .array .int
  | 7 => .array .int
  | 8 => .int
  | 9 => .array .int
  | 10 => .long
  | 11 => .array .int
  | 12 => .int
  | 13 => .boolean
  | 14 => .int
  | 15 => .int
  | 16 => .array .long
  | _ => .long
abbrev wsX60 : List Cond := u_ws RX6 TX6 18
theorem nmX6 : ∀ a, a < 18 → ∀ b, b < 18 → a ≠ b → (TX6 a).2.1 ≠ (TX6 b).2.1 := by decide +kernel
theorem tyX6_ok : ∀ k, k < 18 → parseFieldDescriptor (TX6 k).2.2.1 = some (tyX6 k) := by decide +kernel
abbrev cX6_init : ByteArray := prog_8_method_1_code
def yX6_init : MethodName := ⟨RX6, "<init>", "()V"⟩
abbrev cX6_within : ByteArray := prog_8_method_3_code
def yX6_within : MethodName := ⟨RX6, "within", "(JJJ)Z"⟩
abbrev cX6_floor : ByteArray := prog_8_method_4_code
def yX6_floor : MethodName := ⟨RX6, "floor", "(JJ)J"⟩
abbrev cX6_size : ByteArray := prog_8_method_5_code
def yX6_size : MethodName := ⟨RX6, "size", "(J)J"⟩
abbrev cX6_isGlass : ByteArray := prog_8_method_6_code
def yX6_isGlass : MethodName := ⟨RX6, "isGlass", "(I)Z"⟩
abbrev cX6_isLens : ByteArray := prog_8_method_7_code
def yX6_isLens : MethodName := ⟨RX6, "isLens", "(I)Z"⟩
abbrev cX6_isColour : ByteArray := prog_8_method_8_code
def yX6_isColour : MethodName := ⟨RX6, "isColour", "(I)Z"⟩
abbrev cX6_a : ByteArray := prog_8_method_9_code
def yX6_a : MethodName := ⟨RX6, "a", "(I)J"⟩
abbrev cX6_b : ByteArray := prog_8_method_10_code
def yX6_b : MethodName := ⟨RX6, "b", "(I)J"⟩
abbrev cX6_d : ByteArray := prog_8_method_11_code
def yX6_d : MethodName := ⟨RX6, "d", "(I)J"⟩
abbrev cX6_append : ByteArray := prog_8_method_12_code
def yX6_append : MethodName := ⟨RX6, "append", "(I)J"⟩
abbrev cX6_clearBuffer : ByteArray := prog_8_method_13_code
def yX6_clearBuffer : MethodName := ⟨RX6, "clearBuffer", "()J"⟩
abbrev cX6_parse : ByteArray := prog_8_method_14_code
def yX6_parse : MethodName := ⟨RX6, "parse", "()V"⟩
abbrev cX6_errorPosition : ByteArray := prog_8_method_15_code
def yX6_errorPosition : MethodName := ⟨RX6, "errorPosition", "()J"⟩
abbrev cX6_isRight : ByteArray := prog_8_method_16_code
def yX6_isRight : MethodName := ⟨RX6, "isRight", "()Z"⟩
abbrev cX6_isNamed : ByteArray := prog_8_method_17_code
def yX6_isNamed : MethodName := ⟨RX6, "isNamed", "(J)Z"⟩
abbrev cX6_addGlass : ByteArray := prog_8_method_18_code
def yX6_addGlass : MethodName := ⟨RX6, "addGlass", "()J"⟩
abbrev cX6_removeGlass : ByteArray := prog_8_method_19_code
def yX6_removeGlass : MethodName := ⟨RX6, "removeGlass", "(I)J"⟩
abbrev cX6_glassCount : ByteArray := prog_8_method_20_code
def yX6_glassCount : MethodName := ⟨RX6, "glassCount", "()J"⟩
abbrev cX6_index : ByteArray := prog_8_method_21_code
def yX6_index : MethodName := ⟨RX6, "index", "(II)J"⟩
abbrev cX6_placeNow : ByteArray := prog_8_method_22_code
def yX6_placeNow : MethodName := ⟨RX6, "placeNow", "(I)J"⟩
abbrev cX6_placeByName : ByteArray := prog_8_method_23_code
def yX6_placeByName : MethodName := ⟨RX6, "placeByName", "(I)J"⟩
abbrev cX6_abbeNow : ByteArray := prog_8_method_24_code
def yX6_abbeNow : MethodName := ⟨RX6, "abbeNow", "(I)J"⟩
abbrev cX6_partialNow : ByteArray := prog_8_method_25_code
def yX6_partialNow : MethodName := ⟨RX6, "partialNow", "(I)J"⟩
abbrev cX6_abbe : ByteArray := prog_8_method_26_code
def yX6_abbe : MethodName := ⟨RX6, "abbe", "(I)J"⟩
abbrev cX6_partial : ByteArray := prog_8_method_27_code
def yX6_partial : MethodName := ⟨RX6, "partial", "(I)J"⟩
abbrev cX6_glassWithAbbe : ByteArray := prog_8_method_28_code
def yX6_glassWithAbbe : MethodName := ⟨RX6, "glassWithAbbe", "(I)J"⟩
abbrev cX6_e : ByteArray := prog_8_method_29_code
def yX6_e : MethodName := ⟨RX6, "e", "(II)J"⟩
abbrev cX6_spectrum : ByteArray := prog_8_method_30_code
def yX6_spectrum : MethodName := ⟨RX6, "spectrum", "(II)J"⟩
abbrev cX6_strain : ByteArray := prog_8_method_31_code
def yX6_strain : MethodName := ⟨RX6, "strain", "(II)J"⟩
abbrev cX6_doubletPower : ByteArray := prog_8_method_32_code
def yX6_doubletPower : MethodName := ⟨RX6, "doubletPower", "(IIII)J"⟩
abbrev cX6_secondarySpectrum : ByteArray := prog_8_method_33_code
def yX6_secondarySpectrum : MethodName := ⟨RX6, "secondarySpectrum", "(III)J"⟩
abbrev cX6_isDoublet : ByteArray := prog_8_method_34_code
def yX6_isDoublet : MethodName := ⟨RX6, "isDoublet", "(II)Z"⟩
abbrev cX6_compare : ByteArray := prog_8_method_35_code
def yX6_compare : MethodName := ⟨RX6, "compare", "(JJJJ)J"⟩
abbrev cX6_isBefore : ByteArray := prog_8_method_36_code
def yX6_isBefore : MethodName := ⟨RX6, "isBefore", "(IIIIZ)Z"⟩
abbrev cX6_findNext : ByteArray := prog_8_method_37_code
def yX6_findNext : MethodName := ⟨RX6, "findNext", "(Z)V"⟩
abbrev cX6_doubletNow : ByteArray := prog_8_method_38_code
def yX6_doubletNow : MethodName := ⟨RX6, "doubletNow", "(ZI)J"⟩
abbrev cX6_doubletAt : ByteArray := prog_8_method_39_code
def yX6_doubletAt : MethodName := ⟨RX6, "doubletAt", "(ZI)J"⟩
abbrev cX6_doublets : ByteArray := prog_8_method_40_code
def yX6_doublets : MethodName := ⟨RX6, "doublets", "()J"⟩
abbrev cX6_doubletCount : ByteArray := prog_8_method_41_code
def yX6_doubletCount : MethodName := ⟨RX6, "doubletCount", "()J"⟩
abbrev cX6_x : ByteArray := prog_8_method_42_code
def yX6_x : MethodName := ⟨RX6, "x", "(II)J"⟩
abbrev cX6_t : ByteArray := prog_8_method_43_code
def yX6_t : MethodName := ⟨RX6, "t", "(III)J"⟩
abbrev cX6_tripletNow : ByteArray := prog_8_method_44_code
def yX6_tripletNow : MethodName := ⟨RX6, "tripletNow", "(IIIII)J"⟩
abbrev cX6_tripletPower : ByteArray := prog_8_method_45_code
def yX6_tripletPower : MethodName := ⟨RX6, "tripletPower", "(IIIII)J"⟩
abbrev cX6_strongest : ByteArray := prog_8_method_46_code
def yX6_strongest : MethodName := ⟨RX6, "strongest", "(III)J"⟩
abbrev cX6_tripletBest : ByteArray := prog_8_method_47_code
def yX6_tripletBest : MethodName := ⟨RX6, "tripletBest", "()J"⟩
abbrev cX6_bestTriplet : ByteArray := prog_8_method_48_code
def yX6_bestTriplet : MethodName := ⟨RX6, "bestTriplet", "()J"⟩
abbrev cX6_addLens : ByteArray := prog_8_method_49_code
def yX6_addLens : MethodName := ⟨RX6, "addLens", "(II)J"⟩
abbrev cX6_removeLens : ByteArray := prog_8_method_50_code
def yX6_removeLens : MethodName := ⟨RX6, "removeLens", "(I)J"⟩
abbrev cX6_lensCount : ByteArray := prog_8_method_51_code
def yX6_lensCount : MethodName := ⟨RX6, "lensCount", "()J"⟩
abbrev cX6_lensPower : ByteArray := prog_8_method_52_code
def yX6_lensPower : MethodName := ⟨RX6, "lensPower", "(III)J"⟩
abbrev cX6_systemNow : ByteArray := prog_8_method_53_code
def yX6_systemNow : MethodName := ⟨RX6, "systemNow", "(I)J"⟩
abbrev cX6_systemPower : ByteArray := prog_8_method_54_code
def yX6_systemPower : MethodName := ⟨RX6, "systemPower", "(I)J"⟩
abbrev cX6_balanceNow : ByteArray := prog_8_method_55_code
def yX6_balanceNow : MethodName := ⟨RX6, "balanceNow", "(I)J"⟩
abbrev cX6_balancePower : ByteArray := prog_8_method_56_code
def yX6_balancePower : MethodName := ⟨RX6, "balancePower", "(I)J"⟩
abbrev cX6_miss : ByteArray := prog_8_method_57_code
def yX6_miss : MethodName := ⟨RX6, "miss", "(II)J"⟩
abbrev cX6_wrongNow : ByteArray := prog_8_method_58_code
def yX6_wrongNow : MethodName := ⟨RX6, "wrongNow", "(JJJ)J"⟩
abbrev cX6_isMeasured : ByteArray := prog_8_method_59_code
def yX6_isMeasured : MethodName := ⟨RX6, "isMeasured", "(J)Z"⟩
abbrev cX6_findWrongGlass : ByteArray := prog_8_method_60_code
def yX6_findWrongGlass : MethodName := ⟨RX6, "findWrongGlass", "(JJJ)J"⟩
abbrev cX6_addPlate : ByteArray := prog_8_method_61_code
def yX6_addPlate : MethodName := ⟨RX6, "addPlate", "(I)J"⟩
abbrev cX6_plateCount : ByteArray := prog_8_method_62_code
def yX6_plateCount : MethodName := ⟨RX6, "plateCount", "()J"⟩
abbrev cX6_nearestPlate : ByteArray := prog_8_method_63_code
def yX6_nearestPlate : MethodName := ⟨RX6, "nearestPlate", "(I)J"⟩
abbrev cX6_signed : ByteArray := prog_8_method_64_code
def yX6_signed : MethodName := ⟨RX6, "signed", "(II)J"⟩
abbrev cX6_surfaces : ByteArray := prog_8_method_65_code
def yX6_surfaces : MethodName := ⟨RX6, "surfaces", "(IJJ)J"⟩
abbrev cX6_surfacesBest : ByteArray := prog_8_method_66_code
def yX6_surfacesBest : MethodName := ⟨RX6, "surfacesBest", "(I)J"⟩
abbrev cX6_bestSurfaces : ByteArray := prog_8_method_67_code
def yX6_bestSurfaces : MethodName := ⟨RX6, "bestSurfaces", "(I)J"⟩
abbrev cX6_surfacePower : ByteArray := prog_8_method_68_code
def yX6_surfacePower : MethodName := ⟨RX6, "surfacePower", "(II)J"⟩
abbrev cX6_mix : ByteArray := prog_8_method_69_code
def yX6_mix : MethodName := ⟨RX6, "mix", "(J)V"⟩
abbrev cX6_digest : ByteArray := prog_8_method_70_code
def yX6_digest : MethodName := ⟨RX6, "digest", "()J"⟩
def RJ13 : String := "java/lang/Long"
def TJ13 : u_T := fun k => match k with
  | _ => ("", "", "", false)
def tyJ13 : Nat → FieldType := fun k => match k with
  | _ => .int
abbrev wsJ130 : List Cond := u_ws RJ13 TJ13 0
theorem nmJ13 : ∀ a, a < 0 → ∀ b, b < 0 → a ≠ b → (TJ13 a).2.1 ≠ (TJ13 b).2.1 := by decide +kernel
theorem tyJ13_ok : ∀ k, k < 0 → parseFieldDescriptor (TJ13 k).2.2.1 = some (tyJ13 k) := by decide +kernel
abbrev cJ13_compare_74951 : ByteArray := prog_9_method_42_code
def yJ13_compare_74951 : MethodName := ⟨RJ13, "compare", "(JJ)I"⟩
def RJ9 : String := "java/lang/Math"
def TJ9 : u_T := fun k => match k with
  | _ => ("", "", "", false)
def tyJ9 : Nat → FieldType := fun k => match k with
  | _ => .int
abbrev wsJ90 : List Cond := u_ws RJ9 TJ9 0
theorem nmJ9 : ∀ a, a < 0 → ∀ b, b < 0 → a ≠ b → (TJ9 a).2.1 ≠ (TJ9 b).2.1 := by decide +kernel
theorem tyJ9_ok : ∀ k, k < 0 → parseFieldDescriptor (TJ9 k).2.2.1 = some (tyJ9 k) := by decide +kernel
abbrev cJ9_floorDiv_f86c9 : ByteArray := prog_10_method_49_code
def yJ9_floorDiv_f86c9 : MethodName := ⟨RJ9, "floorDiv", "(JJ)J"⟩
abbrev cJ9_abs_067f4 : ByteArray := prog_10_method_61_code
def yJ9_abs_067f4 : MethodName := ⟨RJ9, "abs", "(J)J"⟩
abbrev cJ9_max_f86c9 : ByteArray := prog_10_method_66_code
def yJ9_max_f86c9 : MethodName := ⟨RJ9, "max", "(JJ)J"⟩
abbrev cJ9_min_7cf53 : ByteArray := prog_10_method_69_code
def yJ9_min_7cf53 : MethodName := ⟨RJ9, "min", "(II)I"⟩
def RL : String := "AchromatDeskLaw"
abbrev cL_law : ByteArray := code
def yL_law : MethodName := ⟨RL, "law", "([I)Z"⟩
def wsX0_init : List Cond := .code yX0_init cX0_init 1 none :: ([.methodLink RX0 3 objectInit, .instanceMethod objectInit, .code objectInit ⟨#[0xb1]⟩ 1 none, .arrayClass .long, .fieldLink RX0 9 "AchromatDesk$Catalogue" "nameKeys" "[J", .arrayClass .int, .fieldLink RX0 15 "AchromatDesk$Catalogue" "indicesF" "[I", .fieldLink RX0 19 "AchromatDesk$Catalogue" "indicesD" "[I", .fieldLink RX0 22 "AchromatDesk$Catalogue" "indicesC" "[I"] ++ wsX00)
def wsX0_has : List Cond := .code yX0_has cX0_has 2 (some .boolean) :: ([.fieldLink RX0 25 "AchromatDesk$Catalogue" "count" "I"] ++ wsX00)
def wsX0_hasName : List Cond := .code yX0_hasName cX0_hasName 4 (some .boolean) :: ([.fieldLink RX0 25 "AchromatDesk$Catalogue" "count" "I", .fieldLink RX0 9 "AchromatDesk$Catalogue" "nameKeys" "[J"] ++ wsX00)
def wsX0_add : List Cond := .code yX0_add cX0_add 6 none :: ([.fieldLink RX0 25 "AchromatDesk$Catalogue" "count" "I", .fieldLink RX0 9 "AchromatDesk$Catalogue" "nameKeys" "[J", .fieldLink RX0 15 "AchromatDesk$Catalogue" "indicesF" "[I", .fieldLink RX0 19 "AchromatDesk$Catalogue" "indicesD" "[I", .fieldLink RX0 22 "AchromatDesk$Catalogue" "indicesC" "[I"] ++ wsX00)
def wsX0_remove : List Cond := .code yX0_remove cX0_remove 3 none :: ([.fieldLink RX0 25 "AchromatDesk$Catalogue" "count" "I", .fieldLink RX0 9 "AchromatDesk$Catalogue" "nameKeys" "[J", .fieldLink RX0 15 "AchromatDesk$Catalogue" "indicesF" "[I", .fieldLink RX0 19 "AchromatDesk$Catalogue" "indicesD" "[I", .fieldLink RX0 22 "AchromatDesk$Catalogue" "indicesC" "[I", .methodLink RX0 29 yX0_has, .instanceMethod yX0_has, .selects RX0 yX0_has yX0_has, .initialized RX0, .code yX0_has cX0_has 2 (some .boolean)] ++ wsX00)
def wsX0_indexFor : List Cond := .code yX0_indexFor cX0_indexFor 3 (some .long) :: ([.fieldLink RX0 15 "AchromatDesk$Catalogue" "indicesF" "[I", .fieldLink RX0 19 "AchromatDesk$Catalogue" "indicesD" "[I", .fieldLink RX0 22 "AchromatDesk$Catalogue" "indicesC" "[I"] ++ wsX00)
def wsX0_namesBefore : List Cond := .code yX0_namesBefore cX0_namesBefore 4 (some .int) :: ([.fieldLink RX0 25 "AchromatDesk$Catalogue" "count" "I", .fieldLink RX0 9 "AchromatDesk$Catalogue" "nameKeys" "[J"] ++ wsX00)
def wsX0_valueA : List Cond := .code yX0_valueA cX0_valueA 2 (some .long) :: ([.fieldLink RX0 19 "AchromatDesk$Catalogue" "indicesD" "[I", .constant RX0 49 (100000)] ++ wsX00)
def wsX0_valueB : List Cond := .code yX0_valueB cX0_valueB 2 (some .long) :: ([.fieldLink RX0 15 "AchromatDesk$Catalogue" "indicesF" "[I", .fieldLink RX0 22 "AchromatDesk$Catalogue" "indicesC" "[I"] ++ wsX00)
def wsJ9_floorDiv_f86c9 : List Cond := .code yJ9_floorDiv_f86c9 cJ9_floorDiv_f86c9 6 (some .long) :: ([])
def wsX5_floorQuotient : List Cond := .code yX5_floorQuotient cX5_floorQuotient 4 (some .long) :: ([.methodLink RX5 258 yJ9_floorDiv_f86c9, .static yJ9_floorDiv_f86c9, .initialized RJ9, .code yJ9_floorDiv_f86c9 cJ9_floorDiv_f86c9 6 (some .long)])
def wsX0_abbeNumber : List Cond := .code yX0_abbeNumber cX0_abbeNumber 2 (some .long) :: ([.constantLong RX0 33 (1000), .methodLink RX0 35 yX0_valueA, .instanceMethod yX0_valueA, .selects RX0 yX0_valueA yX0_valueA, .initialized RX0, .code yX0_valueA cX0_valueA 2 (some .long), .fieldLink RX0 19 "AchromatDesk$Catalogue" "indicesD" "[I", .constant RX0 49 (100000), .methodLink RX0 39 yX0_valueB, .instanceMethod yX0_valueB, .selects RX0 yX0_valueB yX0_valueB, .code yX0_valueB cX0_valueB 2 (some .long), .fieldLink RX0 15 "AchromatDesk$Catalogue" "indicesF" "[I", .fieldLink RX0 22 "AchromatDesk$Catalogue" "indicesC" "[I", .static yX5_floorQuotient, .initialized RX5, .code yX5_floorQuotient cX5_floorQuotient 4 (some .long), .methodLink RX5 258 yJ9_floorDiv_f86c9, .static yJ9_floorDiv_f86c9, .initialized RJ9, .code yJ9_floorDiv_f86c9 cJ9_floorDiv_f86c9 6 (some .long)] ++ wsX00)
def wsX0_leastAbbeFrom_r1 : List Cond := [Cond.fieldLink RX0 25 "AchromatDesk$Catalogue" "count" "I", Cond.methodLink RX0 46 yX0_abbeNumber, Cond.instanceMethod yX0_abbeNumber, Cond.selects RX0 yX0_abbeNumber yX0_abbeNumber, Cond.initialized RX0, Cond.code yX0_abbeNumber cX0_abbeNumber 2 (some .long), Cond.constantLong RX0 33 (1000), Cond.methodLink RX0 35 yX0_valueA, Cond.instanceMethod yX0_valueA, Cond.selects RX0 yX0_valueA yX0_valueA, Cond.code yX0_valueA cX0_valueA 2 (some .long), Cond.fieldLink RX0 19 "AchromatDesk$Catalogue" "indicesD" "[I", Cond.constant RX0 49 (100000), Cond.methodLink RX0 39 yX0_valueB, Cond.instanceMethod yX0_valueB, Cond.selects RX0 yX0_valueB yX0_valueB, Cond.code yX0_valueB cX0_valueB 2 (some .long), Cond.fieldLink RX0 15 "AchromatDesk$Catalogue" "indicesF" "[I", Cond.fieldLink RX0 22 "AchromatDesk$Catalogue" "indicesC" "[I", Cond.static yX5_floorQuotient, Cond.initialized RX5, Cond.code yX5_floorQuotient cX5_floorQuotient 4 (some .long), Cond.methodLink RX5 258 yJ9_floorDiv_f86c9, Cond.static yJ9_floorDiv_f86c9]
def wsX0_leastAbbeFrom_r2 : List Cond := [Cond.initialized RJ9, Cond.code yJ9_floorDiv_f86c9 cJ9_floorDiv_f86c9 6 (some .long)]
def wsX0_leastAbbeFrom : List Cond := .code yX0_leastAbbeFrom cX0_leastAbbeFrom 8 (some .int) :: ((wsX0_leastAbbeFrom_r1 ++ wsX0_leastAbbeFrom_r2) ++ wsX00)
def wsX0_valueD : List Cond := .code yX0_valueD cX0_valueD 2 (some .long) :: ([.fieldLink RX0 15 "AchromatDesk$Catalogue" "indicesF" "[I", .fieldLink RX0 19 "AchromatDesk$Catalogue" "indicesD" "[I"] ++ wsX00)
def wsX0_valueE : List Cond := .code yX0_valueE cX0_valueE 3 (some .long) :: ([.methodLink RX0 35 yX0_valueA, .instanceMethod yX0_valueA, .selects RX0 yX0_valueA yX0_valueA, .initialized RX0, .code yX0_valueA cX0_valueA 2 (some .long), .fieldLink RX0 19 "AchromatDesk$Catalogue" "indicesD" "[I", .constant RX0 49 (100000), .methodLink RX0 39 yX0_valueB, .instanceMethod yX0_valueB, .selects RX0 yX0_valueB yX0_valueB, .code yX0_valueB cX0_valueB 2 (some .long), .fieldLink RX0 15 "AchromatDesk$Catalogue" "indicesF" "[I", .fieldLink RX0 22 "AchromatDesk$Catalogue" "indicesC" "[I"] ++ wsX00)
def wsX0_valueX : List Cond := .code yX0_valueX cX0_valueX 3 (some .long) :: ([.methodLink RX0 39 yX0_valueB, .instanceMethod yX0_valueB, .selects RX0 yX0_valueB yX0_valueB, .initialized RX0, .code yX0_valueB cX0_valueB 2 (some .long), .fieldLink RX0 15 "AchromatDesk$Catalogue" "indicesF" "[I", .fieldLink RX0 22 "AchromatDesk$Catalogue" "indicesC" "[I", .methodLink RX0 50 yX0_valueD, .instanceMethod yX0_valueD, .selects RX0 yX0_valueD yX0_valueD, .code yX0_valueD cX0_valueD 2 (some .long), .fieldLink RX0 19 "AchromatDesk$Catalogue" "indicesD" "[I"] ++ wsX00)
def wsX0_tripletShare : List Cond := .code yX0_tripletShare cX0_tripletShare 4 (some .long) :: ([.methodLink RX0 35 yX0_valueA, .instanceMethod yX0_valueA, .selects RX0 yX0_valueA yX0_valueA, .initialized RX0, .code yX0_valueA cX0_valueA 2 (some .long), .fieldLink RX0 19 "AchromatDesk$Catalogue" "indicesD" "[I", .constant RX0 49 (100000), .methodLink RX0 53 yX0_valueX, .instanceMethod yX0_valueX, .selects RX0 yX0_valueX yX0_valueX, .code yX0_valueX cX0_valueX 3 (some .long), .methodLink RX0 39 yX0_valueB, .instanceMethod yX0_valueB, .selects RX0 yX0_valueB yX0_valueB, .code yX0_valueB cX0_valueB 2 (some .long), .fieldLink RX0 15 "AchromatDesk$Catalogue" "indicesF" "[I", .fieldLink RX0 22 "AchromatDesk$Catalogue" "indicesC" "[I", .methodLink RX0 50 yX0_valueD, .instanceMethod yX0_valueD, .selects RX0 yX0_valueD yX0_valueD, .code yX0_valueD cX0_valueD 2 (some .long)] ++ wsX00)
def wsX1_init : List Cond := .code yX1_init cX1_init 1 none :: ([.methodLink RX1 3 objectInit, .instanceMethod objectInit, .code objectInit ⟨#[0xb1]⟩ 1 none, .arrayClass .int, .fieldLink RX1 9 "AchromatDesk$DoubletRanking" "codes" "[I", .arrayClass .long, .fieldLink RX1 15 "AchromatDesk$DoubletRanking" "divisors" "[J", .fieldLink RX1 19 "AchromatDesk$DoubletRanking" "spectra" "[J", .fieldLink RX1 22 "AchromatDesk$DoubletRanking" "strains" "[J", .fieldLink RX1 25 "AchromatDesk$DoubletRanking" "order" "[I"] ++ wsX10)
def wsX1_keep_r1 : List Cond := [Cond.fieldLink RX1 9 "AchromatDesk$DoubletRanking" "codes" "[I", Cond.fieldLink RX1 28 "AchromatDesk$DoubletRanking" "count" "I", Cond.fieldLink RX1 15 "AchromatDesk$DoubletRanking" "divisors" "[J", Cond.fieldLink RX1 19 "AchromatDesk$DoubletRanking" "spectra" "[J", Cond.methodLink RX1 50 Lib.MathLoose.abs_long.x, Cond.static Lib.MathLoose.abs_long.x, Cond.initialized "java/lang/Math", Cond.code Lib.MathLoose.abs_long.x Lib.MathLoose.abs_long.code 2 (some .long), Cond.fieldLink RX1 22 "AchromatDesk$DoubletRanking" "strains" "[J", Cond.methodLink RX1 35 yX0_valueE, Cond.instanceMethod yX0_valueE, Cond.selects RX0 yX0_valueE yX0_valueE, Cond.initialized RX0, Cond.code yX0_valueE cX0_valueE 3 (some .long), Cond.methodLink RX0 35 yX0_valueA, Cond.instanceMethod yX0_valueA, Cond.selects RX0 yX0_valueA yX0_valueA, Cond.code yX0_valueA cX0_valueA 2 (some .long), Cond.fieldLink RX0 19 "AchromatDesk$Catalogue" "indicesD" "[I", Cond.constant RX0 49 (100000), Cond.methodLink RX0 39 yX0_valueB, Cond.instanceMethod yX0_valueB, Cond.selects RX0 yX0_valueB yX0_valueB, Cond.code yX0_valueB cX0_valueB 2 (some .long)]
def wsX1_keep_r2 : List Cond := [Cond.fieldLink RX0 15 "AchromatDesk$Catalogue" "indicesF" "[I", Cond.fieldLink RX0 22 "AchromatDesk$Catalogue" "indicesC" "[I", Cond.methodLink RX1 47 yX0_valueX, Cond.instanceMethod yX0_valueX, Cond.selects RX0 yX0_valueX yX0_valueX, Cond.code yX0_valueX cX0_valueX 3 (some .long), Cond.methodLink RX0 50 yX0_valueD, Cond.instanceMethod yX0_valueD, Cond.selects RX0 yX0_valueD yX0_valueD, Cond.code yX0_valueD cX0_valueD 2 (some .long), Cond.methodLink RX1 56 yX0_valueA, Cond.methodLink RX1 60 yX0_valueB]
def wsX1_keep : List Cond := .code yX1_keep cX1_keep 4 none :: ((wsX1_keep_r1 ++ wsX1_keep_r2) ++ wsX10 ++ wsX00)
def wsX1_collect_r1 : List Cond := [Cond.fieldLink RX1 28 "AchromatDesk$DoubletRanking" "count" "I", Cond.methodLink RX1 35 yX0_valueE, Cond.instanceMethod yX0_valueE, Cond.selects RX0 yX0_valueE yX0_valueE, Cond.initialized RX0, Cond.code yX0_valueE cX0_valueE 3 (some .long), Cond.methodLink RX0 35 yX0_valueA, Cond.instanceMethod yX0_valueA, Cond.selects RX0 yX0_valueA yX0_valueA, Cond.code yX0_valueA cX0_valueA 2 (some .long), Cond.fieldLink RX0 19 "AchromatDesk$Catalogue" "indicesD" "[I", Cond.constant RX0 49 (100000), Cond.methodLink RX0 39 yX0_valueB, Cond.instanceMethod yX0_valueB, Cond.selects RX0 yX0_valueB yX0_valueB, Cond.code yX0_valueB cX0_valueB 2 (some .long), Cond.fieldLink RX0 15 "AchromatDesk$Catalogue" "indicesF" "[I", Cond.fieldLink RX0 22 "AchromatDesk$Catalogue" "indicesC" "[I", Cond.methodLink RX1 39 yX1_keep, Cond.instanceMethod yX1_keep, Cond.selects RX1 yX1_keep yX1_keep, Cond.initialized RX1, Cond.code yX1_keep cX1_keep 4 none, Cond.fieldLink RX1 9 "AchromatDesk$DoubletRanking" "codes" "[I"]
def wsX1_collect_r2 : List Cond := [Cond.fieldLink RX1 15 "AchromatDesk$DoubletRanking" "divisors" "[J", Cond.fieldLink RX1 19 "AchromatDesk$DoubletRanking" "spectra" "[J", Cond.methodLink RX1 50 Lib.MathLoose.abs_long.x, Cond.static Lib.MathLoose.abs_long.x, Cond.initialized "java/lang/Math", Cond.code Lib.MathLoose.abs_long.x Lib.MathLoose.abs_long.code 2 (some .long), Cond.fieldLink RX1 22 "AchromatDesk$DoubletRanking" "strains" "[J", Cond.methodLink RX1 47 yX0_valueX, Cond.instanceMethod yX0_valueX, Cond.selects RX0 yX0_valueX yX0_valueX, Cond.code yX0_valueX cX0_valueX 3 (some .long), Cond.methodLink RX0 50 yX0_valueD, Cond.instanceMethod yX0_valueD, Cond.selects RX0 yX0_valueD yX0_valueD, Cond.code yX0_valueD cX0_valueD 2 (some .long), Cond.methodLink RX1 56 yX0_valueA, Cond.methodLink RX1 60 yX0_valueB]
def wsX1_collect : List Cond := .code yX1_collect cX1_collect 4 none :: ((wsX1_collect_r1 ++ wsX1_collect_r2) ++ wsX10 ++ wsX00)
def wsJ13_compare_74951 : List Cond := .code yJ13_compare_74951 cJ13_compare_74951 4 (some .int) :: ([])
def wsX1_compareSlots : List Cond := .code yX1_compareSlots cX1_compareSlots 6 (some .int) :: ([.fieldLink RX1 19 "AchromatDesk$DoubletRanking" "spectra" "[J", .fieldLink RX1 15 "AchromatDesk$DoubletRanking" "divisors" "[J", .fieldLink RX1 22 "AchromatDesk$DoubletRanking" "strains" "[J", .methodLink RX1 67 yJ13_compare_74951, .static yJ13_compare_74951, .initialized RJ13, .code yJ13_compare_74951 cJ13_compare_74951 4 (some .int)] ++ wsX10)
def wsX1_placeAmong : List Cond := .code yX1_placeAmong cX1_placeAmong 6 (some .int) :: ([.fieldLink RX1 25 "AchromatDesk$DoubletRanking" "order" "[I", .methodLink RX1 63 yX1_compareSlots, .instanceMethod yX1_compareSlots, .selects RX1 yX1_compareSlots yX1_compareSlots, .initialized RX1, .code yX1_compareSlots cX1_compareSlots 6 (some .int), .fieldLink RX1 19 "AchromatDesk$DoubletRanking" "spectra" "[J", .fieldLink RX1 15 "AchromatDesk$DoubletRanking" "divisors" "[J", .fieldLink RX1 22 "AchromatDesk$DoubletRanking" "strains" "[J", .methodLink RX1 67 yJ13_compare_74951, .static yJ13_compare_74951, .initialized RJ13, .code yJ13_compare_74951 cJ13_compare_74951 4 (some .int)] ++ wsX10)
def wsX1_rank : List Cond := .code yX1_rank cX1_rank 5 none :: ([.fieldLink RX1 28 "AchromatDesk$DoubletRanking" "count" "I", .fieldLink RX1 25 "AchromatDesk$DoubletRanking" "order" "[I", .methodLink RX1 43 yX1_placeAmong, .instanceMethod yX1_placeAmong, .selects RX1 yX1_placeAmong yX1_placeAmong, .initialized RX1, .code yX1_placeAmong cX1_placeAmong 6 (some .int), .methodLink RX1 63 yX1_compareSlots, .instanceMethod yX1_compareSlots, .selects RX1 yX1_compareSlots yX1_compareSlots, .code yX1_compareSlots cX1_compareSlots 6 (some .int), .fieldLink RX1 19 "AchromatDesk$DoubletRanking" "spectra" "[J", .fieldLink RX1 15 "AchromatDesk$DoubletRanking" "divisors" "[J", .fieldLink RX1 22 "AchromatDesk$DoubletRanking" "strains" "[J", .methodLink RX1 67 yJ13_compare_74951, .static yJ13_compare_74951, .initialized RJ13, .code yJ13_compare_74951 cJ13_compare_74951 4 (some .int)] ++ wsX10)
def wsX1_codeAt : List Cond := .code yX1_codeAt cX1_codeAt 2 (some .int) :: ([.fieldLink RX1 9 "AchromatDesk$DoubletRanking" "codes" "[I", .fieldLink RX1 25 "AchromatDesk$DoubletRanking" "order" "[I"] ++ wsX10)
def wsX2_init : List Cond := .code yX2_init cX2_init 1 none :: ([.methodLink RX2 5 objectInit, .instanceMethod objectInit, .code objectInit ⟨#[0xb1]⟩ 1 none, .arrayClass .int, .fieldLink RX2 11 "AchromatDesk$GlassText" "codes" "[I"] ++ wsX20)
def wsX2_add : List Cond := .code yX2_add cX2_add 2 none :: ([.fieldLink RX2 15 "AchromatDesk$GlassText" "length" "I", .fieldLink RX2 11 "AchromatDesk$GlassText" "codes" "[I"] ++ wsX20)
def wsX2_empty : List Cond := .code yX2_empty cX2_empty 1 none :: ([.fieldLink RX2 15 "AchromatDesk$GlassText" "length" "I"] ++ wsX20)
def wsX2_codeAt : List Cond := .code yX2_codeAt cX2_codeAt 2 (some .int) :: ([.fieldLink RX2 15 "AchromatDesk$GlassText" "length" "I", .fieldLink RX2 11 "AchromatDesk$GlassText" "codes" "[I"] ++ wsX20)
def wsX2_isLetter : List Cond := .code yX2_isLetter cX2_isLetter 1 (some .boolean) :: ([])
def wsX2_isDigit : List Cond := .code yX2_isDigit cX2_isDigit 1 (some .boolean) :: ([])
def wsX2_nameLength : List Cond := .code yX2_nameLength cX2_nameLength 4 (some .int) :: ([.fieldLink RX2 15 "AchromatDesk$GlassText" "length" "I", .methodLink RX2 36 Lib.Math.min.name, .static Lib.Math.min.name, .initialized "java/lang/Math", .code Lib.Math.min.name Lib.Math.min.code 2 (some .int), .fieldLink RX2 11 "AchromatDesk$GlassText" "codes" "[I", .methodLink RX2 42 yX2_isLetter, .static yX2_isLetter, .initialized RX2, .code yX2_isLetter cX2_isLetter 1 (some .boolean), .methodLink RX2 46 yX2_isDigit, .static yX2_isDigit, .code yX2_isDigit cX2_isDigit 1 (some .boolean)] ++ wsX20)
def wsX2_isAllowedBehindName : List Cond := .code yX2_isAllowedBehindName cX2_isAllowedBehindName 3 (some .boolean) :: ([.methodLink RX2 46 yX2_isDigit, .static yX2_isDigit, .initialized RX2, .code yX2_isDigit cX2_isDigit 1 (some .boolean)])
def wsX2_firstFault : List Cond := .code yX2_firstFault cX2_firstFault 3 (some .int) :: ([.fieldLink RX2 15 "AchromatDesk$GlassText" "length" "I", .fieldLink RX2 11 "AchromatDesk$GlassText" "codes" "[I", .methodLink RX2 19 yX2_nameLength, .instanceMethod yX2_nameLength, .selects RX2 yX2_nameLength yX2_nameLength, .initialized RX2, .code yX2_nameLength cX2_nameLength 4 (some .int), .methodLink RX2 36 Lib.Math.min.name, .static Lib.Math.min.name, .initialized "java/lang/Math", .code Lib.Math.min.name Lib.Math.min.code 2 (some .int), .methodLink RX2 42 yX2_isLetter, .static yX2_isLetter, .code yX2_isLetter cX2_isLetter 1 (some .boolean), .methodLink RX2 46 yX2_isDigit, .static yX2_isDigit, .code yX2_isDigit cX2_isDigit 1 (some .boolean), .methodLink RX2 23 yX2_isAllowedBehindName, .static yX2_isAllowedBehindName, .code yX2_isAllowedBehindName cX2_isAllowedBehindName 3 (some .boolean)] ++ wsX20)
def wsX2_isComplete : List Cond := .code yX2_isComplete cX2_isComplete 2 (some .boolean) :: ([.fieldLink RX2 15 "AchromatDesk$GlassText" "length" "I", .methodLink RX2 19 yX2_nameLength, .instanceMethod yX2_nameLength, .selects RX2 yX2_nameLength yX2_nameLength, .initialized RX2, .code yX2_nameLength cX2_nameLength 4 (some .int), .methodLink RX2 36 Lib.Math.min.name, .static Lib.Math.min.name, .initialized "java/lang/Math", .code Lib.Math.min.name Lib.Math.min.code 2 (some .int), .fieldLink RX2 11 "AchromatDesk$GlassText" "codes" "[I", .methodLink RX2 42 yX2_isLetter, .static yX2_isLetter, .code yX2_isLetter cX2_isLetter 1 (some .boolean), .methodLink RX2 46 yX2_isDigit, .static yX2_isDigit, .code yX2_isDigit cX2_isDigit 1 (some .boolean), .methodLink RX2 27 yX2_firstFault, .instanceMethod yX2_firstFault, .selects RX2 yX2_firstFault yX2_firstFault, .code yX2_firstFault cX2_firstFault 3 (some .int), .methodLink RX2 23 yX2_isAllowedBehindName, .static yX2_isAllowedBehindName, .code yX2_isAllowedBehindName cX2_isAllowedBehindName 3 (some .boolean)] ++ wsX20)
def wsX2_number : List Cond := .code yX2_number cX2_number 5 (some .int) :: ([.methodLink RX2 19 yX2_nameLength, .instanceMethod yX2_nameLength, .selects RX2 yX2_nameLength yX2_nameLength, .initialized RX2, .code yX2_nameLength cX2_nameLength 4 (some .int), .fieldLink RX2 15 "AchromatDesk$GlassText" "length" "I", .methodLink RX2 36 Lib.Math.min.name, .static Lib.Math.min.name, .initialized "java/lang/Math", .code Lib.Math.min.name Lib.Math.min.code 2 (some .int), .fieldLink RX2 11 "AchromatDesk$GlassText" "codes" "[I", .methodLink RX2 42 yX2_isLetter, .static yX2_isLetter, .code yX2_isLetter cX2_isLetter 1 (some .boolean), .methodLink RX2 46 yX2_isDigit, .static yX2_isDigit, .code yX2_isDigit cX2_isDigit 1 (some .boolean), .methodLink RX2 30 yX2_codeAt, .instanceMethod yX2_codeAt, .selects RX2 yX2_codeAt yX2_codeAt, .code yX2_codeAt cX2_codeAt 2 (some .int)] ++ wsX20)
def wsX2_nameKey : List Cond := .code yX2_nameKey cX2_nameKey 5 (some .long) :: ([.constantLong RX2 34 (128), .fieldLink RX2 11 "AchromatDesk$GlassText" "codes" "[I", .methodLink RX2 19 yX2_nameLength, .instanceMethod yX2_nameLength, .selects RX2 yX2_nameLength yX2_nameLength, .initialized RX2, .code yX2_nameLength cX2_nameLength 4 (some .int), .fieldLink RX2 15 "AchromatDesk$GlassText" "length" "I", .methodLink RX2 36 Lib.Math.min.name, .static Lib.Math.min.name, .initialized "java/lang/Math", .code Lib.Math.min.name Lib.Math.min.code 2 (some .int), .methodLink RX2 42 yX2_isLetter, .static yX2_isLetter, .code yX2_isLetter cX2_isLetter 1 (some .boolean), .methodLink RX2 46 yX2_isDigit, .static yX2_isDigit, .code yX2_isDigit cX2_isDigit 1 (some .boolean)] ++ wsX20)
def wsX3_init : List Cond := .code yX3_init cX3_init 1 none :: ([.methodLink RX3 3 objectInit, .instanceMethod objectInit, .code objectInit ⟨#[0xb1]⟩ 1 none, .arrayClass .int, .fieldLink RX3 9 "AchromatDesk$LensSystem" "glassNumbers" "[I", .fieldLink RX3 15 "AchromatDesk$LensSystem" "powers" "[I"] ++ wsX30)
def wsX3_has : List Cond := .code yX3_has cX3_has 2 (some .boolean) :: ([.fieldLink RX3 18 "AchromatDesk$LensSystem" "count" "I"] ++ wsX30)
def wsX3_uses : List Cond := .code yX3_uses cX3_uses 3 (some .boolean) :: ([.fieldLink RX3 18 "AchromatDesk$LensSystem" "count" "I", .fieldLink RX3 9 "AchromatDesk$LensSystem" "glassNumbers" "[I"] ++ wsX30)
def wsX3_add : List Cond := .code yX3_add cX3_add 3 none :: ([.fieldLink RX3 18 "AchromatDesk$LensSystem" "count" "I", .fieldLink RX3 9 "AchromatDesk$LensSystem" "glassNumbers" "[I", .fieldLink RX3 15 "AchromatDesk$LensSystem" "powers" "[I"] ++ wsX30)
def wsX3_remove : List Cond := .code yX3_remove cX3_remove 3 none :: ([.fieldLink RX3 18 "AchromatDesk$LensSystem" "count" "I", .fieldLink RX3 9 "AchromatDesk$LensSystem" "glassNumbers" "[I", .fieldLink RX3 15 "AchromatDesk$LensSystem" "powers" "[I", .methodLink RX3 22 yX3_has, .instanceMethod yX3_has, .selects RX3 yX3_has yX3_has, .initialized RX3, .code yX3_has cX3_has 2 (some .boolean)] ++ wsX30)
def wsX3_closeGapAt : List Cond := .code yX3_closeGapAt cX3_closeGapAt 3 none :: ([.fieldLink RX3 18 "AchromatDesk$LensSystem" "count" "I", .fieldLink RX3 9 "AchromatDesk$LensSystem" "glassNumbers" "[I"] ++ wsX30)
def wsX3_glassOf : List Cond := .code yX3_glassOf cX3_glassOf 2 (some .int) :: ([.fieldLink RX3 9 "AchromatDesk$LensSystem" "glassNumbers" "[I"] ++ wsX30)
def wsX3_powerOf : List Cond := .code yX3_powerOf cX3_powerOf 2 (some .int) :: ([.fieldLink RX3 15 "AchromatDesk$LensSystem" "powers" "[I"] ++ wsX30)
def wsX3_lensPower : List Cond := .code yX3_lensPower cX3_lensPower 7 (some .long) :: ([.constantLong RX3 36 (100000), .fieldLink RX3 15 "AchromatDesk$LensSystem" "powers" "[I", .constantLong RX3 38 (1000), .fieldLink RX3 9 "AchromatDesk$LensSystem" "glassNumbers" "[I", .methodLink RX3 30 yX0_indexFor, .instanceMethod yX0_indexFor, .selects RX0 yX0_indexFor yX0_indexFor, .initialized RX0, .code yX0_indexFor cX0_indexFor 3 (some .long), .fieldLink RX0 15 "AchromatDesk$Catalogue" "indicesF" "[I", .fieldLink RX0 19 "AchromatDesk$Catalogue" "indicesD" "[I", .fieldLink RX0 22 "AchromatDesk$Catalogue" "indicesC" "[I", .methodLink RX3 40 yX0_valueA, .instanceMethod yX0_valueA, .selects RX0 yX0_valueA yX0_valueA, .code yX0_valueA cX0_valueA 2 (some .long), .constant RX0 49 (100000), .static yX5_floorQuotient, .initialized RX5, .code yX5_floorQuotient cX5_floorQuotient 4 (some .long), .methodLink RX5 258 yJ9_floorDiv_f86c9, .static yJ9_floorDiv_f86c9, .initialized RJ9, .code yJ9_floorDiv_f86c9 cJ9_floorDiv_f86c9 6 (some .long)] ++ wsX30 ++ wsX00)
def wsX3_powerFor_r1 : List Cond := [Cond.fieldLink RX3 18 "AchromatDesk$LensSystem" "count" "I", Cond.fieldLink RX3 9 "AchromatDesk$LensSystem" "glassNumbers" "[I", Cond.methodLink RX3 26 yX3_lensPower, Cond.instanceMethod yX3_lensPower, Cond.selects RX3 yX3_lensPower yX3_lensPower, Cond.initialized RX3, Cond.code yX3_lensPower cX3_lensPower 7 (some .long), Cond.constantLong RX3 36 (100000), Cond.fieldLink RX3 15 "AchromatDesk$LensSystem" "powers" "[I", Cond.constantLong RX3 38 (1000), Cond.methodLink RX3 30 yX0_indexFor, Cond.instanceMethod yX0_indexFor, Cond.selects RX0 yX0_indexFor yX0_indexFor, Cond.initialized RX0, Cond.code yX0_indexFor cX0_indexFor 3 (some .long), Cond.fieldLink RX0 15 "AchromatDesk$Catalogue" "indicesF" "[I", Cond.fieldLink RX0 19 "AchromatDesk$Catalogue" "indicesD" "[I", Cond.fieldLink RX0 22 "AchromatDesk$Catalogue" "indicesC" "[I", Cond.methodLink RX3 40 yX0_valueA, Cond.instanceMethod yX0_valueA, Cond.selects RX0 yX0_valueA yX0_valueA, Cond.code yX0_valueA cX0_valueA 2 (some .long), Cond.constant RX0 49 (100000), Cond.static yX5_floorQuotient]
def wsX3_powerFor_r2 : List Cond := [Cond.initialized RX5, Cond.code yX5_floorQuotient cX5_floorQuotient 4 (some .long), Cond.methodLink RX5 258 yJ9_floorDiv_f86c9, Cond.static yJ9_floorDiv_f86c9, Cond.initialized RJ9, Cond.code yJ9_floorDiv_f86c9 cJ9_floorDiv_f86c9 6 (some .long)]
def wsX3_powerFor : List Cond := .code yX3_powerFor cX3_powerFor 6 (some .long) :: ((wsX3_powerFor_r1 ++ wsX3_powerFor_r2) ++ wsX30 ++ wsX00)
def wsX3_changeWith_r1 : List Cond := [Cond.fieldLink RX3 9 "AchromatDesk$LensSystem" "glassNumbers" "[I", Cond.methodLink RX3 26 yX3_lensPower, Cond.instanceMethod yX3_lensPower, Cond.selects RX3 yX3_lensPower yX3_lensPower, Cond.initialized RX3, Cond.code yX3_lensPower cX3_lensPower 7 (some .long), Cond.constantLong RX3 36 (100000), Cond.fieldLink RX3 15 "AchromatDesk$LensSystem" "powers" "[I", Cond.constantLong RX3 38 (1000), Cond.methodLink RX3 30 yX0_indexFor, Cond.instanceMethod yX0_indexFor, Cond.selects RX0 yX0_indexFor yX0_indexFor, Cond.initialized RX0, Cond.code yX0_indexFor cX0_indexFor 3 (some .long), Cond.fieldLink RX0 15 "AchromatDesk$Catalogue" "indicesF" "[I", Cond.fieldLink RX0 19 "AchromatDesk$Catalogue" "indicesD" "[I", Cond.fieldLink RX0 22 "AchromatDesk$Catalogue" "indicesC" "[I", Cond.methodLink RX3 40 yX0_valueA, Cond.instanceMethod yX0_valueA, Cond.selects RX0 yX0_valueA yX0_valueA, Cond.code yX0_valueA cX0_valueA 2 (some .long), Cond.constant RX0 49 (100000), Cond.static yX5_floorQuotient, Cond.initialized RX5]
def wsX3_changeWith_r2 : List Cond := [Cond.code yX5_floorQuotient cX5_floorQuotient 4 (some .long), Cond.methodLink RX5 258 yJ9_floorDiv_f86c9, Cond.static yJ9_floorDiv_f86c9, Cond.initialized RJ9, Cond.code yJ9_floorDiv_f86c9 cJ9_floorDiv_f86c9 6 (some .long)]
def wsX3_changeWith : List Cond := .code yX3_changeWith cX3_changeWith 5 (some .long) :: ((wsX3_changeWith_r1 ++ wsX3_changeWith_r2) ++ wsX30 ++ wsX00)
def wsX4_init : List Cond := .code yX4_init cX4_init 1 none :: ([.methodLink RX4 3 objectInit, .instanceMethod objectInit, .code objectInit ⟨#[0xb1]⟩ 1 none, .arrayClass .int, .fieldLink RX4 9 "AchromatDesk$PlateSet" "radii" "[I"] ++ wsX40)
def wsX4_has : List Cond := .code yX4_has cX4_has 2 (some .boolean) :: ([.fieldLink RX4 15 "AchromatDesk$PlateSet" "count" "I"] ++ wsX40)
def wsX4_hasRadius : List Cond := .code yX4_hasRadius cX4_hasRadius 3 (some .boolean) :: ([.fieldLink RX4 15 "AchromatDesk$PlateSet" "count" "I", .fieldLink RX4 9 "AchromatDesk$PlateSet" "radii" "[I"] ++ wsX40)
def wsX4_add : List Cond := .code yX4_add cX4_add 2 none :: ([.fieldLink RX4 15 "AchromatDesk$PlateSet" "count" "I", .fieldLink RX4 9 "AchromatDesk$PlateSet" "radii" "[I"] ++ wsX40)
def wsX4_nearestTo : List Cond := .code yX4_nearestTo cX4_nearestTo 9 (some .int) :: ([.fieldLink RX4 15 "AchromatDesk$PlateSet" "count" "I", .fieldLink RX4 9 "AchromatDesk$PlateSet" "radii" "[I", .methodLink RX4 19 Lib.MathLoose.abs_long.x, .static Lib.MathLoose.abs_long.x, .initialized "java/lang/Math", .code Lib.MathLoose.abs_long.x Lib.MathLoose.abs_long.code 2 (some .long)] ++ wsX40)
def wsX4_signedRadius : List Cond := .code yX4_signedRadius cX4_signedRadius 3 (some .long) :: ([.fieldLink RX4 9 "AchromatDesk$PlateSet" "radii" "[I"] ++ wsX40)
def wsX5_init_r1 : List Cond := [Cond.methodLink RX5 3 objectInit, Cond.instanceMethod objectInit, Cond.code objectInit ⟨#[0xb1]⟩ 1 none, Cond.classLink RX5 9 RX2, Cond.instantiable RX2 2, Cond.initialized RX2, Cond.fieldLink RX5 12 "AchromatDesk" "buffer" "LAchromatDesk$GlassText;", Cond.classLink RX5 16 RX0, Cond.instantiable RX0 5, Cond.initialized RX0, Cond.fieldLink RX5 19 "AchromatDesk" "glasses" "LAchromatDesk$Catalogue;", Cond.classLink RX5 23 RX1, Cond.instantiable RX1 6, Cond.initialized RX1, Cond.fieldLink RX5 26 "AchromatDesk" "doublets" "LAchromatDesk$DoubletRanking;", Cond.classLink RX5 30 RX3, Cond.instantiable RX3 3, Cond.initialized RX3, Cond.fieldLink RX5 33 "AchromatDesk" "system" "LAchromatDesk$LensSystem;", Cond.classLink RX5 37 RX4, Cond.instantiable RX4 2, Cond.initialized RX4, Cond.fieldLink RX5 40 "AchromatDesk" "plates" "LAchromatDesk$PlateSet;", Cond.instanceMethod yX2_init]
def wsX5_init_r2 : List Cond := [Cond.code yX2_init cX2_init 1 none, Cond.methodLink RX2 5 objectInit, Cond.arrayClass .int, Cond.fieldLink RX2 11 "AchromatDesk$GlassText" "codes" "[I", Cond.instanceMethod yX0_init, Cond.code yX0_init cX0_init 1 none, Cond.methodLink RX0 3 objectInit, Cond.arrayClass .long, Cond.fieldLink RX0 9 "AchromatDesk$Catalogue" "nameKeys" "[J", Cond.fieldLink RX0 15 "AchromatDesk$Catalogue" "indicesF" "[I", Cond.fieldLink RX0 19 "AchromatDesk$Catalogue" "indicesD" "[I", Cond.fieldLink RX0 22 "AchromatDesk$Catalogue" "indicesC" "[I", Cond.instanceMethod yX1_init, Cond.code yX1_init cX1_init 1 none, Cond.methodLink RX1 3 objectInit, Cond.fieldLink RX1 9 "AchromatDesk$DoubletRanking" "codes" "[I", Cond.fieldLink RX1 15 "AchromatDesk$DoubletRanking" "divisors" "[J", Cond.fieldLink RX1 19 "AchromatDesk$DoubletRanking" "spectra" "[J", Cond.fieldLink RX1 22 "AchromatDesk$DoubletRanking" "strains" "[J", Cond.fieldLink RX1 25 "AchromatDesk$DoubletRanking" "order" "[I", Cond.instanceMethod yX3_init, Cond.code yX3_init cX3_init 1 none, Cond.methodLink RX3 3 objectInit, Cond.fieldLink RX3 9 "AchromatDesk$LensSystem" "glassNumbers" "[I"]
def wsX5_init_r3 : List Cond := [Cond.fieldLink RX3 15 "AchromatDesk$LensSystem" "powers" "[I", Cond.instanceMethod yX4_init, Cond.code yX4_init cX4_init 1 none, Cond.methodLink RX4 3 objectInit, Cond.fieldLink RX4 9 "AchromatDesk$PlateSet" "radii" "[I"]
def wsX5_init : List Cond := .code yX5_init cX5_init 1 none :: ((wsX5_init_r1 ++ (wsX5_init_r2 ++ wsX5_init_r3)) ++ wsX20 ++ wsX50 ++ wsX00 ++ wsX10 ++ wsX30 ++ wsX40)
def wsX5_append : List Cond := .code yX5_append cX5_append 2 (some .long) :: ([.constantLong RX5 44 (-9000000000000000001), .fieldLink RX5 12 "AchromatDesk" "buffer" "LAchromatDesk$GlassText;", .constantLong RX5 50 (-9000000000000000004), .methodLink RX5 52 yX2_add, .instanceMethod yX2_add, .selects RX2 yX2_add yX2_add, .initialized RX2, .code yX2_add cX2_add 2 none, .fieldLink RX2 15 "AchromatDesk$GlassText" "length" "I", .fieldLink RX2 11 "AchromatDesk$GlassText" "codes" "[I"] ++ wsX50 ++ wsX20)
def wsX5_clearBuffer : List Cond := .code yX5_clearBuffer cX5_clearBuffer 2 (some .long) :: ([.fieldLink RX5 12 "AchromatDesk" "buffer" "LAchromatDesk$GlassText;", .methodLink RX5 56 yX2_empty, .instanceMethod yX2_empty, .selects RX2 yX2_empty yX2_empty, .initialized RX2, .code yX2_empty cX2_empty 1 none, .fieldLink RX2 15 "AchromatDesk$GlassText" "length" "I"] ++ wsX50 ++ wsX20)
def wsX5_errorPosition_r1 : List Cond := [Cond.fieldLink RX5 12 "AchromatDesk" "buffer" "LAchromatDesk$GlassText;", Cond.methodLink RX5 59 yX2_firstFault, Cond.instanceMethod yX2_firstFault, Cond.selects RX2 yX2_firstFault yX2_firstFault, Cond.initialized RX2, Cond.code yX2_firstFault cX2_firstFault 3 (some .int), Cond.fieldLink RX2 15 "AchromatDesk$GlassText" "length" "I", Cond.fieldLink RX2 11 "AchromatDesk$GlassText" "codes" "[I", Cond.methodLink RX2 19 yX2_nameLength, Cond.instanceMethod yX2_nameLength, Cond.selects RX2 yX2_nameLength yX2_nameLength, Cond.code yX2_nameLength cX2_nameLength 4 (some .int), Cond.methodLink RX2 36 Lib.Math.min.name, Cond.static Lib.Math.min.name, Cond.initialized "java/lang/Math", Cond.code Lib.Math.min.name Lib.Math.min.code 2 (some .int), Cond.methodLink RX2 42 yX2_isLetter, Cond.static yX2_isLetter, Cond.code yX2_isLetter cX2_isLetter 1 (some .boolean), Cond.methodLink RX2 46 yX2_isDigit, Cond.static yX2_isDigit, Cond.code yX2_isDigit cX2_isDigit 1 (some .boolean), Cond.methodLink RX2 23 yX2_isAllowedBehindName, Cond.static yX2_isAllowedBehindName]
def wsX5_errorPosition_r2 : List Cond := [Cond.code yX2_isAllowedBehindName cX2_isAllowedBehindName 3 (some .boolean)]
def wsX5_errorPosition : List Cond := .code yX5_errorPosition cX5_errorPosition 1 (some .long) :: ((wsX5_errorPosition_r1 ++ wsX5_errorPosition_r2) ++ wsX50 ++ wsX20)
def wsX5_areGlassIndices : List Cond := .code yX5_areGlassIndices cX5_areGlassIndices 3 (some .boolean) :: ([.constant RX5 256 (130000), .constant RX5 257 (230000)])
def wsX5_addGlass_r1 : List Cond := [Cond.fieldLink RX5 12 "AchromatDesk" "buffer" "LAchromatDesk$GlassText;", Cond.constantLong RX5 67 (-9000000000000000005), Cond.constantLong RX5 44 (-9000000000000000001), Cond.fieldLink RX5 19 "AchromatDesk" "glasses" "LAchromatDesk$Catalogue;", Cond.constantLong RX5 50 (-9000000000000000004), Cond.constantLong RX5 88 (-9000000000000000006), Cond.methodLink RX5 63 yX2_isComplete, Cond.instanceMethod yX2_isComplete, Cond.selects RX2 yX2_isComplete yX2_isComplete, Cond.initialized RX2, Cond.code yX2_isComplete cX2_isComplete 2 (some .boolean), Cond.fieldLink RX2 15 "AchromatDesk$GlassText" "length" "I", Cond.methodLink RX2 19 yX2_nameLength, Cond.instanceMethod yX2_nameLength, Cond.selects RX2 yX2_nameLength yX2_nameLength, Cond.code yX2_nameLength cX2_nameLength 4 (some .int), Cond.methodLink RX2 36 Lib.Math.min.name, Cond.static Lib.Math.min.name, Cond.initialized "java/lang/Math", Cond.code Lib.Math.min.name Lib.Math.min.code 2 (some .int), Cond.fieldLink RX2 11 "AchromatDesk$GlassText" "codes" "[I", Cond.methodLink RX2 42 yX2_isLetter, Cond.static yX2_isLetter, Cond.code yX2_isLetter cX2_isLetter 1 (some .boolean)]
def wsX5_addGlass_r2 : List Cond := [Cond.methodLink RX2 46 yX2_isDigit, Cond.static yX2_isDigit, Cond.code yX2_isDigit cX2_isDigit 1 (some .boolean), Cond.methodLink RX2 27 yX2_firstFault, Cond.instanceMethod yX2_firstFault, Cond.selects RX2 yX2_firstFault yX2_firstFault, Cond.code yX2_firstFault cX2_firstFault 3 (some .int), Cond.methodLink RX2 23 yX2_isAllowedBehindName, Cond.static yX2_isAllowedBehindName, Cond.code yX2_isAllowedBehindName cX2_isAllowedBehindName 3 (some .boolean), Cond.methodLink RX5 69 yX2_number, Cond.instanceMethod yX2_number, Cond.selects RX2 yX2_number yX2_number, Cond.code yX2_number cX2_number 5 (some .int), Cond.methodLink RX2 30 yX2_codeAt, Cond.instanceMethod yX2_codeAt, Cond.selects RX2 yX2_codeAt yX2_codeAt, Cond.code yX2_codeAt cX2_codeAt 2 (some .int), Cond.methodLink RX5 73 yX5_areGlassIndices, Cond.static yX5_areGlassIndices, Cond.initialized RX5, Cond.code yX5_areGlassIndices cX5_areGlassIndices 3 (some .boolean), Cond.constant RX5 256 (130000), Cond.constant RX5 257 (230000)]
def wsX5_addGlass_r3 : List Cond := [Cond.methodLink RX5 80 yX2_nameKey, Cond.instanceMethod yX2_nameKey, Cond.selects RX2 yX2_nameKey yX2_nameKey, Cond.code yX2_nameKey cX2_nameKey 5 (some .long), Cond.constantLong RX2 34 (128), Cond.methodLink RX5 84 yX0_hasName, Cond.instanceMethod yX0_hasName, Cond.selects RX0 yX0_hasName yX0_hasName, Cond.initialized RX0, Cond.code yX0_hasName cX0_hasName 4 (some .boolean), Cond.fieldLink RX0 25 "AchromatDesk$Catalogue" "count" "I", Cond.fieldLink RX0 9 "AchromatDesk$Catalogue" "nameKeys" "[J", Cond.methodLink RX5 90 yX0_add, Cond.instanceMethod yX0_add, Cond.selects RX0 yX0_add yX0_add, Cond.code yX0_add cX0_add 6 none, Cond.fieldLink RX0 15 "AchromatDesk$Catalogue" "indicesF" "[I", Cond.fieldLink RX0 19 "AchromatDesk$Catalogue" "indicesD" "[I", Cond.fieldLink RX0 22 "AchromatDesk$Catalogue" "indicesC" "[I", Cond.methodLink RX5 56 yX2_empty, Cond.instanceMethod yX2_empty, Cond.selects RX2 yX2_empty yX2_empty, Cond.code yX2_empty cX2_empty 1 none]
def wsX5_addGlass : List Cond := .code yX5_addGlass cX5_addGlass 6 (some .long) :: ((wsX5_addGlass_r1 ++ (wsX5_addGlass_r2 ++ wsX5_addGlass_r3)) ++ wsX50 ++ wsX00 ++ wsX20)
def wsX5_removeGlass_r1 : List Cond := [Cond.fieldLink RX5 19 "AchromatDesk" "glasses" "LAchromatDesk$Catalogue;", Cond.constantLong RX5 97 (-9000000000000000002), Cond.fieldLink RX5 33 "AchromatDesk" "system" "LAchromatDesk$LensSystem;", Cond.constantLong RX5 102 (-9000000000000000007), Cond.methodLink RX5 93 yX0_has, Cond.instanceMethod yX0_has, Cond.selects RX0 yX0_has yX0_has, Cond.initialized RX0, Cond.code yX0_has cX0_has 2 (some .boolean), Cond.fieldLink RX0 25 "AchromatDesk$Catalogue" "count" "I", Cond.methodLink RX5 99 yX3_uses, Cond.instanceMethod yX3_uses, Cond.selects RX3 yX3_uses yX3_uses, Cond.initialized RX3, Cond.code yX3_uses cX3_uses 3 (some .boolean), Cond.fieldLink RX3 18 "AchromatDesk$LensSystem" "count" "I", Cond.fieldLink RX3 9 "AchromatDesk$LensSystem" "glassNumbers" "[I", Cond.methodLink RX5 104 yX0_remove, Cond.instanceMethod yX0_remove, Cond.selects RX0 yX0_remove yX0_remove, Cond.code yX0_remove cX0_remove 3 none, Cond.fieldLink RX0 9 "AchromatDesk$Catalogue" "nameKeys" "[J", Cond.fieldLink RX0 15 "AchromatDesk$Catalogue" "indicesF" "[I", Cond.fieldLink RX0 19 "AchromatDesk$Catalogue" "indicesD" "[I"]
def wsX5_removeGlass_r2 : List Cond := [Cond.fieldLink RX0 22 "AchromatDesk$Catalogue" "indicesC" "[I", Cond.methodLink RX0 29 yX0_has, Cond.methodLink RX5 107 yX3_closeGapAt, Cond.instanceMethod yX3_closeGapAt, Cond.selects RX3 yX3_closeGapAt yX3_closeGapAt, Cond.code yX3_closeGapAt cX3_closeGapAt 3 none]
def wsX5_removeGlass : List Cond := .code yX5_removeGlass cX5_removeGlass 2 (some .long) :: ((wsX5_removeGlass_r1 ++ wsX5_removeGlass_r2) ++ wsX50 ++ wsX00 ++ wsX30)
def wsX5_glassCount : List Cond := .code yX5_glassCount cX5_glassCount 1 (some .long) :: ([.fieldLink RX5 19 "AchromatDesk" "glasses" "LAchromatDesk$Catalogue;"] ++ wsX50 ++ wsX00)
def wsX5_isColour : List Cond := .code yX5_isColour cX5_isColour 1 (some .boolean) :: ([])
def wsX5_index : List Cond := .code yX5_index cX5_index 3 (some .long) :: ([.fieldLink RX5 19 "AchromatDesk" "glasses" "LAchromatDesk$Catalogue;", .constantLong RX5 97 (-9000000000000000002), .constantLong RX5 44 (-9000000000000000001), .methodLink RX5 93 yX0_has, .instanceMethod yX0_has, .selects RX0 yX0_has yX0_has, .initialized RX0, .code yX0_has cX0_has 2 (some .boolean), .fieldLink RX0 25 "AchromatDesk$Catalogue" "count" "I", .methodLink RX5 110 yX5_isColour, .static yX5_isColour, .initialized RX5, .code yX5_isColour cX5_isColour 1 (some .boolean), .methodLink RX5 113 yX0_indexFor, .instanceMethod yX0_indexFor, .selects RX0 yX0_indexFor yX0_indexFor, .code yX0_indexFor cX0_indexFor 3 (some .long), .fieldLink RX0 15 "AchromatDesk$Catalogue" "indicesF" "[I", .fieldLink RX0 19 "AchromatDesk$Catalogue" "indicesD" "[I", .fieldLink RX0 22 "AchromatDesk$Catalogue" "indicesC" "[I"] ++ wsX50 ++ wsX00)
def wsX5_placeByName : List Cond := .code yX5_placeByName cX5_placeByName 2 (some .long) :: ([.fieldLink RX5 19 "AchromatDesk" "glasses" "LAchromatDesk$Catalogue;", .constantLong RX5 97 (-9000000000000000002), .methodLink RX5 93 yX0_has, .instanceMethod yX0_has, .selects RX0 yX0_has yX0_has, .initialized RX0, .code yX0_has cX0_has 2 (some .boolean), .fieldLink RX0 25 "AchromatDesk$Catalogue" "count" "I", .methodLink RX5 117 yX0_namesBefore, .instanceMethod yX0_namesBefore, .selects RX0 yX0_namesBefore yX0_namesBefore, .code yX0_namesBefore cX0_namesBefore 4 (some .int), .fieldLink RX0 9 "AchromatDesk$Catalogue" "nameKeys" "[J"] ++ wsX50 ++ wsX00)
def wsX5_abbe_r1 : List Cond := [Cond.fieldLink RX5 19 "AchromatDesk" "glasses" "LAchromatDesk$Catalogue;", Cond.constantLong RX5 97 (-9000000000000000002), Cond.methodLink RX5 93 yX0_has, Cond.instanceMethod yX0_has, Cond.selects RX0 yX0_has yX0_has, Cond.initialized RX0, Cond.code yX0_has cX0_has 2 (some .boolean), Cond.fieldLink RX0 25 "AchromatDesk$Catalogue" "count" "I", Cond.methodLink RX5 120 yX0_abbeNumber, Cond.instanceMethod yX0_abbeNumber, Cond.selects RX0 yX0_abbeNumber yX0_abbeNumber, Cond.code yX0_abbeNumber cX0_abbeNumber 2 (some .long), Cond.constantLong RX0 33 (1000), Cond.methodLink RX0 35 yX0_valueA, Cond.instanceMethod yX0_valueA, Cond.selects RX0 yX0_valueA yX0_valueA, Cond.code yX0_valueA cX0_valueA 2 (some .long), Cond.fieldLink RX0 19 "AchromatDesk$Catalogue" "indicesD" "[I", Cond.constant RX0 49 (100000), Cond.methodLink RX0 39 yX0_valueB, Cond.instanceMethod yX0_valueB, Cond.selects RX0 yX0_valueB yX0_valueB, Cond.code yX0_valueB cX0_valueB 2 (some .long), Cond.fieldLink RX0 15 "AchromatDesk$Catalogue" "indicesF" "[I"]
def wsX5_abbe_r2 : List Cond := [Cond.fieldLink RX0 22 "AchromatDesk$Catalogue" "indicesC" "[I", Cond.static yX5_floorQuotient, Cond.initialized RX5, Cond.code yX5_floorQuotient cX5_floorQuotient 4 (some .long), Cond.methodLink RX5 258 yJ9_floorDiv_f86c9, Cond.static yJ9_floorDiv_f86c9, Cond.initialized RJ9, Cond.code yJ9_floorDiv_f86c9 cJ9_floorDiv_f86c9 6 (some .long)]
def wsX5_abbe : List Cond := .code yX5_abbe cX5_abbe 2 (some .long) :: ((wsX5_abbe_r1 ++ wsX5_abbe_r2) ++ wsX50 ++ wsX00)
def wsX5_partial_r1 : List Cond := [Cond.fieldLink RX5 19 "AchromatDesk" "glasses" "LAchromatDesk$Catalogue;", Cond.constantLong RX5 97 (-9000000000000000002), Cond.constantLong RX5 124 (100000), Cond.methodLink RX5 93 yX0_has, Cond.instanceMethod yX0_has, Cond.selects RX0 yX0_has yX0_has, Cond.initialized RX0, Cond.code yX0_has cX0_has 2 (some .boolean), Cond.fieldLink RX0 25 "AchromatDesk$Catalogue" "count" "I", Cond.methodLink RX5 126 yX0_valueD, Cond.instanceMethod yX0_valueD, Cond.selects RX0 yX0_valueD yX0_valueD, Cond.code yX0_valueD cX0_valueD 2 (some .long), Cond.fieldLink RX0 15 "AchromatDesk$Catalogue" "indicesF" "[I", Cond.fieldLink RX0 19 "AchromatDesk$Catalogue" "indicesD" "[I", Cond.methodLink RX5 129 yX0_valueB, Cond.instanceMethod yX0_valueB, Cond.selects RX0 yX0_valueB yX0_valueB, Cond.code yX0_valueB cX0_valueB 2 (some .long), Cond.fieldLink RX0 22 "AchromatDesk$Catalogue" "indicesC" "[I", Cond.methodLink RX5 132 yX5_floorQuotient, Cond.static yX5_floorQuotient, Cond.initialized RX5, Cond.code yX5_floorQuotient cX5_floorQuotient 4 (some .long)]
def wsX5_partial_r2 : List Cond := [Cond.methodLink RX5 258 yJ9_floorDiv_f86c9, Cond.static yJ9_floorDiv_f86c9, Cond.initialized RJ9, Cond.code yJ9_floorDiv_f86c9 cJ9_floorDiv_f86c9 6 (some .long)]
def wsX5_partial : List Cond := .code yX5_partial cX5_partial 2 (some .long) :: ((wsX5_partial_r1 ++ wsX5_partial_r2) ++ wsX50 ++ wsX00)
def wsX5_glassWithAbbe_r1 : List Cond := [Cond.fieldLink RX5 19 "AchromatDesk" "glasses" "LAchromatDesk$Catalogue;", Cond.constantLong RX5 139 (-9000000000000000008), Cond.methodLink RX5 136 yX0_leastAbbeFrom, Cond.instanceMethod yX0_leastAbbeFrom, Cond.selects RX0 yX0_leastAbbeFrom yX0_leastAbbeFrom, Cond.initialized RX0, Cond.code yX0_leastAbbeFrom cX0_leastAbbeFrom 8 (some .int), Cond.fieldLink RX0 25 "AchromatDesk$Catalogue" "count" "I", Cond.methodLink RX0 46 yX0_abbeNumber, Cond.instanceMethod yX0_abbeNumber, Cond.selects RX0 yX0_abbeNumber yX0_abbeNumber, Cond.code yX0_abbeNumber cX0_abbeNumber 2 (some .long), Cond.constantLong RX0 33 (1000), Cond.methodLink RX0 35 yX0_valueA, Cond.instanceMethod yX0_valueA, Cond.selects RX0 yX0_valueA yX0_valueA, Cond.code yX0_valueA cX0_valueA 2 (some .long), Cond.fieldLink RX0 19 "AchromatDesk$Catalogue" "indicesD" "[I", Cond.constant RX0 49 (100000), Cond.methodLink RX0 39 yX0_valueB, Cond.instanceMethod yX0_valueB, Cond.selects RX0 yX0_valueB yX0_valueB, Cond.code yX0_valueB cX0_valueB 2 (some .long), Cond.fieldLink RX0 15 "AchromatDesk$Catalogue" "indicesF" "[I"]
def wsX5_glassWithAbbe_r2 : List Cond := [Cond.fieldLink RX0 22 "AchromatDesk$Catalogue" "indicesC" "[I", Cond.static yX5_floorQuotient, Cond.initialized RX5, Cond.code yX5_floorQuotient cX5_floorQuotient 4 (some .long), Cond.methodLink RX5 258 yJ9_floorDiv_f86c9, Cond.static yJ9_floorDiv_f86c9, Cond.initialized RJ9, Cond.code yJ9_floorDiv_f86c9 cJ9_floorDiv_f86c9 6 (some .long)]
def wsX5_glassWithAbbe : List Cond := .code yX5_glassWithAbbe cX5_glassWithAbbe 3 (some .long) :: ((wsX5_glassWithAbbe_r1 ++ wsX5_glassWithAbbe_r2) ++ wsX50 ++ wsX00)
def wsX5_isDesignPower : List Cond := .code yX5_isDesignPower cX5_isDesignPower 1 (some .boolean) :: ([])
def wsX5_doubletPower_r1 : List Cond := [Cond.fieldLink RX5 19 "AchromatDesk" "glasses" "LAchromatDesk$Catalogue;", Cond.constantLong RX5 97 (-9000000000000000002), Cond.constantLong RX5 44 (-9000000000000000001), Cond.constantLong RX5 139 (-9000000000000000008), Cond.constantLong RX5 150 (1000), Cond.methodLink RX5 93 yX0_has, Cond.instanceMethod yX0_has, Cond.selects RX0 yX0_has yX0_has, Cond.initialized RX0, Cond.code yX0_has cX0_has 2 (some .boolean), Cond.fieldLink RX0 25 "AchromatDesk$Catalogue" "count" "I", Cond.methodLink RX5 141 yX5_isDesignPower, Cond.static yX5_isDesignPower, Cond.initialized RX5, Cond.code yX5_isDesignPower cX5_isDesignPower 1 (some .boolean), Cond.methodLink RX5 144 yX0_valueE, Cond.instanceMethod yX0_valueE, Cond.selects RX0 yX0_valueE yX0_valueE, Cond.code yX0_valueE cX0_valueE 3 (some .long), Cond.methodLink RX0 35 yX0_valueA, Cond.instanceMethod yX0_valueA, Cond.selects RX0 yX0_valueA yX0_valueA, Cond.code yX0_valueA cX0_valueA 2 (some .long), Cond.fieldLink RX0 19 "AchromatDesk$Catalogue" "indicesD" "[I"]
def wsX5_doubletPower_r2 : List Cond := [Cond.constant RX0 49 (100000), Cond.methodLink RX0 39 yX0_valueB, Cond.instanceMethod yX0_valueB, Cond.selects RX0 yX0_valueB yX0_valueB, Cond.code yX0_valueB cX0_valueB 2 (some .long), Cond.fieldLink RX0 15 "AchromatDesk$Catalogue" "indicesF" "[I", Cond.fieldLink RX0 22 "AchromatDesk$Catalogue" "indicesC" "[I", Cond.methodLink RX5 147 yX0_valueA, Cond.methodLink RX5 129 yX0_valueB, Cond.methodLink RX5 132 yX5_floorQuotient, Cond.static yX5_floorQuotient, Cond.code yX5_floorQuotient cX5_floorQuotient 4 (some .long), Cond.methodLink RX5 258 yJ9_floorDiv_f86c9, Cond.static yJ9_floorDiv_f86c9, Cond.initialized RJ9, Cond.code yJ9_floorDiv_f86c9 cJ9_floorDiv_f86c9 6 (some .long)]
def wsX5_doubletPower : List Cond := .code yX5_doubletPower cX5_doubletPower 9 (some .long) :: ((wsX5_doubletPower_r1 ++ wsX5_doubletPower_r2) ++ wsX50 ++ wsX00)
def wsX5_secondarySpectrum_r1 : List Cond := [Cond.fieldLink RX5 19 "AchromatDesk" "glasses" "LAchromatDesk$Catalogue;", Cond.constantLong RX5 97 (-9000000000000000002), Cond.constantLong RX5 44 (-9000000000000000001), Cond.constantLong RX5 139 (-9000000000000000008), Cond.constantLong RX5 152 (1000000), Cond.methodLink RX5 93 yX0_has, Cond.instanceMethod yX0_has, Cond.selects RX0 yX0_has yX0_has, Cond.initialized RX0, Cond.code yX0_has cX0_has 2 (some .boolean), Cond.fieldLink RX0 25 "AchromatDesk$Catalogue" "count" "I", Cond.methodLink RX5 141 yX5_isDesignPower, Cond.static yX5_isDesignPower, Cond.initialized RX5, Cond.code yX5_isDesignPower cX5_isDesignPower 1 (some .boolean), Cond.methodLink RX5 144 yX0_valueE, Cond.instanceMethod yX0_valueE, Cond.selects RX0 yX0_valueE yX0_valueE, Cond.code yX0_valueE cX0_valueE 3 (some .long), Cond.methodLink RX0 35 yX0_valueA, Cond.instanceMethod yX0_valueA, Cond.selects RX0 yX0_valueA yX0_valueA, Cond.code yX0_valueA cX0_valueA 2 (some .long), Cond.fieldLink RX0 19 "AchromatDesk$Catalogue" "indicesD" "[I"]
def wsX5_secondarySpectrum_r2 : List Cond := [Cond.constant RX0 49 (100000), Cond.methodLink RX0 39 yX0_valueB, Cond.instanceMethod yX0_valueB, Cond.selects RX0 yX0_valueB yX0_valueB, Cond.code yX0_valueB cX0_valueB 2 (some .long), Cond.fieldLink RX0 15 "AchromatDesk$Catalogue" "indicesF" "[I", Cond.fieldLink RX0 22 "AchromatDesk$Catalogue" "indicesC" "[I", Cond.methodLink RX5 154 yX0_valueX, Cond.instanceMethod yX0_valueX, Cond.selects RX0 yX0_valueX yX0_valueX, Cond.code yX0_valueX cX0_valueX 3 (some .long), Cond.methodLink RX0 50 yX0_valueD, Cond.instanceMethod yX0_valueD, Cond.selects RX0 yX0_valueD yX0_valueD, Cond.code yX0_valueD cX0_valueD 2 (some .long), Cond.methodLink RX5 132 yX5_floorQuotient, Cond.static yX5_floorQuotient, Cond.code yX5_floorQuotient cX5_floorQuotient 4 (some .long), Cond.methodLink RX5 258 yJ9_floorDiv_f86c9, Cond.static yJ9_floorDiv_f86c9, Cond.initialized RJ9, Cond.code yJ9_floorDiv_f86c9 cJ9_floorDiv_f86c9 6 (some .long)]
def wsX5_secondarySpectrum : List Cond := .code yX5_secondarySpectrum cX5_secondarySpectrum 6 (some .long) :: ((wsX5_secondarySpectrum_r1 ++ wsX5_secondarySpectrum_r2) ++ wsX50 ++ wsX00)
def wsX5_doubletAt_r1 : List Cond := [Cond.fieldLink RX5 26 "AchromatDesk" "doublets" "LAchromatDesk$DoubletRanking;", Cond.fieldLink RX5 19 "AchromatDesk" "glasses" "LAchromatDesk$Catalogue;", Cond.constantLong RX5 139 (-9000000000000000008), Cond.methodLink RX5 157 yX1_collect, Cond.instanceMethod yX1_collect, Cond.selects RX1 yX1_collect yX1_collect, Cond.initialized RX1, Cond.code yX1_collect cX1_collect 4 none, Cond.fieldLink RX1 28 "AchromatDesk$DoubletRanking" "count" "I", Cond.methodLink RX1 35 yX0_valueE, Cond.instanceMethod yX0_valueE, Cond.selects RX0 yX0_valueE yX0_valueE, Cond.initialized RX0, Cond.code yX0_valueE cX0_valueE 3 (some .long), Cond.methodLink RX0 35 yX0_valueA, Cond.instanceMethod yX0_valueA, Cond.selects RX0 yX0_valueA yX0_valueA, Cond.code yX0_valueA cX0_valueA 2 (some .long), Cond.fieldLink RX0 19 "AchromatDesk$Catalogue" "indicesD" "[I", Cond.constant RX0 49 (100000), Cond.methodLink RX0 39 yX0_valueB, Cond.instanceMethod yX0_valueB, Cond.selects RX0 yX0_valueB yX0_valueB, Cond.code yX0_valueB cX0_valueB 2 (some .long)]
def wsX5_doubletAt_r2 : List Cond := [Cond.fieldLink RX0 15 "AchromatDesk$Catalogue" "indicesF" "[I", Cond.fieldLink RX0 22 "AchromatDesk$Catalogue" "indicesC" "[I", Cond.methodLink RX1 39 yX1_keep, Cond.instanceMethod yX1_keep, Cond.selects RX1 yX1_keep yX1_keep, Cond.code yX1_keep cX1_keep 4 none, Cond.fieldLink RX1 9 "AchromatDesk$DoubletRanking" "codes" "[I", Cond.fieldLink RX1 15 "AchromatDesk$DoubletRanking" "divisors" "[J", Cond.fieldLink RX1 19 "AchromatDesk$DoubletRanking" "spectra" "[J", Cond.methodLink RX1 50 Lib.MathLoose.abs_long.x, Cond.static Lib.MathLoose.abs_long.x, Cond.initialized "java/lang/Math", Cond.code Lib.MathLoose.abs_long.x Lib.MathLoose.abs_long.code 2 (some .long), Cond.fieldLink RX1 22 "AchromatDesk$DoubletRanking" "strains" "[J", Cond.methodLink RX1 47 yX0_valueX, Cond.instanceMethod yX0_valueX, Cond.selects RX0 yX0_valueX yX0_valueX, Cond.code yX0_valueX cX0_valueX 3 (some .long), Cond.methodLink RX0 50 yX0_valueD, Cond.instanceMethod yX0_valueD, Cond.selects RX0 yX0_valueD yX0_valueD, Cond.code yX0_valueD cX0_valueD 2 (some .long), Cond.methodLink RX1 56 yX0_valueA, Cond.methodLink RX1 60 yX0_valueB]
def wsX5_doubletAt_r3 : List Cond := [Cond.methodLink RX5 162 yX1_rank, Cond.instanceMethod yX1_rank, Cond.selects RX1 yX1_rank yX1_rank, Cond.code yX1_rank cX1_rank 5 none, Cond.fieldLink RX1 25 "AchromatDesk$DoubletRanking" "order" "[I", Cond.methodLink RX1 43 yX1_placeAmong, Cond.instanceMethod yX1_placeAmong, Cond.selects RX1 yX1_placeAmong yX1_placeAmong, Cond.code yX1_placeAmong cX1_placeAmong 6 (some .int), Cond.methodLink RX1 63 yX1_compareSlots, Cond.instanceMethod yX1_compareSlots, Cond.selects RX1 yX1_compareSlots yX1_compareSlots, Cond.code yX1_compareSlots cX1_compareSlots 6 (some .int), Cond.methodLink RX1 67 yJ13_compare_74951, Cond.static yJ13_compare_74951, Cond.initialized RJ13, Cond.code yJ13_compare_74951 cJ13_compare_74951 4 (some .int), Cond.methodLink RX5 166 yX1_codeAt, Cond.instanceMethod yX1_codeAt, Cond.selects RX1 yX1_codeAt yX1_codeAt, Cond.code yX1_codeAt cX1_codeAt 2 (some .int)]
def wsX5_doubletAt : List Cond := .code yX5_doubletAt cX5_doubletAt 3 (some .long) :: ((wsX5_doubletAt_r1 ++ (wsX5_doubletAt_r2 ++ wsX5_doubletAt_r3)) ++ wsX50 ++ wsX10 ++ wsX00)
def wsX5_doubletCount_r1 : List Cond := [Cond.fieldLink RX5 26 "AchromatDesk" "doublets" "LAchromatDesk$DoubletRanking;", Cond.fieldLink RX5 19 "AchromatDesk" "glasses" "LAchromatDesk$Catalogue;", Cond.methodLink RX5 157 yX1_collect, Cond.instanceMethod yX1_collect, Cond.selects RX1 yX1_collect yX1_collect, Cond.initialized RX1, Cond.code yX1_collect cX1_collect 4 none, Cond.fieldLink RX1 28 "AchromatDesk$DoubletRanking" "count" "I", Cond.methodLink RX1 35 yX0_valueE, Cond.instanceMethod yX0_valueE, Cond.selects RX0 yX0_valueE yX0_valueE, Cond.initialized RX0, Cond.code yX0_valueE cX0_valueE 3 (some .long), Cond.methodLink RX0 35 yX0_valueA, Cond.instanceMethod yX0_valueA, Cond.selects RX0 yX0_valueA yX0_valueA, Cond.code yX0_valueA cX0_valueA 2 (some .long), Cond.fieldLink RX0 19 "AchromatDesk$Catalogue" "indicesD" "[I", Cond.constant RX0 49 (100000), Cond.methodLink RX0 39 yX0_valueB, Cond.instanceMethod yX0_valueB, Cond.selects RX0 yX0_valueB yX0_valueB, Cond.code yX0_valueB cX0_valueB 2 (some .long), Cond.fieldLink RX0 15 "AchromatDesk$Catalogue" "indicesF" "[I"]
def wsX5_doubletCount_r2 : List Cond := [Cond.fieldLink RX0 22 "AchromatDesk$Catalogue" "indicesC" "[I", Cond.methodLink RX1 39 yX1_keep, Cond.instanceMethod yX1_keep, Cond.selects RX1 yX1_keep yX1_keep, Cond.code yX1_keep cX1_keep 4 none, Cond.fieldLink RX1 9 "AchromatDesk$DoubletRanking" "codes" "[I", Cond.fieldLink RX1 15 "AchromatDesk$DoubletRanking" "divisors" "[J", Cond.fieldLink RX1 19 "AchromatDesk$DoubletRanking" "spectra" "[J", Cond.methodLink RX1 50 Lib.MathLoose.abs_long.x, Cond.static Lib.MathLoose.abs_long.x, Cond.initialized "java/lang/Math", Cond.code Lib.MathLoose.abs_long.x Lib.MathLoose.abs_long.code 2 (some .long), Cond.fieldLink RX1 22 "AchromatDesk$DoubletRanking" "strains" "[J", Cond.methodLink RX1 47 yX0_valueX, Cond.instanceMethod yX0_valueX, Cond.selects RX0 yX0_valueX yX0_valueX, Cond.code yX0_valueX cX0_valueX 3 (some .long), Cond.methodLink RX0 50 yX0_valueD, Cond.instanceMethod yX0_valueD, Cond.selects RX0 yX0_valueD yX0_valueD, Cond.code yX0_valueD cX0_valueD 2 (some .long), Cond.methodLink RX1 56 yX0_valueA, Cond.methodLink RX1 60 yX0_valueB]
def wsX5_doubletCount : List Cond := .code yX5_doubletCount cX5_doubletCount 1 (some .long) :: ((wsX5_doubletCount_r1 ++ wsX5_doubletCount_r2) ++ wsX50 ++ wsX10 ++ wsX00)
def wsX5_tripletPower_r1 : List Cond := [Cond.fieldLink RX5 19 "AchromatDesk" "glasses" "LAchromatDesk$Catalogue;", Cond.constantLong RX5 97 (-9000000000000000002), Cond.constantLong RX5 88 (-9000000000000000006), Cond.constantLong RX5 44 (-9000000000000000001), Cond.constantLong RX5 139 (-9000000000000000008), Cond.methodLink RX5 93 yX0_has, Cond.instanceMethod yX0_has, Cond.selects RX0 yX0_has yX0_has, Cond.initialized RX0, Cond.code yX0_has cX0_has 2 (some .boolean), Cond.fieldLink RX0 25 "AchromatDesk$Catalogue" "count" "I", Cond.methodLink RX5 141 yX5_isDesignPower, Cond.static yX5_isDesignPower, Cond.initialized RX5, Cond.code yX5_isDesignPower cX5_isDesignPower 1 (some .boolean), Cond.methodLink RX5 169 yX0_tripletShare, Cond.instanceMethod yX0_tripletShare, Cond.selects RX0 yX0_tripletShare yX0_tripletShare, Cond.code yX0_tripletShare cX0_tripletShare 4 (some .long), Cond.methodLink RX0 35 yX0_valueA, Cond.instanceMethod yX0_valueA, Cond.selects RX0 yX0_valueA yX0_valueA, Cond.code yX0_valueA cX0_valueA 2 (some .long), Cond.fieldLink RX0 19 "AchromatDesk$Catalogue" "indicesD" "[I"]
def wsX5_tripletPower_r2 : List Cond := [Cond.constant RX0 49 (100000), Cond.methodLink RX0 53 yX0_valueX, Cond.instanceMethod yX0_valueX, Cond.selects RX0 yX0_valueX yX0_valueX, Cond.code yX0_valueX cX0_valueX 3 (some .long), Cond.methodLink RX0 39 yX0_valueB, Cond.instanceMethod yX0_valueB, Cond.selects RX0 yX0_valueB yX0_valueB, Cond.code yX0_valueB cX0_valueB 2 (some .long), Cond.fieldLink RX0 15 "AchromatDesk$Catalogue" "indicesF" "[I", Cond.fieldLink RX0 22 "AchromatDesk$Catalogue" "indicesC" "[I", Cond.methodLink RX0 50 yX0_valueD, Cond.instanceMethod yX0_valueD, Cond.selects RX0 yX0_valueD yX0_valueD, Cond.code yX0_valueD cX0_valueD 2 (some .long), Cond.methodLink RX5 132 yX5_floorQuotient, Cond.static yX5_floorQuotient, Cond.code yX5_floorQuotient cX5_floorQuotient 4 (some .long), Cond.methodLink RX5 258 yJ9_floorDiv_f86c9, Cond.static yJ9_floorDiv_f86c9, Cond.initialized RJ9, Cond.code yJ9_floorDiv_f86c9 cJ9_floorDiv_f86c9 6 (some .long)]
def wsX5_tripletPower : List Cond := .code yX5_tripletPower cX5_tripletPower 16 (some .long) :: ((wsX5_tripletPower_r1 ++ wsX5_tripletPower_r2) ++ wsX50 ++ wsX00)
def wsX5_absolutePower : List Cond := .code yX5_absolutePower cX5_absolutePower 4 (some .long) :: ([.constantLong RX5 267 (10000), .methodLink RX5 218 Lib.MathLoose.abs_long.x, .static Lib.MathLoose.abs_long.x, .initialized "java/lang/Math", .code Lib.MathLoose.abs_long.x Lib.MathLoose.abs_long.code 2 (some .long), .methodLink RX5 132 yX5_floorQuotient, .static yX5_floorQuotient, .initialized RX5, .code yX5_floorQuotient cX5_floorQuotient 4 (some .long), .methodLink RX5 258 yJ9_floorDiv_f86c9, .static yJ9_floorDiv_f86c9, .initialized RJ9, .code yJ9_floorDiv_f86c9 cJ9_floorDiv_f86c9 6 (some .long)])
def wsX5_greatestTripletPower_r1 : List Cond := [Cond.fieldLink RX5 19 "AchromatDesk" "glasses" "LAchromatDesk$Catalogue;", Cond.constantLong RX5 212 (-1), Cond.methodLink RX5 264 Lib.MathLoose.max_long.x, Cond.static Lib.MathLoose.max_long.x, Cond.initialized "java/lang/Math", Cond.code Lib.MathLoose.max_long.x Lib.MathLoose.max_long.code 4 (some .long), Cond.methodLink RX5 169 yX0_tripletShare, Cond.instanceMethod yX0_tripletShare, Cond.selects RX0 yX0_tripletShare yX0_tripletShare, Cond.initialized RX0, Cond.code yX0_tripletShare cX0_tripletShare 4 (some .long), Cond.methodLink RX0 35 yX0_valueA, Cond.instanceMethod yX0_valueA, Cond.selects RX0 yX0_valueA yX0_valueA, Cond.code yX0_valueA cX0_valueA 2 (some .long), Cond.fieldLink RX0 19 "AchromatDesk$Catalogue" "indicesD" "[I", Cond.constant RX0 49 (100000), Cond.methodLink RX0 53 yX0_valueX, Cond.instanceMethod yX0_valueX, Cond.selects RX0 yX0_valueX yX0_valueX, Cond.code yX0_valueX cX0_valueX 3 (some .long), Cond.methodLink RX0 39 yX0_valueB, Cond.instanceMethod yX0_valueB, Cond.selects RX0 yX0_valueB yX0_valueB]
def wsX5_greatestTripletPower_r2 : List Cond := [Cond.code yX0_valueB cX0_valueB 2 (some .long), Cond.fieldLink RX0 15 "AchromatDesk$Catalogue" "indicesF" "[I", Cond.fieldLink RX0 22 "AchromatDesk$Catalogue" "indicesC" "[I", Cond.methodLink RX0 50 yX0_valueD, Cond.instanceMethod yX0_valueD, Cond.selects RX0 yX0_valueD yX0_valueD, Cond.code yX0_valueD cX0_valueD 2 (some .long), Cond.methodLink RX5 261 yX5_absolutePower, Cond.static yX5_absolutePower, Cond.initialized RX5, Cond.code yX5_absolutePower cX5_absolutePower 4 (some .long), Cond.constantLong RX5 267 (10000), Cond.methodLink RX5 218 Lib.MathLoose.abs_long.x, Cond.static Lib.MathLoose.abs_long.x, Cond.code Lib.MathLoose.abs_long.x Lib.MathLoose.abs_long.code 2 (some .long), Cond.methodLink RX5 132 yX5_floorQuotient, Cond.static yX5_floorQuotient, Cond.code yX5_floorQuotient cX5_floorQuotient 4 (some .long), Cond.methodLink RX5 258 yJ9_floorDiv_f86c9, Cond.static yJ9_floorDiv_f86c9, Cond.initialized RJ9, Cond.code yJ9_floorDiv_f86c9 cJ9_floorDiv_f86c9 6 (some .long)]
def wsX5_greatestTripletPower : List Cond := .code yX5_greatestTripletPower cX5_greatestTripletPower 14 (some .long) :: ((wsX5_greatestTripletPower_r1 ++ wsX5_greatestTripletPower_r2) ++ wsX50 ++ wsX00)
def wsX5_bestTriplet_r1 : List Cond := [Cond.constantLong RX5 139 (-9000000000000000008), Cond.fieldLink RX5 19 "AchromatDesk" "glasses" "LAchromatDesk$Catalogue;", Cond.methodLink RX5 173 yX5_greatestTripletPower, Cond.instanceMethod yX5_greatestTripletPower, Cond.selects RX5 yX5_greatestTripletPower yX5_greatestTripletPower, Cond.initialized RX5, Cond.code yX5_greatestTripletPower cX5_greatestTripletPower 14 (some .long), Cond.constantLong RX5 212 (-1), Cond.methodLink RX5 264 Lib.MathLoose.max_long.x, Cond.static Lib.MathLoose.max_long.x, Cond.initialized "java/lang/Math", Cond.code Lib.MathLoose.max_long.x Lib.MathLoose.max_long.code 4 (some .long), Cond.methodLink RX5 169 yX0_tripletShare, Cond.instanceMethod yX0_tripletShare, Cond.selects RX0 yX0_tripletShare yX0_tripletShare, Cond.initialized RX0, Cond.code yX0_tripletShare cX0_tripletShare 4 (some .long), Cond.methodLink RX0 35 yX0_valueA, Cond.instanceMethod yX0_valueA, Cond.selects RX0 yX0_valueA yX0_valueA, Cond.code yX0_valueA cX0_valueA 2 (some .long), Cond.fieldLink RX0 19 "AchromatDesk$Catalogue" "indicesD" "[I", Cond.constant RX0 49 (100000), Cond.methodLink RX0 53 yX0_valueX]
def wsX5_bestTriplet_r2 : List Cond := [Cond.instanceMethod yX0_valueX, Cond.selects RX0 yX0_valueX yX0_valueX, Cond.code yX0_valueX cX0_valueX 3 (some .long), Cond.methodLink RX0 39 yX0_valueB, Cond.instanceMethod yX0_valueB, Cond.selects RX0 yX0_valueB yX0_valueB, Cond.code yX0_valueB cX0_valueB 2 (some .long), Cond.fieldLink RX0 15 "AchromatDesk$Catalogue" "indicesF" "[I", Cond.fieldLink RX0 22 "AchromatDesk$Catalogue" "indicesC" "[I", Cond.methodLink RX0 50 yX0_valueD, Cond.instanceMethod yX0_valueD, Cond.selects RX0 yX0_valueD yX0_valueD, Cond.code yX0_valueD cX0_valueD 2 (some .long), Cond.methodLink RX5 261 yX5_absolutePower, Cond.static yX5_absolutePower, Cond.code yX5_absolutePower cX5_absolutePower 4 (some .long), Cond.constantLong RX5 267 (10000), Cond.methodLink RX5 218 Lib.MathLoose.abs_long.x, Cond.static Lib.MathLoose.abs_long.x, Cond.code Lib.MathLoose.abs_long.x Lib.MathLoose.abs_long.code 2 (some .long), Cond.methodLink RX5 132 yX5_floorQuotient, Cond.static yX5_floorQuotient, Cond.code yX5_floorQuotient cX5_floorQuotient 4 (some .long), Cond.methodLink RX5 258 yJ9_floorDiv_f86c9]
def wsX5_bestTriplet_r3 : List Cond := [Cond.static yJ9_floorDiv_f86c9, Cond.initialized RJ9, Cond.code yJ9_floorDiv_f86c9 cJ9_floorDiv_f86c9 6 (some .long)]
def wsX5_bestTriplet : List Cond := .code yX5_bestTriplet cX5_bestTriplet 10 (some .long) :: ((wsX5_bestTriplet_r1 ++ (wsX5_bestTriplet_r2 ++ wsX5_bestTriplet_r3)) ++ wsX50 ++ wsX00)
def wsX5_addLens : List Cond := .code yX5_addLens cX5_addLens 3 (some .long) :: ([.fieldLink RX5 19 "AchromatDesk" "glasses" "LAchromatDesk$Catalogue;", .constantLong RX5 97 (-9000000000000000002), .constant RX5 176 (-10000000), .constant RX5 177 (10000000), .constantLong RX5 44 (-9000000000000000001), .fieldLink RX5 33 "AchromatDesk" "system" "LAchromatDesk$LensSystem;", .constantLong RX5 50 (-9000000000000000004), .methodLink RX5 93 yX0_has, .instanceMethod yX0_has, .selects RX0 yX0_has yX0_has, .initialized RX0, .code yX0_has cX0_has 2 (some .boolean), .fieldLink RX0 25 "AchromatDesk$Catalogue" "count" "I", .methodLink RX5 179 yX3_add, .instanceMethod yX3_add, .selects RX3 yX3_add yX3_add, .initialized RX3, .code yX3_add cX3_add 3 none, .fieldLink RX3 18 "AchromatDesk$LensSystem" "count" "I", .fieldLink RX3 9 "AchromatDesk$LensSystem" "glassNumbers" "[I", .fieldLink RX3 15 "AchromatDesk$LensSystem" "powers" "[I"] ++ wsX50 ++ wsX30 ++ wsX00)
def wsX5_removeLens : List Cond := .code yX5_removeLens cX5_removeLens 2 (some .long) :: ([.fieldLink RX5 33 "AchromatDesk" "system" "LAchromatDesk$LensSystem;", .constantLong RX5 183 (-9000000000000000003), .methodLink RX5 182 yX3_has, .instanceMethod yX3_has, .selects RX3 yX3_has yX3_has, .initialized RX3, .code yX3_has cX3_has 2 (some .boolean), .fieldLink RX3 18 "AchromatDesk$LensSystem" "count" "I", .methodLink RX5 185 yX3_remove, .instanceMethod yX3_remove, .selects RX3 yX3_remove yX3_remove, .code yX3_remove cX3_remove 3 none, .fieldLink RX3 9 "AchromatDesk$LensSystem" "glassNumbers" "[I", .fieldLink RX3 15 "AchromatDesk$LensSystem" "powers" "[I", .methodLink RX3 22 yX3_has] ++ wsX50 ++ wsX30)
def wsX5_lensCount : List Cond := .code yX5_lensCount cX5_lensCount 1 (some .long) :: ([.fieldLink RX5 33 "AchromatDesk" "system" "LAchromatDesk$LensSystem;"] ++ wsX50 ++ wsX30)
def wsX5_systemPower_r1 : List Cond := [Cond.fieldLink RX5 33 "AchromatDesk" "system" "LAchromatDesk$LensSystem;", Cond.fieldLink RX5 19 "AchromatDesk" "glasses" "LAchromatDesk$Catalogue;", Cond.constantLong RX5 44 (-9000000000000000001), Cond.methodLink RX5 110 yX5_isColour, Cond.static yX5_isColour, Cond.initialized RX5, Cond.code yX5_isColour cX5_isColour 1 (some .boolean), Cond.methodLink RX5 186 yX3_powerFor, Cond.instanceMethod yX3_powerFor, Cond.selects RX3 yX3_powerFor yX3_powerFor, Cond.initialized RX3, Cond.code yX3_powerFor cX3_powerFor 6 (some .long), Cond.fieldLink RX3 18 "AchromatDesk$LensSystem" "count" "I", Cond.fieldLink RX3 9 "AchromatDesk$LensSystem" "glassNumbers" "[I", Cond.methodLink RX3 26 yX3_lensPower, Cond.instanceMethod yX3_lensPower, Cond.selects RX3 yX3_lensPower yX3_lensPower, Cond.code yX3_lensPower cX3_lensPower 7 (some .long), Cond.constantLong RX3 36 (100000), Cond.fieldLink RX3 15 "AchromatDesk$LensSystem" "powers" "[I", Cond.constantLong RX3 38 (1000), Cond.methodLink RX3 30 yX0_indexFor, Cond.instanceMethod yX0_indexFor, Cond.selects RX0 yX0_indexFor yX0_indexFor]
def wsX5_systemPower_r2 : List Cond := [Cond.initialized RX0, Cond.code yX0_indexFor cX0_indexFor 3 (some .long), Cond.fieldLink RX0 15 "AchromatDesk$Catalogue" "indicesF" "[I", Cond.fieldLink RX0 19 "AchromatDesk$Catalogue" "indicesD" "[I", Cond.fieldLink RX0 22 "AchromatDesk$Catalogue" "indicesC" "[I", Cond.methodLink RX3 40 yX0_valueA, Cond.instanceMethod yX0_valueA, Cond.selects RX0 yX0_valueA yX0_valueA, Cond.code yX0_valueA cX0_valueA 2 (some .long), Cond.constant RX0 49 (100000), Cond.static yX5_floorQuotient, Cond.code yX5_floorQuotient cX5_floorQuotient 4 (some .long), Cond.methodLink RX5 258 yJ9_floorDiv_f86c9, Cond.static yJ9_floorDiv_f86c9, Cond.initialized RJ9, Cond.code yJ9_floorDiv_f86c9 cJ9_floorDiv_f86c9 6 (some .long)]
def wsX5_systemPower : List Cond := .code yX5_systemPower cX5_systemPower 2 (some .long) :: ((wsX5_systemPower_r1 ++ wsX5_systemPower_r2) ++ wsX50 ++ wsX30 ++ wsX00)
def wsX5_balancePower_r1 : List Cond := [Cond.fieldLink RX5 19 "AchromatDesk" "glasses" "LAchromatDesk$Catalogue;", Cond.constantLong RX5 97 (-9000000000000000002), Cond.fieldLink RX5 33 "AchromatDesk" "system" "LAchromatDesk$LensSystem;", Cond.constantLong RX5 150 (1000), Cond.methodLink RX5 93 yX0_has, Cond.instanceMethod yX0_has, Cond.selects RX0 yX0_has yX0_has, Cond.initialized RX0, Cond.code yX0_has cX0_has 2 (some .boolean), Cond.fieldLink RX0 25 "AchromatDesk$Catalogue" "count" "I", Cond.methodLink RX5 186 yX3_powerFor, Cond.instanceMethod yX3_powerFor, Cond.selects RX3 yX3_powerFor yX3_powerFor, Cond.initialized RX3, Cond.code yX3_powerFor cX3_powerFor 6 (some .long), Cond.fieldLink RX3 18 "AchromatDesk$LensSystem" "count" "I", Cond.fieldLink RX3 9 "AchromatDesk$LensSystem" "glassNumbers" "[I", Cond.methodLink RX3 26 yX3_lensPower, Cond.instanceMethod yX3_lensPower, Cond.selects RX3 yX3_lensPower yX3_lensPower, Cond.code yX3_lensPower cX3_lensPower 7 (some .long), Cond.constantLong RX3 36 (100000), Cond.fieldLink RX3 15 "AchromatDesk$LensSystem" "powers" "[I", Cond.constantLong RX3 38 (1000)]
def wsX5_balancePower_r2 : List Cond := [Cond.methodLink RX3 30 yX0_indexFor, Cond.instanceMethod yX0_indexFor, Cond.selects RX0 yX0_indexFor yX0_indexFor, Cond.code yX0_indexFor cX0_indexFor 3 (some .long), Cond.fieldLink RX0 15 "AchromatDesk$Catalogue" "indicesF" "[I", Cond.fieldLink RX0 19 "AchromatDesk$Catalogue" "indicesD" "[I", Cond.fieldLink RX0 22 "AchromatDesk$Catalogue" "indicesC" "[I", Cond.methodLink RX3 40 yX0_valueA, Cond.instanceMethod yX0_valueA, Cond.selects RX0 yX0_valueA yX0_valueA, Cond.code yX0_valueA cX0_valueA 2 (some .long), Cond.constant RX0 49 (100000), Cond.static yX5_floorQuotient, Cond.initialized RX5, Cond.code yX5_floorQuotient cX5_floorQuotient 4 (some .long), Cond.methodLink RX5 258 yJ9_floorDiv_f86c9, Cond.static yJ9_floorDiv_f86c9, Cond.initialized RJ9, Cond.code yJ9_floorDiv_f86c9 cJ9_floorDiv_f86c9 6 (some .long), Cond.methodLink RX5 147 yX0_valueA, Cond.methodLink RX5 129 yX0_valueB, Cond.instanceMethod yX0_valueB, Cond.selects RX0 yX0_valueB yX0_valueB, Cond.code yX0_valueB cX0_valueB 2 (some .long)]
def wsX5_balancePower_r3 : List Cond := [Cond.methodLink RX5 132 yX5_floorQuotient]
def wsX5_balancePower : List Cond := .code yX5_balancePower cX5_balancePower 4 (some .long) :: ((wsX5_balancePower_r1 ++ (wsX5_balancePower_r2 ++ wsX5_balancePower_r3)) ++ wsX50 ++ wsX00 ++ wsX30)
def wsX5_isMeasurable : List Cond := .code yX5_isMeasurable cX5_isMeasurable 2 (some .boolean) :: ([.constantLong RX5 252 (-1000000000000), .constantLong RX5 254 (1000000000000)])
def wsX5_missWith_r1 : List Cond := [Cond.fieldLink RX5 33 "AchromatDesk" "system" "LAchromatDesk$LensSystem;", Cond.fieldLink RX5 19 "AchromatDesk" "glasses" "LAchromatDesk$Catalogue;", Cond.methodLink RX5 218 Lib.MathLoose.abs_long.x, Cond.static Lib.MathLoose.abs_long.x, Cond.initialized "java/lang/Math", Cond.code Lib.MathLoose.abs_long.x Lib.MathLoose.abs_long.code 2 (some .long), Cond.methodLink RX5 269 yX3_changeWith, Cond.instanceMethod yX3_changeWith, Cond.selects RX3 yX3_changeWith yX3_changeWith, Cond.initialized RX3, Cond.code yX3_changeWith cX3_changeWith 5 (some .long), Cond.fieldLink RX3 9 "AchromatDesk$LensSystem" "glassNumbers" "[I", Cond.methodLink RX3 26 yX3_lensPower, Cond.instanceMethod yX3_lensPower, Cond.selects RX3 yX3_lensPower yX3_lensPower, Cond.code yX3_lensPower cX3_lensPower 7 (some .long), Cond.constantLong RX3 36 (100000), Cond.fieldLink RX3 15 "AchromatDesk$LensSystem" "powers" "[I", Cond.constantLong RX3 38 (1000), Cond.methodLink RX3 30 yX0_indexFor, Cond.instanceMethod yX0_indexFor, Cond.selects RX0 yX0_indexFor yX0_indexFor, Cond.initialized RX0, Cond.code yX0_indexFor cX0_indexFor 3 (some .long)]
def wsX5_missWith_r2 : List Cond := [Cond.fieldLink RX0 15 "AchromatDesk$Catalogue" "indicesF" "[I", Cond.fieldLink RX0 19 "AchromatDesk$Catalogue" "indicesD" "[I", Cond.fieldLink RX0 22 "AchromatDesk$Catalogue" "indicesC" "[I", Cond.methodLink RX3 40 yX0_valueA, Cond.instanceMethod yX0_valueA, Cond.selects RX0 yX0_valueA yX0_valueA, Cond.code yX0_valueA cX0_valueA 2 (some .long), Cond.constant RX0 49 (100000), Cond.static yX5_floorQuotient, Cond.initialized RX5, Cond.code yX5_floorQuotient cX5_floorQuotient 4 (some .long), Cond.methodLink RX5 258 yJ9_floorDiv_f86c9, Cond.static yJ9_floorDiv_f86c9, Cond.initialized RJ9, Cond.code yJ9_floorDiv_f86c9 cJ9_floorDiv_f86c9 6 (some .long)]
def wsX5_missWith : List Cond := .code yX5_missWith cX5_missWith 9 (some .long) :: ((wsX5_missWith_r1 ++ wsX5_missWith_r2) ++ wsX50 ++ wsX30 ++ wsX00)
def wsX5_findWrongGlass_r1 : List Cond := [Cond.constantLong RX5 44 (-9000000000000000001), Cond.fieldLink RX5 33 "AchromatDesk" "system" "LAchromatDesk$LensSystem;", Cond.fieldLink RX5 19 "AchromatDesk" "glasses" "LAchromatDesk$Catalogue;", Cond.constantLong RX5 139 (-9000000000000000008), Cond.methodLink RX5 190 yX5_isMeasurable, Cond.static yX5_isMeasurable, Cond.initialized RX5, Cond.code yX5_isMeasurable cX5_isMeasurable 2 (some .boolean), Cond.constantLong RX5 252 (-1000000000000), Cond.constantLong RX5 254 (1000000000000), Cond.methodLink RX5 186 yX3_powerFor, Cond.instanceMethod yX3_powerFor, Cond.selects RX3 yX3_powerFor yX3_powerFor, Cond.initialized RX3, Cond.code yX3_powerFor cX3_powerFor 6 (some .long), Cond.fieldLink RX3 18 "AchromatDesk$LensSystem" "count" "I", Cond.fieldLink RX3 9 "AchromatDesk$LensSystem" "glassNumbers" "[I", Cond.methodLink RX3 26 yX3_lensPower, Cond.instanceMethod yX3_lensPower, Cond.selects RX3 yX3_lensPower yX3_lensPower, Cond.code yX3_lensPower cX3_lensPower 7 (some .long), Cond.constantLong RX3 36 (100000), Cond.fieldLink RX3 15 "AchromatDesk$LensSystem" "powers" "[I", Cond.constantLong RX3 38 (1000)]
def wsX5_findWrongGlass_r2 : List Cond := [Cond.methodLink RX3 30 yX0_indexFor, Cond.instanceMethod yX0_indexFor, Cond.selects RX0 yX0_indexFor yX0_indexFor, Cond.initialized RX0, Cond.code yX0_indexFor cX0_indexFor 3 (some .long), Cond.fieldLink RX0 15 "AchromatDesk$Catalogue" "indicesF" "[I", Cond.fieldLink RX0 19 "AchromatDesk$Catalogue" "indicesD" "[I", Cond.fieldLink RX0 22 "AchromatDesk$Catalogue" "indicesC" "[I", Cond.methodLink RX3 40 yX0_valueA, Cond.instanceMethod yX0_valueA, Cond.selects RX0 yX0_valueA yX0_valueA, Cond.code yX0_valueA cX0_valueA 2 (some .long), Cond.constant RX0 49 (100000), Cond.static yX5_floorQuotient, Cond.code yX5_floorQuotient cX5_floorQuotient 4 (some .long), Cond.methodLink RX5 258 yJ9_floorDiv_f86c9, Cond.static yJ9_floorDiv_f86c9, Cond.initialized RJ9, Cond.code yJ9_floorDiv_f86c9 cJ9_floorDiv_f86c9 6 (some .long), Cond.methodLink RX5 193 yX5_missWith, Cond.instanceMethod yX5_missWith, Cond.selects RX5 yX5_missWith yX5_missWith, Cond.code yX5_missWith cX5_missWith 9 (some .long), Cond.methodLink RX5 218 Lib.MathLoose.abs_long.x]
def wsX5_findWrongGlass_r3 : List Cond := [Cond.static Lib.MathLoose.abs_long.x, Cond.initialized "java/lang/Math", Cond.code Lib.MathLoose.abs_long.x Lib.MathLoose.abs_long.code 2 (some .long), Cond.methodLink RX5 269 yX3_changeWith, Cond.instanceMethod yX3_changeWith, Cond.selects RX3 yX3_changeWith yX3_changeWith, Cond.code yX3_changeWith cX3_changeWith 5 (some .long), Cond.methodLink RX5 197 yX3_glassOf, Cond.instanceMethod yX3_glassOf, Cond.selects RX3 yX3_glassOf yX3_glassOf, Cond.code yX3_glassOf cX3_glassOf 2 (some .int)]
def wsX5_findWrongGlass : List Cond := .code yX5_findWrongGlass cX5_findWrongGlass 22 (some .long) :: ((wsX5_findWrongGlass_r1 ++ (wsX5_findWrongGlass_r2 ++ wsX5_findWrongGlass_r3)) ++ wsX50 ++ wsX30 ++ wsX00)
def wsX5_addPlate : List Cond := .code yX5_addPlate cX5_addPlate 2 (some .long) :: ([.constant RX5 200 (1000000), .constantLong RX5 44 (-9000000000000000001), .fieldLink RX5 40 "AchromatDesk" "plates" "LAchromatDesk$PlateSet;", .constantLong RX5 88 (-9000000000000000006), .constantLong RX5 50 (-9000000000000000004), .methodLink RX5 201 yX4_hasRadius, .instanceMethod yX4_hasRadius, .selects RX4 yX4_hasRadius yX4_hasRadius, .initialized RX4, .code yX4_hasRadius cX4_hasRadius 3 (some .boolean), .fieldLink RX4 15 "AchromatDesk$PlateSet" "count" "I", .fieldLink RX4 9 "AchromatDesk$PlateSet" "radii" "[I", .methodLink RX5 205 yX4_add, .instanceMethod yX4_add, .selects RX4 yX4_add yX4_add, .code yX4_add cX4_add 2 none] ++ wsX50 ++ wsX40)
def wsX5_plateCount : List Cond := .code yX5_plateCount cX5_plateCount 1 (some .long) :: ([.fieldLink RX5 40 "AchromatDesk" "plates" "LAchromatDesk$PlateSet;"] ++ wsX50 ++ wsX40)
def wsX5_nearestPlate : List Cond := .code yX5_nearestPlate cX5_nearestPlate 3 (some .long) :: ([.fieldLink RX5 40 "AchromatDesk" "plates" "LAchromatDesk$PlateSet;", .constantLong RX5 139 (-9000000000000000008), .methodLink RX5 206 yX4_nearestTo, .instanceMethod yX4_nearestTo, .selects RX4 yX4_nearestTo yX4_nearestTo, .initialized RX4, .code yX4_nearestTo cX4_nearestTo 9 (some .int), .fieldLink RX4 15 "AchromatDesk$PlateSet" "count" "I", .fieldLink RX4 9 "AchromatDesk$PlateSet" "radii" "[I", .methodLink RX4 19 Lib.MathLoose.abs_long.x, .static Lib.MathLoose.abs_long.x, .initialized "java/lang/Math", .code Lib.MathLoose.abs_long.x Lib.MathLoose.abs_long.code 2 (some .long)] ++ wsX50 ++ wsX40)
def wsX5_powerBetween : List Cond := .code yX5_powerBetween cX5_powerBetween 9 (some .long) :: ([.fieldLink RX5 40 "AchromatDesk" "plates" "LAchromatDesk$PlateSet;", .constantLong RX5 276 (10000000), .methodLink RX5 273 yX4_signedRadius, .instanceMethod yX4_signedRadius, .selects RX4 yX4_signedRadius yX4_signedRadius, .initialized RX4, .code yX4_signedRadius cX4_signedRadius 3 (some .long), .fieldLink RX4 9 "AchromatDesk$PlateSet" "radii" "[I", .methodLink RX5 132 yX5_floorQuotient, .static yX5_floorQuotient, .initialized RX5, .code yX5_floorQuotient cX5_floorQuotient 4 (some .long), .methodLink RX5 258 yJ9_floorDiv_f86c9, .static yJ9_floorDiv_f86c9, .initialized RJ9, .code yJ9_floorDiv_f86c9 cJ9_floorDiv_f86c9 6 (some .long)] ++ wsX50 ++ wsX40)
def wsX5_bestSurfaces_r1 : List Cond := [Cond.fieldLink RX5 33 "AchromatDesk" "system" "LAchromatDesk$LensSystem;", Cond.constantLong RX5 183 (-9000000000000000003), Cond.fieldLink RX5 19 "AchromatDesk" "glasses" "LAchromatDesk$Catalogue;", Cond.constantLong RX5 139 (-9000000000000000008), Cond.fieldLink RX5 40 "AchromatDesk" "plates" "LAchromatDesk$PlateSet;", Cond.constantLong RX5 212 (-1), Cond.methodLink RX5 218 Lib.MathLoose.abs_long.x, Cond.static Lib.MathLoose.abs_long.x, Cond.initialized "java/lang/Math", Cond.code Lib.MathLoose.abs_long.x Lib.MathLoose.abs_long.code 2 (some .long), Cond.methodLink RX5 182 yX3_has, Cond.instanceMethod yX3_has, Cond.selects RX3 yX3_has yX3_has, Cond.initialized RX3, Cond.code yX3_has cX3_has 2 (some .boolean), Cond.fieldLink RX3 18 "AchromatDesk$LensSystem" "count" "I", Cond.methodLink RX5 197 yX3_glassOf, Cond.instanceMethod yX3_glassOf, Cond.selects RX3 yX3_glassOf yX3_glassOf, Cond.code yX3_glassOf cX3_glassOf 2 (some .int), Cond.fieldLink RX3 9 "AchromatDesk$LensSystem" "glassNumbers" "[I", Cond.methodLink RX5 147 yX0_valueA, Cond.instanceMethod yX0_valueA, Cond.selects RX0 yX0_valueA yX0_valueA]
def wsX5_bestSurfaces_r2 : List Cond := [Cond.initialized RX0, Cond.code yX0_valueA cX0_valueA 2 (some .long), Cond.fieldLink RX0 19 "AchromatDesk$Catalogue" "indicesD" "[I", Cond.constant RX0 49 (100000), Cond.methodLink RX5 209 yX3_powerOf, Cond.instanceMethod yX3_powerOf, Cond.selects RX3 yX3_powerOf yX3_powerOf, Cond.code yX3_powerOf cX3_powerOf 2 (some .int), Cond.fieldLink RX3 15 "AchromatDesk$LensSystem" "powers" "[I", Cond.methodLink RX5 214 yX5_powerBetween, Cond.instanceMethod yX5_powerBetween, Cond.selects RX5 yX5_powerBetween yX5_powerBetween, Cond.initialized RX5, Cond.code yX5_powerBetween cX5_powerBetween 9 (some .long), Cond.constantLong RX5 276 (10000000), Cond.methodLink RX5 273 yX4_signedRadius, Cond.instanceMethod yX4_signedRadius, Cond.selects RX4 yX4_signedRadius yX4_signedRadius, Cond.initialized RX4, Cond.code yX4_signedRadius cX4_signedRadius 3 (some .long), Cond.fieldLink RX4 9 "AchromatDesk$PlateSet" "radii" "[I", Cond.methodLink RX5 132 yX5_floorQuotient, Cond.static yX5_floorQuotient, Cond.code yX5_floorQuotient cX5_floorQuotient 4 (some .long)]
def wsX5_bestSurfaces_r3 : List Cond := [Cond.methodLink RX5 258 yJ9_floorDiv_f86c9, Cond.static yJ9_floorDiv_f86c9, Cond.initialized RJ9, Cond.code yJ9_floorDiv_f86c9 cJ9_floorDiv_f86c9 6 (some .long)]
def wsX5_bestSurfaces : List Cond := .code yX5_bestSurfaces cX5_bestSurfaces 14 (some .long) :: ((wsX5_bestSurfaces_r1 ++ (wsX5_bestSurfaces_r2 ++ wsX5_bestSurfaces_r3)) ++ wsX50 ++ wsX40 ++ wsX30 ++ wsX00)
def wsX5_surfacePower_r1 : List Cond := [Cond.fieldLink RX5 19 "AchromatDesk" "glasses" "LAchromatDesk$Catalogue;", Cond.constantLong RX5 97 (-9000000000000000002), Cond.constantLong RX5 44 (-9000000000000000001), Cond.fieldLink RX5 40 "AchromatDesk" "plates" "LAchromatDesk$PlateSet;", Cond.methodLink RX5 93 yX0_has, Cond.instanceMethod yX0_has, Cond.selects RX0 yX0_has yX0_has, Cond.initialized RX0, Cond.code yX0_has cX0_has 2 (some .boolean), Cond.fieldLink RX0 25 "AchromatDesk$Catalogue" "count" "I", Cond.methodLink RX5 224 yX4_has, Cond.instanceMethod yX4_has, Cond.selects RX4 yX4_has yX4_has, Cond.initialized RX4, Cond.code yX4_has cX4_has 2 (some .boolean), Cond.fieldLink RX4 15 "AchromatDesk$PlateSet" "count" "I", Cond.methodLink RX5 147 yX0_valueA, Cond.instanceMethod yX0_valueA, Cond.selects RX0 yX0_valueA yX0_valueA, Cond.code yX0_valueA cX0_valueA 2 (some .long), Cond.fieldLink RX0 19 "AchromatDesk$Catalogue" "indicesD" "[I", Cond.constant RX0 49 (100000), Cond.methodLink RX5 214 yX5_powerBetween, Cond.instanceMethod yX5_powerBetween]
def wsX5_surfacePower_r2 : List Cond := [Cond.selects RX5 yX5_powerBetween yX5_powerBetween, Cond.initialized RX5, Cond.code yX5_powerBetween cX5_powerBetween 9 (some .long), Cond.constantLong RX5 276 (10000000), Cond.methodLink RX5 273 yX4_signedRadius, Cond.instanceMethod yX4_signedRadius, Cond.selects RX4 yX4_signedRadius yX4_signedRadius, Cond.code yX4_signedRadius cX4_signedRadius 3 (some .long), Cond.fieldLink RX4 9 "AchromatDesk$PlateSet" "radii" "[I", Cond.methodLink RX5 132 yX5_floorQuotient, Cond.static yX5_floorQuotient, Cond.code yX5_floorQuotient cX5_floorQuotient 4 (some .long), Cond.methodLink RX5 258 yJ9_floorDiv_f86c9, Cond.static yJ9_floorDiv_f86c9, Cond.initialized RJ9, Cond.code yJ9_floorDiv_f86c9 cJ9_floorDiv_f86c9 6 (some .long)]
def wsX5_surfacePower : List Cond := .code yX5_surfacePower cX5_surfacePower 7 (some .long) :: ((wsX5_surfacePower_r1 ++ wsX5_surfacePower_r2) ++ wsX50 ++ wsX00 ++ wsX40)
def wsX5_mixed : List Cond := .code yX5_mixed cX5_mixed 4 (some .long) :: ([.constantLong RX5 278 (31)])
def wsX5_withGlasses_r1 : List Cond := [Cond.fieldLink RX5 19 "AchromatDesk" "glasses" "LAchromatDesk$Catalogue;", Cond.methodLink RX5 246 yX5_mixed, Cond.static yX5_mixed, Cond.initialized RX5, Cond.code yX5_mixed cX5_mixed 4 (some .long), Cond.constantLong RX5 278 (31), Cond.methodLink RX5 280 yX5_index, Cond.instanceMethod yX5_index, Cond.selects RX5 yX5_index yX5_index, Cond.code yX5_index cX5_index 3 (some .long), Cond.constantLong RX5 97 (-9000000000000000002), Cond.constantLong RX5 44 (-9000000000000000001), Cond.methodLink RX5 93 yX0_has, Cond.instanceMethod yX0_has, Cond.selects RX0 yX0_has yX0_has, Cond.initialized RX0, Cond.code yX0_has cX0_has 2 (some .boolean), Cond.fieldLink RX0 25 "AchromatDesk$Catalogue" "count" "I", Cond.methodLink RX5 110 yX5_isColour, Cond.static yX5_isColour, Cond.code yX5_isColour cX5_isColour 1 (some .boolean), Cond.methodLink RX5 113 yX0_indexFor, Cond.instanceMethod yX0_indexFor, Cond.selects RX0 yX0_indexFor yX0_indexFor]
def wsX5_withGlasses_r2 : List Cond := [Cond.code yX0_indexFor cX0_indexFor 3 (some .long), Cond.fieldLink RX0 15 "AchromatDesk$Catalogue" "indicesF" "[I", Cond.fieldLink RX0 19 "AchromatDesk$Catalogue" "indicesD" "[I", Cond.fieldLink RX0 22 "AchromatDesk$Catalogue" "indicesC" "[I", Cond.methodLink RX5 283 yX5_placeByName, Cond.instanceMethod yX5_placeByName, Cond.selects RX5 yX5_placeByName yX5_placeByName, Cond.code yX5_placeByName cX5_placeByName 2 (some .long), Cond.methodLink RX5 117 yX0_namesBefore, Cond.instanceMethod yX0_namesBefore, Cond.selects RX0 yX0_namesBefore yX0_namesBefore, Cond.code yX0_namesBefore cX0_namesBefore 4 (some .int), Cond.fieldLink RX0 9 "AchromatDesk$Catalogue" "nameKeys" "[J", Cond.methodLink RX5 286 yX5_abbe, Cond.instanceMethod yX5_abbe, Cond.selects RX5 yX5_abbe yX5_abbe, Cond.code yX5_abbe cX5_abbe 2 (some .long), Cond.methodLink RX5 120 yX0_abbeNumber, Cond.instanceMethod yX0_abbeNumber, Cond.selects RX0 yX0_abbeNumber yX0_abbeNumber, Cond.code yX0_abbeNumber cX0_abbeNumber 2 (some .long), Cond.constantLong RX0 33 (1000), Cond.methodLink RX0 35 yX0_valueA, Cond.instanceMethod yX0_valueA]
def wsX5_withGlasses_r3 : List Cond := [Cond.selects RX0 yX0_valueA yX0_valueA, Cond.code yX0_valueA cX0_valueA 2 (some .long), Cond.constant RX0 49 (100000), Cond.methodLink RX0 39 yX0_valueB, Cond.instanceMethod yX0_valueB, Cond.selects RX0 yX0_valueB yX0_valueB, Cond.code yX0_valueB cX0_valueB 2 (some .long), Cond.static yX5_floorQuotient, Cond.code yX5_floorQuotient cX5_floorQuotient 4 (some .long), Cond.methodLink RX5 258 yJ9_floorDiv_f86c9, Cond.static yJ9_floorDiv_f86c9, Cond.initialized RJ9, Cond.code yJ9_floorDiv_f86c9 cJ9_floorDiv_f86c9 6 (some .long), Cond.methodLink RX5 289 yX5_partial, Cond.instanceMethod yX5_partial, Cond.selects RX5 yX5_partial yX5_partial, Cond.code yX5_partial cX5_partial 2 (some .long), Cond.constantLong RX5 124 (100000), Cond.methodLink RX5 126 yX0_valueD, Cond.instanceMethod yX0_valueD, Cond.selects RX0 yX0_valueD yX0_valueD, Cond.code yX0_valueD cX0_valueD 2 (some .long), Cond.methodLink RX5 129 yX0_valueB, Cond.methodLink RX5 132 yX5_floorQuotient]
def wsX5_withGlasses_r4 : List Cond := [Cond.methodLink RX5 292 yX5_balancePower, Cond.instanceMethod yX5_balancePower, Cond.selects RX5 yX5_balancePower yX5_balancePower, Cond.code yX5_balancePower cX5_balancePower 4 (some .long), Cond.fieldLink RX5 33 "AchromatDesk" "system" "LAchromatDesk$LensSystem;", Cond.constantLong RX5 150 (1000), Cond.methodLink RX5 186 yX3_powerFor, Cond.instanceMethod yX3_powerFor, Cond.selects RX3 yX3_powerFor yX3_powerFor, Cond.initialized RX3, Cond.code yX3_powerFor cX3_powerFor 6 (some .long), Cond.fieldLink RX3 18 "AchromatDesk$LensSystem" "count" "I", Cond.fieldLink RX3 9 "AchromatDesk$LensSystem" "glassNumbers" "[I", Cond.methodLink RX3 26 yX3_lensPower, Cond.instanceMethod yX3_lensPower, Cond.selects RX3 yX3_lensPower yX3_lensPower, Cond.code yX3_lensPower cX3_lensPower 7 (some .long), Cond.constantLong RX3 36 (100000), Cond.fieldLink RX3 15 "AchromatDesk$LensSystem" "powers" "[I", Cond.constantLong RX3 38 (1000), Cond.methodLink RX3 30 yX0_indexFor, Cond.methodLink RX3 40 yX0_valueA, Cond.methodLink RX5 147 yX0_valueA]
def wsX5_withGlasses : List Cond := .code yX5_withGlasses cX5_withGlasses 7 (some .long) :: ((wsX5_withGlasses_r1 ++ (wsX5_withGlasses_r2 ++ (wsX5_withGlasses_r3 ++ wsX5_withGlasses_r4))) ++ wsX50 ++ wsX00 ++ wsX30)
def wsX5_withDesigns_r1 : List Cond := [Cond.methodLink RX5 295 yX5_doubletCount, Cond.instanceMethod yX5_doubletCount, Cond.selects RX5 yX5_doubletCount yX5_doubletCount, Cond.initialized RX5, Cond.code yX5_doubletCount cX5_doubletCount 1 (some .long), Cond.fieldLink RX5 26 "AchromatDesk" "doublets" "LAchromatDesk$DoubletRanking;", Cond.fieldLink RX5 19 "AchromatDesk" "glasses" "LAchromatDesk$Catalogue;", Cond.methodLink RX5 157 yX1_collect, Cond.instanceMethod yX1_collect, Cond.selects RX1 yX1_collect yX1_collect, Cond.initialized RX1, Cond.code yX1_collect cX1_collect 4 none, Cond.fieldLink RX1 28 "AchromatDesk$DoubletRanking" "count" "I", Cond.methodLink RX1 35 yX0_valueE, Cond.instanceMethod yX0_valueE, Cond.selects RX0 yX0_valueE yX0_valueE, Cond.initialized RX0, Cond.code yX0_valueE cX0_valueE 3 (some .long), Cond.methodLink RX0 35 yX0_valueA, Cond.instanceMethod yX0_valueA, Cond.selects RX0 yX0_valueA yX0_valueA, Cond.code yX0_valueA cX0_valueA 2 (some .long), Cond.fieldLink RX0 19 "AchromatDesk$Catalogue" "indicesD" "[I", Cond.constant RX0 49 (100000)]
def wsX5_withDesigns_r2 : List Cond := [Cond.methodLink RX0 39 yX0_valueB, Cond.instanceMethod yX0_valueB, Cond.selects RX0 yX0_valueB yX0_valueB, Cond.code yX0_valueB cX0_valueB 2 (some .long), Cond.fieldLink RX0 15 "AchromatDesk$Catalogue" "indicesF" "[I", Cond.fieldLink RX0 22 "AchromatDesk$Catalogue" "indicesC" "[I", Cond.methodLink RX1 39 yX1_keep, Cond.instanceMethod yX1_keep, Cond.selects RX1 yX1_keep yX1_keep, Cond.code yX1_keep cX1_keep 4 none, Cond.fieldLink RX1 9 "AchromatDesk$DoubletRanking" "codes" "[I", Cond.fieldLink RX1 15 "AchromatDesk$DoubletRanking" "divisors" "[J", Cond.fieldLink RX1 19 "AchromatDesk$DoubletRanking" "spectra" "[J", Cond.methodLink RX1 50 Lib.MathLoose.abs_long.x, Cond.static Lib.MathLoose.abs_long.x, Cond.initialized "java/lang/Math", Cond.code Lib.MathLoose.abs_long.x Lib.MathLoose.abs_long.code 2 (some .long), Cond.fieldLink RX1 22 "AchromatDesk$DoubletRanking" "strains" "[J", Cond.methodLink RX1 47 yX0_valueX, Cond.instanceMethod yX0_valueX, Cond.selects RX0 yX0_valueX yX0_valueX, Cond.code yX0_valueX cX0_valueX 3 (some .long), Cond.methodLink RX0 50 yX0_valueD, Cond.instanceMethod yX0_valueD]
def wsX5_withDesigns_r3 : List Cond := [Cond.selects RX0 yX0_valueD yX0_valueD, Cond.code yX0_valueD cX0_valueD 2 (some .long), Cond.methodLink RX1 56 yX0_valueA, Cond.methodLink RX1 60 yX0_valueB, Cond.methodLink RX5 246 yX5_mixed, Cond.static yX5_mixed, Cond.code yX5_mixed cX5_mixed 4 (some .long), Cond.constantLong RX5 278 (31), Cond.methodLink RX5 298 yX5_doubletAt, Cond.instanceMethod yX5_doubletAt, Cond.selects RX5 yX5_doubletAt yX5_doubletAt, Cond.code yX5_doubletAt cX5_doubletAt 3 (some .long), Cond.constantLong RX5 139 (-9000000000000000008), Cond.methodLink RX5 162 yX1_rank, Cond.instanceMethod yX1_rank, Cond.selects RX1 yX1_rank yX1_rank, Cond.code yX1_rank cX1_rank 5 none, Cond.fieldLink RX1 25 "AchromatDesk$DoubletRanking" "order" "[I", Cond.methodLink RX1 43 yX1_placeAmong, Cond.instanceMethod yX1_placeAmong, Cond.selects RX1 yX1_placeAmong yX1_placeAmong, Cond.code yX1_placeAmong cX1_placeAmong 6 (some .int), Cond.methodLink RX1 63 yX1_compareSlots, Cond.instanceMethod yX1_compareSlots]
def wsX5_withDesigns_r4 : List Cond := [Cond.selects RX1 yX1_compareSlots yX1_compareSlots, Cond.code yX1_compareSlots cX1_compareSlots 6 (some .int), Cond.methodLink RX1 67 yJ13_compare_74951, Cond.static yJ13_compare_74951, Cond.initialized RJ13, Cond.code yJ13_compare_74951 cJ13_compare_74951 4 (some .int), Cond.methodLink RX5 166 yX1_codeAt, Cond.instanceMethod yX1_codeAt, Cond.selects RX1 yX1_codeAt yX1_codeAt, Cond.code yX1_codeAt cX1_codeAt 2 (some .int), Cond.methodLink RX5 302 yX5_bestTriplet, Cond.instanceMethod yX5_bestTriplet, Cond.selects RX5 yX5_bestTriplet yX5_bestTriplet, Cond.code yX5_bestTriplet cX5_bestTriplet 10 (some .long), Cond.methodLink RX5 173 yX5_greatestTripletPower, Cond.instanceMethod yX5_greatestTripletPower, Cond.selects RX5 yX5_greatestTripletPower yX5_greatestTripletPower, Cond.code yX5_greatestTripletPower cX5_greatestTripletPower 14 (some .long), Cond.constantLong RX5 212 (-1), Cond.methodLink RX5 264 Lib.MathLoose.max_long.x, Cond.static Lib.MathLoose.max_long.x, Cond.code Lib.MathLoose.max_long.x Lib.MathLoose.max_long.code 4 (some .long), Cond.methodLink RX5 169 yX0_tripletShare, Cond.instanceMethod yX0_tripletShare]
def wsX5_withDesigns_r5 : List Cond := [Cond.selects RX0 yX0_tripletShare yX0_tripletShare, Cond.code yX0_tripletShare cX0_tripletShare 4 (some .long), Cond.methodLink RX0 53 yX0_valueX, Cond.methodLink RX5 261 yX5_absolutePower, Cond.static yX5_absolutePower, Cond.code yX5_absolutePower cX5_absolutePower 4 (some .long), Cond.constantLong RX5 267 (10000), Cond.methodLink RX5 218 Lib.MathLoose.abs_long.x, Cond.methodLink RX5 132 yX5_floorQuotient, Cond.static yX5_floorQuotient, Cond.code yX5_floorQuotient cX5_floorQuotient 4 (some .long), Cond.methodLink RX5 258 yJ9_floorDiv_f86c9, Cond.static yJ9_floorDiv_f86c9, Cond.initialized RJ9, Cond.code yJ9_floorDiv_f86c9 cJ9_floorDiv_f86c9 6 (some .long)]
def wsX5_withDesigns : List Cond := .code yX5_withDesigns cX5_withDesigns 6 (some .long) :: ((wsX5_withDesigns_r1 ++ (wsX5_withDesigns_r2 ++ (wsX5_withDesigns_r3 ++ (wsX5_withDesigns_r4 ++ wsX5_withDesigns_r5)))) ++ wsX50 ++ wsX10 ++ wsX00)
def wsX5_withLenses_r1 : List Cond := [Cond.fieldLink RX5 33 "AchromatDesk" "system" "LAchromatDesk$LensSystem;", Cond.methodLink RX5 246 yX5_mixed, Cond.static yX5_mixed, Cond.initialized RX5, Cond.code yX5_mixed cX5_mixed 4 (some .long), Cond.constantLong RX5 278 (31), Cond.methodLink RX5 197 yX3_glassOf, Cond.instanceMethod yX3_glassOf, Cond.selects RX3 yX3_glassOf yX3_glassOf, Cond.initialized RX3, Cond.code yX3_glassOf cX3_glassOf 2 (some .int), Cond.fieldLink RX3 9 "AchromatDesk$LensSystem" "glassNumbers" "[I", Cond.methodLink RX5 209 yX3_powerOf, Cond.instanceMethod yX3_powerOf, Cond.selects RX3 yX3_powerOf yX3_powerOf, Cond.code yX3_powerOf cX3_powerOf 2 (some .int), Cond.fieldLink RX3 15 "AchromatDesk$LensSystem" "powers" "[I", Cond.methodLink RX5 305 yX5_bestSurfaces, Cond.instanceMethod yX5_bestSurfaces, Cond.selects RX5 yX5_bestSurfaces yX5_bestSurfaces, Cond.code yX5_bestSurfaces cX5_bestSurfaces 14 (some .long), Cond.constantLong RX5 183 (-9000000000000000003), Cond.fieldLink RX5 19 "AchromatDesk" "glasses" "LAchromatDesk$Catalogue;", Cond.constantLong RX5 139 (-9000000000000000008)]
def wsX5_withLenses_r2 : List Cond := [Cond.fieldLink RX5 40 "AchromatDesk" "plates" "LAchromatDesk$PlateSet;", Cond.constantLong RX5 212 (-1), Cond.methodLink RX5 218 Lib.MathLoose.abs_long.x, Cond.static Lib.MathLoose.abs_long.x, Cond.initialized "java/lang/Math", Cond.code Lib.MathLoose.abs_long.x Lib.MathLoose.abs_long.code 2 (some .long), Cond.methodLink RX5 182 yX3_has, Cond.instanceMethod yX3_has, Cond.selects RX3 yX3_has yX3_has, Cond.code yX3_has cX3_has 2 (some .boolean), Cond.fieldLink RX3 18 "AchromatDesk$LensSystem" "count" "I", Cond.methodLink RX5 147 yX0_valueA, Cond.instanceMethod yX0_valueA, Cond.selects RX0 yX0_valueA yX0_valueA, Cond.initialized RX0, Cond.code yX0_valueA cX0_valueA 2 (some .long), Cond.fieldLink RX0 19 "AchromatDesk$Catalogue" "indicesD" "[I", Cond.constant RX0 49 (100000), Cond.methodLink RX5 214 yX5_powerBetween, Cond.instanceMethod yX5_powerBetween, Cond.selects RX5 yX5_powerBetween yX5_powerBetween, Cond.code yX5_powerBetween cX5_powerBetween 9 (some .long), Cond.constantLong RX5 276 (10000000), Cond.methodLink RX5 273 yX4_signedRadius]
def wsX5_withLenses_r3 : List Cond := [Cond.instanceMethod yX4_signedRadius, Cond.selects RX4 yX4_signedRadius yX4_signedRadius, Cond.initialized RX4, Cond.code yX4_signedRadius cX4_signedRadius 3 (some .long), Cond.fieldLink RX4 9 "AchromatDesk$PlateSet" "radii" "[I", Cond.methodLink RX5 132 yX5_floorQuotient, Cond.static yX5_floorQuotient, Cond.code yX5_floorQuotient cX5_floorQuotient 4 (some .long), Cond.methodLink RX5 258 yJ9_floorDiv_f86c9, Cond.static yJ9_floorDiv_f86c9, Cond.initialized RJ9, Cond.code yJ9_floorDiv_f86c9 cJ9_floorDiv_f86c9 6 (some .long), Cond.methodLink RX5 239 yX5_systemPower, Cond.instanceMethod yX5_systemPower, Cond.selects RX5 yX5_systemPower yX5_systemPower, Cond.code yX5_systemPower cX5_systemPower 2 (some .long), Cond.constantLong RX5 44 (-9000000000000000001), Cond.methodLink RX5 110 yX5_isColour, Cond.static yX5_isColour, Cond.code yX5_isColour cX5_isColour 1 (some .boolean), Cond.methodLink RX5 186 yX3_powerFor, Cond.instanceMethod yX3_powerFor, Cond.selects RX3 yX3_powerFor yX3_powerFor, Cond.code yX3_powerFor cX3_powerFor 6 (some .long)]
def wsX5_withLenses_r4 : List Cond := [Cond.methodLink RX3 26 yX3_lensPower, Cond.instanceMethod yX3_lensPower, Cond.selects RX3 yX3_lensPower yX3_lensPower, Cond.code yX3_lensPower cX3_lensPower 7 (some .long), Cond.constantLong RX3 36 (100000), Cond.constantLong RX3 38 (1000), Cond.methodLink RX3 30 yX0_indexFor, Cond.instanceMethod yX0_indexFor, Cond.selects RX0 yX0_indexFor yX0_indexFor, Cond.code yX0_indexFor cX0_indexFor 3 (some .long), Cond.fieldLink RX0 15 "AchromatDesk$Catalogue" "indicesF" "[I", Cond.fieldLink RX0 22 "AchromatDesk$Catalogue" "indicesC" "[I", Cond.methodLink RX3 40 yX0_valueA]
def wsX5_withLenses : List Cond := .code yX5_withLenses cX5_withLenses 6 (some .long) :: ((wsX5_withLenses_r1 ++ (wsX5_withLenses_r2 ++ (wsX5_withLenses_r3 ++ wsX5_withLenses_r4))) ++ wsX50 ++ wsX30 ++ wsX40 ++ wsX00)
def wsX5_withPlates : List Cond := .code yX5_withPlates cX5_withPlates 6 (some .long) :: ([.fieldLink RX5 40 "AchromatDesk" "plates" "LAchromatDesk$PlateSet;", .methodLink RX5 246 yX5_mixed, .static yX5_mixed, .initialized RX5, .code yX5_mixed cX5_mixed 4 (some .long), .constantLong RX5 278 (31), .methodLink RX5 273 yX4_signedRadius, .instanceMethod yX4_signedRadius, .selects RX4 yX4_signedRadius yX4_signedRadius, .initialized RX4, .code yX4_signedRadius cX4_signedRadius 3 (some .long), .fieldLink RX4 9 "AchromatDesk$PlateSet" "radii" "[I"] ++ wsX50 ++ wsX40)
def wsX5_withBuffer : List Cond := .code yX5_withBuffer cX5_withBuffer 6 (some .long) :: ([.fieldLink RX5 12 "AchromatDesk" "buffer" "LAchromatDesk$GlassText;", .methodLink RX5 246 yX5_mixed, .static yX5_mixed, .initialized RX5, .code yX5_mixed cX5_mixed 4 (some .long), .constantLong RX5 278 (31), .methodLink RX5 308 yX2_codeAt, .instanceMethod yX2_codeAt, .selects RX2 yX2_codeAt yX2_codeAt, .initialized RX2, .code yX2_codeAt cX2_codeAt 2 (some .int), .fieldLink RX2 15 "AchromatDesk$GlassText" "length" "I", .fieldLink RX2 11 "AchromatDesk$GlassText" "codes" "[I"] ++ wsX50 ++ wsX20)
def wsX5_digest_r1 : List Cond := [Cond.constantLong RX5 225 (1831), Cond.methodLink RX5 227 yX5_withGlasses, Cond.instanceMethod yX5_withGlasses, Cond.selects RX5 yX5_withGlasses yX5_withGlasses, Cond.initialized RX5, Cond.code yX5_withGlasses cX5_withGlasses 7 (some .long), Cond.fieldLink RX5 19 "AchromatDesk" "glasses" "LAchromatDesk$Catalogue;", Cond.methodLink RX5 246 yX5_mixed, Cond.static yX5_mixed, Cond.code yX5_mixed cX5_mixed 4 (some .long), Cond.constantLong RX5 278 (31), Cond.methodLink RX5 280 yX5_index, Cond.instanceMethod yX5_index, Cond.selects RX5 yX5_index yX5_index, Cond.code yX5_index cX5_index 3 (some .long), Cond.constantLong RX5 97 (-9000000000000000002), Cond.constantLong RX5 44 (-9000000000000000001), Cond.methodLink RX5 93 yX0_has, Cond.instanceMethod yX0_has, Cond.selects RX0 yX0_has yX0_has, Cond.initialized RX0, Cond.code yX0_has cX0_has 2 (some .boolean), Cond.fieldLink RX0 25 "AchromatDesk$Catalogue" "count" "I", Cond.methodLink RX5 110 yX5_isColour]
def wsX5_digest_r2 : List Cond := [Cond.static yX5_isColour, Cond.code yX5_isColour cX5_isColour 1 (some .boolean), Cond.methodLink RX5 113 yX0_indexFor, Cond.instanceMethod yX0_indexFor, Cond.selects RX0 yX0_indexFor yX0_indexFor, Cond.code yX0_indexFor cX0_indexFor 3 (some .long), Cond.fieldLink RX0 15 "AchromatDesk$Catalogue" "indicesF" "[I", Cond.fieldLink RX0 19 "AchromatDesk$Catalogue" "indicesD" "[I", Cond.fieldLink RX0 22 "AchromatDesk$Catalogue" "indicesC" "[I", Cond.methodLink RX5 283 yX5_placeByName, Cond.instanceMethod yX5_placeByName, Cond.selects RX5 yX5_placeByName yX5_placeByName, Cond.code yX5_placeByName cX5_placeByName 2 (some .long), Cond.methodLink RX5 117 yX0_namesBefore, Cond.instanceMethod yX0_namesBefore, Cond.selects RX0 yX0_namesBefore yX0_namesBefore, Cond.code yX0_namesBefore cX0_namesBefore 4 (some .int), Cond.fieldLink RX0 9 "AchromatDesk$Catalogue" "nameKeys" "[J", Cond.methodLink RX5 286 yX5_abbe, Cond.instanceMethod yX5_abbe, Cond.selects RX5 yX5_abbe yX5_abbe, Cond.code yX5_abbe cX5_abbe 2 (some .long), Cond.methodLink RX5 120 yX0_abbeNumber, Cond.instanceMethod yX0_abbeNumber]
def wsX5_digest_r3 : List Cond := [Cond.selects RX0 yX0_abbeNumber yX0_abbeNumber, Cond.code yX0_abbeNumber cX0_abbeNumber 2 (some .long), Cond.constantLong RX0 33 (1000), Cond.methodLink RX0 35 yX0_valueA, Cond.instanceMethod yX0_valueA, Cond.selects RX0 yX0_valueA yX0_valueA, Cond.code yX0_valueA cX0_valueA 2 (some .long), Cond.constant RX0 49 (100000), Cond.methodLink RX0 39 yX0_valueB, Cond.instanceMethod yX0_valueB, Cond.selects RX0 yX0_valueB yX0_valueB, Cond.code yX0_valueB cX0_valueB 2 (some .long), Cond.static yX5_floorQuotient, Cond.code yX5_floorQuotient cX5_floorQuotient 4 (some .long), Cond.methodLink RX5 258 yJ9_floorDiv_f86c9, Cond.static yJ9_floorDiv_f86c9, Cond.initialized RJ9, Cond.code yJ9_floorDiv_f86c9 cJ9_floorDiv_f86c9 6 (some .long), Cond.methodLink RX5 289 yX5_partial, Cond.instanceMethod yX5_partial, Cond.selects RX5 yX5_partial yX5_partial, Cond.code yX5_partial cX5_partial 2 (some .long), Cond.constantLong RX5 124 (100000), Cond.methodLink RX5 126 yX0_valueD]
def wsX5_digest_r4 : List Cond := [Cond.instanceMethod yX0_valueD, Cond.selects RX0 yX0_valueD yX0_valueD, Cond.code yX0_valueD cX0_valueD 2 (some .long), Cond.methodLink RX5 129 yX0_valueB, Cond.methodLink RX5 132 yX5_floorQuotient, Cond.methodLink RX5 292 yX5_balancePower, Cond.instanceMethod yX5_balancePower, Cond.selects RX5 yX5_balancePower yX5_balancePower, Cond.code yX5_balancePower cX5_balancePower 4 (some .long), Cond.fieldLink RX5 33 "AchromatDesk" "system" "LAchromatDesk$LensSystem;", Cond.constantLong RX5 150 (1000), Cond.methodLink RX5 186 yX3_powerFor, Cond.instanceMethod yX3_powerFor, Cond.selects RX3 yX3_powerFor yX3_powerFor, Cond.initialized RX3, Cond.code yX3_powerFor cX3_powerFor 6 (some .long), Cond.fieldLink RX3 18 "AchromatDesk$LensSystem" "count" "I", Cond.fieldLink RX3 9 "AchromatDesk$LensSystem" "glassNumbers" "[I", Cond.methodLink RX3 26 yX3_lensPower, Cond.instanceMethod yX3_lensPower, Cond.selects RX3 yX3_lensPower yX3_lensPower, Cond.code yX3_lensPower cX3_lensPower 7 (some .long), Cond.constantLong RX3 36 (100000), Cond.fieldLink RX3 15 "AchromatDesk$LensSystem" "powers" "[I"]
def wsX5_digest_r5 : List Cond := [Cond.constantLong RX3 38 (1000), Cond.methodLink RX3 30 yX0_indexFor, Cond.methodLink RX3 40 yX0_valueA, Cond.methodLink RX5 147 yX0_valueA, Cond.methodLink RX5 230 yX5_withDesigns, Cond.instanceMethod yX5_withDesigns, Cond.selects RX5 yX5_withDesigns yX5_withDesigns, Cond.code yX5_withDesigns cX5_withDesigns 6 (some .long), Cond.methodLink RX5 295 yX5_doubletCount, Cond.instanceMethod yX5_doubletCount, Cond.selects RX5 yX5_doubletCount yX5_doubletCount, Cond.code yX5_doubletCount cX5_doubletCount 1 (some .long), Cond.fieldLink RX5 26 "AchromatDesk" "doublets" "LAchromatDesk$DoubletRanking;", Cond.methodLink RX5 157 yX1_collect, Cond.instanceMethod yX1_collect, Cond.selects RX1 yX1_collect yX1_collect, Cond.initialized RX1, Cond.code yX1_collect cX1_collect 4 none, Cond.fieldLink RX1 28 "AchromatDesk$DoubletRanking" "count" "I", Cond.methodLink RX1 35 yX0_valueE, Cond.instanceMethod yX0_valueE, Cond.selects RX0 yX0_valueE yX0_valueE, Cond.code yX0_valueE cX0_valueE 3 (some .long), Cond.methodLink RX1 39 yX1_keep]
def wsX5_digest_r6 : List Cond := [Cond.instanceMethod yX1_keep, Cond.selects RX1 yX1_keep yX1_keep, Cond.code yX1_keep cX1_keep 4 none, Cond.fieldLink RX1 9 "AchromatDesk$DoubletRanking" "codes" "[I", Cond.fieldLink RX1 15 "AchromatDesk$DoubletRanking" "divisors" "[J", Cond.fieldLink RX1 19 "AchromatDesk$DoubletRanking" "spectra" "[J", Cond.methodLink RX1 50 Lib.MathLoose.abs_long.x, Cond.static Lib.MathLoose.abs_long.x, Cond.initialized "java/lang/Math", Cond.code Lib.MathLoose.abs_long.x Lib.MathLoose.abs_long.code 2 (some .long), Cond.fieldLink RX1 22 "AchromatDesk$DoubletRanking" "strains" "[J", Cond.methodLink RX1 47 yX0_valueX, Cond.instanceMethod yX0_valueX, Cond.selects RX0 yX0_valueX yX0_valueX, Cond.code yX0_valueX cX0_valueX 3 (some .long), Cond.methodLink RX0 50 yX0_valueD, Cond.methodLink RX1 56 yX0_valueA, Cond.methodLink RX1 60 yX0_valueB, Cond.methodLink RX5 298 yX5_doubletAt, Cond.instanceMethod yX5_doubletAt, Cond.selects RX5 yX5_doubletAt yX5_doubletAt, Cond.code yX5_doubletAt cX5_doubletAt 3 (some .long), Cond.constantLong RX5 139 (-9000000000000000008), Cond.methodLink RX5 162 yX1_rank]
def wsX5_digest_r7 : List Cond := [Cond.instanceMethod yX1_rank, Cond.selects RX1 yX1_rank yX1_rank, Cond.code yX1_rank cX1_rank 5 none, Cond.fieldLink RX1 25 "AchromatDesk$DoubletRanking" "order" "[I", Cond.methodLink RX1 43 yX1_placeAmong, Cond.instanceMethod yX1_placeAmong, Cond.selects RX1 yX1_placeAmong yX1_placeAmong, Cond.code yX1_placeAmong cX1_placeAmong 6 (some .int), Cond.methodLink RX1 63 yX1_compareSlots, Cond.instanceMethod yX1_compareSlots, Cond.selects RX1 yX1_compareSlots yX1_compareSlots, Cond.code yX1_compareSlots cX1_compareSlots 6 (some .int), Cond.methodLink RX1 67 yJ13_compare_74951, Cond.static yJ13_compare_74951, Cond.initialized RJ13, Cond.code yJ13_compare_74951 cJ13_compare_74951 4 (some .int), Cond.methodLink RX5 166 yX1_codeAt, Cond.instanceMethod yX1_codeAt, Cond.selects RX1 yX1_codeAt yX1_codeAt, Cond.code yX1_codeAt cX1_codeAt 2 (some .int), Cond.methodLink RX5 302 yX5_bestTriplet, Cond.instanceMethod yX5_bestTriplet, Cond.selects RX5 yX5_bestTriplet yX5_bestTriplet, Cond.code yX5_bestTriplet cX5_bestTriplet 10 (some .long)]
def wsX5_digest_r8 : List Cond := [Cond.methodLink RX5 173 yX5_greatestTripletPower, Cond.instanceMethod yX5_greatestTripletPower, Cond.selects RX5 yX5_greatestTripletPower yX5_greatestTripletPower, Cond.code yX5_greatestTripletPower cX5_greatestTripletPower 14 (some .long), Cond.constantLong RX5 212 (-1), Cond.methodLink RX5 264 Lib.MathLoose.max_long.x, Cond.static Lib.MathLoose.max_long.x, Cond.code Lib.MathLoose.max_long.x Lib.MathLoose.max_long.code 4 (some .long), Cond.methodLink RX5 169 yX0_tripletShare, Cond.instanceMethod yX0_tripletShare, Cond.selects RX0 yX0_tripletShare yX0_tripletShare, Cond.code yX0_tripletShare cX0_tripletShare 4 (some .long), Cond.methodLink RX0 53 yX0_valueX, Cond.methodLink RX5 261 yX5_absolutePower, Cond.static yX5_absolutePower, Cond.code yX5_absolutePower cX5_absolutePower 4 (some .long), Cond.constantLong RX5 267 (10000), Cond.methodLink RX5 218 Lib.MathLoose.abs_long.x, Cond.methodLink RX5 233 yX5_withLenses, Cond.instanceMethod yX5_withLenses, Cond.selects RX5 yX5_withLenses yX5_withLenses, Cond.code yX5_withLenses cX5_withLenses 6 (some .long), Cond.methodLink RX5 197 yX3_glassOf, Cond.instanceMethod yX3_glassOf]
def wsX5_digest_r9 : List Cond := [Cond.selects RX3 yX3_glassOf yX3_glassOf, Cond.code yX3_glassOf cX3_glassOf 2 (some .int), Cond.methodLink RX5 209 yX3_powerOf, Cond.instanceMethod yX3_powerOf, Cond.selects RX3 yX3_powerOf yX3_powerOf, Cond.code yX3_powerOf cX3_powerOf 2 (some .int), Cond.methodLink RX5 305 yX5_bestSurfaces, Cond.instanceMethod yX5_bestSurfaces, Cond.selects RX5 yX5_bestSurfaces yX5_bestSurfaces, Cond.code yX5_bestSurfaces cX5_bestSurfaces 14 (some .long), Cond.constantLong RX5 183 (-9000000000000000003), Cond.fieldLink RX5 40 "AchromatDesk" "plates" "LAchromatDesk$PlateSet;", Cond.methodLink RX5 182 yX3_has, Cond.instanceMethod yX3_has, Cond.selects RX3 yX3_has yX3_has, Cond.code yX3_has cX3_has 2 (some .boolean), Cond.methodLink RX5 214 yX5_powerBetween, Cond.instanceMethod yX5_powerBetween, Cond.selects RX5 yX5_powerBetween yX5_powerBetween, Cond.code yX5_powerBetween cX5_powerBetween 9 (some .long), Cond.constantLong RX5 276 (10000000), Cond.methodLink RX5 273 yX4_signedRadius, Cond.instanceMethod yX4_signedRadius, Cond.selects RX4 yX4_signedRadius yX4_signedRadius]
def wsX5_digest_r10 : List Cond := [Cond.initialized RX4, Cond.code yX4_signedRadius cX4_signedRadius 3 (some .long), Cond.fieldLink RX4 9 "AchromatDesk$PlateSet" "radii" "[I", Cond.methodLink RX5 239 yX5_systemPower, Cond.instanceMethod yX5_systemPower, Cond.selects RX5 yX5_systemPower yX5_systemPower, Cond.code yX5_systemPower cX5_systemPower 2 (some .long), Cond.methodLink RX5 236 yX5_withPlates, Cond.instanceMethod yX5_withPlates, Cond.selects RX5 yX5_withPlates yX5_withPlates, Cond.code yX5_withPlates cX5_withPlates 6 (some .long), Cond.methodLink RX5 242 yX5_findWrongGlass, Cond.instanceMethod yX5_findWrongGlass, Cond.selects RX5 yX5_findWrongGlass yX5_findWrongGlass, Cond.code yX5_findWrongGlass cX5_findWrongGlass 22 (some .long), Cond.methodLink RX5 190 yX5_isMeasurable, Cond.static yX5_isMeasurable, Cond.code yX5_isMeasurable cX5_isMeasurable 2 (some .boolean), Cond.constantLong RX5 252 (-1000000000000), Cond.constantLong RX5 254 (1000000000000), Cond.methodLink RX5 193 yX5_missWith, Cond.instanceMethod yX5_missWith, Cond.selects RX5 yX5_missWith yX5_missWith, Cond.code yX5_missWith cX5_missWith 9 (some .long)]
def wsX5_digest_r11 : List Cond := [Cond.methodLink RX5 269 yX3_changeWith, Cond.instanceMethod yX3_changeWith, Cond.selects RX3 yX3_changeWith yX3_changeWith, Cond.code yX3_changeWith cX3_changeWith 5 (some .long), Cond.methodLink RX5 249 yX5_withBuffer, Cond.instanceMethod yX5_withBuffer, Cond.selects RX5 yX5_withBuffer yX5_withBuffer, Cond.code yX5_withBuffer cX5_withBuffer 6 (some .long), Cond.fieldLink RX5 12 "AchromatDesk" "buffer" "LAchromatDesk$GlassText;", Cond.methodLink RX5 308 yX2_codeAt, Cond.instanceMethod yX2_codeAt, Cond.selects RX2 yX2_codeAt yX2_codeAt, Cond.initialized RX2, Cond.code yX2_codeAt cX2_codeAt 2 (some .int), Cond.fieldLink RX2 15 "AchromatDesk$GlassText" "length" "I", Cond.fieldLink RX2 11 "AchromatDesk$GlassText" "codes" "[I"]
def wsX5_digest : List Cond := .code yX5_digest cX5_digest 5 (some .long) :: ((wsX5_digest_r1 ++ (wsX5_digest_r2 ++ (wsX5_digest_r3 ++ (wsX5_digest_r4 ++ (wsX5_digest_r5 ++ (wsX5_digest_r6 ++ (wsX5_digest_r7 ++ (wsX5_digest_r8 ++ (wsX5_digest_r9 ++ (wsX5_digest_r10 ++ wsX5_digest_r11)))))))))) ++ wsX50 ++ wsX00 ++ wsX30 ++ wsX10 ++ wsX40 ++ wsX20)
def wsX6_init : List Cond := .code yX6_init cX6_init 1 none :: ([.methodLink RX6 1 objectInit, .instanceMethod objectInit, .code objectInit ⟨#[0xb1]⟩ 1 none, .arrayClass .int, .fieldLink RX6 7 "AchromatDeskModel" "buffer" "[I", .arrayClass .long, .fieldLink RX6 13 "AchromatDeskModel" "name" "[J", .fieldLink RX6 17 "AchromatDeskModel" "indices" "[I", .fieldLink RX6 20 "AchromatDeskModel" "glassOf" "[I", .fieldLink RX6 23 "AchromatDeskModel" "powerOf" "[I", .fieldLink RX6 26 "AchromatDeskModel" "radius" "[I", .fieldLink RX6 29 "AchromatDeskModel" "readNumber" "[I", .fieldLink RX6 32 "AchromatDeskModel" "measured" "[J"] ++ wsX60)
def wsX6_within : List Cond := .code yX6_within cX6_within 6 (some .boolean) :: ([])
def wsX6_floor : List Cond := .code yX6_floor cX6_floor 6 (some .long) :: ([])
def wsX6_size : List Cond := .code yX6_size cX6_size 2 (some .long) :: ([])
def wsX6_isGlass : List Cond := .code yX6_isGlass cX6_isGlass 2 (some .boolean) :: ([.fieldLink RX6 35 "AchromatDeskModel" "glasses" "I", .methodLink RX6 39 yX6_within, .static yX6_within, .initialized RX6, .code yX6_within cX6_within 6 (some .boolean)] ++ wsX60)
def wsX6_isLens : List Cond := .code yX6_isLens cX6_isLens 2 (some .boolean) :: ([.fieldLink RX6 43 "AchromatDeskModel" "lenses" "I", .methodLink RX6 39 yX6_within, .static yX6_within, .initialized RX6, .code yX6_within cX6_within 6 (some .boolean)] ++ wsX60)
def wsX6_isColour : List Cond := .code yX6_isColour cX6_isColour 1 (some .boolean) :: ([.constantLong RX6 46 (2), .methodLink RX6 39 yX6_within, .static yX6_within, .initialized RX6, .code yX6_within cX6_within 6 (some .boolean)])
def wsX6_a : List Cond := .code yX6_a cX6_a 2 (some .long) :: ([.fieldLink RX6 17 "AchromatDeskModel" "indices" "[I", .constant RX6 48 (100000)] ++ wsX60)
def wsX6_b : List Cond := .code yX6_b cX6_b 2 (some .long) :: ([.fieldLink RX6 17 "AchromatDeskModel" "indices" "[I"] ++ wsX60)
def wsX6_d : List Cond := .code yX6_d cX6_d 2 (some .long) :: ([.fieldLink RX6 17 "AchromatDeskModel" "indices" "[I"] ++ wsX60)
def wsX6_append : List Cond := .code yX6_append cX6_append 2 (some .long) :: ([.constantLong RX6 49 (32), .constantLong RX6 51 (126), .constantLong RX6 53 (-9000000000000000001), .fieldLink RX6 55 "AchromatDeskModel" "bufferLength" "I", .constantLong RX6 58 (-9000000000000000004), .fieldLink RX6 7 "AchromatDeskModel" "buffer" "[I", .methodLink RX6 39 yX6_within, .static yX6_within, .initialized RX6, .code yX6_within cX6_within 6 (some .boolean)] ++ wsX60)
def wsX6_clearBuffer : List Cond := .code yX6_clearBuffer cX6_clearBuffer 2 (some .long) :: ([.fieldLink RX6 55 "AchromatDeskModel" "bufferLength" "I"] ++ wsX60)
def wsX6_parse : List Cond := .code yX6_parse cX6_parse 8 none :: ([.fieldLink RX6 60 "AchromatDeskModel" "readName" "J", .fieldLink RX6 55 "AchromatDeskModel" "bufferLength" "I", .fieldLink RX6 7 "AchromatDeskModel" "buffer" "[I", .constantLong RX6 64 (48), .constantLong RX6 66 (57), .constantLong RX6 68 (65), .constantLong RX6 70 (90), .constantLong RX6 72 (128), .constantLong RX6 46 (2), .fieldLink RX6 29 "AchromatDeskModel" "readNumber" "[I", .fieldLink RX6 74 "AchromatDeskModel" "errorAt" "I", .fieldLink RX6 77 "AchromatDeskModel" "isWhole" "Z", .constantLong RX6 81 (34359738368), .methodLink RX6 39 yX6_within, .static yX6_within, .initialized RX6, .code yX6_within cX6_within 6 (some .boolean)] ++ wsX60)
def wsX6_errorPosition : List Cond := .code yX6_errorPosition cX6_errorPosition 1 (some .long) :: ([.fieldLink RX6 74 "AchromatDeskModel" "errorAt" "I", .methodLink RX6 83 yX6_parse, .instanceMethod yX6_parse, .selects RX6 yX6_parse yX6_parse, .initialized RX6, .code yX6_parse cX6_parse 8 none, .fieldLink RX6 60 "AchromatDeskModel" "readName" "J", .fieldLink RX6 55 "AchromatDeskModel" "bufferLength" "I", .fieldLink RX6 7 "AchromatDeskModel" "buffer" "[I", .constantLong RX6 64 (48), .constantLong RX6 66 (57), .constantLong RX6 68 (65), .constantLong RX6 70 (90), .constantLong RX6 72 (128), .constantLong RX6 46 (2), .fieldLink RX6 29 "AchromatDeskModel" "readNumber" "[I", .fieldLink RX6 77 "AchromatDeskModel" "isWhole" "Z", .constantLong RX6 81 (34359738368), .methodLink RX6 39 yX6_within, .static yX6_within, .code yX6_within cX6_within 6 (some .boolean)] ++ wsX60)
def wsX6_isRight : List Cond := .code yX6_isRight cX6_isRight 4 (some .boolean) :: ([.fieldLink RX6 29 "AchromatDeskModel" "readNumber" "[I", .constant RX6 86 (130000), .constant RX6 87 (230000)] ++ wsX60)
def wsX6_isNamed : List Cond := .code yX6_isNamed cX6_isNamed 5 (some .boolean) :: ([.fieldLink RX6 35 "AchromatDeskModel" "glasses" "I", .fieldLink RX6 13 "AchromatDeskModel" "name" "[J"] ++ wsX60)
def wsX6_addGlass_r1 : List Cond := [Cond.fieldLink RX6 77 "AchromatDeskModel" "isWhole" "Z", Cond.constantLong RX6 88 (-9000000000000000005), Cond.constantLong RX6 53 (-9000000000000000001), Cond.fieldLink RX6 35 "AchromatDeskModel" "glasses" "I", Cond.constantLong RX6 58 (-9000000000000000004), Cond.fieldLink RX6 60 "AchromatDeskModel" "readName" "J", Cond.constantLong RX6 98 (-9000000000000000006), Cond.fieldLink RX6 13 "AchromatDeskModel" "name" "[J", Cond.fieldLink RX6 17 "AchromatDeskModel" "indices" "[I", Cond.fieldLink RX6 29 "AchromatDeskModel" "readNumber" "[I", Cond.fieldLink RX6 55 "AchromatDeskModel" "bufferLength" "I", Cond.methodLink RX6 83 yX6_parse, Cond.instanceMethod yX6_parse, Cond.selects RX6 yX6_parse yX6_parse, Cond.initialized RX6, Cond.code yX6_parse cX6_parse 8 none, Cond.fieldLink RX6 7 "AchromatDeskModel" "buffer" "[I", Cond.constantLong RX6 64 (48), Cond.constantLong RX6 66 (57), Cond.constantLong RX6 68 (65), Cond.constantLong RX6 70 (90), Cond.constantLong RX6 72 (128), Cond.constantLong RX6 46 (2), Cond.fieldLink RX6 74 "AchromatDeskModel" "errorAt" "I"]
def wsX6_addGlass_r2 : List Cond := [Cond.constantLong RX6 81 (34359738368), Cond.methodLink RX6 39 yX6_within, Cond.static yX6_within, Cond.code yX6_within cX6_within 6 (some .boolean), Cond.methodLink RX6 90 yX6_isRight, Cond.instanceMethod yX6_isRight, Cond.selects RX6 yX6_isRight yX6_isRight, Cond.code yX6_isRight cX6_isRight 4 (some .boolean), Cond.constant RX6 86 (130000), Cond.constant RX6 87 (230000), Cond.methodLink RX6 94 yX6_isNamed, Cond.instanceMethod yX6_isNamed, Cond.selects RX6 yX6_isNamed yX6_isNamed, Cond.code yX6_isNamed cX6_isNamed 5 (some .boolean)]
def wsX6_addGlass : List Cond := .code yX6_addGlass cX6_addGlass 2 (some .long) :: ((wsX6_addGlass_r1 ++ wsX6_addGlass_r2) ++ wsX60)
def wsX6_removeGlass : List Cond := .code yX6_removeGlass cX6_removeGlass 3 (some .long) :: ([.constantLong RX6 104 (-9000000000000000002), .fieldLink RX6 43 "AchromatDeskModel" "lenses" "I", .fieldLink RX6 20 "AchromatDeskModel" "glassOf" "[I", .constantLong RX6 106 (-9000000000000000007), .fieldLink RX6 35 "AchromatDeskModel" "glasses" "I", .fieldLink RX6 13 "AchromatDeskModel" "name" "[J", .fieldLink RX6 17 "AchromatDeskModel" "indices" "[I", .methodLink RX6 100 yX6_isGlass, .instanceMethod yX6_isGlass, .selects RX6 yX6_isGlass yX6_isGlass, .initialized RX6, .code yX6_isGlass cX6_isGlass 2 (some .boolean), .methodLink RX6 39 yX6_within, .static yX6_within, .code yX6_within cX6_within 6 (some .boolean)] ++ wsX60)
def wsX6_glassCount : List Cond := .code yX6_glassCount cX6_glassCount 1 (some .long) :: ([.fieldLink RX6 35 "AchromatDeskModel" "glasses" "I"] ++ wsX60)
def wsX6_index : List Cond := .code yX6_index cX6_index 3 (some .long) :: ([.constantLong RX6 104 (-9000000000000000002), .fieldLink RX6 17 "AchromatDeskModel" "indices" "[I", .constantLong RX6 53 (-9000000000000000001), .methodLink RX6 100 yX6_isGlass, .instanceMethod yX6_isGlass, .selects RX6 yX6_isGlass yX6_isGlass, .initialized RX6, .code yX6_isGlass cX6_isGlass 2 (some .boolean), .fieldLink RX6 35 "AchromatDeskModel" "glasses" "I", .methodLink RX6 39 yX6_within, .static yX6_within, .code yX6_within cX6_within 6 (some .boolean), .methodLink RX6 108 yX6_isColour, .static yX6_isColour, .code yX6_isColour cX6_isColour 1 (some .boolean), .constantLong RX6 46 (2)] ++ wsX60)
def wsX6_placeNow : List Cond := .code yX6_placeNow cX6_placeNow 5 (some .long) :: ([.fieldLink RX6 35 "AchromatDeskModel" "glasses" "I", .fieldLink RX6 13 "AchromatDeskModel" "name" "[J"] ++ wsX60)
def wsX6_placeByName : List Cond := .code yX6_placeByName cX6_placeByName 2 (some .long) :: ([.constantLong RX6 104 (-9000000000000000002), .methodLink RX6 100 yX6_isGlass, .instanceMethod yX6_isGlass, .selects RX6 yX6_isGlass yX6_isGlass, .initialized RX6, .code yX6_isGlass cX6_isGlass 2 (some .boolean), .fieldLink RX6 35 "AchromatDeskModel" "glasses" "I", .methodLink RX6 39 yX6_within, .static yX6_within, .code yX6_within cX6_within 6 (some .boolean), .methodLink RX6 111 yX6_placeNow, .instanceMethod yX6_placeNow, .selects RX6 yX6_placeNow yX6_placeNow, .code yX6_placeNow cX6_placeNow 5 (some .long), .fieldLink RX6 13 "AchromatDeskModel" "name" "[J"] ++ wsX60)
def wsX6_abbeNow : List Cond := .code yX6_abbeNow cX6_abbeNow 2 (some .long) :: ([.constantLong RX6 115 (1000), .methodLink RX6 117 yX6_a, .instanceMethod yX6_a, .selects RX6 yX6_a yX6_a, .initialized RX6, .code yX6_a cX6_a 2 (some .long), .fieldLink RX6 17 "AchromatDeskModel" "indices" "[I", .constant RX6 48 (100000), .methodLink RX6 120 yX6_b, .instanceMethod yX6_b, .selects RX6 yX6_b yX6_b, .code yX6_b cX6_b 2 (some .long)] ++ wsX60)
def wsX6_partialNow : List Cond := .code yX6_partialNow cX6_partialNow 2 (some .long) :: ([.constantLong RX6 123 (100000), .methodLink RX6 125 yX6_d, .instanceMethod yX6_d, .selects RX6 yX6_d yX6_d, .initialized RX6, .code yX6_d cX6_d 2 (some .long), .fieldLink RX6 17 "AchromatDeskModel" "indices" "[I", .methodLink RX6 120 yX6_b, .instanceMethod yX6_b, .selects RX6 yX6_b yX6_b, .code yX6_b cX6_b 2 (some .long)] ++ wsX60)
def wsX6_abbe_r1 : List Cond := [Cond.constantLong RX6 104 (-9000000000000000002), Cond.methodLink RX6 100 yX6_isGlass, Cond.instanceMethod yX6_isGlass, Cond.selects RX6 yX6_isGlass yX6_isGlass, Cond.initialized RX6, Cond.code yX6_isGlass cX6_isGlass 2 (some .boolean), Cond.fieldLink RX6 35 "AchromatDeskModel" "glasses" "I", Cond.methodLink RX6 39 yX6_within, Cond.static yX6_within, Cond.code yX6_within cX6_within 6 (some .boolean), Cond.methodLink RX6 128 yX6_abbeNow, Cond.instanceMethod yX6_abbeNow, Cond.selects RX6 yX6_abbeNow yX6_abbeNow, Cond.code yX6_abbeNow cX6_abbeNow 2 (some .long), Cond.constantLong RX6 115 (1000), Cond.methodLink RX6 117 yX6_a, Cond.instanceMethod yX6_a, Cond.selects RX6 yX6_a yX6_a, Cond.code yX6_a cX6_a 2 (some .long), Cond.fieldLink RX6 17 "AchromatDeskModel" "indices" "[I", Cond.constant RX6 48 (100000), Cond.methodLink RX6 120 yX6_b, Cond.instanceMethod yX6_b, Cond.selects RX6 yX6_b yX6_b]
def wsX6_abbe_r2 : List Cond := [Cond.code yX6_b cX6_b 2 (some .long)]
def wsX6_abbe : List Cond := .code yX6_abbe cX6_abbe 2 (some .long) :: ((wsX6_abbe_r1 ++ wsX6_abbe_r2) ++ wsX60)
def wsX6_partial : List Cond := .code yX6_partial cX6_partial 2 (some .long) :: ([.constantLong RX6 104 (-9000000000000000002), .methodLink RX6 100 yX6_isGlass, .instanceMethod yX6_isGlass, .selects RX6 yX6_isGlass yX6_isGlass, .initialized RX6, .code yX6_isGlass cX6_isGlass 2 (some .boolean), .fieldLink RX6 35 "AchromatDeskModel" "glasses" "I", .methodLink RX6 39 yX6_within, .static yX6_within, .code yX6_within cX6_within 6 (some .boolean), .methodLink RX6 131 yX6_partialNow, .instanceMethod yX6_partialNow, .selects RX6 yX6_partialNow yX6_partialNow, .code yX6_partialNow cX6_partialNow 2 (some .long), .constantLong RX6 123 (100000), .methodLink RX6 125 yX6_d, .instanceMethod yX6_d, .selects RX6 yX6_d yX6_d, .code yX6_d cX6_d 2 (some .long), .fieldLink RX6 17 "AchromatDeskModel" "indices" "[I", .methodLink RX6 120 yX6_b, .instanceMethod yX6_b, .selects RX6 yX6_b yX6_b, .code yX6_b cX6_b 2 (some .long)] ++ wsX60)
def wsX6_glassWithAbbe : List Cond := .code yX6_glassWithAbbe cX6_glassWithAbbe 5 (some .long) :: ([.fieldLink RX6 35 "AchromatDeskModel" "glasses" "I", .constantLong RX6 134 (-9000000000000000008), .methodLink RX6 128 yX6_abbeNow, .instanceMethod yX6_abbeNow, .selects RX6 yX6_abbeNow yX6_abbeNow, .initialized RX6, .code yX6_abbeNow cX6_abbeNow 2 (some .long), .constantLong RX6 115 (1000), .methodLink RX6 117 yX6_a, .instanceMethod yX6_a, .selects RX6 yX6_a yX6_a, .code yX6_a cX6_a 2 (some .long), .fieldLink RX6 17 "AchromatDeskModel" "indices" "[I", .constant RX6 48 (100000), .methodLink RX6 120 yX6_b, .instanceMethod yX6_b, .selects RX6 yX6_b yX6_b, .code yX6_b cX6_b 2 (some .long)] ++ wsX60)
def wsX6_e : List Cond := .code yX6_e cX6_e 3 (some .long) :: ([.methodLink RX6 117 yX6_a, .instanceMethod yX6_a, .selects RX6 yX6_a yX6_a, .initialized RX6, .code yX6_a cX6_a 2 (some .long), .fieldLink RX6 17 "AchromatDeskModel" "indices" "[I", .constant RX6 48 (100000), .methodLink RX6 120 yX6_b, .instanceMethod yX6_b, .selects RX6 yX6_b yX6_b, .code yX6_b cX6_b 2 (some .long)] ++ wsX60)
def wsX6_spectrum : List Cond := .code yX6_spectrum cX6_spectrum 3 (some .long) :: ([.methodLink RX6 125 yX6_d, .instanceMethod yX6_d, .selects RX6 yX6_d yX6_d, .initialized RX6, .code yX6_d cX6_d 2 (some .long), .fieldLink RX6 17 "AchromatDeskModel" "indices" "[I", .methodLink RX6 120 yX6_b, .instanceMethod yX6_b, .selects RX6 yX6_b yX6_b, .code yX6_b cX6_b 2 (some .long)] ++ wsX60)
def wsX6_strain : List Cond := .code yX6_strain cX6_strain 3 (some .long) :: ([.methodLink RX6 117 yX6_a, .instanceMethod yX6_a, .selects RX6 yX6_a yX6_a, .initialized RX6, .code yX6_a cX6_a 2 (some .long), .fieldLink RX6 17 "AchromatDeskModel" "indices" "[I", .constant RX6 48 (100000), .methodLink RX6 120 yX6_b, .instanceMethod yX6_b, .selects RX6 yX6_b yX6_b, .code yX6_b cX6_b 2 (some .long)] ++ wsX60)
def wsX6_doubletPower_r1 : List Cond := [Cond.constantLong RX6 104 (-9000000000000000002), Cond.constantLong RX6 136 (-10000), Cond.constantLong RX6 138 (10000), Cond.constantLong RX6 53 (-9000000000000000001), Cond.constantLong RX6 134 (-9000000000000000008), Cond.constantLong RX6 115 (1000), Cond.methodLink RX6 100 yX6_isGlass, Cond.instanceMethod yX6_isGlass, Cond.selects RX6 yX6_isGlass yX6_isGlass, Cond.initialized RX6, Cond.code yX6_isGlass cX6_isGlass 2 (some .boolean), Cond.fieldLink RX6 35 "AchromatDeskModel" "glasses" "I", Cond.methodLink RX6 39 yX6_within, Cond.static yX6_within, Cond.code yX6_within cX6_within 6 (some .boolean), Cond.methodLink RX6 117 yX6_a, Cond.instanceMethod yX6_a, Cond.selects RX6 yX6_a yX6_a, Cond.code yX6_a cX6_a 2 (some .long), Cond.fieldLink RX6 17 "AchromatDeskModel" "indices" "[I", Cond.constant RX6 48 (100000), Cond.methodLink RX6 120 yX6_b, Cond.instanceMethod yX6_b, Cond.selects RX6 yX6_b yX6_b]
def wsX6_doubletPower_r2 : List Cond := [Cond.code yX6_b cX6_b 2 (some .long), Cond.methodLink RX6 140 yX6_e, Cond.instanceMethod yX6_e, Cond.selects RX6 yX6_e yX6_e, Cond.code yX6_e cX6_e 3 (some .long), Cond.methodLink RX6 144 yX6_floor, Cond.static yX6_floor, Cond.code yX6_floor cX6_floor 6 (some .long)]
def wsX6_doubletPower : List Cond := .code yX6_doubletPower cX6_doubletPower 9 (some .long) :: ((wsX6_doubletPower_r1 ++ wsX6_doubletPower_r2) ++ wsX60)
def wsX6_secondarySpectrum_r1 : List Cond := [Cond.constantLong RX6 104 (-9000000000000000002), Cond.constantLong RX6 136 (-10000), Cond.constantLong RX6 138 (10000), Cond.constantLong RX6 53 (-9000000000000000001), Cond.constantLong RX6 134 (-9000000000000000008), Cond.constantLong RX6 148 (1000000), Cond.methodLink RX6 100 yX6_isGlass, Cond.instanceMethod yX6_isGlass, Cond.selects RX6 yX6_isGlass yX6_isGlass, Cond.initialized RX6, Cond.code yX6_isGlass cX6_isGlass 2 (some .boolean), Cond.fieldLink RX6 35 "AchromatDeskModel" "glasses" "I", Cond.methodLink RX6 39 yX6_within, Cond.static yX6_within, Cond.code yX6_within cX6_within 6 (some .boolean), Cond.methodLink RX6 140 yX6_e, Cond.instanceMethod yX6_e, Cond.selects RX6 yX6_e yX6_e, Cond.code yX6_e cX6_e 3 (some .long), Cond.methodLink RX6 117 yX6_a, Cond.instanceMethod yX6_a, Cond.selects RX6 yX6_a yX6_a, Cond.code yX6_a cX6_a 2 (some .long), Cond.fieldLink RX6 17 "AchromatDeskModel" "indices" "[I"]
def wsX6_secondarySpectrum_r2 : List Cond := [Cond.constant RX6 48 (100000), Cond.methodLink RX6 120 yX6_b, Cond.instanceMethod yX6_b, Cond.selects RX6 yX6_b yX6_b, Cond.code yX6_b cX6_b 2 (some .long), Cond.methodLink RX6 150 yX6_spectrum, Cond.instanceMethod yX6_spectrum, Cond.selects RX6 yX6_spectrum yX6_spectrum, Cond.code yX6_spectrum cX6_spectrum 3 (some .long), Cond.methodLink RX6 125 yX6_d, Cond.instanceMethod yX6_d, Cond.selects RX6 yX6_d yX6_d, Cond.code yX6_d cX6_d 2 (some .long), Cond.methodLink RX6 144 yX6_floor, Cond.static yX6_floor, Cond.code yX6_floor cX6_floor 6 (some .long)]
def wsX6_secondarySpectrum : List Cond := .code yX6_secondarySpectrum cX6_secondarySpectrum 6 (some .long) :: ((wsX6_secondarySpectrum_r1 ++ wsX6_secondarySpectrum_r2) ++ wsX60)
def wsX6_isDoublet : List Cond := .code yX6_isDoublet cX6_isDoublet 3 (some .boolean) :: ([.methodLink RX6 140 yX6_e, .instanceMethod yX6_e, .selects RX6 yX6_e yX6_e, .initialized RX6, .code yX6_e cX6_e 3 (some .long), .methodLink RX6 117 yX6_a, .instanceMethod yX6_a, .selects RX6 yX6_a yX6_a, .code yX6_a cX6_a 2 (some .long), .fieldLink RX6 17 "AchromatDeskModel" "indices" "[I", .constant RX6 48 (100000), .methodLink RX6 120 yX6_b, .instanceMethod yX6_b, .selects RX6 yX6_b yX6_b, .code yX6_b cX6_b 2 (some .long)] ++ wsX60)
def wsX6_compare : List Cond := .code yX6_compare cX6_compare 8 (some .long) :: ([])
def wsX6_isBefore_r1 : List Cond := [Cond.methodLink RX6 150 yX6_spectrum, Cond.instanceMethod yX6_spectrum, Cond.selects RX6 yX6_spectrum yX6_spectrum, Cond.initialized RX6, Cond.code yX6_spectrum cX6_spectrum 3 (some .long), Cond.methodLink RX6 125 yX6_d, Cond.instanceMethod yX6_d, Cond.selects RX6 yX6_d yX6_d, Cond.code yX6_d cX6_d 2 (some .long), Cond.fieldLink RX6 17 "AchromatDeskModel" "indices" "[I", Cond.methodLink RX6 120 yX6_b, Cond.instanceMethod yX6_b, Cond.selects RX6 yX6_b yX6_b, Cond.code yX6_b cX6_b 2 (some .long), Cond.methodLink RX6 153 yX6_size, Cond.static yX6_size, Cond.code yX6_size cX6_size 2 (some .long), Cond.methodLink RX6 140 yX6_e, Cond.instanceMethod yX6_e, Cond.selects RX6 yX6_e yX6_e, Cond.code yX6_e cX6_e 3 (some .long), Cond.methodLink RX6 117 yX6_a, Cond.instanceMethod yX6_a, Cond.selects RX6 yX6_a yX6_a]
def wsX6_isBefore_r2 : List Cond := [Cond.code yX6_a cX6_a 2 (some .long), Cond.constant RX6 48 (100000), Cond.methodLink RX6 157 yX6_compare, Cond.static yX6_compare, Cond.code yX6_compare cX6_compare 8 (some .long), Cond.methodLink RX6 161 yX6_strain, Cond.instanceMethod yX6_strain, Cond.selects RX6 yX6_strain yX6_strain, Cond.code yX6_strain cX6_strain 3 (some .long)]
def wsX6_isBefore : List Cond := .code yX6_isBefore cX6_isBefore 14 (some .boolean) :: ((wsX6_isBefore_r1 ++ wsX6_isBefore_r2) ++ wsX60)
def wsX6_findNext_r1 : List Cond := [Cond.fieldLink RX6 35 "AchromatDeskModel" "glasses" "I", Cond.fieldLink RX6 168 "AchromatDeskModel" "one" "I", Cond.fieldLink RX6 171 "AchromatDeskModel" "other" "I", Cond.methodLink RX6 164 yX6_isDoublet, Cond.instanceMethod yX6_isDoublet, Cond.selects RX6 yX6_isDoublet yX6_isDoublet, Cond.initialized RX6, Cond.code yX6_isDoublet cX6_isDoublet 3 (some .boolean), Cond.methodLink RX6 140 yX6_e, Cond.instanceMethod yX6_e, Cond.selects RX6 yX6_e yX6_e, Cond.code yX6_e cX6_e 3 (some .long), Cond.methodLink RX6 117 yX6_a, Cond.instanceMethod yX6_a, Cond.selects RX6 yX6_a yX6_a, Cond.code yX6_a cX6_a 2 (some .long), Cond.fieldLink RX6 17 "AchromatDeskModel" "indices" "[I", Cond.constant RX6 48 (100000), Cond.methodLink RX6 120 yX6_b, Cond.instanceMethod yX6_b, Cond.selects RX6 yX6_b yX6_b, Cond.code yX6_b cX6_b 2 (some .long), Cond.methodLink RX6 174 yX6_isBefore, Cond.instanceMethod yX6_isBefore]
def wsX6_findNext_r2 : List Cond := [Cond.selects RX6 yX6_isBefore yX6_isBefore, Cond.code yX6_isBefore cX6_isBefore 14 (some .boolean), Cond.methodLink RX6 150 yX6_spectrum, Cond.instanceMethod yX6_spectrum, Cond.selects RX6 yX6_spectrum yX6_spectrum, Cond.code yX6_spectrum cX6_spectrum 3 (some .long), Cond.methodLink RX6 125 yX6_d, Cond.instanceMethod yX6_d, Cond.selects RX6 yX6_d yX6_d, Cond.code yX6_d cX6_d 2 (some .long), Cond.methodLink RX6 153 yX6_size, Cond.static yX6_size, Cond.code yX6_size cX6_size 2 (some .long), Cond.methodLink RX6 157 yX6_compare, Cond.static yX6_compare, Cond.code yX6_compare cX6_compare 8 (some .long), Cond.methodLink RX6 161 yX6_strain, Cond.instanceMethod yX6_strain, Cond.selects RX6 yX6_strain yX6_strain, Cond.code yX6_strain cX6_strain 3 (some .long)]
def wsX6_findNext : List Cond := .code yX6_findNext cX6_findNext 7 none :: ((wsX6_findNext_r1 ++ wsX6_findNext_r2) ++ wsX60)
def wsX6_doublets : List Cond := .code yX6_doublets cX6_doublets 5 (some .long) :: ([.fieldLink RX6 35 "AchromatDeskModel" "glasses" "I", .methodLink RX6 164 yX6_isDoublet, .instanceMethod yX6_isDoublet, .selects RX6 yX6_isDoublet yX6_isDoublet, .initialized RX6, .code yX6_isDoublet cX6_isDoublet 3 (some .boolean), .methodLink RX6 140 yX6_e, .instanceMethod yX6_e, .selects RX6 yX6_e yX6_e, .code yX6_e cX6_e 3 (some .long), .methodLink RX6 117 yX6_a, .instanceMethod yX6_a, .selects RX6 yX6_a yX6_a, .code yX6_a cX6_a 2 (some .long), .fieldLink RX6 17 "AchromatDeskModel" "indices" "[I", .constant RX6 48 (100000), .methodLink RX6 120 yX6_b, .instanceMethod yX6_b, .selects RX6 yX6_b yX6_b, .code yX6_b cX6_b 2 (some .long)] ++ wsX60)
def wsX6_doubletNow_r1 : List Cond := [Cond.constantLong RX6 134 (-9000000000000000008), Cond.fieldLink RX6 168 "AchromatDeskModel" "one" "I", Cond.constantLong RX6 186 (100), Cond.fieldLink RX6 171 "AchromatDeskModel" "other" "I", Cond.methodLink RX6 178 yX6_doublets, Cond.instanceMethod yX6_doublets, Cond.selects RX6 yX6_doublets yX6_doublets, Cond.initialized RX6, Cond.code yX6_doublets cX6_doublets 5 (some .long), Cond.fieldLink RX6 35 "AchromatDeskModel" "glasses" "I", Cond.methodLink RX6 164 yX6_isDoublet, Cond.instanceMethod yX6_isDoublet, Cond.selects RX6 yX6_isDoublet yX6_isDoublet, Cond.code yX6_isDoublet cX6_isDoublet 3 (some .boolean), Cond.methodLink RX6 140 yX6_e, Cond.instanceMethod yX6_e, Cond.selects RX6 yX6_e yX6_e, Cond.code yX6_e cX6_e 3 (some .long), Cond.methodLink RX6 117 yX6_a, Cond.instanceMethod yX6_a, Cond.selects RX6 yX6_a yX6_a, Cond.code yX6_a cX6_a 2 (some .long), Cond.fieldLink RX6 17 "AchromatDeskModel" "indices" "[I", Cond.constant RX6 48 (100000)]
def wsX6_doubletNow_r2 : List Cond := [Cond.methodLink RX6 120 yX6_b, Cond.instanceMethod yX6_b, Cond.selects RX6 yX6_b yX6_b, Cond.code yX6_b cX6_b 2 (some .long), Cond.methodLink RX6 39 yX6_within, Cond.static yX6_within, Cond.code yX6_within cX6_within 6 (some .boolean), Cond.methodLink RX6 182 yX6_findNext, Cond.instanceMethod yX6_findNext, Cond.selects RX6 yX6_findNext yX6_findNext, Cond.code yX6_findNext cX6_findNext 7 none, Cond.methodLink RX6 174 yX6_isBefore, Cond.instanceMethod yX6_isBefore, Cond.selects RX6 yX6_isBefore yX6_isBefore, Cond.code yX6_isBefore cX6_isBefore 14 (some .boolean), Cond.methodLink RX6 150 yX6_spectrum, Cond.instanceMethod yX6_spectrum, Cond.selects RX6 yX6_spectrum yX6_spectrum, Cond.code yX6_spectrum cX6_spectrum 3 (some .long), Cond.methodLink RX6 125 yX6_d, Cond.instanceMethod yX6_d, Cond.selects RX6 yX6_d yX6_d, Cond.code yX6_d cX6_d 2 (some .long), Cond.methodLink RX6 153 yX6_size]
def wsX6_doubletNow_r3 : List Cond := [Cond.static yX6_size, Cond.code yX6_size cX6_size 2 (some .long), Cond.methodLink RX6 157 yX6_compare, Cond.static yX6_compare, Cond.code yX6_compare cX6_compare 8 (some .long), Cond.methodLink RX6 161 yX6_strain, Cond.instanceMethod yX6_strain, Cond.selects RX6 yX6_strain yX6_strain, Cond.code yX6_strain cX6_strain 3 (some .long)]
def wsX6_doubletNow : List Cond := .code yX6_doubletNow cX6_doubletNow 4 (some .long) :: ((wsX6_doubletNow_r1 ++ (wsX6_doubletNow_r2 ++ wsX6_doubletNow_r3)) ++ wsX60)
def wsX6_doubletAt_r1 : List Cond := [Cond.methodLink RX6 188 yX6_doubletNow, Cond.instanceMethod yX6_doubletNow, Cond.selects RX6 yX6_doubletNow yX6_doubletNow, Cond.initialized RX6, Cond.code yX6_doubletNow cX6_doubletNow 4 (some .long), Cond.constantLong RX6 134 (-9000000000000000008), Cond.fieldLink RX6 168 "AchromatDeskModel" "one" "I", Cond.constantLong RX6 186 (100), Cond.fieldLink RX6 171 "AchromatDeskModel" "other" "I", Cond.methodLink RX6 178 yX6_doublets, Cond.instanceMethod yX6_doublets, Cond.selects RX6 yX6_doublets yX6_doublets, Cond.code yX6_doublets cX6_doublets 5 (some .long), Cond.fieldLink RX6 35 "AchromatDeskModel" "glasses" "I", Cond.methodLink RX6 164 yX6_isDoublet, Cond.instanceMethod yX6_isDoublet, Cond.selects RX6 yX6_isDoublet yX6_isDoublet, Cond.code yX6_isDoublet cX6_isDoublet 3 (some .boolean), Cond.methodLink RX6 140 yX6_e, Cond.instanceMethod yX6_e, Cond.selects RX6 yX6_e yX6_e, Cond.code yX6_e cX6_e 3 (some .long), Cond.methodLink RX6 117 yX6_a, Cond.instanceMethod yX6_a]
def wsX6_doubletAt_r2 : List Cond := [Cond.selects RX6 yX6_a yX6_a, Cond.code yX6_a cX6_a 2 (some .long), Cond.fieldLink RX6 17 "AchromatDeskModel" "indices" "[I", Cond.constant RX6 48 (100000), Cond.methodLink RX6 120 yX6_b, Cond.instanceMethod yX6_b, Cond.selects RX6 yX6_b yX6_b, Cond.code yX6_b cX6_b 2 (some .long), Cond.methodLink RX6 39 yX6_within, Cond.static yX6_within, Cond.code yX6_within cX6_within 6 (some .boolean), Cond.methodLink RX6 182 yX6_findNext, Cond.instanceMethod yX6_findNext, Cond.selects RX6 yX6_findNext yX6_findNext, Cond.code yX6_findNext cX6_findNext 7 none, Cond.methodLink RX6 174 yX6_isBefore, Cond.instanceMethod yX6_isBefore, Cond.selects RX6 yX6_isBefore yX6_isBefore, Cond.code yX6_isBefore cX6_isBefore 14 (some .boolean), Cond.methodLink RX6 150 yX6_spectrum, Cond.instanceMethod yX6_spectrum, Cond.selects RX6 yX6_spectrum yX6_spectrum, Cond.code yX6_spectrum cX6_spectrum 3 (some .long), Cond.methodLink RX6 125 yX6_d]
def wsX6_doubletAt_r3 : List Cond := [Cond.instanceMethod yX6_d, Cond.selects RX6 yX6_d yX6_d, Cond.code yX6_d cX6_d 2 (some .long), Cond.methodLink RX6 153 yX6_size, Cond.static yX6_size, Cond.code yX6_size cX6_size 2 (some .long), Cond.methodLink RX6 157 yX6_compare, Cond.static yX6_compare, Cond.code yX6_compare cX6_compare 8 (some .long), Cond.methodLink RX6 161 yX6_strain, Cond.instanceMethod yX6_strain, Cond.selects RX6 yX6_strain yX6_strain, Cond.code yX6_strain cX6_strain 3 (some .long)]
def wsX6_doubletAt : List Cond := .code yX6_doubletAt cX6_doubletAt 3 (some .long) :: ((wsX6_doubletAt_r1 ++ (wsX6_doubletAt_r2 ++ wsX6_doubletAt_r3)) ++ wsX60)
def wsX6_doubletCount : List Cond := .code yX6_doubletCount cX6_doubletCount 1 (some .long) :: ([.methodLink RX6 178 yX6_doublets, .instanceMethod yX6_doublets, .selects RX6 yX6_doublets yX6_doublets, .initialized RX6, .code yX6_doublets cX6_doublets 5 (some .long), .fieldLink RX6 35 "AchromatDeskModel" "glasses" "I", .methodLink RX6 164 yX6_isDoublet, .instanceMethod yX6_isDoublet, .selects RX6 yX6_isDoublet yX6_isDoublet, .code yX6_isDoublet cX6_isDoublet 3 (some .boolean), .methodLink RX6 140 yX6_e, .instanceMethod yX6_e, .selects RX6 yX6_e yX6_e, .code yX6_e cX6_e 3 (some .long), .methodLink RX6 117 yX6_a, .instanceMethod yX6_a, .selects RX6 yX6_a yX6_a, .code yX6_a cX6_a 2 (some .long), .fieldLink RX6 17 "AchromatDeskModel" "indices" "[I", .constant RX6 48 (100000), .methodLink RX6 120 yX6_b, .instanceMethod yX6_b, .selects RX6 yX6_b yX6_b, .code yX6_b cX6_b 2 (some .long)] ++ wsX60)
def wsX6_x : List Cond := .code yX6_x cX6_x 3 (some .long) :: ([.methodLink RX6 120 yX6_b, .instanceMethod yX6_b, .selects RX6 yX6_b yX6_b, .initialized RX6, .code yX6_b cX6_b 2 (some .long), .fieldLink RX6 17 "AchromatDeskModel" "indices" "[I", .methodLink RX6 125 yX6_d, .instanceMethod yX6_d, .selects RX6 yX6_d yX6_d, .code yX6_d cX6_d 2 (some .long)] ++ wsX60)
def wsX6_t : List Cond := .code yX6_t cX6_t 4 (some .long) :: ([.methodLink RX6 117 yX6_a, .instanceMethod yX6_a, .selects RX6 yX6_a yX6_a, .initialized RX6, .code yX6_a cX6_a 2 (some .long), .fieldLink RX6 17 "AchromatDeskModel" "indices" "[I", .constant RX6 48 (100000), .methodLink RX6 192 yX6_x, .instanceMethod yX6_x, .selects RX6 yX6_x yX6_x, .code yX6_x cX6_x 3 (some .long), .methodLink RX6 120 yX6_b, .instanceMethod yX6_b, .selects RX6 yX6_b yX6_b, .code yX6_b cX6_b 2 (some .long), .methodLink RX6 125 yX6_d, .instanceMethod yX6_d, .selects RX6 yX6_d yX6_d, .code yX6_d cX6_d 2 (some .long)] ++ wsX60)
def wsX6_tripletNow_r1 : List Cond := [Cond.methodLink RX6 117 yX6_a, Cond.instanceMethod yX6_a, Cond.selects RX6 yX6_a yX6_a, Cond.initialized RX6, Cond.code yX6_a cX6_a 2 (some .long), Cond.fieldLink RX6 17 "AchromatDeskModel" "indices" "[I", Cond.constant RX6 48 (100000), Cond.methodLink RX6 192 yX6_x, Cond.instanceMethod yX6_x, Cond.selects RX6 yX6_x yX6_x, Cond.code yX6_x cX6_x 3 (some .long), Cond.methodLink RX6 120 yX6_b, Cond.instanceMethod yX6_b, Cond.selects RX6 yX6_b yX6_b, Cond.code yX6_b cX6_b 2 (some .long), Cond.methodLink RX6 125 yX6_d, Cond.instanceMethod yX6_d, Cond.selects RX6 yX6_d yX6_d, Cond.code yX6_d cX6_d 2 (some .long), Cond.methodLink RX6 195 yX6_t, Cond.instanceMethod yX6_t, Cond.selects RX6 yX6_t yX6_t, Cond.code yX6_t cX6_t 4 (some .long), Cond.methodLink RX6 144 yX6_floor]
def wsX6_tripletNow_r2 : List Cond := [Cond.static yX6_floor, Cond.code yX6_floor cX6_floor 6 (some .long)]
def wsX6_tripletNow : List Cond := .code yX6_tripletNow cX6_tripletNow 8 (some .long) :: ((wsX6_tripletNow_r1 ++ wsX6_tripletNow_r2) ++ wsX60)
def wsX6_tripletPower_r1 : List Cond := [Cond.constantLong RX6 104 (-9000000000000000002), Cond.constantLong RX6 98 (-9000000000000000006), Cond.constantLong RX6 136 (-10000), Cond.constantLong RX6 138 (10000), Cond.constantLong RX6 46 (2), Cond.constantLong RX6 53 (-9000000000000000001), Cond.constantLong RX6 134 (-9000000000000000008), Cond.methodLink RX6 100 yX6_isGlass, Cond.instanceMethod yX6_isGlass, Cond.selects RX6 yX6_isGlass yX6_isGlass, Cond.initialized RX6, Cond.code yX6_isGlass cX6_isGlass 2 (some .boolean), Cond.fieldLink RX6 35 "AchromatDeskModel" "glasses" "I", Cond.methodLink RX6 39 yX6_within, Cond.static yX6_within, Cond.code yX6_within cX6_within 6 (some .boolean), Cond.methodLink RX6 195 yX6_t, Cond.instanceMethod yX6_t, Cond.selects RX6 yX6_t yX6_t, Cond.code yX6_t cX6_t 4 (some .long), Cond.methodLink RX6 117 yX6_a, Cond.instanceMethod yX6_a, Cond.selects RX6 yX6_a yX6_a, Cond.code yX6_a cX6_a 2 (some .long)]
def wsX6_tripletPower_r2 : List Cond := [Cond.fieldLink RX6 17 "AchromatDeskModel" "indices" "[I", Cond.constant RX6 48 (100000), Cond.methodLink RX6 192 yX6_x, Cond.instanceMethod yX6_x, Cond.selects RX6 yX6_x yX6_x, Cond.code yX6_x cX6_x 3 (some .long), Cond.methodLink RX6 120 yX6_b, Cond.instanceMethod yX6_b, Cond.selects RX6 yX6_b yX6_b, Cond.code yX6_b cX6_b 2 (some .long), Cond.methodLink RX6 125 yX6_d, Cond.instanceMethod yX6_d, Cond.selects RX6 yX6_d yX6_d, Cond.code yX6_d cX6_d 2 (some .long), Cond.methodLink RX6 199 yX6_tripletNow, Cond.instanceMethod yX6_tripletNow, Cond.selects RX6 yX6_tripletNow yX6_tripletNow, Cond.code yX6_tripletNow cX6_tripletNow 8 (some .long), Cond.methodLink RX6 144 yX6_floor, Cond.static yX6_floor, Cond.code yX6_floor cX6_floor 6 (some .long)]
def wsX6_tripletPower : List Cond := .code yX6_tripletPower cX6_tripletPower 6 (some .long) :: ((wsX6_tripletPower_r1 ++ wsX6_tripletPower_r2) ++ wsX60)
def wsX6_strongest_r1 : List Cond := [Cond.methodLink RX6 199 yX6_tripletNow, Cond.instanceMethod yX6_tripletNow, Cond.selects RX6 yX6_tripletNow yX6_tripletNow, Cond.initialized RX6, Cond.code yX6_tripletNow cX6_tripletNow 8 (some .long), Cond.methodLink RX6 117 yX6_a, Cond.instanceMethod yX6_a, Cond.selects RX6 yX6_a yX6_a, Cond.code yX6_a cX6_a 2 (some .long), Cond.fieldLink RX6 17 "AchromatDeskModel" "indices" "[I", Cond.constant RX6 48 (100000), Cond.methodLink RX6 192 yX6_x, Cond.instanceMethod yX6_x, Cond.selects RX6 yX6_x yX6_x, Cond.code yX6_x cX6_x 3 (some .long), Cond.methodLink RX6 120 yX6_b, Cond.instanceMethod yX6_b, Cond.selects RX6 yX6_b yX6_b, Cond.code yX6_b cX6_b 2 (some .long), Cond.methodLink RX6 125 yX6_d, Cond.instanceMethod yX6_d, Cond.selects RX6 yX6_d yX6_d, Cond.code yX6_d cX6_d 2 (some .long), Cond.methodLink RX6 195 yX6_t]
def wsX6_strongest_r2 : List Cond := [Cond.instanceMethod yX6_t, Cond.selects RX6 yX6_t yX6_t, Cond.code yX6_t cX6_t 4 (some .long), Cond.methodLink RX6 144 yX6_floor, Cond.static yX6_floor, Cond.code yX6_floor cX6_floor 6 (some .long), Cond.methodLink RX6 153 yX6_size, Cond.static yX6_size, Cond.code yX6_size cX6_size 2 (some .long)]
def wsX6_strongest : List Cond := .code yX6_strongest cX6_strongest 9 (some .long) :: ((wsX6_strongest_r1 ++ wsX6_strongest_r2) ++ wsX60)
def wsX6_tripletBest_r1 : List Cond := [Cond.constantLong RX6 134 (-9000000000000000008), Cond.fieldLink RX6 35 "AchromatDeskModel" "glasses" "I", Cond.constantLong RX6 203 (-1), Cond.constantLong RX6 138 (10000), Cond.constantLong RX6 186 (100), Cond.methodLink RX6 195 yX6_t, Cond.instanceMethod yX6_t, Cond.selects RX6 yX6_t yX6_t, Cond.initialized RX6, Cond.code yX6_t cX6_t 4 (some .long), Cond.methodLink RX6 117 yX6_a, Cond.instanceMethod yX6_a, Cond.selects RX6 yX6_a yX6_a, Cond.code yX6_a cX6_a 2 (some .long), Cond.fieldLink RX6 17 "AchromatDeskModel" "indices" "[I", Cond.constant RX6 48 (100000), Cond.methodLink RX6 192 yX6_x, Cond.instanceMethod yX6_x, Cond.selects RX6 yX6_x yX6_x, Cond.code yX6_x cX6_x 3 (some .long), Cond.methodLink RX6 120 yX6_b, Cond.instanceMethod yX6_b, Cond.selects RX6 yX6_b yX6_b, Cond.code yX6_b cX6_b 2 (some .long)]
def wsX6_tripletBest_r2 : List Cond := [Cond.methodLink RX6 125 yX6_d, Cond.instanceMethod yX6_d, Cond.selects RX6 yX6_d yX6_d, Cond.code yX6_d cX6_d 2 (some .long), Cond.methodLink RX6 205 yX6_strongest, Cond.instanceMethod yX6_strongest, Cond.selects RX6 yX6_strongest yX6_strongest, Cond.code yX6_strongest cX6_strongest 9 (some .long), Cond.methodLink RX6 199 yX6_tripletNow, Cond.instanceMethod yX6_tripletNow, Cond.selects RX6 yX6_tripletNow yX6_tripletNow, Cond.code yX6_tripletNow cX6_tripletNow 8 (some .long), Cond.methodLink RX6 144 yX6_floor, Cond.static yX6_floor, Cond.code yX6_floor cX6_floor 6 (some .long), Cond.methodLink RX6 153 yX6_size, Cond.static yX6_size, Cond.code yX6_size cX6_size 2 (some .long)]
def wsX6_tripletBest : List Cond := .code yX6_tripletBest cX6_tripletBest 11 (some .long) :: ((wsX6_tripletBest_r1 ++ wsX6_tripletBest_r2) ++ wsX60)
def wsX6_bestTriplet_r1 : List Cond := [Cond.methodLink RX6 208 yX6_tripletBest, Cond.instanceMethod yX6_tripletBest, Cond.selects RX6 yX6_tripletBest yX6_tripletBest, Cond.initialized RX6, Cond.code yX6_tripletBest cX6_tripletBest 11 (some .long), Cond.constantLong RX6 134 (-9000000000000000008), Cond.fieldLink RX6 35 "AchromatDeskModel" "glasses" "I", Cond.constantLong RX6 203 (-1), Cond.constantLong RX6 138 (10000), Cond.constantLong RX6 186 (100), Cond.methodLink RX6 195 yX6_t, Cond.instanceMethod yX6_t, Cond.selects RX6 yX6_t yX6_t, Cond.code yX6_t cX6_t 4 (some .long), Cond.methodLink RX6 117 yX6_a, Cond.instanceMethod yX6_a, Cond.selects RX6 yX6_a yX6_a, Cond.code yX6_a cX6_a 2 (some .long), Cond.fieldLink RX6 17 "AchromatDeskModel" "indices" "[I", Cond.constant RX6 48 (100000), Cond.methodLink RX6 192 yX6_x, Cond.instanceMethod yX6_x, Cond.selects RX6 yX6_x yX6_x, Cond.code yX6_x cX6_x 3 (some .long)]
def wsX6_bestTriplet_r2 : List Cond := [Cond.methodLink RX6 120 yX6_b, Cond.instanceMethod yX6_b, Cond.selects RX6 yX6_b yX6_b, Cond.code yX6_b cX6_b 2 (some .long), Cond.methodLink RX6 125 yX6_d, Cond.instanceMethod yX6_d, Cond.selects RX6 yX6_d yX6_d, Cond.code yX6_d cX6_d 2 (some .long), Cond.methodLink RX6 205 yX6_strongest, Cond.instanceMethod yX6_strongest, Cond.selects RX6 yX6_strongest yX6_strongest, Cond.code yX6_strongest cX6_strongest 9 (some .long), Cond.methodLink RX6 199 yX6_tripletNow, Cond.instanceMethod yX6_tripletNow, Cond.selects RX6 yX6_tripletNow yX6_tripletNow, Cond.code yX6_tripletNow cX6_tripletNow 8 (some .long), Cond.methodLink RX6 144 yX6_floor, Cond.static yX6_floor, Cond.code yX6_floor cX6_floor 6 (some .long), Cond.methodLink RX6 153 yX6_size, Cond.static yX6_size, Cond.code yX6_size cX6_size 2 (some .long)]
def wsX6_bestTriplet : List Cond := .code yX6_bestTriplet cX6_bestTriplet 1 (some .long) :: ((wsX6_bestTriplet_r1 ++ wsX6_bestTriplet_r2) ++ wsX60)
def wsX6_addLens : List Cond := .code yX6_addLens cX6_addLens 3 (some .long) :: ([.constantLong RX6 104 (-9000000000000000002), .constantLong RX6 211 (-10000000), .constantLong RX6 213 (10000000), .constantLong RX6 53 (-9000000000000000001), .fieldLink RX6 43 "AchromatDeskModel" "lenses" "I", .constantLong RX6 58 (-9000000000000000004), .fieldLink RX6 20 "AchromatDeskModel" "glassOf" "[I", .fieldLink RX6 23 "AchromatDeskModel" "powerOf" "[I", .methodLink RX6 100 yX6_isGlass, .instanceMethod yX6_isGlass, .selects RX6 yX6_isGlass yX6_isGlass, .initialized RX6, .code yX6_isGlass cX6_isGlass 2 (some .boolean), .fieldLink RX6 35 "AchromatDeskModel" "glasses" "I", .methodLink RX6 39 yX6_within, .static yX6_within, .code yX6_within cX6_within 6 (some .boolean)] ++ wsX60)
def wsX6_removeLens : List Cond := .code yX6_removeLens cX6_removeLens 3 (some .long) :: ([.constantLong RX6 218 (-9000000000000000003), .fieldLink RX6 43 "AchromatDeskModel" "lenses" "I", .fieldLink RX6 20 "AchromatDeskModel" "glassOf" "[I", .fieldLink RX6 23 "AchromatDeskModel" "powerOf" "[I", .methodLink RX6 215 yX6_isLens, .instanceMethod yX6_isLens, .selects RX6 yX6_isLens yX6_isLens, .initialized RX6, .code yX6_isLens cX6_isLens 2 (some .boolean), .methodLink RX6 39 yX6_within, .static yX6_within, .code yX6_within cX6_within 6 (some .boolean)] ++ wsX60)
def wsX6_lensCount : List Cond := .code yX6_lensCount cX6_lensCount 1 (some .long) :: ([.fieldLink RX6 43 "AchromatDeskModel" "lenses" "I"] ++ wsX60)
def wsX6_lensPower : List Cond := .code yX6_lensPower cX6_lensPower 4 (some .long) :: ([.fieldLink RX6 23 "AchromatDeskModel" "powerOf" "[I", .constantLong RX6 115 (1000), .fieldLink RX6 17 "AchromatDeskModel" "indices" "[I", .constant RX6 48 (100000), .fieldLink RX6 20 "AchromatDeskModel" "glassOf" "[I", .methodLink RX6 117 yX6_a, .instanceMethod yX6_a, .selects RX6 yX6_a yX6_a, .initialized RX6, .code yX6_a cX6_a 2 (some .long), .methodLink RX6 144 yX6_floor, .static yX6_floor, .code yX6_floor cX6_floor 6 (some .long)] ++ wsX60)
def wsX6_systemNow : List Cond := .code yX6_systemNow cX6_systemNow 5 (some .long) :: ([.fieldLink RX6 43 "AchromatDeskModel" "lenses" "I", .fieldLink RX6 20 "AchromatDeskModel" "glassOf" "[I", .methodLink RX6 220 yX6_lensPower, .instanceMethod yX6_lensPower, .selects RX6 yX6_lensPower yX6_lensPower, .initialized RX6, .code yX6_lensPower cX6_lensPower 4 (some .long), .fieldLink RX6 23 "AchromatDeskModel" "powerOf" "[I", .constantLong RX6 115 (1000), .fieldLink RX6 17 "AchromatDeskModel" "indices" "[I", .constant RX6 48 (100000), .methodLink RX6 117 yX6_a, .instanceMethod yX6_a, .selects RX6 yX6_a yX6_a, .code yX6_a cX6_a 2 (some .long), .methodLink RX6 144 yX6_floor, .static yX6_floor, .code yX6_floor cX6_floor 6 (some .long)] ++ wsX60)
def wsX6_systemPower_r1 : List Cond := [Cond.constantLong RX6 53 (-9000000000000000001), Cond.methodLink RX6 108 yX6_isColour, Cond.static yX6_isColour, Cond.initialized RX6, Cond.code yX6_isColour cX6_isColour 1 (some .boolean), Cond.constantLong RX6 46 (2), Cond.methodLink RX6 39 yX6_within, Cond.static yX6_within, Cond.code yX6_within cX6_within 6 (some .boolean), Cond.methodLink RX6 223 yX6_systemNow, Cond.instanceMethod yX6_systemNow, Cond.selects RX6 yX6_systemNow yX6_systemNow, Cond.code yX6_systemNow cX6_systemNow 5 (some .long), Cond.fieldLink RX6 43 "AchromatDeskModel" "lenses" "I", Cond.fieldLink RX6 20 "AchromatDeskModel" "glassOf" "[I", Cond.methodLink RX6 220 yX6_lensPower, Cond.instanceMethod yX6_lensPower, Cond.selects RX6 yX6_lensPower yX6_lensPower, Cond.code yX6_lensPower cX6_lensPower 4 (some .long), Cond.fieldLink RX6 23 "AchromatDeskModel" "powerOf" "[I", Cond.constantLong RX6 115 (1000), Cond.fieldLink RX6 17 "AchromatDeskModel" "indices" "[I", Cond.constant RX6 48 (100000), Cond.methodLink RX6 117 yX6_a]
def wsX6_systemPower_r2 : List Cond := [Cond.instanceMethod yX6_a, Cond.selects RX6 yX6_a yX6_a, Cond.code yX6_a cX6_a 2 (some .long), Cond.methodLink RX6 144 yX6_floor, Cond.static yX6_floor, Cond.code yX6_floor cX6_floor 6 (some .long)]
def wsX6_systemPower : List Cond := .code yX6_systemPower cX6_systemPower 2 (some .long) :: ((wsX6_systemPower_r1 ++ wsX6_systemPower_r2) ++ wsX60)
def wsX6_balanceNow_r1 : List Cond := [Cond.constantLong RX6 115 (1000), Cond.methodLink RX6 223 yX6_systemNow, Cond.instanceMethod yX6_systemNow, Cond.selects RX6 yX6_systemNow yX6_systemNow, Cond.initialized RX6, Cond.code yX6_systemNow cX6_systemNow 5 (some .long), Cond.fieldLink RX6 43 "AchromatDeskModel" "lenses" "I", Cond.fieldLink RX6 20 "AchromatDeskModel" "glassOf" "[I", Cond.methodLink RX6 220 yX6_lensPower, Cond.instanceMethod yX6_lensPower, Cond.selects RX6 yX6_lensPower yX6_lensPower, Cond.code yX6_lensPower cX6_lensPower 4 (some .long), Cond.fieldLink RX6 23 "AchromatDeskModel" "powerOf" "[I", Cond.fieldLink RX6 17 "AchromatDeskModel" "indices" "[I", Cond.constant RX6 48 (100000), Cond.methodLink RX6 117 yX6_a, Cond.instanceMethod yX6_a, Cond.selects RX6 yX6_a yX6_a, Cond.code yX6_a cX6_a 2 (some .long), Cond.methodLink RX6 144 yX6_floor, Cond.static yX6_floor, Cond.code yX6_floor cX6_floor 6 (some .long), Cond.methodLink RX6 120 yX6_b, Cond.instanceMethod yX6_b]
def wsX6_balanceNow_r2 : List Cond := [Cond.selects RX6 yX6_b yX6_b, Cond.code yX6_b cX6_b 2 (some .long)]
def wsX6_balanceNow : List Cond := .code yX6_balanceNow cX6_balanceNow 4 (some .long) :: ((wsX6_balanceNow_r1 ++ wsX6_balanceNow_r2) ++ wsX60)
def wsX6_balancePower_r1 : List Cond := [Cond.constantLong RX6 104 (-9000000000000000002), Cond.methodLink RX6 100 yX6_isGlass, Cond.instanceMethod yX6_isGlass, Cond.selects RX6 yX6_isGlass yX6_isGlass, Cond.initialized RX6, Cond.code yX6_isGlass cX6_isGlass 2 (some .boolean), Cond.fieldLink RX6 35 "AchromatDeskModel" "glasses" "I", Cond.methodLink RX6 39 yX6_within, Cond.static yX6_within, Cond.code yX6_within cX6_within 6 (some .boolean), Cond.methodLink RX6 226 yX6_balanceNow, Cond.instanceMethod yX6_balanceNow, Cond.selects RX6 yX6_balanceNow yX6_balanceNow, Cond.code yX6_balanceNow cX6_balanceNow 4 (some .long), Cond.constantLong RX6 115 (1000), Cond.methodLink RX6 223 yX6_systemNow, Cond.instanceMethod yX6_systemNow, Cond.selects RX6 yX6_systemNow yX6_systemNow, Cond.code yX6_systemNow cX6_systemNow 5 (some .long), Cond.fieldLink RX6 43 "AchromatDeskModel" "lenses" "I", Cond.fieldLink RX6 20 "AchromatDeskModel" "glassOf" "[I", Cond.methodLink RX6 220 yX6_lensPower, Cond.instanceMethod yX6_lensPower, Cond.selects RX6 yX6_lensPower yX6_lensPower]
def wsX6_balancePower_r2 : List Cond := [Cond.code yX6_lensPower cX6_lensPower 4 (some .long), Cond.fieldLink RX6 23 "AchromatDeskModel" "powerOf" "[I", Cond.fieldLink RX6 17 "AchromatDeskModel" "indices" "[I", Cond.constant RX6 48 (100000), Cond.methodLink RX6 117 yX6_a, Cond.instanceMethod yX6_a, Cond.selects RX6 yX6_a yX6_a, Cond.code yX6_a cX6_a 2 (some .long), Cond.methodLink RX6 144 yX6_floor, Cond.static yX6_floor, Cond.code yX6_floor cX6_floor 6 (some .long), Cond.methodLink RX6 120 yX6_b, Cond.instanceMethod yX6_b, Cond.selects RX6 yX6_b yX6_b, Cond.code yX6_b cX6_b 2 (some .long)]
def wsX6_balancePower : List Cond := .code yX6_balancePower cX6_balancePower 2 (some .long) :: ((wsX6_balancePower_r1 ++ wsX6_balancePower_r2) ++ wsX60)
def wsX6_miss_r1 : List Cond := [Cond.fieldLink RX6 20 "AchromatDeskModel" "glassOf" "[I", Cond.fieldLink RX6 32 "AchromatDeskModel" "measured" "[J", Cond.methodLink RX6 223 yX6_systemNow, Cond.instanceMethod yX6_systemNow, Cond.selects RX6 yX6_systemNow yX6_systemNow, Cond.initialized RX6, Cond.code yX6_systemNow cX6_systemNow 5 (some .long), Cond.fieldLink RX6 43 "AchromatDeskModel" "lenses" "I", Cond.methodLink RX6 220 yX6_lensPower, Cond.instanceMethod yX6_lensPower, Cond.selects RX6 yX6_lensPower yX6_lensPower, Cond.code yX6_lensPower cX6_lensPower 4 (some .long), Cond.fieldLink RX6 23 "AchromatDeskModel" "powerOf" "[I", Cond.constantLong RX6 115 (1000), Cond.fieldLink RX6 17 "AchromatDeskModel" "indices" "[I", Cond.constant RX6 48 (100000), Cond.methodLink RX6 117 yX6_a, Cond.instanceMethod yX6_a, Cond.selects RX6 yX6_a yX6_a, Cond.code yX6_a cX6_a 2 (some .long), Cond.methodLink RX6 144 yX6_floor, Cond.static yX6_floor, Cond.code yX6_floor cX6_floor 6 (some .long), Cond.methodLink RX6 153 yX6_size]
def wsX6_miss_r2 : List Cond := [Cond.static yX6_size, Cond.code yX6_size cX6_size 2 (some .long)]
def wsX6_miss : List Cond := .code yX6_miss cX6_miss 6 (some .long) :: ((wsX6_miss_r1 ++ wsX6_miss_r2) ++ wsX60)
def wsX6_wrongNow_r1 : List Cond := [Cond.fieldLink RX6 43 "AchromatDeskModel" "lenses" "I", Cond.fieldLink RX6 35 "AchromatDeskModel" "glasses" "I", Cond.constantLong RX6 134 (-9000000000000000008), Cond.fieldLink RX6 32 "AchromatDeskModel" "measured" "[J", Cond.fieldLink RX6 20 "AchromatDeskModel" "glassOf" "[I", Cond.constantLong RX6 203 (-1), Cond.constantLong RX6 186 (100), Cond.methodLink RX6 229 yX6_miss, Cond.instanceMethod yX6_miss, Cond.selects RX6 yX6_miss yX6_miss, Cond.initialized RX6, Cond.code yX6_miss cX6_miss 6 (some .long), Cond.methodLink RX6 223 yX6_systemNow, Cond.instanceMethod yX6_systemNow, Cond.selects RX6 yX6_systemNow yX6_systemNow, Cond.code yX6_systemNow cX6_systemNow 5 (some .long), Cond.methodLink RX6 220 yX6_lensPower, Cond.instanceMethod yX6_lensPower, Cond.selects RX6 yX6_lensPower yX6_lensPower, Cond.code yX6_lensPower cX6_lensPower 4 (some .long), Cond.fieldLink RX6 23 "AchromatDeskModel" "powerOf" "[I", Cond.constantLong RX6 115 (1000), Cond.fieldLink RX6 17 "AchromatDeskModel" "indices" "[I", Cond.constant RX6 48 (100000)]
def wsX6_wrongNow_r2 : List Cond := [Cond.methodLink RX6 117 yX6_a, Cond.instanceMethod yX6_a, Cond.selects RX6 yX6_a yX6_a, Cond.code yX6_a cX6_a 2 (some .long), Cond.methodLink RX6 144 yX6_floor, Cond.static yX6_floor, Cond.code yX6_floor cX6_floor 6 (some .long), Cond.methodLink RX6 153 yX6_size, Cond.static yX6_size, Cond.code yX6_size cX6_size 2 (some .long)]
def wsX6_wrongNow : List Cond := .code yX6_wrongNow cX6_wrongNow 16 (some .long) :: ((wsX6_wrongNow_r1 ++ wsX6_wrongNow_r2) ++ wsX60)
def wsX6_isMeasured : List Cond := .code yX6_isMeasured cX6_isMeasured 2 (some .boolean) :: ([.constantLong RX6 232 (-1000000000000), .constantLong RX6 234 (1000000000000), .methodLink RX6 39 yX6_within, .static yX6_within, .initialized RX6, .code yX6_within cX6_within 6 (some .boolean)])
def wsX6_findWrongGlass_r1 : List Cond := [Cond.constantLong RX6 53 (-9000000000000000001), Cond.methodLink RX6 236 yX6_isMeasured, Cond.static yX6_isMeasured, Cond.initialized RX6, Cond.code yX6_isMeasured cX6_isMeasured 2 (some .boolean), Cond.constantLong RX6 232 (-1000000000000), Cond.constantLong RX6 234 (1000000000000), Cond.methodLink RX6 39 yX6_within, Cond.static yX6_within, Cond.code yX6_within cX6_within 6 (some .boolean), Cond.methodLink RX6 239 yX6_wrongNow, Cond.instanceMethod yX6_wrongNow, Cond.selects RX6 yX6_wrongNow yX6_wrongNow, Cond.code yX6_wrongNow cX6_wrongNow 16 (some .long), Cond.fieldLink RX6 43 "AchromatDeskModel" "lenses" "I", Cond.fieldLink RX6 35 "AchromatDeskModel" "glasses" "I", Cond.constantLong RX6 134 (-9000000000000000008), Cond.fieldLink RX6 32 "AchromatDeskModel" "measured" "[J", Cond.fieldLink RX6 20 "AchromatDeskModel" "glassOf" "[I", Cond.constantLong RX6 203 (-1), Cond.constantLong RX6 186 (100), Cond.methodLink RX6 229 yX6_miss, Cond.instanceMethod yX6_miss, Cond.selects RX6 yX6_miss yX6_miss]
def wsX6_findWrongGlass_r2 : List Cond := [Cond.code yX6_miss cX6_miss 6 (some .long), Cond.methodLink RX6 223 yX6_systemNow, Cond.instanceMethod yX6_systemNow, Cond.selects RX6 yX6_systemNow yX6_systemNow, Cond.code yX6_systemNow cX6_systemNow 5 (some .long), Cond.methodLink RX6 220 yX6_lensPower, Cond.instanceMethod yX6_lensPower, Cond.selects RX6 yX6_lensPower yX6_lensPower, Cond.code yX6_lensPower cX6_lensPower 4 (some .long), Cond.fieldLink RX6 23 "AchromatDeskModel" "powerOf" "[I", Cond.constantLong RX6 115 (1000), Cond.fieldLink RX6 17 "AchromatDeskModel" "indices" "[I", Cond.constant RX6 48 (100000), Cond.methodLink RX6 117 yX6_a, Cond.instanceMethod yX6_a, Cond.selects RX6 yX6_a yX6_a, Cond.code yX6_a cX6_a 2 (some .long), Cond.methodLink RX6 144 yX6_floor, Cond.static yX6_floor, Cond.code yX6_floor cX6_floor 6 (some .long), Cond.methodLink RX6 153 yX6_size, Cond.static yX6_size, Cond.code yX6_size cX6_size 2 (some .long)]
def wsX6_findWrongGlass : List Cond := .code yX6_findWrongGlass cX6_findWrongGlass 7 (some .long) :: ((wsX6_findWrongGlass_r1 ++ wsX6_findWrongGlass_r2) ++ wsX60)
def wsX6_addPlate : List Cond := .code yX6_addPlate cX6_addPlate 3 (some .long) :: ([.constantLong RX6 115 (1000), .constantLong RX6 148 (1000000), .constantLong RX6 53 (-9000000000000000001), .fieldLink RX6 243 "AchromatDeskModel" "plates" "I", .fieldLink RX6 26 "AchromatDeskModel" "radius" "[I", .constantLong RX6 98 (-9000000000000000006), .constantLong RX6 58 (-9000000000000000004), .methodLink RX6 39 yX6_within, .static yX6_within, .initialized RX6, .code yX6_within cX6_within 6 (some .boolean)] ++ wsX60)
def wsX6_plateCount : List Cond := .code yX6_plateCount cX6_plateCount 1 (some .long) :: ([.fieldLink RX6 243 "AchromatDeskModel" "plates" "I"] ++ wsX60)
def wsX6_nearestPlate : List Cond := .code yX6_nearestPlate cX6_nearestPlate 9 (some .long) :: ([.fieldLink RX6 243 "AchromatDeskModel" "plates" "I", .fieldLink RX6 26 "AchromatDeskModel" "radius" "[I", .constantLong RX6 134 (-9000000000000000008), .methodLink RX6 153 yX6_size, .static yX6_size, .initialized RX6, .code yX6_size cX6_size 2 (some .long)] ++ wsX60)
def wsX6_signed : List Cond := .code yX6_signed cX6_signed 3 (some .long) :: ([.fieldLink RX6 26 "AchromatDeskModel" "radius" "[I"] ++ wsX60)
def wsX6_surfaces : List Cond := .code yX6_surfaces cX6_surfaces 6 (some .long) :: ([.constantLong RX6 213 (10000000), .methodLink RX6 117 yX6_a, .instanceMethod yX6_a, .selects RX6 yX6_a yX6_a, .initialized RX6, .code yX6_a cX6_a 2 (some .long), .fieldLink RX6 17 "AchromatDeskModel" "indices" "[I", .constant RX6 48 (100000), .methodLink RX6 144 yX6_floor, .static yX6_floor, .code yX6_floor cX6_floor 6 (some .long)] ++ wsX60)
def wsX6_surfacesBest_r1 : List Cond := [Cond.constantLong RX6 134 (-9000000000000000008), Cond.fieldLink RX6 243 "AchromatDeskModel" "plates" "I", Cond.constantLong RX6 203 (-1), Cond.fieldLink RX6 20 "AchromatDeskModel" "glassOf" "[I", Cond.fieldLink RX6 23 "AchromatDeskModel" "powerOf" "[I", Cond.constantLong RX6 115 (1000), Cond.constantLong RX6 253 (10), Cond.methodLink RX6 246 yX6_signed, Cond.instanceMethod yX6_signed, Cond.selects RX6 yX6_signed yX6_signed, Cond.initialized RX6, Cond.code yX6_signed cX6_signed 3 (some .long), Cond.fieldLink RX6 26 "AchromatDeskModel" "radius" "[I", Cond.methodLink RX6 249 yX6_surfaces, Cond.instanceMethod yX6_surfaces, Cond.selects RX6 yX6_surfaces yX6_surfaces, Cond.code yX6_surfaces cX6_surfaces 6 (some .long), Cond.constantLong RX6 213 (10000000), Cond.methodLink RX6 117 yX6_a, Cond.instanceMethod yX6_a, Cond.selects RX6 yX6_a yX6_a, Cond.code yX6_a cX6_a 2 (some .long), Cond.fieldLink RX6 17 "AchromatDeskModel" "indices" "[I", Cond.constant RX6 48 (100000)]
def wsX6_surfacesBest_r2 : List Cond := [Cond.methodLink RX6 144 yX6_floor, Cond.static yX6_floor, Cond.code yX6_floor cX6_floor 6 (some .long), Cond.methodLink RX6 153 yX6_size, Cond.static yX6_size, Cond.code yX6_size cX6_size 2 (some .long)]
def wsX6_surfacesBest : List Cond := .code yX6_surfacesBest cX6_surfacesBest 15 (some .long) :: ((wsX6_surfacesBest_r1 ++ wsX6_surfacesBest_r2) ++ wsX60)
def wsX6_bestSurfaces_r1 : List Cond := [Cond.constantLong RX6 218 (-9000000000000000003), Cond.methodLink RX6 215 yX6_isLens, Cond.instanceMethod yX6_isLens, Cond.selects RX6 yX6_isLens yX6_isLens, Cond.initialized RX6, Cond.code yX6_isLens cX6_isLens 2 (some .boolean), Cond.fieldLink RX6 43 "AchromatDeskModel" "lenses" "I", Cond.methodLink RX6 39 yX6_within, Cond.static yX6_within, Cond.code yX6_within cX6_within 6 (some .boolean), Cond.methodLink RX6 255 yX6_surfacesBest, Cond.instanceMethod yX6_surfacesBest, Cond.selects RX6 yX6_surfacesBest yX6_surfacesBest, Cond.code yX6_surfacesBest cX6_surfacesBest 15 (some .long), Cond.constantLong RX6 134 (-9000000000000000008), Cond.fieldLink RX6 243 "AchromatDeskModel" "plates" "I", Cond.constantLong RX6 203 (-1), Cond.fieldLink RX6 20 "AchromatDeskModel" "glassOf" "[I", Cond.fieldLink RX6 23 "AchromatDeskModel" "powerOf" "[I", Cond.constantLong RX6 115 (1000), Cond.constantLong RX6 253 (10), Cond.methodLink RX6 246 yX6_signed, Cond.instanceMethod yX6_signed, Cond.selects RX6 yX6_signed yX6_signed]
def wsX6_bestSurfaces_r2 : List Cond := [Cond.code yX6_signed cX6_signed 3 (some .long), Cond.fieldLink RX6 26 "AchromatDeskModel" "radius" "[I", Cond.methodLink RX6 249 yX6_surfaces, Cond.instanceMethod yX6_surfaces, Cond.selects RX6 yX6_surfaces yX6_surfaces, Cond.code yX6_surfaces cX6_surfaces 6 (some .long), Cond.constantLong RX6 213 (10000000), Cond.methodLink RX6 117 yX6_a, Cond.instanceMethod yX6_a, Cond.selects RX6 yX6_a yX6_a, Cond.code yX6_a cX6_a 2 (some .long), Cond.fieldLink RX6 17 "AchromatDeskModel" "indices" "[I", Cond.constant RX6 48 (100000), Cond.methodLink RX6 144 yX6_floor, Cond.static yX6_floor, Cond.code yX6_floor cX6_floor 6 (some .long), Cond.methodLink RX6 153 yX6_size, Cond.static yX6_size, Cond.code yX6_size cX6_size 2 (some .long)]
def wsX6_bestSurfaces : List Cond := .code yX6_bestSurfaces cX6_bestSurfaces 2 (some .long) :: ((wsX6_bestSurfaces_r1 ++ wsX6_bestSurfaces_r2) ++ wsX60)
def wsX6_surfacePower_r1 : List Cond := [Cond.constantLong RX6 104 (-9000000000000000002), Cond.fieldLink RX6 243 "AchromatDeskModel" "plates" "I", Cond.constantLong RX6 53 (-9000000000000000001), Cond.methodLink RX6 100 yX6_isGlass, Cond.instanceMethod yX6_isGlass, Cond.selects RX6 yX6_isGlass yX6_isGlass, Cond.initialized RX6, Cond.code yX6_isGlass cX6_isGlass 2 (some .boolean), Cond.fieldLink RX6 35 "AchromatDeskModel" "glasses" "I", Cond.methodLink RX6 39 yX6_within, Cond.static yX6_within, Cond.code yX6_within cX6_within 6 (some .boolean), Cond.methodLink RX6 246 yX6_signed, Cond.instanceMethod yX6_signed, Cond.selects RX6 yX6_signed yX6_signed, Cond.code yX6_signed cX6_signed 3 (some .long), Cond.fieldLink RX6 26 "AchromatDeskModel" "radius" "[I", Cond.methodLink RX6 249 yX6_surfaces, Cond.instanceMethod yX6_surfaces, Cond.selects RX6 yX6_surfaces yX6_surfaces, Cond.code yX6_surfaces cX6_surfaces 6 (some .long), Cond.constantLong RX6 213 (10000000), Cond.methodLink RX6 117 yX6_a, Cond.instanceMethod yX6_a]
def wsX6_surfacePower_r2 : List Cond := [Cond.selects RX6 yX6_a yX6_a, Cond.code yX6_a cX6_a 2 (some .long), Cond.fieldLink RX6 17 "AchromatDeskModel" "indices" "[I", Cond.constant RX6 48 (100000), Cond.methodLink RX6 144 yX6_floor, Cond.static yX6_floor, Cond.code yX6_floor cX6_floor 6 (some .long)]
def wsX6_surfacePower : List Cond := .code yX6_surfacePower cX6_surfacePower 9 (some .long) :: ((wsX6_surfacePower_r1 ++ wsX6_surfacePower_r2) ++ wsX60)
def wsX6_mix : List Cond := .code yX6_mix cX6_mix 3 none :: ([.constantLong RX6 258 (31), .fieldLink RX6 260 "AchromatDeskModel" "h" "J"] ++ wsX60)
def wsX6_digest_r1 : List Cond := [Cond.constantLong RX6 263 (1831), Cond.fieldLink RX6 260 "AchromatDeskModel" "h" "J", Cond.fieldLink RX6 35 "AchromatDeskModel" "glasses" "I", Cond.fieldLink RX6 17 "AchromatDeskModel" "indices" "[I", Cond.fieldLink RX6 43 "AchromatDeskModel" "lenses" "I", Cond.fieldLink RX6 20 "AchromatDeskModel" "glassOf" "[I", Cond.fieldLink RX6 23 "AchromatDeskModel" "powerOf" "[I", Cond.fieldLink RX6 243 "AchromatDeskModel" "plates" "I", Cond.fieldLink RX6 26 "AchromatDeskModel" "radius" "[I", Cond.fieldLink RX6 55 "AchromatDeskModel" "bufferLength" "I", Cond.fieldLink RX6 7 "AchromatDeskModel" "buffer" "[I", Cond.methodLink RX6 265 yX6_mix, Cond.instanceMethod yX6_mix, Cond.selects RX6 yX6_mix yX6_mix, Cond.initialized RX6, Cond.code yX6_mix cX6_mix 3 none, Cond.constantLong RX6 258 (31), Cond.methodLink RX6 111 yX6_placeNow, Cond.instanceMethod yX6_placeNow, Cond.selects RX6 yX6_placeNow yX6_placeNow, Cond.code yX6_placeNow cX6_placeNow 5 (some .long), Cond.fieldLink RX6 13 "AchromatDeskModel" "name" "[J", Cond.methodLink RX6 128 yX6_abbeNow, Cond.instanceMethod yX6_abbeNow]
def wsX6_digest_r2 : List Cond := [Cond.selects RX6 yX6_abbeNow yX6_abbeNow, Cond.code yX6_abbeNow cX6_abbeNow 2 (some .long), Cond.constantLong RX6 115 (1000), Cond.methodLink RX6 117 yX6_a, Cond.instanceMethod yX6_a, Cond.selects RX6 yX6_a yX6_a, Cond.code yX6_a cX6_a 2 (some .long), Cond.constant RX6 48 (100000), Cond.methodLink RX6 120 yX6_b, Cond.instanceMethod yX6_b, Cond.selects RX6 yX6_b yX6_b, Cond.code yX6_b cX6_b 2 (some .long), Cond.methodLink RX6 131 yX6_partialNow, Cond.instanceMethod yX6_partialNow, Cond.selects RX6 yX6_partialNow yX6_partialNow, Cond.code yX6_partialNow cX6_partialNow 2 (some .long), Cond.constantLong RX6 123 (100000), Cond.methodLink RX6 125 yX6_d, Cond.instanceMethod yX6_d, Cond.selects RX6 yX6_d yX6_d, Cond.code yX6_d cX6_d 2 (some .long), Cond.methodLink RX6 226 yX6_balanceNow, Cond.instanceMethod yX6_balanceNow, Cond.selects RX6 yX6_balanceNow yX6_balanceNow]
def wsX6_digest_r3 : List Cond := [Cond.code yX6_balanceNow cX6_balanceNow 4 (some .long), Cond.methodLink RX6 223 yX6_systemNow, Cond.instanceMethod yX6_systemNow, Cond.selects RX6 yX6_systemNow yX6_systemNow, Cond.code yX6_systemNow cX6_systemNow 5 (some .long), Cond.methodLink RX6 220 yX6_lensPower, Cond.instanceMethod yX6_lensPower, Cond.selects RX6 yX6_lensPower yX6_lensPower, Cond.code yX6_lensPower cX6_lensPower 4 (some .long), Cond.methodLink RX6 144 yX6_floor, Cond.static yX6_floor, Cond.code yX6_floor cX6_floor 6 (some .long), Cond.methodLink RX6 178 yX6_doublets, Cond.instanceMethod yX6_doublets, Cond.selects RX6 yX6_doublets yX6_doublets, Cond.code yX6_doublets cX6_doublets 5 (some .long), Cond.methodLink RX6 164 yX6_isDoublet, Cond.instanceMethod yX6_isDoublet, Cond.selects RX6 yX6_isDoublet yX6_isDoublet, Cond.code yX6_isDoublet cX6_isDoublet 3 (some .boolean), Cond.methodLink RX6 140 yX6_e, Cond.instanceMethod yX6_e, Cond.selects RX6 yX6_e yX6_e, Cond.code yX6_e cX6_e 3 (some .long)]
def wsX6_digest_r4 : List Cond := [Cond.methodLink RX6 188 yX6_doubletNow, Cond.instanceMethod yX6_doubletNow, Cond.selects RX6 yX6_doubletNow yX6_doubletNow, Cond.code yX6_doubletNow cX6_doubletNow 4 (some .long), Cond.constantLong RX6 134 (-9000000000000000008), Cond.fieldLink RX6 168 "AchromatDeskModel" "one" "I", Cond.constantLong RX6 186 (100), Cond.fieldLink RX6 171 "AchromatDeskModel" "other" "I", Cond.methodLink RX6 39 yX6_within, Cond.static yX6_within, Cond.code yX6_within cX6_within 6 (some .boolean), Cond.methodLink RX6 182 yX6_findNext, Cond.instanceMethod yX6_findNext, Cond.selects RX6 yX6_findNext yX6_findNext, Cond.code yX6_findNext cX6_findNext 7 none, Cond.methodLink RX6 174 yX6_isBefore, Cond.instanceMethod yX6_isBefore, Cond.selects RX6 yX6_isBefore yX6_isBefore, Cond.code yX6_isBefore cX6_isBefore 14 (some .boolean), Cond.methodLink RX6 150 yX6_spectrum, Cond.instanceMethod yX6_spectrum, Cond.selects RX6 yX6_spectrum yX6_spectrum, Cond.code yX6_spectrum cX6_spectrum 3 (some .long), Cond.methodLink RX6 153 yX6_size]
def wsX6_digest_r5 : List Cond := [Cond.static yX6_size, Cond.code yX6_size cX6_size 2 (some .long), Cond.methodLink RX6 157 yX6_compare, Cond.static yX6_compare, Cond.code yX6_compare cX6_compare 8 (some .long), Cond.methodLink RX6 161 yX6_strain, Cond.instanceMethod yX6_strain, Cond.selects RX6 yX6_strain yX6_strain, Cond.code yX6_strain cX6_strain 3 (some .long), Cond.methodLink RX6 208 yX6_tripletBest, Cond.instanceMethod yX6_tripletBest, Cond.selects RX6 yX6_tripletBest yX6_tripletBest, Cond.code yX6_tripletBest cX6_tripletBest 11 (some .long), Cond.constantLong RX6 203 (-1), Cond.constantLong RX6 138 (10000), Cond.methodLink RX6 195 yX6_t, Cond.instanceMethod yX6_t, Cond.selects RX6 yX6_t yX6_t, Cond.code yX6_t cX6_t 4 (some .long), Cond.methodLink RX6 192 yX6_x, Cond.instanceMethod yX6_x, Cond.selects RX6 yX6_x yX6_x, Cond.code yX6_x cX6_x 3 (some .long), Cond.methodLink RX6 205 yX6_strongest]
def wsX6_digest_r6 : List Cond := [Cond.instanceMethod yX6_strongest, Cond.selects RX6 yX6_strongest yX6_strongest, Cond.code yX6_strongest cX6_strongest 9 (some .long), Cond.methodLink RX6 199 yX6_tripletNow, Cond.instanceMethod yX6_tripletNow, Cond.selects RX6 yX6_tripletNow yX6_tripletNow, Cond.code yX6_tripletNow cX6_tripletNow 8 (some .long), Cond.methodLink RX6 255 yX6_surfacesBest, Cond.instanceMethod yX6_surfacesBest, Cond.selects RX6 yX6_surfacesBest yX6_surfacesBest, Cond.code yX6_surfacesBest cX6_surfacesBest 15 (some .long), Cond.constantLong RX6 253 (10), Cond.methodLink RX6 246 yX6_signed, Cond.instanceMethod yX6_signed, Cond.selects RX6 yX6_signed yX6_signed, Cond.code yX6_signed cX6_signed 3 (some .long), Cond.methodLink RX6 249 yX6_surfaces, Cond.instanceMethod yX6_surfaces, Cond.selects RX6 yX6_surfaces yX6_surfaces, Cond.code yX6_surfaces cX6_surfaces 6 (some .long), Cond.constantLong RX6 213 (10000000), Cond.methodLink RX6 239 yX6_wrongNow, Cond.instanceMethod yX6_wrongNow, Cond.selects RX6 yX6_wrongNow yX6_wrongNow]
def wsX6_digest_r7 : List Cond := [Cond.code yX6_wrongNow cX6_wrongNow 16 (some .long), Cond.fieldLink RX6 32 "AchromatDeskModel" "measured" "[J", Cond.methodLink RX6 229 yX6_miss, Cond.instanceMethod yX6_miss, Cond.selects RX6 yX6_miss yX6_miss, Cond.code yX6_miss cX6_miss 6 (some .long)]
def wsX6_digest : List Cond := .code yX6_digest cX6_digest 3 (some .long) :: ((wsX6_digest_r1 ++ (wsX6_digest_r2 ++ (wsX6_digest_r3 ++ (wsX6_digest_r4 ++ (wsX6_digest_r5 ++ (wsX6_digest_r6 ++ wsX6_digest_r7)))))) ++ wsX60)
def wsJ9_abs_067f4 : List Cond := .code yJ9_abs_067f4 cJ9_abs_067f4 2 (some .long) :: ([])
def wsJ9_max_f86c9 : List Cond := .code yJ9_max_f86c9 cJ9_max_f86c9 4 (some .long) :: ([])
def wsJ9_min_7cf53 : List Cond := .code yJ9_min_7cf53 cJ9_min_7cf53 2 (some .int) :: ([])
def wsL_law_r1 : List Cond := [Cond.classLink RL 7 RX5, Cond.instantiable RX5 5, Cond.initialized RX5, Cond.classLink RL 10 RX6, Cond.instantiable RX6 18, Cond.initialized RX6, Cond.constantLong RL 108 (4294967295), Cond.methodLink RL 9 yX5_init, Cond.instanceMethod yX5_init, Cond.code yX5_init cX5_init 1 none, Cond.methodLink RX5 3 objectInit, Cond.instanceMethod objectInit, Cond.code objectInit ⟨#[0xb1]⟩ 1 none, Cond.classLink RX5 9 RX2, Cond.instantiable RX2 2, Cond.initialized RX2, Cond.fieldLink RX5 12 "AchromatDesk" "buffer" "LAchromatDesk$GlassText;", Cond.classLink RX5 16 RX0, Cond.instantiable RX0 5, Cond.initialized RX0, Cond.fieldLink RX5 19 "AchromatDesk" "glasses" "LAchromatDesk$Catalogue;", Cond.classLink RX5 23 RX1, Cond.instantiable RX1 6, Cond.initialized RX1]
def wsL_law_r2 : List Cond := [Cond.fieldLink RX5 26 "AchromatDesk" "doublets" "LAchromatDesk$DoubletRanking;", Cond.classLink RX5 30 RX3, Cond.instantiable RX3 3, Cond.initialized RX3, Cond.fieldLink RX5 33 "AchromatDesk" "system" "LAchromatDesk$LensSystem;", Cond.classLink RX5 37 RX4, Cond.instantiable RX4 2, Cond.initialized RX4, Cond.fieldLink RX5 40 "AchromatDesk" "plates" "LAchromatDesk$PlateSet;", Cond.instanceMethod yX2_init, Cond.code yX2_init cX2_init 1 none, Cond.methodLink RX2 5 objectInit, Cond.arrayClass .int, Cond.fieldLink RX2 11 "AchromatDesk$GlassText" "codes" "[I", Cond.instanceMethod yX0_init, Cond.code yX0_init cX0_init 1 none, Cond.methodLink RX0 3 objectInit, Cond.arrayClass .long, Cond.fieldLink RX0 9 "AchromatDesk$Catalogue" "nameKeys" "[J", Cond.fieldLink RX0 15 "AchromatDesk$Catalogue" "indicesF" "[I", Cond.fieldLink RX0 19 "AchromatDesk$Catalogue" "indicesD" "[I", Cond.fieldLink RX0 22 "AchromatDesk$Catalogue" "indicesC" "[I", Cond.instanceMethod yX1_init, Cond.code yX1_init cX1_init 1 none]
def wsL_law_r3 : List Cond := [Cond.methodLink RX1 3 objectInit, Cond.fieldLink RX1 9 "AchromatDesk$DoubletRanking" "codes" "[I", Cond.fieldLink RX1 15 "AchromatDesk$DoubletRanking" "divisors" "[J", Cond.fieldLink RX1 19 "AchromatDesk$DoubletRanking" "spectra" "[J", Cond.fieldLink RX1 22 "AchromatDesk$DoubletRanking" "strains" "[J", Cond.fieldLink RX1 25 "AchromatDesk$DoubletRanking" "order" "[I", Cond.instanceMethod yX3_init, Cond.code yX3_init cX3_init 1 none, Cond.methodLink RX3 3 objectInit, Cond.fieldLink RX3 9 "AchromatDesk$LensSystem" "glassNumbers" "[I", Cond.fieldLink RX3 15 "AchromatDesk$LensSystem" "powers" "[I", Cond.instanceMethod yX4_init, Cond.code yX4_init cX4_init 1 none, Cond.methodLink RX4 3 objectInit, Cond.fieldLink RX4 9 "AchromatDesk$PlateSet" "radii" "[I", Cond.methodLink RL 12 yX6_init, Cond.instanceMethod yX6_init, Cond.code yX6_init cX6_init 1 none, Cond.methodLink RX6 1 objectInit, Cond.fieldLink RX6 7 "AchromatDeskModel" "buffer" "[I", Cond.fieldLink RX6 13 "AchromatDeskModel" "name" "[J", Cond.fieldLink RX6 17 "AchromatDeskModel" "indices" "[I", Cond.fieldLink RX6 20 "AchromatDeskModel" "glassOf" "[I", Cond.fieldLink RX6 23 "AchromatDeskModel" "powerOf" "[I"]
def wsL_law_r4 : List Cond := [Cond.fieldLink RX6 26 "AchromatDeskModel" "radius" "[I", Cond.fieldLink RX6 29 "AchromatDeskModel" "readNumber" "[I", Cond.fieldLink RX6 32 "AchromatDeskModel" "measured" "[J", Cond.methodLink RL 13 yX5_append, Cond.instanceMethod yX5_append, Cond.selects RX5 yX5_append yX5_append, Cond.code yX5_append cX5_append 2 (some .long), Cond.constantLong RX5 44 (-9000000000000000001), Cond.constantLong RX5 50 (-9000000000000000004), Cond.methodLink RX5 52 yX2_add, Cond.instanceMethod yX2_add, Cond.selects RX2 yX2_add yX2_add, Cond.code yX2_add cX2_add 2 none, Cond.fieldLink RX2 15 "AchromatDesk$GlassText" "length" "I", Cond.methodLink RL 17 yX6_append, Cond.instanceMethod yX6_append, Cond.selects RX6 yX6_append yX6_append, Cond.code yX6_append cX6_append 2 (some .long), Cond.constantLong RX6 49 (32), Cond.constantLong RX6 51 (126), Cond.constantLong RX6 53 (-9000000000000000001), Cond.fieldLink RX6 55 "AchromatDeskModel" "bufferLength" "I", Cond.constantLong RX6 58 (-9000000000000000004), Cond.methodLink RX6 39 yX6_within]
def wsL_law_r5 : List Cond := [Cond.static yX6_within, Cond.code yX6_within cX6_within 6 (some .boolean), Cond.methodLink RL 18 yX5_clearBuffer, Cond.instanceMethod yX5_clearBuffer, Cond.selects RX5 yX5_clearBuffer yX5_clearBuffer, Cond.code yX5_clearBuffer cX5_clearBuffer 2 (some .long), Cond.methodLink RX5 56 yX2_empty, Cond.instanceMethod yX2_empty, Cond.selects RX2 yX2_empty yX2_empty, Cond.code yX2_empty cX2_empty 1 none, Cond.methodLink RL 22 yX6_clearBuffer, Cond.instanceMethod yX6_clearBuffer, Cond.selects RX6 yX6_clearBuffer yX6_clearBuffer, Cond.code yX6_clearBuffer cX6_clearBuffer 2 (some .long), Cond.methodLink RL 23 yX5_errorPosition, Cond.instanceMethod yX5_errorPosition, Cond.selects RX5 yX5_errorPosition yX5_errorPosition, Cond.code yX5_errorPosition cX5_errorPosition 1 (some .long), Cond.methodLink RX5 59 yX2_firstFault, Cond.instanceMethod yX2_firstFault, Cond.selects RX2 yX2_firstFault yX2_firstFault, Cond.code yX2_firstFault cX2_firstFault 3 (some .int), Cond.methodLink RX2 19 yX2_nameLength, Cond.instanceMethod yX2_nameLength]
def wsL_law_r6 : List Cond := [Cond.selects RX2 yX2_nameLength yX2_nameLength, Cond.code yX2_nameLength cX2_nameLength 4 (some .int), Cond.methodLink RX2 36 Lib.Math.min.name, Cond.static Lib.Math.min.name, Cond.initialized "java/lang/Math", Cond.code Lib.Math.min.name Lib.Math.min.code 2 (some .int), Cond.methodLink RX2 42 yX2_isLetter, Cond.static yX2_isLetter, Cond.code yX2_isLetter cX2_isLetter 1 (some .boolean), Cond.methodLink RX2 46 yX2_isDigit, Cond.static yX2_isDigit, Cond.code yX2_isDigit cX2_isDigit 1 (some .boolean), Cond.methodLink RX2 23 yX2_isAllowedBehindName, Cond.static yX2_isAllowedBehindName, Cond.code yX2_isAllowedBehindName cX2_isAllowedBehindName 3 (some .boolean), Cond.methodLink RL 26 yX6_errorPosition, Cond.instanceMethod yX6_errorPosition, Cond.selects RX6 yX6_errorPosition yX6_errorPosition, Cond.code yX6_errorPosition cX6_errorPosition 1 (some .long), Cond.fieldLink RX6 74 "AchromatDeskModel" "errorAt" "I", Cond.methodLink RX6 83 yX6_parse, Cond.instanceMethod yX6_parse, Cond.selects RX6 yX6_parse yX6_parse, Cond.code yX6_parse cX6_parse 8 none]
def wsL_law_r7 : List Cond := [Cond.fieldLink RX6 60 "AchromatDeskModel" "readName" "J", Cond.constantLong RX6 64 (48), Cond.constantLong RX6 66 (57), Cond.constantLong RX6 68 (65), Cond.constantLong RX6 70 (90), Cond.constantLong RX6 72 (128), Cond.constantLong RX6 46 (2), Cond.fieldLink RX6 77 "AchromatDeskModel" "isWhole" "Z", Cond.constantLong RX6 81 (34359738368), Cond.methodLink RL 27 yX5_addGlass, Cond.instanceMethod yX5_addGlass, Cond.selects RX5 yX5_addGlass yX5_addGlass, Cond.code yX5_addGlass cX5_addGlass 6 (some .long), Cond.constantLong RX5 67 (-9000000000000000005), Cond.constantLong RX5 88 (-9000000000000000006), Cond.methodLink RX5 63 yX2_isComplete, Cond.instanceMethod yX2_isComplete, Cond.selects RX2 yX2_isComplete yX2_isComplete, Cond.code yX2_isComplete cX2_isComplete 2 (some .boolean), Cond.methodLink RX2 27 yX2_firstFault, Cond.methodLink RX5 69 yX2_number, Cond.instanceMethod yX2_number, Cond.selects RX2 yX2_number yX2_number, Cond.code yX2_number cX2_number 5 (some .int)]
def wsL_law_r8 : List Cond := [Cond.methodLink RX2 30 yX2_codeAt, Cond.instanceMethod yX2_codeAt, Cond.selects RX2 yX2_codeAt yX2_codeAt, Cond.code yX2_codeAt cX2_codeAt 2 (some .int), Cond.methodLink RX5 73 yX5_areGlassIndices, Cond.static yX5_areGlassIndices, Cond.code yX5_areGlassIndices cX5_areGlassIndices 3 (some .boolean), Cond.constant RX5 256 (130000), Cond.constant RX5 257 (230000), Cond.methodLink RX5 80 yX2_nameKey, Cond.instanceMethod yX2_nameKey, Cond.selects RX2 yX2_nameKey yX2_nameKey, Cond.code yX2_nameKey cX2_nameKey 5 (some .long), Cond.constantLong RX2 34 (128), Cond.methodLink RX5 84 yX0_hasName, Cond.instanceMethod yX0_hasName, Cond.selects RX0 yX0_hasName yX0_hasName, Cond.code yX0_hasName cX0_hasName 4 (some .boolean), Cond.fieldLink RX0 25 "AchromatDesk$Catalogue" "count" "I", Cond.methodLink RX5 90 yX0_add, Cond.instanceMethod yX0_add, Cond.selects RX0 yX0_add yX0_add, Cond.code yX0_add cX0_add 6 none, Cond.methodLink RL 30 yX6_addGlass]
def wsL_law_r9 : List Cond := [Cond.instanceMethod yX6_addGlass, Cond.selects RX6 yX6_addGlass yX6_addGlass, Cond.code yX6_addGlass cX6_addGlass 2 (some .long), Cond.constantLong RX6 88 (-9000000000000000005), Cond.fieldLink RX6 35 "AchromatDeskModel" "glasses" "I", Cond.constantLong RX6 98 (-9000000000000000006), Cond.methodLink RX6 90 yX6_isRight, Cond.instanceMethod yX6_isRight, Cond.selects RX6 yX6_isRight yX6_isRight, Cond.code yX6_isRight cX6_isRight 4 (some .boolean), Cond.constant RX6 86 (130000), Cond.constant RX6 87 (230000), Cond.methodLink RX6 94 yX6_isNamed, Cond.instanceMethod yX6_isNamed, Cond.selects RX6 yX6_isNamed yX6_isNamed, Cond.code yX6_isNamed cX6_isNamed 5 (some .boolean), Cond.methodLink RL 31 yX5_removeGlass, Cond.instanceMethod yX5_removeGlass, Cond.selects RX5 yX5_removeGlass yX5_removeGlass, Cond.code yX5_removeGlass cX5_removeGlass 2 (some .long), Cond.constantLong RX5 97 (-9000000000000000002), Cond.constantLong RX5 102 (-9000000000000000007), Cond.methodLink RX5 93 yX0_has, Cond.instanceMethod yX0_has]
def wsL_law_r10 : List Cond := [Cond.selects RX0 yX0_has yX0_has, Cond.code yX0_has cX0_has 2 (some .boolean), Cond.methodLink RX5 99 yX3_uses, Cond.instanceMethod yX3_uses, Cond.selects RX3 yX3_uses yX3_uses, Cond.code yX3_uses cX3_uses 3 (some .boolean), Cond.fieldLink RX3 18 "AchromatDesk$LensSystem" "count" "I", Cond.methodLink RX5 104 yX0_remove, Cond.instanceMethod yX0_remove, Cond.selects RX0 yX0_remove yX0_remove, Cond.code yX0_remove cX0_remove 3 none, Cond.methodLink RX0 29 yX0_has, Cond.methodLink RX5 107 yX3_closeGapAt, Cond.instanceMethod yX3_closeGapAt, Cond.selects RX3 yX3_closeGapAt yX3_closeGapAt, Cond.code yX3_closeGapAt cX3_closeGapAt 3 none, Cond.methodLink RL 34 yX6_removeGlass, Cond.instanceMethod yX6_removeGlass, Cond.selects RX6 yX6_removeGlass yX6_removeGlass, Cond.code yX6_removeGlass cX6_removeGlass 3 (some .long), Cond.constantLong RX6 104 (-9000000000000000002), Cond.fieldLink RX6 43 "AchromatDeskModel" "lenses" "I", Cond.constantLong RX6 106 (-9000000000000000007), Cond.methodLink RX6 100 yX6_isGlass]
def wsL_law_r11 : List Cond := [Cond.instanceMethod yX6_isGlass, Cond.selects RX6 yX6_isGlass yX6_isGlass, Cond.code yX6_isGlass cX6_isGlass 2 (some .boolean), Cond.methodLink RL 35 yX5_glassCount, Cond.instanceMethod yX5_glassCount, Cond.selects RX5 yX5_glassCount yX5_glassCount, Cond.code yX5_glassCount cX5_glassCount 1 (some .long), Cond.methodLink RL 38 yX6_glassCount, Cond.instanceMethod yX6_glassCount, Cond.selects RX6 yX6_glassCount yX6_glassCount, Cond.code yX6_glassCount cX6_glassCount 1 (some .long), Cond.methodLink RL 39 yX5_index, Cond.instanceMethod yX5_index, Cond.selects RX5 yX5_index yX5_index, Cond.code yX5_index cX5_index 3 (some .long), Cond.methodLink RX5 110 yX5_isColour, Cond.static yX5_isColour, Cond.code yX5_isColour cX5_isColour 1 (some .boolean), Cond.methodLink RX5 113 yX0_indexFor, Cond.instanceMethod yX0_indexFor, Cond.selects RX0 yX0_indexFor yX0_indexFor, Cond.code yX0_indexFor cX0_indexFor 3 (some .long), Cond.methodLink RL 43 yX6_index, Cond.instanceMethod yX6_index]
def wsL_law_r12 : List Cond := [Cond.selects RX6 yX6_index yX6_index, Cond.code yX6_index cX6_index 3 (some .long), Cond.methodLink RX6 108 yX6_isColour, Cond.static yX6_isColour, Cond.code yX6_isColour cX6_isColour 1 (some .boolean), Cond.methodLink RL 44 yX5_placeByName, Cond.instanceMethod yX5_placeByName, Cond.selects RX5 yX5_placeByName yX5_placeByName, Cond.code yX5_placeByName cX5_placeByName 2 (some .long), Cond.methodLink RX5 117 yX0_namesBefore, Cond.instanceMethod yX0_namesBefore, Cond.selects RX0 yX0_namesBefore yX0_namesBefore, Cond.code yX0_namesBefore cX0_namesBefore 4 (some .int), Cond.methodLink RL 47 yX6_placeByName, Cond.instanceMethod yX6_placeByName, Cond.selects RX6 yX6_placeByName yX6_placeByName, Cond.code yX6_placeByName cX6_placeByName 2 (some .long), Cond.methodLink RX6 111 yX6_placeNow, Cond.instanceMethod yX6_placeNow, Cond.selects RX6 yX6_placeNow yX6_placeNow, Cond.code yX6_placeNow cX6_placeNow 5 (some .long), Cond.methodLink RL 48 yX5_abbe, Cond.instanceMethod yX5_abbe, Cond.selects RX5 yX5_abbe yX5_abbe]
def wsL_law_r13 : List Cond := [Cond.code yX5_abbe cX5_abbe 2 (some .long), Cond.methodLink RX5 120 yX0_abbeNumber, Cond.instanceMethod yX0_abbeNumber, Cond.selects RX0 yX0_abbeNumber yX0_abbeNumber, Cond.code yX0_abbeNumber cX0_abbeNumber 2 (some .long), Cond.constantLong RX0 33 (1000), Cond.methodLink RX0 35 yX0_valueA, Cond.instanceMethod yX0_valueA, Cond.selects RX0 yX0_valueA yX0_valueA, Cond.code yX0_valueA cX0_valueA 2 (some .long), Cond.constant RX0 49 (100000), Cond.methodLink RX0 39 yX0_valueB, Cond.instanceMethod yX0_valueB, Cond.selects RX0 yX0_valueB yX0_valueB, Cond.code yX0_valueB cX0_valueB 2 (some .long), Cond.static yX5_floorQuotient, Cond.code yX5_floorQuotient cX5_floorQuotient 4 (some .long), Cond.methodLink RX5 258 yJ9_floorDiv_f86c9, Cond.static yJ9_floorDiv_f86c9, Cond.initialized RJ9, Cond.code yJ9_floorDiv_f86c9 cJ9_floorDiv_f86c9 6 (some .long), Cond.methodLink RL 51 yX6_abbe, Cond.instanceMethod yX6_abbe, Cond.selects RX6 yX6_abbe yX6_abbe]
def wsL_law_r14 : List Cond := [Cond.code yX6_abbe cX6_abbe 2 (some .long), Cond.methodLink RX6 128 yX6_abbeNow, Cond.instanceMethod yX6_abbeNow, Cond.selects RX6 yX6_abbeNow yX6_abbeNow, Cond.code yX6_abbeNow cX6_abbeNow 2 (some .long), Cond.constantLong RX6 115 (1000), Cond.methodLink RX6 117 yX6_a, Cond.instanceMethod yX6_a, Cond.selects RX6 yX6_a yX6_a, Cond.code yX6_a cX6_a 2 (some .long), Cond.constant RX6 48 (100000), Cond.methodLink RX6 120 yX6_b, Cond.instanceMethod yX6_b, Cond.selects RX6 yX6_b yX6_b, Cond.code yX6_b cX6_b 2 (some .long), Cond.methodLink RL 52 yX5_partial, Cond.instanceMethod yX5_partial, Cond.selects RX5 yX5_partial yX5_partial, Cond.code yX5_partial cX5_partial 2 (some .long), Cond.constantLong RX5 124 (100000), Cond.methodLink RX5 126 yX0_valueD, Cond.instanceMethod yX0_valueD, Cond.selects RX0 yX0_valueD yX0_valueD, Cond.code yX0_valueD cX0_valueD 2 (some .long)]
def wsL_law_r15 : List Cond := [Cond.methodLink RX5 129 yX0_valueB, Cond.methodLink RX5 132 yX5_floorQuotient, Cond.methodLink RL 55 yX6_partial, Cond.instanceMethod yX6_partial, Cond.selects RX6 yX6_partial yX6_partial, Cond.code yX6_partial cX6_partial 2 (some .long), Cond.methodLink RX6 131 yX6_partialNow, Cond.instanceMethod yX6_partialNow, Cond.selects RX6 yX6_partialNow yX6_partialNow, Cond.code yX6_partialNow cX6_partialNow 2 (some .long), Cond.constantLong RX6 123 (100000), Cond.methodLink RX6 125 yX6_d, Cond.instanceMethod yX6_d, Cond.selects RX6 yX6_d yX6_d, Cond.code yX6_d cX6_d 2 (some .long), Cond.methodLink RL 56 yX5_glassWithAbbe, Cond.instanceMethod yX5_glassWithAbbe, Cond.selects RX5 yX5_glassWithAbbe yX5_glassWithAbbe, Cond.code yX5_glassWithAbbe cX5_glassWithAbbe 3 (some .long), Cond.constantLong RX5 139 (-9000000000000000008), Cond.methodLink RX5 136 yX0_leastAbbeFrom, Cond.instanceMethod yX0_leastAbbeFrom, Cond.selects RX0 yX0_leastAbbeFrom yX0_leastAbbeFrom, Cond.code yX0_leastAbbeFrom cX0_leastAbbeFrom 8 (some .int)]
def wsL_law_r16 : List Cond := [Cond.methodLink RX0 46 yX0_abbeNumber, Cond.methodLink RL 59 yX6_glassWithAbbe, Cond.instanceMethod yX6_glassWithAbbe, Cond.selects RX6 yX6_glassWithAbbe yX6_glassWithAbbe, Cond.code yX6_glassWithAbbe cX6_glassWithAbbe 5 (some .long), Cond.constantLong RX6 134 (-9000000000000000008), Cond.methodLink RL 60 yX5_doubletPower, Cond.instanceMethod yX5_doubletPower, Cond.selects RX5 yX5_doubletPower yX5_doubletPower, Cond.code yX5_doubletPower cX5_doubletPower 9 (some .long), Cond.constantLong RX5 150 (1000), Cond.methodLink RX5 141 yX5_isDesignPower, Cond.static yX5_isDesignPower, Cond.code yX5_isDesignPower cX5_isDesignPower 1 (some .boolean), Cond.methodLink RX5 144 yX0_valueE, Cond.instanceMethod yX0_valueE, Cond.selects RX0 yX0_valueE yX0_valueE, Cond.code yX0_valueE cX0_valueE 3 (some .long), Cond.methodLink RX5 147 yX0_valueA, Cond.methodLink RL 64 yX6_doubletPower, Cond.instanceMethod yX6_doubletPower, Cond.selects RX6 yX6_doubletPower yX6_doubletPower, Cond.code yX6_doubletPower cX6_doubletPower 9 (some .long), Cond.constantLong RX6 136 (-10000)]
def wsL_law_r17 : List Cond := [Cond.constantLong RX6 138 (10000), Cond.methodLink RX6 140 yX6_e, Cond.instanceMethod yX6_e, Cond.selects RX6 yX6_e yX6_e, Cond.code yX6_e cX6_e 3 (some .long), Cond.methodLink RX6 144 yX6_floor, Cond.static yX6_floor, Cond.code yX6_floor cX6_floor 6 (some .long), Cond.methodLink RL 65 yX5_secondarySpectrum, Cond.instanceMethod yX5_secondarySpectrum, Cond.selects RX5 yX5_secondarySpectrum yX5_secondarySpectrum, Cond.code yX5_secondarySpectrum cX5_secondarySpectrum 6 (some .long), Cond.constantLong RX5 152 (1000000), Cond.methodLink RX5 154 yX0_valueX, Cond.instanceMethod yX0_valueX, Cond.selects RX0 yX0_valueX yX0_valueX, Cond.code yX0_valueX cX0_valueX 3 (some .long), Cond.methodLink RX0 50 yX0_valueD, Cond.methodLink RL 69 yX6_secondarySpectrum, Cond.instanceMethod yX6_secondarySpectrum, Cond.selects RX6 yX6_secondarySpectrum yX6_secondarySpectrum, Cond.code yX6_secondarySpectrum cX6_secondarySpectrum 6 (some .long), Cond.constantLong RX6 148 (1000000), Cond.methodLink RX6 150 yX6_spectrum]
def wsL_law_r18 : List Cond := [Cond.instanceMethod yX6_spectrum, Cond.selects RX6 yX6_spectrum yX6_spectrum, Cond.code yX6_spectrum cX6_spectrum 3 (some .long), Cond.methodLink RL 70 yX5_doubletAt, Cond.instanceMethod yX5_doubletAt, Cond.selects RX5 yX5_doubletAt yX5_doubletAt, Cond.code yX5_doubletAt cX5_doubletAt 3 (some .long), Cond.methodLink RX5 157 yX1_collect, Cond.instanceMethod yX1_collect, Cond.selects RX1 yX1_collect yX1_collect, Cond.code yX1_collect cX1_collect 4 none, Cond.fieldLink RX1 28 "AchromatDesk$DoubletRanking" "count" "I", Cond.methodLink RX1 35 yX0_valueE, Cond.methodLink RX1 39 yX1_keep, Cond.instanceMethod yX1_keep, Cond.selects RX1 yX1_keep yX1_keep, Cond.code yX1_keep cX1_keep 4 none, Cond.methodLink RX1 50 Lib.MathLoose.abs_long.x, Cond.static Lib.MathLoose.abs_long.x, Cond.code Lib.MathLoose.abs_long.x Lib.MathLoose.abs_long.code 2 (some .long), Cond.methodLink RX1 47 yX0_valueX, Cond.methodLink RX1 56 yX0_valueA, Cond.methodLink RX1 60 yX0_valueB, Cond.methodLink RX5 162 yX1_rank]
def wsL_law_r19 : List Cond := [Cond.instanceMethod yX1_rank, Cond.selects RX1 yX1_rank yX1_rank, Cond.code yX1_rank cX1_rank 5 none, Cond.methodLink RX1 43 yX1_placeAmong, Cond.instanceMethod yX1_placeAmong, Cond.selects RX1 yX1_placeAmong yX1_placeAmong, Cond.code yX1_placeAmong cX1_placeAmong 6 (some .int), Cond.methodLink RX1 63 yX1_compareSlots, Cond.instanceMethod yX1_compareSlots, Cond.selects RX1 yX1_compareSlots yX1_compareSlots, Cond.code yX1_compareSlots cX1_compareSlots 6 (some .int), Cond.methodLink RX1 67 yJ13_compare_74951, Cond.static yJ13_compare_74951, Cond.initialized RJ13, Cond.code yJ13_compare_74951 cJ13_compare_74951 4 (some .int), Cond.methodLink RX5 166 yX1_codeAt, Cond.instanceMethod yX1_codeAt, Cond.selects RX1 yX1_codeAt yX1_codeAt, Cond.code yX1_codeAt cX1_codeAt 2 (some .int), Cond.methodLink RL 74 yX6_doubletAt, Cond.instanceMethod yX6_doubletAt, Cond.selects RX6 yX6_doubletAt yX6_doubletAt, Cond.code yX6_doubletAt cX6_doubletAt 3 (some .long), Cond.methodLink RX6 188 yX6_doubletNow]
def wsL_law_r20 : List Cond := [Cond.instanceMethod yX6_doubletNow, Cond.selects RX6 yX6_doubletNow yX6_doubletNow, Cond.code yX6_doubletNow cX6_doubletNow 4 (some .long), Cond.fieldLink RX6 168 "AchromatDeskModel" "one" "I", Cond.constantLong RX6 186 (100), Cond.fieldLink RX6 171 "AchromatDeskModel" "other" "I", Cond.methodLink RX6 178 yX6_doublets, Cond.instanceMethod yX6_doublets, Cond.selects RX6 yX6_doublets yX6_doublets, Cond.code yX6_doublets cX6_doublets 5 (some .long), Cond.methodLink RX6 164 yX6_isDoublet, Cond.instanceMethod yX6_isDoublet, Cond.selects RX6 yX6_isDoublet yX6_isDoublet, Cond.code yX6_isDoublet cX6_isDoublet 3 (some .boolean), Cond.methodLink RX6 182 yX6_findNext, Cond.instanceMethod yX6_findNext, Cond.selects RX6 yX6_findNext yX6_findNext, Cond.code yX6_findNext cX6_findNext 7 none, Cond.methodLink RX6 174 yX6_isBefore, Cond.instanceMethod yX6_isBefore, Cond.selects RX6 yX6_isBefore yX6_isBefore, Cond.code yX6_isBefore cX6_isBefore 14 (some .boolean), Cond.methodLink RX6 153 yX6_size, Cond.static yX6_size]
def wsL_law_r21 : List Cond := [Cond.code yX6_size cX6_size 2 (some .long), Cond.methodLink RX6 157 yX6_compare, Cond.static yX6_compare, Cond.code yX6_compare cX6_compare 8 (some .long), Cond.methodLink RX6 161 yX6_strain, Cond.instanceMethod yX6_strain, Cond.selects RX6 yX6_strain yX6_strain, Cond.code yX6_strain cX6_strain 3 (some .long), Cond.methodLink RL 75 yX5_doubletCount, Cond.instanceMethod yX5_doubletCount, Cond.selects RX5 yX5_doubletCount yX5_doubletCount, Cond.code yX5_doubletCount cX5_doubletCount 1 (some .long), Cond.methodLink RL 78 yX6_doubletCount, Cond.instanceMethod yX6_doubletCount, Cond.selects RX6 yX6_doubletCount yX6_doubletCount, Cond.code yX6_doubletCount cX6_doubletCount 1 (some .long), Cond.methodLink RL 79 yX5_tripletPower, Cond.instanceMethod yX5_tripletPower, Cond.selects RX5 yX5_tripletPower yX5_tripletPower, Cond.code yX5_tripletPower cX5_tripletPower 16 (some .long), Cond.methodLink RX5 169 yX0_tripletShare, Cond.instanceMethod yX0_tripletShare, Cond.selects RX0 yX0_tripletShare yX0_tripletShare, Cond.code yX0_tripletShare cX0_tripletShare 4 (some .long)]
def wsL_law_r22 : List Cond := [Cond.methodLink RX0 53 yX0_valueX, Cond.methodLink RL 83 yX6_tripletPower, Cond.instanceMethod yX6_tripletPower, Cond.selects RX6 yX6_tripletPower yX6_tripletPower, Cond.code yX6_tripletPower cX6_tripletPower 6 (some .long), Cond.methodLink RX6 195 yX6_t, Cond.instanceMethod yX6_t, Cond.selects RX6 yX6_t yX6_t, Cond.code yX6_t cX6_t 4 (some .long), Cond.methodLink RX6 192 yX6_x, Cond.instanceMethod yX6_x, Cond.selects RX6 yX6_x yX6_x, Cond.code yX6_x cX6_x 3 (some .long), Cond.methodLink RX6 199 yX6_tripletNow, Cond.instanceMethod yX6_tripletNow, Cond.selects RX6 yX6_tripletNow yX6_tripletNow, Cond.code yX6_tripletNow cX6_tripletNow 8 (some .long), Cond.methodLink RL 84 yX5_bestTriplet, Cond.instanceMethod yX5_bestTriplet, Cond.selects RX5 yX5_bestTriplet yX5_bestTriplet, Cond.code yX5_bestTriplet cX5_bestTriplet 10 (some .long), Cond.methodLink RX5 173 yX5_greatestTripletPower, Cond.instanceMethod yX5_greatestTripletPower, Cond.selects RX5 yX5_greatestTripletPower yX5_greatestTripletPower]
def wsL_law_r23 : List Cond := [Cond.code yX5_greatestTripletPower cX5_greatestTripletPower 14 (some .long), Cond.constantLong RX5 212 (-1), Cond.methodLink RX5 264 Lib.MathLoose.max_long.x, Cond.static Lib.MathLoose.max_long.x, Cond.code Lib.MathLoose.max_long.x Lib.MathLoose.max_long.code 4 (some .long), Cond.methodLink RX5 261 yX5_absolutePower, Cond.static yX5_absolutePower, Cond.code yX5_absolutePower cX5_absolutePower 4 (some .long), Cond.constantLong RX5 267 (10000), Cond.methodLink RX5 218 Lib.MathLoose.abs_long.x, Cond.methodLink RL 87 yX6_bestTriplet, Cond.instanceMethod yX6_bestTriplet, Cond.selects RX6 yX6_bestTriplet yX6_bestTriplet, Cond.code yX6_bestTriplet cX6_bestTriplet 1 (some .long), Cond.methodLink RX6 208 yX6_tripletBest, Cond.instanceMethod yX6_tripletBest, Cond.selects RX6 yX6_tripletBest yX6_tripletBest, Cond.code yX6_tripletBest cX6_tripletBest 11 (some .long), Cond.constantLong RX6 203 (-1), Cond.methodLink RX6 205 yX6_strongest, Cond.instanceMethod yX6_strongest, Cond.selects RX6 yX6_strongest yX6_strongest, Cond.code yX6_strongest cX6_strongest 9 (some .long), Cond.methodLink RL 88 yX5_addLens]
def wsL_law_r24 : List Cond := [Cond.instanceMethod yX5_addLens, Cond.selects RX5 yX5_addLens yX5_addLens, Cond.code yX5_addLens cX5_addLens 3 (some .long), Cond.constant RX5 176 (-10000000), Cond.constant RX5 177 (10000000), Cond.methodLink RX5 179 yX3_add, Cond.instanceMethod yX3_add, Cond.selects RX3 yX3_add yX3_add, Cond.code yX3_add cX3_add 3 none, Cond.methodLink RL 91 yX6_addLens, Cond.instanceMethod yX6_addLens, Cond.selects RX6 yX6_addLens yX6_addLens, Cond.code yX6_addLens cX6_addLens 3 (some .long), Cond.constantLong RX6 211 (-10000000), Cond.constantLong RX6 213 (10000000), Cond.methodLink RL 92 yX5_removeLens, Cond.instanceMethod yX5_removeLens, Cond.selects RX5 yX5_removeLens yX5_removeLens, Cond.code yX5_removeLens cX5_removeLens 2 (some .long), Cond.constantLong RX5 183 (-9000000000000000003), Cond.methodLink RX5 182 yX3_has, Cond.instanceMethod yX3_has, Cond.selects RX3 yX3_has yX3_has, Cond.code yX3_has cX3_has 2 (some .boolean)]
def wsL_law_r25 : List Cond := [Cond.methodLink RX5 185 yX3_remove, Cond.instanceMethod yX3_remove, Cond.selects RX3 yX3_remove yX3_remove, Cond.code yX3_remove cX3_remove 3 none, Cond.methodLink RX3 22 yX3_has, Cond.methodLink RL 95 yX6_removeLens, Cond.instanceMethod yX6_removeLens, Cond.selects RX6 yX6_removeLens yX6_removeLens, Cond.code yX6_removeLens cX6_removeLens 3 (some .long), Cond.constantLong RX6 218 (-9000000000000000003), Cond.methodLink RX6 215 yX6_isLens, Cond.instanceMethod yX6_isLens, Cond.selects RX6 yX6_isLens yX6_isLens, Cond.code yX6_isLens cX6_isLens 2 (some .boolean), Cond.methodLink RL 96 yX5_lensCount, Cond.instanceMethod yX5_lensCount, Cond.selects RX5 yX5_lensCount yX5_lensCount, Cond.code yX5_lensCount cX5_lensCount 1 (some .long), Cond.methodLink RL 99 yX6_lensCount, Cond.instanceMethod yX6_lensCount, Cond.selects RX6 yX6_lensCount yX6_lensCount, Cond.code yX6_lensCount cX6_lensCount 1 (some .long), Cond.methodLink RL 100 yX5_systemPower, Cond.instanceMethod yX5_systemPower]
def wsL_law_r26 : List Cond := [Cond.selects RX5 yX5_systemPower yX5_systemPower, Cond.code yX5_systemPower cX5_systemPower 2 (some .long), Cond.methodLink RX5 186 yX3_powerFor, Cond.instanceMethod yX3_powerFor, Cond.selects RX3 yX3_powerFor yX3_powerFor, Cond.code yX3_powerFor cX3_powerFor 6 (some .long), Cond.methodLink RX3 26 yX3_lensPower, Cond.instanceMethod yX3_lensPower, Cond.selects RX3 yX3_lensPower yX3_lensPower, Cond.code yX3_lensPower cX3_lensPower 7 (some .long), Cond.constantLong RX3 36 (100000), Cond.constantLong RX3 38 (1000), Cond.methodLink RX3 30 yX0_indexFor, Cond.methodLink RX3 40 yX0_valueA, Cond.methodLink RL 103 yX6_systemPower, Cond.instanceMethod yX6_systemPower, Cond.selects RX6 yX6_systemPower yX6_systemPower, Cond.code yX6_systemPower cX6_systemPower 2 (some .long), Cond.methodLink RX6 223 yX6_systemNow, Cond.instanceMethod yX6_systemNow, Cond.selects RX6 yX6_systemNow yX6_systemNow, Cond.code yX6_systemNow cX6_systemNow 5 (some .long), Cond.methodLink RX6 220 yX6_lensPower, Cond.instanceMethod yX6_lensPower]
def wsL_law_r27 : List Cond := [Cond.selects RX6 yX6_lensPower yX6_lensPower, Cond.code yX6_lensPower cX6_lensPower 4 (some .long), Cond.methodLink RL 104 yX5_balancePower, Cond.instanceMethod yX5_balancePower, Cond.selects RX5 yX5_balancePower yX5_balancePower, Cond.code yX5_balancePower cX5_balancePower 4 (some .long), Cond.methodLink RL 107 yX6_balancePower, Cond.instanceMethod yX6_balancePower, Cond.selects RX6 yX6_balancePower yX6_balancePower, Cond.code yX6_balancePower cX6_balancePower 2 (some .long), Cond.methodLink RX6 226 yX6_balanceNow, Cond.instanceMethod yX6_balanceNow, Cond.selects RX6 yX6_balanceNow yX6_balanceNow, Cond.code yX6_balanceNow cX6_balanceNow 4 (some .long), Cond.methodLink RL 110 yX5_findWrongGlass, Cond.instanceMethod yX5_findWrongGlass, Cond.selects RX5 yX5_findWrongGlass yX5_findWrongGlass, Cond.code yX5_findWrongGlass cX5_findWrongGlass 22 (some .long), Cond.methodLink RX5 190 yX5_isMeasurable, Cond.static yX5_isMeasurable, Cond.code yX5_isMeasurable cX5_isMeasurable 2 (some .boolean), Cond.constantLong RX5 252 (-1000000000000), Cond.constantLong RX5 254 (1000000000000), Cond.methodLink RX5 193 yX5_missWith]
def wsL_law_r28 : List Cond := [Cond.instanceMethod yX5_missWith, Cond.selects RX5 yX5_missWith yX5_missWith, Cond.code yX5_missWith cX5_missWith 9 (some .long), Cond.methodLink RX5 269 yX3_changeWith, Cond.instanceMethod yX3_changeWith, Cond.selects RX3 yX3_changeWith yX3_changeWith, Cond.code yX3_changeWith cX3_changeWith 5 (some .long), Cond.methodLink RX5 197 yX3_glassOf, Cond.instanceMethod yX3_glassOf, Cond.selects RX3 yX3_glassOf yX3_glassOf, Cond.code yX3_glassOf cX3_glassOf 2 (some .int), Cond.methodLink RL 114 yX6_findWrongGlass, Cond.instanceMethod yX6_findWrongGlass, Cond.selects RX6 yX6_findWrongGlass yX6_findWrongGlass, Cond.code yX6_findWrongGlass cX6_findWrongGlass 7 (some .long), Cond.methodLink RX6 236 yX6_isMeasured, Cond.static yX6_isMeasured, Cond.code yX6_isMeasured cX6_isMeasured 2 (some .boolean), Cond.constantLong RX6 232 (-1000000000000), Cond.constantLong RX6 234 (1000000000000), Cond.methodLink RX6 239 yX6_wrongNow, Cond.instanceMethod yX6_wrongNow, Cond.selects RX6 yX6_wrongNow yX6_wrongNow, Cond.code yX6_wrongNow cX6_wrongNow 16 (some .long)]
def wsL_law_r29 : List Cond := [Cond.methodLink RX6 229 yX6_miss, Cond.instanceMethod yX6_miss, Cond.selects RX6 yX6_miss yX6_miss, Cond.code yX6_miss cX6_miss 6 (some .long), Cond.methodLink RL 115 yX5_addPlate, Cond.instanceMethod yX5_addPlate, Cond.selects RX5 yX5_addPlate yX5_addPlate, Cond.code yX5_addPlate cX5_addPlate 2 (some .long), Cond.constant RX5 200 (1000000), Cond.methodLink RX5 201 yX4_hasRadius, Cond.instanceMethod yX4_hasRadius, Cond.selects RX4 yX4_hasRadius yX4_hasRadius, Cond.code yX4_hasRadius cX4_hasRadius 3 (some .boolean), Cond.fieldLink RX4 15 "AchromatDesk$PlateSet" "count" "I", Cond.methodLink RX5 205 yX4_add, Cond.instanceMethod yX4_add, Cond.selects RX4 yX4_add yX4_add, Cond.code yX4_add cX4_add 2 none, Cond.methodLink RL 118 yX6_addPlate, Cond.instanceMethod yX6_addPlate, Cond.selects RX6 yX6_addPlate yX6_addPlate, Cond.code yX6_addPlate cX6_addPlate 3 (some .long), Cond.fieldLink RX6 243 "AchromatDeskModel" "plates" "I", Cond.methodLink RL 119 yX5_plateCount]
def wsL_law_r30 : List Cond := [Cond.instanceMethod yX5_plateCount, Cond.selects RX5 yX5_plateCount yX5_plateCount, Cond.code yX5_plateCount cX5_plateCount 1 (some .long), Cond.methodLink RL 122 yX6_plateCount, Cond.instanceMethod yX6_plateCount, Cond.selects RX6 yX6_plateCount yX6_plateCount, Cond.code yX6_plateCount cX6_plateCount 1 (some .long), Cond.methodLink RL 123 yX5_nearestPlate, Cond.instanceMethod yX5_nearestPlate, Cond.selects RX5 yX5_nearestPlate yX5_nearestPlate, Cond.code yX5_nearestPlate cX5_nearestPlate 3 (some .long), Cond.methodLink RX5 206 yX4_nearestTo, Cond.instanceMethod yX4_nearestTo, Cond.selects RX4 yX4_nearestTo yX4_nearestTo, Cond.code yX4_nearestTo cX4_nearestTo 9 (some .int), Cond.methodLink RX4 19 Lib.MathLoose.abs_long.x, Cond.methodLink RL 126 yX6_nearestPlate, Cond.instanceMethod yX6_nearestPlate, Cond.selects RX6 yX6_nearestPlate yX6_nearestPlate, Cond.code yX6_nearestPlate cX6_nearestPlate 9 (some .long), Cond.methodLink RL 127 yX5_bestSurfaces, Cond.instanceMethod yX5_bestSurfaces, Cond.selects RX5 yX5_bestSurfaces yX5_bestSurfaces, Cond.code yX5_bestSurfaces cX5_bestSurfaces 14 (some .long)]
def wsL_law_r31 : List Cond := [Cond.methodLink RX5 209 yX3_powerOf, Cond.instanceMethod yX3_powerOf, Cond.selects RX3 yX3_powerOf yX3_powerOf, Cond.code yX3_powerOf cX3_powerOf 2 (some .int), Cond.methodLink RX5 214 yX5_powerBetween, Cond.instanceMethod yX5_powerBetween, Cond.selects RX5 yX5_powerBetween yX5_powerBetween, Cond.code yX5_powerBetween cX5_powerBetween 9 (some .long), Cond.constantLong RX5 276 (10000000), Cond.methodLink RX5 273 yX4_signedRadius, Cond.instanceMethod yX4_signedRadius, Cond.selects RX4 yX4_signedRadius yX4_signedRadius, Cond.code yX4_signedRadius cX4_signedRadius 3 (some .long), Cond.methodLink RL 130 yX6_bestSurfaces, Cond.instanceMethod yX6_bestSurfaces, Cond.selects RX6 yX6_bestSurfaces yX6_bestSurfaces, Cond.code yX6_bestSurfaces cX6_bestSurfaces 2 (some .long), Cond.methodLink RX6 255 yX6_surfacesBest, Cond.instanceMethod yX6_surfacesBest, Cond.selects RX6 yX6_surfacesBest yX6_surfacesBest, Cond.code yX6_surfacesBest cX6_surfacesBest 15 (some .long), Cond.constantLong RX6 253 (10), Cond.methodLink RX6 246 yX6_signed, Cond.instanceMethod yX6_signed]
def wsL_law_r32 : List Cond := [Cond.selects RX6 yX6_signed yX6_signed, Cond.code yX6_signed cX6_signed 3 (some .long), Cond.methodLink RX6 249 yX6_surfaces, Cond.instanceMethod yX6_surfaces, Cond.selects RX6 yX6_surfaces yX6_surfaces, Cond.code yX6_surfaces cX6_surfaces 6 (some .long), Cond.methodLink RL 131 yX5_surfacePower, Cond.instanceMethod yX5_surfacePower, Cond.selects RX5 yX5_surfacePower yX5_surfacePower, Cond.code yX5_surfacePower cX5_surfacePower 7 (some .long), Cond.methodLink RX5 224 yX4_has, Cond.instanceMethod yX4_has, Cond.selects RX4 yX4_has yX4_has, Cond.code yX4_has cX4_has 2 (some .boolean), Cond.methodLink RL 134 yX6_surfacePower, Cond.instanceMethod yX6_surfacePower, Cond.selects RX6 yX6_surfacePower yX6_surfacePower, Cond.code yX6_surfacePower cX6_surfacePower 9 (some .long), Cond.methodLink RL 135 yX5_digest, Cond.instanceMethod yX5_digest, Cond.selects RX5 yX5_digest yX5_digest, Cond.code yX5_digest cX5_digest 5 (some .long), Cond.constantLong RX5 225 (1831), Cond.methodLink RX5 227 yX5_withGlasses]
def wsL_law_r33 : List Cond := [Cond.instanceMethod yX5_withGlasses, Cond.selects RX5 yX5_withGlasses yX5_withGlasses, Cond.code yX5_withGlasses cX5_withGlasses 7 (some .long), Cond.methodLink RX5 246 yX5_mixed, Cond.static yX5_mixed, Cond.code yX5_mixed cX5_mixed 4 (some .long), Cond.constantLong RX5 278 (31), Cond.methodLink RX5 280 yX5_index, Cond.methodLink RX5 283 yX5_placeByName, Cond.methodLink RX5 286 yX5_abbe, Cond.methodLink RX5 289 yX5_partial, Cond.methodLink RX5 292 yX5_balancePower, Cond.methodLink RX5 230 yX5_withDesigns, Cond.instanceMethod yX5_withDesigns, Cond.selects RX5 yX5_withDesigns yX5_withDesigns, Cond.code yX5_withDesigns cX5_withDesigns 6 (some .long), Cond.methodLink RX5 295 yX5_doubletCount, Cond.methodLink RX5 298 yX5_doubletAt, Cond.methodLink RX5 302 yX5_bestTriplet, Cond.methodLink RX5 233 yX5_withLenses, Cond.instanceMethod yX5_withLenses, Cond.selects RX5 yX5_withLenses yX5_withLenses, Cond.code yX5_withLenses cX5_withLenses 6 (some .long), Cond.methodLink RX5 305 yX5_bestSurfaces]
def wsL_law_r34 : List Cond := [Cond.methodLink RX5 239 yX5_systemPower, Cond.methodLink RX5 236 yX5_withPlates, Cond.instanceMethod yX5_withPlates, Cond.selects RX5 yX5_withPlates yX5_withPlates, Cond.code yX5_withPlates cX5_withPlates 6 (some .long), Cond.methodLink RX5 242 yX5_findWrongGlass, Cond.methodLink RX5 249 yX5_withBuffer, Cond.instanceMethod yX5_withBuffer, Cond.selects RX5 yX5_withBuffer yX5_withBuffer, Cond.code yX5_withBuffer cX5_withBuffer 6 (some .long), Cond.methodLink RX5 308 yX2_codeAt, Cond.methodLink RL 138 yX6_digest, Cond.instanceMethod yX6_digest, Cond.selects RX6 yX6_digest yX6_digest, Cond.code yX6_digest cX6_digest 3 (some .long), Cond.constantLong RX6 263 (1831), Cond.fieldLink RX6 260 "AchromatDeskModel" "h" "J", Cond.methodLink RX6 265 yX6_mix, Cond.instanceMethod yX6_mix, Cond.selects RX6 yX6_mix yX6_mix, Cond.code yX6_mix cX6_mix 3 none, Cond.constantLong RX6 258 (31)]
def wsL_law : List Cond := (wsL_law_r1 ++ (wsL_law_r2 ++ (wsL_law_r3 ++ (wsL_law_r4 ++ (wsL_law_r5 ++ (wsL_law_r6 ++ (wsL_law_r7 ++ (wsL_law_r8 ++ (wsL_law_r9 ++ (wsL_law_r10 ++ (wsL_law_r11 ++ (wsL_law_r12 ++ (wsL_law_r13 ++ (wsL_law_r14 ++ (wsL_law_r15 ++ (wsL_law_r16 ++ (wsL_law_r17 ++ (wsL_law_r18 ++ (wsL_law_r19 ++ (wsL_law_r20 ++ (wsL_law_r21 ++ (wsL_law_r22 ++ (wsL_law_r23 ++ (wsL_law_r24 ++ (wsL_law_r25 ++ (wsL_law_r26 ++ (wsL_law_r27 ++ (wsL_law_r28 ++ (wsL_law_r29 ++ (wsL_law_r30 ++ (wsL_law_r31 ++ (wsL_law_r32 ++ (wsL_law_r33 ++ wsL_law_r34))))))))))))))))))))))))))))))))) ++ wsX50 ++ wsX60 ++ wsX20 ++ wsX00 ++ wsX10 ++ wsX30 ++ wsX40 ++ ([] : List Cond)
end
section
theorem mem_r {big : List Cond} (ws : List Cond) (ps : List Nat) (hp : ws = ps.filterMap (fun i => big[i]?)) : ∀ w ∈ ws, w ∈ big := by
  intro w hw
  rw [hp] at hw
  obtain ⟨i, -, hi⟩ := List.mem_filterMap.mp hw
  exact List.mem_of_getElem? hi
set_option maxRecDepth 20000 in
theorem in_wsL_law_r1 : ∀ w ∈ wsL_law_r1, w ∈ lw_tbl := mem_r _ [56, 57, 47, 600, 601, 53, 961, 58, 59, 60, 61, 62, 63, 64, 65, 48, 161, 79, 80, 49, 162, 104, 105, 50] (by decide +kernel)
set_option maxRecDepth 20000 in
theorem in_wsL_law_r2 : ∀ w ∈ wsL_law_r2, w ∈ lw_tbl := mem_r _ [163, 130, 131, 51, 164, 147, 148, 52, 165, 67, 68, 69, 78, 70, 82, 83, 84, 103, 85, 86, 87, 88, 107, 108] (by decide +kernel)
set_option maxRecDepth 20000 in
theorem in_wsL_law_r3 : ∀ w ∈ wsL_law_r3, w ∈ lw_tbl := mem_r _ [109, 110, 111, 112, 113, 114, 133, 134, 135, 136, 137, 150, 151, 152, 153, 602, 603, 604, 605, 607, 609, 610, 612, 613] (by decide +kernel)
set_option maxRecDepth 20000 in
theorem in_wsL_law_r4 : ∀ w ∈ wsL_law_r4, w ∈ lw_tbl := mem_r _ [615, 617, 622, 177, 178, 179, 180, 181, 182, 183, 184, 185, 186, 71, 661, 662, 663, 664, 665, 666, 670, 606, 671, 667] (by decide +kernel)
set_option maxRecDepth 20000 in
theorem in_wsL_law_r5 : ∀ w ∈ wsL_law_r5, w ∈ lw_tbl := mem_r _ [668, 669, 187, 188, 189, 190, 191, 192, 193, 194, 672, 673, 674, 675, 195, 196, 197, 198, 199, 200, 201, 202, 203, 205] (by decide +kernel)
set_option maxRecDepth 20000 in
theorem in_wsL_law_r6 : ∀ w ∈ wsL_law_r6, w ∈ lw_tbl := mem_r _ [0, 206, 207, 208, 54, 209, 210, 211, 212, 213, 214, 215, 216, 217, 218, 676, 677, 678, 679, 618, 680, 682, 13, 683] (by decide +kernel)
set_option maxRecDepth 20000 in
theorem in_wsL_law_r7 : ∀ w ∈ wsL_law_r7, w ∈ lw_tbl := mem_r _ [616, 684, 685, 686, 687, 688, 689, 619, 690, 219, 220, 221, 222, 228, 251, 223, 224, 225, 226, 227, 229, 230, 231, 232] (by decide +kernel)
set_option maxRecDepth 20000 in
theorem in_wsL_law_r8 : ∀ w ∈ wsL_law_r8, w ∈ lw_tbl := mem_r _ [233, 234, 235, 236, 237, 238, 239, 240, 241, 242, 243, 244, 245, 246, 247, 248, 249, 250, 89, 252, 253, 254, 255, 691] (by decide +kernel)
set_option maxRecDepth 20000 in
theorem in_wsL_law_r9 : ∀ w ∈ wsL_law_r9, w ∈ lw_tbl := mem_r _ [692, 693, 694, 695, 608, 706, 696, 698, 14, 699, 700, 701, 702, 704, 15, 705, 256, 257, 258, 259, 264, 269, 260, 261] (by decide +kernel)
set_option maxRecDepth 20000 in
theorem in_wsL_law_r10 : ∀ w ∈ wsL_law_r10, w ∈ lw_tbl := mem_r _ [262, 263, 265, 266, 267, 268, 138, 270, 271, 272, 273, 274, 275, 276, 277, 278, 707, 708, 709, 710, 715, 611, 716, 711] (by decide +kernel)
set_option maxRecDepth 20000 in
theorem in_wsL_law_r11 : ∀ w ∈ wsL_law_r11, w ∈ lw_tbl := mem_r _ [713, 16, 714, 279, 280, 281, 282, 717, 718, 719, 720, 283, 284, 285, 286, 287, 288, 289, 290, 291, 292, 293, 721, 722] (by decide +kernel)
set_option maxRecDepth 20000 in
theorem in_wsL_law_r12 : ∀ w ∈ wsL_law_r12, w ∈ lw_tbl := mem_r _ [723, 724, 725, 726, 727, 294, 295, 296, 297, 298, 299, 300, 301, 728, 729, 730, 731, 732, 734, 17, 735, 302, 303, 304] (by decide +kernel)
set_option maxRecDepth 20000 in
theorem in_wsL_law_r13 : ∀ w ∈ wsL_law_r13, w ∈ lw_tbl := mem_r _ [305, 306, 307, 308, 309, 310, 311, 312, 313, 314, 315, 316, 317, 318, 319, 321, 322, 323, 324, 54, 325, 736, 737, 738] (by decide +kernel)
set_option maxRecDepth 20000 in
theorem in_wsL_law_r14 : ∀ w ∈ wsL_law_r14, w ∈ lw_tbl := mem_r _ [739, 740, 742, 18, 743, 744, 745, 747, 19, 748, 749, 750, 752, 20, 753, 326, 327, 328, 329, 330, 331, 332, 333, 334] (by decide +kernel)
set_option maxRecDepth 20000 in
theorem in_wsL_law_r15 : ∀ w ∈ wsL_law_r15, w ∈ lw_tbl := mem_r _ [335, 336, 754, 755, 756, 757, 758, 760, 21, 761, 762, 763, 765, 22, 766, 337, 338, 339, 340, 346, 341, 342, 343, 344] (by decide +kernel)
set_option maxRecDepth 20000 in
theorem in_wsL_law_r16 : ∀ w ∈ wsL_law_r16, w ∈ lw_tbl := mem_r _ [345, 767, 768, 769, 770, 771, 347, 348, 349, 350, 359, 351, 352, 353, 354, 355, 356, 357, 358, 772, 773, 774, 775, 776] (by decide +kernel)
set_option maxRecDepth 20000 in
theorem in_wsL_law_r17 : ∀ w ∈ wsL_law_r17, w ∈ lw_tbl := mem_r _ [777, 778, 780, 23, 781, 782, 783, 784, 360, 361, 362, 363, 364, 365, 366, 367, 368, 369, 785, 786, 787, 788, 789, 790] (by decide +kernel)
set_option maxRecDepth 20000 in
theorem in_wsL_law_r18 : ∀ w ∈ wsL_law_r18, w ∈ lw_tbl := mem_r _ [792, 24, 793, 370, 371, 372, 373, 374, 375, 376, 377, 115, 378, 379, 381, 1, 382, 384, 385, 386, 383, 387, 388, 389] (by decide +kernel)
set_option maxRecDepth 20000 in
theorem in_wsL_law_r19 : ∀ w ∈ wsL_law_r19, w ∈ lw_tbl := mem_r _ [390, 391, 392, 393, 395, 2, 396, 397, 399, 3, 400, 401, 402, 55, 403, 404, 405, 406, 407, 794, 795, 796, 797, 798] (by decide +kernel)
set_option maxRecDepth 20000 in
theorem in_wsL_law_r20 : ∀ w ∈ wsL_law_r20, w ∈ lw_tbl := mem_r _ [800, 25, 801, 620, 828, 621, 802, 804, 26, 805, 806, 808, 27, 809, 810, 812, 28, 813, 814, 816, 29, 817, 818, 819] (by decide +kernel)
set_option maxRecDepth 20000 in
theorem in_wsL_law_r21 : ∀ w ∈ wsL_law_r21, w ∈ lw_tbl := mem_r _ [820, 821, 822, 823, 824, 826, 30, 827, 408, 409, 410, 411, 829, 830, 831, 832, 412, 413, 414, 415, 416, 417, 418, 419] (by decide +kernel)
set_option maxRecDepth 20000 in
theorem in_wsL_law_r22 : ∀ w ∈ wsL_law_r22, w ∈ lw_tbl := mem_r _ [420, 833, 834, 835, 836, 837, 839, 31, 840, 841, 843, 32, 844, 845, 847, 33, 848, 421, 422, 423, 424, 425, 427, 4] (by decide +kernel)
set_option maxRecDepth 20000 in
theorem in_wsL_law_r23 : ∀ w ∈ wsL_law_r23, w ∈ lw_tbl := mem_r _ [428, 429, 435, 436, 437, 430, 431, 432, 433, 434, 849, 850, 851, 852, 853, 855, 34, 856, 857, 858, 860, 35, 861, 438] (by decide +kernel)
set_option maxRecDepth 20000 in
theorem in_wsL_law_r24 : ∀ w ∈ wsL_law_r24, w ∈ lw_tbl := mem_r _ [439, 440, 441, 442, 443, 444, 445, 446, 447, 862, 863, 864, 865, 866, 867, 448, 449, 450, 451, 456, 452, 453, 454, 455] (by decide +kernel)
set_option maxRecDepth 20000 in
theorem in_wsL_law_r25 : ∀ w ∈ wsL_law_r25, w ∈ lw_tbl := mem_r _ [457, 458, 459, 460, 461, 868, 869, 870, 871, 876, 872, 874, 36, 875, 462, 463, 464, 465, 877, 878, 879, 880, 466, 467] (by decide +kernel)
set_option maxRecDepth 20000 in
theorem in_wsL_law_r26 : ∀ w ∈ wsL_law_r26, w ∈ lw_tbl := mem_r _ [468, 469, 470, 471, 472, 473, 474, 476, 5, 477, 479, 480, 478, 481, 881, 882, 883, 884, 885, 887, 37, 888, 889, 891] (by decide +kernel)
set_option maxRecDepth 20000 in
theorem in_wsL_law_r27 : ∀ w ∈ wsL_law_r27, w ∈ lw_tbl := mem_r _ [38, 892, 483, 484, 485, 486, 893, 894, 895, 896, 897, 899, 39, 900, 487, 488, 489, 490, 491, 492, 493, 494, 495, 496] (by decide +kernel)
set_option maxRecDepth 20000 in
theorem in_wsL_law_r28 : ∀ w ∈ wsL_law_r28, w ∈ lw_tbl := mem_r _ [498, 6, 499, 500, 501, 502, 503, 504, 505, 506, 507, 901, 902, 903, 904, 905, 906, 907, 908, 909, 910, 912, 40, 913] (by decide +kernel)
set_option maxRecDepth 20000 in
theorem in_wsL_law_r29 : ∀ w ∈ wsL_law_r29, w ∈ lw_tbl := mem_r _ [914, 916, 41, 917, 508, 509, 510, 511, 512, 513, 514, 515, 516, 154, 517, 518, 519, 520, 918, 919, 920, 921, 614, 521] (by decide +kernel)
set_option maxRecDepth 20000 in
theorem in_wsL_law_r30 : ∀ w ∈ wsL_law_r30, w ∈ lw_tbl := mem_r _ [522, 523, 524, 922, 923, 924, 925, 525, 526, 527, 528, 529, 530, 531, 532, 533, 926, 927, 928, 929, 534, 535, 536, 537] (by decide +kernel)
set_option maxRecDepth 20000 in
theorem in_wsL_law_r31 : ∀ w ∈ wsL_law_r31, w ∈ lw_tbl := mem_r _ [538, 539, 540, 541, 542, 544, 7, 545, 550, 546, 547, 548, 549, 930, 931, 932, 933, 934, 936, 42, 937, 946, 938, 940] (by decide +kernel)
set_option maxRecDepth 20000 in
theorem in_wsL_law_r32 : ∀ w ∈ wsL_law_r32, w ∈ lw_tbl := mem_r _ [43, 941, 942, 944, 44, 945, 551, 552, 553, 554, 555, 556, 557, 558, 947, 948, 949, 950, 559, 560, 561, 562, 563, 564] (by decide +kernel)
set_option maxRecDepth 20000 in
theorem in_wsL_law_r33 : ∀ w ∈ wsL_law_r33, w ∈ lw_tbl := mem_r _ [566, 8, 567, 568, 569, 570, 571, 572, 573, 574, 575, 576, 577, 579, 9, 580, 581, 582, 583, 584, 586, 10, 587, 588] (by decide +kernel)
set_option maxRecDepth 20000 in
theorem in_wsL_law_r34 : ∀ w ∈ wsL_law_r34, w ∈ lw_tbl := mem_r _ [589, 590, 592, 11, 593, 594, 595, 597, 12, 598, 599, 951, 952, 953, 954, 955, 623, 956, 958, 45, 959, 960] (by decide +kernel)
set_option maxRecDepth 20000 in
theorem in_wsX50 : ∀ w ∈ wsX50, w ∈ lw_tbl := mem_r _ [166, 168, 170, 172, 174] (by decide +kernel)
set_option maxRecDepth 20000 in
theorem in_wsX60 : ∀ w ∈ wsX60, w ∈ lw_tbl := mem_r _ [624, 626, 628, 630, 632, 634, 636, 638, 640, 642, 644, 646, 648, 650, 652, 654, 656, 658] (by decide +kernel)
set_option maxRecDepth 20000 in
theorem in_wsX20 : ∀ w ∈ wsX20, w ∈ lw_tbl := mem_r _ [73, 75] (by decide +kernel)
set_option maxRecDepth 20000 in
theorem in_wsX00 : ∀ w ∈ wsX00, w ∈ lw_tbl := mem_r _ [92, 94, 96, 98, 100] (by decide +kernel)
set_option maxRecDepth 20000 in
theorem in_wsX10 : ∀ w ∈ wsX10, w ∈ lw_tbl := mem_r _ [117, 119, 121, 123, 125, 127] (by decide +kernel)
set_option maxRecDepth 20000 in
theorem in_wsX30 : ∀ w ∈ wsX30, w ∈ lw_tbl := mem_r _ [140, 142, 144] (by decide +kernel)
set_option maxRecDepth 20000 in
theorem in_wsX40 : ∀ w ∈ wsX40, w ∈ lw_tbl := mem_r _ [156, 158] (by decide +kernel)
theorem mem_app {big a b : List Cond} (ha : ∀ w ∈ a, w ∈ big) (hb : ∀ w ∈ b, w ∈ big) : ∀ w ∈ a ++ b, w ∈ big := fun w h => (List.mem_append.mp h).elim (ha w) (hb w)
theorem wsL_law_in : ∀ w ∈ wsL_law, w ∈ lw_tbl := (mem_app (mem_app (mem_app (mem_app (mem_app (mem_app (mem_app (mem_app (mem_app in_wsL_law_r1 (mem_app in_wsL_law_r2 (mem_app in_wsL_law_r3 (mem_app in_wsL_law_r4 (mem_app in_wsL_law_r5 (mem_app in_wsL_law_r6 (mem_app in_wsL_law_r7 (mem_app in_wsL_law_r8 (mem_app in_wsL_law_r9 (mem_app in_wsL_law_r10 (mem_app in_wsL_law_r11 (mem_app in_wsL_law_r12 (mem_app in_wsL_law_r13 (mem_app in_wsL_law_r14 (mem_app in_wsL_law_r15 (mem_app in_wsL_law_r16 (mem_app in_wsL_law_r17 (mem_app in_wsL_law_r18 (mem_app in_wsL_law_r19 (mem_app in_wsL_law_r20 (mem_app in_wsL_law_r21 (mem_app in_wsL_law_r22 (mem_app in_wsL_law_r23 (mem_app in_wsL_law_r24 (mem_app in_wsL_law_r25 (mem_app in_wsL_law_r26 (mem_app in_wsL_law_r27 (mem_app in_wsL_law_r28 (mem_app in_wsL_law_r29 (mem_app in_wsL_law_r30 (mem_app in_wsL_law_r31 (mem_app in_wsL_law_r32 (mem_app in_wsL_law_r33 in_wsL_law_r34))))))))))))))))))))))))))))))))) in_wsX50) in_wsX60) in_wsX20) in_wsX00) in_wsX10) in_wsX30) in_wsX40) (fun _ h => absurd h List.not_mem_nil))
theorem inlX0 : ∀ w ∈ wsX00, w ∈ wsL_law := fun _ h => List.mem_append_left _ (List.mem_append_left _ (List.mem_append_left _ (List.mem_append_left _ (List.mem_append_right _ h))))
theorem inX0 : ∀ w ∈ wsX00, w ∈ lw_tbl := fun w h => wsL_law_in w (inlX0 w h)
theorem inlX1 : ∀ w ∈ wsX10, w ∈ wsL_law := fun _ h => List.mem_append_left _ (List.mem_append_left _ (List.mem_append_left _ (List.mem_append_right _ h)))
theorem inX1 : ∀ w ∈ wsX10, w ∈ lw_tbl := fun w h => wsL_law_in w (inlX1 w h)
theorem inlX2 : ∀ w ∈ wsX20, w ∈ wsL_law := fun _ h => List.mem_append_left _ (List.mem_append_left _ (List.mem_append_left _ (List.mem_append_left _ (List.mem_append_left _ (List.mem_append_right _ h)))))
theorem inX2 : ∀ w ∈ wsX20, w ∈ lw_tbl := fun w h => wsL_law_in w (inlX2 w h)
theorem inlX3 : ∀ w ∈ wsX30, w ∈ wsL_law := fun _ h => List.mem_append_left _ (List.mem_append_left _ (List.mem_append_right _ h))
theorem inX3 : ∀ w ∈ wsX30, w ∈ lw_tbl := fun w h => wsL_law_in w (inlX3 w h)
theorem inlX4 : ∀ w ∈ wsX40, w ∈ wsL_law := fun _ h => List.mem_append_left _ (List.mem_append_right _ h)
theorem inX4 : ∀ w ∈ wsX40, w ∈ lw_tbl := fun w h => wsL_law_in w (inlX4 w h)
theorem inlX5 : ∀ w ∈ wsX50, w ∈ wsL_law := fun _ h => List.mem_append_left _ (List.mem_append_left _ (List.mem_append_left _ (List.mem_append_left _ (List.mem_append_left _ (List.mem_append_left _ (List.mem_append_left _ (List.mem_append_right _ h)))))))
theorem inX5 : ∀ w ∈ wsX50, w ∈ lw_tbl := fun w h => wsL_law_in w (inlX5 w h)
theorem inlX6 : ∀ w ∈ wsX60, w ∈ wsL_law := fun _ h => List.mem_append_left _ (List.mem_append_left _ (List.mem_append_left _ (List.mem_append_left _ (List.mem_append_left _ (List.mem_append_left _ (List.mem_append_right _ h))))))
theorem inX6 : ∀ w ∈ wsX60, w ∈ lw_tbl := fun w h => wsL_law_in w (inlX6 w h)
theorem inJ13 : ∀ w ∈ wsJ130, w ∈ lw_tbl := by decide +kernel
theorem inJ9 : ∀ w ∈ wsJ90, w ∈ lw_tbl := by decide +kernel
theorem dX0_init_0 : decode cX0_init 0 = .ok (.aload_n 0, 1) := by decide +kernel
theorem dX0_init_1 : decode cX0_init 1 = .ok (.invokespecial 3, 3) := by decide +kernel
theorem dX0_init_4 : decode cX0_init 4 = .ok (.aload_n 0, 1) := by decide +kernel
theorem dX0_init_5 : decode cX0_init 5 = .ok (.bipush 20, 2) := by decide +kernel
theorem dX0_init_7 : decode cX0_init 7 = .ok (.newarray .long, 2) := by decide +kernel
theorem dX0_init_9 : decode cX0_init 9 = .ok (.putfield 9, 3) := by decide +kernel
theorem dX0_init_12 : decode cX0_init 12 = .ok (.aload_n 0, 1) := by decide +kernel
theorem dX0_init_13 : decode cX0_init 13 = .ok (.bipush 20, 2) := by decide +kernel
theorem dX0_init_15 : decode cX0_init 15 = .ok (.newarray .int, 2) := by decide +kernel
theorem dX0_init_17 : decode cX0_init 17 = .ok (.putfield 15, 3) := by decide +kernel
theorem dX0_init_20 : decode cX0_init 20 = .ok (.aload_n 0, 1) := by decide +kernel
theorem dX0_init_21 : decode cX0_init 21 = .ok (.bipush 20, 2) := by decide +kernel
theorem dX0_init_23 : decode cX0_init 23 = .ok (.newarray .int, 2) := by decide +kernel
theorem dX0_init_25 : decode cX0_init 25 = .ok (.putfield 19, 3) := by decide +kernel
theorem dX0_init_28 : decode cX0_init 28 = .ok (.aload_n 0, 1) := by decide +kernel
theorem dX0_init_29 : decode cX0_init 29 = .ok (.bipush 20, 2) := by decide +kernel
theorem dX0_init_31 : decode cX0_init 31 = .ok (.newarray .int, 2) := by decide +kernel
theorem dX0_init_33 : decode cX0_init 33 = .ok (.putfield 22, 3) := by decide +kernel
theorem dX0_init_36 : decode cX0_init 36 = .ok (.return_, 1) := by decide +kernel
theorem dX0_has_0 : decode cX0_has 0 = .ok (.iload_n 1, 1) := by decide +kernel
theorem dX0_has_1 : decode cX0_has 1 = .ok (.ifCond .lt 15, 3) := by decide +kernel
theorem dX0_has_4 : decode cX0_has 4 = .ok (.iload_n 1, 1) := by decide +kernel
theorem dX0_has_5 : decode cX0_has 5 = .ok (.aload_n 0, 1) := by decide +kernel
theorem dX0_has_6 : decode cX0_has 6 = .ok (.getfield 25, 3) := by decide +kernel
theorem dX0_has_9 : decode cX0_has 9 = .ok (.if_icmp .ge 7, 3) := by decide +kernel
theorem dX0_has_12 : decode cX0_has 12 = .ok (.iconst 1, 1) := by decide +kernel
theorem dX0_has_13 : decode cX0_has 13 = .ok (.goto 4, 3) := by decide +kernel
theorem dX0_has_16 : decode cX0_has 16 = .ok (.iconst 0, 1) := by decide +kernel
theorem dX0_has_17 : decode cX0_has 17 = .ok (.ireturn, 1) := by decide +kernel
theorem dX0_hasName_0 : decode cX0_hasName 0 = .ok (.iconst 0, 1) := by decide +kernel
theorem dX0_hasName_1 : decode cX0_hasName 1 = .ok (.istore_n 3, 1) := by decide +kernel
theorem dX0_hasName_2 : decode cX0_hasName 2 = .ok (.iload_n 3, 1) := by decide +kernel
theorem dX0_hasName_3 : decode cX0_hasName 3 = .ok (.aload_n 0, 1) := by decide +kernel
theorem dX0_hasName_4 : decode cX0_hasName 4 = .ok (.getfield 25, 3) := by decide +kernel
theorem dX0_hasName_7 : decode cX0_hasName 7 = .ok (.if_icmp .ge 22, 3) := by decide +kernel
theorem dX0_hasName_10 : decode cX0_hasName 10 = .ok (.aload_n 0, 1) := by decide +kernel
theorem dX0_hasName_11 : decode cX0_hasName 11 = .ok (.getfield 9, 3) := by decide +kernel
theorem dX0_hasName_14 : decode cX0_hasName 14 = .ok (.iload_n 3, 1) := by decide +kernel
theorem dX0_hasName_15 : decode cX0_hasName 15 = .ok (.laload, 1) := by decide +kernel
theorem dX0_hasName_16 : decode cX0_hasName 16 = .ok (.lload_n 1, 1) := by decide +kernel
theorem dX0_hasName_17 : decode cX0_hasName 17 = .ok (.lcmp, 1) := by decide +kernel
theorem dX0_hasName_18 : decode cX0_hasName 18 = .ok (.ifCond .ne 5, 3) := by decide +kernel
theorem dX0_hasName_21 : decode cX0_hasName 21 = .ok (.iconst 1, 1) := by decide +kernel
theorem dX0_hasName_22 : decode cX0_hasName 22 = .ok (.ireturn, 1) := by decide +kernel
theorem dX0_hasName_23 : decode cX0_hasName 23 = .ok (.iinc 3 1, 3) := by decide +kernel
theorem dX0_hasName_26 : decode cX0_hasName 26 = .ok (.goto (-24), 3) := by decide +kernel
theorem dX0_hasName_29 : decode cX0_hasName 29 = .ok (.iconst 0, 1) := by decide +kernel
theorem dX0_hasName_30 : decode cX0_hasName 30 = .ok (.ireturn, 1) := by decide +kernel
theorem dX0_add_0 : decode cX0_add 0 = .ok (.aload_n 0, 1) := by decide +kernel
theorem dX0_add_1 : decode cX0_add 1 = .ok (.getfield 25, 3) := by decide +kernel
theorem dX0_add_4 : decode cX0_add 4 = .ok (.bipush 20, 2) := by decide +kernel
theorem dX0_add_6 : decode cX0_add 6 = .ok (.if_icmp .ge 55, 3) := by decide +kernel
theorem dX0_add_9 : decode cX0_add 9 = .ok (.aload_n 0, 1) := by decide +kernel
theorem dX0_add_10 : decode cX0_add 10 = .ok (.getfield 9, 3) := by decide +kernel
theorem dX0_add_13 : decode cX0_add 13 = .ok (.aload_n 0, 1) := by decide +kernel
theorem dX0_add_14 : decode cX0_add 14 = .ok (.getfield 25, 3) := by decide +kernel
theorem dX0_add_17 : decode cX0_add 17 = .ok (.lload_n 1, 1) := by decide +kernel
theorem dX0_add_18 : decode cX0_add 18 = .ok (.lastore, 1) := by decide +kernel
theorem dX0_add_19 : decode cX0_add 19 = .ok (.aload_n 0, 1) := by decide +kernel
theorem dX0_add_20 : decode cX0_add 20 = .ok (.getfield 15, 3) := by decide +kernel
theorem dX0_add_23 : decode cX0_add 23 = .ok (.aload_n 0, 1) := by decide +kernel
theorem dX0_add_24 : decode cX0_add 24 = .ok (.getfield 25, 3) := by decide +kernel
theorem dX0_add_27 : decode cX0_add 27 = .ok (.iload_n 3, 1) := by decide +kernel
theorem dX0_add_28 : decode cX0_add 28 = .ok (.iastore, 1) := by decide +kernel
theorem dX0_add_29 : decode cX0_add 29 = .ok (.aload_n 0, 1) := by decide +kernel
theorem dX0_add_30 : decode cX0_add 30 = .ok (.getfield 19, 3) := by decide +kernel
theorem dX0_add_33 : decode cX0_add 33 = .ok (.aload_n 0, 1) := by decide +kernel
theorem dX0_add_34 : decode cX0_add 34 = .ok (.getfield 25, 3) := by decide +kernel
theorem dX0_add_37 : decode cX0_add 37 = .ok (.iload 4, 2) := by decide +kernel
theorem dX0_add_39 : decode cX0_add 39 = .ok (.iastore, 1) := by decide +kernel
theorem dX0_add_40 : decode cX0_add 40 = .ok (.aload_n 0, 1) := by decide +kernel
theorem dX0_add_41 : decode cX0_add 41 = .ok (.getfield 22, 3) := by decide +kernel
theorem dX0_add_44 : decode cX0_add 44 = .ok (.aload_n 0, 1) := by decide +kernel
theorem dX0_add_45 : decode cX0_add 45 = .ok (.getfield 25, 3) := by decide +kernel
theorem dX0_add_48 : decode cX0_add 48 = .ok (.iload 5, 2) := by decide +kernel
theorem dX0_add_50 : decode cX0_add 50 = .ok (.iastore, 1) := by decide +kernel
theorem dX0_add_51 : decode cX0_add 51 = .ok (.aload_n 0, 1) := by decide +kernel
theorem dX0_add_52 : decode cX0_add 52 = .ok (.dup, 1) := by decide +kernel
theorem dX0_add_53 : decode cX0_add 53 = .ok (.getfield 25, 3) := by decide +kernel
theorem dX0_add_56 : decode cX0_add 56 = .ok (.iconst 1, 1) := by decide +kernel
theorem dX0_add_57 : decode cX0_add 57 = .ok (.iadd, 1) := by decide +kernel
theorem dX0_add_58 : decode cX0_add 58 = .ok (.putfield 25, 3) := by decide +kernel
theorem dX0_add_61 : decode cX0_add 61 = .ok (.return_, 1) := by decide +kernel
set_option maxRecDepth 20000 in
theorem ggX0_remove_X0_has : GoodIn wsX0_remove wsX0_has := goodIn_r _ [10, 1, 11, 12, 13, 14, 15] (by decide +kernel) (by decide +kernel)
set_option maxRecDepth 20000 in
theorem gX0_remove_X0_has : GoodIn wsX0_remove (wsV RX0 29 RX0 yX0_has wsX0_has) := goodIn_app (goodIn_of _ (by decide +kernel)) ggX0_remove_X0_has
theorem dX0_remove_0 : decode cX0_remove 0 = .ok (.aload_n 0, 1) := by decide +kernel
theorem dX0_remove_1 : decode cX0_remove 1 = .ok (.iload_n 1, 1) := by decide +kernel
theorem dX0_remove_2 : decode cX0_remove 2 = .ok (.invokevirtual 29, 3) := by decide +kernel
theorem dX0_remove_5 : decode cX0_remove 5 = .ok (.ifCond .eq 87, 3) := by decide +kernel
theorem dX0_remove_8 : decode cX0_remove 8 = .ok (.iload_n 1, 1) := by decide +kernel
theorem dX0_remove_9 : decode cX0_remove 9 = .ok (.iconst 1, 1) := by decide +kernel
theorem dX0_remove_10 : decode cX0_remove 10 = .ok (.iadd, 1) := by decide +kernel
theorem dX0_remove_11 : decode cX0_remove 11 = .ok (.istore_n 2, 1) := by decide +kernel
theorem dX0_remove_12 : decode cX0_remove 12 = .ok (.iload_n 2, 1) := by decide +kernel
theorem dX0_remove_13 : decode cX0_remove 13 = .ok (.aload_n 0, 1) := by decide +kernel
theorem dX0_remove_14 : decode cX0_remove 14 = .ok (.getfield 25, 3) := by decide +kernel
theorem dX0_remove_17 : decode cX0_remove 17 = .ok (.if_icmp .ge 65, 3) := by decide +kernel
theorem dX0_remove_20 : decode cX0_remove 20 = .ok (.aload_n 0, 1) := by decide +kernel
theorem dX0_remove_21 : decode cX0_remove 21 = .ok (.getfield 9, 3) := by decide +kernel
theorem dX0_remove_24 : decode cX0_remove 24 = .ok (.iload_n 2, 1) := by decide +kernel
theorem dX0_remove_25 : decode cX0_remove 25 = .ok (.iconst 1, 1) := by decide +kernel
theorem dX0_remove_26 : decode cX0_remove 26 = .ok (.isub, 1) := by decide +kernel
theorem dX0_remove_27 : decode cX0_remove 27 = .ok (.aload_n 0, 1) := by decide +kernel
theorem dX0_remove_28 : decode cX0_remove 28 = .ok (.getfield 9, 3) := by decide +kernel
theorem dX0_remove_31 : decode cX0_remove 31 = .ok (.iload_n 2, 1) := by decide +kernel
theorem dX0_remove_32 : decode cX0_remove 32 = .ok (.laload, 1) := by decide +kernel
theorem dX0_remove_33 : decode cX0_remove 33 = .ok (.lastore, 1) := by decide +kernel
theorem dX0_remove_34 : decode cX0_remove 34 = .ok (.aload_n 0, 1) := by decide +kernel
theorem dX0_remove_35 : decode cX0_remove 35 = .ok (.getfield 15, 3) := by decide +kernel
theorem dX0_remove_38 : decode cX0_remove 38 = .ok (.iload_n 2, 1) := by decide +kernel
theorem dX0_remove_39 : decode cX0_remove 39 = .ok (.iconst 1, 1) := by decide +kernel
theorem dX0_remove_40 : decode cX0_remove 40 = .ok (.isub, 1) := by decide +kernel
theorem dX0_remove_41 : decode cX0_remove 41 = .ok (.aload_n 0, 1) := by decide +kernel
theorem dX0_remove_42 : decode cX0_remove 42 = .ok (.getfield 15, 3) := by decide +kernel
theorem dX0_remove_45 : decode cX0_remove 45 = .ok (.iload_n 2, 1) := by decide +kernel
theorem dX0_remove_46 : decode cX0_remove 46 = .ok (.iaload, 1) := by decide +kernel
theorem dX0_remove_47 : decode cX0_remove 47 = .ok (.iastore, 1) := by decide +kernel
theorem dX0_remove_48 : decode cX0_remove 48 = .ok (.aload_n 0, 1) := by decide +kernel
theorem dX0_remove_49 : decode cX0_remove 49 = .ok (.getfield 19, 3) := by decide +kernel
theorem dX0_remove_52 : decode cX0_remove 52 = .ok (.iload_n 2, 1) := by decide +kernel
theorem dX0_remove_53 : decode cX0_remove 53 = .ok (.iconst 1, 1) := by decide +kernel
theorem dX0_remove_54 : decode cX0_remove 54 = .ok (.isub, 1) := by decide +kernel
theorem dX0_remove_55 : decode cX0_remove 55 = .ok (.aload_n 0, 1) := by decide +kernel
theorem dX0_remove_56 : decode cX0_remove 56 = .ok (.getfield 19, 3) := by decide +kernel
theorem dX0_remove_59 : decode cX0_remove 59 = .ok (.iload_n 2, 1) := by decide +kernel
theorem dX0_remove_60 : decode cX0_remove 60 = .ok (.iaload, 1) := by decide +kernel
theorem dX0_remove_61 : decode cX0_remove 61 = .ok (.iastore, 1) := by decide +kernel
theorem dX0_remove_62 : decode cX0_remove 62 = .ok (.aload_n 0, 1) := by decide +kernel
theorem dX0_remove_63 : decode cX0_remove 63 = .ok (.getfield 22, 3) := by decide +kernel
theorem dX0_remove_66 : decode cX0_remove 66 = .ok (.iload_n 2, 1) := by decide +kernel
theorem dX0_remove_67 : decode cX0_remove 67 = .ok (.iconst 1, 1) := by decide +kernel
theorem dX0_remove_68 : decode cX0_remove 68 = .ok (.isub, 1) := by decide +kernel
theorem dX0_remove_69 : decode cX0_remove 69 = .ok (.aload_n 0, 1) := by decide +kernel
theorem dX0_remove_70 : decode cX0_remove 70 = .ok (.getfield 22, 3) := by decide +kernel
theorem dX0_remove_73 : decode cX0_remove 73 = .ok (.iload_n 2, 1) := by decide +kernel
theorem dX0_remove_74 : decode cX0_remove 74 = .ok (.iaload, 1) := by decide +kernel
theorem dX0_remove_75 : decode cX0_remove 75 = .ok (.iastore, 1) := by decide +kernel
theorem dX0_remove_76 : decode cX0_remove 76 = .ok (.iinc 2 1, 3) := by decide +kernel
theorem dX0_remove_79 : decode cX0_remove 79 = .ok (.goto (-67), 3) := by decide +kernel
theorem dX0_remove_82 : decode cX0_remove 82 = .ok (.aload_n 0, 1) := by decide +kernel
theorem dX0_remove_83 : decode cX0_remove 83 = .ok (.dup, 1) := by decide +kernel
theorem dX0_remove_84 : decode cX0_remove 84 = .ok (.getfield 25, 3) := by decide +kernel
theorem dX0_remove_87 : decode cX0_remove 87 = .ok (.iconst 1, 1) := by decide +kernel
theorem dX0_remove_88 : decode cX0_remove 88 = .ok (.isub, 1) := by decide +kernel
theorem dX0_remove_89 : decode cX0_remove 89 = .ok (.putfield 25, 3) := by decide +kernel
theorem dX0_remove_92 : decode cX0_remove 92 = .ok (.return_, 1) := by decide +kernel
theorem dX0_indexFor_0 : decode cX0_indexFor 0 = .ok (.iload_n 2, 1) := by decide +kernel
theorem dX0_indexFor_1 : decode cX0_indexFor 1 = .ok (.lookupswitch 43 #[(0, 27), (1, 35)], 27) := by decide +kernel
theorem dX0_indexFor_28 : decode cX0_indexFor 28 = .ok (.aload_n 0, 1) := by decide +kernel
theorem dX0_indexFor_29 : decode cX0_indexFor 29 = .ok (.getfield 15, 3) := by decide +kernel
theorem dX0_indexFor_32 : decode cX0_indexFor 32 = .ok (.iload_n 1, 1) := by decide +kernel
theorem dX0_indexFor_33 : decode cX0_indexFor 33 = .ok (.iaload, 1) := by decide +kernel
theorem dX0_indexFor_34 : decode cX0_indexFor 34 = .ok (.i2l, 1) := by decide +kernel
theorem dX0_indexFor_35 : decode cX0_indexFor 35 = .ok (.lreturn, 1) := by decide +kernel
theorem dX0_indexFor_36 : decode cX0_indexFor 36 = .ok (.aload_n 0, 1) := by decide +kernel
theorem dX0_indexFor_37 : decode cX0_indexFor 37 = .ok (.getfield 19, 3) := by decide +kernel
theorem dX0_indexFor_40 : decode cX0_indexFor 40 = .ok (.iload_n 1, 1) := by decide +kernel
theorem dX0_indexFor_41 : decode cX0_indexFor 41 = .ok (.iaload, 1) := by decide +kernel
theorem dX0_indexFor_42 : decode cX0_indexFor 42 = .ok (.i2l, 1) := by decide +kernel
theorem dX0_indexFor_43 : decode cX0_indexFor 43 = .ok (.lreturn, 1) := by decide +kernel
theorem dX0_indexFor_44 : decode cX0_indexFor 44 = .ok (.aload_n 0, 1) := by decide +kernel
theorem dX0_indexFor_45 : decode cX0_indexFor 45 = .ok (.getfield 22, 3) := by decide +kernel
theorem dX0_indexFor_48 : decode cX0_indexFor 48 = .ok (.iload_n 1, 1) := by decide +kernel
theorem dX0_indexFor_49 : decode cX0_indexFor 49 = .ok (.iaload, 1) := by decide +kernel
theorem dX0_indexFor_50 : decode cX0_indexFor 50 = .ok (.i2l, 1) := by decide +kernel
theorem dX0_indexFor_51 : decode cX0_indexFor 51 = .ok (.lreturn, 1) := by decide +kernel
theorem dX0_namesBefore_0 : decode cX0_namesBefore 0 = .ok (.iconst 0, 1) := by decide +kernel
theorem dX0_namesBefore_1 : decode cX0_namesBefore 1 = .ok (.istore_n 2, 1) := by decide +kernel
theorem dX0_namesBefore_2 : decode cX0_namesBefore 2 = .ok (.iconst 0, 1) := by decide +kernel
theorem dX0_namesBefore_3 : decode cX0_namesBefore 3 = .ok (.istore_n 3, 1) := by decide +kernel
theorem dX0_namesBefore_4 : decode cX0_namesBefore 4 = .ok (.iload_n 3, 1) := by decide +kernel
theorem dX0_namesBefore_5 : decode cX0_namesBefore 5 = .ok (.aload_n 0, 1) := by decide +kernel
theorem dX0_namesBefore_6 : decode cX0_namesBefore 6 = .ok (.getfield 25, 3) := by decide +kernel
theorem dX0_namesBefore_9 : decode cX0_namesBefore 9 = .ok (.if_icmp .ge 28, 3) := by decide +kernel
theorem dX0_namesBefore_12 : decode cX0_namesBefore 12 = .ok (.aload_n 0, 1) := by decide +kernel
theorem dX0_namesBefore_13 : decode cX0_namesBefore 13 = .ok (.getfield 9, 3) := by decide +kernel
theorem dX0_namesBefore_16 : decode cX0_namesBefore 16 = .ok (.iload_n 3, 1) := by decide +kernel
theorem dX0_namesBefore_17 : decode cX0_namesBefore 17 = .ok (.laload, 1) := by decide +kernel
theorem dX0_namesBefore_18 : decode cX0_namesBefore 18 = .ok (.aload_n 0, 1) := by decide +kernel
theorem dX0_namesBefore_19 : decode cX0_namesBefore 19 = .ok (.getfield 9, 3) := by decide +kernel
theorem dX0_namesBefore_22 : decode cX0_namesBefore 22 = .ok (.iload_n 1, 1) := by decide +kernel
theorem dX0_namesBefore_23 : decode cX0_namesBefore 23 = .ok (.laload, 1) := by decide +kernel
theorem dX0_namesBefore_24 : decode cX0_namesBefore 24 = .ok (.lcmp, 1) := by decide +kernel
theorem dX0_namesBefore_25 : decode cX0_namesBefore 25 = .ok (.ifCond .ge 6, 3) := by decide +kernel
theorem dX0_namesBefore_28 : decode cX0_namesBefore 28 = .ok (.iinc 2 1, 3) := by decide +kernel
theorem dX0_namesBefore_31 : decode cX0_namesBefore 31 = .ok (.iinc 3 1, 3) := by decide +kernel
theorem dX0_namesBefore_34 : decode cX0_namesBefore 34 = .ok (.goto (-30), 3) := by decide +kernel
theorem dX0_namesBefore_37 : decode cX0_namesBefore 37 = .ok (.iload_n 2, 1) := by decide +kernel
theorem dX0_namesBefore_38 : decode cX0_namesBefore 38 = .ok (.ireturn, 1) := by decide +kernel
set_option maxRecDepth 20000 in
theorem ggX0_abbeNumber_X0_valueA : GoodIn wsX0_abbeNumber wsX0_valueA := goodIn_r _ [6, 7, 8, 22, 23, 24, 25, 26] (by decide +kernel) (by decide +kernel)
set_option maxRecDepth 20000 in
theorem gX0_abbeNumber_X0_valueA : GoodIn wsX0_abbeNumber (wsV RX0 35 RX0 yX0_valueA wsX0_valueA) := goodIn_app (goodIn_of _ (by decide +kernel)) ggX0_abbeNumber_X0_valueA
set_option maxRecDepth 20000 in
theorem ggX0_abbeNumber_X0_valueB : GoodIn wsX0_abbeNumber wsX0_valueB := goodIn_r _ [12, 13, 14, 22, 23, 24, 25, 26] (by decide +kernel) (by decide +kernel)
set_option maxRecDepth 20000 in
theorem gX0_abbeNumber_X0_valueB : GoodIn wsX0_abbeNumber (wsV RX0 39 RX0 yX0_valueB wsX0_valueB) := goodIn_app (goodIn_of _ (by decide +kernel)) ggX0_abbeNumber_X0_valueB
set_option maxRecDepth 20000 in
theorem ggX0_abbeNumber_X5_floorQuotient : GoodIn wsX0_abbeNumber wsX5_floorQuotient := goodIn_r _ [17, 18, 19, 20, 21] (by decide +kernel) (by decide +kernel)
set_option maxRecDepth 20000 in
theorem gX0_abbeNumber_X5_floorQuotient_n42 : GoodIn wsX0_abbeNumber (wsX5_floorQuotient) := ggX0_abbeNumber_X5_floorQuotient
theorem dX0_abbeNumber_0 : decode cX0_abbeNumber 0 = .ok (.ldc2_w 33, 3) := by decide +kernel
theorem dX0_abbeNumber_3 : decode cX0_abbeNumber 3 = .ok (.aload_n 0, 1) := by decide +kernel
theorem dX0_abbeNumber_4 : decode cX0_abbeNumber 4 = .ok (.iload_n 1, 1) := by decide +kernel
theorem dX0_abbeNumber_5 : decode cX0_abbeNumber 5 = .ok (.invokevirtual 35, 3) := by decide +kernel
theorem dX0_abbeNumber_8 : decode cX0_abbeNumber 8 = .ok (.lmul, 1) := by decide +kernel
theorem dX0_abbeNumber_9 : decode cX0_abbeNumber 9 = .ok (.aload_n 0, 1) := by decide +kernel
theorem dX0_abbeNumber_10 : decode cX0_abbeNumber 10 = .ok (.iload_n 1, 1) := by decide +kernel
theorem dX0_abbeNumber_11 : decode cX0_abbeNumber 11 = .ok (.invokevirtual 39, 3) := by decide +kernel
theorem dX0_abbeNumber_14 : decode cX0_abbeNumber 14 = .ok (.invokestatic 42, 3) := by decide +kernel
theorem dX0_abbeNumber_17 : decode cX0_abbeNumber 17 = .ok (.lreturn, 1) := by decide +kernel
set_option maxRecDepth 20000 in
theorem ggX0_leastAbbeFrom_X0_abbeNumber : GoodIn wsX0_leastAbbeFrom wsX0_abbeNumber := goodIn_r _ [6, 7, 8, 9, 10, 5, 11, 12, 13, 14, 15, 16, 17, 18, 19, 20, 21, 22, 23, 24, 25, 26, 27, 28, 29, 30, 31] (by decide +kernel) (by decide +kernel)
set_option maxRecDepth 20000 in
theorem gX0_leastAbbeFrom_X0_abbeNumber : GoodIn wsX0_leastAbbeFrom (wsV RX0 46 RX0 yX0_abbeNumber wsX0_abbeNumber) := goodIn_app (goodIn_of _ (by decide +kernel)) ggX0_leastAbbeFrom_X0_abbeNumber
theorem dX0_leastAbbeFrom_0 : decode cX0_leastAbbeFrom 0 = .ok (.iconst (-1), 1) := by decide +kernel
theorem dX0_leastAbbeFrom_1 : decode cX0_leastAbbeFrom 1 = .ok (.istore_n 2, 1) := by decide +kernel
theorem dX0_leastAbbeFrom_2 : decode cX0_leastAbbeFrom 2 = .ok (.lconst 0, 1) := by decide +kernel
theorem dX0_leastAbbeFrom_3 : decode cX0_leastAbbeFrom 3 = .ok (.lstore_n 3, 1) := by decide +kernel
theorem dX0_leastAbbeFrom_4 : decode cX0_leastAbbeFrom 4 = .ok (.iconst 0, 1) := by decide +kernel
theorem dX0_leastAbbeFrom_5 : decode cX0_leastAbbeFrom 5 = .ok (.istore 5, 2) := by decide +kernel
theorem dX0_leastAbbeFrom_7 : decode cX0_leastAbbeFrom 7 = .ok (.iload 5, 2) := by decide +kernel
theorem dX0_leastAbbeFrom_9 : decode cX0_leastAbbeFrom 9 = .ok (.aload_n 0, 1) := by decide +kernel
theorem dX0_leastAbbeFrom_10 : decode cX0_leastAbbeFrom 10 = .ok (.getfield 25, 3) := by decide +kernel
theorem dX0_leastAbbeFrom_13 : decode cX0_leastAbbeFrom 13 = .ok (.if_icmp .ge 42, 3) := by decide +kernel
theorem dX0_leastAbbeFrom_16 : decode cX0_leastAbbeFrom 16 = .ok (.aload_n 0, 1) := by decide +kernel
theorem dX0_leastAbbeFrom_17 : decode cX0_leastAbbeFrom 17 = .ok (.iload 5, 2) := by decide +kernel
theorem dX0_leastAbbeFrom_19 : decode cX0_leastAbbeFrom 19 = .ok (.invokevirtual 46, 3) := by decide +kernel
theorem dX0_leastAbbeFrom_22 : decode cX0_leastAbbeFrom 22 = .ok (.lstore 6, 2) := by decide +kernel
theorem dX0_leastAbbeFrom_24 : decode cX0_leastAbbeFrom 24 = .ok (.lload 6, 2) := by decide +kernel
theorem dX0_leastAbbeFrom_26 : decode cX0_leastAbbeFrom 26 = .ok (.iload_n 1, 1) := by decide +kernel
theorem dX0_leastAbbeFrom_27 : decode cX0_leastAbbeFrom 27 = .ok (.i2l, 1) := by decide +kernel
theorem dX0_leastAbbeFrom_28 : decode cX0_leastAbbeFrom 28 = .ok (.lcmp, 1) := by decide +kernel
theorem dX0_leastAbbeFrom_29 : decode cX0_leastAbbeFrom 29 = .ok (.ifCond .lt 20, 3) := by decide +kernel
theorem dX0_leastAbbeFrom_32 : decode cX0_leastAbbeFrom 32 = .ok (.iload_n 2, 1) := by decide +kernel
theorem dX0_leastAbbeFrom_33 : decode cX0_leastAbbeFrom 33 = .ok (.ifCond .lt 10, 3) := by decide +kernel
theorem dX0_leastAbbeFrom_36 : decode cX0_leastAbbeFrom 36 = .ok (.lload 6, 2) := by decide +kernel
theorem dX0_leastAbbeFrom_38 : decode cX0_leastAbbeFrom 38 = .ok (.lload_n 3, 1) := by decide +kernel
theorem dX0_leastAbbeFrom_39 : decode cX0_leastAbbeFrom 39 = .ok (.lcmp, 1) := by decide +kernel
theorem dX0_leastAbbeFrom_40 : decode cX0_leastAbbeFrom 40 = .ok (.ifCond .ge 9, 3) := by decide +kernel
theorem dX0_leastAbbeFrom_43 : decode cX0_leastAbbeFrom 43 = .ok (.iload 5, 2) := by decide +kernel
theorem dX0_leastAbbeFrom_45 : decode cX0_leastAbbeFrom 45 = .ok (.istore_n 2, 1) := by decide +kernel
theorem dX0_leastAbbeFrom_46 : decode cX0_leastAbbeFrom 46 = .ok (.lload 6, 2) := by decide +kernel
theorem dX0_leastAbbeFrom_48 : decode cX0_leastAbbeFrom 48 = .ok (.lstore_n 3, 1) := by decide +kernel
theorem dX0_leastAbbeFrom_49 : decode cX0_leastAbbeFrom 49 = .ok (.iinc 5 1, 3) := by decide +kernel
theorem dX0_leastAbbeFrom_52 : decode cX0_leastAbbeFrom 52 = .ok (.goto (-45), 3) := by decide +kernel
theorem dX0_leastAbbeFrom_55 : decode cX0_leastAbbeFrom 55 = .ok (.iload_n 2, 1) := by decide +kernel
theorem dX0_leastAbbeFrom_56 : decode cX0_leastAbbeFrom 56 = .ok (.ireturn, 1) := by decide +kernel
theorem dX0_valueA_0 : decode cX0_valueA 0 = .ok (.aload_n 0, 1) := by decide +kernel
theorem dX0_valueA_1 : decode cX0_valueA 1 = .ok (.getfield 19, 3) := by decide +kernel
theorem dX0_valueA_4 : decode cX0_valueA 4 = .ok (.iload_n 1, 1) := by decide +kernel
theorem dX0_valueA_5 : decode cX0_valueA 5 = .ok (.iaload, 1) := by decide +kernel
theorem dX0_valueA_6 : decode cX0_valueA 6 = .ok (.ldc 49, 2) := by decide +kernel
theorem dX0_valueA_8 : decode cX0_valueA 8 = .ok (.isub, 1) := by decide +kernel
theorem dX0_valueA_9 : decode cX0_valueA 9 = .ok (.i2l, 1) := by decide +kernel
theorem dX0_valueA_10 : decode cX0_valueA 10 = .ok (.lreturn, 1) := by decide +kernel
theorem dX0_valueB_0 : decode cX0_valueB 0 = .ok (.aload_n 0, 1) := by decide +kernel
theorem dX0_valueB_1 : decode cX0_valueB 1 = .ok (.getfield 15, 3) := by decide +kernel
theorem dX0_valueB_4 : decode cX0_valueB 4 = .ok (.iload_n 1, 1) := by decide +kernel
theorem dX0_valueB_5 : decode cX0_valueB 5 = .ok (.iaload, 1) := by decide +kernel
theorem dX0_valueB_6 : decode cX0_valueB 6 = .ok (.aload_n 0, 1) := by decide +kernel
theorem dX0_valueB_7 : decode cX0_valueB 7 = .ok (.getfield 22, 3) := by decide +kernel
theorem dX0_valueB_10 : decode cX0_valueB 10 = .ok (.iload_n 1, 1) := by decide +kernel
theorem dX0_valueB_11 : decode cX0_valueB 11 = .ok (.iaload, 1) := by decide +kernel
theorem dX0_valueB_12 : decode cX0_valueB 12 = .ok (.isub, 1) := by decide +kernel
theorem dX0_valueB_13 : decode cX0_valueB 13 = .ok (.i2l, 1) := by decide +kernel
theorem dX0_valueB_14 : decode cX0_valueB 14 = .ok (.lreturn, 1) := by decide +kernel
theorem dX0_valueD_0 : decode cX0_valueD 0 = .ok (.aload_n 0, 1) := by decide +kernel
theorem dX0_valueD_1 : decode cX0_valueD 1 = .ok (.getfield 15, 3) := by decide +kernel
theorem dX0_valueD_4 : decode cX0_valueD 4 = .ok (.iload_n 1, 1) := by decide +kernel
theorem dX0_valueD_5 : decode cX0_valueD 5 = .ok (.iaload, 1) := by decide +kernel
theorem dX0_valueD_6 : decode cX0_valueD 6 = .ok (.aload_n 0, 1) := by decide +kernel
theorem dX0_valueD_7 : decode cX0_valueD 7 = .ok (.getfield 19, 3) := by decide +kernel
theorem dX0_valueD_10 : decode cX0_valueD 10 = .ok (.iload_n 1, 1) := by decide +kernel
theorem dX0_valueD_11 : decode cX0_valueD 11 = .ok (.iaload, 1) := by decide +kernel
theorem dX0_valueD_12 : decode cX0_valueD 12 = .ok (.isub, 1) := by decide +kernel
theorem dX0_valueD_13 : decode cX0_valueD 13 = .ok (.i2l, 1) := by decide +kernel
theorem dX0_valueD_14 : decode cX0_valueD 14 = .ok (.lreturn, 1) := by decide +kernel
set_option maxRecDepth 20000 in
theorem ggX0_valueE_X0_valueA : GoodIn wsX0_valueE wsX0_valueA := goodIn_r _ [5, 6, 7, 14, 15, 16, 17, 18] (by decide +kernel) (by decide +kernel)
set_option maxRecDepth 20000 in
theorem gX0_valueE_X0_valueA : GoodIn wsX0_valueE (wsV RX0 35 RX0 yX0_valueA wsX0_valueA) := goodIn_app (goodIn_of _ (by decide +kernel)) ggX0_valueE_X0_valueA
set_option maxRecDepth 20000 in
theorem ggX0_valueE_X0_valueB : GoodIn wsX0_valueE wsX0_valueB := goodIn_r _ [11, 12, 13, 14, 15, 16, 17, 18] (by decide +kernel) (by decide +kernel)
set_option maxRecDepth 20000 in
theorem gX0_valueE_X0_valueB : GoodIn wsX0_valueE (wsV RX0 39 RX0 yX0_valueB wsX0_valueB) := goodIn_app (goodIn_of _ (by decide +kernel)) ggX0_valueE_X0_valueB
theorem dX0_valueE_0 : decode cX0_valueE 0 = .ok (.aload_n 0, 1) := by decide +kernel
theorem dX0_valueE_1 : decode cX0_valueE 1 = .ok (.iload_n 1, 1) := by decide +kernel
theorem dX0_valueE_2 : decode cX0_valueE 2 = .ok (.invokevirtual 35, 3) := by decide +kernel
theorem dX0_valueE_5 : decode cX0_valueE 5 = .ok (.aload_n 0, 1) := by decide +kernel
theorem dX0_valueE_6 : decode cX0_valueE 6 = .ok (.iload_n 2, 1) := by decide +kernel
theorem dX0_valueE_7 : decode cX0_valueE 7 = .ok (.invokevirtual 39, 3) := by decide +kernel
theorem dX0_valueE_10 : decode cX0_valueE 10 = .ok (.lmul, 1) := by decide +kernel
theorem dX0_valueE_11 : decode cX0_valueE 11 = .ok (.aload_n 0, 1) := by decide +kernel
theorem dX0_valueE_12 : decode cX0_valueE 12 = .ok (.iload_n 2, 1) := by decide +kernel
theorem dX0_valueE_13 : decode cX0_valueE 13 = .ok (.invokevirtual 35, 3) := by decide +kernel
theorem dX0_valueE_16 : decode cX0_valueE 16 = .ok (.aload_n 0, 1) := by decide +kernel
theorem dX0_valueE_17 : decode cX0_valueE 17 = .ok (.iload_n 1, 1) := by decide +kernel
theorem dX0_valueE_18 : decode cX0_valueE 18 = .ok (.invokevirtual 39, 3) := by decide +kernel
theorem dX0_valueE_21 : decode cX0_valueE 21 = .ok (.lmul, 1) := by decide +kernel
theorem dX0_valueE_22 : decode cX0_valueE 22 = .ok (.lsub, 1) := by decide +kernel
theorem dX0_valueE_23 : decode cX0_valueE 23 = .ok (.lreturn, 1) := by decide +kernel
set_option maxRecDepth 20000 in
theorem ggX0_valueX_X0_valueB : GoodIn wsX0_valueX wsX0_valueB := goodIn_r _ [5, 6, 7, 13, 14, 15, 16, 17] (by decide +kernel) (by decide +kernel)
set_option maxRecDepth 20000 in
theorem gX0_valueX_X0_valueB : GoodIn wsX0_valueX (wsV RX0 39 RX0 yX0_valueB wsX0_valueB) := goodIn_app (goodIn_of _ (by decide +kernel)) ggX0_valueX_X0_valueB
set_option maxRecDepth 20000 in
theorem ggX0_valueX_X0_valueD : GoodIn wsX0_valueX wsX0_valueD := goodIn_r _ [11, 6, 12, 13, 14, 15, 16, 17] (by decide +kernel) (by decide +kernel)
set_option maxRecDepth 20000 in
theorem gX0_valueX_X0_valueD : GoodIn wsX0_valueX (wsV RX0 50 RX0 yX0_valueD wsX0_valueD) := goodIn_app (goodIn_of _ (by decide +kernel)) ggX0_valueX_X0_valueD
theorem dX0_valueX_0 : decode cX0_valueX 0 = .ok (.aload_n 0, 1) := by decide +kernel
theorem dX0_valueX_1 : decode cX0_valueX 1 = .ok (.iload_n 1, 1) := by decide +kernel
theorem dX0_valueX_2 : decode cX0_valueX 2 = .ok (.invokevirtual 39, 3) := by decide +kernel
theorem dX0_valueX_5 : decode cX0_valueX 5 = .ok (.aload_n 0, 1) := by decide +kernel
theorem dX0_valueX_6 : decode cX0_valueX 6 = .ok (.iload_n 2, 1) := by decide +kernel
theorem dX0_valueX_7 : decode cX0_valueX 7 = .ok (.invokevirtual 50, 3) := by decide +kernel
theorem dX0_valueX_10 : decode cX0_valueX 10 = .ok (.lmul, 1) := by decide +kernel
theorem dX0_valueX_11 : decode cX0_valueX 11 = .ok (.aload_n 0, 1) := by decide +kernel
theorem dX0_valueX_12 : decode cX0_valueX 12 = .ok (.iload_n 2, 1) := by decide +kernel
theorem dX0_valueX_13 : decode cX0_valueX 13 = .ok (.invokevirtual 39, 3) := by decide +kernel
theorem dX0_valueX_16 : decode cX0_valueX 16 = .ok (.aload_n 0, 1) := by decide +kernel
theorem dX0_valueX_17 : decode cX0_valueX 17 = .ok (.iload_n 1, 1) := by decide +kernel
theorem dX0_valueX_18 : decode cX0_valueX 18 = .ok (.invokevirtual 50, 3) := by decide +kernel
theorem dX0_valueX_21 : decode cX0_valueX 21 = .ok (.lmul, 1) := by decide +kernel
theorem dX0_valueX_22 : decode cX0_valueX 22 = .ok (.lsub, 1) := by decide +kernel
theorem dX0_valueX_23 : decode cX0_valueX 23 = .ok (.lreturn, 1) := by decide +kernel
set_option maxRecDepth 20000 in
theorem ggX0_tripletShare_X0_valueA : GoodIn wsX0_tripletShare wsX0_valueA := goodIn_r _ [5, 6, 7, 22, 23, 24, 25, 26] (by decide +kernel) (by decide +kernel)
set_option maxRecDepth 20000 in
theorem gX0_tripletShare_X0_valueA : GoodIn wsX0_tripletShare (wsV RX0 35 RX0 yX0_valueA wsX0_valueA) := goodIn_app (goodIn_of _ (by decide +kernel)) ggX0_tripletShare_X0_valueA
set_option maxRecDepth 20000 in
theorem ggX0_tripletShare_X0_valueX : GoodIn wsX0_tripletShare wsX0_valueX := goodIn_r _ [11, 12, 13, 14, 4, 15, 16, 17, 18, 19, 20, 21, 6, 22, 23, 24, 25, 26] (by decide +kernel) (by decide +kernel)
set_option maxRecDepth 20000 in
theorem gX0_tripletShare_X0_valueX : GoodIn wsX0_tripletShare (wsV RX0 53 RX0 yX0_valueX wsX0_valueX) := goodIn_app (goodIn_of _ (by decide +kernel)) ggX0_tripletShare_X0_valueX
theorem dX0_tripletShare_0 : decode cX0_tripletShare 0 = .ok (.aload_n 0, 1) := by decide +kernel
theorem dX0_tripletShare_1 : decode cX0_tripletShare 1 = .ok (.iload_n 1, 1) := by decide +kernel
theorem dX0_tripletShare_2 : decode cX0_tripletShare 2 = .ok (.invokevirtual 35, 3) := by decide +kernel
theorem dX0_tripletShare_5 : decode cX0_tripletShare 5 = .ok (.aload_n 0, 1) := by decide +kernel
theorem dX0_tripletShare_6 : decode cX0_tripletShare 6 = .ok (.iload_n 2, 1) := by decide +kernel
theorem dX0_tripletShare_7 : decode cX0_tripletShare 7 = .ok (.iload_n 3, 1) := by decide +kernel
theorem dX0_tripletShare_8 : decode cX0_tripletShare 8 = .ok (.invokevirtual 53, 3) := by decide +kernel
theorem dX0_tripletShare_11 : decode cX0_tripletShare 11 = .ok (.lmul, 1) := by decide +kernel
theorem dX0_tripletShare_12 : decode cX0_tripletShare 12 = .ok (.lreturn, 1) := by decide +kernel
theorem dX1_init_0 : decode cX1_init 0 = .ok (.aload_n 0, 1) := by decide +kernel
theorem dX1_init_1 : decode cX1_init 1 = .ok (.invokespecial 3, 3) := by decide +kernel
theorem dX1_init_4 : decode cX1_init 4 = .ok (.aload_n 0, 1) := by decide +kernel
theorem dX1_init_5 : decode cX1_init 5 = .ok (.sipush 190, 3) := by decide +kernel
theorem dX1_init_8 : decode cX1_init 8 = .ok (.newarray .int, 2) := by decide +kernel
theorem dX1_init_10 : decode cX1_init 10 = .ok (.putfield 9, 3) := by decide +kernel
theorem dX1_init_13 : decode cX1_init 13 = .ok (.aload_n 0, 1) := by decide +kernel
theorem dX1_init_14 : decode cX1_init 14 = .ok (.sipush 190, 3) := by decide +kernel
theorem dX1_init_17 : decode cX1_init 17 = .ok (.newarray .long, 2) := by decide +kernel
theorem dX1_init_19 : decode cX1_init 19 = .ok (.putfield 15, 3) := by decide +kernel
theorem dX1_init_22 : decode cX1_init 22 = .ok (.aload_n 0, 1) := by decide +kernel
theorem dX1_init_23 : decode cX1_init 23 = .ok (.sipush 190, 3) := by decide +kernel
theorem dX1_init_26 : decode cX1_init 26 = .ok (.newarray .long, 2) := by decide +kernel
theorem dX1_init_28 : decode cX1_init 28 = .ok (.putfield 19, 3) := by decide +kernel
theorem dX1_init_31 : decode cX1_init 31 = .ok (.aload_n 0, 1) := by decide +kernel
theorem dX1_init_32 : decode cX1_init 32 = .ok (.sipush 190, 3) := by decide +kernel
theorem dX1_init_35 : decode cX1_init 35 = .ok (.newarray .long, 2) := by decide +kernel
theorem dX1_init_37 : decode cX1_init 37 = .ok (.putfield 22, 3) := by decide +kernel
theorem dX1_init_40 : decode cX1_init 40 = .ok (.aload_n 0, 1) := by decide +kernel
theorem dX1_init_41 : decode cX1_init 41 = .ok (.sipush 190, 3) := by decide +kernel
theorem dX1_init_44 : decode cX1_init 44 = .ok (.newarray .int, 2) := by decide +kernel
theorem dX1_init_46 : decode cX1_init 46 = .ok (.putfield 25, 3) := by decide +kernel
theorem dX1_init_49 : decode cX1_init 49 = .ok (.return_, 1) := by decide +kernel
set_option maxRecDepth 20000 in
theorem ggX1_collect_X0_valueE : GoodIn wsX1_collect wsX0_valueE := goodIn_r _ [6, 7, 8, 9, 5, 10, 11, 12, 13, 14, 15, 16, 17, 18, 48, 49, 50, 51, 52] (by decide +kernel) (by decide +kernel)
set_option maxRecDepth 20000 in
theorem gX1_collect_X0_valueE : GoodIn wsX1_collect (wsV RX1 35 RX0 yX0_valueE wsX0_valueE) := goodIn_app (goodIn_of _ (by decide +kernel)) ggX1_collect_X0_valueE
set_option maxRecDepth 20000 in
theorem ggX1_collect_X1_keep : GoodIn wsX1_collect wsX1_keep := goodIn_r _ [23, 24, 1, 25, 26, 27, 28, 29, 30, 31, 2, 3, 4, 5, 6, 7, 8, 9, 10, 11, 12, 13, 14, 15, 16, 17, 18, 32, 33, 34, 35, 36, 37, 38, 39, 40, 41, 42, 43, 44, 45, 46, 47, 48, 49, 50, 51, 52] (by decide +kernel) (by decide +kernel)
set_option maxRecDepth 20000 in
theorem gX1_collect_X1_keep : GoodIn wsX1_collect (wsV RX1 39 RX1 yX1_keep wsX1_keep) := goodIn_app (goodIn_of _ (by decide +kernel)) ggX1_collect_X1_keep
theorem dX1_collect_0 : decode cX1_collect 0 = .ok (.aload_n 0, 1) := by decide +kernel
theorem dX1_collect_1 : decode cX1_collect 1 = .ok (.iconst 0, 1) := by decide +kernel
theorem dX1_collect_2 : decode cX1_collect 2 = .ok (.putfield 28, 3) := by decide +kernel
theorem dX1_collect_5 : decode cX1_collect 5 = .ok (.iconst 0, 1) := by decide +kernel
theorem dX1_collect_6 : decode cX1_collect 6 = .ok (.istore_n 2, 1) := by decide +kernel
theorem dX1_collect_7 : decode cX1_collect 7 = .ok (.iload_n 2, 1) := by decide +kernel
theorem dX1_collect_8 : decode cX1_collect 8 = .ok (.aload_n 1, 1) := by decide +kernel
theorem dX1_collect_9 : decode cX1_collect 9 = .ok (.getfield 32, 3) := by decide +kernel
theorem dX1_collect_12 : decode cX1_collect 12 = .ok (.if_icmp .ge 53, 3) := by decide +kernel
theorem dX1_collect_15 : decode cX1_collect 15 = .ok (.iconst 0, 1) := by decide +kernel
theorem dX1_collect_16 : decode cX1_collect 16 = .ok (.istore_n 3, 1) := by decide +kernel
theorem dX1_collect_17 : decode cX1_collect 17 = .ok (.iload_n 3, 1) := by decide +kernel
theorem dX1_collect_18 : decode cX1_collect 18 = .ok (.aload_n 1, 1) := by decide +kernel
theorem dX1_collect_19 : decode cX1_collect 19 = .ok (.getfield 32, 3) := by decide +kernel
theorem dX1_collect_22 : decode cX1_collect 22 = .ok (.if_icmp .ge 37, 3) := by decide +kernel
theorem dX1_collect_25 : decode cX1_collect 25 = .ok (.aload_n 1, 1) := by decide +kernel
theorem dX1_collect_26 : decode cX1_collect 26 = .ok (.iload_n 2, 1) := by decide +kernel
theorem dX1_collect_27 : decode cX1_collect 27 = .ok (.iload_n 3, 1) := by decide +kernel
theorem dX1_collect_28 : decode cX1_collect 28 = .ok (.invokevirtual 35, 3) := by decide +kernel
theorem dX1_collect_31 : decode cX1_collect 31 = .ok (.lconst 0, 1) := by decide +kernel
theorem dX1_collect_32 : decode cX1_collect 32 = .ok (.lcmp, 1) := by decide +kernel
theorem dX1_collect_33 : decode cX1_collect 33 = .ok (.ifCond .le 20, 3) := by decide +kernel
theorem dX1_collect_36 : decode cX1_collect 36 = .ok (.aload_n 0, 1) := by decide +kernel
theorem dX1_collect_37 : decode cX1_collect 37 = .ok (.getfield 28, 3) := by decide +kernel
theorem dX1_collect_40 : decode cX1_collect 40 = .ok (.sipush 190, 3) := by decide +kernel
theorem dX1_collect_43 : decode cX1_collect 43 = .ok (.if_icmp .ge 10, 3) := by decide +kernel
theorem dX1_collect_46 : decode cX1_collect 46 = .ok (.aload_n 0, 1) := by decide +kernel
theorem dX1_collect_47 : decode cX1_collect 47 = .ok (.iload_n 2, 1) := by decide +kernel
theorem dX1_collect_48 : decode cX1_collect 48 = .ok (.iload_n 3, 1) := by decide +kernel
theorem dX1_collect_49 : decode cX1_collect 49 = .ok (.aload_n 1, 1) := by decide +kernel
theorem dX1_collect_50 : decode cX1_collect 50 = .ok (.invokevirtual 39, 3) := by decide +kernel
theorem dX1_collect_53 : decode cX1_collect 53 = .ok (.iinc 3 1, 3) := by decide +kernel
theorem dX1_collect_56 : decode cX1_collect 56 = .ok (.goto (-39), 3) := by decide +kernel
theorem dX1_collect_59 : decode cX1_collect 59 = .ok (.iinc 2 1, 3) := by decide +kernel
theorem dX1_collect_62 : decode cX1_collect 62 = .ok (.goto (-55), 3) := by decide +kernel
theorem dX1_collect_65 : decode cX1_collect 65 = .ok (.return_, 1) := by decide +kernel
set_option maxRecDepth 20000 in
theorem ggX1_rank_X1_placeAmong : GoodIn wsX1_rank wsX1_placeAmong := goodIn_r _ [7, 2, 8, 9, 10, 6, 11, 12, 13, 14, 15, 16, 17, 18, 19, 20, 21, 22, 23, 24] (by decide +kernel) (by decide +kernel)
set_option maxRecDepth 20000 in
theorem gX1_rank_X1_placeAmong : GoodIn wsX1_rank (wsV RX1 43 RX1 yX1_placeAmong wsX1_placeAmong) := goodIn_app (goodIn_of _ (by decide +kernel)) ggX1_rank_X1_placeAmong
theorem dX1_rank_0 : decode cX1_rank 0 = .ok (.iconst 0, 1) := by decide +kernel
theorem dX1_rank_1 : decode cX1_rank 1 = .ok (.istore_n 2, 1) := by decide +kernel
theorem dX1_rank_2 : decode cX1_rank 2 = .ok (.iload_n 2, 1) := by decide +kernel
theorem dX1_rank_3 : decode cX1_rank 3 = .ok (.aload_n 0, 1) := by decide +kernel
theorem dX1_rank_4 : decode cX1_rank 4 = .ok (.getfield 28, 3) := by decide +kernel
theorem dX1_rank_7 : decode cX1_rank 7 = .ok (.if_icmp .ge 54, 3) := by decide +kernel
theorem dX1_rank_10 : decode cX1_rank 10 = .ok (.aload_n 0, 1) := by decide +kernel
theorem dX1_rank_11 : decode cX1_rank 11 = .ok (.iload_n 2, 1) := by decide +kernel
theorem dX1_rank_12 : decode cX1_rank 12 = .ok (.iload_n 1, 1) := by decide +kernel
theorem dX1_rank_13 : decode cX1_rank 13 = .ok (.invokevirtual 43, 3) := by decide +kernel
theorem dX1_rank_16 : decode cX1_rank 16 = .ok (.istore_n 3, 1) := by decide +kernel
theorem dX1_rank_17 : decode cX1_rank 17 = .ok (.iload_n 2, 1) := by decide +kernel
theorem dX1_rank_18 : decode cX1_rank 18 = .ok (.istore 4, 2) := by decide +kernel
theorem dX1_rank_20 : decode cX1_rank 20 = .ok (.iload 4, 2) := by decide +kernel
theorem dX1_rank_22 : decode cX1_rank 22 = .ok (.iload_n 3, 1) := by decide +kernel
theorem dX1_rank_23 : decode cX1_rank 23 = .ok (.if_icmp .le 25, 3) := by decide +kernel
theorem dX1_rank_26 : decode cX1_rank 26 = .ok (.aload_n 0, 1) := by decide +kernel
theorem dX1_rank_27 : decode cX1_rank 27 = .ok (.getfield 25, 3) := by decide +kernel
theorem dX1_rank_30 : decode cX1_rank 30 = .ok (.iload 4, 2) := by decide +kernel
theorem dX1_rank_32 : decode cX1_rank 32 = .ok (.aload_n 0, 1) := by decide +kernel
theorem dX1_rank_33 : decode cX1_rank 33 = .ok (.getfield 25, 3) := by decide +kernel
theorem dX1_rank_36 : decode cX1_rank 36 = .ok (.iload 4, 2) := by decide +kernel
theorem dX1_rank_38 : decode cX1_rank 38 = .ok (.iconst 1, 1) := by decide +kernel
theorem dX1_rank_39 : decode cX1_rank 39 = .ok (.isub, 1) := by decide +kernel
theorem dX1_rank_40 : decode cX1_rank 40 = .ok (.iaload, 1) := by decide +kernel
theorem dX1_rank_41 : decode cX1_rank 41 = .ok (.iastore, 1) := by decide +kernel
theorem dX1_rank_42 : decode cX1_rank 42 = .ok (.iinc 4 (-1), 3) := by decide +kernel
theorem dX1_rank_45 : decode cX1_rank 45 = .ok (.goto (-25), 3) := by decide +kernel
theorem dX1_rank_48 : decode cX1_rank 48 = .ok (.aload_n 0, 1) := by decide +kernel
theorem dX1_rank_49 : decode cX1_rank 49 = .ok (.getfield 25, 3) := by decide +kernel
theorem dX1_rank_52 : decode cX1_rank 52 = .ok (.iload_n 3, 1) := by decide +kernel
theorem dX1_rank_53 : decode cX1_rank 53 = .ok (.iload_n 2, 1) := by decide +kernel
theorem dX1_rank_54 : decode cX1_rank 54 = .ok (.iastore, 1) := by decide +kernel
theorem dX1_rank_55 : decode cX1_rank 55 = .ok (.iinc 2 1, 3) := by decide +kernel
theorem dX1_rank_58 : decode cX1_rank 58 = .ok (.goto (-56), 3) := by decide +kernel
theorem dX1_rank_61 : decode cX1_rank 61 = .ok (.return_, 1) := by decide +kernel
theorem dX1_codeAt_0 : decode cX1_codeAt 0 = .ok (.aload_n 0, 1) := by decide +kernel
theorem dX1_codeAt_1 : decode cX1_codeAt 1 = .ok (.getfield 9, 3) := by decide +kernel
theorem dX1_codeAt_4 : decode cX1_codeAt 4 = .ok (.aload_n 0, 1) := by decide +kernel
theorem dX1_codeAt_5 : decode cX1_codeAt 5 = .ok (.getfield 25, 3) := by decide +kernel
theorem dX1_codeAt_8 : decode cX1_codeAt 8 = .ok (.iload_n 1, 1) := by decide +kernel
theorem dX1_codeAt_9 : decode cX1_codeAt 9 = .ok (.iaload, 1) := by decide +kernel
theorem dX1_codeAt_10 : decode cX1_codeAt 10 = .ok (.iaload, 1) := by decide +kernel
theorem dX1_codeAt_11 : decode cX1_codeAt 11 = .ok (.ireturn, 1) := by decide +kernel
set_option maxRecDepth 20000 in
theorem ggX1_keep_X0_valueE : GoodIn wsX1_keep wsX0_valueE := goodIn_r _ [14, 15, 16, 17, 13, 18, 19, 20, 21, 22, 23, 24, 25, 26, 43, 44, 45, 46, 47] (by decide +kernel) (by decide +kernel)
set_option maxRecDepth 20000 in
theorem gX1_keep_X0_valueE : GoodIn wsX1_keep (wsV RX1 35 RX0 yX0_valueE wsX0_valueE) := goodIn_app (goodIn_of _ (by decide +kernel)) ggX1_keep_X0_valueE
set_option maxRecDepth 20000 in
theorem ggX1_keep_X0_valueX : GoodIn wsX1_keep wsX0_valueX := goodIn_r _ [30, 21, 22, 23, 13, 24, 25, 26, 31, 32, 33, 34, 19, 43, 44, 45, 46, 47] (by decide +kernel) (by decide +kernel)
set_option maxRecDepth 20000 in
theorem gX1_keep_X0_valueX : GoodIn wsX1_keep (wsV RX1 47 RX0 yX0_valueX wsX0_valueX) := goodIn_app (goodIn_of _ (by decide +kernel)) ggX1_keep_X0_valueX
set_option maxRecDepth 20000 in
theorem ggX1_keep_X0_valueA : GoodIn wsX1_keep wsX0_valueA := goodIn_r _ [18, 19, 20, 43, 44, 45, 46, 47] (by decide +kernel) (by decide +kernel)
set_option maxRecDepth 20000 in
theorem gX1_keep_X0_valueA : GoodIn wsX1_keep (wsV RX1 56 RX0 yX0_valueA wsX0_valueA) := goodIn_app (goodIn_of _ (by decide +kernel)) ggX1_keep_X0_valueA
set_option maxRecDepth 20000 in
theorem ggX1_keep_X0_valueB : GoodIn wsX1_keep wsX0_valueB := goodIn_r _ [24, 25, 26, 43, 44, 45, 46, 47] (by decide +kernel) (by decide +kernel)
set_option maxRecDepth 20000 in
theorem gX1_keep_X0_valueB : GoodIn wsX1_keep (wsV RX1 60 RX0 yX0_valueB wsX0_valueB) := goodIn_app (goodIn_of _ (by decide +kernel)) ggX1_keep_X0_valueB
theorem dX1_keep_0 : decode cX1_keep 0 = .ok (.aload_n 0, 1) := by decide +kernel
theorem dX1_keep_1 : decode cX1_keep 1 = .ok (.getfield 9, 3) := by decide +kernel
theorem dX1_keep_4 : decode cX1_keep 4 = .ok (.aload_n 0, 1) := by decide +kernel
theorem dX1_keep_5 : decode cX1_keep 5 = .ok (.getfield 28, 3) := by decide +kernel
theorem dX1_keep_8 : decode cX1_keep 8 = .ok (.bipush 100, 2) := by decide +kernel
theorem dX1_keep_10 : decode cX1_keep 10 = .ok (.iload_n 1, 1) := by decide +kernel
theorem dX1_keep_11 : decode cX1_keep 11 = .ok (.imul, 1) := by decide +kernel
theorem dX1_keep_12 : decode cX1_keep 12 = .ok (.iload_n 2, 1) := by decide +kernel
theorem dX1_keep_13 : decode cX1_keep 13 = .ok (.iadd, 1) := by decide +kernel
theorem dX1_keep_14 : decode cX1_keep 14 = .ok (.iastore, 1) := by decide +kernel
theorem dX1_keep_15 : decode cX1_keep 15 = .ok (.aload_n 0, 1) := by decide +kernel
theorem dX1_keep_16 : decode cX1_keep 16 = .ok (.getfield 15, 3) := by decide +kernel
theorem dX1_keep_19 : decode cX1_keep 19 = .ok (.aload_n 0, 1) := by decide +kernel
theorem dX1_keep_20 : decode cX1_keep 20 = .ok (.getfield 28, 3) := by decide +kernel
theorem dX1_keep_23 : decode cX1_keep 23 = .ok (.aload_n 3, 1) := by decide +kernel
theorem dX1_keep_24 : decode cX1_keep 24 = .ok (.iload_n 1, 1) := by decide +kernel
theorem dX1_keep_25 : decode cX1_keep 25 = .ok (.iload_n 2, 1) := by decide +kernel
theorem dX1_keep_26 : decode cX1_keep 26 = .ok (.invokevirtual 35, 3) := by decide +kernel
theorem dX1_keep_29 : decode cX1_keep 29 = .ok (.lastore, 1) := by decide +kernel
theorem dX1_keep_30 : decode cX1_keep 30 = .ok (.aload_n 0, 1) := by decide +kernel
theorem dX1_keep_31 : decode cX1_keep 31 = .ok (.getfield 19, 3) := by decide +kernel
theorem dX1_keep_34 : decode cX1_keep 34 = .ok (.aload_n 0, 1) := by decide +kernel
theorem dX1_keep_35 : decode cX1_keep 35 = .ok (.getfield 28, 3) := by decide +kernel
theorem dX1_keep_38 : decode cX1_keep 38 = .ok (.aload_n 3, 1) := by decide +kernel
theorem dX1_keep_39 : decode cX1_keep 39 = .ok (.iload_n 2, 1) := by decide +kernel
theorem dX1_keep_40 : decode cX1_keep 40 = .ok (.iload_n 1, 1) := by decide +kernel
theorem dX1_keep_41 : decode cX1_keep 41 = .ok (.invokevirtual 47, 3) := by decide +kernel
theorem dX1_keep_44 : decode cX1_keep 44 = .ok (.invokestatic 50, 3) := by decide +kernel
theorem dX1_keep_47 : decode cX1_keep 47 = .ok (.lastore, 1) := by decide +kernel
theorem dX1_keep_48 : decode cX1_keep 48 = .ok (.aload_n 0, 1) := by decide +kernel
theorem dX1_keep_49 : decode cX1_keep 49 = .ok (.getfield 22, 3) := by decide +kernel
theorem dX1_keep_52 : decode cX1_keep 52 = .ok (.aload_n 0, 1) := by decide +kernel
theorem dX1_keep_53 : decode cX1_keep 53 = .ok (.getfield 28, 3) := by decide +kernel
theorem dX1_keep_56 : decode cX1_keep 56 = .ok (.aload_n 3, 1) := by decide +kernel
theorem dX1_keep_57 : decode cX1_keep 57 = .ok (.iload_n 1, 1) := by decide +kernel
theorem dX1_keep_58 : decode cX1_keep 58 = .ok (.invokevirtual 56, 3) := by decide +kernel
theorem dX1_keep_61 : decode cX1_keep 61 = .ok (.aload_n 3, 1) := by decide +kernel
theorem dX1_keep_62 : decode cX1_keep 62 = .ok (.iload_n 2, 1) := by decide +kernel
theorem dX1_keep_63 : decode cX1_keep 63 = .ok (.invokevirtual 60, 3) := by decide +kernel
theorem dX1_keep_66 : decode cX1_keep 66 = .ok (.lmul, 1) := by decide +kernel
theorem dX1_keep_67 : decode cX1_keep 67 = .ok (.aload_n 3, 1) := by decide +kernel
theorem dX1_keep_68 : decode cX1_keep 68 = .ok (.iload_n 2, 1) := by decide +kernel
theorem dX1_keep_69 : decode cX1_keep 69 = .ok (.invokevirtual 56, 3) := by decide +kernel
theorem dX1_keep_72 : decode cX1_keep 72 = .ok (.aload_n 3, 1) := by decide +kernel
theorem dX1_keep_73 : decode cX1_keep 73 = .ok (.iload_n 1, 1) := by decide +kernel
theorem dX1_keep_74 : decode cX1_keep 74 = .ok (.invokevirtual 60, 3) := by decide +kernel
theorem dX1_keep_77 : decode cX1_keep 77 = .ok (.lmul, 1) := by decide +kernel
theorem dX1_keep_78 : decode cX1_keep 78 = .ok (.ladd, 1) := by decide +kernel
theorem dX1_keep_79 : decode cX1_keep 79 = .ok (.lastore, 1) := by decide +kernel
theorem dX1_keep_80 : decode cX1_keep 80 = .ok (.aload_n 0, 1) := by decide +kernel
theorem dX1_keep_81 : decode cX1_keep 81 = .ok (.dup, 1) := by decide +kernel
theorem dX1_keep_82 : decode cX1_keep 82 = .ok (.getfield 28, 3) := by decide +kernel
theorem dX1_keep_85 : decode cX1_keep 85 = .ok (.iconst 1, 1) := by decide +kernel
theorem dX1_keep_86 : decode cX1_keep 86 = .ok (.iadd, 1) := by decide +kernel
theorem dX1_keep_87 : decode cX1_keep 87 = .ok (.putfield 28, 3) := by decide +kernel
theorem dX1_keep_90 : decode cX1_keep 90 = .ok (.return_, 1) := by decide +kernel
set_option maxRecDepth 20000 in
theorem ggX1_placeAmong_X1_compareSlots : GoodIn wsX1_placeAmong wsX1_compareSlots := goodIn_r _ [6, 7, 8, 9, 10, 11, 12, 13, 14, 15, 16, 17, 18, 19] (by decide +kernel) (by decide +kernel)
set_option maxRecDepth 20000 in
theorem gX1_placeAmong_X1_compareSlots : GoodIn wsX1_placeAmong (wsV RX1 63 RX1 yX1_compareSlots wsX1_compareSlots) := goodIn_app (goodIn_of _ (by decide +kernel)) ggX1_placeAmong_X1_compareSlots
theorem dX1_placeAmong_0 : decode cX1_placeAmong 0 = .ok (.iconst 0, 1) := by decide +kernel
theorem dX1_placeAmong_1 : decode cX1_placeAmong 1 = .ok (.istore_n 3, 1) := by decide +kernel
theorem dX1_placeAmong_2 : decode cX1_placeAmong 2 = .ok (.iload_n 1, 1) := by decide +kernel
theorem dX1_placeAmong_3 : decode cX1_placeAmong 3 = .ok (.istore 4, 2) := by decide +kernel
theorem dX1_placeAmong_5 : decode cX1_placeAmong 5 = .ok (.iload_n 3, 1) := by decide +kernel
theorem dX1_placeAmong_6 : decode cX1_placeAmong 6 = .ok (.iload 4, 2) := by decide +kernel
theorem dX1_placeAmong_8 : decode cX1_placeAmong 8 = .ok (.if_icmp .ge 42, 3) := by decide +kernel
theorem dX1_placeAmong_11 : decode cX1_placeAmong 11 = .ok (.iload_n 3, 1) := by decide +kernel
theorem dX1_placeAmong_12 : decode cX1_placeAmong 12 = .ok (.iload 4, 2) := by decide +kernel
theorem dX1_placeAmong_14 : decode cX1_placeAmong 14 = .ok (.iadd, 1) := by decide +kernel
theorem dX1_placeAmong_15 : decode cX1_placeAmong 15 = .ok (.iconst 2, 1) := by decide +kernel
theorem dX1_placeAmong_16 : decode cX1_placeAmong 16 = .ok (.idiv, 1) := by decide +kernel
theorem dX1_placeAmong_17 : decode cX1_placeAmong 17 = .ok (.istore 5, 2) := by decide +kernel
theorem dX1_placeAmong_19 : decode cX1_placeAmong 19 = .ok (.aload_n 0, 1) := by decide +kernel
theorem dX1_placeAmong_20 : decode cX1_placeAmong 20 = .ok (.iload_n 1, 1) := by decide +kernel
theorem dX1_placeAmong_21 : decode cX1_placeAmong 21 = .ok (.aload_n 0, 1) := by decide +kernel
theorem dX1_placeAmong_22 : decode cX1_placeAmong 22 = .ok (.getfield 25, 3) := by decide +kernel
theorem dX1_placeAmong_25 : decode cX1_placeAmong 25 = .ok (.iload 5, 2) := by decide +kernel
theorem dX1_placeAmong_27 : decode cX1_placeAmong 27 = .ok (.iaload, 1) := by decide +kernel
theorem dX1_placeAmong_28 : decode cX1_placeAmong 28 = .ok (.iload_n 2, 1) := by decide +kernel
theorem dX1_placeAmong_29 : decode cX1_placeAmong 29 = .ok (.invokevirtual 63, 3) := by decide +kernel
theorem dX1_placeAmong_32 : decode cX1_placeAmong 32 = .ok (.ifCond .ge 10, 3) := by decide +kernel
theorem dX1_placeAmong_35 : decode cX1_placeAmong 35 = .ok (.iload 5, 2) := by decide +kernel
theorem dX1_placeAmong_37 : decode cX1_placeAmong 37 = .ok (.istore 4, 2) := by decide +kernel
theorem dX1_placeAmong_39 : decode cX1_placeAmong 39 = .ok (.goto 8, 3) := by decide +kernel
theorem dX1_placeAmong_42 : decode cX1_placeAmong 42 = .ok (.iload 5, 2) := by decide +kernel
theorem dX1_placeAmong_44 : decode cX1_placeAmong 44 = .ok (.iconst 1, 1) := by decide +kernel
theorem dX1_placeAmong_45 : decode cX1_placeAmong 45 = .ok (.iadd, 1) := by decide +kernel
theorem dX1_placeAmong_46 : decode cX1_placeAmong 46 = .ok (.istore_n 3, 1) := by decide +kernel
theorem dX1_placeAmong_47 : decode cX1_placeAmong 47 = .ok (.goto (-42), 3) := by decide +kernel
theorem dX1_placeAmong_50 : decode cX1_placeAmong 50 = .ok (.iload_n 3, 1) := by decide +kernel
theorem dX1_placeAmong_51 : decode cX1_placeAmong 51 = .ok (.ireturn, 1) := by decide +kernel
set_option maxRecDepth 20000 in
theorem ggX1_compareSlots_J13_compare_74951 : GoodIn wsX1_compareSlots wsJ13_compare_74951 := goodIn_r _ [7] (by decide +kernel) (by decide +kernel)
set_option maxRecDepth 20000 in
theorem gX1_compareSlots_J13_compare_74951 : GoodIn wsX1_compareSlots (va_wsS RX1 67 yJ13_compare_74951 wsJ13_compare_74951) := goodIn_app (goodIn_of _ (by decide +kernel)) ggX1_compareSlots_J13_compare_74951
theorem dX1_compareSlots_0 : decode cX1_compareSlots 0 = .ok (.aload_n 0, 1) := by decide +kernel
theorem dX1_compareSlots_1 : decode cX1_compareSlots 1 = .ok (.getfield 19, 3) := by decide +kernel
theorem dX1_compareSlots_4 : decode cX1_compareSlots 4 = .ok (.iload_n 1, 1) := by decide +kernel
theorem dX1_compareSlots_5 : decode cX1_compareSlots 5 = .ok (.laload, 1) := by decide +kernel
theorem dX1_compareSlots_6 : decode cX1_compareSlots 6 = .ok (.aload_n 0, 1) := by decide +kernel
theorem dX1_compareSlots_7 : decode cX1_compareSlots 7 = .ok (.getfield 15, 3) := by decide +kernel
theorem dX1_compareSlots_10 : decode cX1_compareSlots 10 = .ok (.iload_n 2, 1) := by decide +kernel
theorem dX1_compareSlots_11 : decode cX1_compareSlots 11 = .ok (.laload, 1) := by decide +kernel
theorem dX1_compareSlots_12 : decode cX1_compareSlots 12 = .ok (.lmul, 1) := by decide +kernel
theorem dX1_compareSlots_13 : decode cX1_compareSlots 13 = .ok (.aload_n 0, 1) := by decide +kernel
theorem dX1_compareSlots_14 : decode cX1_compareSlots 14 = .ok (.getfield 19, 3) := by decide +kernel
theorem dX1_compareSlots_17 : decode cX1_compareSlots 17 = .ok (.iload_n 2, 1) := by decide +kernel
theorem dX1_compareSlots_18 : decode cX1_compareSlots 18 = .ok (.laload, 1) := by decide +kernel
theorem dX1_compareSlots_19 : decode cX1_compareSlots 19 = .ok (.aload_n 0, 1) := by decide +kernel
theorem dX1_compareSlots_20 : decode cX1_compareSlots 20 = .ok (.getfield 15, 3) := by decide +kernel
theorem dX1_compareSlots_23 : decode cX1_compareSlots 23 = .ok (.iload_n 1, 1) := by decide +kernel
theorem dX1_compareSlots_24 : decode cX1_compareSlots 24 = .ok (.laload, 1) := by decide +kernel
theorem dX1_compareSlots_25 : decode cX1_compareSlots 25 = .ok (.lmul, 1) := by decide +kernel
theorem dX1_compareSlots_26 : decode cX1_compareSlots 26 = .ok (.invokestatic 67, 3) := by decide +kernel
theorem dX1_compareSlots_29 : decode cX1_compareSlots 29 = .ok (.istore 4, 2) := by decide +kernel
theorem dX1_compareSlots_31 : decode cX1_compareSlots 31 = .ok (.aload_n 0, 1) := by decide +kernel
theorem dX1_compareSlots_32 : decode cX1_compareSlots 32 = .ok (.getfield 22, 3) := by decide +kernel
theorem dX1_compareSlots_35 : decode cX1_compareSlots 35 = .ok (.iload_n 1, 1) := by decide +kernel
theorem dX1_compareSlots_36 : decode cX1_compareSlots 36 = .ok (.laload, 1) := by decide +kernel
theorem dX1_compareSlots_37 : decode cX1_compareSlots 37 = .ok (.aload_n 0, 1) := by decide +kernel
theorem dX1_compareSlots_38 : decode cX1_compareSlots 38 = .ok (.getfield 15, 3) := by decide +kernel
theorem dX1_compareSlots_41 : decode cX1_compareSlots 41 = .ok (.iload_n 2, 1) := by decide +kernel
theorem dX1_compareSlots_42 : decode cX1_compareSlots 42 = .ok (.laload, 1) := by decide +kernel
theorem dX1_compareSlots_43 : decode cX1_compareSlots 43 = .ok (.lmul, 1) := by decide +kernel
theorem dX1_compareSlots_44 : decode cX1_compareSlots 44 = .ok (.aload_n 0, 1) := by decide +kernel
theorem dX1_compareSlots_45 : decode cX1_compareSlots 45 = .ok (.getfield 22, 3) := by decide +kernel
theorem dX1_compareSlots_48 : decode cX1_compareSlots 48 = .ok (.iload_n 2, 1) := by decide +kernel
theorem dX1_compareSlots_49 : decode cX1_compareSlots 49 = .ok (.laload, 1) := by decide +kernel
theorem dX1_compareSlots_50 : decode cX1_compareSlots 50 = .ok (.aload_n 0, 1) := by decide +kernel
theorem dX1_compareSlots_51 : decode cX1_compareSlots 51 = .ok (.getfield 15, 3) := by decide +kernel
theorem dX1_compareSlots_54 : decode cX1_compareSlots 54 = .ok (.iload_n 1, 1) := by decide +kernel
theorem dX1_compareSlots_55 : decode cX1_compareSlots 55 = .ok (.laload, 1) := by decide +kernel
theorem dX1_compareSlots_56 : decode cX1_compareSlots 56 = .ok (.lmul, 1) := by decide +kernel
theorem dX1_compareSlots_57 : decode cX1_compareSlots 57 = .ok (.invokestatic 67, 3) := by decide +kernel
theorem dX1_compareSlots_60 : decode cX1_compareSlots 60 = .ok (.istore 5, 2) := by decide +kernel
theorem dX1_compareSlots_62 : decode cX1_compareSlots 62 = .ok (.iload_n 3, 1) := by decide +kernel
theorem dX1_compareSlots_63 : decode cX1_compareSlots 63 = .ok (.ifCond .eq 16, 3) := by decide +kernel
theorem dX1_compareSlots_66 : decode cX1_compareSlots 66 = .ok (.iload 5, 2) := by decide +kernel
theorem dX1_compareSlots_68 : decode cX1_compareSlots 68 = .ok (.ifCond .eq 8, 3) := by decide +kernel
theorem dX1_compareSlots_71 : decode cX1_compareSlots 71 = .ok (.iload 5, 2) := by decide +kernel
theorem dX1_compareSlots_73 : decode cX1_compareSlots 73 = .ok (.goto 5, 3) := by decide +kernel
theorem dX1_compareSlots_76 : decode cX1_compareSlots 76 = .ok (.iload 4, 2) := by decide +kernel
theorem dX1_compareSlots_78 : decode cX1_compareSlots 78 = .ok (.ireturn, 1) := by decide +kernel
theorem dX1_compareSlots_79 : decode cX1_compareSlots 79 = .ok (.iload 4, 2) := by decide +kernel
theorem dX1_compareSlots_81 : decode cX1_compareSlots 81 = .ok (.ifCond .eq 8, 3) := by decide +kernel
theorem dX1_compareSlots_84 : decode cX1_compareSlots 84 = .ok (.iload 4, 2) := by decide +kernel
theorem dX1_compareSlots_86 : decode cX1_compareSlots 86 = .ok (.goto 5, 3) := by decide +kernel
theorem dX1_compareSlots_89 : decode cX1_compareSlots 89 = .ok (.iload 5, 2) := by decide +kernel
theorem dX1_compareSlots_91 : decode cX1_compareSlots 91 = .ok (.ireturn, 1) := by decide +kernel
theorem dX2_init_0 : decode cX2_init 0 = .ok (.aload_n 0, 1) := by decide +kernel
theorem dX2_init_1 : decode cX2_init 1 = .ok (.invokespecial 5, 3) := by decide +kernel
theorem dX2_init_4 : decode cX2_init 4 = .ok (.aload_n 0, 1) := by decide +kernel
theorem dX2_init_5 : decode cX2_init 5 = .ok (.bipush 28, 2) := by decide +kernel
theorem dX2_init_7 : decode cX2_init 7 = .ok (.newarray .int, 2) := by decide +kernel
theorem dX2_init_9 : decode cX2_init 9 = .ok (.putfield 11, 3) := by decide +kernel
theorem dX2_init_12 : decode cX2_init 12 = .ok (.return_, 1) := by decide +kernel
theorem dX2_add_0 : decode cX2_add 0 = .ok (.aload_n 0, 1) := by decide +kernel
theorem dX2_add_1 : decode cX2_add 1 = .ok (.getfield 15, 3) := by decide +kernel
theorem dX2_add_4 : decode cX2_add 4 = .ok (.bipush 28, 2) := by decide +kernel
theorem dX2_add_6 : decode cX2_add 6 = .ok (.if_icmp .ge 23, 3) := by decide +kernel
theorem dX2_add_9 : decode cX2_add 9 = .ok (.aload_n 0, 1) := by decide +kernel
theorem dX2_add_10 : decode cX2_add 10 = .ok (.getfield 11, 3) := by decide +kernel
theorem dX2_add_13 : decode cX2_add 13 = .ok (.aload_n 0, 1) := by decide +kernel
theorem dX2_add_14 : decode cX2_add 14 = .ok (.getfield 15, 3) := by decide +kernel
theorem dX2_add_17 : decode cX2_add 17 = .ok (.iload_n 1, 1) := by decide +kernel
theorem dX2_add_18 : decode cX2_add 18 = .ok (.iastore, 1) := by decide +kernel
theorem dX2_add_19 : decode cX2_add 19 = .ok (.aload_n 0, 1) := by decide +kernel
theorem dX2_add_20 : decode cX2_add 20 = .ok (.dup, 1) := by decide +kernel
theorem dX2_add_21 : decode cX2_add 21 = .ok (.getfield 15, 3) := by decide +kernel
theorem dX2_add_24 : decode cX2_add 24 = .ok (.iconst 1, 1) := by decide +kernel
theorem dX2_add_25 : decode cX2_add 25 = .ok (.iadd, 1) := by decide +kernel
theorem dX2_add_26 : decode cX2_add 26 = .ok (.putfield 15, 3) := by decide +kernel
theorem dX2_add_29 : decode cX2_add 29 = .ok (.return_, 1) := by decide +kernel
theorem dX2_empty_0 : decode cX2_empty 0 = .ok (.aload_n 0, 1) := by decide +kernel
theorem dX2_empty_1 : decode cX2_empty 1 = .ok (.iconst 0, 1) := by decide +kernel
theorem dX2_empty_2 : decode cX2_empty 2 = .ok (.putfield 15, 3) := by decide +kernel
theorem dX2_empty_5 : decode cX2_empty 5 = .ok (.return_, 1) := by decide +kernel
theorem dX2_codeAt_0 : decode cX2_codeAt 0 = .ok (.iload_n 1, 1) := by decide +kernel
theorem dX2_codeAt_1 : decode cX2_codeAt 1 = .ok (.ifCond .lt 20, 3) := by decide +kernel
theorem dX2_codeAt_4 : decode cX2_codeAt 4 = .ok (.iload_n 1, 1) := by decide +kernel
theorem dX2_codeAt_5 : decode cX2_codeAt 5 = .ok (.aload_n 0, 1) := by decide +kernel
theorem dX2_codeAt_6 : decode cX2_codeAt 6 = .ok (.getfield 15, 3) := by decide +kernel
theorem dX2_codeAt_9 : decode cX2_codeAt 9 = .ok (.if_icmp .ge 12, 3) := by decide +kernel
theorem dX2_codeAt_12 : decode cX2_codeAt 12 = .ok (.aload_n 0, 1) := by decide +kernel
theorem dX2_codeAt_13 : decode cX2_codeAt 13 = .ok (.getfield 11, 3) := by decide +kernel
theorem dX2_codeAt_16 : decode cX2_codeAt 16 = .ok (.iload_n 1, 1) := by decide +kernel
theorem dX2_codeAt_17 : decode cX2_codeAt 17 = .ok (.iaload, 1) := by decide +kernel
theorem dX2_codeAt_18 : decode cX2_codeAt 18 = .ok (.goto 4, 3) := by decide +kernel
theorem dX2_codeAt_21 : decode cX2_codeAt 21 = .ok (.iconst 0, 1) := by decide +kernel
theorem dX2_codeAt_22 : decode cX2_codeAt 22 = .ok (.ireturn, 1) := by decide +kernel
set_option maxRecDepth 20000 in
theorem ggX2_firstFault_X2_nameLength : GoodIn wsX2_firstFault wsX2_nameLength := goodIn_r _ [7, 1, 8, 9, 10, 11, 2, 12, 13, 6, 14, 15, 16, 17, 21, 22] (by decide +kernel) (by decide +kernel)
set_option maxRecDepth 20000 in
theorem gX2_firstFault_X2_nameLength : GoodIn wsX2_firstFault (wsV RX2 19 RX2 yX2_nameLength wsX2_nameLength) := goodIn_app (goodIn_of _ (by decide +kernel)) ggX2_firstFault_X2_nameLength
set_option maxRecDepth 20000 in
theorem ggX2_firstFault_X2_isAllowedBehindName : GoodIn wsX2_firstFault wsX2_isAllowedBehindName := goodIn_r _ [20, 15, 16, 6, 17] (by decide +kernel) (by decide +kernel)
set_option maxRecDepth 20000 in
theorem gX2_firstFault_X2_isAllowedBehindName : GoodIn wsX2_firstFault (va_wsS RX2 23 yX2_isAllowedBehindName wsX2_isAllowedBehindName) := goodIn_app (goodIn_of _ (by decide +kernel)) ggX2_firstFault_X2_isAllowedBehindName
theorem dX2_firstFault_0 : decode cX2_firstFault 0 = .ok (.aload_n 0, 1) := by decide +kernel
theorem dX2_firstFault_1 : decode cX2_firstFault 1 = .ok (.invokevirtual 19, 3) := by decide +kernel
theorem dX2_firstFault_4 : decode cX2_firstFault 4 = .ok (.istore_n 1, 1) := by decide +kernel
theorem dX2_firstFault_5 : decode cX2_firstFault 5 = .ok (.iload_n 1, 1) := by decide +kernel
theorem dX2_firstFault_6 : decode cX2_firstFault 6 = .ok (.ifCond .ne 5, 3) := by decide +kernel
theorem dX2_firstFault_9 : decode cX2_firstFault 9 = .ok (.iconst 0, 1) := by decide +kernel
theorem dX2_firstFault_10 : decode cX2_firstFault 10 = .ok (.ireturn, 1) := by decide +kernel
theorem dX2_firstFault_11 : decode cX2_firstFault 11 = .ok (.iload_n 1, 1) := by decide +kernel
theorem dX2_firstFault_12 : decode cX2_firstFault 12 = .ok (.istore_n 2, 1) := by decide +kernel
theorem dX2_firstFault_13 : decode cX2_firstFault 13 = .ok (.iload_n 2, 1) := by decide +kernel
theorem dX2_firstFault_14 : decode cX2_firstFault 14 = .ok (.aload_n 0, 1) := by decide +kernel
theorem dX2_firstFault_15 : decode cX2_firstFault 15 = .ok (.getfield 15, 3) := by decide +kernel
theorem dX2_firstFault_18 : decode cX2_firstFault 18 = .ok (.if_icmp .ge 26, 3) := by decide +kernel
theorem dX2_firstFault_21 : decode cX2_firstFault 21 = .ok (.iload_n 2, 1) := by decide +kernel
theorem dX2_firstFault_22 : decode cX2_firstFault 22 = .ok (.iload_n 1, 1) := by decide +kernel
theorem dX2_firstFault_23 : decode cX2_firstFault 23 = .ok (.isub, 1) := by decide +kernel
theorem dX2_firstFault_24 : decode cX2_firstFault 24 = .ok (.aload_n 0, 1) := by decide +kernel
theorem dX2_firstFault_25 : decode cX2_firstFault 25 = .ok (.getfield 11, 3) := by decide +kernel
theorem dX2_firstFault_28 : decode cX2_firstFault 28 = .ok (.iload_n 2, 1) := by decide +kernel
theorem dX2_firstFault_29 : decode cX2_firstFault 29 = .ok (.iaload, 1) := by decide +kernel
theorem dX2_firstFault_30 : decode cX2_firstFault 30 = .ok (.invokestatic 23, 3) := by decide +kernel
theorem dX2_firstFault_33 : decode cX2_firstFault 33 = .ok (.ifCond .ne 5, 3) := by decide +kernel
theorem dX2_firstFault_36 : decode cX2_firstFault 36 = .ok (.iload_n 2, 1) := by decide +kernel
theorem dX2_firstFault_37 : decode cX2_firstFault 37 = .ok (.ireturn, 1) := by decide +kernel
theorem dX2_firstFault_38 : decode cX2_firstFault 38 = .ok (.iinc 2 1, 3) := by decide +kernel
theorem dX2_firstFault_41 : decode cX2_firstFault 41 = .ok (.goto (-28), 3) := by decide +kernel
theorem dX2_firstFault_44 : decode cX2_firstFault 44 = .ok (.aload_n 0, 1) := by decide +kernel
theorem dX2_firstFault_45 : decode cX2_firstFault 45 = .ok (.getfield 15, 3) := by decide +kernel
theorem dX2_firstFault_48 : decode cX2_firstFault 48 = .ok (.ireturn, 1) := by decide +kernel
set_option maxRecDepth 20000 in
theorem ggX2_isComplete_X2_nameLength : GoodIn wsX2_isComplete wsX2_nameLength := goodIn_r _ [6, 1, 7, 8, 9, 10, 11, 12, 13, 5, 14, 15, 16, 17, 25, 26] (by decide +kernel) (by decide +kernel)
set_option maxRecDepth 20000 in
theorem gX2_isComplete_X2_nameLength : GoodIn wsX2_isComplete (wsV RX2 19 RX2 yX2_nameLength wsX2_nameLength) := goodIn_app (goodIn_of _ (by decide +kernel)) ggX2_isComplete_X2_nameLength
set_option maxRecDepth 20000 in
theorem ggX2_isComplete_X2_firstFault : GoodIn wsX2_isComplete wsX2_firstFault := goodIn_r _ [21, 1, 11, 2, 3, 4, 5, 6, 7, 8, 9, 10, 12, 13, 14, 15, 16, 17, 22, 23, 24, 25, 26] (by decide +kernel) (by decide +kernel)
set_option maxRecDepth 20000 in
theorem gX2_isComplete_X2_firstFault : GoodIn wsX2_isComplete (wsV RX2 27 RX2 yX2_firstFault wsX2_firstFault) := goodIn_app (goodIn_of _ (by decide +kernel)) ggX2_isComplete_X2_firstFault
theorem dX2_isComplete_0 : decode cX2_isComplete 0 = .ok (.aload_n 0, 1) := by decide +kernel
theorem dX2_isComplete_1 : decode cX2_isComplete 1 = .ok (.invokevirtual 19, 3) := by decide +kernel
theorem dX2_isComplete_4 : decode cX2_isComplete 4 = .ok (.istore_n 1, 1) := by decide +kernel
theorem dX2_isComplete_5 : decode cX2_isComplete 5 = .ok (.iload_n 1, 1) := by decide +kernel
theorem dX2_isComplete_6 : decode cX2_isComplete 6 = .ok (.ifCond .le 29, 3) := by decide +kernel
theorem dX2_isComplete_9 : decode cX2_isComplete 9 = .ok (.aload_n 0, 1) := by decide +kernel
theorem dX2_isComplete_10 : decode cX2_isComplete 10 = .ok (.getfield 15, 3) := by decide +kernel
theorem dX2_isComplete_13 : decode cX2_isComplete 13 = .ok (.iload_n 1, 1) := by decide +kernel
theorem dX2_isComplete_14 : decode cX2_isComplete 14 = .ok (.bipush 21, 2) := by decide +kernel
theorem dX2_isComplete_16 : decode cX2_isComplete 16 = .ok (.iadd, 1) := by decide +kernel
theorem dX2_isComplete_17 : decode cX2_isComplete 17 = .ok (.if_icmp .ne 18, 3) := by decide +kernel
theorem dX2_isComplete_20 : decode cX2_isComplete 20 = .ok (.aload_n 0, 1) := by decide +kernel
theorem dX2_isComplete_21 : decode cX2_isComplete 21 = .ok (.invokevirtual 27, 3) := by decide +kernel
theorem dX2_isComplete_24 : decode cX2_isComplete 24 = .ok (.aload_n 0, 1) := by decide +kernel
theorem dX2_isComplete_25 : decode cX2_isComplete 25 = .ok (.getfield 15, 3) := by decide +kernel
theorem dX2_isComplete_28 : decode cX2_isComplete 28 = .ok (.if_icmp .ne 7, 3) := by decide +kernel
theorem dX2_isComplete_31 : decode cX2_isComplete 31 = .ok (.iconst 1, 1) := by decide +kernel
theorem dX2_isComplete_32 : decode cX2_isComplete 32 = .ok (.goto 4, 3) := by decide +kernel
theorem dX2_isComplete_35 : decode cX2_isComplete 35 = .ok (.iconst 0, 1) := by decide +kernel
theorem dX2_isComplete_36 : decode cX2_isComplete 36 = .ok (.ireturn, 1) := by decide +kernel
set_option maxRecDepth 20000 in
theorem ggX2_number_X2_nameLength : GoodIn wsX2_number wsX2_nameLength := goodIn_r _ [5, 6, 7, 8, 9, 10, 11, 12, 13, 4, 14, 15, 16, 17, 22, 23] (by decide +kernel) (by decide +kernel)
set_option maxRecDepth 20000 in
theorem gX2_number_X2_nameLength : GoodIn wsX2_number (wsV RX2 19 RX2 yX2_nameLength wsX2_nameLength) := goodIn_app (goodIn_of _ (by decide +kernel)) ggX2_number_X2_nameLength
set_option maxRecDepth 20000 in
theorem ggX2_number_X2_codeAt : GoodIn wsX2_number wsX2_codeAt := goodIn_r _ [21, 6, 11, 22, 23] (by decide +kernel) (by decide +kernel)
set_option maxRecDepth 20000 in
theorem gX2_number_X2_codeAt : GoodIn wsX2_number (wsV RX2 30 RX2 yX2_codeAt wsX2_codeAt) := goodIn_app (goodIn_of _ (by decide +kernel)) ggX2_number_X2_codeAt
theorem dX2_number_0 : decode cX2_number 0 = .ok (.aload_n 0, 1) := by decide +kernel
theorem dX2_number_1 : decode cX2_number 1 = .ok (.invokevirtual 19, 3) := by decide +kernel
theorem dX2_number_4 : decode cX2_number 4 = .ok (.iload_n 1, 1) := by decide +kernel
theorem dX2_number_5 : decode cX2_number 5 = .ok (.bipush 7, 2) := by decide +kernel
theorem dX2_number_7 : decode cX2_number 7 = .ok (.imul, 1) := by decide +kernel
theorem dX2_number_8 : decode cX2_number 8 = .ok (.iadd, 1) := by decide +kernel
theorem dX2_number_9 : decode cX2_number 9 = .ok (.iconst 1, 1) := by decide +kernel
theorem dX2_number_10 : decode cX2_number 10 = .ok (.iadd, 1) := by decide +kernel
theorem dX2_number_11 : decode cX2_number 11 = .ok (.istore_n 2, 1) := by decide +kernel
theorem dX2_number_12 : decode cX2_number 12 = .ok (.iconst 0, 1) := by decide +kernel
theorem dX2_number_13 : decode cX2_number 13 = .ok (.istore_n 3, 1) := by decide +kernel
theorem dX2_number_14 : decode cX2_number 14 = .ok (.iload_n 2, 1) := by decide +kernel
theorem dX2_number_15 : decode cX2_number 15 = .ok (.istore 4, 2) := by decide +kernel
theorem dX2_number_17 : decode cX2_number 17 = .ok (.iload 4, 2) := by decide +kernel
theorem dX2_number_19 : decode cX2_number 19 = .ok (.iload_n 2, 1) := by decide +kernel
theorem dX2_number_20 : decode cX2_number 20 = .ok (.bipush 6, 2) := by decide +kernel
theorem dX2_number_22 : decode cX2_number 22 = .ok (.iadd, 1) := by decide +kernel
theorem dX2_number_23 : decode cX2_number 23 = .ok (.if_icmp .ge 24, 3) := by decide +kernel
theorem dX2_number_26 : decode cX2_number 26 = .ok (.bipush 10, 2) := by decide +kernel
theorem dX2_number_28 : decode cX2_number 28 = .ok (.iload_n 3, 1) := by decide +kernel
theorem dX2_number_29 : decode cX2_number 29 = .ok (.imul, 1) := by decide +kernel
theorem dX2_number_30 : decode cX2_number 30 = .ok (.aload_n 0, 1) := by decide +kernel
theorem dX2_number_31 : decode cX2_number 31 = .ok (.iload 4, 2) := by decide +kernel
theorem dX2_number_33 : decode cX2_number 33 = .ok (.invokevirtual 30, 3) := by decide +kernel
theorem dX2_number_36 : decode cX2_number 36 = .ok (.iadd, 1) := by decide +kernel
theorem dX2_number_37 : decode cX2_number 37 = .ok (.bipush 48, 2) := by decide +kernel
theorem dX2_number_39 : decode cX2_number 39 = .ok (.isub, 1) := by decide +kernel
theorem dX2_number_40 : decode cX2_number 40 = .ok (.istore_n 3, 1) := by decide +kernel
theorem dX2_number_41 : decode cX2_number 41 = .ok (.iinc 4 1, 3) := by decide +kernel
theorem dX2_number_44 : decode cX2_number 44 = .ok (.goto (-27), 3) := by decide +kernel
theorem dX2_number_47 : decode cX2_number 47 = .ok (.iload_n 3, 1) := by decide +kernel
theorem dX2_number_48 : decode cX2_number 48 = .ok (.ireturn, 1) := by decide +kernel
set_option maxRecDepth 20000 in
theorem ggX2_nameKey_X2_nameLength : GoodIn wsX2_nameKey wsX2_nameLength := goodIn_r _ [7, 8, 9, 10, 11, 12, 2, 13, 14, 6, 15, 16, 17, 18, 19, 20] (by decide +kernel) (by decide +kernel)
set_option maxRecDepth 20000 in
theorem gX2_nameKey_X2_nameLength : GoodIn wsX2_nameKey (wsV RX2 19 RX2 yX2_nameLength wsX2_nameLength) := goodIn_app (goodIn_of _ (by decide +kernel)) ggX2_nameKey_X2_nameLength
theorem dX2_nameKey_0 : decode cX2_nameKey 0 = .ok (.aload_n 0, 1) := by decide +kernel
theorem dX2_nameKey_1 : decode cX2_nameKey 1 = .ok (.invokevirtual 19, 3) := by decide +kernel
theorem dX2_nameKey_4 : decode cX2_nameKey 4 = .ok (.istore_n 1, 1) := by decide +kernel
theorem dX2_nameKey_5 : decode cX2_nameKey 5 = .ok (.lconst 0, 1) := by decide +kernel
theorem dX2_nameKey_6 : decode cX2_nameKey 6 = .ok (.lstore_n 2, 1) := by decide +kernel
theorem dX2_nameKey_7 : decode cX2_nameKey 7 = .ok (.iconst 0, 1) := by decide +kernel
theorem dX2_nameKey_8 : decode cX2_nameKey 8 = .ok (.istore 4, 2) := by decide +kernel
theorem dX2_nameKey_10 : decode cX2_nameKey 10 = .ok (.iload 4, 2) := by decide +kernel
theorem dX2_nameKey_12 : decode cX2_nameKey 12 = .ok (.bipush 6, 2) := by decide +kernel
theorem dX2_nameKey_14 : decode cX2_nameKey 14 = .ok (.if_icmp .ge 34, 3) := by decide +kernel
theorem dX2_nameKey_17 : decode cX2_nameKey 17 = .ok (.ldc2_w 34, 3) := by decide +kernel
theorem dX2_nameKey_20 : decode cX2_nameKey 20 = .ok (.lload_n 2, 1) := by decide +kernel
theorem dX2_nameKey_21 : decode cX2_nameKey 21 = .ok (.lmul, 1) := by decide +kernel
theorem dX2_nameKey_22 : decode cX2_nameKey 22 = .ok (.iload 4, 2) := by decide +kernel
theorem dX2_nameKey_24 : decode cX2_nameKey 24 = .ok (.iload_n 1, 1) := by decide +kernel
theorem dX2_nameKey_25 : decode cX2_nameKey 25 = .ok (.if_icmp .ge 13, 3) := by decide +kernel
theorem dX2_nameKey_28 : decode cX2_nameKey 28 = .ok (.aload_n 0, 1) := by decide +kernel
theorem dX2_nameKey_29 : decode cX2_nameKey 29 = .ok (.getfield 11, 3) := by decide +kernel
theorem dX2_nameKey_32 : decode cX2_nameKey 32 = .ok (.iload 4, 2) := by decide +kernel
end
section
theorem dX2_nameKey_34 : decode cX2_nameKey 34 = .ok (.iaload, 1) := by decide +kernel
theorem dX2_nameKey_35 : decode cX2_nameKey 35 = .ok (.goto 4, 3) := by decide +kernel
theorem dX2_nameKey_38 : decode cX2_nameKey 38 = .ok (.iconst 0, 1) := by decide +kernel
theorem dX2_nameKey_39 : decode cX2_nameKey 39 = .ok (.i2l, 1) := by decide +kernel
theorem dX2_nameKey_40 : decode cX2_nameKey 40 = .ok (.ladd, 1) := by decide +kernel
theorem dX2_nameKey_41 : decode cX2_nameKey 41 = .ok (.lstore_n 2, 1) := by decide +kernel
theorem dX2_nameKey_42 : decode cX2_nameKey 42 = .ok (.iinc 4 1, 3) := by decide +kernel
theorem dX2_nameKey_45 : decode cX2_nameKey 45 = .ok (.goto (-35), 3) := by decide +kernel
theorem dX2_nameKey_48 : decode cX2_nameKey 48 = .ok (.lload_n 2, 1) := by decide +kernel
theorem dX2_nameKey_49 : decode cX2_nameKey 49 = .ok (.lreturn, 1) := by decide +kernel
set_option maxRecDepth 20000 in
theorem ggX2_nameLength_X2_isLetter : GoodIn wsX2_nameLength wsX2_isLetter := goodIn_r _ [10] (by decide +kernel) (by decide +kernel)
set_option maxRecDepth 20000 in
theorem gX2_nameLength_X2_isLetter : GoodIn wsX2_nameLength (va_wsS RX2 42 yX2_isLetter wsX2_isLetter) := goodIn_app (goodIn_of _ (by decide +kernel)) ggX2_nameLength_X2_isLetter
set_option maxRecDepth 20000 in
theorem ggX2_nameLength_X2_isDigit : GoodIn wsX2_nameLength wsX2_isDigit := goodIn_r _ [13] (by decide +kernel) (by decide +kernel)
set_option maxRecDepth 20000 in
theorem gX2_nameLength_X2_isDigit : GoodIn wsX2_nameLength (va_wsS RX2 46 yX2_isDigit wsX2_isDigit) := goodIn_app (goodIn_of _ (by decide +kernel)) ggX2_nameLength_X2_isDigit
theorem dX2_nameLength_0 : decode cX2_nameLength 0 = .ok (.aload_n 0, 1) := by decide +kernel
theorem dX2_nameLength_1 : decode cX2_nameLength 1 = .ok (.getfield 15, 3) := by decide +kernel
theorem dX2_nameLength_4 : decode cX2_nameLength 4 = .ok (.bipush 6, 2) := by decide +kernel
theorem dX2_nameLength_6 : decode cX2_nameLength 6 = .ok (.invokestatic 36, 3) := by decide +kernel
theorem dX2_nameLength_9 : decode cX2_nameLength 9 = .ok (.istore_n 1, 1) := by decide +kernel
theorem dX2_nameLength_10 : decode cX2_nameLength 10 = .ok (.iconst 0, 1) := by decide +kernel
theorem dX2_nameLength_11 : decode cX2_nameLength 11 = .ok (.istore_n 2, 1) := by decide +kernel
theorem dX2_nameLength_12 : decode cX2_nameLength 12 = .ok (.iload_n 2, 1) := by decide +kernel
theorem dX2_nameLength_13 : decode cX2_nameLength 13 = .ok (.iload_n 1, 1) := by decide +kernel
theorem dX2_nameLength_14 : decode cX2_nameLength 14 = .ok (.if_icmp .ge 49, 3) := by decide +kernel
theorem dX2_nameLength_17 : decode cX2_nameLength 17 = .ok (.aload_n 0, 1) := by decide +kernel
theorem dX2_nameLength_18 : decode cX2_nameLength 18 = .ok (.getfield 11, 3) := by decide +kernel
theorem dX2_nameLength_21 : decode cX2_nameLength 21 = .ok (.iload_n 2, 1) := by decide +kernel
theorem dX2_nameLength_22 : decode cX2_nameLength 22 = .ok (.iaload, 1) := by decide +kernel
theorem dX2_nameLength_23 : decode cX2_nameLength 23 = .ok (.invokestatic 42, 3) := by decide +kernel
theorem dX2_nameLength_26 : decode cX2_nameLength 26 = .ok (.ifCond .ne 19, 3) := by decide +kernel
theorem dX2_nameLength_29 : decode cX2_nameLength 29 = .ok (.iload_n 2, 1) := by decide +kernel
theorem dX2_nameLength_30 : decode cX2_nameLength 30 = .ok (.ifCond .le 19, 3) := by decide +kernel
theorem dX2_nameLength_33 : decode cX2_nameLength 33 = .ok (.aload_n 0, 1) := by decide +kernel
theorem dX2_nameLength_34 : decode cX2_nameLength 34 = .ok (.getfield 11, 3) := by decide +kernel
theorem dX2_nameLength_37 : decode cX2_nameLength 37 = .ok (.iload_n 2, 1) := by decide +kernel
theorem dX2_nameLength_38 : decode cX2_nameLength 38 = .ok (.iaload, 1) := by decide +kernel
theorem dX2_nameLength_39 : decode cX2_nameLength 39 = .ok (.invokestatic 46, 3) := by decide +kernel
theorem dX2_nameLength_42 : decode cX2_nameLength 42 = .ok (.ifCond .eq 7, 3) := by decide +kernel
theorem dX2_nameLength_45 : decode cX2_nameLength 45 = .ok (.iconst 1, 1) := by decide +kernel
theorem dX2_nameLength_46 : decode cX2_nameLength 46 = .ok (.goto 4, 3) := by decide +kernel
theorem dX2_nameLength_49 : decode cX2_nameLength 49 = .ok (.iconst 0, 1) := by decide +kernel
theorem dX2_nameLength_50 : decode cX2_nameLength 50 = .ok (.istore_n 3, 1) := by decide +kernel
theorem dX2_nameLength_51 : decode cX2_nameLength 51 = .ok (.iload_n 3, 1) := by decide +kernel
theorem dX2_nameLength_52 : decode cX2_nameLength 52 = .ok (.ifCond .ne 5, 3) := by decide +kernel
theorem dX2_nameLength_55 : decode cX2_nameLength 55 = .ok (.iload_n 2, 1) := by decide +kernel
theorem dX2_nameLength_56 : decode cX2_nameLength 56 = .ok (.ireturn, 1) := by decide +kernel
theorem dX2_nameLength_57 : decode cX2_nameLength 57 = .ok (.iinc 2 1, 3) := by decide +kernel
theorem dX2_nameLength_60 : decode cX2_nameLength 60 = .ok (.goto (-48), 3) := by decide +kernel
theorem dX2_nameLength_63 : decode cX2_nameLength 63 = .ok (.iload_n 1, 1) := by decide +kernel
theorem dX2_nameLength_64 : decode cX2_nameLength 64 = .ok (.ireturn, 1) := by decide +kernel
set_option maxRecDepth 20000 in
theorem ggX2_isAllowedBehindName_X2_isDigit : GoodIn wsX2_isAllowedBehindName wsX2_isDigit := goodIn_r _ [4] (by decide +kernel) (by decide +kernel)
set_option maxRecDepth 20000 in
theorem gX2_isAllowedBehindName_X2_isDigit : GoodIn wsX2_isAllowedBehindName (va_wsS RX2 46 yX2_isDigit wsX2_isDigit) := goodIn_app (goodIn_of _ (by decide +kernel)) ggX2_isAllowedBehindName_X2_isDigit
theorem dX2_isAllowedBehindName_0 : decode cX2_isAllowedBehindName 0 = .ok (.iload_n 0, 1) := by decide +kernel
theorem dX2_isAllowedBehindName_1 : decode cX2_isAllowedBehindName 1 = .ok (.bipush 21, 2) := by decide +kernel
theorem dX2_isAllowedBehindName_3 : decode cX2_isAllowedBehindName 3 = .ok (.if_icmp .lt 5, 3) := by decide +kernel
theorem dX2_isAllowedBehindName_6 : decode cX2_isAllowedBehindName 6 = .ok (.iconst 0, 1) := by decide +kernel
theorem dX2_isAllowedBehindName_7 : decode cX2_isAllowedBehindName 7 = .ok (.ireturn, 1) := by decide +kernel
theorem dX2_isAllowedBehindName_8 : decode cX2_isAllowedBehindName 8 = .ok (.iload_n 0, 1) := by decide +kernel
theorem dX2_isAllowedBehindName_9 : decode cX2_isAllowedBehindName 9 = .ok (.bipush 7, 2) := by decide +kernel
theorem dX2_isAllowedBehindName_11 : decode cX2_isAllowedBehindName 11 = .ok (.irem, 1) := by decide +kernel
theorem dX2_isAllowedBehindName_12 : decode cX2_isAllowedBehindName 12 = .ok (.istore_n 2, 1) := by decide +kernel
theorem dX2_isAllowedBehindName_13 : decode cX2_isAllowedBehindName 13 = .ok (.iload_n 2, 1) := by decide +kernel
theorem dX2_isAllowedBehindName_14 : decode cX2_isAllowedBehindName 14 = .ok (.ifCond .ne 15, 3) := by decide +kernel
theorem dX2_isAllowedBehindName_17 : decode cX2_isAllowedBehindName 17 = .ok (.iload_n 1, 1) := by decide +kernel
theorem dX2_isAllowedBehindName_18 : decode cX2_isAllowedBehindName 18 = .ok (.bipush 32, 2) := by decide +kernel
theorem dX2_isAllowedBehindName_20 : decode cX2_isAllowedBehindName 20 = .ok (.if_icmp .ne 7, 3) := by decide +kernel
theorem dX2_isAllowedBehindName_23 : decode cX2_isAllowedBehindName 23 = .ok (.iconst 1, 1) := by decide +kernel
theorem dX2_isAllowedBehindName_24 : decode cX2_isAllowedBehindName 24 = .ok (.goto 4, 3) := by decide +kernel
theorem dX2_isAllowedBehindName_27 : decode cX2_isAllowedBehindName 27 = .ok (.iconst 0, 1) := by decide +kernel
theorem dX2_isAllowedBehindName_28 : decode cX2_isAllowedBehindName 28 = .ok (.ireturn, 1) := by decide +kernel
theorem dX2_isAllowedBehindName_29 : decode cX2_isAllowedBehindName 29 = .ok (.iload_n 1, 1) := by decide +kernel
theorem dX2_isAllowedBehindName_30 : decode cX2_isAllowedBehindName 30 = .ok (.invokestatic 46, 3) := by decide +kernel
theorem dX2_isAllowedBehindName_33 : decode cX2_isAllowedBehindName 33 = .ok (.ifCond .eq 18, 3) := by decide +kernel
theorem dX2_isAllowedBehindName_36 : decode cX2_isAllowedBehindName 36 = .ok (.iload_n 2, 1) := by decide +kernel
theorem dX2_isAllowedBehindName_37 : decode cX2_isAllowedBehindName 37 = .ok (.iconst 1, 1) := by decide +kernel
theorem dX2_isAllowedBehindName_38 : decode cX2_isAllowedBehindName 38 = .ok (.if_icmp .gt 9, 3) := by decide +kernel
theorem dX2_isAllowedBehindName_41 : decode cX2_isAllowedBehindName 41 = .ok (.iload_n 1, 1) := by decide +kernel
theorem dX2_isAllowedBehindName_42 : decode cX2_isAllowedBehindName 42 = .ok (.bipush 48, 2) := by decide +kernel
theorem dX2_isAllowedBehindName_44 : decode cX2_isAllowedBehindName 44 = .ok (.if_icmp .eq 7, 3) := by decide +kernel
theorem dX2_isAllowedBehindName_47 : decode cX2_isAllowedBehindName 47 = .ok (.iconst 1, 1) := by decide +kernel
theorem dX2_isAllowedBehindName_48 : decode cX2_isAllowedBehindName 48 = .ok (.goto 4, 3) := by decide +kernel
theorem dX2_isAllowedBehindName_51 : decode cX2_isAllowedBehindName 51 = .ok (.iconst 0, 1) := by decide +kernel
theorem dX2_isAllowedBehindName_52 : decode cX2_isAllowedBehindName 52 = .ok (.ireturn, 1) := by decide +kernel
theorem dX2_isLetter_0 : decode cX2_isLetter 0 = .ok (.iload_n 0, 1) := by decide +kernel
theorem dX2_isLetter_1 : decode cX2_isLetter 1 = .ok (.bipush 65, 2) := by decide +kernel
theorem dX2_isLetter_3 : decode cX2_isLetter 3 = .ok (.if_icmp .lt 13, 3) := by decide +kernel
theorem dX2_isLetter_6 : decode cX2_isLetter 6 = .ok (.iload_n 0, 1) := by decide +kernel
theorem dX2_isLetter_7 : decode cX2_isLetter 7 = .ok (.bipush 90, 2) := by decide +kernel
theorem dX2_isLetter_9 : decode cX2_isLetter 9 = .ok (.if_icmp .gt 7, 3) := by decide +kernel
theorem dX2_isLetter_12 : decode cX2_isLetter 12 = .ok (.iconst 1, 1) := by decide +kernel
theorem dX2_isLetter_13 : decode cX2_isLetter 13 = .ok (.goto 4, 3) := by decide +kernel
theorem dX2_isLetter_16 : decode cX2_isLetter 16 = .ok (.iconst 0, 1) := by decide +kernel
theorem dX2_isLetter_17 : decode cX2_isLetter 17 = .ok (.ireturn, 1) := by decide +kernel
theorem dX2_isDigit_0 : decode cX2_isDigit 0 = .ok (.iload_n 0, 1) := by decide +kernel
theorem dX2_isDigit_1 : decode cX2_isDigit 1 = .ok (.bipush 48, 2) := by decide +kernel
theorem dX2_isDigit_3 : decode cX2_isDigit 3 = .ok (.if_icmp .lt 13, 3) := by decide +kernel
theorem dX2_isDigit_6 : decode cX2_isDigit 6 = .ok (.iload_n 0, 1) := by decide +kernel
theorem dX2_isDigit_7 : decode cX2_isDigit 7 = .ok (.bipush 57, 2) := by decide +kernel
theorem dX2_isDigit_9 : decode cX2_isDigit 9 = .ok (.if_icmp .gt 7, 3) := by decide +kernel
theorem dX2_isDigit_12 : decode cX2_isDigit 12 = .ok (.iconst 1, 1) := by decide +kernel
theorem dX2_isDigit_13 : decode cX2_isDigit 13 = .ok (.goto 4, 3) := by decide +kernel
theorem dX2_isDigit_16 : decode cX2_isDigit 16 = .ok (.iconst 0, 1) := by decide +kernel
theorem dX2_isDigit_17 : decode cX2_isDigit 17 = .ok (.ireturn, 1) := by decide +kernel
theorem dX3_init_0 : decode cX3_init 0 = .ok (.aload_n 0, 1) := by decide +kernel
theorem dX3_init_1 : decode cX3_init 1 = .ok (.invokespecial 3, 3) := by decide +kernel
theorem dX3_init_4 : decode cX3_init 4 = .ok (.aload_n 0, 1) := by decide +kernel
theorem dX3_init_5 : decode cX3_init 5 = .ok (.bipush 8, 2) := by decide +kernel
theorem dX3_init_7 : decode cX3_init 7 = .ok (.newarray .int, 2) := by decide +kernel
theorem dX3_init_9 : decode cX3_init 9 = .ok (.putfield 9, 3) := by decide +kernel
theorem dX3_init_12 : decode cX3_init 12 = .ok (.aload_n 0, 1) := by decide +kernel
theorem dX3_init_13 : decode cX3_init 13 = .ok (.bipush 8, 2) := by decide +kernel
theorem dX3_init_15 : decode cX3_init 15 = .ok (.newarray .int, 2) := by decide +kernel
theorem dX3_init_17 : decode cX3_init 17 = .ok (.putfield 15, 3) := by decide +kernel
theorem dX3_init_20 : decode cX3_init 20 = .ok (.return_, 1) := by decide +kernel
theorem dX3_has_0 : decode cX3_has 0 = .ok (.iload_n 1, 1) := by decide +kernel
theorem dX3_has_1 : decode cX3_has 1 = .ok (.ifCond .lt 15, 3) := by decide +kernel
theorem dX3_has_4 : decode cX3_has 4 = .ok (.iload_n 1, 1) := by decide +kernel
theorem dX3_has_5 : decode cX3_has 5 = .ok (.aload_n 0, 1) := by decide +kernel
theorem dX3_has_6 : decode cX3_has 6 = .ok (.getfield 18, 3) := by decide +kernel
theorem dX3_has_9 : decode cX3_has 9 = .ok (.if_icmp .ge 7, 3) := by decide +kernel
theorem dX3_has_12 : decode cX3_has 12 = .ok (.iconst 1, 1) := by decide +kernel
theorem dX3_has_13 : decode cX3_has 13 = .ok (.goto 4, 3) := by decide +kernel
theorem dX3_has_16 : decode cX3_has 16 = .ok (.iconst 0, 1) := by decide +kernel
theorem dX3_has_17 : decode cX3_has 17 = .ok (.ireturn, 1) := by decide +kernel
theorem dX3_uses_0 : decode cX3_uses 0 = .ok (.iconst 0, 1) := by decide +kernel
theorem dX3_uses_1 : decode cX3_uses 1 = .ok (.istore_n 2, 1) := by decide +kernel
theorem dX3_uses_2 : decode cX3_uses 2 = .ok (.iload_n 2, 1) := by decide +kernel
theorem dX3_uses_3 : decode cX3_uses 3 = .ok (.aload_n 0, 1) := by decide +kernel
theorem dX3_uses_4 : decode cX3_uses 4 = .ok (.getfield 18, 3) := by decide +kernel
theorem dX3_uses_7 : decode cX3_uses 7 = .ok (.if_icmp .ge 21, 3) := by decide +kernel
theorem dX3_uses_10 : decode cX3_uses 10 = .ok (.aload_n 0, 1) := by decide +kernel
theorem dX3_uses_11 : decode cX3_uses 11 = .ok (.getfield 9, 3) := by decide +kernel
theorem dX3_uses_14 : decode cX3_uses 14 = .ok (.iload_n 2, 1) := by decide +kernel
theorem dX3_uses_15 : decode cX3_uses 15 = .ok (.iaload, 1) := by decide +kernel
theorem dX3_uses_16 : decode cX3_uses 16 = .ok (.iload_n 1, 1) := by decide +kernel
theorem dX3_uses_17 : decode cX3_uses 17 = .ok (.if_icmp .ne 5, 3) := by decide +kernel
theorem dX3_uses_20 : decode cX3_uses 20 = .ok (.iconst 1, 1) := by decide +kernel
theorem dX3_uses_21 : decode cX3_uses 21 = .ok (.ireturn, 1) := by decide +kernel
theorem dX3_uses_22 : decode cX3_uses 22 = .ok (.iinc 2 1, 3) := by decide +kernel
theorem dX3_uses_25 : decode cX3_uses 25 = .ok (.goto (-23), 3) := by decide +kernel
theorem dX3_uses_28 : decode cX3_uses 28 = .ok (.iconst 0, 1) := by decide +kernel
theorem dX3_uses_29 : decode cX3_uses 29 = .ok (.ireturn, 1) := by decide +kernel
theorem dX3_add_0 : decode cX3_add 0 = .ok (.aload_n 0, 1) := by decide +kernel
theorem dX3_add_1 : decode cX3_add 1 = .ok (.getfield 18, 3) := by decide +kernel
theorem dX3_add_4 : decode cX3_add 4 = .ok (.bipush 8, 2) := by decide +kernel
theorem dX3_add_6 : decode cX3_add 6 = .ok (.if_icmp .ge 33, 3) := by decide +kernel
theorem dX3_add_9 : decode cX3_add 9 = .ok (.aload_n 0, 1) := by decide +kernel
theorem dX3_add_10 : decode cX3_add 10 = .ok (.getfield 9, 3) := by decide +kernel
theorem dX3_add_13 : decode cX3_add 13 = .ok (.aload_n 0, 1) := by decide +kernel
theorem dX3_add_14 : decode cX3_add 14 = .ok (.getfield 18, 3) := by decide +kernel
theorem dX3_add_17 : decode cX3_add 17 = .ok (.iload_n 1, 1) := by decide +kernel
theorem dX3_add_18 : decode cX3_add 18 = .ok (.iastore, 1) := by decide +kernel
theorem dX3_add_19 : decode cX3_add 19 = .ok (.aload_n 0, 1) := by decide +kernel
theorem dX3_add_20 : decode cX3_add 20 = .ok (.getfield 15, 3) := by decide +kernel
theorem dX3_add_23 : decode cX3_add 23 = .ok (.aload_n 0, 1) := by decide +kernel
theorem dX3_add_24 : decode cX3_add 24 = .ok (.getfield 18, 3) := by decide +kernel
theorem dX3_add_27 : decode cX3_add 27 = .ok (.iload_n 2, 1) := by decide +kernel
theorem dX3_add_28 : decode cX3_add 28 = .ok (.iastore, 1) := by decide +kernel
theorem dX3_add_29 : decode cX3_add 29 = .ok (.aload_n 0, 1) := by decide +kernel
theorem dX3_add_30 : decode cX3_add 30 = .ok (.dup, 1) := by decide +kernel
theorem dX3_add_31 : decode cX3_add 31 = .ok (.getfield 18, 3) := by decide +kernel
theorem dX3_add_34 : decode cX3_add 34 = .ok (.iconst 1, 1) := by decide +kernel
theorem dX3_add_35 : decode cX3_add 35 = .ok (.iadd, 1) := by decide +kernel
theorem dX3_add_36 : decode cX3_add 36 = .ok (.putfield 18, 3) := by decide +kernel
theorem dX3_add_39 : decode cX3_add 39 = .ok (.return_, 1) := by decide +kernel
set_option maxRecDepth 20000 in
theorem ggX3_remove_X3_has : GoodIn wsX3_remove wsX3_has := goodIn_r _ [8, 1, 9, 10, 11] (by decide +kernel) (by decide +kernel)
set_option maxRecDepth 20000 in
theorem gX3_remove_X3_has : GoodIn wsX3_remove (wsV RX3 22 RX3 yX3_has wsX3_has) := goodIn_app (goodIn_of _ (by decide +kernel)) ggX3_remove_X3_has
theorem dX3_remove_0 : decode cX3_remove 0 = .ok (.aload_n 0, 1) := by decide +kernel
theorem dX3_remove_1 : decode cX3_remove 1 = .ok (.iload_n 1, 1) := by decide +kernel
theorem dX3_remove_2 : decode cX3_remove 2 = .ok (.invokevirtual 22, 3) := by decide +kernel
theorem dX3_remove_5 : decode cX3_remove 5 = .ok (.ifCond .eq 59, 3) := by decide +kernel
theorem dX3_remove_8 : decode cX3_remove 8 = .ok (.iload_n 1, 1) := by decide +kernel
theorem dX3_remove_9 : decode cX3_remove 9 = .ok (.iconst 1, 1) := by decide +kernel
theorem dX3_remove_10 : decode cX3_remove 10 = .ok (.iadd, 1) := by decide +kernel
theorem dX3_remove_11 : decode cX3_remove 11 = .ok (.istore_n 2, 1) := by decide +kernel
theorem dX3_remove_12 : decode cX3_remove 12 = .ok (.iload_n 2, 1) := by decide +kernel
theorem dX3_remove_13 : decode cX3_remove 13 = .ok (.aload_n 0, 1) := by decide +kernel
theorem dX3_remove_14 : decode cX3_remove 14 = .ok (.getfield 18, 3) := by decide +kernel
theorem dX3_remove_17 : decode cX3_remove 17 = .ok (.if_icmp .ge 37, 3) := by decide +kernel
theorem dX3_remove_20 : decode cX3_remove 20 = .ok (.aload_n 0, 1) := by decide +kernel
theorem dX3_remove_21 : decode cX3_remove 21 = .ok (.getfield 9, 3) := by decide +kernel
theorem dX3_remove_24 : decode cX3_remove 24 = .ok (.iload_n 2, 1) := by decide +kernel
theorem dX3_remove_25 : decode cX3_remove 25 = .ok (.iconst 1, 1) := by decide +kernel
theorem dX3_remove_26 : decode cX3_remove 26 = .ok (.isub, 1) := by decide +kernel
theorem dX3_remove_27 : decode cX3_remove 27 = .ok (.aload_n 0, 1) := by decide +kernel
theorem dX3_remove_28 : decode cX3_remove 28 = .ok (.getfield 9, 3) := by decide +kernel
theorem dX3_remove_31 : decode cX3_remove 31 = .ok (.iload_n 2, 1) := by decide +kernel
theorem dX3_remove_32 : decode cX3_remove 32 = .ok (.iaload, 1) := by decide +kernel
theorem dX3_remove_33 : decode cX3_remove 33 = .ok (.iastore, 1) := by decide +kernel
theorem dX3_remove_34 : decode cX3_remove 34 = .ok (.aload_n 0, 1) := by decide +kernel
theorem dX3_remove_35 : decode cX3_remove 35 = .ok (.getfield 15, 3) := by decide +kernel
theorem dX3_remove_38 : decode cX3_remove 38 = .ok (.iload_n 2, 1) := by decide +kernel
theorem dX3_remove_39 : decode cX3_remove 39 = .ok (.iconst 1, 1) := by decide +kernel
theorem dX3_remove_40 : decode cX3_remove 40 = .ok (.isub, 1) := by decide +kernel
theorem dX3_remove_41 : decode cX3_remove 41 = .ok (.aload_n 0, 1) := by decide +kernel
theorem dX3_remove_42 : decode cX3_remove 42 = .ok (.getfield 15, 3) := by decide +kernel
theorem dX3_remove_45 : decode cX3_remove 45 = .ok (.iload_n 2, 1) := by decide +kernel
theorem dX3_remove_46 : decode cX3_remove 46 = .ok (.iaload, 1) := by decide +kernel
theorem dX3_remove_47 : decode cX3_remove 47 = .ok (.iastore, 1) := by decide +kernel
theorem dX3_remove_48 : decode cX3_remove 48 = .ok (.iinc 2 1, 3) := by decide +kernel
theorem dX3_remove_51 : decode cX3_remove 51 = .ok (.goto (-39), 3) := by decide +kernel
theorem dX3_remove_54 : decode cX3_remove 54 = .ok (.aload_n 0, 1) := by decide +kernel
theorem dX3_remove_55 : decode cX3_remove 55 = .ok (.dup, 1) := by decide +kernel
theorem dX3_remove_56 : decode cX3_remove 56 = .ok (.getfield 18, 3) := by decide +kernel
theorem dX3_remove_59 : decode cX3_remove 59 = .ok (.iconst 1, 1) := by decide +kernel
theorem dX3_remove_60 : decode cX3_remove 60 = .ok (.isub, 1) := by decide +kernel
theorem dX3_remove_61 : decode cX3_remove 61 = .ok (.putfield 18, 3) := by decide +kernel
theorem dX3_remove_64 : decode cX3_remove 64 = .ok (.return_, 1) := by decide +kernel
theorem dX3_closeGapAt_0 : decode cX3_closeGapAt 0 = .ok (.iconst 0, 1) := by decide +kernel
theorem dX3_closeGapAt_1 : decode cX3_closeGapAt 1 = .ok (.istore_n 2, 1) := by decide +kernel
theorem dX3_closeGapAt_2 : decode cX3_closeGapAt 2 = .ok (.iload_n 2, 1) := by decide +kernel
theorem dX3_closeGapAt_3 : decode cX3_closeGapAt 3 = .ok (.aload_n 0, 1) := by decide +kernel
theorem dX3_closeGapAt_4 : decode cX3_closeGapAt 4 = .ok (.getfield 18, 3) := by decide +kernel
theorem dX3_closeGapAt_7 : decode cX3_closeGapAt 7 = .ok (.if_icmp .ge 29, 3) := by decide +kernel
theorem dX3_closeGapAt_10 : decode cX3_closeGapAt 10 = .ok (.aload_n 0, 1) := by decide +kernel
theorem dX3_closeGapAt_11 : decode cX3_closeGapAt 11 = .ok (.getfield 9, 3) := by decide +kernel
theorem dX3_closeGapAt_14 : decode cX3_closeGapAt 14 = .ok (.iload_n 2, 1) := by decide +kernel
theorem dX3_closeGapAt_15 : decode cX3_closeGapAt 15 = .ok (.iaload, 1) := by decide +kernel
theorem dX3_closeGapAt_16 : decode cX3_closeGapAt 16 = .ok (.iload_n 1, 1) := by decide +kernel
theorem dX3_closeGapAt_17 : decode cX3_closeGapAt 17 = .ok (.if_icmp .le 13, 3) := by decide +kernel
theorem dX3_closeGapAt_20 : decode cX3_closeGapAt 20 = .ok (.aload_n 0, 1) := by decide +kernel
theorem dX3_closeGapAt_21 : decode cX3_closeGapAt 21 = .ok (.getfield 9, 3) := by decide +kernel
theorem dX3_closeGapAt_24 : decode cX3_closeGapAt 24 = .ok (.iload_n 2, 1) := by decide +kernel
theorem dX3_closeGapAt_25 : decode cX3_closeGapAt 25 = .ok (.dup2, 1) := by decide +kernel
theorem dX3_closeGapAt_26 : decode cX3_closeGapAt 26 = .ok (.iaload, 1) := by decide +kernel
theorem dX3_closeGapAt_27 : decode cX3_closeGapAt 27 = .ok (.iconst 1, 1) := by decide +kernel
theorem dX3_closeGapAt_28 : decode cX3_closeGapAt 28 = .ok (.isub, 1) := by decide +kernel
theorem dX3_closeGapAt_29 : decode cX3_closeGapAt 29 = .ok (.iastore, 1) := by decide +kernel
theorem dX3_closeGapAt_30 : decode cX3_closeGapAt 30 = .ok (.iinc 2 1, 3) := by decide +kernel
theorem dX3_closeGapAt_33 : decode cX3_closeGapAt 33 = .ok (.goto (-31), 3) := by decide +kernel
theorem dX3_closeGapAt_36 : decode cX3_closeGapAt 36 = .ok (.return_, 1) := by decide +kernel
theorem dX3_glassOf_0 : decode cX3_glassOf 0 = .ok (.aload_n 0, 1) := by decide +kernel
theorem dX3_glassOf_1 : decode cX3_glassOf 1 = .ok (.getfield 9, 3) := by decide +kernel
theorem dX3_glassOf_4 : decode cX3_glassOf 4 = .ok (.iload_n 1, 1) := by decide +kernel
theorem dX3_glassOf_5 : decode cX3_glassOf 5 = .ok (.iaload, 1) := by decide +kernel
theorem dX3_glassOf_6 : decode cX3_glassOf 6 = .ok (.ireturn, 1) := by decide +kernel
theorem dX3_powerOf_0 : decode cX3_powerOf 0 = .ok (.aload_n 0, 1) := by decide +kernel
theorem dX3_powerOf_1 : decode cX3_powerOf 1 = .ok (.getfield 15, 3) := by decide +kernel
theorem dX3_powerOf_4 : decode cX3_powerOf 4 = .ok (.iload_n 1, 1) := by decide +kernel
theorem dX3_powerOf_5 : decode cX3_powerOf 5 = .ok (.iaload, 1) := by decide +kernel
theorem dX3_powerOf_6 : decode cX3_powerOf 6 = .ok (.ireturn, 1) := by decide +kernel
set_option maxRecDepth 20000 in
theorem ggX3_powerFor_X3_lensPower : GoodIn wsX3_powerFor wsX3_lensPower := goodIn_r _ [7, 8, 9, 10, 2, 11, 12, 13, 14, 15, 16, 17, 18, 19, 20, 21, 22, 23, 24, 25, 26, 27, 28, 29, 30, 31, 32, 33, 34, 35, 36, 37, 38] (by decide +kernel) (by decide +kernel)
set_option maxRecDepth 20000 in
theorem gX3_powerFor_X3_lensPower : GoodIn wsX3_powerFor (wsV RX3 26 RX3 yX3_lensPower wsX3_lensPower) := goodIn_app (goodIn_of _ (by decide +kernel)) ggX3_powerFor_X3_lensPower
theorem dX3_powerFor_0 : decode cX3_powerFor 0 = .ok (.lconst 0, 1) := by decide +kernel
theorem dX3_powerFor_1 : decode cX3_powerFor 1 = .ok (.lstore_n 3, 1) := by decide +kernel
theorem dX3_powerFor_2 : decode cX3_powerFor 2 = .ok (.iconst 0, 1) := by decide +kernel
theorem dX3_powerFor_3 : decode cX3_powerFor 3 = .ok (.istore 5, 2) := by decide +kernel
theorem dX3_powerFor_5 : decode cX3_powerFor 5 = .ok (.iload 5, 2) := by decide +kernel
theorem dX3_powerFor_7 : decode cX3_powerFor 7 = .ok (.aload_n 0, 1) := by decide +kernel
theorem dX3_powerFor_8 : decode cX3_powerFor 8 = .ok (.getfield 18, 3) := by decide +kernel
theorem dX3_powerFor_11 : decode cX3_powerFor 11 = .ok (.if_icmp .ge 27, 3) := by decide +kernel
theorem dX3_powerFor_14 : decode cX3_powerFor 14 = .ok (.lload_n 3, 1) := by decide +kernel
theorem dX3_powerFor_15 : decode cX3_powerFor 15 = .ok (.aload_n 0, 1) := by decide +kernel
theorem dX3_powerFor_16 : decode cX3_powerFor 16 = .ok (.iload 5, 2) := by decide +kernel
theorem dX3_powerFor_18 : decode cX3_powerFor 18 = .ok (.aload_n 0, 1) := by decide +kernel
theorem dX3_powerFor_19 : decode cX3_powerFor 19 = .ok (.getfield 9, 3) := by decide +kernel
theorem dX3_powerFor_22 : decode cX3_powerFor 22 = .ok (.iload 5, 2) := by decide +kernel
theorem dX3_powerFor_24 : decode cX3_powerFor 24 = .ok (.iaload, 1) := by decide +kernel
theorem dX3_powerFor_25 : decode cX3_powerFor 25 = .ok (.iload_n 1, 1) := by decide +kernel
theorem dX3_powerFor_26 : decode cX3_powerFor 26 = .ok (.aload_n 2, 1) := by decide +kernel
theorem dX3_powerFor_27 : decode cX3_powerFor 27 = .ok (.invokevirtual 26, 3) := by decide +kernel
theorem dX3_powerFor_30 : decode cX3_powerFor 30 = .ok (.ladd, 1) := by decide +kernel
theorem dX3_powerFor_31 : decode cX3_powerFor 31 = .ok (.lstore_n 3, 1) := by decide +kernel
theorem dX3_powerFor_32 : decode cX3_powerFor 32 = .ok (.iinc 5 1, 3) := by decide +kernel
theorem dX3_powerFor_35 : decode cX3_powerFor 35 = .ok (.goto (-30), 3) := by decide +kernel
theorem dX3_powerFor_38 : decode cX3_powerFor 38 = .ok (.lload_n 3, 1) := by decide +kernel
theorem dX3_powerFor_39 : decode cX3_powerFor 39 = .ok (.lreturn, 1) := by decide +kernel
set_option maxRecDepth 20000 in
theorem ggX3_changeWith_X3_lensPower : GoodIn wsX3_changeWith wsX3_lensPower := goodIn_r _ [6, 7, 8, 9, 1, 10, 11, 12, 13, 14, 15, 16, 17, 18, 19, 20, 21, 22, 23, 24, 25, 26, 27, 28, 29, 30, 31, 32, 33, 34, 35, 36, 37] (by decide +kernel) (by decide +kernel)
set_option maxRecDepth 20000 in
theorem gX3_changeWith_X3_lensPower : GoodIn wsX3_changeWith (wsV RX3 26 RX3 yX3_lensPower wsX3_lensPower) := goodIn_app (goodIn_of _ (by decide +kernel)) ggX3_changeWith_X3_lensPower
theorem dX3_changeWith_0 : decode cX3_changeWith 0 = .ok (.aload_n 0, 1) := by decide +kernel
theorem dX3_changeWith_1 : decode cX3_changeWith 1 = .ok (.iload_n 1, 1) := by decide +kernel
theorem dX3_changeWith_2 : decode cX3_changeWith 2 = .ok (.iload_n 2, 1) := by decide +kernel
theorem dX3_changeWith_3 : decode cX3_changeWith 3 = .ok (.iload_n 3, 1) := by decide +kernel
theorem dX3_changeWith_4 : decode cX3_changeWith 4 = .ok (.aload 4, 2) := by decide +kernel
theorem dX3_changeWith_6 : decode cX3_changeWith 6 = .ok (.invokevirtual 26, 3) := by decide +kernel
theorem dX3_changeWith_9 : decode cX3_changeWith 9 = .ok (.aload_n 0, 1) := by decide +kernel
theorem dX3_changeWith_10 : decode cX3_changeWith 10 = .ok (.iload_n 1, 1) := by decide +kernel
theorem dX3_changeWith_11 : decode cX3_changeWith 11 = .ok (.aload_n 0, 1) := by decide +kernel
theorem dX3_changeWith_12 : decode cX3_changeWith 12 = .ok (.getfield 9, 3) := by decide +kernel
theorem dX3_changeWith_15 : decode cX3_changeWith 15 = .ok (.iload_n 1, 1) := by decide +kernel
theorem dX3_changeWith_16 : decode cX3_changeWith 16 = .ok (.iaload, 1) := by decide +kernel
theorem dX3_changeWith_17 : decode cX3_changeWith 17 = .ok (.iload_n 3, 1) := by decide +kernel
theorem dX3_changeWith_18 : decode cX3_changeWith 18 = .ok (.aload 4, 2) := by decide +kernel
theorem dX3_changeWith_20 : decode cX3_changeWith 20 = .ok (.invokevirtual 26, 3) := by decide +kernel
theorem dX3_changeWith_23 : decode cX3_changeWith 23 = .ok (.lsub, 1) := by decide +kernel
theorem dX3_changeWith_24 : decode cX3_changeWith 24 = .ok (.lreturn, 1) := by decide +kernel
set_option maxRecDepth 20000 in
theorem ggX3_lensPower_X0_indexFor : GoodIn wsX3_lensPower wsX0_indexFor := goodIn_r _ [9, 10, 11, 12, 28, 29, 30, 31, 32] (by decide +kernel) (by decide +kernel)
set_option maxRecDepth 20000 in
theorem gX3_lensPower_X0_indexFor : GoodIn wsX3_lensPower (wsV RX3 30 RX0 yX0_indexFor wsX0_indexFor) := goodIn_app (goodIn_of _ (by decide +kernel)) ggX3_lensPower_X0_indexFor
set_option maxRecDepth 20000 in
theorem ggX3_lensPower_X0_valueA : GoodIn wsX3_lensPower wsX0_valueA := goodIn_r _ [16, 11, 17, 28, 29, 30, 31, 32] (by decide +kernel) (by decide +kernel)
set_option maxRecDepth 20000 in
theorem gX3_lensPower_X0_valueA : GoodIn wsX3_lensPower (wsV RX3 40 RX0 yX0_valueA wsX0_valueA) := goodIn_app (goodIn_of _ (by decide +kernel)) ggX3_lensPower_X0_valueA
set_option maxRecDepth 20000 in
theorem ggX3_lensPower_X5_floorQuotient : GoodIn wsX3_lensPower wsX5_floorQuotient := goodIn_r _ [20, 21, 22, 23, 24] (by decide +kernel) (by decide +kernel)
set_option maxRecDepth 20000 in
theorem gX3_lensPower_X5_floorQuotient_n44 : GoodIn wsX3_lensPower (wsX5_floorQuotient) := ggX3_lensPower_X5_floorQuotient
theorem dX3_lensPower_0 : decode cX3_lensPower 0 = .ok (.aload 4, 2) := by decide +kernel
theorem dX3_lensPower_2 : decode cX3_lensPower 2 = .ok (.iload_n 2, 1) := by decide +kernel
theorem dX3_lensPower_3 : decode cX3_lensPower 3 = .ok (.iload_n 3, 1) := by decide +kernel
theorem dX3_lensPower_4 : decode cX3_lensPower 4 = .ok (.invokevirtual 30, 3) := by decide +kernel
theorem dX3_lensPower_7 : decode cX3_lensPower 7 = .ok (.ldc2_w 36, 3) := by decide +kernel
theorem dX3_lensPower_10 : decode cX3_lensPower 10 = .ok (.lsub, 1) := by decide +kernel
theorem dX3_lensPower_11 : decode cX3_lensPower 11 = .ok (.lstore 5, 2) := by decide +kernel
theorem dX3_lensPower_13 : decode cX3_lensPower 13 = .ok (.aload_n 0, 1) := by decide +kernel
theorem dX3_lensPower_14 : decode cX3_lensPower 14 = .ok (.getfield 15, 3) := by decide +kernel
theorem dX3_lensPower_17 : decode cX3_lensPower 17 = .ok (.iload_n 1, 1) := by decide +kernel
theorem dX3_lensPower_18 : decode cX3_lensPower 18 = .ok (.iaload, 1) := by decide +kernel
theorem dX3_lensPower_19 : decode cX3_lensPower 19 = .ok (.i2l, 1) := by decide +kernel
theorem dX3_lensPower_20 : decode cX3_lensPower 20 = .ok (.ldc2_w 38, 3) := by decide +kernel
theorem dX3_lensPower_23 : decode cX3_lensPower 23 = .ok (.lmul, 1) := by decide +kernel
theorem dX3_lensPower_24 : decode cX3_lensPower 24 = .ok (.lload 5, 2) := by decide +kernel
theorem dX3_lensPower_26 : decode cX3_lensPower 26 = .ok (.lmul, 1) := by decide +kernel
theorem dX3_lensPower_27 : decode cX3_lensPower 27 = .ok (.aload 4, 2) := by decide +kernel
theorem dX3_lensPower_29 : decode cX3_lensPower 29 = .ok (.aload_n 0, 1) := by decide +kernel
theorem dX3_lensPower_30 : decode cX3_lensPower 30 = .ok (.getfield 9, 3) := by decide +kernel
theorem dX3_lensPower_33 : decode cX3_lensPower 33 = .ok (.iload_n 1, 1) := by decide +kernel
theorem dX3_lensPower_34 : decode cX3_lensPower 34 = .ok (.iaload, 1) := by decide +kernel
theorem dX3_lensPower_35 : decode cX3_lensPower 35 = .ok (.invokevirtual 40, 3) := by decide +kernel
theorem dX3_lensPower_38 : decode cX3_lensPower 38 = .ok (.invokestatic 44, 3) := by decide +kernel
theorem dX3_lensPower_41 : decode cX3_lensPower 41 = .ok (.lreturn, 1) := by decide +kernel
theorem dX4_init_0 : decode cX4_init 0 = .ok (.aload_n 0, 1) := by decide +kernel
theorem dX4_init_1 : decode cX4_init 1 = .ok (.invokespecial 3, 3) := by decide +kernel
theorem dX4_init_4 : decode cX4_init 4 = .ok (.aload_n 0, 1) := by decide +kernel
theorem dX4_init_5 : decode cX4_init 5 = .ok (.bipush 16, 2) := by decide +kernel
theorem dX4_init_7 : decode cX4_init 7 = .ok (.newarray .int, 2) := by decide +kernel
theorem dX4_init_9 : decode cX4_init 9 = .ok (.putfield 9, 3) := by decide +kernel
theorem dX4_init_12 : decode cX4_init 12 = .ok (.return_, 1) := by decide +kernel
theorem dX4_has_0 : decode cX4_has 0 = .ok (.iload_n 1, 1) := by decide +kernel
theorem dX4_has_1 : decode cX4_has 1 = .ok (.ifCond .lt 15, 3) := by decide +kernel
theorem dX4_has_4 : decode cX4_has 4 = .ok (.iload_n 1, 1) := by decide +kernel
theorem dX4_has_5 : decode cX4_has 5 = .ok (.aload_n 0, 1) := by decide +kernel
theorem dX4_has_6 : decode cX4_has 6 = .ok (.getfield 15, 3) := by decide +kernel
theorem dX4_has_9 : decode cX4_has 9 = .ok (.if_icmp .ge 7, 3) := by decide +kernel
theorem dX4_has_12 : decode cX4_has 12 = .ok (.iconst 1, 1) := by decide +kernel
theorem dX4_has_13 : decode cX4_has 13 = .ok (.goto 4, 3) := by decide +kernel
theorem dX4_has_16 : decode cX4_has 16 = .ok (.iconst 0, 1) := by decide +kernel
theorem dX4_has_17 : decode cX4_has 17 = .ok (.ireturn, 1) := by decide +kernel
theorem dX4_hasRadius_0 : decode cX4_hasRadius 0 = .ok (.iconst 0, 1) := by decide +kernel
theorem dX4_hasRadius_1 : decode cX4_hasRadius 1 = .ok (.istore_n 2, 1) := by decide +kernel
theorem dX4_hasRadius_2 : decode cX4_hasRadius 2 = .ok (.iload_n 2, 1) := by decide +kernel
theorem dX4_hasRadius_3 : decode cX4_hasRadius 3 = .ok (.aload_n 0, 1) := by decide +kernel
theorem dX4_hasRadius_4 : decode cX4_hasRadius 4 = .ok (.getfield 15, 3) := by decide +kernel
theorem dX4_hasRadius_7 : decode cX4_hasRadius 7 = .ok (.if_icmp .ge 21, 3) := by decide +kernel
theorem dX4_hasRadius_10 : decode cX4_hasRadius 10 = .ok (.aload_n 0, 1) := by decide +kernel
theorem dX4_hasRadius_11 : decode cX4_hasRadius 11 = .ok (.getfield 9, 3) := by decide +kernel
theorem dX4_hasRadius_14 : decode cX4_hasRadius 14 = .ok (.iload_n 2, 1) := by decide +kernel
theorem dX4_hasRadius_15 : decode cX4_hasRadius 15 = .ok (.iaload, 1) := by decide +kernel
theorem dX4_hasRadius_16 : decode cX4_hasRadius 16 = .ok (.iload_n 1, 1) := by decide +kernel
theorem dX4_hasRadius_17 : decode cX4_hasRadius 17 = .ok (.if_icmp .ne 5, 3) := by decide +kernel
theorem dX4_hasRadius_20 : decode cX4_hasRadius 20 = .ok (.iconst 1, 1) := by decide +kernel
theorem dX4_hasRadius_21 : decode cX4_hasRadius 21 = .ok (.ireturn, 1) := by decide +kernel
theorem dX4_hasRadius_22 : decode cX4_hasRadius 22 = .ok (.iinc 2 1, 3) := by decide +kernel
theorem dX4_hasRadius_25 : decode cX4_hasRadius 25 = .ok (.goto (-23), 3) := by decide +kernel
theorem dX4_hasRadius_28 : decode cX4_hasRadius 28 = .ok (.iconst 0, 1) := by decide +kernel
theorem dX4_hasRadius_29 : decode cX4_hasRadius 29 = .ok (.ireturn, 1) := by decide +kernel
theorem dX4_add_0 : decode cX4_add 0 = .ok (.aload_n 0, 1) := by decide +kernel
theorem dX4_add_1 : decode cX4_add 1 = .ok (.getfield 15, 3) := by decide +kernel
theorem dX4_add_4 : decode cX4_add 4 = .ok (.bipush 16, 2) := by decide +kernel
theorem dX4_add_6 : decode cX4_add 6 = .ok (.if_icmp .ge 23, 3) := by decide +kernel
theorem dX4_add_9 : decode cX4_add 9 = .ok (.aload_n 0, 1) := by decide +kernel
theorem dX4_add_10 : decode cX4_add 10 = .ok (.getfield 9, 3) := by decide +kernel
theorem dX4_add_13 : decode cX4_add 13 = .ok (.aload_n 0, 1) := by decide +kernel
theorem dX4_add_14 : decode cX4_add 14 = .ok (.getfield 15, 3) := by decide +kernel
theorem dX4_add_17 : decode cX4_add 17 = .ok (.iload_n 1, 1) := by decide +kernel
theorem dX4_add_18 : decode cX4_add 18 = .ok (.iastore, 1) := by decide +kernel
theorem dX4_add_19 : decode cX4_add 19 = .ok (.aload_n 0, 1) := by decide +kernel
theorem dX4_add_20 : decode cX4_add 20 = .ok (.dup, 1) := by decide +kernel
theorem dX4_add_21 : decode cX4_add 21 = .ok (.getfield 15, 3) := by decide +kernel
theorem dX4_add_24 : decode cX4_add 24 = .ok (.iconst 1, 1) := by decide +kernel
theorem dX4_add_25 : decode cX4_add 25 = .ok (.iadd, 1) := by decide +kernel
theorem dX4_add_26 : decode cX4_add 26 = .ok (.putfield 15, 3) := by decide +kernel
theorem dX4_add_29 : decode cX4_add 29 = .ok (.return_, 1) := by decide +kernel
theorem dX4_nearestTo_0 : decode cX4_nearestTo 0 = .ok (.iconst (-1), 1) := by decide +kernel
theorem dX4_nearestTo_1 : decode cX4_nearestTo 1 = .ok (.istore_n 2, 1) := by decide +kernel
theorem dX4_nearestTo_2 : decode cX4_nearestTo 2 = .ok (.lconst 0, 1) := by decide +kernel
theorem dX4_nearestTo_3 : decode cX4_nearestTo 3 = .ok (.lstore_n 3, 1) := by decide +kernel
theorem dX4_nearestTo_4 : decode cX4_nearestTo 4 = .ok (.iconst 0, 1) := by decide +kernel
theorem dX4_nearestTo_5 : decode cX4_nearestTo 5 = .ok (.istore 5, 2) := by decide +kernel
theorem dX4_nearestTo_7 : decode cX4_nearestTo 7 = .ok (.iload 5, 2) := by decide +kernel
theorem dX4_nearestTo_9 : decode cX4_nearestTo 9 = .ok (.aload_n 0, 1) := by decide +kernel
theorem dX4_nearestTo_10 : decode cX4_nearestTo 10 = .ok (.getfield 15, 3) := by decide +kernel
theorem dX4_nearestTo_13 : decode cX4_nearestTo 13 = .ok (.if_icmp .ge 77, 3) := by decide +kernel
theorem dX4_nearestTo_16 : decode cX4_nearestTo 16 = .ok (.aload_n 0, 1) := by decide +kernel
theorem dX4_nearestTo_17 : decode cX4_nearestTo 17 = .ok (.getfield 9, 3) := by decide +kernel
theorem dX4_nearestTo_20 : decode cX4_nearestTo 20 = .ok (.iload 5, 2) := by decide +kernel
theorem dX4_nearestTo_22 : decode cX4_nearestTo 22 = .ok (.iaload, 1) := by decide +kernel
theorem dX4_nearestTo_23 : decode cX4_nearestTo 23 = .ok (.i2l, 1) := by decide +kernel
theorem dX4_nearestTo_24 : decode cX4_nearestTo 24 = .ok (.iload_n 1, 1) := by decide +kernel
theorem dX4_nearestTo_25 : decode cX4_nearestTo 25 = .ok (.i2l, 1) := by decide +kernel
theorem dX4_nearestTo_26 : decode cX4_nearestTo 26 = .ok (.lsub, 1) := by decide +kernel
theorem dX4_nearestTo_27 : decode cX4_nearestTo 27 = .ok (.invokestatic 19, 3) := by decide +kernel
theorem dX4_nearestTo_30 : decode cX4_nearestTo 30 = .ok (.lstore 6, 2) := by decide +kernel
theorem dX4_nearestTo_32 : decode cX4_nearestTo 32 = .ok (.iload_n 2, 1) := by decide +kernel
theorem dX4_nearestTo_33 : decode cX4_nearestTo 33 = .ok (.ifCond .lt 33, 3) := by decide +kernel
theorem dX4_nearestTo_36 : decode cX4_nearestTo 36 = .ok (.lload 6, 2) := by decide +kernel
theorem dX4_nearestTo_38 : decode cX4_nearestTo 38 = .ok (.lload_n 3, 1) := by decide +kernel
theorem dX4_nearestTo_39 : decode cX4_nearestTo 39 = .ok (.lcmp, 1) := by decide +kernel
theorem dX4_nearestTo_40 : decode cX4_nearestTo 40 = .ok (.ifCond .lt 26, 3) := by decide +kernel
theorem dX4_nearestTo_43 : decode cX4_nearestTo 43 = .ok (.lload 6, 2) := by decide +kernel
theorem dX4_nearestTo_45 : decode cX4_nearestTo 45 = .ok (.lload_n 3, 1) := by decide +kernel
theorem dX4_nearestTo_46 : decode cX4_nearestTo 46 = .ok (.lcmp, 1) := by decide +kernel
theorem dX4_nearestTo_47 : decode cX4_nearestTo 47 = .ok (.ifCond .ne 23, 3) := by decide +kernel
theorem dX4_nearestTo_50 : decode cX4_nearestTo 50 = .ok (.aload_n 0, 1) := by decide +kernel
theorem dX4_nearestTo_51 : decode cX4_nearestTo 51 = .ok (.getfield 9, 3) := by decide +kernel
theorem dX4_nearestTo_54 : decode cX4_nearestTo 54 = .ok (.iload 5, 2) := by decide +kernel
theorem dX4_nearestTo_56 : decode cX4_nearestTo 56 = .ok (.iaload, 1) := by decide +kernel
theorem dX4_nearestTo_57 : decode cX4_nearestTo 57 = .ok (.aload_n 0, 1) := by decide +kernel
theorem dX4_nearestTo_58 : decode cX4_nearestTo 58 = .ok (.getfield 9, 3) := by decide +kernel
theorem dX4_nearestTo_61 : decode cX4_nearestTo 61 = .ok (.iload_n 2, 1) := by decide +kernel
theorem dX4_nearestTo_62 : decode cX4_nearestTo 62 = .ok (.iaload, 1) := by decide +kernel
theorem dX4_nearestTo_63 : decode cX4_nearestTo 63 = .ok (.if_icmp .ge 7, 3) := by decide +kernel
theorem dX4_nearestTo_66 : decode cX4_nearestTo 66 = .ok (.iconst 1, 1) := by decide +kernel
theorem dX4_nearestTo_67 : decode cX4_nearestTo 67 = .ok (.goto 4, 3) := by decide +kernel
theorem dX4_nearestTo_70 : decode cX4_nearestTo 70 = .ok (.iconst 0, 1) := by decide +kernel
theorem dX4_nearestTo_71 : decode cX4_nearestTo 71 = .ok (.istore 8, 2) := by decide +kernel
theorem dX4_nearestTo_73 : decode cX4_nearestTo 73 = .ok (.iload 8, 2) := by decide +kernel
theorem dX4_nearestTo_75 : decode cX4_nearestTo 75 = .ok (.ifCond .eq 9, 3) := by decide +kernel
theorem dX4_nearestTo_78 : decode cX4_nearestTo 78 = .ok (.iload 5, 2) := by decide +kernel
theorem dX4_nearestTo_80 : decode cX4_nearestTo 80 = .ok (.istore_n 2, 1) := by decide +kernel
theorem dX4_nearestTo_81 : decode cX4_nearestTo 81 = .ok (.lload 6, 2) := by decide +kernel
theorem dX4_nearestTo_83 : decode cX4_nearestTo 83 = .ok (.lstore_n 3, 1) := by decide +kernel
theorem dX4_nearestTo_84 : decode cX4_nearestTo 84 = .ok (.iinc 5 1, 3) := by decide +kernel
theorem dX4_nearestTo_87 : decode cX4_nearestTo 87 = .ok (.goto (-80), 3) := by decide +kernel
theorem dX4_nearestTo_90 : decode cX4_nearestTo 90 = .ok (.iload_n 2, 1) := by decide +kernel
theorem dX4_nearestTo_91 : decode cX4_nearestTo 91 = .ok (.ireturn, 1) := by decide +kernel
theorem dX4_signedRadius_0 : decode cX4_signedRadius 0 = .ok (.aload_n 0, 1) := by decide +kernel
theorem dX4_signedRadius_1 : decode cX4_signedRadius 1 = .ok (.getfield 9, 3) := by decide +kernel
theorem dX4_signedRadius_4 : decode cX4_signedRadius 4 = .ok (.iload_n 1, 1) := by decide +kernel
theorem dX4_signedRadius_5 : decode cX4_signedRadius 5 = .ok (.iconst 2, 1) := by decide +kernel
theorem dX4_signedRadius_6 : decode cX4_signedRadius 6 = .ok (.idiv, 1) := by decide +kernel
theorem dX4_signedRadius_7 : decode cX4_signedRadius 7 = .ok (.iaload, 1) := by decide +kernel
theorem dX4_signedRadius_8 : decode cX4_signedRadius 8 = .ok (.istore_n 2, 1) := by decide +kernel
theorem dX4_signedRadius_9 : decode cX4_signedRadius 9 = .ok (.iload_n 1, 1) := by decide +kernel
theorem dX4_signedRadius_10 : decode cX4_signedRadius 10 = .ok (.iconst 2, 1) := by decide +kernel
theorem dX4_signedRadius_11 : decode cX4_signedRadius 11 = .ok (.irem, 1) := by decide +kernel
theorem dX4_signedRadius_12 : decode cX4_signedRadius 12 = .ok (.ifCond .ne 8, 3) := by decide +kernel
theorem dX4_signedRadius_15 : decode cX4_signedRadius 15 = .ok (.iload_n 2, 1) := by decide +kernel
theorem dX4_signedRadius_16 : decode cX4_signedRadius 16 = .ok (.i2l, 1) := by decide +kernel
theorem dX4_signedRadius_17 : decode cX4_signedRadius 17 = .ok (.goto 6, 3) := by decide +kernel
theorem dX4_signedRadius_20 : decode cX4_signedRadius 20 = .ok (.iload_n 2, 1) := by decide +kernel
theorem dX4_signedRadius_21 : decode cX4_signedRadius 21 = .ok (.ineg, 1) := by decide +kernel
theorem dX4_signedRadius_22 : decode cX4_signedRadius 22 = .ok (.i2l, 1) := by decide +kernel
theorem dX4_signedRadius_23 : decode cX4_signedRadius 23 = .ok (.lreturn, 1) := by decide +kernel
set_option maxRecDepth 20000 in
theorem ggX5_init_X2_init : GoodIn wsX5_init wsX2_init := goodIn_r _ [25, 26, 2, 3, 27, 28, 54, 55] (by decide +kernel) (by decide +kernel)
set_option maxRecDepth 20000 in
theorem gX5_init_X2_init_n11 : GoodIn wsX5_init (wsX2_init) := ggX5_init_X2_init
set_option maxRecDepth 20000 in
theorem ggX5_init_X0_init : GoodIn wsX5_init wsX0_init := goodIn_r _ [30, 31, 2, 3, 32, 33, 27, 34, 35, 36, 61, 62, 63, 64, 65] (by decide +kernel) (by decide +kernel)
set_option maxRecDepth 20000 in
theorem gX5_init_X0_init_n18 : GoodIn wsX5_init (wsX0_init) := ggX5_init_X0_init
set_option maxRecDepth 20000 in
theorem ggX5_init_X1_init : GoodIn wsX5_init wsX1_init := goodIn_r _ [38, 39, 2, 3, 27, 40, 32, 41, 42, 43, 44, 66, 67, 68, 69, 70, 71] (by decide +kernel) (by decide +kernel)
set_option maxRecDepth 20000 in
theorem gX5_init_X1_init_n25 : GoodIn wsX5_init (wsX1_init) := ggX5_init_X1_init
set_option maxRecDepth 20000 in
theorem ggX5_init_X3_init : GoodIn wsX5_init wsX3_init := goodIn_r _ [46, 47, 2, 3, 27, 48, 49, 72, 73, 74] (by decide +kernel) (by decide +kernel)
set_option maxRecDepth 20000 in
theorem gX5_init_X3_init_n32 : GoodIn wsX5_init (wsX3_init) := ggX5_init_X3_init
set_option maxRecDepth 20000 in
theorem ggX5_init_X4_init : GoodIn wsX5_init wsX4_init := goodIn_r _ [51, 52, 2, 3, 27, 53, 75, 76] (by decide +kernel) (by decide +kernel)
set_option maxRecDepth 20000 in
theorem gX5_init_X4_init_n39 : GoodIn wsX5_init (wsX4_init) := ggX5_init_X4_init
theorem dX5_init_0 : decode cX5_init 0 = .ok (.aload_n 0, 1) := by decide +kernel
theorem dX5_init_1 : decode cX5_init 1 = .ok (.invokespecial 3, 3) := by decide +kernel
theorem dX5_init_4 : decode cX5_init 4 = .ok (.aload_n 0, 1) := by decide +kernel
theorem dX5_init_5 : decode cX5_init 5 = .ok (.new 9, 3) := by decide +kernel
theorem dX5_init_8 : decode cX5_init 8 = .ok (.dup, 1) := by decide +kernel
theorem dX5_init_9 : decode cX5_init 9 = .ok (.invokespecial 11, 3) := by decide +kernel
theorem dX5_init_12 : decode cX5_init 12 = .ok (.putfield 12, 3) := by decide +kernel
theorem dX5_init_15 : decode cX5_init 15 = .ok (.aload_n 0, 1) := by decide +kernel
theorem dX5_init_16 : decode cX5_init 16 = .ok (.new 16, 3) := by decide +kernel
theorem dX5_init_19 : decode cX5_init 19 = .ok (.dup, 1) := by decide +kernel
theorem dX5_init_20 : decode cX5_init 20 = .ok (.invokespecial 18, 3) := by decide +kernel
theorem dX5_init_23 : decode cX5_init 23 = .ok (.putfield 19, 3) := by decide +kernel
theorem dX5_init_26 : decode cX5_init 26 = .ok (.aload_n 0, 1) := by decide +kernel
theorem dX5_init_27 : decode cX5_init 27 = .ok (.new 23, 3) := by decide +kernel
theorem dX5_init_30 : decode cX5_init 30 = .ok (.dup, 1) := by decide +kernel
theorem dX5_init_31 : decode cX5_init 31 = .ok (.invokespecial 25, 3) := by decide +kernel
theorem dX5_init_34 : decode cX5_init 34 = .ok (.putfield 26, 3) := by decide +kernel
theorem dX5_init_37 : decode cX5_init 37 = .ok (.aload_n 0, 1) := by decide +kernel
theorem dX5_init_38 : decode cX5_init 38 = .ok (.new 30, 3) := by decide +kernel
theorem dX5_init_41 : decode cX5_init 41 = .ok (.dup, 1) := by decide +kernel
theorem dX5_init_42 : decode cX5_init 42 = .ok (.invokespecial 32, 3) := by decide +kernel
theorem dX5_init_45 : decode cX5_init 45 = .ok (.putfield 33, 3) := by decide +kernel
theorem dX5_init_48 : decode cX5_init 48 = .ok (.aload_n 0, 1) := by decide +kernel
theorem dX5_init_49 : decode cX5_init 49 = .ok (.new 37, 3) := by decide +kernel
theorem dX5_init_52 : decode cX5_init 52 = .ok (.dup, 1) := by decide +kernel
theorem dX5_init_53 : decode cX5_init 53 = .ok (.invokespecial 39, 3) := by decide +kernel
theorem dX5_init_56 : decode cX5_init 56 = .ok (.putfield 40, 3) := by decide +kernel
theorem dX5_init_59 : decode cX5_init 59 = .ok (.return_, 1) := by decide +kernel
set_option maxRecDepth 20000 in
theorem ggX5_append_X2_add : GoodIn wsX5_append wsX2_add := goodIn_r _ [8, 9, 10, 16, 17] (by decide +kernel) (by decide +kernel)
set_option maxRecDepth 20000 in
theorem gX5_append_X2_add : GoodIn wsX5_append (wsV RX5 52 RX2 yX2_add wsX2_add) := goodIn_app (goodIn_of _ (by decide +kernel)) ggX5_append_X2_add
theorem dX5_append_0 : decode cX5_append 0 = .ok (.iload_n 1, 1) := by decide +kernel
theorem dX5_append_1 : decode cX5_append 1 = .ok (.bipush 32, 2) := by decide +kernel
theorem dX5_append_3 : decode cX5_append 3 = .ok (.if_icmp .lt 9, 3) := by decide +kernel
theorem dX5_append_6 : decode cX5_append 6 = .ok (.iload_n 1, 1) := by decide +kernel
theorem dX5_append_7 : decode cX5_append 7 = .ok (.bipush 126, 2) := by decide +kernel
theorem dX5_append_9 : decode cX5_append 9 = .ok (.if_icmp .le 7, 3) := by decide +kernel
theorem dX5_append_12 : decode cX5_append 12 = .ok (.ldc2_w 44, 3) := by decide +kernel
theorem dX5_append_15 : decode cX5_append 15 = .ok (.lreturn, 1) := by decide +kernel
theorem dX5_append_16 : decode cX5_append 16 = .ok (.aload_n 0, 1) := by decide +kernel
theorem dX5_append_17 : decode cX5_append 17 = .ok (.getfield 12, 3) := by decide +kernel
theorem dX5_append_20 : decode cX5_append 20 = .ok (.getfield 46, 3) := by decide +kernel
theorem dX5_append_23 : decode cX5_append 23 = .ok (.bipush 28, 2) := by decide +kernel
theorem dX5_append_25 : decode cX5_append 25 = .ok (.if_icmp .ne 7, 3) := by decide +kernel
theorem dX5_append_28 : decode cX5_append 28 = .ok (.ldc2_w 50, 3) := by decide +kernel
theorem dX5_append_31 : decode cX5_append 31 = .ok (.lreturn, 1) := by decide +kernel
theorem dX5_append_32 : decode cX5_append 32 = .ok (.aload_n 0, 1) := by decide +kernel
theorem dX5_append_33 : decode cX5_append 33 = .ok (.getfield 12, 3) := by decide +kernel
theorem dX5_append_36 : decode cX5_append 36 = .ok (.iload_n 1, 1) := by decide +kernel
theorem dX5_append_37 : decode cX5_append 37 = .ok (.invokevirtual 52, 3) := by decide +kernel
theorem dX5_append_40 : decode cX5_append 40 = .ok (.aload_n 0, 1) := by decide +kernel
theorem dX5_append_41 : decode cX5_append 41 = .ok (.getfield 12, 3) := by decide +kernel
theorem dX5_append_44 : decode cX5_append 44 = .ok (.getfield 46, 3) := by decide +kernel
theorem dX5_append_47 : decode cX5_append 47 = .ok (.i2l, 1) := by decide +kernel
theorem dX5_append_48 : decode cX5_append 48 = .ok (.lreturn, 1) := by decide +kernel
set_option maxRecDepth 20000 in
theorem ggX5_clearBuffer_X2_empty : GoodIn wsX5_clearBuffer wsX2_empty := goodIn_r _ [6, 7, 13, 14] (by decide +kernel) (by decide +kernel)
set_option maxRecDepth 20000 in
theorem gX5_clearBuffer_X2_empty : GoodIn wsX5_clearBuffer (wsV RX5 56 RX2 yX2_empty wsX2_empty) := goodIn_app (goodIn_of _ (by decide +kernel)) ggX5_clearBuffer_X2_empty
theorem dX5_clearBuffer_0 : decode cX5_clearBuffer 0 = .ok (.aload_n 0, 1) := by decide +kernel
theorem dX5_clearBuffer_1 : decode cX5_clearBuffer 1 = .ok (.getfield 12, 3) := by decide +kernel
theorem dX5_clearBuffer_4 : decode cX5_clearBuffer 4 = .ok (.getfield 46, 3) := by decide +kernel
theorem dX5_clearBuffer_7 : decode cX5_clearBuffer 7 = .ok (.istore_n 1, 1) := by decide +kernel
theorem dX5_clearBuffer_8 : decode cX5_clearBuffer 8 = .ok (.aload_n 0, 1) := by decide +kernel
theorem dX5_clearBuffer_9 : decode cX5_clearBuffer 9 = .ok (.getfield 12, 3) := by decide +kernel
theorem dX5_clearBuffer_12 : decode cX5_clearBuffer 12 = .ok (.invokevirtual 56, 3) := by decide +kernel
theorem dX5_clearBuffer_15 : decode cX5_clearBuffer 15 = .ok (.iload_n 1, 1) := by decide +kernel
theorem dX5_clearBuffer_16 : decode cX5_clearBuffer 16 = .ok (.i2l, 1) := by decide +kernel
theorem dX5_clearBuffer_17 : decode cX5_clearBuffer 17 = .ok (.lreturn, 1) := by decide +kernel
set_option maxRecDepth 20000 in
theorem ggX5_errorPosition_X2_firstFault : GoodIn wsX5_errorPosition wsX2_firstFault := goodIn_r _ [6, 7, 8, 9, 10, 11, 5, 12, 13, 14, 15, 16, 17, 18, 19, 20, 21, 22, 23, 24, 25, 31, 32] (by decide +kernel) (by decide +kernel)
set_option maxRecDepth 20000 in
theorem gX5_errorPosition_X2_firstFault : GoodIn wsX5_errorPosition (wsV RX5 59 RX2 yX2_firstFault wsX2_firstFault) := goodIn_app (goodIn_of _ (by decide +kernel)) ggX5_errorPosition_X2_firstFault
theorem dX5_errorPosition_0 : decode cX5_errorPosition 0 = .ok (.aload_n 0, 1) := by decide +kernel
theorem dX5_errorPosition_1 : decode cX5_errorPosition 1 = .ok (.getfield 12, 3) := by decide +kernel
theorem dX5_errorPosition_4 : decode cX5_errorPosition 4 = .ok (.invokevirtual 59, 3) := by decide +kernel
theorem dX5_errorPosition_7 : decode cX5_errorPosition 7 = .ok (.i2l, 1) := by decide +kernel
theorem dX5_errorPosition_8 : decode cX5_errorPosition 8 = .ok (.lreturn, 1) := by decide +kernel
set_option maxRecDepth 20000 in
theorem ggX5_addGlass_X2_isComplete : GoodIn wsX5_addGlass wsX2_isComplete := goodIn_r _ [11, 12, 13, 14, 15, 10, 16, 17, 18, 19, 20, 21, 22, 23, 24, 25, 26, 27, 28, 29, 30, 31, 32, 33, 34, 82, 83] (by decide +kernel) (by decide +kernel)
set_option maxRecDepth 20000 in
theorem gX5_addGlass_X2_isComplete : GoodIn wsX5_addGlass (wsV RX5 63 RX2 yX2_isComplete wsX2_isComplete) := goodIn_app (goodIn_of _ (by decide +kernel)) ggX5_addGlass_X2_isComplete
set_option maxRecDepth 20000 in
theorem ggX5_addGlass_X2_number : GoodIn wsX5_addGlass wsX2_number := goodIn_r _ [38, 13, 14, 15, 10, 16, 12, 17, 18, 19, 20, 21, 22, 23, 24, 25, 26, 27, 39, 40, 41, 42, 82, 83] (by decide +kernel) (by decide +kernel)
set_option maxRecDepth 20000 in
theorem gX5_addGlass_X2_number : GoodIn wsX5_addGlass (wsV RX5 69 RX2 yX2_number wsX2_number) := goodIn_app (goodIn_of _ (by decide +kernel)) ggX5_addGlass_X2_number
set_option maxRecDepth 20000 in
theorem ggX5_addGlass_X5_areGlassIndices : GoodIn wsX5_addGlass wsX5_areGlassIndices := goodIn_r _ [46, 47, 48] (by decide +kernel) (by decide +kernel)
set_option maxRecDepth 20000 in
theorem gX5_addGlass_X5_areGlassIndices : GoodIn wsX5_addGlass (va_wsS RX5 73 yX5_areGlassIndices wsX5_areGlassIndices) := goodIn_app (goodIn_of _ (by decide +kernel)) ggX5_addGlass_X5_areGlassIndices
set_option maxRecDepth 20000 in
theorem ggX5_addGlass_X2_nameKey : GoodIn wsX5_addGlass wsX2_nameKey := goodIn_r _ [52, 53, 21, 13, 14, 15, 10, 16, 12, 17, 18, 19, 20, 22, 23, 24, 25, 26, 27, 82, 83] (by decide +kernel) (by decide +kernel)
set_option maxRecDepth 20000 in
theorem gX5_addGlass_X2_nameKey : GoodIn wsX5_addGlass (wsV RX5 80 RX2 yX2_nameKey wsX2_nameKey) := goodIn_app (goodIn_of _ (by decide +kernel)) ggX5_addGlass_X2_nameKey
set_option maxRecDepth 20000 in
theorem ggX5_addGlass_X0_hasName : GoodIn wsX5_addGlass wsX0_hasName := goodIn_r _ [58, 59, 60, 77, 78, 79, 80, 81] (by decide +kernel) (by decide +kernel)
set_option maxRecDepth 20000 in
theorem gX5_addGlass_X0_hasName : GoodIn wsX5_addGlass (wsV RX5 84 RX0 yX0_hasName wsX0_hasName) := goodIn_app (goodIn_of _ (by decide +kernel)) ggX5_addGlass_X0_hasName
set_option maxRecDepth 20000 in
theorem ggX5_addGlass_X0_add : GoodIn wsX5_addGlass wsX0_add := goodIn_r _ [64, 59, 60, 65, 66, 67, 77, 78, 79, 80, 81] (by decide +kernel) (by decide +kernel)
set_option maxRecDepth 20000 in
theorem gX5_addGlass_X0_add : GoodIn wsX5_addGlass (wsV RX5 90 RX0 yX0_add wsX0_add) := goodIn_app (goodIn_of _ (by decide +kernel)) ggX5_addGlass_X0_add
set_option maxRecDepth 20000 in
theorem ggX5_addGlass_X2_empty : GoodIn wsX5_addGlass wsX2_empty := goodIn_r _ [71, 12, 82, 83] (by decide +kernel) (by decide +kernel)
set_option maxRecDepth 20000 in
theorem gX5_addGlass_X2_empty : GoodIn wsX5_addGlass (wsV RX5 56 RX2 yX2_empty wsX2_empty) := goodIn_app (goodIn_of _ (by decide +kernel)) ggX5_addGlass_X2_empty
theorem dX5_addGlass_0 : decode cX5_addGlass 0 = .ok (.aload_n 0, 1) := by decide +kernel
theorem dX5_addGlass_1 : decode cX5_addGlass 1 = .ok (.getfield 12, 3) := by decide +kernel
theorem dX5_addGlass_4 : decode cX5_addGlass 4 = .ok (.invokevirtual 63, 3) := by decide +kernel
theorem dX5_addGlass_7 : decode cX5_addGlass 7 = .ok (.ifCond .ne 7, 3) := by decide +kernel
theorem dX5_addGlass_10 : decode cX5_addGlass 10 = .ok (.ldc2_w 67, 3) := by decide +kernel
theorem dX5_addGlass_13 : decode cX5_addGlass 13 = .ok (.lreturn, 1) := by decide +kernel
theorem dX5_addGlass_14 : decode cX5_addGlass 14 = .ok (.aload_n 0, 1) := by decide +kernel
theorem dX5_addGlass_15 : decode cX5_addGlass 15 = .ok (.getfield 12, 3) := by decide +kernel
theorem dX5_addGlass_18 : decode cX5_addGlass 18 = .ok (.iconst 0, 1) := by decide +kernel
theorem dX5_addGlass_19 : decode cX5_addGlass 19 = .ok (.invokevirtual 69, 3) := by decide +kernel
theorem dX5_addGlass_22 : decode cX5_addGlass 22 = .ok (.istore_n 1, 1) := by decide +kernel
theorem dX5_addGlass_23 : decode cX5_addGlass 23 = .ok (.aload_n 0, 1) := by decide +kernel
theorem dX5_addGlass_24 : decode cX5_addGlass 24 = .ok (.getfield 12, 3) := by decide +kernel
theorem dX5_addGlass_27 : decode cX5_addGlass 27 = .ok (.iconst 1, 1) := by decide +kernel
theorem dX5_addGlass_28 : decode cX5_addGlass 28 = .ok (.invokevirtual 69, 3) := by decide +kernel
theorem dX5_addGlass_31 : decode cX5_addGlass 31 = .ok (.istore_n 2, 1) := by decide +kernel
theorem dX5_addGlass_32 : decode cX5_addGlass 32 = .ok (.aload_n 0, 1) := by decide +kernel
theorem dX5_addGlass_33 : decode cX5_addGlass 33 = .ok (.getfield 12, 3) := by decide +kernel
theorem dX5_addGlass_36 : decode cX5_addGlass 36 = .ok (.iconst 2, 1) := by decide +kernel
theorem dX5_addGlass_37 : decode cX5_addGlass 37 = .ok (.invokevirtual 69, 3) := by decide +kernel
theorem dX5_addGlass_40 : decode cX5_addGlass 40 = .ok (.istore_n 3, 1) := by decide +kernel
theorem dX5_addGlass_41 : decode cX5_addGlass 41 = .ok (.iload_n 1, 1) := by decide +kernel
theorem dX5_addGlass_42 : decode cX5_addGlass 42 = .ok (.iload_n 2, 1) := by decide +kernel
theorem dX5_addGlass_43 : decode cX5_addGlass 43 = .ok (.iload_n 3, 1) := by decide +kernel
theorem dX5_addGlass_44 : decode cX5_addGlass 44 = .ok (.invokestatic 73, 3) := by decide +kernel
theorem dX5_addGlass_47 : decode cX5_addGlass 47 = .ok (.ifCond .ne 7, 3) := by decide +kernel
theorem dX5_addGlass_50 : decode cX5_addGlass 50 = .ok (.ldc2_w 44, 3) := by decide +kernel
theorem dX5_addGlass_53 : decode cX5_addGlass 53 = .ok (.lreturn, 1) := by decide +kernel
theorem dX5_addGlass_54 : decode cX5_addGlass 54 = .ok (.aload_n 0, 1) := by decide +kernel
theorem dX5_addGlass_55 : decode cX5_addGlass 55 = .ok (.getfield 19, 3) := by decide +kernel
theorem dX5_addGlass_58 : decode cX5_addGlass 58 = .ok (.getfield 77, 3) := by decide +kernel
theorem dX5_addGlass_61 : decode cX5_addGlass 61 = .ok (.bipush 20, 2) := by decide +kernel
theorem dX5_addGlass_63 : decode cX5_addGlass 63 = .ok (.if_icmp .ne 7, 3) := by decide +kernel
theorem dX5_addGlass_66 : decode cX5_addGlass 66 = .ok (.ldc2_w 50, 3) := by decide +kernel
theorem dX5_addGlass_69 : decode cX5_addGlass 69 = .ok (.lreturn, 1) := by decide +kernel
theorem dX5_addGlass_70 : decode cX5_addGlass 70 = .ok (.aload_n 0, 1) := by decide +kernel
theorem dX5_addGlass_71 : decode cX5_addGlass 71 = .ok (.getfield 12, 3) := by decide +kernel
theorem dX5_addGlass_74 : decode cX5_addGlass 74 = .ok (.invokevirtual 80, 3) := by decide +kernel
theorem dX5_addGlass_77 : decode cX5_addGlass 77 = .ok (.lstore 4, 2) := by decide +kernel
theorem dX5_addGlass_79 : decode cX5_addGlass 79 = .ok (.aload_n 0, 1) := by decide +kernel
theorem dX5_addGlass_80 : decode cX5_addGlass 80 = .ok (.getfield 19, 3) := by decide +kernel
theorem dX5_addGlass_83 : decode cX5_addGlass 83 = .ok (.lload 4, 2) := by decide +kernel
theorem dX5_addGlass_85 : decode cX5_addGlass 85 = .ok (.invokevirtual 84, 3) := by decide +kernel
theorem dX5_addGlass_88 : decode cX5_addGlass 88 = .ok (.ifCond .eq 7, 3) := by decide +kernel
theorem dX5_addGlass_91 : decode cX5_addGlass 91 = .ok (.ldc2_w 88, 3) := by decide +kernel
theorem dX5_addGlass_94 : decode cX5_addGlass 94 = .ok (.lreturn, 1) := by decide +kernel
theorem dX5_addGlass_95 : decode cX5_addGlass 95 = .ok (.aload_n 0, 1) := by decide +kernel
theorem dX5_addGlass_96 : decode cX5_addGlass 96 = .ok (.getfield 19, 3) := by decide +kernel
theorem dX5_addGlass_99 : decode cX5_addGlass 99 = .ok (.lload 4, 2) := by decide +kernel
theorem dX5_addGlass_101 : decode cX5_addGlass 101 = .ok (.iload_n 1, 1) := by decide +kernel
theorem dX5_addGlass_102 : decode cX5_addGlass 102 = .ok (.iload_n 2, 1) := by decide +kernel
theorem dX5_addGlass_103 : decode cX5_addGlass 103 = .ok (.iload_n 3, 1) := by decide +kernel
theorem dX5_addGlass_104 : decode cX5_addGlass 104 = .ok (.invokevirtual 90, 3) := by decide +kernel
theorem dX5_addGlass_107 : decode cX5_addGlass 107 = .ok (.aload_n 0, 1) := by decide +kernel
theorem dX5_addGlass_108 : decode cX5_addGlass 108 = .ok (.getfield 12, 3) := by decide +kernel
theorem dX5_addGlass_111 : decode cX5_addGlass 111 = .ok (.invokevirtual 56, 3) := by decide +kernel
theorem dX5_addGlass_114 : decode cX5_addGlass 114 = .ok (.aload_n 0, 1) := by decide +kernel
theorem dX5_addGlass_115 : decode cX5_addGlass 115 = .ok (.getfield 19, 3) := by decide +kernel
theorem dX5_addGlass_118 : decode cX5_addGlass 118 = .ok (.getfield 77, 3) := by decide +kernel
theorem dX5_addGlass_121 : decode cX5_addGlass 121 = .ok (.iconst 1, 1) := by decide +kernel
theorem dX5_addGlass_122 : decode cX5_addGlass 122 = .ok (.isub, 1) := by decide +kernel
theorem dX5_addGlass_123 : decode cX5_addGlass 123 = .ok (.i2l, 1) := by decide +kernel
theorem dX5_addGlass_124 : decode cX5_addGlass 124 = .ok (.lreturn, 1) := by decide +kernel
set_option maxRecDepth 20000 in
theorem ggX5_removeGlass_X0_has : GoodIn wsX5_removeGlass wsX0_has := goodIn_r _ [9, 10, 36, 37, 38, 39, 40] (by decide +kernel) (by decide +kernel)
set_option maxRecDepth 20000 in
theorem gX5_removeGlass_X0_has : GoodIn wsX5_removeGlass (wsV RX5 93 RX0 yX0_has wsX0_has) := goodIn_app (goodIn_of _ (by decide +kernel)) ggX5_removeGlass_X0_has
set_option maxRecDepth 20000 in
theorem ggX5_removeGlass_X3_uses : GoodIn wsX5_removeGlass wsX3_uses := goodIn_r _ [15, 16, 17, 41, 42, 43] (by decide +kernel) (by decide +kernel)
set_option maxRecDepth 20000 in
theorem gX5_removeGlass_X3_uses : GoodIn wsX5_removeGlass (wsV RX5 99 RX3 yX3_uses wsX3_uses) := goodIn_app (goodIn_of _ (by decide +kernel)) ggX5_removeGlass_X3_uses
set_option maxRecDepth 20000 in
theorem ggX5_removeGlass_X0_remove : GoodIn wsX5_removeGlass wsX0_remove := goodIn_r _ [21, 10, 22, 23, 24, 25, 26, 6, 7, 8, 9, 36, 37, 38, 39, 40] (by decide +kernel) (by decide +kernel)
set_option maxRecDepth 20000 in
theorem gX5_removeGlass_X0_remove : GoodIn wsX5_removeGlass (wsV RX5 104 RX0 yX0_remove wsX0_remove) := goodIn_app (goodIn_of _ (by decide +kernel)) ggX5_removeGlass_X0_remove
set_option maxRecDepth 20000 in
theorem ggX5_removeGlass_X3_closeGapAt : GoodIn wsX5_removeGlass wsX3_closeGapAt := goodIn_r _ [30, 16, 17, 41, 42, 43] (by decide +kernel) (by decide +kernel)
set_option maxRecDepth 20000 in
theorem gX5_removeGlass_X3_closeGapAt : GoodIn wsX5_removeGlass (wsV RX5 107 RX3 yX3_closeGapAt wsX3_closeGapAt) := goodIn_app (goodIn_of _ (by decide +kernel)) ggX5_removeGlass_X3_closeGapAt
theorem dX5_removeGlass_0 : decode cX5_removeGlass 0 = .ok (.aload_n 0, 1) := by decide +kernel
theorem dX5_removeGlass_1 : decode cX5_removeGlass 1 = .ok (.getfield 19, 3) := by decide +kernel
theorem dX5_removeGlass_4 : decode cX5_removeGlass 4 = .ok (.iload_n 1, 1) := by decide +kernel
theorem dX5_removeGlass_5 : decode cX5_removeGlass 5 = .ok (.invokevirtual 93, 3) := by decide +kernel
theorem dX5_removeGlass_8 : decode cX5_removeGlass 8 = .ok (.ifCond .ne 7, 3) := by decide +kernel
theorem dX5_removeGlass_11 : decode cX5_removeGlass 11 = .ok (.ldc2_w 97, 3) := by decide +kernel
theorem dX5_removeGlass_14 : decode cX5_removeGlass 14 = .ok (.lreturn, 1) := by decide +kernel
theorem dX5_removeGlass_15 : decode cX5_removeGlass 15 = .ok (.aload_n 0, 1) := by decide +kernel
theorem dX5_removeGlass_16 : decode cX5_removeGlass 16 = .ok (.getfield 33, 3) := by decide +kernel
theorem dX5_removeGlass_19 : decode cX5_removeGlass 19 = .ok (.iload_n 1, 1) := by decide +kernel
theorem dX5_removeGlass_20 : decode cX5_removeGlass 20 = .ok (.invokevirtual 99, 3) := by decide +kernel
theorem dX5_removeGlass_23 : decode cX5_removeGlass 23 = .ok (.ifCond .eq 7, 3) := by decide +kernel
theorem dX5_removeGlass_26 : decode cX5_removeGlass 26 = .ok (.ldc2_w 102, 3) := by decide +kernel
theorem dX5_removeGlass_29 : decode cX5_removeGlass 29 = .ok (.lreturn, 1) := by decide +kernel
theorem dX5_removeGlass_30 : decode cX5_removeGlass 30 = .ok (.aload_n 0, 1) := by decide +kernel
theorem dX5_removeGlass_31 : decode cX5_removeGlass 31 = .ok (.getfield 19, 3) := by decide +kernel
theorem dX5_removeGlass_34 : decode cX5_removeGlass 34 = .ok (.iload_n 1, 1) := by decide +kernel
theorem dX5_removeGlass_35 : decode cX5_removeGlass 35 = .ok (.invokevirtual 104, 3) := by decide +kernel
theorem dX5_removeGlass_38 : decode cX5_removeGlass 38 = .ok (.aload_n 0, 1) := by decide +kernel
theorem dX5_removeGlass_39 : decode cX5_removeGlass 39 = .ok (.getfield 33, 3) := by decide +kernel
theorem dX5_removeGlass_42 : decode cX5_removeGlass 42 = .ok (.iload_n 1, 1) := by decide +kernel
theorem dX5_removeGlass_43 : decode cX5_removeGlass 43 = .ok (.invokevirtual 107, 3) := by decide +kernel
theorem dX5_removeGlass_46 : decode cX5_removeGlass 46 = .ok (.aload_n 0, 1) := by decide +kernel
theorem dX5_removeGlass_47 : decode cX5_removeGlass 47 = .ok (.getfield 19, 3) := by decide +kernel
theorem dX5_removeGlass_50 : decode cX5_removeGlass 50 = .ok (.getfield 77, 3) := by decide +kernel
theorem dX5_removeGlass_53 : decode cX5_removeGlass 53 = .ok (.i2l, 1) := by decide +kernel
theorem dX5_removeGlass_54 : decode cX5_removeGlass 54 = .ok (.lreturn, 1) := by decide +kernel
theorem dX5_glassCount_0 : decode cX5_glassCount 0 = .ok (.aload_n 0, 1) := by decide +kernel
theorem dX5_glassCount_1 : decode cX5_glassCount 1 = .ok (.getfield 19, 3) := by decide +kernel
theorem dX5_glassCount_4 : decode cX5_glassCount 4 = .ok (.getfield 77, 3) := by decide +kernel
theorem dX5_glassCount_7 : decode cX5_glassCount 7 = .ok (.i2l, 1) := by decide +kernel
theorem dX5_glassCount_8 : decode cX5_glassCount 8 = .ok (.lreturn, 1) := by decide +kernel
set_option maxRecDepth 20000 in
theorem ggX5_index_X0_has : GoodIn wsX5_index wsX0_has := goodIn_r _ [8, 9, 26, 27, 28, 29, 30] (by decide +kernel) (by decide +kernel)
set_option maxRecDepth 20000 in
theorem gX5_index_X0_has : GoodIn wsX5_index (wsV RX5 93 RX0 yX0_has wsX0_has) := goodIn_app (goodIn_of _ (by decide +kernel)) ggX5_index_X0_has
set_option maxRecDepth 20000 in
theorem ggX5_index_X5_isColour : GoodIn wsX5_index wsX5_isColour := goodIn_r _ [13] (by decide +kernel) (by decide +kernel)
set_option maxRecDepth 20000 in
theorem gX5_index_X5_isColour : GoodIn wsX5_index (va_wsS RX5 110 yX5_isColour wsX5_isColour) := goodIn_app (goodIn_of _ (by decide +kernel)) ggX5_index_X5_isColour
set_option maxRecDepth 20000 in
theorem ggX5_index_X0_indexFor : GoodIn wsX5_index wsX0_indexFor := goodIn_r _ [17, 18, 19, 20, 26, 27, 28, 29, 30] (by decide +kernel) (by decide +kernel)
set_option maxRecDepth 20000 in
theorem gX5_index_X0_indexFor : GoodIn wsX5_index (wsV RX5 113 RX0 yX0_indexFor wsX0_indexFor) := goodIn_app (goodIn_of _ (by decide +kernel)) ggX5_index_X0_indexFor
theorem dX5_index_0 : decode cX5_index 0 = .ok (.aload_n 0, 1) := by decide +kernel
theorem dX5_index_1 : decode cX5_index 1 = .ok (.getfield 19, 3) := by decide +kernel
theorem dX5_index_4 : decode cX5_index 4 = .ok (.iload_n 1, 1) := by decide +kernel
theorem dX5_index_5 : decode cX5_index 5 = .ok (.invokevirtual 93, 3) := by decide +kernel
theorem dX5_index_8 : decode cX5_index 8 = .ok (.ifCond .ne 7, 3) := by decide +kernel
theorem dX5_index_11 : decode cX5_index 11 = .ok (.ldc2_w 97, 3) := by decide +kernel
theorem dX5_index_14 : decode cX5_index 14 = .ok (.lreturn, 1) := by decide +kernel
theorem dX5_index_15 : decode cX5_index 15 = .ok (.iload_n 2, 1) := by decide +kernel
theorem dX5_index_16 : decode cX5_index 16 = .ok (.invokestatic 110, 3) := by decide +kernel
theorem dX5_index_19 : decode cX5_index 19 = .ok (.ifCond .ne 7, 3) := by decide +kernel
theorem dX5_index_22 : decode cX5_index 22 = .ok (.ldc2_w 44, 3) := by decide +kernel
theorem dX5_index_25 : decode cX5_index 25 = .ok (.lreturn, 1) := by decide +kernel
theorem dX5_index_26 : decode cX5_index 26 = .ok (.aload_n 0, 1) := by decide +kernel
theorem dX5_index_27 : decode cX5_index 27 = .ok (.getfield 19, 3) := by decide +kernel
theorem dX5_index_30 : decode cX5_index 30 = .ok (.iload_n 1, 1) := by decide +kernel
theorem dX5_index_31 : decode cX5_index 31 = .ok (.iload_n 2, 1) := by decide +kernel
theorem dX5_index_32 : decode cX5_index 32 = .ok (.invokevirtual 113, 3) := by decide +kernel
theorem dX5_index_35 : decode cX5_index 35 = .ok (.lreturn, 1) := by decide +kernel
set_option maxRecDepth 20000 in
theorem ggX5_placeByName_X0_has : GoodIn wsX5_placeByName wsX0_has := goodIn_r _ [7, 8, 19, 20, 21, 22, 23] (by decide +kernel) (by decide +kernel)
set_option maxRecDepth 20000 in
theorem gX5_placeByName_X0_has : GoodIn wsX5_placeByName (wsV RX5 93 RX0 yX0_has wsX0_has) := goodIn_app (goodIn_of _ (by decide +kernel)) ggX5_placeByName_X0_has
set_option maxRecDepth 20000 in
theorem ggX5_placeByName_X0_namesBefore : GoodIn wsX5_placeByName wsX0_namesBefore := goodIn_r _ [12, 8, 13, 19, 20, 21, 22, 23] (by decide +kernel) (by decide +kernel)
set_option maxRecDepth 20000 in
theorem gX5_placeByName_X0_namesBefore : GoodIn wsX5_placeByName (wsV RX5 117 RX0 yX0_namesBefore wsX0_namesBefore) := goodIn_app (goodIn_of _ (by decide +kernel)) ggX5_placeByName_X0_namesBefore
theorem dX5_placeByName_0 : decode cX5_placeByName 0 = .ok (.aload_n 0, 1) := by decide +kernel
theorem dX5_placeByName_1 : decode cX5_placeByName 1 = .ok (.getfield 19, 3) := by decide +kernel
theorem dX5_placeByName_4 : decode cX5_placeByName 4 = .ok (.iload_n 1, 1) := by decide +kernel
theorem dX5_placeByName_5 : decode cX5_placeByName 5 = .ok (.invokevirtual 93, 3) := by decide +kernel
theorem dX5_placeByName_8 : decode cX5_placeByName 8 = .ok (.ifCond .eq 15, 3) := by decide +kernel
theorem dX5_placeByName_11 : decode cX5_placeByName 11 = .ok (.aload_n 0, 1) := by decide +kernel
theorem dX5_placeByName_12 : decode cX5_placeByName 12 = .ok (.getfield 19, 3) := by decide +kernel
theorem dX5_placeByName_15 : decode cX5_placeByName 15 = .ok (.iload_n 1, 1) := by decide +kernel
theorem dX5_placeByName_16 : decode cX5_placeByName 16 = .ok (.invokevirtual 117, 3) := by decide +kernel
theorem dX5_placeByName_19 : decode cX5_placeByName 19 = .ok (.i2l, 1) := by decide +kernel
theorem dX5_placeByName_20 : decode cX5_placeByName 20 = .ok (.goto 6, 3) := by decide +kernel
theorem dX5_placeByName_23 : decode cX5_placeByName 23 = .ok (.ldc2_w 97, 3) := by decide +kernel
theorem dX5_placeByName_26 : decode cX5_placeByName 26 = .ok (.lreturn, 1) := by decide +kernel
set_option maxRecDepth 20000 in
theorem ggX5_abbe_X0_has : GoodIn wsX5_abbe wsX0_has := goodIn_r _ [7, 8, 38, 39, 40, 41, 42] (by decide +kernel) (by decide +kernel)
set_option maxRecDepth 20000 in
theorem gX5_abbe_X0_has : GoodIn wsX5_abbe (wsV RX5 93 RX0 yX0_has wsX0_has) := goodIn_app (goodIn_of _ (by decide +kernel)) ggX5_abbe_X0_has
set_option maxRecDepth 20000 in
theorem ggX5_abbe_X0_abbeNumber : GoodIn wsX5_abbe wsX0_abbeNumber := goodIn_r _ [12, 13, 14, 15, 16, 6, 17, 18, 19, 20, 21, 22, 23, 24, 25, 26, 27, 28, 29, 30, 31, 32, 38, 39, 40, 41, 42] (by decide +kernel) (by decide +kernel)
set_option maxRecDepth 20000 in
theorem gX5_abbe_X0_abbeNumber : GoodIn wsX5_abbe (wsV RX5 120 RX0 yX0_abbeNumber wsX0_abbeNumber) := goodIn_app (goodIn_of _ (by decide +kernel)) ggX5_abbe_X0_abbeNumber
theorem dX5_abbe_0 : decode cX5_abbe 0 = .ok (.aload_n 0, 1) := by decide +kernel
theorem dX5_abbe_1 : decode cX5_abbe 1 = .ok (.getfield 19, 3) := by decide +kernel
theorem dX5_abbe_4 : decode cX5_abbe 4 = .ok (.iload_n 1, 1) := by decide +kernel
theorem dX5_abbe_5 : decode cX5_abbe 5 = .ok (.invokevirtual 93, 3) := by decide +kernel
theorem dX5_abbe_8 : decode cX5_abbe 8 = .ok (.ifCond .eq 14, 3) := by decide +kernel
theorem dX5_abbe_11 : decode cX5_abbe 11 = .ok (.aload_n 0, 1) := by decide +kernel
theorem dX5_abbe_12 : decode cX5_abbe 12 = .ok (.getfield 19, 3) := by decide +kernel
theorem dX5_abbe_15 : decode cX5_abbe 15 = .ok (.iload_n 1, 1) := by decide +kernel
theorem dX5_abbe_16 : decode cX5_abbe 16 = .ok (.invokevirtual 120, 3) := by decide +kernel
theorem dX5_abbe_19 : decode cX5_abbe 19 = .ok (.goto 6, 3) := by decide +kernel
theorem dX5_abbe_22 : decode cX5_abbe 22 = .ok (.ldc2_w 97, 3) := by decide +kernel
theorem dX5_abbe_25 : decode cX5_abbe 25 = .ok (.lreturn, 1) := by decide +kernel
set_option maxRecDepth 20000 in
theorem ggX5_partial_X0_has : GoodIn wsX5_partial wsX0_has := goodIn_r _ [8, 9, 34, 35, 36, 37, 38] (by decide +kernel) (by decide +kernel)
set_option maxRecDepth 20000 in
theorem gX5_partial_X0_has : GoodIn wsX5_partial (wsV RX5 93 RX0 yX0_has wsX0_has) := goodIn_app (goodIn_of _ (by decide +kernel)) ggX5_partial_X0_has
set_option maxRecDepth 20000 in
theorem ggX5_partial_X0_valueD : GoodIn wsX5_partial wsX0_valueD := goodIn_r _ [13, 14, 15, 34, 35, 36, 37, 38] (by decide +kernel) (by decide +kernel)
set_option maxRecDepth 20000 in
theorem gX5_partial_X0_valueD : GoodIn wsX5_partial (wsV RX5 126 RX0 yX0_valueD wsX0_valueD) := goodIn_app (goodIn_of _ (by decide +kernel)) ggX5_partial_X0_valueD
set_option maxRecDepth 20000 in
theorem ggX5_partial_X0_valueB : GoodIn wsX5_partial wsX0_valueB := goodIn_r _ [19, 14, 20, 34, 35, 36, 37, 38] (by decide +kernel) (by decide +kernel)
set_option maxRecDepth 20000 in
theorem gX5_partial_X0_valueB : GoodIn wsX5_partial (wsV RX5 129 RX0 yX0_valueB wsX0_valueB) := goodIn_app (goodIn_of _ (by decide +kernel)) ggX5_partial_X0_valueB
set_option maxRecDepth 20000 in
theorem ggX5_partial_X5_floorQuotient : GoodIn wsX5_partial wsX5_floorQuotient := goodIn_r _ [24, 25, 26, 27, 28] (by decide +kernel) (by decide +kernel)
set_option maxRecDepth 20000 in
theorem gX5_partial_X5_floorQuotient : GoodIn wsX5_partial (va_wsS RX5 132 yX5_floorQuotient wsX5_floorQuotient) := goodIn_app (goodIn_of _ (by decide +kernel)) ggX5_partial_X5_floorQuotient
theorem dX5_partial_0 : decode cX5_partial 0 = .ok (.aload_n 0, 1) := by decide +kernel
theorem dX5_partial_1 : decode cX5_partial 1 = .ok (.getfield 19, 3) := by decide +kernel
theorem dX5_partial_4 : decode cX5_partial 4 = .ok (.iload_n 1, 1) := by decide +kernel
theorem dX5_partial_5 : decode cX5_partial 5 = .ok (.invokevirtual 93, 3) := by decide +kernel
theorem dX5_partial_8 : decode cX5_partial 8 = .ok (.ifCond .ne 7, 3) := by decide +kernel
theorem dX5_partial_11 : decode cX5_partial 11 = .ok (.ldc2_w 97, 3) := by decide +kernel
theorem dX5_partial_14 : decode cX5_partial 14 = .ok (.lreturn, 1) := by decide +kernel
theorem dX5_partial_15 : decode cX5_partial 15 = .ok (.ldc2_w 124, 3) := by decide +kernel
theorem dX5_partial_18 : decode cX5_partial 18 = .ok (.aload_n 0, 1) := by decide +kernel
theorem dX5_partial_19 : decode cX5_partial 19 = .ok (.getfield 19, 3) := by decide +kernel
theorem dX5_partial_22 : decode cX5_partial 22 = .ok (.iload_n 1, 1) := by decide +kernel
theorem dX5_partial_23 : decode cX5_partial 23 = .ok (.invokevirtual 126, 3) := by decide +kernel
theorem dX5_partial_26 : decode cX5_partial 26 = .ok (.lmul, 1) := by decide +kernel
theorem dX5_partial_27 : decode cX5_partial 27 = .ok (.aload_n 0, 1) := by decide +kernel
theorem dX5_partial_28 : decode cX5_partial 28 = .ok (.getfield 19, 3) := by decide +kernel
theorem dX5_partial_31 : decode cX5_partial 31 = .ok (.iload_n 1, 1) := by decide +kernel
theorem dX5_partial_32 : decode cX5_partial 32 = .ok (.invokevirtual 129, 3) := by decide +kernel
theorem dX5_partial_35 : decode cX5_partial 35 = .ok (.invokestatic 132, 3) := by decide +kernel
theorem dX5_partial_38 : decode cX5_partial 38 = .ok (.lreturn, 1) := by decide +kernel
set_option maxRecDepth 20000 in
theorem ggX5_glassWithAbbe_X0_leastAbbeFrom : GoodIn wsX5_glassWithAbbe wsX0_leastAbbeFrom := goodIn_r _ [7, 8, 9, 10, 11, 6, 12, 13, 14, 15, 16, 17, 18, 19, 20, 21, 22, 23, 24, 25, 26, 27, 28, 29, 30, 31, 32, 38, 39, 40, 41, 42] (by decide +kernel) (by decide +kernel)
set_option maxRecDepth 20000 in
theorem gX5_glassWithAbbe_X0_leastAbbeFrom : GoodIn wsX5_glassWithAbbe (wsV RX5 136 RX0 yX0_leastAbbeFrom wsX0_leastAbbeFrom) := goodIn_app (goodIn_of _ (by decide +kernel)) ggX5_glassWithAbbe_X0_leastAbbeFrom
theorem dX5_glassWithAbbe_0 : decode cX5_glassWithAbbe 0 = .ok (.aload_n 0, 1) := by decide +kernel
theorem dX5_glassWithAbbe_1 : decode cX5_glassWithAbbe 1 = .ok (.getfield 19, 3) := by decide +kernel
theorem dX5_glassWithAbbe_4 : decode cX5_glassWithAbbe 4 = .ok (.iload_n 1, 1) := by decide +kernel
theorem dX5_glassWithAbbe_5 : decode cX5_glassWithAbbe 5 = .ok (.invokevirtual 136, 3) := by decide +kernel
theorem dX5_glassWithAbbe_8 : decode cX5_glassWithAbbe 8 = .ok (.istore_n 2, 1) := by decide +kernel
theorem dX5_glassWithAbbe_9 : decode cX5_glassWithAbbe 9 = .ok (.iload_n 2, 1) := by decide +kernel
theorem dX5_glassWithAbbe_10 : decode cX5_glassWithAbbe 10 = .ok (.ifCond .ge 9, 3) := by decide +kernel
theorem dX5_glassWithAbbe_13 : decode cX5_glassWithAbbe 13 = .ok (.ldc2_w 139, 3) := by decide +kernel
theorem dX5_glassWithAbbe_16 : decode cX5_glassWithAbbe 16 = .ok (.goto 5, 3) := by decide +kernel
theorem dX5_glassWithAbbe_19 : decode cX5_glassWithAbbe 19 = .ok (.iload_n 2, 1) := by decide +kernel
theorem dX5_glassWithAbbe_20 : decode cX5_glassWithAbbe 20 = .ok (.i2l, 1) := by decide +kernel
theorem dX5_glassWithAbbe_21 : decode cX5_glassWithAbbe 21 = .ok (.lreturn, 1) := by decide +kernel
set_option maxRecDepth 20000 in
theorem ggX5_doubletPower_X0_has : GoodIn wsX5_doubletPower wsX0_has := goodIn_r _ [10, 11, 46, 47, 48, 49, 50] (by decide +kernel) (by decide +kernel)
set_option maxRecDepth 20000 in
theorem gX5_doubletPower_X0_has : GoodIn wsX5_doubletPower (wsV RX5 93 RX0 yX0_has wsX0_has) := goodIn_app (goodIn_of _ (by decide +kernel)) ggX5_doubletPower_X0_has
set_option maxRecDepth 20000 in
theorem ggX5_doubletPower_X5_isDesignPower : GoodIn wsX5_doubletPower wsX5_isDesignPower := goodIn_r _ [15] (by decide +kernel) (by decide +kernel)
set_option maxRecDepth 20000 in
theorem gX5_doubletPower_X5_isDesignPower : GoodIn wsX5_doubletPower (va_wsS RX5 141 yX5_isDesignPower wsX5_isDesignPower) := goodIn_app (goodIn_of _ (by decide +kernel)) ggX5_doubletPower_X5_isDesignPower
set_option maxRecDepth 20000 in
theorem ggX5_doubletPower_X0_valueE : GoodIn wsX5_doubletPower wsX0_valueE := goodIn_r _ [19, 20, 21, 22, 9, 23, 24, 25, 26, 27, 28, 29, 30, 31, 46, 47, 48, 49, 50] (by decide +kernel) (by decide +kernel)
set_option maxRecDepth 20000 in
theorem gX5_doubletPower_X0_valueE : GoodIn wsX5_doubletPower (wsV RX5 144 RX0 yX0_valueE wsX0_valueE) := goodIn_app (goodIn_of _ (by decide +kernel)) ggX5_doubletPower_X0_valueE
set_option maxRecDepth 20000 in
theorem ggX5_doubletPower_X0_valueA : GoodIn wsX5_doubletPower wsX0_valueA := goodIn_r _ [23, 24, 25, 46, 47, 48, 49, 50] (by decide +kernel) (by decide +kernel)
set_option maxRecDepth 20000 in
theorem gX5_doubletPower_X0_valueA : GoodIn wsX5_doubletPower (wsV RX5 147 RX0 yX0_valueA wsX0_valueA) := goodIn_app (goodIn_of _ (by decide +kernel)) ggX5_doubletPower_X0_valueA
set_option maxRecDepth 20000 in
theorem ggX5_doubletPower_X0_valueB : GoodIn wsX5_doubletPower wsX0_valueB := goodIn_r _ [29, 30, 31, 46, 47, 48, 49, 50] (by decide +kernel) (by decide +kernel)
set_option maxRecDepth 20000 in
theorem gX5_doubletPower_X0_valueB : GoodIn wsX5_doubletPower (wsV RX5 129 RX0 yX0_valueB wsX0_valueB) := goodIn_app (goodIn_of _ (by decide +kernel)) ggX5_doubletPower_X0_valueB
set_option maxRecDepth 20000 in
theorem ggX5_doubletPower_X5_floorQuotient : GoodIn wsX5_doubletPower wsX5_floorQuotient := goodIn_r _ [36, 37, 38, 39, 40] (by decide +kernel) (by decide +kernel)
set_option maxRecDepth 20000 in
theorem gX5_doubletPower_X5_floorQuotient : GoodIn wsX5_doubletPower (va_wsS RX5 132 yX5_floorQuotient wsX5_floorQuotient) := goodIn_app (goodIn_of _ (by decide +kernel)) ggX5_doubletPower_X5_floorQuotient
theorem dX5_doubletPower_0 : decode cX5_doubletPower 0 = .ok (.aload_n 0, 1) := by decide +kernel
theorem dX5_doubletPower_1 : decode cX5_doubletPower 1 = .ok (.getfield 19, 3) := by decide +kernel
theorem dX5_doubletPower_4 : decode cX5_doubletPower 4 = .ok (.iload_n 1, 1) := by decide +kernel
theorem dX5_doubletPower_5 : decode cX5_doubletPower 5 = .ok (.invokevirtual 93, 3) := by decide +kernel
theorem dX5_doubletPower_8 : decode cX5_doubletPower 8 = .ok (.ifCond .eq 14, 3) := by decide +kernel
theorem dX5_doubletPower_11 : decode cX5_doubletPower 11 = .ok (.aload_n 0, 1) := by decide +kernel
theorem dX5_doubletPower_12 : decode cX5_doubletPower 12 = .ok (.getfield 19, 3) := by decide +kernel
theorem dX5_doubletPower_15 : decode cX5_doubletPower 15 = .ok (.iload_n 2, 1) := by decide +kernel
theorem dX5_doubletPower_16 : decode cX5_doubletPower 16 = .ok (.invokevirtual 93, 3) := by decide +kernel
theorem dX5_doubletPower_19 : decode cX5_doubletPower 19 = .ok (.ifCond .ne 7, 3) := by decide +kernel
theorem dX5_doubletPower_22 : decode cX5_doubletPower 22 = .ok (.ldc2_w 97, 3) := by decide +kernel
theorem dX5_doubletPower_25 : decode cX5_doubletPower 25 = .ok (.lreturn, 1) := by decide +kernel
theorem dX5_doubletPower_26 : decode cX5_doubletPower 26 = .ok (.iload_n 3, 1) := by decide +kernel
theorem dX5_doubletPower_27 : decode cX5_doubletPower 27 = .ok (.invokestatic 141, 3) := by decide +kernel
theorem dX5_doubletPower_30 : decode cX5_doubletPower 30 = .ok (.ifCond .eq 14, 3) := by decide +kernel
theorem dX5_doubletPower_33 : decode cX5_doubletPower 33 = .ok (.iload 4, 2) := by decide +kernel
theorem dX5_doubletPower_35 : decode cX5_doubletPower 35 = .ok (.ifCond .lt 9, 3) := by decide +kernel
theorem dX5_doubletPower_38 : decode cX5_doubletPower 38 = .ok (.iload 4, 2) := by decide +kernel
theorem dX5_doubletPower_40 : decode cX5_doubletPower 40 = .ok (.iconst 1, 1) := by decide +kernel
theorem dX5_doubletPower_41 : decode cX5_doubletPower 41 = .ok (.if_icmp .le 7, 3) := by decide +kernel
theorem dX5_doubletPower_44 : decode cX5_doubletPower 44 = .ok (.ldc2_w 44, 3) := by decide +kernel
theorem dX5_doubletPower_47 : decode cX5_doubletPower 47 = .ok (.lreturn, 1) := by decide +kernel
theorem dX5_doubletPower_48 : decode cX5_doubletPower 48 = .ok (.aload_n 0, 1) := by decide +kernel
theorem dX5_doubletPower_49 : decode cX5_doubletPower 49 = .ok (.getfield 19, 3) := by decide +kernel
theorem dX5_doubletPower_52 : decode cX5_doubletPower 52 = .ok (.iload_n 1, 1) := by decide +kernel
theorem dX5_doubletPower_53 : decode cX5_doubletPower 53 = .ok (.iload_n 2, 1) := by decide +kernel
theorem dX5_doubletPower_54 : decode cX5_doubletPower 54 = .ok (.invokevirtual 144, 3) := by decide +kernel
theorem dX5_doubletPower_57 : decode cX5_doubletPower 57 = .ok (.lstore 5, 2) := by decide +kernel
theorem dX5_doubletPower_59 : decode cX5_doubletPower 59 = .ok (.lload 5, 2) := by decide +kernel
theorem dX5_doubletPower_61 : decode cX5_doubletPower 61 = .ok (.lconst 0, 1) := by decide +kernel
theorem dX5_doubletPower_62 : decode cX5_doubletPower 62 = .ok (.lcmp, 1) := by decide +kernel
theorem dX5_doubletPower_63 : decode cX5_doubletPower 63 = .ok (.ifCond .ne 7, 3) := by decide +kernel
theorem dX5_doubletPower_66 : decode cX5_doubletPower 66 = .ok (.ldc2_w 139, 3) := by decide +kernel
theorem dX5_doubletPower_69 : decode cX5_doubletPower 69 = .ok (.lreturn, 1) := by decide +kernel
theorem dX5_doubletPower_70 : decode cX5_doubletPower 70 = .ok (.iload 4, 2) := by decide +kernel
theorem dX5_doubletPower_72 : decode cX5_doubletPower 72 = .ok (.ifCond .ne 23, 3) := by decide +kernel
theorem dX5_doubletPower_75 : decode cX5_doubletPower 75 = .ok (.aload_n 0, 1) := by decide +kernel
theorem dX5_doubletPower_76 : decode cX5_doubletPower 76 = .ok (.getfield 19, 3) := by decide +kernel
theorem dX5_doubletPower_79 : decode cX5_doubletPower 79 = .ok (.iload_n 1, 1) := by decide +kernel
theorem dX5_doubletPower_80 : decode cX5_doubletPower 80 = .ok (.invokevirtual 147, 3) := by decide +kernel
theorem dX5_doubletPower_83 : decode cX5_doubletPower 83 = .ok (.aload_n 0, 1) := by decide +kernel
theorem dX5_doubletPower_84 : decode cX5_doubletPower 84 = .ok (.getfield 19, 3) := by decide +kernel
theorem dX5_doubletPower_87 : decode cX5_doubletPower 87 = .ok (.iload_n 2, 1) := by decide +kernel
theorem dX5_doubletPower_88 : decode cX5_doubletPower 88 = .ok (.invokevirtual 129, 3) := by decide +kernel
theorem dX5_doubletPower_91 : decode cX5_doubletPower 91 = .ok (.lmul, 1) := by decide +kernel
theorem dX5_doubletPower_92 : decode cX5_doubletPower 92 = .ok (.goto 21, 3) := by decide +kernel
theorem dX5_doubletPower_95 : decode cX5_doubletPower 95 = .ok (.aload_n 0, 1) := by decide +kernel
theorem dX5_doubletPower_96 : decode cX5_doubletPower 96 = .ok (.getfield 19, 3) := by decide +kernel
theorem dX5_doubletPower_99 : decode cX5_doubletPower 99 = .ok (.iload_n 2, 1) := by decide +kernel
theorem dX5_doubletPower_100 : decode cX5_doubletPower 100 = .ok (.invokevirtual 147, 3) := by decide +kernel
theorem dX5_doubletPower_103 : decode cX5_doubletPower 103 = .ok (.lneg, 1) := by decide +kernel
theorem dX5_doubletPower_104 : decode cX5_doubletPower 104 = .ok (.aload_n 0, 1) := by decide +kernel
theorem dX5_doubletPower_105 : decode cX5_doubletPower 105 = .ok (.getfield 19, 3) := by decide +kernel
theorem dX5_doubletPower_108 : decode cX5_doubletPower 108 = .ok (.iload_n 1, 1) := by decide +kernel
theorem dX5_doubletPower_109 : decode cX5_doubletPower 109 = .ok (.invokevirtual 129, 3) := by decide +kernel
theorem dX5_doubletPower_112 : decode cX5_doubletPower 112 = .ok (.lmul, 1) := by decide +kernel
theorem dX5_doubletPower_113 : decode cX5_doubletPower 113 = .ok (.lstore 7, 2) := by decide +kernel
theorem dX5_doubletPower_115 : decode cX5_doubletPower 115 = .ok (.ldc2_w 150, 3) := by decide +kernel
theorem dX5_doubletPower_118 : decode cX5_doubletPower 118 = .ok (.iload_n 3, 1) := by decide +kernel
end
section
theorem dX5_doubletPower_119 : decode cX5_doubletPower 119 = .ok (.i2l, 1) := by decide +kernel
theorem dX5_doubletPower_120 : decode cX5_doubletPower 120 = .ok (.lmul, 1) := by decide +kernel
theorem dX5_doubletPower_121 : decode cX5_doubletPower 121 = .ok (.lload 7, 2) := by decide +kernel
theorem dX5_doubletPower_123 : decode cX5_doubletPower 123 = .ok (.lmul, 1) := by decide +kernel
theorem dX5_doubletPower_124 : decode cX5_doubletPower 124 = .ok (.lload 5, 2) := by decide +kernel
theorem dX5_doubletPower_126 : decode cX5_doubletPower 126 = .ok (.invokestatic 132, 3) := by decide +kernel
theorem dX5_doubletPower_129 : decode cX5_doubletPower 129 = .ok (.lreturn, 1) := by decide +kernel
set_option maxRecDepth 20000 in
theorem ggX5_secondarySpectrum_X0_has : GoodIn wsX5_secondarySpectrum wsX0_has := goodIn_r _ [10, 11, 52, 53, 54, 55, 56] (by decide +kernel) (by decide +kernel)
set_option maxRecDepth 20000 in
theorem gX5_secondarySpectrum_X0_has : GoodIn wsX5_secondarySpectrum (wsV RX5 93 RX0 yX0_has wsX0_has) := goodIn_app (goodIn_of _ (by decide +kernel)) ggX5_secondarySpectrum_X0_has
set_option maxRecDepth 20000 in
theorem ggX5_secondarySpectrum_X5_isDesignPower : GoodIn wsX5_secondarySpectrum wsX5_isDesignPower := goodIn_r _ [15] (by decide +kernel) (by decide +kernel)
set_option maxRecDepth 20000 in
theorem gX5_secondarySpectrum_X5_isDesignPower : GoodIn wsX5_secondarySpectrum (va_wsS RX5 141 yX5_isDesignPower wsX5_isDesignPower) := goodIn_app (goodIn_of _ (by decide +kernel)) ggX5_secondarySpectrum_X5_isDesignPower
set_option maxRecDepth 20000 in
theorem ggX5_secondarySpectrum_X0_valueE : GoodIn wsX5_secondarySpectrum wsX0_valueE := goodIn_r _ [19, 20, 21, 22, 9, 23, 24, 25, 26, 27, 28, 29, 30, 31, 52, 53, 54, 55, 56] (by decide +kernel) (by decide +kernel)
set_option maxRecDepth 20000 in
theorem gX5_secondarySpectrum_X0_valueE : GoodIn wsX5_secondarySpectrum (wsV RX5 144 RX0 yX0_valueE wsX0_valueE) := goodIn_app (goodIn_of _ (by decide +kernel)) ggX5_secondarySpectrum_X0_valueE
set_option maxRecDepth 20000 in
theorem ggX5_secondarySpectrum_X0_valueX : GoodIn wsX5_secondarySpectrum wsX0_valueX := goodIn_r _ [35, 26, 27, 28, 9, 29, 30, 31, 36, 37, 38, 39, 24, 52, 53, 54, 55, 56] (by decide +kernel) (by decide +kernel)
set_option maxRecDepth 20000 in
theorem gX5_secondarySpectrum_X0_valueX : GoodIn wsX5_secondarySpectrum (wsV RX5 154 RX0 yX0_valueX wsX0_valueX) := goodIn_app (goodIn_of _ (by decide +kernel)) ggX5_secondarySpectrum_X0_valueX
set_option maxRecDepth 20000 in
theorem ggX5_secondarySpectrum_X5_floorQuotient : GoodIn wsX5_secondarySpectrum wsX5_floorQuotient := goodIn_r _ [42, 43, 44, 45, 46] (by decide +kernel) (by decide +kernel)
set_option maxRecDepth 20000 in
theorem gX5_secondarySpectrum_X5_floorQuotient : GoodIn wsX5_secondarySpectrum (va_wsS RX5 132 yX5_floorQuotient wsX5_floorQuotient) := goodIn_app (goodIn_of _ (by decide +kernel)) ggX5_secondarySpectrum_X5_floorQuotient
theorem dX5_secondarySpectrum_0 : decode cX5_secondarySpectrum 0 = .ok (.aload_n 0, 1) := by decide +kernel
theorem dX5_secondarySpectrum_1 : decode cX5_secondarySpectrum 1 = .ok (.getfield 19, 3) := by decide +kernel
theorem dX5_secondarySpectrum_4 : decode cX5_secondarySpectrum 4 = .ok (.iload_n 1, 1) := by decide +kernel
theorem dX5_secondarySpectrum_5 : decode cX5_secondarySpectrum 5 = .ok (.invokevirtual 93, 3) := by decide +kernel
theorem dX5_secondarySpectrum_8 : decode cX5_secondarySpectrum 8 = .ok (.ifCond .eq 14, 3) := by decide +kernel
theorem dX5_secondarySpectrum_11 : decode cX5_secondarySpectrum 11 = .ok (.aload_n 0, 1) := by decide +kernel
theorem dX5_secondarySpectrum_12 : decode cX5_secondarySpectrum 12 = .ok (.getfield 19, 3) := by decide +kernel
theorem dX5_secondarySpectrum_15 : decode cX5_secondarySpectrum 15 = .ok (.iload_n 2, 1) := by decide +kernel
theorem dX5_secondarySpectrum_16 : decode cX5_secondarySpectrum 16 = .ok (.invokevirtual 93, 3) := by decide +kernel
theorem dX5_secondarySpectrum_19 : decode cX5_secondarySpectrum 19 = .ok (.ifCond .ne 7, 3) := by decide +kernel
theorem dX5_secondarySpectrum_22 : decode cX5_secondarySpectrum 22 = .ok (.ldc2_w 97, 3) := by decide +kernel
theorem dX5_secondarySpectrum_25 : decode cX5_secondarySpectrum 25 = .ok (.lreturn, 1) := by decide +kernel
theorem dX5_secondarySpectrum_26 : decode cX5_secondarySpectrum 26 = .ok (.iload_n 3, 1) := by decide +kernel
theorem dX5_secondarySpectrum_27 : decode cX5_secondarySpectrum 27 = .ok (.invokestatic 141, 3) := by decide +kernel
theorem dX5_secondarySpectrum_30 : decode cX5_secondarySpectrum 30 = .ok (.ifCond .ne 7, 3) := by decide +kernel
theorem dX5_secondarySpectrum_33 : decode cX5_secondarySpectrum 33 = .ok (.ldc2_w 44, 3) := by decide +kernel
theorem dX5_secondarySpectrum_36 : decode cX5_secondarySpectrum 36 = .ok (.lreturn, 1) := by decide +kernel
theorem dX5_secondarySpectrum_37 : decode cX5_secondarySpectrum 37 = .ok (.aload_n 0, 1) := by decide +kernel
theorem dX5_secondarySpectrum_38 : decode cX5_secondarySpectrum 38 = .ok (.getfield 19, 3) := by decide +kernel
theorem dX5_secondarySpectrum_41 : decode cX5_secondarySpectrum 41 = .ok (.iload_n 1, 1) := by decide +kernel
theorem dX5_secondarySpectrum_42 : decode cX5_secondarySpectrum 42 = .ok (.iload_n 2, 1) := by decide +kernel
theorem dX5_secondarySpectrum_43 : decode cX5_secondarySpectrum 43 = .ok (.invokevirtual 144, 3) := by decide +kernel
theorem dX5_secondarySpectrum_46 : decode cX5_secondarySpectrum 46 = .ok (.lstore 4, 2) := by decide +kernel
theorem dX5_secondarySpectrum_48 : decode cX5_secondarySpectrum 48 = .ok (.lload 4, 2) := by decide +kernel
theorem dX5_secondarySpectrum_50 : decode cX5_secondarySpectrum 50 = .ok (.lconst 0, 1) := by decide +kernel
theorem dX5_secondarySpectrum_51 : decode cX5_secondarySpectrum 51 = .ok (.lcmp, 1) := by decide +kernel
theorem dX5_secondarySpectrum_52 : decode cX5_secondarySpectrum 52 = .ok (.ifCond .ne 7, 3) := by decide +kernel
theorem dX5_secondarySpectrum_55 : decode cX5_secondarySpectrum 55 = .ok (.ldc2_w 139, 3) := by decide +kernel
theorem dX5_secondarySpectrum_58 : decode cX5_secondarySpectrum 58 = .ok (.lreturn, 1) := by decide +kernel
theorem dX5_secondarySpectrum_59 : decode cX5_secondarySpectrum 59 = .ok (.ldc2_w 152, 3) := by decide +kernel
theorem dX5_secondarySpectrum_62 : decode cX5_secondarySpectrum 62 = .ok (.iload_n 3, 1) := by decide +kernel
theorem dX5_secondarySpectrum_63 : decode cX5_secondarySpectrum 63 = .ok (.i2l, 1) := by decide +kernel
theorem dX5_secondarySpectrum_64 : decode cX5_secondarySpectrum 64 = .ok (.lmul, 1) := by decide +kernel
theorem dX5_secondarySpectrum_65 : decode cX5_secondarySpectrum 65 = .ok (.aload_n 0, 1) := by decide +kernel
theorem dX5_secondarySpectrum_66 : decode cX5_secondarySpectrum 66 = .ok (.getfield 19, 3) := by decide +kernel
theorem dX5_secondarySpectrum_69 : decode cX5_secondarySpectrum 69 = .ok (.iload_n 2, 1) := by decide +kernel
theorem dX5_secondarySpectrum_70 : decode cX5_secondarySpectrum 70 = .ok (.iload_n 1, 1) := by decide +kernel
theorem dX5_secondarySpectrum_71 : decode cX5_secondarySpectrum 71 = .ok (.invokevirtual 154, 3) := by decide +kernel
theorem dX5_secondarySpectrum_74 : decode cX5_secondarySpectrum 74 = .ok (.lmul, 1) := by decide +kernel
theorem dX5_secondarySpectrum_75 : decode cX5_secondarySpectrum 75 = .ok (.lload 4, 2) := by decide +kernel
theorem dX5_secondarySpectrum_77 : decode cX5_secondarySpectrum 77 = .ok (.invokestatic 132, 3) := by decide +kernel
theorem dX5_secondarySpectrum_80 : decode cX5_secondarySpectrum 80 = .ok (.lreturn, 1) := by decide +kernel
set_option maxRecDepth 20000 in
theorem ggX5_doubletAt_X1_collect : GoodIn wsX5_doubletAt wsX1_collect := goodIn_r _ [8, 9, 10, 11, 12, 13, 14, 15, 16, 17, 18, 19, 20, 21, 22, 23, 24, 25, 26, 27, 28, 29, 7, 30, 31, 32, 33, 34, 35, 36, 37, 38, 39, 40, 41, 42, 43, 44, 45, 46, 47, 48, 75, 76, 77, 78, 79, 80, 81, 82, 83, 84, 85] (by decide +kernel) (by decide +kernel)
set_option maxRecDepth 20000 in
theorem gX5_doubletAt_X1_collect : GoodIn wsX5_doubletAt (wsV RX5 157 RX1 yX1_collect wsX1_collect) := goodIn_app (goodIn_of _ (by decide +kernel)) ggX5_doubletAt_X1_collect
set_option maxRecDepth 20000 in
theorem ggX5_doubletAt_X1_rank : GoodIn wsX5_doubletAt wsX1_rank := goodIn_r _ [52, 9, 53, 54, 55, 56, 7, 57, 58, 59, 60, 61, 33, 32, 38, 62, 63, 64, 65, 75, 76, 77, 78, 79, 80] (by decide +kernel) (by decide +kernel)
set_option maxRecDepth 20000 in
theorem gX5_doubletAt_X1_rank : GoodIn wsX5_doubletAt (wsV RX5 162 RX1 yX1_rank wsX1_rank) := goodIn_app (goodIn_of _ (by decide +kernel)) ggX5_doubletAt_X1_rank
set_option maxRecDepth 20000 in
theorem ggX5_doubletAt_X1_codeAt : GoodIn wsX5_doubletAt wsX1_codeAt := goodIn_r _ [69, 31, 53, 75, 76, 77, 78, 79, 80] (by decide +kernel) (by decide +kernel)
set_option maxRecDepth 20000 in
theorem gX5_doubletAt_X1_codeAt : GoodIn wsX5_doubletAt (wsV RX5 166 RX1 yX1_codeAt wsX1_codeAt) := goodIn_app (goodIn_of _ (by decide +kernel)) ggX5_doubletAt_X1_codeAt
theorem dX5_doubletAt_0 : decode cX5_doubletAt 0 = .ok (.aload_n 0, 1) := by decide +kernel
theorem dX5_doubletAt_1 : decode cX5_doubletAt 1 = .ok (.getfield 26, 3) := by decide +kernel
theorem dX5_doubletAt_4 : decode cX5_doubletAt 4 = .ok (.aload_n 0, 1) := by decide +kernel
theorem dX5_doubletAt_5 : decode cX5_doubletAt 5 = .ok (.getfield 19, 3) := by decide +kernel
theorem dX5_doubletAt_8 : decode cX5_doubletAt 8 = .ok (.invokevirtual 157, 3) := by decide +kernel
theorem dX5_doubletAt_11 : decode cX5_doubletAt 11 = .ok (.iload_n 2, 1) := by decide +kernel
theorem dX5_doubletAt_12 : decode cX5_doubletAt 12 = .ok (.ifCond .lt 14, 3) := by decide +kernel
theorem dX5_doubletAt_15 : decode cX5_doubletAt 15 = .ok (.iload_n 2, 1) := by decide +kernel
theorem dX5_doubletAt_16 : decode cX5_doubletAt 16 = .ok (.aload_n 0, 1) := by decide +kernel
theorem dX5_doubletAt_17 : decode cX5_doubletAt 17 = .ok (.getfield 26, 3) := by decide +kernel
theorem dX5_doubletAt_20 : decode cX5_doubletAt 20 = .ok (.getfield 161, 3) := by decide +kernel
theorem dX5_doubletAt_23 : decode cX5_doubletAt 23 = .ok (.if_icmp .lt 7, 3) := by decide +kernel
theorem dX5_doubletAt_26 : decode cX5_doubletAt 26 = .ok (.ldc2_w 139, 3) := by decide +kernel
theorem dX5_doubletAt_29 : decode cX5_doubletAt 29 = .ok (.lreturn, 1) := by decide +kernel
theorem dX5_doubletAt_30 : decode cX5_doubletAt 30 = .ok (.aload_n 0, 1) := by decide +kernel
theorem dX5_doubletAt_31 : decode cX5_doubletAt 31 = .ok (.getfield 26, 3) := by decide +kernel
theorem dX5_doubletAt_34 : decode cX5_doubletAt 34 = .ok (.iload_n 1, 1) := by decide +kernel
theorem dX5_doubletAt_35 : decode cX5_doubletAt 35 = .ok (.invokevirtual 162, 3) := by decide +kernel
theorem dX5_doubletAt_38 : decode cX5_doubletAt 38 = .ok (.aload_n 0, 1) := by decide +kernel
theorem dX5_doubletAt_39 : decode cX5_doubletAt 39 = .ok (.getfield 26, 3) := by decide +kernel
theorem dX5_doubletAt_42 : decode cX5_doubletAt 42 = .ok (.iload_n 2, 1) := by decide +kernel
theorem dX5_doubletAt_43 : decode cX5_doubletAt 43 = .ok (.invokevirtual 166, 3) := by decide +kernel
theorem dX5_doubletAt_46 : decode cX5_doubletAt 46 = .ok (.i2l, 1) := by decide +kernel
theorem dX5_doubletAt_47 : decode cX5_doubletAt 47 = .ok (.lreturn, 1) := by decide +kernel
set_option maxRecDepth 20000 in
theorem ggX5_doubletCount_X1_collect : GoodIn wsX5_doubletCount wsX1_collect := goodIn_r _ [7, 8, 9, 10, 11, 12, 13, 14, 15, 16, 17, 18, 19, 20, 21, 22, 23, 24, 25, 26, 27, 28, 6, 29, 30, 31, 32, 33, 34, 35, 36, 37, 38, 39, 40, 41, 42, 43, 44, 45, 46, 47, 53, 54, 55, 56, 57, 58, 59, 60, 61, 62, 63] (by decide +kernel) (by decide +kernel)
set_option maxRecDepth 20000 in
theorem gX5_doubletCount_X1_collect : GoodIn wsX5_doubletCount (wsV RX5 157 RX1 yX1_collect wsX1_collect) := goodIn_app (goodIn_of _ (by decide +kernel)) ggX5_doubletCount_X1_collect
theorem dX5_doubletCount_0 : decode cX5_doubletCount 0 = .ok (.aload_n 0, 1) := by decide +kernel
theorem dX5_doubletCount_1 : decode cX5_doubletCount 1 = .ok (.getfield 26, 3) := by decide +kernel
theorem dX5_doubletCount_4 : decode cX5_doubletCount 4 = .ok (.aload_n 0, 1) := by decide +kernel
theorem dX5_doubletCount_5 : decode cX5_doubletCount 5 = .ok (.getfield 19, 3) := by decide +kernel
theorem dX5_doubletCount_8 : decode cX5_doubletCount 8 = .ok (.invokevirtual 157, 3) := by decide +kernel
theorem dX5_doubletCount_11 : decode cX5_doubletCount 11 = .ok (.aload_n 0, 1) := by decide +kernel
theorem dX5_doubletCount_12 : decode cX5_doubletCount 12 = .ok (.getfield 26, 3) := by decide +kernel
theorem dX5_doubletCount_15 : decode cX5_doubletCount 15 = .ok (.getfield 161, 3) := by decide +kernel
theorem dX5_doubletCount_18 : decode cX5_doubletCount 18 = .ok (.i2l, 1) := by decide +kernel
theorem dX5_doubletCount_19 : decode cX5_doubletCount 19 = .ok (.lreturn, 1) := by decide +kernel
set_option maxRecDepth 20000 in
theorem ggX5_tripletPower_X0_has : GoodIn wsX5_tripletPower wsX0_has := goodIn_r _ [10, 11, 52, 53, 54, 55, 56] (by decide +kernel) (by decide +kernel)
set_option maxRecDepth 20000 in
theorem gX5_tripletPower_X0_has : GoodIn wsX5_tripletPower (wsV RX5 93 RX0 yX0_has wsX0_has) := goodIn_app (goodIn_of _ (by decide +kernel)) ggX5_tripletPower_X0_has
set_option maxRecDepth 20000 in
theorem ggX5_tripletPower_X5_isDesignPower : GoodIn wsX5_tripletPower wsX5_isDesignPower := goodIn_r _ [15] (by decide +kernel) (by decide +kernel)
set_option maxRecDepth 20000 in
theorem gX5_tripletPower_X5_isDesignPower : GoodIn wsX5_tripletPower (va_wsS RX5 141 yX5_isDesignPower wsX5_isDesignPower) := goodIn_app (goodIn_of _ (by decide +kernel)) ggX5_tripletPower_X5_isDesignPower
set_option maxRecDepth 20000 in
theorem ggX5_tripletPower_X0_tripletShare : GoodIn wsX5_tripletPower wsX0_tripletShare := goodIn_r _ [19, 20, 21, 22, 9, 23, 24, 25, 26, 27, 28, 29, 30, 31, 32, 33, 34, 35, 36, 37, 38, 39, 52, 53, 54, 55, 56] (by decide +kernel) (by decide +kernel)
set_option maxRecDepth 20000 in
theorem gX5_tripletPower_X0_tripletShare : GoodIn wsX5_tripletPower (wsV RX5 169 RX0 yX0_tripletShare wsX0_tripletShare) := goodIn_app (goodIn_of _ (by decide +kernel)) ggX5_tripletPower_X0_tripletShare
set_option maxRecDepth 20000 in
theorem ggX5_tripletPower_X5_floorQuotient : GoodIn wsX5_tripletPower wsX5_floorQuotient := goodIn_r _ [42, 43, 44, 45, 46] (by decide +kernel) (by decide +kernel)
set_option maxRecDepth 20000 in
theorem gX5_tripletPower_X5_floorQuotient : GoodIn wsX5_tripletPower (va_wsS RX5 132 yX5_floorQuotient wsX5_floorQuotient) := goodIn_app (goodIn_of _ (by decide +kernel)) ggX5_tripletPower_X5_floorQuotient
theorem dX5_tripletPower_0 : decode cX5_tripletPower 0 = .ok (.aload_n 0, 1) := by decide +kernel
theorem dX5_tripletPower_1 : decode cX5_tripletPower 1 = .ok (.getfield 19, 3) := by decide +kernel
theorem dX5_tripletPower_4 : decode cX5_tripletPower 4 = .ok (.iload_n 1, 1) := by decide +kernel
theorem dX5_tripletPower_5 : decode cX5_tripletPower 5 = .ok (.invokevirtual 93, 3) := by decide +kernel
theorem dX5_tripletPower_8 : decode cX5_tripletPower 8 = .ok (.ifCond .eq 25, 3) := by decide +kernel
theorem dX5_tripletPower_11 : decode cX5_tripletPower 11 = .ok (.aload_n 0, 1) := by decide +kernel
theorem dX5_tripletPower_12 : decode cX5_tripletPower 12 = .ok (.getfield 19, 3) := by decide +kernel
theorem dX5_tripletPower_15 : decode cX5_tripletPower 15 = .ok (.iload_n 2, 1) := by decide +kernel
theorem dX5_tripletPower_16 : decode cX5_tripletPower 16 = .ok (.invokevirtual 93, 3) := by decide +kernel
theorem dX5_tripletPower_19 : decode cX5_tripletPower 19 = .ok (.ifCond .eq 14, 3) := by decide +kernel
theorem dX5_tripletPower_22 : decode cX5_tripletPower 22 = .ok (.aload_n 0, 1) := by decide +kernel
theorem dX5_tripletPower_23 : decode cX5_tripletPower 23 = .ok (.getfield 19, 3) := by decide +kernel
theorem dX5_tripletPower_26 : decode cX5_tripletPower 26 = .ok (.iload_n 3, 1) := by decide +kernel
theorem dX5_tripletPower_27 : decode cX5_tripletPower 27 = .ok (.invokevirtual 93, 3) := by decide +kernel
theorem dX5_tripletPower_30 : decode cX5_tripletPower 30 = .ok (.ifCond .ne 7, 3) := by decide +kernel
theorem dX5_tripletPower_33 : decode cX5_tripletPower 33 = .ok (.ldc2_w 97, 3) := by decide +kernel
theorem dX5_tripletPower_36 : decode cX5_tripletPower 36 = .ok (.lreturn, 1) := by decide +kernel
theorem dX5_tripletPower_37 : decode cX5_tripletPower 37 = .ok (.iload_n 1, 1) := by decide +kernel
theorem dX5_tripletPower_38 : decode cX5_tripletPower 38 = .ok (.iload_n 2, 1) := by decide +kernel
theorem dX5_tripletPower_39 : decode cX5_tripletPower 39 = .ok (.if_icmp .eq 13, 3) := by decide +kernel
theorem dX5_tripletPower_42 : decode cX5_tripletPower 42 = .ok (.iload_n 2, 1) := by decide +kernel
theorem dX5_tripletPower_43 : decode cX5_tripletPower 43 = .ok (.iload_n 3, 1) := by decide +kernel
theorem dX5_tripletPower_44 : decode cX5_tripletPower 44 = .ok (.if_icmp .eq 8, 3) := by decide +kernel
theorem dX5_tripletPower_47 : decode cX5_tripletPower 47 = .ok (.iload_n 3, 1) := by decide +kernel
theorem dX5_tripletPower_48 : decode cX5_tripletPower 48 = .ok (.iload_n 1, 1) := by decide +kernel
theorem dX5_tripletPower_49 : decode cX5_tripletPower 49 = .ok (.if_icmp .ne 7, 3) := by decide +kernel
theorem dX5_tripletPower_52 : decode cX5_tripletPower 52 = .ok (.ldc2_w 88, 3) := by decide +kernel
theorem dX5_tripletPower_55 : decode cX5_tripletPower 55 = .ok (.lreturn, 1) := by decide +kernel
theorem dX5_tripletPower_56 : decode cX5_tripletPower 56 = .ok (.iload 4, 2) := by decide +kernel
theorem dX5_tripletPower_58 : decode cX5_tripletPower 58 = .ok (.invokestatic 141, 3) := by decide +kernel
theorem dX5_tripletPower_61 : decode cX5_tripletPower 61 = .ok (.ifCond .eq 14, 3) := by decide +kernel
theorem dX5_tripletPower_64 : decode cX5_tripletPower 64 = .ok (.iload 5, 2) := by decide +kernel
theorem dX5_tripletPower_66 : decode cX5_tripletPower 66 = .ok (.ifCond .lt 9, 3) := by decide +kernel
theorem dX5_tripletPower_69 : decode cX5_tripletPower 69 = .ok (.iload 5, 2) := by decide +kernel
theorem dX5_tripletPower_71 : decode cX5_tripletPower 71 = .ok (.iconst 2, 1) := by decide +kernel
theorem dX5_tripletPower_72 : decode cX5_tripletPower 72 = .ok (.if_icmp .le 7, 3) := by decide +kernel
theorem dX5_tripletPower_75 : decode cX5_tripletPower 75 = .ok (.ldc2_w 44, 3) := by decide +kernel
theorem dX5_tripletPower_78 : decode cX5_tripletPower 78 = .ok (.lreturn, 1) := by decide +kernel
theorem dX5_tripletPower_79 : decode cX5_tripletPower 79 = .ok (.aload_n 0, 1) := by decide +kernel
theorem dX5_tripletPower_80 : decode cX5_tripletPower 80 = .ok (.getfield 19, 3) := by decide +kernel
theorem dX5_tripletPower_83 : decode cX5_tripletPower 83 = .ok (.iload_n 1, 1) := by decide +kernel
theorem dX5_tripletPower_84 : decode cX5_tripletPower 84 = .ok (.iload_n 2, 1) := by decide +kernel
theorem dX5_tripletPower_85 : decode cX5_tripletPower 85 = .ok (.iload_n 3, 1) := by decide +kernel
theorem dX5_tripletPower_86 : decode cX5_tripletPower 86 = .ok (.invokevirtual 169, 3) := by decide +kernel
theorem dX5_tripletPower_89 : decode cX5_tripletPower 89 = .ok (.lstore 6, 2) := by decide +kernel
theorem dX5_tripletPower_91 : decode cX5_tripletPower 91 = .ok (.aload_n 0, 1) := by decide +kernel
theorem dX5_tripletPower_92 : decode cX5_tripletPower 92 = .ok (.getfield 19, 3) := by decide +kernel
theorem dX5_tripletPower_95 : decode cX5_tripletPower 95 = .ok (.iload_n 2, 1) := by decide +kernel
theorem dX5_tripletPower_96 : decode cX5_tripletPower 96 = .ok (.iload_n 3, 1) := by decide +kernel
theorem dX5_tripletPower_97 : decode cX5_tripletPower 97 = .ok (.iload_n 1, 1) := by decide +kernel
theorem dX5_tripletPower_98 : decode cX5_tripletPower 98 = .ok (.invokevirtual 169, 3) := by decide +kernel
theorem dX5_tripletPower_101 : decode cX5_tripletPower 101 = .ok (.lstore 8, 2) := by decide +kernel
theorem dX5_tripletPower_103 : decode cX5_tripletPower 103 = .ok (.aload_n 0, 1) := by decide +kernel
theorem dX5_tripletPower_104 : decode cX5_tripletPower 104 = .ok (.getfield 19, 3) := by decide +kernel
theorem dX5_tripletPower_107 : decode cX5_tripletPower 107 = .ok (.iload_n 3, 1) := by decide +kernel
theorem dX5_tripletPower_108 : decode cX5_tripletPower 108 = .ok (.iload_n 1, 1) := by decide +kernel
theorem dX5_tripletPower_109 : decode cX5_tripletPower 109 = .ok (.iload_n 2, 1) := by decide +kernel
theorem dX5_tripletPower_110 : decode cX5_tripletPower 110 = .ok (.invokevirtual 169, 3) := by decide +kernel
theorem dX5_tripletPower_113 : decode cX5_tripletPower 113 = .ok (.lstore 10, 2) := by decide +kernel
theorem dX5_tripletPower_115 : decode cX5_tripletPower 115 = .ok (.lload 6, 2) := by decide +kernel
theorem dX5_tripletPower_117 : decode cX5_tripletPower 117 = .ok (.lload 8, 2) := by decide +kernel
theorem dX5_tripletPower_119 : decode cX5_tripletPower 119 = .ok (.ladd, 1) := by decide +kernel
theorem dX5_tripletPower_120 : decode cX5_tripletPower 120 = .ok (.lload 10, 2) := by decide +kernel
theorem dX5_tripletPower_122 : decode cX5_tripletPower 122 = .ok (.ladd, 1) := by decide +kernel
theorem dX5_tripletPower_123 : decode cX5_tripletPower 123 = .ok (.lstore 12, 2) := by decide +kernel
theorem dX5_tripletPower_125 : decode cX5_tripletPower 125 = .ok (.lload 12, 2) := by decide +kernel
theorem dX5_tripletPower_127 : decode cX5_tripletPower 127 = .ok (.lconst 0, 1) := by decide +kernel
theorem dX5_tripletPower_128 : decode cX5_tripletPower 128 = .ok (.lcmp, 1) := by decide +kernel
theorem dX5_tripletPower_129 : decode cX5_tripletPower 129 = .ok (.ifCond .ne 7, 3) := by decide +kernel
theorem dX5_tripletPower_132 : decode cX5_tripletPower 132 = .ok (.ldc2_w 139, 3) := by decide +kernel
theorem dX5_tripletPower_135 : decode cX5_tripletPower 135 = .ok (.lreturn, 1) := by decide +kernel
theorem dX5_tripletPower_136 : decode cX5_tripletPower 136 = .ok (.iload 5, 2) := by decide +kernel
theorem dX5_tripletPower_138 : decode cX5_tripletPower 138 = .ok (.ifCond .ne 8, 3) := by decide +kernel
theorem dX5_tripletPower_141 : decode cX5_tripletPower 141 = .ok (.lload 6, 2) := by decide +kernel
theorem dX5_tripletPower_143 : decode cX5_tripletPower 143 = .ok (.goto 16, 3) := by decide +kernel
theorem dX5_tripletPower_146 : decode cX5_tripletPower 146 = .ok (.iload 5, 2) := by decide +kernel
theorem dX5_tripletPower_148 : decode cX5_tripletPower 148 = .ok (.iconst 1, 1) := by decide +kernel
theorem dX5_tripletPower_149 : decode cX5_tripletPower 149 = .ok (.if_icmp .ne 8, 3) := by decide +kernel
theorem dX5_tripletPower_152 : decode cX5_tripletPower 152 = .ok (.lload 8, 2) := by decide +kernel
theorem dX5_tripletPower_154 : decode cX5_tripletPower 154 = .ok (.goto 5, 3) := by decide +kernel
theorem dX5_tripletPower_157 : decode cX5_tripletPower 157 = .ok (.lload 10, 2) := by decide +kernel
theorem dX5_tripletPower_159 : decode cX5_tripletPower 159 = .ok (.lstore 14, 2) := by decide +kernel
theorem dX5_tripletPower_161 : decode cX5_tripletPower 161 = .ok (.iload 4, 2) := by decide +kernel
theorem dX5_tripletPower_163 : decode cX5_tripletPower 163 = .ok (.i2l, 1) := by decide +kernel
theorem dX5_tripletPower_164 : decode cX5_tripletPower 164 = .ok (.lload 14, 2) := by decide +kernel
theorem dX5_tripletPower_166 : decode cX5_tripletPower 166 = .ok (.lmul, 1) := by decide +kernel
theorem dX5_tripletPower_167 : decode cX5_tripletPower 167 = .ok (.lload 12, 2) := by decide +kernel
theorem dX5_tripletPower_169 : decode cX5_tripletPower 169 = .ok (.invokestatic 132, 3) := by decide +kernel
theorem dX5_tripletPower_172 : decode cX5_tripletPower 172 = .ok (.lreturn, 1) := by decide +kernel
set_option maxRecDepth 20000 in
theorem ggX5_bestTriplet_X5_greatestTripletPower : GoodIn wsX5_bestTriplet wsX5_greatestTripletPower := goodIn_r _ [7, 2, 8, 9, 10, 11, 12, 13, 14, 15, 16, 17, 18, 19, 20, 21, 22, 23, 24, 25, 26, 27, 28, 29, 30, 31, 32, 33, 34, 35, 36, 37, 38, 39, 6, 40, 41, 42, 43, 44, 45, 46, 47, 48, 49, 50, 51, 52, 53, 54, 55, 56, 57, 58, 59, 60, 61] (by decide +kernel) (by decide +kernel)
set_option maxRecDepth 20000 in
theorem gX5_bestTriplet_X5_greatestTripletPower : GoodIn wsX5_bestTriplet (wsV RX5 173 RX5 yX5_greatestTripletPower wsX5_greatestTripletPower) := goodIn_app (goodIn_of _ (by decide +kernel)) ggX5_bestTriplet_X5_greatestTripletPower
theorem dX5_bestTriplet_0 : decode cX5_bestTriplet 0 = .ok (.ldc2_w 139, 3) := by decide +kernel
theorem dX5_bestTriplet_3 : decode cX5_bestTriplet 3 = .ok (.lstore_n 1, 1) := by decide +kernel
theorem dX5_bestTriplet_4 : decode cX5_bestTriplet 4 = .ok (.lconst 0, 1) := by decide +kernel
theorem dX5_bestTriplet_5 : decode cX5_bestTriplet 5 = .ok (.lstore_n 3, 1) := by decide +kernel
theorem dX5_bestTriplet_6 : decode cX5_bestTriplet 6 = .ok (.iconst 0, 1) := by decide +kernel
theorem dX5_bestTriplet_7 : decode cX5_bestTriplet 7 = .ok (.istore 5, 2) := by decide +kernel
theorem dX5_bestTriplet_9 : decode cX5_bestTriplet 9 = .ok (.iload 5, 2) := by decide +kernel
theorem dX5_bestTriplet_11 : decode cX5_bestTriplet 11 = .ok (.aload_n 0, 1) := by decide +kernel
theorem dX5_bestTriplet_12 : decode cX5_bestTriplet 12 = .ok (.getfield 19, 3) := by decide +kernel
theorem dX5_bestTriplet_15 : decode cX5_bestTriplet 15 = .ok (.getfield 77, 3) := by decide +kernel
theorem dX5_bestTriplet_18 : decode cX5_bestTriplet 18 = .ok (.if_icmp .ge 111, 3) := by decide +kernel
theorem dX5_bestTriplet_21 : decode cX5_bestTriplet 21 = .ok (.iload 5, 2) := by decide +kernel
theorem dX5_bestTriplet_23 : decode cX5_bestTriplet 23 = .ok (.iconst 1, 1) := by decide +kernel
theorem dX5_bestTriplet_24 : decode cX5_bestTriplet 24 = .ok (.iadd, 1) := by decide +kernel
theorem dX5_bestTriplet_25 : decode cX5_bestTriplet 25 = .ok (.istore 6, 2) := by decide +kernel
theorem dX5_bestTriplet_27 : decode cX5_bestTriplet 27 = .ok (.iload 6, 2) := by decide +kernel
theorem dX5_bestTriplet_29 : decode cX5_bestTriplet 29 = .ok (.aload_n 0, 1) := by decide +kernel
theorem dX5_bestTriplet_30 : decode cX5_bestTriplet 30 = .ok (.getfield 19, 3) := by decide +kernel
theorem dX5_bestTriplet_33 : decode cX5_bestTriplet 33 = .ok (.getfield 77, 3) := by decide +kernel
theorem dX5_bestTriplet_36 : decode cX5_bestTriplet 36 = .ok (.if_icmp .ge 87, 3) := by decide +kernel
theorem dX5_bestTriplet_39 : decode cX5_bestTriplet 39 = .ok (.iload 6, 2) := by decide +kernel
theorem dX5_bestTriplet_41 : decode cX5_bestTriplet 41 = .ok (.iconst 1, 1) := by decide +kernel
theorem dX5_bestTriplet_42 : decode cX5_bestTriplet 42 = .ok (.iadd, 1) := by decide +kernel
theorem dX5_bestTriplet_43 : decode cX5_bestTriplet 43 = .ok (.istore 7, 2) := by decide +kernel
theorem dX5_bestTriplet_45 : decode cX5_bestTriplet 45 = .ok (.iload 7, 2) := by decide +kernel
theorem dX5_bestTriplet_47 : decode cX5_bestTriplet 47 = .ok (.aload_n 0, 1) := by decide +kernel
theorem dX5_bestTriplet_48 : decode cX5_bestTriplet 48 = .ok (.getfield 19, 3) := by decide +kernel
theorem dX5_bestTriplet_51 : decode cX5_bestTriplet 51 = .ok (.getfield 77, 3) := by decide +kernel
theorem dX5_bestTriplet_54 : decode cX5_bestTriplet 54 = .ok (.if_icmp .ge 63, 3) := by decide +kernel
theorem dX5_bestTriplet_57 : decode cX5_bestTriplet 57 = .ok (.aload_n 0, 1) := by decide +kernel
theorem dX5_bestTriplet_58 : decode cX5_bestTriplet 58 = .ok (.iload 5, 2) := by decide +kernel
theorem dX5_bestTriplet_60 : decode cX5_bestTriplet 60 = .ok (.iload 6, 2) := by decide +kernel
theorem dX5_bestTriplet_62 : decode cX5_bestTriplet 62 = .ok (.iload 7, 2) := by decide +kernel
theorem dX5_bestTriplet_64 : decode cX5_bestTriplet 64 = .ok (.invokevirtual 173, 3) := by decide +kernel
theorem dX5_bestTriplet_67 : decode cX5_bestTriplet 67 = .ok (.lstore 8, 2) := by decide +kernel
theorem dX5_bestTriplet_69 : decode cX5_bestTriplet 69 = .ok (.lload 8, 2) := by decide +kernel
theorem dX5_bestTriplet_71 : decode cX5_bestTriplet 71 = .ok (.lconst 0, 1) := by decide +kernel
theorem dX5_bestTriplet_72 : decode cX5_bestTriplet 72 = .ok (.lcmp, 1) := by decide +kernel
theorem dX5_bestTriplet_73 : decode cX5_bestTriplet 73 = .ok (.ifCond .lt 38, 3) := by decide +kernel
theorem dX5_bestTriplet_76 : decode cX5_bestTriplet 76 = .ok (.lload_n 1, 1) := by decide +kernel
theorem dX5_bestTriplet_77 : decode cX5_bestTriplet 77 = .ok (.ldc2_w 139, 3) := by decide +kernel
theorem dX5_bestTriplet_80 : decode cX5_bestTriplet 80 = .ok (.lcmp, 1) := by decide +kernel
theorem dX5_bestTriplet_81 : decode cX5_bestTriplet 81 = .ok (.ifCond .eq 10, 3) := by decide +kernel
theorem dX5_bestTriplet_84 : decode cX5_bestTriplet 84 = .ok (.lload 8, 2) := by decide +kernel
theorem dX5_bestTriplet_86 : decode cX5_bestTriplet 86 = .ok (.lload_n 3, 1) := by decide +kernel
theorem dX5_bestTriplet_87 : decode cX5_bestTriplet 87 = .ok (.lcmp, 1) := by decide +kernel
theorem dX5_bestTriplet_88 : decode cX5_bestTriplet 88 = .ok (.ifCond .ge 23, 3) := by decide +kernel
theorem dX5_bestTriplet_91 : decode cX5_bestTriplet 91 = .ok (.sipush 10000, 3) := by decide +kernel
theorem dX5_bestTriplet_94 : decode cX5_bestTriplet 94 = .ok (.iload 5, 2) := by decide +kernel
theorem dX5_bestTriplet_96 : decode cX5_bestTriplet 96 = .ok (.imul, 1) := by decide +kernel
theorem dX5_bestTriplet_97 : decode cX5_bestTriplet 97 = .ok (.bipush 100, 2) := by decide +kernel
theorem dX5_bestTriplet_99 : decode cX5_bestTriplet 99 = .ok (.iload 6, 2) := by decide +kernel
theorem dX5_bestTriplet_101 : decode cX5_bestTriplet 101 = .ok (.imul, 1) := by decide +kernel
theorem dX5_bestTriplet_102 : decode cX5_bestTriplet 102 = .ok (.iadd, 1) := by decide +kernel
theorem dX5_bestTriplet_103 : decode cX5_bestTriplet 103 = .ok (.iload 7, 2) := by decide +kernel
theorem dX5_bestTriplet_105 : decode cX5_bestTriplet 105 = .ok (.iadd, 1) := by decide +kernel
theorem dX5_bestTriplet_106 : decode cX5_bestTriplet 106 = .ok (.i2l, 1) := by decide +kernel
theorem dX5_bestTriplet_107 : decode cX5_bestTriplet 107 = .ok (.lstore_n 1, 1) := by decide +kernel
theorem dX5_bestTriplet_108 : decode cX5_bestTriplet 108 = .ok (.lload 8, 2) := by decide +kernel
theorem dX5_bestTriplet_110 : decode cX5_bestTriplet 110 = .ok (.lstore_n 3, 1) := by decide +kernel
theorem dX5_bestTriplet_111 : decode cX5_bestTriplet 111 = .ok (.iinc 7 1, 3) := by decide +kernel
theorem dX5_bestTriplet_114 : decode cX5_bestTriplet 114 = .ok (.goto (-69), 3) := by decide +kernel
theorem dX5_bestTriplet_117 : decode cX5_bestTriplet 117 = .ok (.iinc 6 1, 3) := by decide +kernel
theorem dX5_bestTriplet_120 : decode cX5_bestTriplet 120 = .ok (.goto (-93), 3) := by decide +kernel
theorem dX5_bestTriplet_123 : decode cX5_bestTriplet 123 = .ok (.iinc 5 1, 3) := by decide +kernel
theorem dX5_bestTriplet_126 : decode cX5_bestTriplet 126 = .ok (.goto (-117), 3) := by decide +kernel
theorem dX5_bestTriplet_129 : decode cX5_bestTriplet 129 = .ok (.lload_n 1, 1) := by decide +kernel
theorem dX5_bestTriplet_130 : decode cX5_bestTriplet 130 = .ok (.lreturn, 1) := by decide +kernel
set_option maxRecDepth 20000 in
theorem ggX5_addLens_X0_has : GoodIn wsX5_addLens wsX0_has := goodIn_r _ [12, 13, 30, 31, 32, 33, 34] (by decide +kernel) (by decide +kernel)
set_option maxRecDepth 20000 in
theorem gX5_addLens_X0_has : GoodIn wsX5_addLens (wsV RX5 93 RX0 yX0_has wsX0_has) := goodIn_app (goodIn_of _ (by decide +kernel)) ggX5_addLens_X0_has
set_option maxRecDepth 20000 in
theorem ggX5_addLens_X3_add : GoodIn wsX5_addLens wsX3_add := goodIn_r _ [18, 19, 20, 21, 27, 28, 29] (by decide +kernel) (by decide +kernel)
set_option maxRecDepth 20000 in
theorem gX5_addLens_X3_add : GoodIn wsX5_addLens (wsV RX5 179 RX3 yX3_add wsX3_add) := goodIn_app (goodIn_of _ (by decide +kernel)) ggX5_addLens_X3_add
theorem dX5_addLens_0 : decode cX5_addLens 0 = .ok (.aload_n 0, 1) := by decide +kernel
theorem dX5_addLens_1 : decode cX5_addLens 1 = .ok (.getfield 19, 3) := by decide +kernel
theorem dX5_addLens_4 : decode cX5_addLens 4 = .ok (.iload_n 1, 1) := by decide +kernel
theorem dX5_addLens_5 : decode cX5_addLens 5 = .ok (.invokevirtual 93, 3) := by decide +kernel
theorem dX5_addLens_8 : decode cX5_addLens 8 = .ok (.ifCond .ne 7, 3) := by decide +kernel
theorem dX5_addLens_11 : decode cX5_addLens 11 = .ok (.ldc2_w 97, 3) := by decide +kernel
theorem dX5_addLens_14 : decode cX5_addLens 14 = .ok (.lreturn, 1) := by decide +kernel
theorem dX5_addLens_15 : decode cX5_addLens 15 = .ok (.iload_n 2, 1) := by decide +kernel
theorem dX5_addLens_16 : decode cX5_addLens 16 = .ok (.ldc 176, 2) := by decide +kernel
theorem dX5_addLens_18 : decode cX5_addLens 18 = .ok (.if_icmp .lt 9, 3) := by decide +kernel
theorem dX5_addLens_21 : decode cX5_addLens 21 = .ok (.iload_n 2, 1) := by decide +kernel
theorem dX5_addLens_22 : decode cX5_addLens 22 = .ok (.ldc 177, 2) := by decide +kernel
theorem dX5_addLens_24 : decode cX5_addLens 24 = .ok (.if_icmp .le 7, 3) := by decide +kernel
theorem dX5_addLens_27 : decode cX5_addLens 27 = .ok (.ldc2_w 44, 3) := by decide +kernel
theorem dX5_addLens_30 : decode cX5_addLens 30 = .ok (.lreturn, 1) := by decide +kernel
theorem dX5_addLens_31 : decode cX5_addLens 31 = .ok (.aload_n 0, 1) := by decide +kernel
theorem dX5_addLens_32 : decode cX5_addLens 32 = .ok (.getfield 33, 3) := by decide +kernel
theorem dX5_addLens_35 : decode cX5_addLens 35 = .ok (.getfield 178, 3) := by decide +kernel
theorem dX5_addLens_38 : decode cX5_addLens 38 = .ok (.bipush 8, 2) := by decide +kernel
theorem dX5_addLens_40 : decode cX5_addLens 40 = .ok (.if_icmp .ne 7, 3) := by decide +kernel
theorem dX5_addLens_43 : decode cX5_addLens 43 = .ok (.ldc2_w 50, 3) := by decide +kernel
theorem dX5_addLens_46 : decode cX5_addLens 46 = .ok (.lreturn, 1) := by decide +kernel
theorem dX5_addLens_47 : decode cX5_addLens 47 = .ok (.aload_n 0, 1) := by decide +kernel
theorem dX5_addLens_48 : decode cX5_addLens 48 = .ok (.getfield 33, 3) := by decide +kernel
theorem dX5_addLens_51 : decode cX5_addLens 51 = .ok (.iload_n 1, 1) := by decide +kernel
theorem dX5_addLens_52 : decode cX5_addLens 52 = .ok (.iload_n 2, 1) := by decide +kernel
theorem dX5_addLens_53 : decode cX5_addLens 53 = .ok (.invokevirtual 179, 3) := by decide +kernel
theorem dX5_addLens_56 : decode cX5_addLens 56 = .ok (.aload_n 0, 1) := by decide +kernel
theorem dX5_addLens_57 : decode cX5_addLens 57 = .ok (.getfield 33, 3) := by decide +kernel
theorem dX5_addLens_60 : decode cX5_addLens 60 = .ok (.getfield 178, 3) := by decide +kernel
theorem dX5_addLens_63 : decode cX5_addLens 63 = .ok (.iconst 1, 1) := by decide +kernel
theorem dX5_addLens_64 : decode cX5_addLens 64 = .ok (.isub, 1) := by decide +kernel
theorem dX5_addLens_65 : decode cX5_addLens 65 = .ok (.i2l, 1) := by decide +kernel
theorem dX5_addLens_66 : decode cX5_addLens 66 = .ok (.lreturn, 1) := by decide +kernel
set_option maxRecDepth 20000 in
theorem ggX5_removeLens_X3_has : GoodIn wsX5_removeLens wsX3_has := goodIn_r _ [7, 8, 21, 22, 23] (by decide +kernel) (by decide +kernel)
set_option maxRecDepth 20000 in
theorem gX5_removeLens_X3_has : GoodIn wsX5_removeLens (wsV RX5 182 RX3 yX3_has wsX3_has) := goodIn_app (goodIn_of _ (by decide +kernel)) ggX5_removeLens_X3_has
set_option maxRecDepth 20000 in
theorem ggX5_removeLens_X3_remove : GoodIn wsX5_removeLens wsX3_remove := goodIn_r _ [12, 8, 13, 14, 15, 4, 5, 6, 7, 21, 22, 23] (by decide +kernel) (by decide +kernel)
set_option maxRecDepth 20000 in
theorem gX5_removeLens_X3_remove : GoodIn wsX5_removeLens (wsV RX5 185 RX3 yX3_remove wsX3_remove) := goodIn_app (goodIn_of _ (by decide +kernel)) ggX5_removeLens_X3_remove
theorem dX5_removeLens_0 : decode cX5_removeLens 0 = .ok (.aload_n 0, 1) := by decide +kernel
theorem dX5_removeLens_1 : decode cX5_removeLens 1 = .ok (.getfield 33, 3) := by decide +kernel
theorem dX5_removeLens_4 : decode cX5_removeLens 4 = .ok (.iload_n 1, 1) := by decide +kernel
theorem dX5_removeLens_5 : decode cX5_removeLens 5 = .ok (.invokevirtual 182, 3) := by decide +kernel
theorem dX5_removeLens_8 : decode cX5_removeLens 8 = .ok (.ifCond .ne 7, 3) := by decide +kernel
theorem dX5_removeLens_11 : decode cX5_removeLens 11 = .ok (.ldc2_w 183, 3) := by decide +kernel
theorem dX5_removeLens_14 : decode cX5_removeLens 14 = .ok (.lreturn, 1) := by decide +kernel
theorem dX5_removeLens_15 : decode cX5_removeLens 15 = .ok (.aload_n 0, 1) := by decide +kernel
theorem dX5_removeLens_16 : decode cX5_removeLens 16 = .ok (.getfield 33, 3) := by decide +kernel
theorem dX5_removeLens_19 : decode cX5_removeLens 19 = .ok (.iload_n 1, 1) := by decide +kernel
theorem dX5_removeLens_20 : decode cX5_removeLens 20 = .ok (.invokevirtual 185, 3) := by decide +kernel
theorem dX5_removeLens_23 : decode cX5_removeLens 23 = .ok (.aload_n 0, 1) := by decide +kernel
theorem dX5_removeLens_24 : decode cX5_removeLens 24 = .ok (.getfield 33, 3) := by decide +kernel
theorem dX5_removeLens_27 : decode cX5_removeLens 27 = .ok (.getfield 178, 3) := by decide +kernel
theorem dX5_removeLens_30 : decode cX5_removeLens 30 = .ok (.i2l, 1) := by decide +kernel
theorem dX5_removeLens_31 : decode cX5_removeLens 31 = .ok (.lreturn, 1) := by decide +kernel
theorem dX5_lensCount_0 : decode cX5_lensCount 0 = .ok (.aload_n 0, 1) := by decide +kernel
theorem dX5_lensCount_1 : decode cX5_lensCount 1 = .ok (.getfield 33, 3) := by decide +kernel
theorem dX5_lensCount_4 : decode cX5_lensCount 4 = .ok (.getfield 178, 3) := by decide +kernel
theorem dX5_lensCount_7 : decode cX5_lensCount 7 = .ok (.i2l, 1) := by decide +kernel
theorem dX5_lensCount_8 : decode cX5_lensCount 8 = .ok (.lreturn, 1) := by decide +kernel
set_option maxRecDepth 20000 in
theorem ggX5_systemPower_X5_isColour : GoodIn wsX5_systemPower wsX5_isColour := goodIn_r _ [7] (by decide +kernel) (by decide +kernel)
set_option maxRecDepth 20000 in
theorem gX5_systemPower_X5_isColour : GoodIn wsX5_systemPower (va_wsS RX5 110 yX5_isColour wsX5_isColour) := goodIn_app (goodIn_of _ (by decide +kernel)) ggX5_systemPower_X5_isColour
set_option maxRecDepth 20000 in
theorem ggX5_systemPower_X3_powerFor : GoodIn wsX5_systemPower wsX3_powerFor := goodIn_r _ [12, 13, 14, 15, 16, 17, 11, 18, 19, 20, 21, 22, 23, 24, 25, 26, 27, 28, 29, 30, 31, 32, 33, 34, 35, 6, 36, 37, 38, 39, 40, 46, 47, 48, 49, 50, 51, 52, 53] (by decide +kernel) (by decide +kernel)
set_option maxRecDepth 20000 in
theorem gX5_systemPower_X3_powerFor : GoodIn wsX5_systemPower (wsV RX5 186 RX3 yX3_powerFor wsX3_powerFor) := goodIn_app (goodIn_of _ (by decide +kernel)) ggX5_systemPower_X3_powerFor
theorem dX5_systemPower_0 : decode cX5_systemPower 0 = .ok (.iload_n 1, 1) := by decide +kernel
theorem dX5_systemPower_1 : decode cX5_systemPower 1 = .ok (.invokestatic 110, 3) := by decide +kernel
theorem dX5_systemPower_4 : decode cX5_systemPower 4 = .ok (.ifCond .eq 18, 3) := by decide +kernel
theorem dX5_systemPower_7 : decode cX5_systemPower 7 = .ok (.aload_n 0, 1) := by decide +kernel
theorem dX5_systemPower_8 : decode cX5_systemPower 8 = .ok (.getfield 33, 3) := by decide +kernel
theorem dX5_systemPower_11 : decode cX5_systemPower 11 = .ok (.iload_n 1, 1) := by decide +kernel
theorem dX5_systemPower_12 : decode cX5_systemPower 12 = .ok (.aload_n 0, 1) := by decide +kernel
theorem dX5_systemPower_13 : decode cX5_systemPower 13 = .ok (.getfield 19, 3) := by decide +kernel
theorem dX5_systemPower_16 : decode cX5_systemPower 16 = .ok (.invokevirtual 186, 3) := by decide +kernel
theorem dX5_systemPower_19 : decode cX5_systemPower 19 = .ok (.goto 6, 3) := by decide +kernel
theorem dX5_systemPower_22 : decode cX5_systemPower 22 = .ok (.ldc2_w 44, 3) := by decide +kernel
theorem dX5_systemPower_25 : decode cX5_systemPower 25 = .ok (.lreturn, 1) := by decide +kernel
set_option maxRecDepth 20000 in
theorem ggX5_balancePower_X0_has : GoodIn wsX5_balancePower wsX0_has := goodIn_r _ [9, 10, 55, 56, 57, 58, 59] (by decide +kernel) (by decide +kernel)
set_option maxRecDepth 20000 in
theorem gX5_balancePower_X0_has : GoodIn wsX5_balancePower (wsV RX5 93 RX0 yX0_has wsX0_has) := goodIn_app (goodIn_of _ (by decide +kernel)) ggX5_balancePower_X0_has
set_option maxRecDepth 20000 in
theorem ggX5_balancePower_X3_powerFor : GoodIn wsX5_balancePower wsX3_powerFor := goodIn_r _ [15, 16, 17, 18, 19, 20, 14, 21, 22, 23, 24, 25, 26, 27, 8, 28, 29, 30, 31, 32, 33, 34, 35, 36, 37, 38, 39, 40, 41, 42, 43, 60, 61, 62, 55, 56, 57, 58, 59] (by decide +kernel) (by decide +kernel)
set_option maxRecDepth 20000 in
theorem gX5_balancePower_X3_powerFor : GoodIn wsX5_balancePower (wsV RX5 186 RX3 yX3_powerFor wsX3_powerFor) := goodIn_app (goodIn_of _ (by decide +kernel)) ggX5_balancePower_X3_powerFor
set_option maxRecDepth 20000 in
theorem ggX5_balancePower_X0_valueA : GoodIn wsX5_balancePower wsX0_valueA := goodIn_r _ [35, 30, 36, 55, 56, 57, 58, 59] (by decide +kernel) (by decide +kernel)
set_option maxRecDepth 20000 in
theorem gX5_balancePower_X0_valueA : GoodIn wsX5_balancePower (wsV RX5 147 RX0 yX0_valueA wsX0_valueA) := goodIn_app (goodIn_of _ (by decide +kernel)) ggX5_balancePower_X0_valueA
set_option maxRecDepth 20000 in
theorem ggX5_balancePower_X0_valueB : GoodIn wsX5_balancePower wsX0_valueB := goodIn_r _ [48, 29, 31, 55, 56, 57, 58, 59] (by decide +kernel) (by decide +kernel)
set_option maxRecDepth 20000 in
theorem gX5_balancePower_X0_valueB : GoodIn wsX5_balancePower (wsV RX5 129 RX0 yX0_valueB wsX0_valueB) := goodIn_app (goodIn_of _ (by decide +kernel)) ggX5_balancePower_X0_valueB
set_option maxRecDepth 20000 in
theorem ggX5_balancePower_X5_floorQuotient : GoodIn wsX5_balancePower wsX5_floorQuotient := goodIn_r _ [39, 40, 41, 42, 43] (by decide +kernel) (by decide +kernel)
set_option maxRecDepth 20000 in
theorem gX5_balancePower_X5_floorQuotient : GoodIn wsX5_balancePower (va_wsS RX5 132 yX5_floorQuotient wsX5_floorQuotient) := goodIn_app (goodIn_of _ (by decide +kernel)) ggX5_balancePower_X5_floorQuotient
theorem dX5_balancePower_0 : decode cX5_balancePower 0 = .ok (.aload_n 0, 1) := by decide +kernel
theorem dX5_balancePower_1 : decode cX5_balancePower 1 = .ok (.getfield 19, 3) := by decide +kernel
theorem dX5_balancePower_4 : decode cX5_balancePower 4 = .ok (.iload_n 1, 1) := by decide +kernel
theorem dX5_balancePower_5 : decode cX5_balancePower 5 = .ok (.invokevirtual 93, 3) := by decide +kernel
theorem dX5_balancePower_8 : decode cX5_balancePower 8 = .ok (.ifCond .ne 7, 3) := by decide +kernel
theorem dX5_balancePower_11 : decode cX5_balancePower 11 = .ok (.ldc2_w 97, 3) := by decide +kernel
theorem dX5_balancePower_14 : decode cX5_balancePower 14 = .ok (.lreturn, 1) := by decide +kernel
theorem dX5_balancePower_15 : decode cX5_balancePower 15 = .ok (.aload_n 0, 1) := by decide +kernel
theorem dX5_balancePower_16 : decode cX5_balancePower 16 = .ok (.getfield 33, 3) := by decide +kernel
theorem dX5_balancePower_19 : decode cX5_balancePower 19 = .ok (.iconst 0, 1) := by decide +kernel
theorem dX5_balancePower_20 : decode cX5_balancePower 20 = .ok (.aload_n 0, 1) := by decide +kernel
theorem dX5_balancePower_21 : decode cX5_balancePower 21 = .ok (.getfield 19, 3) := by decide +kernel
theorem dX5_balancePower_24 : decode cX5_balancePower 24 = .ok (.invokevirtual 186, 3) := by decide +kernel
theorem dX5_balancePower_27 : decode cX5_balancePower 27 = .ok (.aload_n 0, 1) := by decide +kernel
theorem dX5_balancePower_28 : decode cX5_balancePower 28 = .ok (.getfield 33, 3) := by decide +kernel
theorem dX5_balancePower_31 : decode cX5_balancePower 31 = .ok (.iconst 2, 1) := by decide +kernel
theorem dX5_balancePower_32 : decode cX5_balancePower 32 = .ok (.aload_n 0, 1) := by decide +kernel
theorem dX5_balancePower_33 : decode cX5_balancePower 33 = .ok (.getfield 19, 3) := by decide +kernel
theorem dX5_balancePower_36 : decode cX5_balancePower 36 = .ok (.invokevirtual 186, 3) := by decide +kernel
theorem dX5_balancePower_39 : decode cX5_balancePower 39 = .ok (.lsub, 1) := by decide +kernel
theorem dX5_balancePower_40 : decode cX5_balancePower 40 = .ok (.lstore_n 2, 1) := by decide +kernel
theorem dX5_balancePower_41 : decode cX5_balancePower 41 = .ok (.lload_n 2, 1) := by decide +kernel
theorem dX5_balancePower_42 : decode cX5_balancePower 42 = .ok (.lneg, 1) := by decide +kernel
theorem dX5_balancePower_43 : decode cX5_balancePower 43 = .ok (.aload_n 0, 1) := by decide +kernel
theorem dX5_balancePower_44 : decode cX5_balancePower 44 = .ok (.getfield 19, 3) := by decide +kernel
theorem dX5_balancePower_47 : decode cX5_balancePower 47 = .ok (.iload_n 1, 1) := by decide +kernel
theorem dX5_balancePower_48 : decode cX5_balancePower 48 = .ok (.invokevirtual 147, 3) := by decide +kernel
theorem dX5_balancePower_51 : decode cX5_balancePower 51 = .ok (.lmul, 1) := by decide +kernel
theorem dX5_balancePower_52 : decode cX5_balancePower 52 = .ok (.ldc2_w 150, 3) := by decide +kernel
theorem dX5_balancePower_55 : decode cX5_balancePower 55 = .ok (.aload_n 0, 1) := by decide +kernel
theorem dX5_balancePower_56 : decode cX5_balancePower 56 = .ok (.getfield 19, 3) := by decide +kernel
theorem dX5_balancePower_59 : decode cX5_balancePower 59 = .ok (.iload_n 1, 1) := by decide +kernel
theorem dX5_balancePower_60 : decode cX5_balancePower 60 = .ok (.invokevirtual 129, 3) := by decide +kernel
theorem dX5_balancePower_63 : decode cX5_balancePower 63 = .ok (.lmul, 1) := by decide +kernel
theorem dX5_balancePower_64 : decode cX5_balancePower 64 = .ok (.invokestatic 132, 3) := by decide +kernel
theorem dX5_balancePower_67 : decode cX5_balancePower 67 = .ok (.lreturn, 1) := by decide +kernel
set_option maxRecDepth 20000 in
theorem ggX5_findWrongGlass_X5_isMeasurable : GoodIn wsX5_findWrongGlass wsX5_isMeasurable := goodIn_r _ [8, 9, 10] (by decide +kernel) (by decide +kernel)
set_option maxRecDepth 20000 in
theorem gX5_findWrongGlass_X5_isMeasurable : GoodIn wsX5_findWrongGlass (va_wsS RX5 190 yX5_isMeasurable wsX5_isMeasurable) := goodIn_app (goodIn_of _ (by decide +kernel)) ggX5_findWrongGlass_X5_isMeasurable
set_option maxRecDepth 20000 in
theorem ggX5_findWrongGlass_X3_powerFor : GoodIn wsX5_findWrongGlass wsX3_powerFor := goodIn_r _ [15, 16, 17, 18, 19, 20, 14, 21, 22, 23, 24, 25, 26, 27, 28, 29, 30, 31, 32, 33, 34, 35, 36, 37, 38, 7, 39, 40, 41, 42, 43, 65, 66, 67, 68, 69, 70, 71, 72] (by decide +kernel) (by decide +kernel)
set_option maxRecDepth 20000 in
theorem gX5_findWrongGlass_X3_powerFor : GoodIn wsX5_findWrongGlass (wsV RX5 186 RX3 yX3_powerFor wsX3_powerFor) := goodIn_app (goodIn_of _ (by decide +kernel)) ggX5_findWrongGlass_X3_powerFor
set_option maxRecDepth 20000 in
theorem ggX5_findWrongGlass_X5_missWith : GoodIn wsX5_findWrongGlass wsX5_missWith := goodIn_r _ [47, 2, 3, 48, 49, 50, 51, 52, 53, 54, 14, 55, 17, 18, 19, 20, 21, 22, 23, 24, 25, 26, 27, 28, 29, 30, 31, 32, 33, 34, 35, 36, 37, 38, 7, 39, 40, 41, 42, 43, 60, 61, 62, 63, 64, 65, 66, 67, 68, 69, 70, 71, 72] (by decide +kernel) (by decide +kernel)
set_option maxRecDepth 20000 in
theorem gX5_findWrongGlass_X5_missWith : GoodIn wsX5_findWrongGlass (wsV RX5 193 RX5 yX5_missWith wsX5_missWith) := goodIn_app (goodIn_of _ (by decide +kernel)) ggX5_findWrongGlass_X5_missWith
set_option maxRecDepth 20000 in
theorem ggX5_findWrongGlass_X3_glassOf : GoodIn wsX5_findWrongGlass wsX3_glassOf := goodIn_r _ [59, 17, 65, 66, 67] (by decide +kernel) (by decide +kernel)
set_option maxRecDepth 20000 in
theorem gX5_findWrongGlass_X3_glassOf : GoodIn wsX5_findWrongGlass (wsV RX5 197 RX3 yX3_glassOf wsX3_glassOf) := goodIn_app (goodIn_of _ (by decide +kernel)) ggX5_findWrongGlass_X3_glassOf
theorem dX5_findWrongGlass_0 : decode cX5_findWrongGlass 0 = .ok (.lload_n 1, 1) := by decide +kernel
theorem dX5_findWrongGlass_1 : decode cX5_findWrongGlass 1 = .ok (.invokestatic 190, 3) := by decide +kernel
theorem dX5_findWrongGlass_4 : decode cX5_findWrongGlass 4 = .ok (.ifCond .eq 18, 3) := by decide +kernel
theorem dX5_findWrongGlass_7 : decode cX5_findWrongGlass 7 = .ok (.lload_n 3, 1) := by decide +kernel
theorem dX5_findWrongGlass_8 : decode cX5_findWrongGlass 8 = .ok (.invokestatic 190, 3) := by decide +kernel
theorem dX5_findWrongGlass_11 : decode cX5_findWrongGlass 11 = .ok (.ifCond .eq 11, 3) := by decide +kernel
theorem dX5_findWrongGlass_14 : decode cX5_findWrongGlass 14 = .ok (.lload 5, 2) := by decide +kernel
theorem dX5_findWrongGlass_16 : decode cX5_findWrongGlass 16 = .ok (.invokestatic 190, 3) := by decide +kernel
theorem dX5_findWrongGlass_19 : decode cX5_findWrongGlass 19 = .ok (.ifCond .ne 7, 3) := by decide +kernel
theorem dX5_findWrongGlass_22 : decode cX5_findWrongGlass 22 = .ok (.ldc2_w 44, 3) := by decide +kernel
theorem dX5_findWrongGlass_25 : decode cX5_findWrongGlass 25 = .ok (.lreturn, 1) := by decide +kernel
theorem dX5_findWrongGlass_26 : decode cX5_findWrongGlass 26 = .ok (.aload_n 0, 1) := by decide +kernel
theorem dX5_findWrongGlass_27 : decode cX5_findWrongGlass 27 = .ok (.getfield 33, 3) := by decide +kernel
theorem dX5_findWrongGlass_30 : decode cX5_findWrongGlass 30 = .ok (.iconst 0, 1) := by decide +kernel
theorem dX5_findWrongGlass_31 : decode cX5_findWrongGlass 31 = .ok (.aload_n 0, 1) := by decide +kernel
theorem dX5_findWrongGlass_32 : decode cX5_findWrongGlass 32 = .ok (.getfield 19, 3) := by decide +kernel
theorem dX5_findWrongGlass_35 : decode cX5_findWrongGlass 35 = .ok (.invokevirtual 186, 3) := by decide +kernel
theorem dX5_findWrongGlass_38 : decode cX5_findWrongGlass 38 = .ok (.lload_n 1, 1) := by decide +kernel
theorem dX5_findWrongGlass_39 : decode cX5_findWrongGlass 39 = .ok (.lsub, 1) := by decide +kernel
theorem dX5_findWrongGlass_40 : decode cX5_findWrongGlass 40 = .ok (.lstore 7, 2) := by decide +kernel
theorem dX5_findWrongGlass_42 : decode cX5_findWrongGlass 42 = .ok (.aload_n 0, 1) := by decide +kernel
theorem dX5_findWrongGlass_43 : decode cX5_findWrongGlass 43 = .ok (.getfield 33, 3) := by decide +kernel
theorem dX5_findWrongGlass_46 : decode cX5_findWrongGlass 46 = .ok (.iconst 1, 1) := by decide +kernel
theorem dX5_findWrongGlass_47 : decode cX5_findWrongGlass 47 = .ok (.aload_n 0, 1) := by decide +kernel
theorem dX5_findWrongGlass_48 : decode cX5_findWrongGlass 48 = .ok (.getfield 19, 3) := by decide +kernel
theorem dX5_findWrongGlass_51 : decode cX5_findWrongGlass 51 = .ok (.invokevirtual 186, 3) := by decide +kernel
theorem dX5_findWrongGlass_54 : decode cX5_findWrongGlass 54 = .ok (.lload_n 3, 1) := by decide +kernel
theorem dX5_findWrongGlass_55 : decode cX5_findWrongGlass 55 = .ok (.lsub, 1) := by decide +kernel
theorem dX5_findWrongGlass_56 : decode cX5_findWrongGlass 56 = .ok (.lstore 9, 2) := by decide +kernel
theorem dX5_findWrongGlass_58 : decode cX5_findWrongGlass 58 = .ok (.aload_n 0, 1) := by decide +kernel
theorem dX5_findWrongGlass_59 : decode cX5_findWrongGlass 59 = .ok (.getfield 33, 3) := by decide +kernel
theorem dX5_findWrongGlass_62 : decode cX5_findWrongGlass 62 = .ok (.iconst 2, 1) := by decide +kernel
theorem dX5_findWrongGlass_63 : decode cX5_findWrongGlass 63 = .ok (.aload_n 0, 1) := by decide +kernel
theorem dX5_findWrongGlass_64 : decode cX5_findWrongGlass 64 = .ok (.getfield 19, 3) := by decide +kernel
theorem dX5_findWrongGlass_67 : decode cX5_findWrongGlass 67 = .ok (.invokevirtual 186, 3) := by decide +kernel
theorem dX5_findWrongGlass_70 : decode cX5_findWrongGlass 70 = .ok (.lload 5, 2) := by decide +kernel
theorem dX5_findWrongGlass_72 : decode cX5_findWrongGlass 72 = .ok (.lsub, 1) := by decide +kernel
theorem dX5_findWrongGlass_73 : decode cX5_findWrongGlass 73 = .ok (.lstore 11, 2) := by decide +kernel
theorem dX5_findWrongGlass_75 : decode cX5_findWrongGlass 75 = .ok (.ldc2_w 139, 3) := by decide +kernel
theorem dX5_findWrongGlass_78 : decode cX5_findWrongGlass 78 = .ok (.lstore 13, 2) := by decide +kernel
theorem dX5_findWrongGlass_80 : decode cX5_findWrongGlass 80 = .ok (.lconst 0, 1) := by decide +kernel
theorem dX5_findWrongGlass_81 : decode cX5_findWrongGlass 81 = .ok (.lstore 15, 2) := by decide +kernel
theorem dX5_findWrongGlass_83 : decode cX5_findWrongGlass 83 = .ok (.iconst 0, 1) := by decide +kernel
theorem dX5_findWrongGlass_84 : decode cX5_findWrongGlass 84 = .ok (.istore 17, 2) := by decide +kernel
theorem dX5_findWrongGlass_86 : decode cX5_findWrongGlass 86 = .ok (.iload 17, 2) := by decide +kernel
theorem dX5_findWrongGlass_88 : decode cX5_findWrongGlass 88 = .ok (.aload_n 0, 1) := by decide +kernel
theorem dX5_findWrongGlass_89 : decode cX5_findWrongGlass 89 = .ok (.getfield 33, 3) := by decide +kernel
theorem dX5_findWrongGlass_92 : decode cX5_findWrongGlass 92 = .ok (.getfield 178, 3) := by decide +kernel
theorem dX5_findWrongGlass_95 : decode cX5_findWrongGlass 95 = .ok (.if_icmp .ge 104, 3) := by decide +kernel
theorem dX5_findWrongGlass_98 : decode cX5_findWrongGlass 98 = .ok (.iconst 0, 1) := by decide +kernel
theorem dX5_findWrongGlass_99 : decode cX5_findWrongGlass 99 = .ok (.istore 18, 2) := by decide +kernel
theorem dX5_findWrongGlass_101 : decode cX5_findWrongGlass 101 = .ok (.iload 18, 2) := by decide +kernel
theorem dX5_findWrongGlass_103 : decode cX5_findWrongGlass 103 = .ok (.aload_n 0, 1) := by decide +kernel
theorem dX5_findWrongGlass_104 : decode cX5_findWrongGlass 104 = .ok (.getfield 19, 3) := by decide +kernel
theorem dX5_findWrongGlass_107 : decode cX5_findWrongGlass 107 = .ok (.getfield 77, 3) := by decide +kernel
theorem dX5_findWrongGlass_110 : decode cX5_findWrongGlass 110 = .ok (.if_icmp .ge 83, 3) := by decide +kernel
theorem dX5_findWrongGlass_113 : decode cX5_findWrongGlass 113 = .ok (.aload_n 0, 1) := by decide +kernel
theorem dX5_findWrongGlass_114 : decode cX5_findWrongGlass 114 = .ok (.iload 17, 2) := by decide +kernel
theorem dX5_findWrongGlass_116 : decode cX5_findWrongGlass 116 = .ok (.iload 18, 2) := by decide +kernel
theorem dX5_findWrongGlass_118 : decode cX5_findWrongGlass 118 = .ok (.lload 7, 2) := by decide +kernel
theorem dX5_findWrongGlass_120 : decode cX5_findWrongGlass 120 = .ok (.lload 9, 2) := by decide +kernel
theorem dX5_findWrongGlass_122 : decode cX5_findWrongGlass 122 = .ok (.lload 11, 2) := by decide +kernel
theorem dX5_findWrongGlass_124 : decode cX5_findWrongGlass 124 = .ok (.invokevirtual 193, 3) := by decide +kernel
theorem dX5_findWrongGlass_127 : decode cX5_findWrongGlass 127 = .ok (.lstore 19, 2) := by decide +kernel
theorem dX5_findWrongGlass_129 : decode cX5_findWrongGlass 129 = .ok (.iload 18, 2) := by decide +kernel
theorem dX5_findWrongGlass_131 : decode cX5_findWrongGlass 131 = .ok (.aload_n 0, 1) := by decide +kernel
theorem dX5_findWrongGlass_132 : decode cX5_findWrongGlass 132 = .ok (.getfield 33, 3) := by decide +kernel
theorem dX5_findWrongGlass_135 : decode cX5_findWrongGlass 135 = .ok (.iload 17, 2) := by decide +kernel
theorem dX5_findWrongGlass_137 : decode cX5_findWrongGlass 137 = .ok (.invokevirtual 197, 3) := by decide +kernel
theorem dX5_findWrongGlass_140 : decode cX5_findWrongGlass 140 = .ok (.if_icmp .eq 7, 3) := by decide +kernel
theorem dX5_findWrongGlass_143 : decode cX5_findWrongGlass 143 = .ok (.iconst 1, 1) := by decide +kernel
theorem dX5_findWrongGlass_144 : decode cX5_findWrongGlass 144 = .ok (.goto 4, 3) := by decide +kernel
theorem dX5_findWrongGlass_147 : decode cX5_findWrongGlass 147 = .ok (.iconst 0, 1) := by decide +kernel
theorem dX5_findWrongGlass_148 : decode cX5_findWrongGlass 148 = .ok (.istore 21, 2) := by decide +kernel
theorem dX5_findWrongGlass_150 : decode cX5_findWrongGlass 150 = .ok (.iload 21, 2) := by decide +kernel
theorem dX5_findWrongGlass_152 : decode cX5_findWrongGlass 152 = .ok (.ifCond .eq 35, 3) := by decide +kernel
theorem dX5_findWrongGlass_155 : decode cX5_findWrongGlass 155 = .ok (.lload 13, 2) := by decide +kernel
theorem dX5_findWrongGlass_157 : decode cX5_findWrongGlass 157 = .ok (.ldc2_w 139, 3) := by decide +kernel
theorem dX5_findWrongGlass_160 : decode cX5_findWrongGlass 160 = .ok (.lcmp, 1) := by decide +kernel
theorem dX5_findWrongGlass_161 : decode cX5_findWrongGlass 161 = .ok (.ifCond .eq 11, 3) := by decide +kernel
theorem dX5_findWrongGlass_164 : decode cX5_findWrongGlass 164 = .ok (.lload 19, 2) := by decide +kernel
theorem dX5_findWrongGlass_166 : decode cX5_findWrongGlass 166 = .ok (.lload 15, 2) := by decide +kernel
theorem dX5_findWrongGlass_168 : decode cX5_findWrongGlass 168 = .ok (.lcmp, 1) := by decide +kernel
theorem dX5_findWrongGlass_169 : decode cX5_findWrongGlass 169 = .ok (.ifCond .ge 18, 3) := by decide +kernel
theorem dX5_findWrongGlass_172 : decode cX5_findWrongGlass 172 = .ok (.bipush 100, 2) := by decide +kernel
theorem dX5_findWrongGlass_174 : decode cX5_findWrongGlass 174 = .ok (.iload 17, 2) := by decide +kernel
theorem dX5_findWrongGlass_176 : decode cX5_findWrongGlass 176 = .ok (.imul, 1) := by decide +kernel
theorem dX5_findWrongGlass_177 : decode cX5_findWrongGlass 177 = .ok (.iload 18, 2) := by decide +kernel
theorem dX5_findWrongGlass_179 : decode cX5_findWrongGlass 179 = .ok (.iadd, 1) := by decide +kernel
theorem dX5_findWrongGlass_180 : decode cX5_findWrongGlass 180 = .ok (.i2l, 1) := by decide +kernel
theorem dX5_findWrongGlass_181 : decode cX5_findWrongGlass 181 = .ok (.lstore 13, 2) := by decide +kernel
theorem dX5_findWrongGlass_183 : decode cX5_findWrongGlass 183 = .ok (.lload 19, 2) := by decide +kernel
theorem dX5_findWrongGlass_185 : decode cX5_findWrongGlass 185 = .ok (.lstore 15, 2) := by decide +kernel
theorem dX5_findWrongGlass_187 : decode cX5_findWrongGlass 187 = .ok (.iinc 18 1, 3) := by decide +kernel
theorem dX5_findWrongGlass_190 : decode cX5_findWrongGlass 190 = .ok (.goto (-89), 3) := by decide +kernel
theorem dX5_findWrongGlass_193 : decode cX5_findWrongGlass 193 = .ok (.iinc 17 1, 3) := by decide +kernel
theorem dX5_findWrongGlass_196 : decode cX5_findWrongGlass 196 = .ok (.goto (-110), 3) := by decide +kernel
theorem dX5_findWrongGlass_199 : decode cX5_findWrongGlass 199 = .ok (.lload 13, 2) := by decide +kernel
theorem dX5_findWrongGlass_201 : decode cX5_findWrongGlass 201 = .ok (.lreturn, 1) := by decide +kernel
set_option maxRecDepth 20000 in
theorem ggX5_addPlate_X4_hasRadius : GoodIn wsX5_addPlate wsX4_hasRadius := goodIn_r _ [10, 11, 12, 22, 23] (by decide +kernel) (by decide +kernel)
set_option maxRecDepth 20000 in
theorem gX5_addPlate_X4_hasRadius : GoodIn wsX5_addPlate (wsV RX5 201 RX4 yX4_hasRadius wsX4_hasRadius) := goodIn_app (goodIn_of _ (by decide +kernel)) ggX5_addPlate_X4_hasRadius
set_option maxRecDepth 20000 in
theorem ggX5_addPlate_X4_add : GoodIn wsX5_addPlate wsX4_add := goodIn_r _ [16, 11, 12, 22, 23] (by decide +kernel) (by decide +kernel)
set_option maxRecDepth 20000 in
theorem gX5_addPlate_X4_add : GoodIn wsX5_addPlate (wsV RX5 205 RX4 yX4_add wsX4_add) := goodIn_app (goodIn_of _ (by decide +kernel)) ggX5_addPlate_X4_add
theorem dX5_addPlate_0 : decode cX5_addPlate 0 = .ok (.iload_n 1, 1) := by decide +kernel
theorem dX5_addPlate_1 : decode cX5_addPlate 1 = .ok (.sipush 1000, 3) := by decide +kernel
theorem dX5_addPlate_4 : decode cX5_addPlate 4 = .ok (.if_icmp .lt 9, 3) := by decide +kernel
theorem dX5_addPlate_7 : decode cX5_addPlate 7 = .ok (.iload_n 1, 1) := by decide +kernel
theorem dX5_addPlate_8 : decode cX5_addPlate 8 = .ok (.ldc 200, 2) := by decide +kernel
theorem dX5_addPlate_10 : decode cX5_addPlate 10 = .ok (.if_icmp .le 7, 3) := by decide +kernel
theorem dX5_addPlate_13 : decode cX5_addPlate 13 = .ok (.ldc2_w 44, 3) := by decide +kernel
theorem dX5_addPlate_16 : decode cX5_addPlate 16 = .ok (.lreturn, 1) := by decide +kernel
theorem dX5_addPlate_17 : decode cX5_addPlate 17 = .ok (.aload_n 0, 1) := by decide +kernel
theorem dX5_addPlate_18 : decode cX5_addPlate 18 = .ok (.getfield 40, 3) := by decide +kernel
theorem dX5_addPlate_21 : decode cX5_addPlate 21 = .ok (.iload_n 1, 1) := by decide +kernel
theorem dX5_addPlate_22 : decode cX5_addPlate 22 = .ok (.invokevirtual 201, 3) := by decide +kernel
theorem dX5_addPlate_25 : decode cX5_addPlate 25 = .ok (.ifCond .eq 7, 3) := by decide +kernel
theorem dX5_addPlate_28 : decode cX5_addPlate 28 = .ok (.ldc2_w 88, 3) := by decide +kernel
theorem dX5_addPlate_31 : decode cX5_addPlate 31 = .ok (.lreturn, 1) := by decide +kernel
theorem dX5_addPlate_32 : decode cX5_addPlate 32 = .ok (.aload_n 0, 1) := by decide +kernel
theorem dX5_addPlate_33 : decode cX5_addPlate 33 = .ok (.getfield 40, 3) := by decide +kernel
theorem dX5_addPlate_36 : decode cX5_addPlate 36 = .ok (.getfield 204, 3) := by decide +kernel
theorem dX5_addPlate_39 : decode cX5_addPlate 39 = .ok (.bipush 16, 2) := by decide +kernel
theorem dX5_addPlate_41 : decode cX5_addPlate 41 = .ok (.if_icmp .ne 7, 3) := by decide +kernel
theorem dX5_addPlate_44 : decode cX5_addPlate 44 = .ok (.ldc2_w 50, 3) := by decide +kernel
theorem dX5_addPlate_47 : decode cX5_addPlate 47 = .ok (.lreturn, 1) := by decide +kernel
theorem dX5_addPlate_48 : decode cX5_addPlate 48 = .ok (.aload_n 0, 1) := by decide +kernel
theorem dX5_addPlate_49 : decode cX5_addPlate 49 = .ok (.getfield 40, 3) := by decide +kernel
theorem dX5_addPlate_52 : decode cX5_addPlate 52 = .ok (.iload_n 1, 1) := by decide +kernel
theorem dX5_addPlate_53 : decode cX5_addPlate 53 = .ok (.invokevirtual 205, 3) := by decide +kernel
theorem dX5_addPlate_56 : decode cX5_addPlate 56 = .ok (.aload_n 0, 1) := by decide +kernel
theorem dX5_addPlate_57 : decode cX5_addPlate 57 = .ok (.getfield 40, 3) := by decide +kernel
theorem dX5_addPlate_60 : decode cX5_addPlate 60 = .ok (.getfield 204, 3) := by decide +kernel
theorem dX5_addPlate_63 : decode cX5_addPlate 63 = .ok (.iconst 1, 1) := by decide +kernel
theorem dX5_addPlate_64 : decode cX5_addPlate 64 = .ok (.isub, 1) := by decide +kernel
theorem dX5_addPlate_65 : decode cX5_addPlate 65 = .ok (.i2l, 1) := by decide +kernel
theorem dX5_addPlate_66 : decode cX5_addPlate 66 = .ok (.lreturn, 1) := by decide +kernel
theorem dX5_plateCount_0 : decode cX5_plateCount 0 = .ok (.aload_n 0, 1) := by decide +kernel
theorem dX5_plateCount_1 : decode cX5_plateCount 1 = .ok (.getfield 40, 3) := by decide +kernel
theorem dX5_plateCount_4 : decode cX5_plateCount 4 = .ok (.getfield 204, 3) := by decide +kernel
theorem dX5_plateCount_7 : decode cX5_plateCount 7 = .ok (.i2l, 1) := by decide +kernel
theorem dX5_plateCount_8 : decode cX5_plateCount 8 = .ok (.lreturn, 1) := by decide +kernel
set_option maxRecDepth 20000 in
theorem ggX5_nearestPlate_X4_nearestTo : GoodIn wsX5_nearestPlate wsX4_nearestTo := goodIn_r _ [7, 8, 9, 10, 11, 12, 13, 19, 20] (by decide +kernel) (by decide +kernel)
set_option maxRecDepth 20000 in
theorem gX5_nearestPlate_X4_nearestTo : GoodIn wsX5_nearestPlate (wsV RX5 206 RX4 yX4_nearestTo wsX4_nearestTo) := goodIn_app (goodIn_of _ (by decide +kernel)) ggX5_nearestPlate_X4_nearestTo
theorem dX5_nearestPlate_0 : decode cX5_nearestPlate 0 = .ok (.aload_n 0, 1) := by decide +kernel
theorem dX5_nearestPlate_1 : decode cX5_nearestPlate 1 = .ok (.getfield 40, 3) := by decide +kernel
theorem dX5_nearestPlate_4 : decode cX5_nearestPlate 4 = .ok (.iload_n 1, 1) := by decide +kernel
theorem dX5_nearestPlate_5 : decode cX5_nearestPlate 5 = .ok (.invokevirtual 206, 3) := by decide +kernel
theorem dX5_nearestPlate_8 : decode cX5_nearestPlate 8 = .ok (.istore_n 2, 1) := by decide +kernel
theorem dX5_nearestPlate_9 : decode cX5_nearestPlate 9 = .ok (.iload_n 2, 1) := by decide +kernel
theorem dX5_nearestPlate_10 : decode cX5_nearestPlate 10 = .ok (.ifCond .ge 9, 3) := by decide +kernel
theorem dX5_nearestPlate_13 : decode cX5_nearestPlate 13 = .ok (.ldc2_w 139, 3) := by decide +kernel
theorem dX5_nearestPlate_16 : decode cX5_nearestPlate 16 = .ok (.goto 5, 3) := by decide +kernel
theorem dX5_nearestPlate_19 : decode cX5_nearestPlate 19 = .ok (.iload_n 2, 1) := by decide +kernel
theorem dX5_nearestPlate_20 : decode cX5_nearestPlate 20 = .ok (.i2l, 1) := by decide +kernel
theorem dX5_nearestPlate_21 : decode cX5_nearestPlate 21 = .ok (.lreturn, 1) := by decide +kernel
set_option maxRecDepth 20000 in
theorem ggX5_bestSurfaces_X3_has : GoodIn wsX5_bestSurfaces wsX3_has := goodIn_r _ [15, 16, 60, 61, 62] (by decide +kernel) (by decide +kernel)
set_option maxRecDepth 20000 in
theorem gX5_bestSurfaces_X3_has : GoodIn wsX5_bestSurfaces (wsV RX5 182 RX3 yX3_has wsX3_has) := goodIn_app (goodIn_of _ (by decide +kernel)) ggX5_bestSurfaces_X3_has
set_option maxRecDepth 20000 in
theorem ggX5_bestSurfaces_X3_glassOf : GoodIn wsX5_bestSurfaces wsX3_glassOf := goodIn_r _ [20, 21, 60, 61, 62] (by decide +kernel) (by decide +kernel)
set_option maxRecDepth 20000 in
theorem gX5_bestSurfaces_X3_glassOf : GoodIn wsX5_bestSurfaces (wsV RX5 197 RX3 yX3_glassOf wsX3_glassOf) := goodIn_app (goodIn_of _ (by decide +kernel)) ggX5_bestSurfaces_X3_glassOf
set_option maxRecDepth 20000 in
theorem ggX5_bestSurfaces_X0_valueA : GoodIn wsX5_bestSurfaces wsX0_valueA := goodIn_r _ [26, 27, 28, 63, 64, 65, 66, 67] (by decide +kernel) (by decide +kernel)
set_option maxRecDepth 20000 in
theorem gX5_bestSurfaces_X0_valueA : GoodIn wsX5_bestSurfaces (wsV RX5 147 RX0 yX0_valueA wsX0_valueA) := goodIn_app (goodIn_of _ (by decide +kernel)) ggX5_bestSurfaces_X0_valueA
set_option maxRecDepth 20000 in
theorem ggX5_bestSurfaces_X3_powerOf : GoodIn wsX5_bestSurfaces wsX3_powerOf := goodIn_r _ [32, 33, 60, 61, 62] (by decide +kernel) (by decide +kernel)
set_option maxRecDepth 20000 in
theorem gX5_bestSurfaces_X3_powerOf : GoodIn wsX5_bestSurfaces (wsV RX5 209 RX3 yX3_powerOf wsX3_powerOf) := goodIn_app (goodIn_of _ (by decide +kernel)) ggX5_bestSurfaces_X3_powerOf
set_option maxRecDepth 20000 in
theorem ggX5_bestSurfaces_X5_powerBetween : GoodIn wsX5_bestSurfaces wsX5_powerBetween := goodIn_r _ [38, 5, 39, 40, 41, 42, 43, 44, 45, 46, 47, 37, 48, 49, 50, 51, 52, 53, 54, 55, 56, 57, 58, 59] (by decide +kernel) (by decide +kernel)
set_option maxRecDepth 20000 in
theorem gX5_bestSurfaces_X5_powerBetween : GoodIn wsX5_bestSurfaces (wsV RX5 214 RX5 yX5_powerBetween wsX5_powerBetween) := goodIn_app (goodIn_of _ (by decide +kernel)) ggX5_bestSurfaces_X5_powerBetween
theorem dX5_bestSurfaces_0 : decode cX5_bestSurfaces 0 = .ok (.aload_n 0, 1) := by decide +kernel
theorem dX5_bestSurfaces_1 : decode cX5_bestSurfaces 1 = .ok (.getfield 33, 3) := by decide +kernel
theorem dX5_bestSurfaces_4 : decode cX5_bestSurfaces 4 = .ok (.iload_n 1, 1) := by decide +kernel
theorem dX5_bestSurfaces_5 : decode cX5_bestSurfaces 5 = .ok (.invokevirtual 182, 3) := by decide +kernel
theorem dX5_bestSurfaces_8 : decode cX5_bestSurfaces 8 = .ok (.ifCond .ne 7, 3) := by decide +kernel
theorem dX5_bestSurfaces_11 : decode cX5_bestSurfaces 11 = .ok (.ldc2_w 183, 3) := by decide +kernel
theorem dX5_bestSurfaces_14 : decode cX5_bestSurfaces 14 = .ok (.lreturn, 1) := by decide +kernel
theorem dX5_bestSurfaces_15 : decode cX5_bestSurfaces 15 = .ok (.aload_n 0, 1) := by decide +kernel
theorem dX5_bestSurfaces_16 : decode cX5_bestSurfaces 16 = .ok (.getfield 19, 3) := by decide +kernel
theorem dX5_bestSurfaces_19 : decode cX5_bestSurfaces 19 = .ok (.aload_n 0, 1) := by decide +kernel
theorem dX5_bestSurfaces_20 : decode cX5_bestSurfaces 20 = .ok (.getfield 33, 3) := by decide +kernel
theorem dX5_bestSurfaces_23 : decode cX5_bestSurfaces 23 = .ok (.iload_n 1, 1) := by decide +kernel
theorem dX5_bestSurfaces_24 : decode cX5_bestSurfaces 24 = .ok (.invokevirtual 197, 3) := by decide +kernel
theorem dX5_bestSurfaces_27 : decode cX5_bestSurfaces 27 = .ok (.invokevirtual 147, 3) := by decide +kernel
theorem dX5_bestSurfaces_30 : decode cX5_bestSurfaces 30 = .ok (.lstore_n 2, 1) := by decide +kernel
theorem dX5_bestSurfaces_31 : decode cX5_bestSurfaces 31 = .ok (.aload_n 0, 1) := by decide +kernel
theorem dX5_bestSurfaces_32 : decode cX5_bestSurfaces 32 = .ok (.getfield 33, 3) := by decide +kernel
theorem dX5_bestSurfaces_35 : decode cX5_bestSurfaces 35 = .ok (.iload_n 1, 1) := by decide +kernel
theorem dX5_bestSurfaces_36 : decode cX5_bestSurfaces 36 = .ok (.invokevirtual 209, 3) := by decide +kernel
theorem dX5_bestSurfaces_39 : decode cX5_bestSurfaces 39 = .ok (.i2l, 1) := by decide +kernel
theorem dX5_bestSurfaces_40 : decode cX5_bestSurfaces 40 = .ok (.lstore 4, 2) := by decide +kernel
theorem dX5_bestSurfaces_42 : decode cX5_bestSurfaces 42 = .ok (.ldc2_w 139, 3) := by decide +kernel
theorem dX5_bestSurfaces_45 : decode cX5_bestSurfaces 45 = .ok (.lstore 6, 2) := by decide +kernel
theorem dX5_bestSurfaces_47 : decode cX5_bestSurfaces 47 = .ok (.lconst 0, 1) := by decide +kernel
theorem dX5_bestSurfaces_48 : decode cX5_bestSurfaces 48 = .ok (.lstore 8, 2) := by decide +kernel
theorem dX5_bestSurfaces_50 : decode cX5_bestSurfaces 50 = .ok (.iconst 0, 1) := by decide +kernel
theorem dX5_bestSurfaces_51 : decode cX5_bestSurfaces 51 = .ok (.istore 10, 2) := by decide +kernel
theorem dX5_bestSurfaces_53 : decode cX5_bestSurfaces 53 = .ok (.iload 10, 2) := by decide +kernel
theorem dX5_bestSurfaces_55 : decode cX5_bestSurfaces 55 = .ok (.iconst 2, 1) := by decide +kernel
theorem dX5_bestSurfaces_56 : decode cX5_bestSurfaces 56 = .ok (.aload_n 0, 1) := by decide +kernel
theorem dX5_bestSurfaces_57 : decode cX5_bestSurfaces 57 = .ok (.getfield 40, 3) := by decide +kernel
theorem dX5_bestSurfaces_60 : decode cX5_bestSurfaces 60 = .ok (.getfield 204, 3) := by decide +kernel
theorem dX5_bestSurfaces_63 : decode cX5_bestSurfaces 63 = .ok (.imul, 1) := by decide +kernel
theorem dX5_bestSurfaces_64 : decode cX5_bestSurfaces 64 = .ok (.if_icmp .ge 121, 3) := by decide +kernel
theorem dX5_bestSurfaces_67 : decode cX5_bestSurfaces 67 = .ok (.iconst 0, 1) := by decide +kernel
theorem dX5_bestSurfaces_68 : decode cX5_bestSurfaces 68 = .ok (.istore 11, 2) := by decide +kernel
theorem dX5_bestSurfaces_70 : decode cX5_bestSurfaces 70 = .ok (.iload 11, 2) := by decide +kernel
theorem dX5_bestSurfaces_72 : decode cX5_bestSurfaces 72 = .ok (.iconst 2, 1) := by decide +kernel
theorem dX5_bestSurfaces_73 : decode cX5_bestSurfaces 73 = .ok (.aload_n 0, 1) := by decide +kernel
theorem dX5_bestSurfaces_74 : decode cX5_bestSurfaces 74 = .ok (.getfield 40, 3) := by decide +kernel
theorem dX5_bestSurfaces_77 : decode cX5_bestSurfaces 77 = .ok (.getfield 204, 3) := by decide +kernel
theorem dX5_bestSurfaces_80 : decode cX5_bestSurfaces 80 = .ok (.imul, 1) := by decide +kernel
theorem dX5_bestSurfaces_81 : decode cX5_bestSurfaces 81 = .ok (.if_icmp .ge 98, 3) := by decide +kernel
theorem dX5_bestSurfaces_84 : decode cX5_bestSurfaces 84 = .ok (.iload 10, 2) := by decide +kernel
theorem dX5_bestSurfaces_86 : decode cX5_bestSurfaces 86 = .ok (.iload 11, 2) := by decide +kernel
theorem dX5_bestSurfaces_88 : decode cX5_bestSurfaces 88 = .ok (.if_icmp .ne 9, 3) := by decide +kernel
theorem dX5_bestSurfaces_91 : decode cX5_bestSurfaces 91 = .ok (.ldc2_w 212, 3) := by decide +kernel
theorem dX5_bestSurfaces_94 : decode cX5_bestSurfaces 94 = .ok (.goto 18, 3) := by decide +kernel
theorem dX5_bestSurfaces_97 : decode cX5_bestSurfaces 97 = .ok (.aload_n 0, 1) := by decide +kernel
theorem dX5_bestSurfaces_98 : decode cX5_bestSurfaces 98 = .ok (.lload_n 2, 1) := by decide +kernel
theorem dX5_bestSurfaces_99 : decode cX5_bestSurfaces 99 = .ok (.iload 10, 2) := by decide +kernel
theorem dX5_bestSurfaces_101 : decode cX5_bestSurfaces 101 = .ok (.iload 11, 2) := by decide +kernel
theorem dX5_bestSurfaces_103 : decode cX5_bestSurfaces 103 = .ok (.invokevirtual 214, 3) := by decide +kernel
theorem dX5_bestSurfaces_106 : decode cX5_bestSurfaces 106 = .ok (.lload 4, 2) := by decide +kernel
theorem dX5_bestSurfaces_108 : decode cX5_bestSurfaces 108 = .ok (.lsub, 1) := by decide +kernel
theorem dX5_bestSurfaces_109 : decode cX5_bestSurfaces 109 = .ok (.invokestatic 218, 3) := by decide +kernel
theorem dX5_bestSurfaces_112 : decode cX5_bestSurfaces 112 = .ok (.lstore 12, 2) := by decide +kernel
theorem dX5_bestSurfaces_114 : decode cX5_bestSurfaces 114 = .ok (.lload 12, 2) := by decide +kernel
theorem dX5_bestSurfaces_116 : decode cX5_bestSurfaces 116 = .ok (.lconst 0, 1) := by decide +kernel
theorem dX5_bestSurfaces_117 : decode cX5_bestSurfaces 117 = .ok (.lcmp, 1) := by decide +kernel
theorem dX5_bestSurfaces_118 : decode cX5_bestSurfaces 118 = .ok (.ifCond .lt 55, 3) := by decide +kernel
theorem dX5_bestSurfaces_121 : decode cX5_bestSurfaces 121 = .ok (.lload 6, 2) := by decide +kernel
theorem dX5_bestSurfaces_123 : decode cX5_bestSurfaces 123 = .ok (.ldc2_w 139, 3) := by decide +kernel
theorem dX5_bestSurfaces_126 : decode cX5_bestSurfaces 126 = .ok (.lcmp, 1) := by decide +kernel
theorem dX5_bestSurfaces_127 : decode cX5_bestSurfaces 127 = .ok (.ifCond .eq 11, 3) := by decide +kernel
theorem dX5_bestSurfaces_130 : decode cX5_bestSurfaces 130 = .ok (.lload 12, 2) := by decide +kernel
theorem dX5_bestSurfaces_132 : decode cX5_bestSurfaces 132 = .ok (.lload 8, 2) := by decide +kernel
theorem dX5_bestSurfaces_134 : decode cX5_bestSurfaces 134 = .ok (.lcmp, 1) := by decide +kernel
theorem dX5_bestSurfaces_135 : decode cX5_bestSurfaces 135 = .ok (.ifCond .ge 38, 3) := by decide +kernel
theorem dX5_bestSurfaces_138 : decode cX5_bestSurfaces 138 = .ok (.sipush 1000, 3) := by decide +kernel
theorem dX5_bestSurfaces_141 : decode cX5_bestSurfaces 141 = .ok (.iload 10, 2) := by decide +kernel
theorem dX5_bestSurfaces_143 : decode cX5_bestSurfaces 143 = .ok (.iconst 2, 1) := by decide +kernel
theorem dX5_bestSurfaces_144 : decode cX5_bestSurfaces 144 = .ok (.idiv, 1) := by decide +kernel
theorem dX5_bestSurfaces_145 : decode cX5_bestSurfaces 145 = .ok (.imul, 1) := by decide +kernel
theorem dX5_bestSurfaces_146 : decode cX5_bestSurfaces 146 = .ok (.bipush 10, 2) := by decide +kernel
theorem dX5_bestSurfaces_148 : decode cX5_bestSurfaces 148 = .ok (.iload 11, 2) := by decide +kernel
theorem dX5_bestSurfaces_150 : decode cX5_bestSurfaces 150 = .ok (.iconst 2, 1) := by decide +kernel
theorem dX5_bestSurfaces_151 : decode cX5_bestSurfaces 151 = .ok (.idiv, 1) := by decide +kernel
theorem dX5_bestSurfaces_152 : decode cX5_bestSurfaces 152 = .ok (.imul, 1) := by decide +kernel
theorem dX5_bestSurfaces_153 : decode cX5_bestSurfaces 153 = .ok (.iadd, 1) := by decide +kernel
theorem dX5_bestSurfaces_154 : decode cX5_bestSurfaces 154 = .ok (.iconst 2, 1) := by decide +kernel
theorem dX5_bestSurfaces_155 : decode cX5_bestSurfaces 155 = .ok (.iload 10, 2) := by decide +kernel
theorem dX5_bestSurfaces_157 : decode cX5_bestSurfaces 157 = .ok (.iconst 2, 1) := by decide +kernel
theorem dX5_bestSurfaces_158 : decode cX5_bestSurfaces 158 = .ok (.irem, 1) := by decide +kernel
theorem dX5_bestSurfaces_159 : decode cX5_bestSurfaces 159 = .ok (.imul, 1) := by decide +kernel
theorem dX5_bestSurfaces_160 : decode cX5_bestSurfaces 160 = .ok (.iadd, 1) := by decide +kernel
theorem dX5_bestSurfaces_161 : decode cX5_bestSurfaces 161 = .ok (.iload 11, 2) := by decide +kernel
theorem dX5_bestSurfaces_163 : decode cX5_bestSurfaces 163 = .ok (.iconst 2, 1) := by decide +kernel
theorem dX5_bestSurfaces_164 : decode cX5_bestSurfaces 164 = .ok (.irem, 1) := by decide +kernel
theorem dX5_bestSurfaces_165 : decode cX5_bestSurfaces 165 = .ok (.iadd, 1) := by decide +kernel
theorem dX5_bestSurfaces_166 : decode cX5_bestSurfaces 166 = .ok (.i2l, 1) := by decide +kernel
theorem dX5_bestSurfaces_167 : decode cX5_bestSurfaces 167 = .ok (.lstore 6, 2) := by decide +kernel
theorem dX5_bestSurfaces_169 : decode cX5_bestSurfaces 169 = .ok (.lload 12, 2) := by decide +kernel
theorem dX5_bestSurfaces_171 : decode cX5_bestSurfaces 171 = .ok (.lstore 8, 2) := by decide +kernel
theorem dX5_bestSurfaces_173 : decode cX5_bestSurfaces 173 = .ok (.iinc 11 1, 3) := by decide +kernel
theorem dX5_bestSurfaces_176 : decode cX5_bestSurfaces 176 = .ok (.goto (-106), 3) := by decide +kernel
theorem dX5_bestSurfaces_179 : decode cX5_bestSurfaces 179 = .ok (.iinc 10 1, 3) := by decide +kernel
theorem dX5_bestSurfaces_182 : decode cX5_bestSurfaces 182 = .ok (.goto (-129), 3) := by decide +kernel
theorem dX5_bestSurfaces_185 : decode cX5_bestSurfaces 185 = .ok (.lload 6, 2) := by decide +kernel
theorem dX5_bestSurfaces_187 : decode cX5_bestSurfaces 187 = .ok (.lreturn, 1) := by decide +kernel
set_option maxRecDepth 20000 in
theorem ggX5_surfacePower_X0_has : GoodIn wsX5_surfacePower wsX0_has := goodIn_r _ [9, 10, 46, 47, 48, 49, 50] (by decide +kernel) (by decide +kernel)
set_option maxRecDepth 20000 in
theorem gX5_surfacePower_X0_has : GoodIn wsX5_surfacePower (wsV RX5 93 RX0 yX0_has wsX0_has) := goodIn_app (goodIn_of _ (by decide +kernel)) ggX5_surfacePower_X0_has
set_option maxRecDepth 20000 in
theorem ggX5_surfacePower_X4_has : GoodIn wsX5_surfacePower wsX4_has := goodIn_r _ [15, 16, 51, 52] (by decide +kernel) (by decide +kernel)
set_option maxRecDepth 20000 in
theorem gX5_surfacePower_X4_has : GoodIn wsX5_surfacePower (wsV RX5 224 RX4 yX4_has wsX4_has) := goodIn_app (goodIn_of _ (by decide +kernel)) ggX5_surfacePower_X4_has
set_option maxRecDepth 20000 in
theorem ggX5_surfacePower_X0_valueA : GoodIn wsX5_surfacePower wsX0_valueA := goodIn_r _ [20, 21, 22, 46, 47, 48, 49, 50] (by decide +kernel) (by decide +kernel)
set_option maxRecDepth 20000 in
theorem gX5_surfacePower_X0_valueA : GoodIn wsX5_surfacePower (wsV RX5 147 RX0 yX0_valueA wsX0_valueA) := goodIn_app (goodIn_of _ (by decide +kernel)) ggX5_surfacePower_X0_valueA
set_option maxRecDepth 20000 in
theorem ggX5_surfacePower_X5_powerBetween : GoodIn wsX5_surfacePower wsX5_powerBetween := goodIn_r _ [27, 4, 28, 29, 30, 31, 14, 32, 33, 34, 35, 26, 36, 37, 38, 39, 40, 41, 42, 43, 44, 45, 51, 52] (by decide +kernel) (by decide +kernel)
set_option maxRecDepth 20000 in
theorem gX5_surfacePower_X5_powerBetween : GoodIn wsX5_surfacePower (wsV RX5 214 RX5 yX5_powerBetween wsX5_powerBetween) := goodIn_app (goodIn_of _ (by decide +kernel)) ggX5_surfacePower_X5_powerBetween
theorem dX5_surfacePower_0 : decode cX5_surfacePower 0 = .ok (.aload_n 0, 1) := by decide +kernel
theorem dX5_surfacePower_1 : decode cX5_surfacePower 1 = .ok (.getfield 19, 3) := by decide +kernel
theorem dX5_surfacePower_4 : decode cX5_surfacePower 4 = .ok (.iload_n 1, 1) := by decide +kernel
theorem dX5_surfacePower_5 : decode cX5_surfacePower 5 = .ok (.invokevirtual 93, 3) := by decide +kernel
theorem dX5_surfacePower_8 : decode cX5_surfacePower 8 = .ok (.ifCond .ne 7, 3) := by decide +kernel
theorem dX5_surfacePower_11 : decode cX5_surfacePower 11 = .ok (.ldc2_w 97, 3) := by decide +kernel
theorem dX5_surfacePower_14 : decode cX5_surfacePower 14 = .ok (.lreturn, 1) := by decide +kernel
theorem dX5_surfacePower_15 : decode cX5_surfacePower 15 = .ok (.iload_n 2, 1) := by decide +kernel
theorem dX5_surfacePower_16 : decode cX5_surfacePower 16 = .ok (.ifCond .lt 11, 3) := by decide +kernel
theorem dX5_surfacePower_19 : decode cX5_surfacePower 19 = .ok (.iload_n 2, 1) := by decide +kernel
theorem dX5_surfacePower_20 : decode cX5_surfacePower 20 = .ok (.bipush 10, 2) := by decide +kernel
theorem dX5_surfacePower_22 : decode cX5_surfacePower 22 = .ok (.irem, 1) := by decide +kernel
theorem dX5_surfacePower_23 : decode cX5_surfacePower 23 = .ok (.iconst 3, 1) := by decide +kernel
theorem dX5_surfacePower_24 : decode cX5_surfacePower 24 = .ok (.if_icmp .le 7, 3) := by decide +kernel
theorem dX5_surfacePower_27 : decode cX5_surfacePower 27 = .ok (.ldc2_w 44, 3) := by decide +kernel
theorem dX5_surfacePower_30 : decode cX5_surfacePower 30 = .ok (.lreturn, 1) := by decide +kernel
theorem dX5_surfacePower_31 : decode cX5_surfacePower 31 = .ok (.iload_n 2, 1) := by decide +kernel
theorem dX5_surfacePower_32 : decode cX5_surfacePower 32 = .ok (.sipush 1000, 3) := by decide +kernel
theorem dX5_surfacePower_35 : decode cX5_surfacePower 35 = .ok (.idiv, 1) := by decide +kernel
theorem dX5_surfacePower_36 : decode cX5_surfacePower 36 = .ok (.istore_n 3, 1) := by decide +kernel
theorem dX5_surfacePower_37 : decode cX5_surfacePower 37 = .ok (.iload_n 2, 1) := by decide +kernel
theorem dX5_surfacePower_38 : decode cX5_surfacePower 38 = .ok (.bipush 10, 2) := by decide +kernel
theorem dX5_surfacePower_40 : decode cX5_surfacePower 40 = .ok (.idiv, 1) := by decide +kernel
theorem dX5_surfacePower_41 : decode cX5_surfacePower 41 = .ok (.bipush 100, 2) := by decide +kernel
theorem dX5_surfacePower_43 : decode cX5_surfacePower 43 = .ok (.irem, 1) := by decide +kernel
theorem dX5_surfacePower_44 : decode cX5_surfacePower 44 = .ok (.istore 4, 2) := by decide +kernel
theorem dX5_surfacePower_46 : decode cX5_surfacePower 46 = .ok (.aload_n 0, 1) := by decide +kernel
theorem dX5_surfacePower_47 : decode cX5_surfacePower 47 = .ok (.getfield 40, 3) := by decide +kernel
theorem dX5_surfacePower_50 : decode cX5_surfacePower 50 = .ok (.iload_n 3, 1) := by decide +kernel
theorem dX5_surfacePower_51 : decode cX5_surfacePower 51 = .ok (.invokevirtual 224, 3) := by decide +kernel
theorem dX5_surfacePower_54 : decode cX5_surfacePower 54 = .ok (.ifCond .eq 15, 3) := by decide +kernel
theorem dX5_surfacePower_57 : decode cX5_surfacePower 57 = .ok (.aload_n 0, 1) := by decide +kernel
theorem dX5_surfacePower_58 : decode cX5_surfacePower 58 = .ok (.getfield 40, 3) := by decide +kernel
theorem dX5_surfacePower_61 : decode cX5_surfacePower 61 = .ok (.iload 4, 2) := by decide +kernel
theorem dX5_surfacePower_63 : decode cX5_surfacePower 63 = .ok (.invokevirtual 224, 3) := by decide +kernel
theorem dX5_surfacePower_66 : decode cX5_surfacePower 66 = .ok (.ifCond .ne 7, 3) := by decide +kernel
theorem dX5_surfacePower_69 : decode cX5_surfacePower 69 = .ok (.ldc2_w 44, 3) := by decide +kernel
theorem dX5_surfacePower_72 : decode cX5_surfacePower 72 = .ok (.lreturn, 1) := by decide +kernel
theorem dX5_surfacePower_73 : decode cX5_surfacePower 73 = .ok (.iconst 2, 1) := by decide +kernel
theorem dX5_surfacePower_74 : decode cX5_surfacePower 74 = .ok (.iload_n 3, 1) := by decide +kernel
theorem dX5_surfacePower_75 : decode cX5_surfacePower 75 = .ok (.imul, 1) := by decide +kernel
theorem dX5_surfacePower_76 : decode cX5_surfacePower 76 = .ok (.iload_n 2, 1) := by decide +kernel
theorem dX5_surfacePower_77 : decode cX5_surfacePower 77 = .ok (.bipush 10, 2) := by decide +kernel
theorem dX5_surfacePower_79 : decode cX5_surfacePower 79 = .ok (.irem, 1) := by decide +kernel
theorem dX5_surfacePower_80 : decode cX5_surfacePower 80 = .ok (.iconst 2, 1) := by decide +kernel
theorem dX5_surfacePower_81 : decode cX5_surfacePower 81 = .ok (.idiv, 1) := by decide +kernel
theorem dX5_surfacePower_82 : decode cX5_surfacePower 82 = .ok (.iadd, 1) := by decide +kernel
theorem dX5_surfacePower_83 : decode cX5_surfacePower 83 = .ok (.istore 5, 2) := by decide +kernel
theorem dX5_surfacePower_85 : decode cX5_surfacePower 85 = .ok (.iconst 2, 1) := by decide +kernel
theorem dX5_surfacePower_86 : decode cX5_surfacePower 86 = .ok (.iload 4, 2) := by decide +kernel
theorem dX5_surfacePower_88 : decode cX5_surfacePower 88 = .ok (.imul, 1) := by decide +kernel
theorem dX5_surfacePower_89 : decode cX5_surfacePower 89 = .ok (.iload_n 2, 1) := by decide +kernel
theorem dX5_surfacePower_90 : decode cX5_surfacePower 90 = .ok (.iconst 2, 1) := by decide +kernel
theorem dX5_surfacePower_91 : decode cX5_surfacePower 91 = .ok (.irem, 1) := by decide +kernel
theorem dX5_surfacePower_92 : decode cX5_surfacePower 92 = .ok (.iadd, 1) := by decide +kernel
theorem dX5_surfacePower_93 : decode cX5_surfacePower 93 = .ok (.istore 6, 2) := by decide +kernel
theorem dX5_surfacePower_95 : decode cX5_surfacePower 95 = .ok (.iload 5, 2) := by decide +kernel
theorem dX5_surfacePower_97 : decode cX5_surfacePower 97 = .ok (.iload 6, 2) := by decide +kernel
theorem dX5_surfacePower_99 : decode cX5_surfacePower 99 = .ok (.if_icmp .ne 9, 3) := by decide +kernel
theorem dX5_surfacePower_102 : decode cX5_surfacePower 102 = .ok (.ldc2_w 44, 3) := by decide +kernel
theorem dX5_surfacePower_105 : decode cX5_surfacePower 105 = .ok (.goto 19, 3) := by decide +kernel
theorem dX5_surfacePower_108 : decode cX5_surfacePower 108 = .ok (.aload_n 0, 1) := by decide +kernel
theorem dX5_surfacePower_109 : decode cX5_surfacePower 109 = .ok (.aload_n 0, 1) := by decide +kernel
theorem dX5_surfacePower_110 : decode cX5_surfacePower 110 = .ok (.getfield 19, 3) := by decide +kernel
theorem dX5_surfacePower_113 : decode cX5_surfacePower 113 = .ok (.iload_n 1, 1) := by decide +kernel
theorem dX5_surfacePower_114 : decode cX5_surfacePower 114 = .ok (.invokevirtual 147, 3) := by decide +kernel
theorem dX5_surfacePower_117 : decode cX5_surfacePower 117 = .ok (.iload 5, 2) := by decide +kernel
theorem dX5_surfacePower_119 : decode cX5_surfacePower 119 = .ok (.iload 6, 2) := by decide +kernel
theorem dX5_surfacePower_121 : decode cX5_surfacePower 121 = .ok (.invokevirtual 214, 3) := by decide +kernel
theorem dX5_surfacePower_124 : decode cX5_surfacePower 124 = .ok (.lreturn, 1) := by decide +kernel
set_option maxRecDepth 20000 in
theorem ggX5_digest_X5_withGlasses : GoodIn wsX5_digest wsX5_withGlasses := goodIn_r _ [6, 7, 8, 9, 5, 10, 11, 12, 13, 14, 15, 16, 17, 18, 19, 20, 21, 22, 23, 24, 25, 26, 27, 28, 29, 30, 31, 32, 33, 34, 35, 36, 37, 38, 39, 40, 41, 42, 43, 44, 45, 46, 47, 48, 49, 50, 51, 52, 53, 54, 55, 56, 57, 58, 59, 60, 61, 62, 63, 64, 65, 66, 67, 68, 69, 70, 71, 72, 73, 74, 75, 76, 77, 78, 79, 80, 81, 82, 83, 84, 85, 86, 87, 88, 89, 90, 91, 92, 93, 94, 95, 96, 97, 98, 99, 100, 257, 258, 259, 260, 261, 262, 263, 264, 265, 266, 267, 268, 269] (by decide +kernel) (by decide +kernel)
set_option maxRecDepth 20000 in
theorem gX5_digest_X5_withGlasses : GoodIn wsX5_digest (wsV RX5 227 RX5 yX5_withGlasses wsX5_withGlasses) := goodIn_app (goodIn_of _ (by decide +kernel)) ggX5_digest_X5_withGlasses
set_option maxRecDepth 20000 in
theorem ggX5_digest_X5_withDesigns : GoodIn wsX5_digest wsX5_withDesigns := goodIn_r _ [104, 105, 106, 107, 5, 108, 109, 7, 110, 111, 112, 113, 114, 115, 116, 117, 118, 21, 119, 52, 53, 54, 55, 32, 56, 57, 58, 59, 60, 31, 33, 120, 121, 122, 123, 124, 125, 126, 127, 128, 129, 130, 131, 132, 133, 134, 135, 136, 73, 74, 75, 137, 138, 8, 9, 10, 11, 139, 140, 141, 142, 143, 144, 145, 146, 147, 148, 149, 150, 151, 152, 153, 154, 155, 156, 157, 158, 159, 160, 161, 162, 163, 164, 165, 166, 167, 168, 169, 170, 171, 172, 173, 174, 175, 176, 177, 178, 179, 180, 181, 182, 183, 184, 185, 186, 77, 61, 62, 63, 64, 65, 66, 257, 258, 259, 260, 261, 270, 271, 272, 273, 274, 275, 262, 263, 264, 265, 266] (by decide +kernel) (by decide +kernel)
set_option maxRecDepth 20000 in
theorem gX5_digest_X5_withDesigns : GoodIn wsX5_digest (wsV RX5 230 RX5 yX5_withDesigns wsX5_withDesigns) := goodIn_app (goodIn_of _ (by decide +kernel)) ggX5_digest_X5_withDesigns
set_option maxRecDepth 20000 in
theorem ggX5_digest_X5_withLenses : GoodIn wsX5_digest wsX5_withLenses := goodIn_r _ [190, 82, 8, 9, 5, 10, 11, 191, 192, 193, 87, 194, 90, 195, 196, 197, 198, 96, 199, 200, 201, 202, 203, 7, 143, 204, 173, 186, 128, 129, 130, 205, 206, 207, 208, 89, 100, 53, 54, 21, 55, 32, 56, 209, 210, 211, 212, 213, 214, 215, 216, 217, 218, 219, 77, 61, 62, 63, 64, 65, 66, 220, 221, 222, 223, 17, 24, 25, 26, 84, 85, 86, 88, 91, 92, 93, 94, 95, 97, 98, 28, 29, 30, 31, 33, 99, 257, 258, 259, 260, 261, 267, 268, 269, 276, 277, 262, 263, 264, 265, 266] (by decide +kernel) (by decide +kernel)
set_option maxRecDepth 20000 in
theorem gX5_digest_X5_withLenses : GoodIn wsX5_digest (wsV RX5 233 RX5 yX5_withLenses wsX5_withLenses) := goodIn_app (goodIn_of _ (by decide +kernel)) ggX5_digest_X5_withLenses
set_option maxRecDepth 20000 in
theorem ggX5_digest_X5_withPlates : GoodIn wsX5_digest wsX5_withPlates := goodIn_r _ [227, 204, 8, 9, 5, 10, 11, 214, 215, 216, 217, 218, 219, 257, 258, 259, 260, 261, 276, 277] (by decide +kernel) (by decide +kernel)
set_option maxRecDepth 20000 in
theorem gX5_digest_X5_withPlates : GoodIn wsX5_digest (wsV RX5 236 RX5 yX5_withPlates wsX5_withPlates) := goodIn_app (goodIn_of _ (by decide +kernel)) ggX5_digest_X5_withPlates
set_option maxRecDepth 20000 in
theorem ggX5_digest_X5_systemPower : GoodIn wsX5_digest wsX5_systemPower := goodIn_r _ [223, 82, 7, 17, 24, 25, 5, 26, 84, 85, 86, 87, 88, 89, 90, 91, 92, 93, 94, 95, 96, 97, 98, 28, 29, 21, 30, 31, 32, 33, 99, 53, 54, 55, 56, 61, 62, 63, 64, 65, 66, 257, 258, 259, 260, 261, 267, 268, 269, 262, 263, 264, 265, 266] (by decide +kernel) (by decide +kernel)
set_option maxRecDepth 20000 in
theorem gX5_digest_X5_systemPower : GoodIn wsX5_digest (wsV RX5 239 RX5 yX5_systemPower wsX5_systemPower) := goodIn_app (goodIn_of _ (by decide +kernel)) ggX5_digest_X5_systemPower
set_option maxRecDepth 20000 in
theorem ggX5_digest_X5_findWrongGlass : GoodIn wsX5_digest wsX5_findWrongGlass := goodIn_r _ [231, 17, 82, 7, 143, 232, 233, 5, 234, 235, 236, 84, 85, 86, 87, 88, 89, 90, 91, 92, 93, 94, 95, 96, 97, 98, 28, 29, 21, 30, 31, 32, 33, 99, 53, 54, 55, 56, 61, 62, 63, 64, 65, 66, 237, 238, 239, 240, 186, 128, 129, 130, 241, 242, 243, 244, 191, 192, 193, 194, 257, 258, 259, 260, 261, 267, 268, 269, 262, 263, 264, 265, 266] (by decide +kernel) (by decide +kernel)
set_option maxRecDepth 20000 in
theorem gX5_digest_X5_findWrongGlass : GoodIn wsX5_digest (wsV RX5 242 RX5 yX5_findWrongGlass wsX5_findWrongGlass) := goodIn_app (goodIn_of _ (by decide +kernel)) ggX5_digest_X5_findWrongGlass
set_option maxRecDepth 20000 in
theorem ggX5_digest_X5_mixed : GoodIn wsX5_digest wsX5_mixed := goodIn_r _ [10, 11] (by decide +kernel) (by decide +kernel)
set_option maxRecDepth 20000 in
theorem gX5_digest_X5_mixed : GoodIn wsX5_digest (va_wsS RX5 246 yX5_mixed wsX5_mixed) := goodIn_app (goodIn_of _ (by decide +kernel)) ggX5_digest_X5_mixed
set_option maxRecDepth 20000 in
theorem ggX5_digest_X5_withBuffer : GoodIn wsX5_digest wsX5_withBuffer := goodIn_r _ [248, 249, 8, 9, 5, 10, 11, 250, 251, 252, 253, 254, 255, 256, 257, 258, 259, 260, 261, 278, 279] (by decide +kernel) (by decide +kernel)
set_option maxRecDepth 20000 in
theorem gX5_digest_X5_withBuffer : GoodIn wsX5_digest (wsV RX5 249 RX5 yX5_withBuffer wsX5_withBuffer) := goodIn_app (goodIn_of _ (by decide +kernel)) ggX5_digest_X5_withBuffer
theorem dX5_digest_0 : decode cX5_digest 0 = .ok (.ldc2_w 225, 3) := by decide +kernel
theorem dX5_digest_3 : decode cX5_digest 3 = .ok (.lstore_n 1, 1) := by decide +kernel
theorem dX5_digest_4 : decode cX5_digest 4 = .ok (.aload_n 0, 1) := by decide +kernel
theorem dX5_digest_5 : decode cX5_digest 5 = .ok (.lload_n 1, 1) := by decide +kernel
theorem dX5_digest_6 : decode cX5_digest 6 = .ok (.invokevirtual 227, 3) := by decide +kernel
theorem dX5_digest_9 : decode cX5_digest 9 = .ok (.lstore_n 1, 1) := by decide +kernel
theorem dX5_digest_10 : decode cX5_digest 10 = .ok (.aload_n 0, 1) := by decide +kernel
theorem dX5_digest_11 : decode cX5_digest 11 = .ok (.lload_n 1, 1) := by decide +kernel
theorem dX5_digest_12 : decode cX5_digest 12 = .ok (.invokevirtual 230, 3) := by decide +kernel
theorem dX5_digest_15 : decode cX5_digest 15 = .ok (.lstore_n 1, 1) := by decide +kernel
theorem dX5_digest_16 : decode cX5_digest 16 = .ok (.aload_n 0, 1) := by decide +kernel
theorem dX5_digest_17 : decode cX5_digest 17 = .ok (.lload_n 1, 1) := by decide +kernel
theorem dX5_digest_18 : decode cX5_digest 18 = .ok (.invokevirtual 233, 3) := by decide +kernel
theorem dX5_digest_21 : decode cX5_digest 21 = .ok (.lstore_n 1, 1) := by decide +kernel
theorem dX5_digest_22 : decode cX5_digest 22 = .ok (.aload_n 0, 1) := by decide +kernel
theorem dX5_digest_23 : decode cX5_digest 23 = .ok (.lload_n 1, 1) := by decide +kernel
theorem dX5_digest_24 : decode cX5_digest 24 = .ok (.invokevirtual 236, 3) := by decide +kernel
theorem dX5_digest_27 : decode cX5_digest 27 = .ok (.lstore_n 1, 1) := by decide +kernel
theorem dX5_digest_28 : decode cX5_digest 28 = .ok (.aload_n 0, 1) := by decide +kernel
theorem dX5_digest_29 : decode cX5_digest 29 = .ok (.aload_n 0, 1) := by decide +kernel
theorem dX5_digest_30 : decode cX5_digest 30 = .ok (.iconst 0, 1) := by decide +kernel
theorem dX5_digest_31 : decode cX5_digest 31 = .ok (.invokevirtual 239, 3) := by decide +kernel
theorem dX5_digest_34 : decode cX5_digest 34 = .ok (.aload_n 0, 1) := by decide +kernel
theorem dX5_digest_35 : decode cX5_digest 35 = .ok (.iconst 1, 1) := by decide +kernel
theorem dX5_digest_36 : decode cX5_digest 36 = .ok (.invokevirtual 239, 3) := by decide +kernel
theorem dX5_digest_39 : decode cX5_digest 39 = .ok (.aload_n 0, 1) := by decide +kernel
theorem dX5_digest_40 : decode cX5_digest 40 = .ok (.iconst 2, 1) := by decide +kernel
theorem dX5_digest_41 : decode cX5_digest 41 = .ok (.invokevirtual 239, 3) := by decide +kernel
theorem dX5_digest_44 : decode cX5_digest 44 = .ok (.invokevirtual 242, 3) := by decide +kernel
theorem dX5_digest_47 : decode cX5_digest 47 = .ok (.lstore_n 3, 1) := by decide +kernel
theorem dX5_digest_48 : decode cX5_digest 48 = .ok (.lload_n 1, 1) := by decide +kernel
theorem dX5_digest_49 : decode cX5_digest 49 = .ok (.lload_n 3, 1) := by decide +kernel
theorem dX5_digest_50 : decode cX5_digest 50 = .ok (.invokestatic 246, 3) := by decide +kernel
theorem dX5_digest_53 : decode cX5_digest 53 = .ok (.lstore_n 1, 1) := by decide +kernel
theorem dX5_digest_54 : decode cX5_digest 54 = .ok (.aload_n 0, 1) := by decide +kernel
theorem dX5_digest_55 : decode cX5_digest 55 = .ok (.lload_n 1, 1) := by decide +kernel
theorem dX5_digest_56 : decode cX5_digest 56 = .ok (.invokevirtual 249, 3) := by decide +kernel
theorem dX5_digest_59 : decode cX5_digest 59 = .ok (.lreturn, 1) := by decide +kernel
theorem dX5_isColour_0 : decode cX5_isColour 0 = .ok (.iload_n 0, 1) := by decide +kernel
theorem dX5_isColour_1 : decode cX5_isColour 1 = .ok (.ifCond .lt 12, 3) := by decide +kernel
theorem dX5_isColour_4 : decode cX5_isColour 4 = .ok (.iload_n 0, 1) := by decide +kernel
theorem dX5_isColour_5 : decode cX5_isColour 5 = .ok (.iconst 2, 1) := by decide +kernel
end
section
theorem dX5_isColour_6 : decode cX5_isColour 6 = .ok (.if_icmp .gt 7, 3) := by decide +kernel
theorem dX5_isColour_9 : decode cX5_isColour 9 = .ok (.iconst 1, 1) := by decide +kernel
theorem dX5_isColour_10 : decode cX5_isColour 10 = .ok (.goto 4, 3) := by decide +kernel
theorem dX5_isColour_13 : decode cX5_isColour 13 = .ok (.iconst 0, 1) := by decide +kernel
theorem dX5_isColour_14 : decode cX5_isColour 14 = .ok (.ireturn, 1) := by decide +kernel
theorem dX5_isDesignPower_0 : decode cX5_isDesignPower 0 = .ok (.iload_n 0, 1) := by decide +kernel
theorem dX5_isDesignPower_1 : decode cX5_isDesignPower 1 = .ok (.sipush (-10000), 3) := by decide +kernel
theorem dX5_isDesignPower_4 : decode cX5_isDesignPower 4 = .ok (.if_icmp .lt 14, 3) := by decide +kernel
theorem dX5_isDesignPower_7 : decode cX5_isDesignPower 7 = .ok (.iload_n 0, 1) := by decide +kernel
theorem dX5_isDesignPower_8 : decode cX5_isDesignPower 8 = .ok (.sipush 10000, 3) := by decide +kernel
theorem dX5_isDesignPower_11 : decode cX5_isDesignPower 11 = .ok (.if_icmp .gt 7, 3) := by decide +kernel
theorem dX5_isDesignPower_14 : decode cX5_isDesignPower 14 = .ok (.iconst 1, 1) := by decide +kernel
theorem dX5_isDesignPower_15 : decode cX5_isDesignPower 15 = .ok (.goto 4, 3) := by decide +kernel
theorem dX5_isDesignPower_18 : decode cX5_isDesignPower 18 = .ok (.iconst 0, 1) := by decide +kernel
theorem dX5_isDesignPower_19 : decode cX5_isDesignPower 19 = .ok (.ireturn, 1) := by decide +kernel
theorem dX5_isMeasurable_0 : decode cX5_isMeasurable 0 = .ok (.lload_n 0, 1) := by decide +kernel
theorem dX5_isMeasurable_1 : decode cX5_isMeasurable 1 = .ok (.ldc2_w 252, 3) := by decide +kernel
theorem dX5_isMeasurable_4 : decode cX5_isMeasurable 4 = .ok (.lcmp, 1) := by decide +kernel
theorem dX5_isMeasurable_5 : decode cX5_isMeasurable 5 = .ok (.ifCond .lt 15, 3) := by decide +kernel
theorem dX5_isMeasurable_8 : decode cX5_isMeasurable 8 = .ok (.lload_n 0, 1) := by decide +kernel
theorem dX5_isMeasurable_9 : decode cX5_isMeasurable 9 = .ok (.ldc2_w 254, 3) := by decide +kernel
theorem dX5_isMeasurable_12 : decode cX5_isMeasurable 12 = .ok (.lcmp, 1) := by decide +kernel
theorem dX5_isMeasurable_13 : decode cX5_isMeasurable 13 = .ok (.ifCond .gt 7, 3) := by decide +kernel
theorem dX5_isMeasurable_16 : decode cX5_isMeasurable 16 = .ok (.iconst 1, 1) := by decide +kernel
theorem dX5_isMeasurable_17 : decode cX5_isMeasurable 17 = .ok (.goto 4, 3) := by decide +kernel
theorem dX5_isMeasurable_20 : decode cX5_isMeasurable 20 = .ok (.iconst 0, 1) := by decide +kernel
theorem dX5_isMeasurable_21 : decode cX5_isMeasurable 21 = .ok (.ireturn, 1) := by decide +kernel
theorem dX5_areGlassIndices_0 : decode cX5_areGlassIndices 0 = .ok (.ldc_w 256, 3) := by decide +kernel
theorem dX5_areGlassIndices_3 : decode cX5_areGlassIndices 3 = .ok (.iload_n 2, 1) := by decide +kernel
theorem dX5_areGlassIndices_4 : decode cX5_areGlassIndices 4 = .ok (.if_icmp .gt 33, 3) := by decide +kernel
theorem dX5_areGlassIndices_7 : decode cX5_areGlassIndices 7 = .ok (.iload_n 2, 1) := by decide +kernel
theorem dX5_areGlassIndices_8 : decode cX5_areGlassIndices 8 = .ok (.iload_n 1, 1) := by decide +kernel
theorem dX5_areGlassIndices_9 : decode cX5_areGlassIndices 9 = .ok (.if_icmp .ge 28, 3) := by decide +kernel
theorem dX5_areGlassIndices_12 : decode cX5_areGlassIndices 12 = .ok (.iload_n 1, 1) := by decide +kernel
theorem dX5_areGlassIndices_13 : decode cX5_areGlassIndices 13 = .ok (.iload_n 0, 1) := by decide +kernel
theorem dX5_areGlassIndices_14 : decode cX5_areGlassIndices 14 = .ok (.if_icmp .ge 23, 3) := by decide +kernel
theorem dX5_areGlassIndices_17 : decode cX5_areGlassIndices 17 = .ok (.iload_n 0, 1) := by decide +kernel
theorem dX5_areGlassIndices_18 : decode cX5_areGlassIndices 18 = .ok (.ldc_w 257, 3) := by decide +kernel
theorem dX5_areGlassIndices_21 : decode cX5_areGlassIndices 21 = .ok (.if_icmp .gt 16, 3) := by decide +kernel
theorem dX5_areGlassIndices_24 : decode cX5_areGlassIndices 24 = .ok (.iload_n 0, 1) := by decide +kernel
theorem dX5_areGlassIndices_25 : decode cX5_areGlassIndices 25 = .ok (.iload_n 2, 1) := by decide +kernel
theorem dX5_areGlassIndices_26 : decode cX5_areGlassIndices 26 = .ok (.isub, 1) := by decide +kernel
theorem dX5_areGlassIndices_27 : decode cX5_areGlassIndices 27 = .ok (.sipush 9999, 3) := by decide +kernel
theorem dX5_areGlassIndices_30 : decode cX5_areGlassIndices 30 = .ok (.if_icmp .gt 7, 3) := by decide +kernel
theorem dX5_areGlassIndices_33 : decode cX5_areGlassIndices 33 = .ok (.iconst 1, 1) := by decide +kernel
theorem dX5_areGlassIndices_34 : decode cX5_areGlassIndices 34 = .ok (.goto 4, 3) := by decide +kernel
theorem dX5_areGlassIndices_37 : decode cX5_areGlassIndices 37 = .ok (.iconst 0, 1) := by decide +kernel
theorem dX5_areGlassIndices_38 : decode cX5_areGlassIndices 38 = .ok (.ireturn, 1) := by decide +kernel
set_option maxRecDepth 20000 in
theorem ggX5_floorQuotient_J9_floorDiv_f86c9 : GoodIn wsX5_floorQuotient wsJ9_floorDiv_f86c9 := goodIn_r _ [4] (by decide +kernel) (by decide +kernel)
set_option maxRecDepth 20000 in
theorem gX5_floorQuotient_J9_floorDiv_f86c9 : GoodIn wsX5_floorQuotient (va_wsS RX5 258 yJ9_floorDiv_f86c9 wsJ9_floorDiv_f86c9) := goodIn_app (goodIn_of _ (by decide +kernel)) ggX5_floorQuotient_J9_floorDiv_f86c9
theorem dX5_floorQuotient_0 : decode cX5_floorQuotient 0 = .ok (.lload_n 2, 1) := by decide +kernel
theorem dX5_floorQuotient_1 : decode cX5_floorQuotient 1 = .ok (.lconst 0, 1) := by decide +kernel
theorem dX5_floorQuotient_2 : decode cX5_floorQuotient 2 = .ok (.lcmp, 1) := by decide +kernel
theorem dX5_floorQuotient_3 : decode cX5_floorQuotient 3 = .ok (.ifCond .ne 7, 3) := by decide +kernel
theorem dX5_floorQuotient_6 : decode cX5_floorQuotient 6 = .ok (.lconst 0, 1) := by decide +kernel
theorem dX5_floorQuotient_7 : decode cX5_floorQuotient 7 = .ok (.goto 8, 3) := by decide +kernel
theorem dX5_floorQuotient_10 : decode cX5_floorQuotient 10 = .ok (.lload_n 0, 1) := by decide +kernel
theorem dX5_floorQuotient_11 : decode cX5_floorQuotient 11 = .ok (.lload_n 2, 1) := by decide +kernel
theorem dX5_floorQuotient_12 : decode cX5_floorQuotient 12 = .ok (.invokestatic 258, 3) := by decide +kernel
theorem dX5_floorQuotient_15 : decode cX5_floorQuotient 15 = .ok (.lreturn, 1) := by decide +kernel
set_option maxRecDepth 20000 in
theorem ggX5_greatestTripletPower_X0_tripletShare : GoodIn wsX5_greatestTripletPower wsX0_tripletShare := goodIn_r _ [11, 12, 13, 14, 10, 15, 16, 17, 18, 19, 20, 21, 22, 23, 24, 25, 26, 27, 28, 29, 30, 31, 52, 53, 54, 55, 56] (by decide +kernel) (by decide +kernel)
set_option maxRecDepth 20000 in
theorem gX5_greatestTripletPower_X0_tripletShare : GoodIn wsX5_greatestTripletPower (wsV RX5 169 RX0 yX0_tripletShare wsX0_tripletShare) := goodIn_app (goodIn_of _ (by decide +kernel)) ggX5_greatestTripletPower_X0_tripletShare
set_option maxRecDepth 20000 in
theorem ggX5_greatestTripletPower_X5_absolutePower : GoodIn wsX5_greatestTripletPower wsX5_absolutePower := goodIn_r _ [35, 36, 37, 38, 5, 39, 40, 41, 34, 42, 43, 44, 45, 46] (by decide +kernel) (by decide +kernel)
set_option maxRecDepth 20000 in
theorem gX5_greatestTripletPower_X5_absolutePower : GoodIn wsX5_greatestTripletPower (va_wsS RX5 261 yX5_absolutePower wsX5_absolutePower) := goodIn_app (goodIn_of _ (by decide +kernel)) ggX5_greatestTripletPower_X5_absolutePower
theorem dX5_greatestTripletPower_0 : decode cX5_greatestTripletPower 0 = .ok (.aload_n 0, 1) := by decide +kernel
theorem dX5_greatestTripletPower_1 : decode cX5_greatestTripletPower 1 = .ok (.getfield 19, 3) := by decide +kernel
theorem dX5_greatestTripletPower_4 : decode cX5_greatestTripletPower 4 = .ok (.iload_n 1, 1) := by decide +kernel
theorem dX5_greatestTripletPower_5 : decode cX5_greatestTripletPower 5 = .ok (.iload_n 2, 1) := by decide +kernel
theorem dX5_greatestTripletPower_6 : decode cX5_greatestTripletPower 6 = .ok (.iload_n 3, 1) := by decide +kernel
theorem dX5_greatestTripletPower_7 : decode cX5_greatestTripletPower 7 = .ok (.invokevirtual 169, 3) := by decide +kernel
theorem dX5_greatestTripletPower_10 : decode cX5_greatestTripletPower 10 = .ok (.lstore 4, 2) := by decide +kernel
theorem dX5_greatestTripletPower_12 : decode cX5_greatestTripletPower 12 = .ok (.aload_n 0, 1) := by decide +kernel
theorem dX5_greatestTripletPower_13 : decode cX5_greatestTripletPower 13 = .ok (.getfield 19, 3) := by decide +kernel
theorem dX5_greatestTripletPower_16 : decode cX5_greatestTripletPower 16 = .ok (.iload_n 2, 1) := by decide +kernel
theorem dX5_greatestTripletPower_17 : decode cX5_greatestTripletPower 17 = .ok (.iload_n 3, 1) := by decide +kernel
theorem dX5_greatestTripletPower_18 : decode cX5_greatestTripletPower 18 = .ok (.iload_n 1, 1) := by decide +kernel
theorem dX5_greatestTripletPower_19 : decode cX5_greatestTripletPower 19 = .ok (.invokevirtual 169, 3) := by decide +kernel
theorem dX5_greatestTripletPower_22 : decode cX5_greatestTripletPower 22 = .ok (.lstore 6, 2) := by decide +kernel
theorem dX5_greatestTripletPower_24 : decode cX5_greatestTripletPower 24 = .ok (.aload_n 0, 1) := by decide +kernel
theorem dX5_greatestTripletPower_25 : decode cX5_greatestTripletPower 25 = .ok (.getfield 19, 3) := by decide +kernel
theorem dX5_greatestTripletPower_28 : decode cX5_greatestTripletPower 28 = .ok (.iload_n 3, 1) := by decide +kernel
theorem dX5_greatestTripletPower_29 : decode cX5_greatestTripletPower 29 = .ok (.iload_n 1, 1) := by decide +kernel
theorem dX5_greatestTripletPower_30 : decode cX5_greatestTripletPower 30 = .ok (.iload_n 2, 1) := by decide +kernel
theorem dX5_greatestTripletPower_31 : decode cX5_greatestTripletPower 31 = .ok (.invokevirtual 169, 3) := by decide +kernel
theorem dX5_greatestTripletPower_34 : decode cX5_greatestTripletPower 34 = .ok (.lstore 8, 2) := by decide +kernel
theorem dX5_greatestTripletPower_36 : decode cX5_greatestTripletPower 36 = .ok (.lload 4, 2) := by decide +kernel
theorem dX5_greatestTripletPower_38 : decode cX5_greatestTripletPower 38 = .ok (.lload 6, 2) := by decide +kernel
theorem dX5_greatestTripletPower_40 : decode cX5_greatestTripletPower 40 = .ok (.ladd, 1) := by decide +kernel
theorem dX5_greatestTripletPower_41 : decode cX5_greatestTripletPower 41 = .ok (.lload 8, 2) := by decide +kernel
theorem dX5_greatestTripletPower_43 : decode cX5_greatestTripletPower 43 = .ok (.ladd, 1) := by decide +kernel
theorem dX5_greatestTripletPower_44 : decode cX5_greatestTripletPower 44 = .ok (.lstore 10, 2) := by decide +kernel
theorem dX5_greatestTripletPower_46 : decode cX5_greatestTripletPower 46 = .ok (.lload 10, 2) := by decide +kernel
theorem dX5_greatestTripletPower_48 : decode cX5_greatestTripletPower 48 = .ok (.lconst 0, 1) := by decide +kernel
theorem dX5_greatestTripletPower_49 : decode cX5_greatestTripletPower 49 = .ok (.lcmp, 1) := by decide +kernel
theorem dX5_greatestTripletPower_50 : decode cX5_greatestTripletPower 50 = .ok (.ifCond .ne 7, 3) := by decide +kernel
theorem dX5_greatestTripletPower_53 : decode cX5_greatestTripletPower 53 = .ok (.ldc2_w 212, 3) := by decide +kernel
theorem dX5_greatestTripletPower_56 : decode cX5_greatestTripletPower 56 = .ok (.lreturn, 1) := by decide +kernel
theorem dX5_greatestTripletPower_57 : decode cX5_greatestTripletPower 57 = .ok (.lload 6, 2) := by decide +kernel
theorem dX5_greatestTripletPower_59 : decode cX5_greatestTripletPower 59 = .ok (.lload 10, 2) := by decide +kernel
theorem dX5_greatestTripletPower_61 : decode cX5_greatestTripletPower 61 = .ok (.invokestatic 261, 3) := by decide +kernel
theorem dX5_greatestTripletPower_64 : decode cX5_greatestTripletPower 64 = .ok (.lload 8, 2) := by decide +kernel
theorem dX5_greatestTripletPower_66 : decode cX5_greatestTripletPower 66 = .ok (.lload 10, 2) := by decide +kernel
theorem dX5_greatestTripletPower_68 : decode cX5_greatestTripletPower 68 = .ok (.invokestatic 261, 3) := by decide +kernel
theorem dX5_greatestTripletPower_71 : decode cX5_greatestTripletPower 71 = .ok (.invokestatic 264, 3) := by decide +kernel
theorem dX5_greatestTripletPower_74 : decode cX5_greatestTripletPower 74 = .ok (.lstore 12, 2) := by decide +kernel
theorem dX5_greatestTripletPower_76 : decode cX5_greatestTripletPower 76 = .ok (.lload 4, 2) := by decide +kernel
theorem dX5_greatestTripletPower_78 : decode cX5_greatestTripletPower 78 = .ok (.lload 10, 2) := by decide +kernel
theorem dX5_greatestTripletPower_80 : decode cX5_greatestTripletPower 80 = .ok (.invokestatic 261, 3) := by decide +kernel
theorem dX5_greatestTripletPower_83 : decode cX5_greatestTripletPower 83 = .ok (.lload 12, 2) := by decide +kernel
theorem dX5_greatestTripletPower_85 : decode cX5_greatestTripletPower 85 = .ok (.invokestatic 264, 3) := by decide +kernel
theorem dX5_greatestTripletPower_88 : decode cX5_greatestTripletPower 88 = .ok (.lreturn, 1) := by decide +kernel
set_option maxRecDepth 20000 in
theorem ggX5_absolutePower_X5_floorQuotient : GoodIn wsX5_absolutePower wsX5_floorQuotient := goodIn_r _ [9, 10, 11, 12, 13] (by decide +kernel) (by decide +kernel)
set_option maxRecDepth 20000 in
theorem gX5_absolutePower_X5_floorQuotient : GoodIn wsX5_absolutePower (va_wsS RX5 132 yX5_floorQuotient wsX5_floorQuotient) := goodIn_app (goodIn_of _ (by decide +kernel)) ggX5_absolutePower_X5_floorQuotient
theorem dX5_absolutePower_0 : decode cX5_absolutePower 0 = .ok (.ldc2_w 267, 3) := by decide +kernel
theorem dX5_absolutePower_3 : decode cX5_absolutePower 3 = .ok (.lload_n 0, 1) := by decide +kernel
theorem dX5_absolutePower_4 : decode cX5_absolutePower 4 = .ok (.lmul, 1) := by decide +kernel
theorem dX5_absolutePower_5 : decode cX5_absolutePower 5 = .ok (.lload_n 2, 1) := by decide +kernel
theorem dX5_absolutePower_6 : decode cX5_absolutePower 6 = .ok (.invokestatic 132, 3) := by decide +kernel
theorem dX5_absolutePower_9 : decode cX5_absolutePower 9 = .ok (.invokestatic 218, 3) := by decide +kernel
theorem dX5_absolutePower_12 : decode cX5_absolutePower 12 = .ok (.lreturn, 1) := by decide +kernel
set_option maxRecDepth 20000 in
theorem ggX5_missWith_X3_changeWith : GoodIn wsX5_missWith wsX3_changeWith := goodIn_r _ [11, 12, 13, 14, 15, 10, 16, 17, 18, 19, 20, 21, 22, 23, 24, 25, 26, 27, 28, 29, 30, 31, 32, 33, 34, 35, 36, 37, 38, 39, 45, 46, 47, 48, 49, 50, 51, 52] (by decide +kernel) (by decide +kernel)
set_option maxRecDepth 20000 in
theorem gX5_missWith_X3_changeWith : GoodIn wsX5_missWith (wsV RX5 269 RX3 yX3_changeWith wsX3_changeWith) := goodIn_app (goodIn_of _ (by decide +kernel)) ggX5_missWith_X3_changeWith
theorem dX5_missWith_0 : decode cX5_missWith 0 = .ok (.lload_n 3, 1) := by decide +kernel
theorem dX5_missWith_1 : decode cX5_missWith 1 = .ok (.aload_n 0, 1) := by decide +kernel
theorem dX5_missWith_2 : decode cX5_missWith 2 = .ok (.getfield 33, 3) := by decide +kernel
theorem dX5_missWith_5 : decode cX5_missWith 5 = .ok (.iload_n 1, 1) := by decide +kernel
theorem dX5_missWith_6 : decode cX5_missWith 6 = .ok (.iload_n 2, 1) := by decide +kernel
theorem dX5_missWith_7 : decode cX5_missWith 7 = .ok (.iconst 0, 1) := by decide +kernel
theorem dX5_missWith_8 : decode cX5_missWith 8 = .ok (.aload_n 0, 1) := by decide +kernel
theorem dX5_missWith_9 : decode cX5_missWith 9 = .ok (.getfield 19, 3) := by decide +kernel
theorem dX5_missWith_12 : decode cX5_missWith 12 = .ok (.invokevirtual 269, 3) := by decide +kernel
theorem dX5_missWith_15 : decode cX5_missWith 15 = .ok (.ladd, 1) := by decide +kernel
theorem dX5_missWith_16 : decode cX5_missWith 16 = .ok (.invokestatic 218, 3) := by decide +kernel
theorem dX5_missWith_19 : decode cX5_missWith 19 = .ok (.lload 5, 2) := by decide +kernel
theorem dX5_missWith_21 : decode cX5_missWith 21 = .ok (.aload_n 0, 1) := by decide +kernel
theorem dX5_missWith_22 : decode cX5_missWith 22 = .ok (.getfield 33, 3) := by decide +kernel
theorem dX5_missWith_25 : decode cX5_missWith 25 = .ok (.iload_n 1, 1) := by decide +kernel
theorem dX5_missWith_26 : decode cX5_missWith 26 = .ok (.iload_n 2, 1) := by decide +kernel
theorem dX5_missWith_27 : decode cX5_missWith 27 = .ok (.iconst 1, 1) := by decide +kernel
theorem dX5_missWith_28 : decode cX5_missWith 28 = .ok (.aload_n 0, 1) := by decide +kernel
theorem dX5_missWith_29 : decode cX5_missWith 29 = .ok (.getfield 19, 3) := by decide +kernel
theorem dX5_missWith_32 : decode cX5_missWith 32 = .ok (.invokevirtual 269, 3) := by decide +kernel
theorem dX5_missWith_35 : decode cX5_missWith 35 = .ok (.ladd, 1) := by decide +kernel
theorem dX5_missWith_36 : decode cX5_missWith 36 = .ok (.invokestatic 218, 3) := by decide +kernel
theorem dX5_missWith_39 : decode cX5_missWith 39 = .ok (.ladd, 1) := by decide +kernel
theorem dX5_missWith_40 : decode cX5_missWith 40 = .ok (.lload 7, 2) := by decide +kernel
theorem dX5_missWith_42 : decode cX5_missWith 42 = .ok (.aload_n 0, 1) := by decide +kernel
theorem dX5_missWith_43 : decode cX5_missWith 43 = .ok (.getfield 33, 3) := by decide +kernel
theorem dX5_missWith_46 : decode cX5_missWith 46 = .ok (.iload_n 1, 1) := by decide +kernel
theorem dX5_missWith_47 : decode cX5_missWith 47 = .ok (.iload_n 2, 1) := by decide +kernel
theorem dX5_missWith_48 : decode cX5_missWith 48 = .ok (.iconst 2, 1) := by decide +kernel
theorem dX5_missWith_49 : decode cX5_missWith 49 = .ok (.aload_n 0, 1) := by decide +kernel
theorem dX5_missWith_50 : decode cX5_missWith 50 = .ok (.getfield 19, 3) := by decide +kernel
theorem dX5_missWith_53 : decode cX5_missWith 53 = .ok (.invokevirtual 269, 3) := by decide +kernel
theorem dX5_missWith_56 : decode cX5_missWith 56 = .ok (.ladd, 1) := by decide +kernel
theorem dX5_missWith_57 : decode cX5_missWith 57 = .ok (.invokestatic 218, 3) := by decide +kernel
theorem dX5_missWith_60 : decode cX5_missWith 60 = .ok (.ladd, 1) := by decide +kernel
theorem dX5_missWith_61 : decode cX5_missWith 61 = .ok (.lreturn, 1) := by decide +kernel
set_option maxRecDepth 20000 in
theorem ggX5_powerBetween_X4_signedRadius : GoodIn wsX5_powerBetween wsX4_signedRadius := goodIn_r _ [7, 8, 22, 23] (by decide +kernel) (by decide +kernel)
set_option maxRecDepth 20000 in
theorem gX5_powerBetween_X4_signedRadius : GoodIn wsX5_powerBetween (wsV RX5 273 RX4 yX4_signedRadius wsX4_signedRadius) := goodIn_app (goodIn_of _ (by decide +kernel)) ggX5_powerBetween_X4_signedRadius
set_option maxRecDepth 20000 in
theorem ggX5_powerBetween_X5_floorQuotient : GoodIn wsX5_powerBetween wsX5_floorQuotient := goodIn_r _ [12, 13, 14, 15, 16] (by decide +kernel) (by decide +kernel)
set_option maxRecDepth 20000 in
theorem gX5_powerBetween_X5_floorQuotient : GoodIn wsX5_powerBetween (va_wsS RX5 132 yX5_floorQuotient wsX5_floorQuotient) := goodIn_app (goodIn_of _ (by decide +kernel)) ggX5_powerBetween_X5_floorQuotient
theorem dX5_powerBetween_0 : decode cX5_powerBetween 0 = .ok (.aload_n 0, 1) := by decide +kernel
theorem dX5_powerBetween_1 : decode cX5_powerBetween 1 = .ok (.getfield 40, 3) := by decide +kernel
theorem dX5_powerBetween_4 : decode cX5_powerBetween 4 = .ok (.iload_n 3, 1) := by decide +kernel
theorem dX5_powerBetween_5 : decode cX5_powerBetween 5 = .ok (.invokevirtual 273, 3) := by decide +kernel
theorem dX5_powerBetween_8 : decode cX5_powerBetween 8 = .ok (.lstore 5, 2) := by decide +kernel
theorem dX5_powerBetween_10 : decode cX5_powerBetween 10 = .ok (.aload_n 0, 1) := by decide +kernel
theorem dX5_powerBetween_11 : decode cX5_powerBetween 11 = .ok (.getfield 40, 3) := by decide +kernel
theorem dX5_powerBetween_14 : decode cX5_powerBetween 14 = .ok (.iload 4, 2) := by decide +kernel
theorem dX5_powerBetween_16 : decode cX5_powerBetween 16 = .ok (.invokevirtual 273, 3) := by decide +kernel
theorem dX5_powerBetween_19 : decode cX5_powerBetween 19 = .ok (.lstore 7, 2) := by decide +kernel
theorem dX5_powerBetween_21 : decode cX5_powerBetween 21 = .ok (.lload_n 1, 1) := by decide +kernel
theorem dX5_powerBetween_22 : decode cX5_powerBetween 22 = .ok (.ldc2_w 276, 3) := by decide +kernel
theorem dX5_powerBetween_25 : decode cX5_powerBetween 25 = .ok (.lmul, 1) := by decide +kernel
theorem dX5_powerBetween_26 : decode cX5_powerBetween 26 = .ok (.lload 7, 2) := by decide +kernel
theorem dX5_powerBetween_28 : decode cX5_powerBetween 28 = .ok (.lload 5, 2) := by decide +kernel
theorem dX5_powerBetween_30 : decode cX5_powerBetween 30 = .ok (.lsub, 1) := by decide +kernel
theorem dX5_powerBetween_31 : decode cX5_powerBetween 31 = .ok (.lmul, 1) := by decide +kernel
theorem dX5_powerBetween_32 : decode cX5_powerBetween 32 = .ok (.lload 5, 2) := by decide +kernel
theorem dX5_powerBetween_34 : decode cX5_powerBetween 34 = .ok (.lload 7, 2) := by decide +kernel
theorem dX5_powerBetween_36 : decode cX5_powerBetween 36 = .ok (.lmul, 1) := by decide +kernel
theorem dX5_powerBetween_37 : decode cX5_powerBetween 37 = .ok (.invokestatic 132, 3) := by decide +kernel
theorem dX5_powerBetween_40 : decode cX5_powerBetween 40 = .ok (.lreturn, 1) := by decide +kernel
theorem dX5_mixed_0 : decode cX5_mixed 0 = .ok (.ldc2_w 278, 3) := by decide +kernel
theorem dX5_mixed_3 : decode cX5_mixed 3 = .ok (.lload_n 0, 1) := by decide +kernel
theorem dX5_mixed_4 : decode cX5_mixed 4 = .ok (.lmul, 1) := by decide +kernel
theorem dX5_mixed_5 : decode cX5_mixed 5 = .ok (.lload_n 2, 1) := by decide +kernel
theorem dX5_mixed_6 : decode cX5_mixed 6 = .ok (.ladd, 1) := by decide +kernel
theorem dX5_mixed_7 : decode cX5_mixed 7 = .ok (.lreturn, 1) := by decide +kernel
set_option maxRecDepth 20000 in
theorem ggX5_withGlasses_X5_mixed : GoodIn wsX5_withGlasses wsX5_mixed := goodIn_r _ [5, 6] (by decide +kernel) (by decide +kernel)
set_option maxRecDepth 20000 in
theorem gX5_withGlasses_X5_mixed : GoodIn wsX5_withGlasses (va_wsS RX5 246 yX5_mixed wsX5_mixed) := goodIn_app (goodIn_of _ (by decide +kernel)) ggX5_withGlasses_X5_mixed
set_option maxRecDepth 20000 in
theorem ggX5_withGlasses_X5_index : GoodIn wsX5_withGlasses wsX5_index := goodIn_r _ [10, 1, 11, 12, 13, 14, 15, 16, 17, 18, 19, 20, 4, 21, 22, 23, 24, 25, 26, 27, 28, 96, 97, 98, 99, 100, 101, 102, 103, 104, 105] (by decide +kernel) (by decide +kernel)
set_option maxRecDepth 20000 in
theorem gX5_withGlasses_X5_index : GoodIn wsX5_withGlasses (wsV RX5 280 RX5 yX5_index wsX5_index) := goodIn_app (goodIn_of _ (by decide +kernel)) ggX5_withGlasses_X5_index
set_option maxRecDepth 20000 in
theorem ggX5_withGlasses_X5_placeByName : GoodIn wsX5_withGlasses wsX5_placeByName := goodIn_r _ [32, 1, 11, 13, 14, 15, 16, 17, 18, 33, 34, 35, 36, 37, 96, 97, 98, 99, 100, 101, 102, 103, 104, 105] (by decide +kernel) (by decide +kernel)
set_option maxRecDepth 20000 in
theorem gX5_withGlasses_X5_placeByName : GoodIn wsX5_withGlasses (wsV RX5 283 RX5 yX5_placeByName wsX5_placeByName) := goodIn_app (goodIn_of _ (by decide +kernel)) ggX5_withGlasses_X5_placeByName
set_option maxRecDepth 20000 in
theorem ggX5_withGlasses_X5_abbe : GoodIn wsX5_withGlasses wsX5_abbe := goodIn_r _ [41, 1, 11, 13, 14, 15, 16, 17, 18, 42, 43, 44, 45, 46, 47, 48, 49, 50, 27, 51, 52, 53, 54, 55, 26, 28, 56, 4, 57, 58, 59, 60, 61, 96, 97, 98, 99, 100, 101, 102, 103, 104, 105] (by decide +kernel) (by decide +kernel)
set_option maxRecDepth 20000 in
theorem gX5_withGlasses_X5_abbe : GoodIn wsX5_withGlasses (wsV RX5 286 RX5 yX5_abbe wsX5_abbe) := goodIn_app (goodIn_of _ (by decide +kernel)) ggX5_withGlasses_X5_abbe
set_option maxRecDepth 20000 in
theorem ggX5_withGlasses_X5_partial : GoodIn wsX5_withGlasses wsX5_partial := goodIn_r _ [65, 1, 11, 66, 13, 14, 15, 16, 17, 18, 67, 68, 69, 70, 26, 27, 71, 53, 54, 55, 28, 72, 56, 4, 57, 58, 59, 60, 61, 96, 97, 98, 99, 100, 101, 102, 103, 104, 105] (by decide +kernel) (by decide +kernel)
set_option maxRecDepth 20000 in
theorem gX5_withGlasses_X5_partial : GoodIn wsX5_withGlasses (wsV RX5 289 RX5 yX5_partial wsX5_partial) := goodIn_app (goodIn_of _ (by decide +kernel)) ggX5_withGlasses_X5_partial
set_option maxRecDepth 20000 in
theorem ggX5_withGlasses_X5_balancePower : GoodIn wsX5_withGlasses wsX5_balancePower := goodIn_r _ [76, 1, 11, 77, 78, 13, 14, 15, 16, 17, 18, 79, 80, 81, 82, 83, 84, 85, 86, 87, 88, 89, 90, 91, 92, 93, 23, 24, 25, 26, 27, 28, 94, 48, 49, 50, 51, 56, 4, 57, 58, 59, 60, 61, 95, 71, 53, 54, 55, 72, 96, 97, 98, 99, 100, 101, 102, 103, 104, 105, 106, 107, 108] (by decide +kernel) (by decide +kernel)
set_option maxRecDepth 20000 in
theorem gX5_withGlasses_X5_balancePower : GoodIn wsX5_withGlasses (wsV RX5 292 RX5 yX5_balancePower wsX5_balancePower) := goodIn_app (goodIn_of _ (by decide +kernel)) ggX5_withGlasses_X5_balancePower
theorem dX5_withGlasses_0 : decode cX5_withGlasses 0 = .ok (.lload_n 1, 1) := by decide +kernel
theorem dX5_withGlasses_1 : decode cX5_withGlasses 1 = .ok (.aload_n 0, 1) := by decide +kernel
theorem dX5_withGlasses_2 : decode cX5_withGlasses 2 = .ok (.getfield 19, 3) := by decide +kernel
theorem dX5_withGlasses_5 : decode cX5_withGlasses 5 = .ok (.getfield 77, 3) := by decide +kernel
theorem dX5_withGlasses_8 : decode cX5_withGlasses 8 = .ok (.i2l, 1) := by decide +kernel
theorem dX5_withGlasses_9 : decode cX5_withGlasses 9 = .ok (.invokestatic 246, 3) := by decide +kernel
theorem dX5_withGlasses_12 : decode cX5_withGlasses 12 = .ok (.lstore_n 3, 1) := by decide +kernel
theorem dX5_withGlasses_13 : decode cX5_withGlasses 13 = .ok (.iconst 0, 1) := by decide +kernel
theorem dX5_withGlasses_14 : decode cX5_withGlasses 14 = .ok (.istore 5, 2) := by decide +kernel
theorem dX5_withGlasses_16 : decode cX5_withGlasses 16 = .ok (.iload 5, 2) := by decide +kernel
theorem dX5_withGlasses_18 : decode cX5_withGlasses 18 = .ok (.aload_n 0, 1) := by decide +kernel
theorem dX5_withGlasses_19 : decode cX5_withGlasses 19 = .ok (.getfield 19, 3) := by decide +kernel
theorem dX5_withGlasses_22 : decode cX5_withGlasses 22 = .ok (.getfield 77, 3) := by decide +kernel
theorem dX5_withGlasses_25 : decode cX5_withGlasses 25 = .ok (.if_icmp .ge 81, 3) := by decide +kernel
theorem dX5_withGlasses_28 : decode cX5_withGlasses 28 = .ok (.iconst 0, 1) := by decide +kernel
theorem dX5_withGlasses_29 : decode cX5_withGlasses 29 = .ok (.istore 6, 2) := by decide +kernel
theorem dX5_withGlasses_31 : decode cX5_withGlasses 31 = .ok (.iload 6, 2) := by decide +kernel
theorem dX5_withGlasses_33 : decode cX5_withGlasses 33 = .ok (.iconst 2, 1) := by decide +kernel
theorem dX5_withGlasses_34 : decode cX5_withGlasses 34 = .ok (.if_icmp .gt 22, 3) := by decide +kernel
theorem dX5_withGlasses_37 : decode cX5_withGlasses 37 = .ok (.lload_n 3, 1) := by decide +kernel
theorem dX5_withGlasses_38 : decode cX5_withGlasses 38 = .ok (.aload_n 0, 1) := by decide +kernel
theorem dX5_withGlasses_39 : decode cX5_withGlasses 39 = .ok (.iload 5, 2) := by decide +kernel
theorem dX5_withGlasses_41 : decode cX5_withGlasses 41 = .ok (.iload 6, 2) := by decide +kernel
theorem dX5_withGlasses_43 : decode cX5_withGlasses 43 = .ok (.invokevirtual 280, 3) := by decide +kernel
theorem dX5_withGlasses_46 : decode cX5_withGlasses 46 = .ok (.invokestatic 246, 3) := by decide +kernel
theorem dX5_withGlasses_49 : decode cX5_withGlasses 49 = .ok (.lstore_n 3, 1) := by decide +kernel
theorem dX5_withGlasses_50 : decode cX5_withGlasses 50 = .ok (.iinc 6 1, 3) := by decide +kernel
theorem dX5_withGlasses_53 : decode cX5_withGlasses 53 = .ok (.goto (-22), 3) := by decide +kernel
theorem dX5_withGlasses_56 : decode cX5_withGlasses 56 = .ok (.lload_n 3, 1) := by decide +kernel
theorem dX5_withGlasses_57 : decode cX5_withGlasses 57 = .ok (.aload_n 0, 1) := by decide +kernel
theorem dX5_withGlasses_58 : decode cX5_withGlasses 58 = .ok (.iload 5, 2) := by decide +kernel
theorem dX5_withGlasses_60 : decode cX5_withGlasses 60 = .ok (.invokevirtual 283, 3) := by decide +kernel
theorem dX5_withGlasses_63 : decode cX5_withGlasses 63 = .ok (.invokestatic 246, 3) := by decide +kernel
theorem dX5_withGlasses_66 : decode cX5_withGlasses 66 = .ok (.lstore_n 3, 1) := by decide +kernel
theorem dX5_withGlasses_67 : decode cX5_withGlasses 67 = .ok (.lload_n 3, 1) := by decide +kernel
theorem dX5_withGlasses_68 : decode cX5_withGlasses 68 = .ok (.aload_n 0, 1) := by decide +kernel
theorem dX5_withGlasses_69 : decode cX5_withGlasses 69 = .ok (.iload 5, 2) := by decide +kernel
theorem dX5_withGlasses_71 : decode cX5_withGlasses 71 = .ok (.invokevirtual 286, 3) := by decide +kernel
theorem dX5_withGlasses_74 : decode cX5_withGlasses 74 = .ok (.invokestatic 246, 3) := by decide +kernel
theorem dX5_withGlasses_77 : decode cX5_withGlasses 77 = .ok (.lstore_n 3, 1) := by decide +kernel
theorem dX5_withGlasses_78 : decode cX5_withGlasses 78 = .ok (.lload_n 3, 1) := by decide +kernel
theorem dX5_withGlasses_79 : decode cX5_withGlasses 79 = .ok (.aload_n 0, 1) := by decide +kernel
theorem dX5_withGlasses_80 : decode cX5_withGlasses 80 = .ok (.iload 5, 2) := by decide +kernel
theorem dX5_withGlasses_82 : decode cX5_withGlasses 82 = .ok (.invokevirtual 289, 3) := by decide +kernel
theorem dX5_withGlasses_85 : decode cX5_withGlasses 85 = .ok (.invokestatic 246, 3) := by decide +kernel
theorem dX5_withGlasses_88 : decode cX5_withGlasses 88 = .ok (.lstore_n 3, 1) := by decide +kernel
theorem dX5_withGlasses_89 : decode cX5_withGlasses 89 = .ok (.lload_n 3, 1) := by decide +kernel
theorem dX5_withGlasses_90 : decode cX5_withGlasses 90 = .ok (.aload_n 0, 1) := by decide +kernel
theorem dX5_withGlasses_91 : decode cX5_withGlasses 91 = .ok (.iload 5, 2) := by decide +kernel
theorem dX5_withGlasses_93 : decode cX5_withGlasses 93 = .ok (.invokevirtual 292, 3) := by decide +kernel
theorem dX5_withGlasses_96 : decode cX5_withGlasses 96 = .ok (.invokestatic 246, 3) := by decide +kernel
theorem dX5_withGlasses_99 : decode cX5_withGlasses 99 = .ok (.lstore_n 3, 1) := by decide +kernel
theorem dX5_withGlasses_100 : decode cX5_withGlasses 100 = .ok (.iinc 5 1, 3) := by decide +kernel
theorem dX5_withGlasses_103 : decode cX5_withGlasses 103 = .ok (.goto (-87), 3) := by decide +kernel
theorem dX5_withGlasses_106 : decode cX5_withGlasses 106 = .ok (.lload_n 3, 1) := by decide +kernel
theorem dX5_withGlasses_107 : decode cX5_withGlasses 107 = .ok (.lreturn, 1) := by decide +kernel
set_option maxRecDepth 20000 in
theorem ggX5_withDesigns_X5_doubletCount : GoodIn wsX5_withDesigns wsX5_doubletCount := goodIn_r _ [5, 6, 7, 8, 9, 10, 11, 12, 13, 14, 15, 16, 17, 18, 19, 20, 21, 22, 23, 24, 25, 26, 27, 28, 29, 30, 31, 32, 33, 34, 35, 36, 37, 38, 39, 40, 41, 42, 43, 44, 45, 46, 47, 48, 49, 50, 51, 52, 112, 113, 114, 115, 116, 117, 118, 119, 120, 121, 122, 123, 124, 125, 126, 127] (by decide +kernel) (by decide +kernel)
set_option maxRecDepth 20000 in
theorem gX5_withDesigns_X5_doubletCount : GoodIn wsX5_withDesigns (wsV RX5 295 RX5 yX5_doubletCount wsX5_doubletCount) := goodIn_app (goodIn_of _ (by decide +kernel)) ggX5_withDesigns_X5_doubletCount
set_option maxRecDepth 20000 in
theorem ggX5_withDesigns_X5_mixed : GoodIn wsX5_withDesigns wsX5_mixed := goodIn_r _ [55, 56] (by decide +kernel) (by decide +kernel)
set_option maxRecDepth 20000 in
theorem gX5_withDesigns_X5_mixed : GoodIn wsX5_withDesigns (va_wsS RX5 246 yX5_mixed wsX5_mixed) := goodIn_app (goodIn_of _ (by decide +kernel)) ggX5_withDesigns_X5_mixed
set_option maxRecDepth 20000 in
theorem ggX5_withDesigns_X5_doubletAt : GoodIn wsX5_withDesigns wsX5_doubletAt := goodIn_r _ [60, 6, 7, 61, 8, 9, 10, 11, 12, 13, 14, 15, 16, 17, 18, 19, 20, 21, 22, 23, 24, 25, 26, 27, 28, 29, 30, 31, 32, 33, 34, 35, 36, 37, 38, 39, 40, 41, 42, 43, 44, 45, 46, 47, 48, 49, 50, 51, 52, 62, 63, 64, 65, 66, 67, 68, 69, 70, 71, 72, 73, 74, 75, 76, 77, 78, 79, 80, 81, 82, 112, 113, 114, 115, 116, 117, 118, 119, 120, 121, 122, 123, 124, 125, 126, 127] (by decide +kernel) (by decide +kernel)
set_option maxRecDepth 20000 in
theorem gX5_withDesigns_X5_doubletAt : GoodIn wsX5_withDesigns (wsV RX5 298 RX5 yX5_doubletAt wsX5_doubletAt) := goodIn_app (goodIn_of _ (by decide +kernel)) ggX5_withDesigns_X5_doubletAt
set_option maxRecDepth 20000 in
theorem ggX5_withDesigns_X5_bestTriplet : GoodIn wsX5_withDesigns wsX5_bestTriplet := goodIn_r _ [86, 61, 7, 87, 88, 89, 4, 90, 91, 92, 93, 40, 94, 95, 96, 97, 17, 98, 19, 20, 21, 22, 23, 24, 99, 44, 45, 46, 25, 26, 27, 28, 29, 30, 47, 48, 49, 50, 100, 101, 102, 103, 104, 39, 41, 105, 106, 107, 108, 109, 110, 111, 112, 113, 114, 115, 116, 123, 124, 125, 126, 127] (by decide +kernel) (by decide +kernel)
set_option maxRecDepth 20000 in
theorem gX5_withDesigns_X5_bestTriplet : GoodIn wsX5_withDesigns (wsV RX5 302 RX5 yX5_bestTriplet wsX5_bestTriplet) := goodIn_app (goodIn_of _ (by decide +kernel)) ggX5_withDesigns_X5_bestTriplet
theorem dX5_withDesigns_0 : decode cX5_withDesigns 0 = .ok (.lload_n 1, 1) := by decide +kernel
theorem dX5_withDesigns_1 : decode cX5_withDesigns 1 = .ok (.aload_n 0, 1) := by decide +kernel
theorem dX5_withDesigns_2 : decode cX5_withDesigns 2 = .ok (.invokevirtual 295, 3) := by decide +kernel
theorem dX5_withDesigns_5 : decode cX5_withDesigns 5 = .ok (.invokestatic 246, 3) := by decide +kernel
theorem dX5_withDesigns_8 : decode cX5_withDesigns 8 = .ok (.lstore_n 3, 1) := by decide +kernel
theorem dX5_withDesigns_9 : decode cX5_withDesigns 9 = .ok (.iconst 0, 1) := by decide +kernel
theorem dX5_withDesigns_10 : decode cX5_withDesigns 10 = .ok (.istore 5, 2) := by decide +kernel
theorem dX5_withDesigns_12 : decode cX5_withDesigns 12 = .ok (.iload 5, 2) := by decide +kernel
theorem dX5_withDesigns_14 : decode cX5_withDesigns 14 = .ok (.iconst 4, 1) := by decide +kernel
theorem dX5_withDesigns_15 : decode cX5_withDesigns 15 = .ok (.if_icmp .ge 33, 3) := by decide +kernel
theorem dX5_withDesigns_18 : decode cX5_withDesigns 18 = .ok (.lload_n 3, 1) := by decide +kernel
theorem dX5_withDesigns_19 : decode cX5_withDesigns 19 = .ok (.aload_n 0, 1) := by decide +kernel
theorem dX5_withDesigns_20 : decode cX5_withDesigns 20 = .ok (.iconst 0, 1) := by decide +kernel
theorem dX5_withDesigns_21 : decode cX5_withDesigns 21 = .ok (.iload 5, 2) := by decide +kernel
theorem dX5_withDesigns_23 : decode cX5_withDesigns 23 = .ok (.invokevirtual 298, 3) := by decide +kernel
theorem dX5_withDesigns_26 : decode cX5_withDesigns 26 = .ok (.invokestatic 246, 3) := by decide +kernel
theorem dX5_withDesigns_29 : decode cX5_withDesigns 29 = .ok (.lstore_n 3, 1) := by decide +kernel
theorem dX5_withDesigns_30 : decode cX5_withDesigns 30 = .ok (.lload_n 3, 1) := by decide +kernel
theorem dX5_withDesigns_31 : decode cX5_withDesigns 31 = .ok (.aload_n 0, 1) := by decide +kernel
theorem dX5_withDesigns_32 : decode cX5_withDesigns 32 = .ok (.iconst 1, 1) := by decide +kernel
theorem dX5_withDesigns_33 : decode cX5_withDesigns 33 = .ok (.iload 5, 2) := by decide +kernel
theorem dX5_withDesigns_35 : decode cX5_withDesigns 35 = .ok (.invokevirtual 298, 3) := by decide +kernel
theorem dX5_withDesigns_38 : decode cX5_withDesigns 38 = .ok (.invokestatic 246, 3) := by decide +kernel
theorem dX5_withDesigns_41 : decode cX5_withDesigns 41 = .ok (.lstore_n 3, 1) := by decide +kernel
theorem dX5_withDesigns_42 : decode cX5_withDesigns 42 = .ok (.iinc 5 1, 3) := by decide +kernel
theorem dX5_withDesigns_45 : decode cX5_withDesigns 45 = .ok (.goto (-33), 3) := by decide +kernel
theorem dX5_withDesigns_48 : decode cX5_withDesigns 48 = .ok (.lload_n 3, 1) := by decide +kernel
theorem dX5_withDesigns_49 : decode cX5_withDesigns 49 = .ok (.aload_n 0, 1) := by decide +kernel
theorem dX5_withDesigns_50 : decode cX5_withDesigns 50 = .ok (.invokevirtual 302, 3) := by decide +kernel
theorem dX5_withDesigns_53 : decode cX5_withDesigns 53 = .ok (.invokestatic 246, 3) := by decide +kernel
theorem dX5_withDesigns_56 : decode cX5_withDesigns 56 = .ok (.lreturn, 1) := by decide +kernel
set_option maxRecDepth 20000 in
theorem ggX5_withLenses_X5_mixed : GoodIn wsX5_withLenses wsX5_mixed := goodIn_r _ [5, 6] (by decide +kernel) (by decide +kernel)
set_option maxRecDepth 20000 in
theorem gX5_withLenses_X5_mixed : GoodIn wsX5_withLenses (va_wsS RX5 246 yX5_mixed wsX5_mixed) := goodIn_app (goodIn_of _ (by decide +kernel)) ggX5_withLenses_X5_mixed
set_option maxRecDepth 20000 in
theorem ggX5_withLenses_X3_glassOf : GoodIn wsX5_withLenses wsX3_glassOf := goodIn_r _ [11, 12, 91, 92, 93] (by decide +kernel) (by decide +kernel)
set_option maxRecDepth 20000 in
theorem gX5_withLenses_X3_glassOf : GoodIn wsX5_withLenses (wsV RX5 197 RX3 yX3_glassOf wsX3_glassOf) := goodIn_app (goodIn_of _ (by decide +kernel)) ggX5_withLenses_X3_glassOf
set_option maxRecDepth 20000 in
theorem ggX5_withLenses_X3_powerOf : GoodIn wsX5_withLenses wsX3_powerOf := goodIn_r _ [16, 17, 91, 92, 93] (by decide +kernel) (by decide +kernel)
set_option maxRecDepth 20000 in
theorem gX5_withLenses_X3_powerOf : GoodIn wsX5_withLenses (wsV RX5 209 RX3 yX3_powerOf wsX3_powerOf) := goodIn_app (goodIn_of _ (by decide +kernel)) ggX5_withLenses_X3_powerOf
set_option maxRecDepth 20000 in
theorem ggX5_withLenses_X5_bestSurfaces : GoodIn wsX5_withLenses wsX5_bestSurfaces := goodIn_r _ [21, 1, 22, 23, 24, 25, 26, 27, 28, 29, 30, 31, 32, 33, 10, 34, 35, 7, 8, 9, 11, 12, 36, 37, 38, 39, 40, 41, 42, 13, 14, 15, 16, 17, 43, 44, 45, 4, 46, 47, 48, 49, 50, 51, 52, 53, 54, 55, 56, 57, 58, 59, 60, 86, 87, 88, 89, 90, 94, 95, 91, 92, 93, 96, 97, 98, 99, 100] (by decide +kernel) (by decide +kernel)
set_option maxRecDepth 20000 in
theorem gX5_withLenses_X5_bestSurfaces : GoodIn wsX5_withLenses (wsV RX5 305 RX5 yX5_bestSurfaces wsX5_bestSurfaces) := goodIn_app (goodIn_of _ (by decide +kernel)) ggX5_withLenses_X5_bestSurfaces
set_option maxRecDepth 20000 in
theorem ggX5_withLenses_X5_systemPower : GoodIn wsX5_withLenses wsX5_systemPower := goodIn_r _ [64, 1, 23, 65, 66, 67, 4, 68, 69, 70, 71, 10, 72, 35, 12, 73, 74, 75, 76, 77, 17, 78, 79, 80, 81, 39, 82, 83, 41, 84, 85, 37, 38, 40, 42, 55, 56, 57, 58, 59, 60, 86, 87, 88, 89, 90, 91, 92, 93, 96, 97, 98, 99, 100] (by decide +kernel) (by decide +kernel)
set_option maxRecDepth 20000 in
theorem gX5_withLenses_X5_systemPower : GoodIn wsX5_withLenses (wsV RX5 239 RX5 yX5_systemPower wsX5_systemPower) := goodIn_app (goodIn_of _ (by decide +kernel)) ggX5_withLenses_X5_systemPower
theorem dX5_withLenses_0 : decode cX5_withLenses 0 = .ok (.lload_n 1, 1) := by decide +kernel
theorem dX5_withLenses_1 : decode cX5_withLenses 1 = .ok (.aload_n 0, 1) := by decide +kernel
theorem dX5_withLenses_2 : decode cX5_withLenses 2 = .ok (.getfield 33, 3) := by decide +kernel
theorem dX5_withLenses_5 : decode cX5_withLenses 5 = .ok (.getfield 178, 3) := by decide +kernel
theorem dX5_withLenses_8 : decode cX5_withLenses 8 = .ok (.i2l, 1) := by decide +kernel
theorem dX5_withLenses_9 : decode cX5_withLenses 9 = .ok (.invokestatic 246, 3) := by decide +kernel
theorem dX5_withLenses_12 : decode cX5_withLenses 12 = .ok (.lstore_n 3, 1) := by decide +kernel
theorem dX5_withLenses_13 : decode cX5_withLenses 13 = .ok (.iconst 0, 1) := by decide +kernel
theorem dX5_withLenses_14 : decode cX5_withLenses 14 = .ok (.istore 5, 2) := by decide +kernel
theorem dX5_withLenses_16 : decode cX5_withLenses 16 = .ok (.iload 5, 2) := by decide +kernel
theorem dX5_withLenses_18 : decode cX5_withLenses 18 = .ok (.aload_n 0, 1) := by decide +kernel
theorem dX5_withLenses_19 : decode cX5_withLenses 19 = .ok (.getfield 33, 3) := by decide +kernel
theorem dX5_withLenses_22 : decode cX5_withLenses 22 = .ok (.getfield 178, 3) := by decide +kernel
theorem dX5_withLenses_25 : decode cX5_withLenses 25 = .ok (.if_icmp .ge 50, 3) := by decide +kernel
theorem dX5_withLenses_28 : decode cX5_withLenses 28 = .ok (.lload_n 3, 1) := by decide +kernel
theorem dX5_withLenses_29 : decode cX5_withLenses 29 = .ok (.aload_n 0, 1) := by decide +kernel
theorem dX5_withLenses_30 : decode cX5_withLenses 30 = .ok (.getfield 33, 3) := by decide +kernel
theorem dX5_withLenses_33 : decode cX5_withLenses 33 = .ok (.iload 5, 2) := by decide +kernel
theorem dX5_withLenses_35 : decode cX5_withLenses 35 = .ok (.invokevirtual 197, 3) := by decide +kernel
theorem dX5_withLenses_38 : decode cX5_withLenses 38 = .ok (.i2l, 1) := by decide +kernel
theorem dX5_withLenses_39 : decode cX5_withLenses 39 = .ok (.invokestatic 246, 3) := by decide +kernel
theorem dX5_withLenses_42 : decode cX5_withLenses 42 = .ok (.lstore_n 3, 1) := by decide +kernel
theorem dX5_withLenses_43 : decode cX5_withLenses 43 = .ok (.lload_n 3, 1) := by decide +kernel
theorem dX5_withLenses_44 : decode cX5_withLenses 44 = .ok (.aload_n 0, 1) := by decide +kernel
theorem dX5_withLenses_45 : decode cX5_withLenses 45 = .ok (.getfield 33, 3) := by decide +kernel
theorem dX5_withLenses_48 : decode cX5_withLenses 48 = .ok (.iload 5, 2) := by decide +kernel
theorem dX5_withLenses_50 : decode cX5_withLenses 50 = .ok (.invokevirtual 209, 3) := by decide +kernel
theorem dX5_withLenses_53 : decode cX5_withLenses 53 = .ok (.i2l, 1) := by decide +kernel
theorem dX5_withLenses_54 : decode cX5_withLenses 54 = .ok (.invokestatic 246, 3) := by decide +kernel
theorem dX5_withLenses_57 : decode cX5_withLenses 57 = .ok (.lstore_n 3, 1) := by decide +kernel
theorem dX5_withLenses_58 : decode cX5_withLenses 58 = .ok (.lload_n 3, 1) := by decide +kernel
theorem dX5_withLenses_59 : decode cX5_withLenses 59 = .ok (.aload_n 0, 1) := by decide +kernel
theorem dX5_withLenses_60 : decode cX5_withLenses 60 = .ok (.iload 5, 2) := by decide +kernel
theorem dX5_withLenses_62 : decode cX5_withLenses 62 = .ok (.invokevirtual 305, 3) := by decide +kernel
theorem dX5_withLenses_65 : decode cX5_withLenses 65 = .ok (.invokestatic 246, 3) := by decide +kernel
theorem dX5_withLenses_68 : decode cX5_withLenses 68 = .ok (.lstore_n 3, 1) := by decide +kernel
theorem dX5_withLenses_69 : decode cX5_withLenses 69 = .ok (.iinc 5 1, 3) := by decide +kernel
theorem dX5_withLenses_72 : decode cX5_withLenses 72 = .ok (.goto (-56), 3) := by decide +kernel
theorem dX5_withLenses_75 : decode cX5_withLenses 75 = .ok (.iconst 0, 1) := by decide +kernel
theorem dX5_withLenses_76 : decode cX5_withLenses 76 = .ok (.istore 5, 2) := by decide +kernel
theorem dX5_withLenses_78 : decode cX5_withLenses 78 = .ok (.iload 5, 2) := by decide +kernel
theorem dX5_withLenses_80 : decode cX5_withLenses 80 = .ok (.iconst 2, 1) := by decide +kernel
theorem dX5_withLenses_81 : decode cX5_withLenses 81 = .ok (.if_icmp .gt 20, 3) := by decide +kernel
theorem dX5_withLenses_84 : decode cX5_withLenses 84 = .ok (.lload_n 3, 1) := by decide +kernel
theorem dX5_withLenses_85 : decode cX5_withLenses 85 = .ok (.aload_n 0, 1) := by decide +kernel
theorem dX5_withLenses_86 : decode cX5_withLenses 86 = .ok (.iload 5, 2) := by decide +kernel
theorem dX5_withLenses_88 : decode cX5_withLenses 88 = .ok (.invokevirtual 239, 3) := by decide +kernel
theorem dX5_withLenses_91 : decode cX5_withLenses 91 = .ok (.invokestatic 246, 3) := by decide +kernel
theorem dX5_withLenses_94 : decode cX5_withLenses 94 = .ok (.lstore_n 3, 1) := by decide +kernel
theorem dX5_withLenses_95 : decode cX5_withLenses 95 = .ok (.iinc 5 1, 3) := by decide +kernel
theorem dX5_withLenses_98 : decode cX5_withLenses 98 = .ok (.goto (-20), 3) := by decide +kernel
theorem dX5_withLenses_101 : decode cX5_withLenses 101 = .ok (.lload_n 3, 1) := by decide +kernel
theorem dX5_withLenses_102 : decode cX5_withLenses 102 = .ok (.lreturn, 1) := by decide +kernel
set_option maxRecDepth 20000 in
theorem ggX5_withPlates_X5_mixed : GoodIn wsX5_withPlates wsX5_mixed := goodIn_r _ [5, 6] (by decide +kernel) (by decide +kernel)
set_option maxRecDepth 20000 in
theorem gX5_withPlates_X5_mixed : GoodIn wsX5_withPlates (va_wsS RX5 246 yX5_mixed wsX5_mixed) := goodIn_app (goodIn_of _ (by decide +kernel)) ggX5_withPlates_X5_mixed
set_option maxRecDepth 20000 in
theorem ggX5_withPlates_X4_signedRadius : GoodIn wsX5_withPlates wsX4_signedRadius := goodIn_r _ [11, 12, 18, 19] (by decide +kernel) (by decide +kernel)
set_option maxRecDepth 20000 in
theorem gX5_withPlates_X4_signedRadius : GoodIn wsX5_withPlates (wsV RX5 273 RX4 yX4_signedRadius wsX4_signedRadius) := goodIn_app (goodIn_of _ (by decide +kernel)) ggX5_withPlates_X4_signedRadius
theorem dX5_withPlates_0 : decode cX5_withPlates 0 = .ok (.lload_n 1, 1) := by decide +kernel
theorem dX5_withPlates_1 : decode cX5_withPlates 1 = .ok (.aload_n 0, 1) := by decide +kernel
theorem dX5_withPlates_2 : decode cX5_withPlates 2 = .ok (.getfield 40, 3) := by decide +kernel
theorem dX5_withPlates_5 : decode cX5_withPlates 5 = .ok (.getfield 204, 3) := by decide +kernel
theorem dX5_withPlates_8 : decode cX5_withPlates 8 = .ok (.i2l, 1) := by decide +kernel
theorem dX5_withPlates_9 : decode cX5_withPlates 9 = .ok (.invokestatic 246, 3) := by decide +kernel
theorem dX5_withPlates_12 : decode cX5_withPlates 12 = .ok (.lstore_n 3, 1) := by decide +kernel
theorem dX5_withPlates_13 : decode cX5_withPlates 13 = .ok (.iconst 0, 1) := by decide +kernel
theorem dX5_withPlates_14 : decode cX5_withPlates 14 = .ok (.istore 5, 2) := by decide +kernel
theorem dX5_withPlates_16 : decode cX5_withPlates 16 = .ok (.iload 5, 2) := by decide +kernel
theorem dX5_withPlates_18 : decode cX5_withPlates 18 = .ok (.aload_n 0, 1) := by decide +kernel
theorem dX5_withPlates_19 : decode cX5_withPlates 19 = .ok (.getfield 40, 3) := by decide +kernel
theorem dX5_withPlates_22 : decode cX5_withPlates 22 = .ok (.getfield 204, 3) := by decide +kernel
theorem dX5_withPlates_25 : decode cX5_withPlates 25 = .ok (.if_icmp .ge 25, 3) := by decide +kernel
theorem dX5_withPlates_28 : decode cX5_withPlates 28 = .ok (.lload_n 3, 1) := by decide +kernel
theorem dX5_withPlates_29 : decode cX5_withPlates 29 = .ok (.aload_n 0, 1) := by decide +kernel
theorem dX5_withPlates_30 : decode cX5_withPlates 30 = .ok (.getfield 40, 3) := by decide +kernel
theorem dX5_withPlates_33 : decode cX5_withPlates 33 = .ok (.iconst 2, 1) := by decide +kernel
theorem dX5_withPlates_34 : decode cX5_withPlates 34 = .ok (.iload 5, 2) := by decide +kernel
theorem dX5_withPlates_36 : decode cX5_withPlates 36 = .ok (.imul, 1) := by decide +kernel
theorem dX5_withPlates_37 : decode cX5_withPlates 37 = .ok (.invokevirtual 273, 3) := by decide +kernel
theorem dX5_withPlates_40 : decode cX5_withPlates 40 = .ok (.invokestatic 246, 3) := by decide +kernel
theorem dX5_withPlates_43 : decode cX5_withPlates 43 = .ok (.lstore_n 3, 1) := by decide +kernel
theorem dX5_withPlates_44 : decode cX5_withPlates 44 = .ok (.iinc 5 1, 3) := by decide +kernel
theorem dX5_withPlates_47 : decode cX5_withPlates 47 = .ok (.goto (-31), 3) := by decide +kernel
theorem dX5_withPlates_50 : decode cX5_withPlates 50 = .ok (.lload_n 3, 1) := by decide +kernel
theorem dX5_withPlates_51 : decode cX5_withPlates 51 = .ok (.lreturn, 1) := by decide +kernel
set_option maxRecDepth 20000 in
theorem ggX5_withBuffer_X5_mixed : GoodIn wsX5_withBuffer wsX5_mixed := goodIn_r _ [5, 6] (by decide +kernel) (by decide +kernel)
set_option maxRecDepth 20000 in
theorem gX5_withBuffer_X5_mixed : GoodIn wsX5_withBuffer (va_wsS RX5 246 yX5_mixed wsX5_mixed) := goodIn_app (goodIn_of _ (by decide +kernel)) ggX5_withBuffer_X5_mixed
set_option maxRecDepth 20000 in
theorem ggX5_withBuffer_X2_codeAt : GoodIn wsX5_withBuffer wsX2_codeAt := goodIn_r _ [11, 12, 13, 19, 20] (by decide +kernel) (by decide +kernel)
set_option maxRecDepth 20000 in
theorem gX5_withBuffer_X2_codeAt : GoodIn wsX5_withBuffer (wsV RX5 308 RX2 yX2_codeAt wsX2_codeAt) := goodIn_app (goodIn_of _ (by decide +kernel)) ggX5_withBuffer_X2_codeAt
theorem dX5_withBuffer_0 : decode cX5_withBuffer 0 = .ok (.lload_n 1, 1) := by decide +kernel
theorem dX5_withBuffer_1 : decode cX5_withBuffer 1 = .ok (.aload_n 0, 1) := by decide +kernel
theorem dX5_withBuffer_2 : decode cX5_withBuffer 2 = .ok (.getfield 12, 3) := by decide +kernel
theorem dX5_withBuffer_5 : decode cX5_withBuffer 5 = .ok (.getfield 46, 3) := by decide +kernel
theorem dX5_withBuffer_8 : decode cX5_withBuffer 8 = .ok (.i2l, 1) := by decide +kernel
theorem dX5_withBuffer_9 : decode cX5_withBuffer 9 = .ok (.invokestatic 246, 3) := by decide +kernel
theorem dX5_withBuffer_12 : decode cX5_withBuffer 12 = .ok (.lstore_n 3, 1) := by decide +kernel
theorem dX5_withBuffer_13 : decode cX5_withBuffer 13 = .ok (.iconst 0, 1) := by decide +kernel
theorem dX5_withBuffer_14 : decode cX5_withBuffer 14 = .ok (.istore 5, 2) := by decide +kernel
theorem dX5_withBuffer_16 : decode cX5_withBuffer 16 = .ok (.iload 5, 2) := by decide +kernel
theorem dX5_withBuffer_18 : decode cX5_withBuffer 18 = .ok (.aload_n 0, 1) := by decide +kernel
theorem dX5_withBuffer_19 : decode cX5_withBuffer 19 = .ok (.getfield 12, 3) := by decide +kernel
theorem dX5_withBuffer_22 : decode cX5_withBuffer 22 = .ok (.getfield 46, 3) := by decide +kernel
theorem dX5_withBuffer_25 : decode cX5_withBuffer 25 = .ok (.if_icmp .ge 24, 3) := by decide +kernel
theorem dX5_withBuffer_28 : decode cX5_withBuffer 28 = .ok (.lload_n 3, 1) := by decide +kernel
theorem dX5_withBuffer_29 : decode cX5_withBuffer 29 = .ok (.aload_n 0, 1) := by decide +kernel
theorem dX5_withBuffer_30 : decode cX5_withBuffer 30 = .ok (.getfield 12, 3) := by decide +kernel
theorem dX5_withBuffer_33 : decode cX5_withBuffer 33 = .ok (.iload 5, 2) := by decide +kernel
theorem dX5_withBuffer_35 : decode cX5_withBuffer 35 = .ok (.invokevirtual 308, 3) := by decide +kernel
theorem dX5_withBuffer_38 : decode cX5_withBuffer 38 = .ok (.i2l, 1) := by decide +kernel
theorem dX5_withBuffer_39 : decode cX5_withBuffer 39 = .ok (.invokestatic 246, 3) := by decide +kernel
theorem dX5_withBuffer_42 : decode cX5_withBuffer 42 = .ok (.lstore_n 3, 1) := by decide +kernel
theorem dX5_withBuffer_43 : decode cX5_withBuffer 43 = .ok (.iinc 5 1, 3) := by decide +kernel
theorem dX5_withBuffer_46 : decode cX5_withBuffer 46 = .ok (.goto (-30), 3) := by decide +kernel
theorem dX5_withBuffer_49 : decode cX5_withBuffer 49 = .ok (.lload_n 3, 1) := by decide +kernel
theorem dX5_withBuffer_50 : decode cX5_withBuffer 50 = .ok (.lreturn, 1) := by decide +kernel
theorem dX6_init_0 : decode cX6_init 0 = .ok (.aload_n 0, 1) := by decide +kernel
theorem dX6_init_1 : decode cX6_init 1 = .ok (.invokespecial 1, 3) := by decide +kernel
theorem dX6_init_4 : decode cX6_init 4 = .ok (.aload_n 0, 1) := by decide +kernel
theorem dX6_init_5 : decode cX6_init 5 = .ok (.bipush 28, 2) := by decide +kernel
theorem dX6_init_7 : decode cX6_init 7 = .ok (.newarray .int, 2) := by decide +kernel
theorem dX6_init_9 : decode cX6_init 9 = .ok (.putfield 7, 3) := by decide +kernel
theorem dX6_init_12 : decode cX6_init 12 = .ok (.aload_n 0, 1) := by decide +kernel
theorem dX6_init_13 : decode cX6_init 13 = .ok (.bipush 20, 2) := by decide +kernel
theorem dX6_init_15 : decode cX6_init 15 = .ok (.newarray .long, 2) := by decide +kernel
theorem dX6_init_17 : decode cX6_init 17 = .ok (.putfield 13, 3) := by decide +kernel
theorem dX6_init_20 : decode cX6_init 20 = .ok (.aload_n 0, 1) := by decide +kernel
theorem dX6_init_21 : decode cX6_init 21 = .ok (.bipush 60, 2) := by decide +kernel
theorem dX6_init_23 : decode cX6_init 23 = .ok (.newarray .int, 2) := by decide +kernel
theorem dX6_init_25 : decode cX6_init 25 = .ok (.putfield 17, 3) := by decide +kernel
theorem dX6_init_28 : decode cX6_init 28 = .ok (.aload_n 0, 1) := by decide +kernel
theorem dX6_init_29 : decode cX6_init 29 = .ok (.bipush 8, 2) := by decide +kernel
theorem dX6_init_31 : decode cX6_init 31 = .ok (.newarray .int, 2) := by decide +kernel
theorem dX6_init_33 : decode cX6_init 33 = .ok (.putfield 20, 3) := by decide +kernel
theorem dX6_init_36 : decode cX6_init 36 = .ok (.aload_n 0, 1) := by decide +kernel
theorem dX6_init_37 : decode cX6_init 37 = .ok (.bipush 8, 2) := by decide +kernel
theorem dX6_init_39 : decode cX6_init 39 = .ok (.newarray .int, 2) := by decide +kernel
theorem dX6_init_41 : decode cX6_init 41 = .ok (.putfield 23, 3) := by decide +kernel
theorem dX6_init_44 : decode cX6_init 44 = .ok (.aload_n 0, 1) := by decide +kernel
theorem dX6_init_45 : decode cX6_init 45 = .ok (.bipush 16, 2) := by decide +kernel
theorem dX6_init_47 : decode cX6_init 47 = .ok (.newarray .int, 2) := by decide +kernel
theorem dX6_init_49 : decode cX6_init 49 = .ok (.putfield 26, 3) := by decide +kernel
theorem dX6_init_52 : decode cX6_init 52 = .ok (.aload_n 0, 1) := by decide +kernel
theorem dX6_init_53 : decode cX6_init 53 = .ok (.iconst 3, 1) := by decide +kernel
theorem dX6_init_54 : decode cX6_init 54 = .ok (.newarray .int, 2) := by decide +kernel
theorem dX6_init_56 : decode cX6_init 56 = .ok (.putfield 29, 3) := by decide +kernel
theorem dX6_init_59 : decode cX6_init 59 = .ok (.aload_n 0, 1) := by decide +kernel
theorem dX6_init_60 : decode cX6_init 60 = .ok (.iconst 3, 1) := by decide +kernel
theorem dX6_init_61 : decode cX6_init 61 = .ok (.newarray .long, 2) := by decide +kernel
theorem dX6_init_63 : decode cX6_init 63 = .ok (.putfield 32, 3) := by decide +kernel
theorem dX6_init_66 : decode cX6_init 66 = .ok (.return_, 1) := by decide +kernel
theorem dX6_within_0 : decode cX6_within 0 = .ok (.lload_n 0, 1) := by decide +kernel
theorem dX6_within_1 : decode cX6_within 1 = .ok (.lload_n 2, 1) := by decide +kernel
theorem dX6_within_2 : decode cX6_within 2 = .ok (.lcmp, 1) := by decide +kernel
theorem dX6_within_3 : decode cX6_within 3 = .ok (.ifCond .lt 14, 3) := by decide +kernel
theorem dX6_within_6 : decode cX6_within 6 = .ok (.lload_n 0, 1) := by decide +kernel
theorem dX6_within_7 : decode cX6_within 7 = .ok (.lload 4, 2) := by decide +kernel
theorem dX6_within_9 : decode cX6_within 9 = .ok (.lcmp, 1) := by decide +kernel
theorem dX6_within_10 : decode cX6_within 10 = .ok (.ifCond .gt 7, 3) := by decide +kernel
theorem dX6_within_13 : decode cX6_within 13 = .ok (.iconst 1, 1) := by decide +kernel
theorem dX6_within_14 : decode cX6_within 14 = .ok (.goto 4, 3) := by decide +kernel
theorem dX6_within_17 : decode cX6_within 17 = .ok (.iconst 0, 1) := by decide +kernel
theorem dX6_within_18 : decode cX6_within 18 = .ok (.ireturn, 1) := by decide +kernel
theorem dX6_floor_0 : decode cX6_floor 0 = .ok (.lload_n 0, 1) := by decide +kernel
theorem dX6_floor_1 : decode cX6_floor 1 = .ok (.lload_n 2, 1) := by decide +kernel
theorem dX6_floor_2 : decode cX6_floor 2 = .ok (.ldiv, 1) := by decide +kernel
theorem dX6_floor_3 : decode cX6_floor 3 = .ok (.lstore 4, 2) := by decide +kernel
theorem dX6_floor_5 : decode cX6_floor 5 = .ok (.lload_n 0, 1) := by decide +kernel
theorem dX6_floor_6 : decode cX6_floor 6 = .ok (.lload_n 2, 1) := by decide +kernel
theorem dX6_floor_7 : decode cX6_floor 7 = .ok (.lrem, 1) := by decide +kernel
theorem dX6_floor_8 : decode cX6_floor 8 = .ok (.lconst 0, 1) := by decide +kernel
theorem dX6_floor_9 : decode cX6_floor 9 = .ok (.lcmp, 1) := by decide +kernel
theorem dX6_floor_10 : decode cX6_floor 10 = .ok (.ifCond .eq 35, 3) := by decide +kernel
theorem dX6_floor_13 : decode cX6_floor 13 = .ok (.lload_n 0, 1) := by decide +kernel
theorem dX6_floor_14 : decode cX6_floor 14 = .ok (.lconst 0, 1) := by decide +kernel
theorem dX6_floor_15 : decode cX6_floor 15 = .ok (.lcmp, 1) := by decide +kernel
theorem dX6_floor_16 : decode cX6_floor 16 = .ok (.ifCond .ge 7, 3) := by decide +kernel
theorem dX6_floor_19 : decode cX6_floor 19 = .ok (.iconst 1, 1) := by decide +kernel
theorem dX6_floor_20 : decode cX6_floor 20 = .ok (.goto 4, 3) := by decide +kernel
theorem dX6_floor_23 : decode cX6_floor 23 = .ok (.iconst 0, 1) := by decide +kernel
theorem dX6_floor_24 : decode cX6_floor 24 = .ok (.lload_n 2, 1) := by decide +kernel
theorem dX6_floor_25 : decode cX6_floor 25 = .ok (.lconst 0, 1) := by decide +kernel
theorem dX6_floor_26 : decode cX6_floor 26 = .ok (.lcmp, 1) := by decide +kernel
theorem dX6_floor_27 : decode cX6_floor 27 = .ok (.ifCond .ge 7, 3) := by decide +kernel
theorem dX6_floor_30 : decode cX6_floor 30 = .ok (.iconst 1, 1) := by decide +kernel
theorem dX6_floor_31 : decode cX6_floor 31 = .ok (.goto 4, 3) := by decide +kernel
theorem dX6_floor_34 : decode cX6_floor 34 = .ok (.iconst 0, 1) := by decide +kernel
theorem dX6_floor_35 : decode cX6_floor 35 = .ok (.if_icmp .eq 10, 3) := by decide +kernel
theorem dX6_floor_38 : decode cX6_floor 38 = .ok (.lload 4, 2) := by decide +kernel
theorem dX6_floor_40 : decode cX6_floor 40 = .ok (.lconst 1, 1) := by decide +kernel
theorem dX6_floor_41 : decode cX6_floor 41 = .ok (.lsub, 1) := by decide +kernel
theorem dX6_floor_42 : decode cX6_floor 42 = .ok (.goto 5, 3) := by decide +kernel
theorem dX6_floor_45 : decode cX6_floor 45 = .ok (.lload 4, 2) := by decide +kernel
theorem dX6_floor_47 : decode cX6_floor 47 = .ok (.lreturn, 1) := by decide +kernel
theorem dX6_size_0 : decode cX6_size 0 = .ok (.lload_n 0, 1) := by decide +kernel
theorem dX6_size_1 : decode cX6_size 1 = .ok (.lconst 0, 1) := by decide +kernel
theorem dX6_size_2 : decode cX6_size 2 = .ok (.lcmp, 1) := by decide +kernel
theorem dX6_size_3 : decode cX6_size 3 = .ok (.ifCond .ge 8, 3) := by decide +kernel
theorem dX6_size_6 : decode cX6_size 6 = .ok (.lload_n 0, 1) := by decide +kernel
theorem dX6_size_7 : decode cX6_size 7 = .ok (.lneg, 1) := by decide +kernel
theorem dX6_size_8 : decode cX6_size 8 = .ok (.goto 4, 3) := by decide +kernel
theorem dX6_size_11 : decode cX6_size 11 = .ok (.lload_n 0, 1) := by decide +kernel
theorem dX6_size_12 : decode cX6_size 12 = .ok (.lreturn, 1) := by decide +kernel
set_option maxRecDepth 20000 in
theorem ggX6_isGlass_X6_within : GoodIn wsX6_isGlass wsX6_within := goodIn_r _ [5] (by decide +kernel) (by decide +kernel)
set_option maxRecDepth 20000 in
theorem gX6_isGlass_X6_within : GoodIn wsX6_isGlass (va_wsS RX6 39 yX6_within wsX6_within) := goodIn_app (goodIn_of _ (by decide +kernel)) ggX6_isGlass_X6_within
theorem dX6_isGlass_0 : decode cX6_isGlass 0 = .ok (.iload_n 1, 1) := by decide +kernel
theorem dX6_isGlass_1 : decode cX6_isGlass 1 = .ok (.i2l, 1) := by decide +kernel
theorem dX6_isGlass_2 : decode cX6_isGlass 2 = .ok (.lconst 0, 1) := by decide +kernel
theorem dX6_isGlass_3 : decode cX6_isGlass 3 = .ok (.aload_n 0, 1) := by decide +kernel
theorem dX6_isGlass_4 : decode cX6_isGlass 4 = .ok (.getfield 35, 3) := by decide +kernel
theorem dX6_isGlass_7 : decode cX6_isGlass 7 = .ok (.iconst 1, 1) := by decide +kernel
theorem dX6_isGlass_8 : decode cX6_isGlass 8 = .ok (.isub, 1) := by decide +kernel
theorem dX6_isGlass_9 : decode cX6_isGlass 9 = .ok (.i2l, 1) := by decide +kernel
theorem dX6_isGlass_10 : decode cX6_isGlass 10 = .ok (.invokestatic 39, 3) := by decide +kernel
theorem dX6_isGlass_13 : decode cX6_isGlass 13 = .ok (.ireturn, 1) := by decide +kernel
set_option maxRecDepth 20000 in
theorem ggX6_isLens_X6_within : GoodIn wsX6_isLens wsX6_within := goodIn_r _ [5] (by decide +kernel) (by decide +kernel)
set_option maxRecDepth 20000 in
theorem gX6_isLens_X6_within : GoodIn wsX6_isLens (va_wsS RX6 39 yX6_within wsX6_within) := goodIn_app (goodIn_of _ (by decide +kernel)) ggX6_isLens_X6_within
theorem dX6_isLens_0 : decode cX6_isLens 0 = .ok (.iload_n 1, 1) := by decide +kernel
theorem dX6_isLens_1 : decode cX6_isLens 1 = .ok (.i2l, 1) := by decide +kernel
theorem dX6_isLens_2 : decode cX6_isLens 2 = .ok (.lconst 0, 1) := by decide +kernel
theorem dX6_isLens_3 : decode cX6_isLens 3 = .ok (.aload_n 0, 1) := by decide +kernel
theorem dX6_isLens_4 : decode cX6_isLens 4 = .ok (.getfield 43, 3) := by decide +kernel
theorem dX6_isLens_7 : decode cX6_isLens 7 = .ok (.iconst 1, 1) := by decide +kernel
theorem dX6_isLens_8 : decode cX6_isLens 8 = .ok (.isub, 1) := by decide +kernel
theorem dX6_isLens_9 : decode cX6_isLens 9 = .ok (.i2l, 1) := by decide +kernel
theorem dX6_isLens_10 : decode cX6_isLens 10 = .ok (.invokestatic 39, 3) := by decide +kernel
theorem dX6_isLens_13 : decode cX6_isLens 13 = .ok (.ireturn, 1) := by decide +kernel
set_option maxRecDepth 20000 in
theorem ggX6_isColour_X6_within : GoodIn wsX6_isColour wsX6_within := goodIn_r _ [5] (by decide +kernel) (by decide +kernel)
set_option maxRecDepth 20000 in
theorem gX6_isColour_X6_within : GoodIn wsX6_isColour (va_wsS RX6 39 yX6_within wsX6_within) := goodIn_app (goodIn_of _ (by decide +kernel)) ggX6_isColour_X6_within
theorem dX6_isColour_0 : decode cX6_isColour 0 = .ok (.iload_n 0, 1) := by decide +kernel
theorem dX6_isColour_1 : decode cX6_isColour 1 = .ok (.i2l, 1) := by decide +kernel
theorem dX6_isColour_2 : decode cX6_isColour 2 = .ok (.lconst 0, 1) := by decide +kernel
theorem dX6_isColour_3 : decode cX6_isColour 3 = .ok (.ldc2_w 46, 3) := by decide +kernel
theorem dX6_isColour_6 : decode cX6_isColour 6 = .ok (.invokestatic 39, 3) := by decide +kernel
theorem dX6_isColour_9 : decode cX6_isColour 9 = .ok (.ireturn, 1) := by decide +kernel
theorem dX6_a_0 : decode cX6_a 0 = .ok (.aload_n 0, 1) := by decide +kernel
theorem dX6_a_1 : decode cX6_a 1 = .ok (.getfield 17, 3) := by decide +kernel
theorem dX6_a_4 : decode cX6_a 4 = .ok (.iconst 3, 1) := by decide +kernel
theorem dX6_a_5 : decode cX6_a 5 = .ok (.iload_n 1, 1) := by decide +kernel
theorem dX6_a_6 : decode cX6_a 6 = .ok (.imul, 1) := by decide +kernel
theorem dX6_a_7 : decode cX6_a 7 = .ok (.iconst 1, 1) := by decide +kernel
theorem dX6_a_8 : decode cX6_a 8 = .ok (.iadd, 1) := by decide +kernel
theorem dX6_a_9 : decode cX6_a 9 = .ok (.iaload, 1) := by decide +kernel
theorem dX6_a_10 : decode cX6_a 10 = .ok (.ldc 48, 2) := by decide +kernel
theorem dX6_a_12 : decode cX6_a 12 = .ok (.isub, 1) := by decide +kernel
theorem dX6_a_13 : decode cX6_a 13 = .ok (.i2l, 1) := by decide +kernel
theorem dX6_a_14 : decode cX6_a 14 = .ok (.lreturn, 1) := by decide +kernel
theorem dX6_b_0 : decode cX6_b 0 = .ok (.aload_n 0, 1) := by decide +kernel
theorem dX6_b_1 : decode cX6_b 1 = .ok (.getfield 17, 3) := by decide +kernel
theorem dX6_b_4 : decode cX6_b 4 = .ok (.iconst 3, 1) := by decide +kernel
theorem dX6_b_5 : decode cX6_b 5 = .ok (.iload_n 1, 1) := by decide +kernel
theorem dX6_b_6 : decode cX6_b 6 = .ok (.imul, 1) := by decide +kernel
theorem dX6_b_7 : decode cX6_b 7 = .ok (.iaload, 1) := by decide +kernel
theorem dX6_b_8 : decode cX6_b 8 = .ok (.aload_n 0, 1) := by decide +kernel
theorem dX6_b_9 : decode cX6_b 9 = .ok (.getfield 17, 3) := by decide +kernel
theorem dX6_b_12 : decode cX6_b 12 = .ok (.iconst 3, 1) := by decide +kernel
theorem dX6_b_13 : decode cX6_b 13 = .ok (.iload_n 1, 1) := by decide +kernel
theorem dX6_b_14 : decode cX6_b 14 = .ok (.imul, 1) := by decide +kernel
theorem dX6_b_15 : decode cX6_b 15 = .ok (.iconst 2, 1) := by decide +kernel
theorem dX6_b_16 : decode cX6_b 16 = .ok (.iadd, 1) := by decide +kernel
theorem dX6_b_17 : decode cX6_b 17 = .ok (.iaload, 1) := by decide +kernel
theorem dX6_b_18 : decode cX6_b 18 = .ok (.isub, 1) := by decide +kernel
theorem dX6_b_19 : decode cX6_b 19 = .ok (.i2l, 1) := by decide +kernel
theorem dX6_b_20 : decode cX6_b 20 = .ok (.lreturn, 1) := by decide +kernel
theorem dX6_d_0 : decode cX6_d 0 = .ok (.aload_n 0, 1) := by decide +kernel
theorem dX6_d_1 : decode cX6_d 1 = .ok (.getfield 17, 3) := by decide +kernel
theorem dX6_d_4 : decode cX6_d 4 = .ok (.iconst 3, 1) := by decide +kernel
theorem dX6_d_5 : decode cX6_d 5 = .ok (.iload_n 1, 1) := by decide +kernel
theorem dX6_d_6 : decode cX6_d 6 = .ok (.imul, 1) := by decide +kernel
theorem dX6_d_7 : decode cX6_d 7 = .ok (.iaload, 1) := by decide +kernel
theorem dX6_d_8 : decode cX6_d 8 = .ok (.aload_n 0, 1) := by decide +kernel
theorem dX6_d_9 : decode cX6_d 9 = .ok (.getfield 17, 3) := by decide +kernel
theorem dX6_d_12 : decode cX6_d 12 = .ok (.iconst 3, 1) := by decide +kernel
theorem dX6_d_13 : decode cX6_d 13 = .ok (.iload_n 1, 1) := by decide +kernel
theorem dX6_d_14 : decode cX6_d 14 = .ok (.imul, 1) := by decide +kernel
theorem dX6_d_15 : decode cX6_d 15 = .ok (.iconst 1, 1) := by decide +kernel
theorem dX6_d_16 : decode cX6_d 16 = .ok (.iadd, 1) := by decide +kernel
theorem dX6_d_17 : decode cX6_d 17 = .ok (.iaload, 1) := by decide +kernel
theorem dX6_d_18 : decode cX6_d 18 = .ok (.isub, 1) := by decide +kernel
theorem dX6_d_19 : decode cX6_d 19 = .ok (.i2l, 1) := by decide +kernel
theorem dX6_d_20 : decode cX6_d 20 = .ok (.lreturn, 1) := by decide +kernel
set_option maxRecDepth 20000 in
theorem ggX6_append_X6_within : GoodIn wsX6_append wsX6_within := goodIn_r _ [10] (by decide +kernel) (by decide +kernel)
set_option maxRecDepth 20000 in
theorem gX6_append_X6_within : GoodIn wsX6_append (va_wsS RX6 39 yX6_within wsX6_within) := goodIn_app (goodIn_of _ (by decide +kernel)) ggX6_append_X6_within
theorem dX6_append_0 : decode cX6_append 0 = .ok (.iload_n 1, 1) := by decide +kernel
theorem dX6_append_1 : decode cX6_append 1 = .ok (.i2l, 1) := by decide +kernel
theorem dX6_append_2 : decode cX6_append 2 = .ok (.ldc2_w 49, 3) := by decide +kernel
theorem dX6_append_5 : decode cX6_append 5 = .ok (.ldc2_w 51, 3) := by decide +kernel
theorem dX6_append_8 : decode cX6_append 8 = .ok (.invokestatic 39, 3) := by decide +kernel
theorem dX6_append_11 : decode cX6_append 11 = .ok (.ifCond .ne 7, 3) := by decide +kernel
theorem dX6_append_14 : decode cX6_append 14 = .ok (.ldc2_w 53, 3) := by decide +kernel
theorem dX6_append_17 : decode cX6_append 17 = .ok (.lreturn, 1) := by decide +kernel
theorem dX6_append_18 : decode cX6_append 18 = .ok (.aload_n 0, 1) := by decide +kernel
theorem dX6_append_19 : decode cX6_append 19 = .ok (.getfield 55, 3) := by decide +kernel
theorem dX6_append_22 : decode cX6_append 22 = .ok (.bipush 28, 2) := by decide +kernel
theorem dX6_append_24 : decode cX6_append 24 = .ok (.if_icmp .ne 7, 3) := by decide +kernel
theorem dX6_append_27 : decode cX6_append 27 = .ok (.ldc2_w 58, 3) := by decide +kernel
theorem dX6_append_30 : decode cX6_append 30 = .ok (.lreturn, 1) := by decide +kernel
theorem dX6_append_31 : decode cX6_append 31 = .ok (.aload_n 0, 1) := by decide +kernel
theorem dX6_append_32 : decode cX6_append 32 = .ok (.getfield 7, 3) := by decide +kernel
theorem dX6_append_35 : decode cX6_append 35 = .ok (.aload_n 0, 1) := by decide +kernel
theorem dX6_append_36 : decode cX6_append 36 = .ok (.getfield 55, 3) := by decide +kernel
theorem dX6_append_39 : decode cX6_append 39 = .ok (.iload_n 1, 1) := by decide +kernel
theorem dX6_append_40 : decode cX6_append 40 = .ok (.iastore, 1) := by decide +kernel
theorem dX6_append_41 : decode cX6_append 41 = .ok (.aload_n 0, 1) := by decide +kernel
theorem dX6_append_42 : decode cX6_append 42 = .ok (.dup, 1) := by decide +kernel
theorem dX6_append_43 : decode cX6_append 43 = .ok (.getfield 55, 3) := by decide +kernel
theorem dX6_append_46 : decode cX6_append 46 = .ok (.iconst 1, 1) := by decide +kernel
theorem dX6_append_47 : decode cX6_append 47 = .ok (.iadd, 1) := by decide +kernel
theorem dX6_append_48 : decode cX6_append 48 = .ok (.putfield 55, 3) := by decide +kernel
theorem dX6_append_51 : decode cX6_append 51 = .ok (.aload_n 0, 1) := by decide +kernel
theorem dX6_append_52 : decode cX6_append 52 = .ok (.getfield 55, 3) := by decide +kernel
theorem dX6_append_55 : decode cX6_append 55 = .ok (.i2l, 1) := by decide +kernel
theorem dX6_append_56 : decode cX6_append 56 = .ok (.lreturn, 1) := by decide +kernel
theorem dX6_clearBuffer_0 : decode cX6_clearBuffer 0 = .ok (.aload_n 0, 1) := by decide +kernel
theorem dX6_clearBuffer_1 : decode cX6_clearBuffer 1 = .ok (.getfield 55, 3) := by decide +kernel
theorem dX6_clearBuffer_4 : decode cX6_clearBuffer 4 = .ok (.istore_n 1, 1) := by decide +kernel
theorem dX6_clearBuffer_5 : decode cX6_clearBuffer 5 = .ok (.aload_n 0, 1) := by decide +kernel
theorem dX6_clearBuffer_6 : decode cX6_clearBuffer 6 = .ok (.iconst 0, 1) := by decide +kernel
theorem dX6_clearBuffer_7 : decode cX6_clearBuffer 7 = .ok (.putfield 55, 3) := by decide +kernel
theorem dX6_clearBuffer_10 : decode cX6_clearBuffer 10 = .ok (.iload_n 1, 1) := by decide +kernel
theorem dX6_clearBuffer_11 : decode cX6_clearBuffer 11 = .ok (.i2l, 1) := by decide +kernel
theorem dX6_clearBuffer_12 : decode cX6_clearBuffer 12 = .ok (.lreturn, 1) := by decide +kernel
set_option maxRecDepth 20000 in
theorem ggX6_parse_X6_within : GoodIn wsX6_parse wsX6_within := goodIn_r _ [17] (by decide +kernel) (by decide +kernel)
set_option maxRecDepth 20000 in
theorem gX6_parse_X6_within : GoodIn wsX6_parse (va_wsS RX6 39 yX6_within wsX6_within) := goodIn_app (goodIn_of _ (by decide +kernel)) ggX6_parse_X6_within
theorem dX6_parse_0 : decode cX6_parse 0 = .ok (.iconst 0, 1) := by decide +kernel
theorem dX6_parse_1 : decode cX6_parse 1 = .ok (.istore_n 1, 1) := by decide +kernel
theorem dX6_parse_2 : decode cX6_parse 2 = .ok (.iconst 0, 1) := by decide +kernel
theorem dX6_parse_3 : decode cX6_parse 3 = .ok (.istore_n 2, 1) := by decide +kernel
theorem dX6_parse_4 : decode cX6_parse 4 = .ok (.iconst 0, 1) := by decide +kernel
theorem dX6_parse_5 : decode cX6_parse 5 = .ok (.istore_n 3, 1) := by decide +kernel
theorem dX6_parse_6 : decode cX6_parse 6 = .ok (.iconst 1, 1) := by decide +kernel
theorem dX6_parse_7 : decode cX6_parse 7 = .ok (.istore 4, 2) := by decide +kernel
theorem dX6_parse_9 : decode cX6_parse 9 = .ok (.aload_n 0, 1) := by decide +kernel
theorem dX6_parse_10 : decode cX6_parse 10 = .ok (.lconst 0, 1) := by decide +kernel
theorem dX6_parse_11 : decode cX6_parse 11 = .ok (.putfield 60, 3) := by decide +kernel
theorem dX6_parse_14 : decode cX6_parse 14 = .ok (.iload 4, 2) := by decide +kernel
theorem dX6_parse_16 : decode cX6_parse 16 = .ok (.ifCond .eq 219, 3) := by decide +kernel
theorem dX6_parse_19 : decode cX6_parse 19 = .ok (.iload_n 3, 1) := by decide +kernel
theorem dX6_parse_20 : decode cX6_parse 20 = .ok (.aload_n 0, 1) := by decide +kernel
theorem dX6_parse_21 : decode cX6_parse 21 = .ok (.getfield 55, 3) := by decide +kernel
theorem dX6_parse_24 : decode cX6_parse 24 = .ok (.if_icmp .ge 211, 3) := by decide +kernel
theorem dX6_parse_27 : decode cX6_parse 27 = .ok (.aload_n 0, 1) := by decide +kernel
theorem dX6_parse_28 : decode cX6_parse 28 = .ok (.getfield 7, 3) := by decide +kernel
theorem dX6_parse_31 : decode cX6_parse 31 = .ok (.iload_n 3, 1) := by decide +kernel
theorem dX6_parse_32 : decode cX6_parse 32 = .ok (.iaload, 1) := by decide +kernel
theorem dX6_parse_33 : decode cX6_parse 33 = .ok (.istore 5, 2) := by decide +kernel
theorem dX6_parse_35 : decode cX6_parse 35 = .ok (.iload 5, 2) := by decide +kernel
theorem dX6_parse_37 : decode cX6_parse 37 = .ok (.i2l, 1) := by decide +kernel
theorem dX6_parse_38 : decode cX6_parse 38 = .ok (.ldc2_w 64, 3) := by decide +kernel
theorem dX6_parse_41 : decode cX6_parse 41 = .ok (.ldc2_w 66, 3) := by decide +kernel
theorem dX6_parse_44 : decode cX6_parse 44 = .ok (.invokestatic 39, 3) := by decide +kernel
theorem dX6_parse_47 : decode cX6_parse 47 = .ok (.istore 6, 2) := by decide +kernel
theorem dX6_parse_49 : decode cX6_parse 49 = .ok (.iload 5, 2) := by decide +kernel
theorem dX6_parse_51 : decode cX6_parse 51 = .ok (.i2l, 1) := by decide +kernel
theorem dX6_parse_52 : decode cX6_parse 52 = .ok (.ldc2_w 68, 3) := by decide +kernel
theorem dX6_parse_55 : decode cX6_parse 55 = .ok (.ldc2_w 70, 3) := by decide +kernel
theorem dX6_parse_58 : decode cX6_parse 58 = .ok (.invokestatic 39, 3) := by decide +kernel
theorem dX6_parse_61 : decode cX6_parse 61 = .ok (.istore 7, 2) := by decide +kernel
theorem dX6_parse_63 : decode cX6_parse 63 = .ok (.iload_n 1, 1) := by decide +kernel
theorem dX6_parse_64 : decode cX6_parse 64 = .ok (.ifCond .ne 45, 3) := by decide +kernel
theorem dX6_parse_67 : decode cX6_parse 67 = .ok (.iload_n 2, 1) := by decide +kernel
theorem dX6_parse_68 : decode cX6_parse 68 = .ok (.bipush 6, 2) := by decide +kernel
theorem dX6_parse_70 : decode cX6_parse 70 = .ok (.if_icmp .ge 39, 3) := by decide +kernel
theorem dX6_parse_73 : decode cX6_parse 73 = .ok (.iload 7, 2) := by decide +kernel
theorem dX6_parse_75 : decode cX6_parse 75 = .ok (.ifCond .ne 12, 3) := by decide +kernel
theorem dX6_parse_78 : decode cX6_parse 78 = .ok (.iload 6, 2) := by decide +kernel
theorem dX6_parse_80 : decode cX6_parse 80 = .ok (.ifCond .eq 29, 3) := by decide +kernel
theorem dX6_parse_83 : decode cX6_parse 83 = .ok (.iload_n 2, 1) := by decide +kernel
theorem dX6_parse_84 : decode cX6_parse 84 = .ok (.ifCond .le 25, 3) := by decide +kernel
theorem dX6_parse_87 : decode cX6_parse 87 = .ok (.aload_n 0, 1) := by decide +kernel
theorem dX6_parse_88 : decode cX6_parse 88 = .ok (.aload_n 0, 1) := by decide +kernel
theorem dX6_parse_89 : decode cX6_parse 89 = .ok (.getfield 60, 3) := by decide +kernel
theorem dX6_parse_92 : decode cX6_parse 92 = .ok (.ldc2_w 72, 3) := by decide +kernel
theorem dX6_parse_95 : decode cX6_parse 95 = .ok (.lmul, 1) := by decide +kernel
theorem dX6_parse_96 : decode cX6_parse 96 = .ok (.iload 5, 2) := by decide +kernel
theorem dX6_parse_98 : decode cX6_parse 98 = .ok (.i2l, 1) := by decide +kernel
theorem dX6_parse_99 : decode cX6_parse 99 = .ok (.ladd, 1) := by decide +kernel
theorem dX6_parse_100 : decode cX6_parse 100 = .ok (.putfield 60, 3) := by decide +kernel
theorem dX6_parse_103 : decode cX6_parse 103 = .ok (.iinc 2 1, 3) := by decide +kernel
theorem dX6_parse_106 : decode cX6_parse 106 = .ok (.goto 113, 3) := by decide +kernel
theorem dX6_parse_109 : decode cX6_parse 109 = .ok (.iload 5, 2) := by decide +kernel
theorem dX6_parse_111 : decode cX6_parse 111 = .ok (.bipush 32, 2) := by decide +kernel
theorem dX6_parse_113 : decode cX6_parse 113 = .ok (.if_icmp .ne 46, 3) := by decide +kernel
theorem dX6_parse_116 : decode cX6_parse 116 = .ok (.iload_n 1, 1) := by decide +kernel
theorem dX6_parse_117 : decode cX6_parse 117 = .ok (.ifCond .ne 7, 3) := by decide +kernel
theorem dX6_parse_120 : decode cX6_parse 120 = .ok (.iload_n 2, 1) := by decide +kernel
theorem dX6_parse_121 : decode cX6_parse 121 = .ok (.ifCond .gt 21, 3) := by decide +kernel
theorem dX6_parse_124 : decode cX6_parse 124 = .ok (.iload_n 1, 1) := by decide +kernel
theorem dX6_parse_125 : decode cX6_parse 125 = .ok (.i2l, 1) := by decide +kernel
theorem dX6_parse_126 : decode cX6_parse 126 = .ok (.lconst 1, 1) := by decide +kernel
theorem dX6_parse_127 : decode cX6_parse 127 = .ok (.ldc2_w 46, 3) := by decide +kernel
theorem dX6_parse_130 : decode cX6_parse 130 = .ok (.invokestatic 39, 3) := by decide +kernel
theorem dX6_parse_133 : decode cX6_parse 133 = .ok (.ifCond .eq 26, 3) := by decide +kernel
theorem dX6_parse_136 : decode cX6_parse 136 = .ok (.iload_n 2, 1) := by decide +kernel
theorem dX6_parse_137 : decode cX6_parse 137 = .ok (.bipush 6, 2) := by decide +kernel
theorem dX6_parse_139 : decode cX6_parse 139 = .ok (.if_icmp .ne 20, 3) := by decide +kernel
theorem dX6_parse_142 : decode cX6_parse 142 = .ok (.iinc 1 1, 3) := by decide +kernel
theorem dX6_parse_145 : decode cX6_parse 145 = .ok (.iconst 0, 1) := by decide +kernel
theorem dX6_parse_146 : decode cX6_parse 146 = .ok (.istore_n 2, 1) := by decide +kernel
theorem dX6_parse_147 : decode cX6_parse 147 = .ok (.aload_n 0, 1) := by decide +kernel
theorem dX6_parse_148 : decode cX6_parse 148 = .ok (.getfield 29, 3) := by decide +kernel
theorem dX6_parse_151 : decode cX6_parse 151 = .ok (.iload_n 1, 1) := by decide +kernel
theorem dX6_parse_152 : decode cX6_parse 152 = .ok (.iconst 1, 1) := by decide +kernel
theorem dX6_parse_153 : decode cX6_parse 153 = .ok (.isub, 1) := by decide +kernel
theorem dX6_parse_154 : decode cX6_parse 154 = .ok (.iconst 0, 1) := by decide +kernel
theorem dX6_parse_155 : decode cX6_parse 155 = .ok (.iastore, 1) := by decide +kernel
theorem dX6_parse_156 : decode cX6_parse 156 = .ok (.goto 63, 3) := by decide +kernel
theorem dX6_parse_159 : decode cX6_parse 159 = .ok (.iload_n 1, 1) := by decide +kernel
theorem dX6_parse_160 : decode cX6_parse 160 = .ok (.ifCond .le 56, 3) := by decide +kernel
theorem dX6_parse_163 : decode cX6_parse 163 = .ok (.iload 6, 2) := by decide +kernel
theorem dX6_parse_165 : decode cX6_parse 165 = .ok (.ifCond .eq 51, 3) := by decide +kernel
theorem dX6_parse_168 : decode cX6_parse 168 = .ok (.iload_n 2, 1) := by decide +kernel
theorem dX6_parse_169 : decode cX6_parse 169 = .ok (.bipush 6, 2) := by decide +kernel
theorem dX6_parse_171 : decode cX6_parse 171 = .ok (.if_icmp .ge 45, 3) := by decide +kernel
theorem dX6_parse_174 : decode cX6_parse 174 = .ok (.iload_n 2, 1) := by decide +kernel
theorem dX6_parse_175 : decode cX6_parse 175 = .ok (.ifCond .gt 10, 3) := by decide +kernel
theorem dX6_parse_178 : decode cX6_parse 178 = .ok (.iload 5, 2) := by decide +kernel
theorem dX6_parse_180 : decode cX6_parse 180 = .ok (.bipush 48, 2) := by decide +kernel
theorem dX6_parse_182 : decode cX6_parse 182 = .ok (.if_icmp .eq 34, 3) := by decide +kernel
theorem dX6_parse_185 : decode cX6_parse 185 = .ok (.aload_n 0, 1) := by decide +kernel
theorem dX6_parse_186 : decode cX6_parse 186 = .ok (.getfield 29, 3) := by decide +kernel
theorem dX6_parse_189 : decode cX6_parse 189 = .ok (.iload_n 1, 1) := by decide +kernel
theorem dX6_parse_190 : decode cX6_parse 190 = .ok (.iconst 1, 1) := by decide +kernel
theorem dX6_parse_191 : decode cX6_parse 191 = .ok (.isub, 1) := by decide +kernel
theorem dX6_parse_192 : decode cX6_parse 192 = .ok (.bipush 10, 2) := by decide +kernel
theorem dX6_parse_194 : decode cX6_parse 194 = .ok (.aload_n 0, 1) := by decide +kernel
theorem dX6_parse_195 : decode cX6_parse 195 = .ok (.getfield 29, 3) := by decide +kernel
theorem dX6_parse_198 : decode cX6_parse 198 = .ok (.iload_n 1, 1) := by decide +kernel
theorem dX6_parse_199 : decode cX6_parse 199 = .ok (.iconst 1, 1) := by decide +kernel
theorem dX6_parse_200 : decode cX6_parse 200 = .ok (.isub, 1) := by decide +kernel
theorem dX6_parse_201 : decode cX6_parse 201 = .ok (.iaload, 1) := by decide +kernel
theorem dX6_parse_202 : decode cX6_parse 202 = .ok (.imul, 1) := by decide +kernel
theorem dX6_parse_203 : decode cX6_parse 203 = .ok (.iload 5, 2) := by decide +kernel
theorem dX6_parse_205 : decode cX6_parse 205 = .ok (.iadd, 1) := by decide +kernel
theorem dX6_parse_206 : decode cX6_parse 206 = .ok (.bipush 48, 2) := by decide +kernel
theorem dX6_parse_208 : decode cX6_parse 208 = .ok (.isub, 1) := by decide +kernel
theorem dX6_parse_209 : decode cX6_parse 209 = .ok (.iastore, 1) := by decide +kernel
theorem dX6_parse_210 : decode cX6_parse 210 = .ok (.iinc 2 1, 3) := by decide +kernel
theorem dX6_parse_213 : decode cX6_parse 213 = .ok (.goto 6, 3) := by decide +kernel
theorem dX6_parse_216 : decode cX6_parse 216 = .ok (.iconst 0, 1) := by decide +kernel
theorem dX6_parse_217 : decode cX6_parse 217 = .ok (.istore 4, 2) := by decide +kernel
theorem dX6_parse_219 : decode cX6_parse 219 = .ok (.iload_n 3, 1) := by decide +kernel
theorem dX6_parse_220 : decode cX6_parse 220 = .ok (.iload 4, 2) := by decide +kernel
theorem dX6_parse_222 : decode cX6_parse 222 = .ok (.ifCond .eq 7, 3) := by decide +kernel
theorem dX6_parse_225 : decode cX6_parse 225 = .ok (.iconst 1, 1) := by decide +kernel
theorem dX6_parse_226 : decode cX6_parse 226 = .ok (.goto 4, 3) := by decide +kernel
theorem dX6_parse_229 : decode cX6_parse 229 = .ok (.iconst 0, 1) := by decide +kernel
theorem dX6_parse_230 : decode cX6_parse 230 = .ok (.iadd, 1) := by decide +kernel
theorem dX6_parse_231 : decode cX6_parse 231 = .ok (.istore_n 3, 1) := by decide +kernel
theorem dX6_parse_232 : decode cX6_parse 232 = .ok (.goto (-218), 3) := by decide +kernel
theorem dX6_parse_235 : decode cX6_parse 235 = .ok (.aload_n 0, 1) := by decide +kernel
theorem dX6_parse_236 : decode cX6_parse 236 = .ok (.iload_n 3, 1) := by decide +kernel
theorem dX6_parse_237 : decode cX6_parse 237 = .ok (.putfield 74, 3) := by decide +kernel
theorem dX6_parse_240 : decode cX6_parse 240 = .ok (.aload_n 0, 1) := by decide +kernel
theorem dX6_parse_241 : decode cX6_parse 241 = .ok (.iload 4, 2) := by decide +kernel
theorem dX6_parse_243 : decode cX6_parse 243 = .ok (.ifCond .eq 18, 3) := by decide +kernel
theorem dX6_parse_246 : decode cX6_parse 246 = .ok (.iload_n 1, 1) := by decide +kernel
theorem dX6_parse_247 : decode cX6_parse 247 = .ok (.iconst 3, 1) := by decide +kernel
theorem dX6_parse_248 : decode cX6_parse 248 = .ok (.if_icmp .ne 13, 3) := by decide +kernel
theorem dX6_parse_251 : decode cX6_parse 251 = .ok (.iload_n 2, 1) := by decide +kernel
theorem dX6_parse_252 : decode cX6_parse 252 = .ok (.bipush 6, 2) := by decide +kernel
theorem dX6_parse_254 : decode cX6_parse 254 = .ok (.if_icmp .ne 7, 3) := by decide +kernel
theorem dX6_parse_257 : decode cX6_parse 257 = .ok (.iconst 1, 1) := by decide +kernel
theorem dX6_parse_258 : decode cX6_parse 258 = .ok (.goto 4, 3) := by decide +kernel
theorem dX6_parse_261 : decode cX6_parse 261 = .ok (.iconst 0, 1) := by decide +kernel
theorem dX6_parse_262 : decode cX6_parse 262 = .ok (.putfield 77, 3) := by decide +kernel
theorem dX6_parse_265 : decode cX6_parse 265 = .ok (.aload_n 0, 1) := by decide +kernel
theorem dX6_parse_266 : decode cX6_parse 266 = .ok (.getfield 60, 3) := by decide +kernel
theorem dX6_parse_269 : decode cX6_parse 269 = .ok (.lconst 0, 1) := by decide +kernel
theorem dX6_parse_270 : decode cX6_parse 270 = .ok (.lcmp, 1) := by decide +kernel
theorem dX6_parse_271 : decode cX6_parse 271 = .ok (.ifCond .le 29, 3) := by decide +kernel
theorem dX6_parse_274 : decode cX6_parse 274 = .ok (.aload_n 0, 1) := by decide +kernel
theorem dX6_parse_275 : decode cX6_parse 275 = .ok (.getfield 60, 3) := by decide +kernel
theorem dX6_parse_278 : decode cX6_parse 278 = .ok (.ldc2_w 81, 3) := by decide +kernel
theorem dX6_parse_281 : decode cX6_parse 281 = .ok (.lcmp, 1) := by decide +kernel
theorem dX6_parse_282 : decode cX6_parse 282 = .ok (.ifCond .ge 18, 3) := by decide +kernel
theorem dX6_parse_285 : decode cX6_parse 285 = .ok (.aload_n 0, 1) := by decide +kernel
theorem dX6_parse_286 : decode cX6_parse 286 = .ok (.dup, 1) := by decide +kernel
theorem dX6_parse_287 : decode cX6_parse 287 = .ok (.getfield 60, 3) := by decide +kernel
theorem dX6_parse_290 : decode cX6_parse 290 = .ok (.ldc2_w 72, 3) := by decide +kernel
theorem dX6_parse_293 : decode cX6_parse 293 = .ok (.lmul, 1) := by decide +kernel
theorem dX6_parse_294 : decode cX6_parse 294 = .ok (.putfield 60, 3) := by decide +kernel
theorem dX6_parse_297 : decode cX6_parse 297 = .ok (.goto (-32), 3) := by decide +kernel
theorem dX6_parse_300 : decode cX6_parse 300 = .ok (.return_, 1) := by decide +kernel
set_option maxRecDepth 20000 in
theorem ggX6_errorPosition_X6_parse : GoodIn wsX6_errorPosition wsX6_parse := goodIn_r _ [6, 7, 8, 9, 10, 11, 12, 13, 14, 15, 16, 1, 17, 18, 19, 20, 5, 21, 22, 23, 24, 25, 26, 27, 28, 29, 30, 31, 32, 33, 34, 35, 36, 37, 38, 39] (by decide +kernel) (by decide +kernel)
set_option maxRecDepth 20000 in
theorem gX6_errorPosition_X6_parse : GoodIn wsX6_errorPosition (wsV RX6 83 RX6 yX6_parse wsX6_parse) := goodIn_app (goodIn_of _ (by decide +kernel)) ggX6_errorPosition_X6_parse
theorem dX6_errorPosition_0 : decode cX6_errorPosition 0 = .ok (.aload_n 0, 1) := by decide +kernel
theorem dX6_errorPosition_1 : decode cX6_errorPosition 1 = .ok (.invokevirtual 83, 3) := by decide +kernel
theorem dX6_errorPosition_4 : decode cX6_errorPosition 4 = .ok (.aload_n 0, 1) := by decide +kernel
theorem dX6_errorPosition_5 : decode cX6_errorPosition 5 = .ok (.getfield 74, 3) := by decide +kernel
theorem dX6_errorPosition_8 : decode cX6_errorPosition 8 = .ok (.i2l, 1) := by decide +kernel
theorem dX6_errorPosition_9 : decode cX6_errorPosition 9 = .ok (.lreturn, 1) := by decide +kernel
theorem dX6_isRight_0 : decode cX6_isRight 0 = .ok (.aload_n 0, 1) := by decide +kernel
theorem dX6_isRight_1 : decode cX6_isRight 1 = .ok (.getfield 29, 3) := by decide +kernel
theorem dX6_isRight_4 : decode cX6_isRight 4 = .ok (.iconst 0, 1) := by decide +kernel
theorem dX6_isRight_5 : decode cX6_isRight 5 = .ok (.iaload, 1) := by decide +kernel
theorem dX6_isRight_6 : decode cX6_isRight 6 = .ok (.istore_n 1, 1) := by decide +kernel
theorem dX6_isRight_7 : decode cX6_isRight 7 = .ok (.aload_n 0, 1) := by decide +kernel
theorem dX6_isRight_8 : decode cX6_isRight 8 = .ok (.getfield 29, 3) := by decide +kernel
theorem dX6_isRight_11 : decode cX6_isRight 11 = .ok (.iconst 1, 1) := by decide +kernel
theorem dX6_isRight_12 : decode cX6_isRight 12 = .ok (.iaload, 1) := by decide +kernel
theorem dX6_isRight_13 : decode cX6_isRight 13 = .ok (.istore_n 2, 1) := by decide +kernel
theorem dX6_isRight_14 : decode cX6_isRight 14 = .ok (.aload_n 0, 1) := by decide +kernel
theorem dX6_isRight_15 : decode cX6_isRight 15 = .ok (.getfield 29, 3) := by decide +kernel
theorem dX6_isRight_18 : decode cX6_isRight 18 = .ok (.iconst 2, 1) := by decide +kernel
theorem dX6_isRight_19 : decode cX6_isRight 19 = .ok (.iaload, 1) := by decide +kernel
theorem dX6_isRight_20 : decode cX6_isRight 20 = .ok (.istore_n 3, 1) := by decide +kernel
theorem dX6_isRight_21 : decode cX6_isRight 21 = .ok (.iload_n 3, 1) := by decide +kernel
theorem dX6_isRight_22 : decode cX6_isRight 22 = .ok (.ldc 86, 2) := by decide +kernel
theorem dX6_isRight_24 : decode cX6_isRight 24 = .ok (.if_icmp .lt 32, 3) := by decide +kernel
theorem dX6_isRight_27 : decode cX6_isRight 27 = .ok (.iload_n 3, 1) := by decide +kernel
theorem dX6_isRight_28 : decode cX6_isRight 28 = .ok (.iload_n 2, 1) := by decide +kernel
theorem dX6_isRight_29 : decode cX6_isRight 29 = .ok (.if_icmp .ge 27, 3) := by decide +kernel
theorem dX6_isRight_32 : decode cX6_isRight 32 = .ok (.iload_n 2, 1) := by decide +kernel
theorem dX6_isRight_33 : decode cX6_isRight 33 = .ok (.iload_n 1, 1) := by decide +kernel
theorem dX6_isRight_34 : decode cX6_isRight 34 = .ok (.if_icmp .ge 22, 3) := by decide +kernel
theorem dX6_isRight_37 : decode cX6_isRight 37 = .ok (.iload_n 1, 1) := by decide +kernel
theorem dX6_isRight_38 : decode cX6_isRight 38 = .ok (.ldc 87, 2) := by decide +kernel
theorem dX6_isRight_40 : decode cX6_isRight 40 = .ok (.if_icmp .gt 16, 3) := by decide +kernel
theorem dX6_isRight_43 : decode cX6_isRight 43 = .ok (.iload_n 1, 1) := by decide +kernel
theorem dX6_isRight_44 : decode cX6_isRight 44 = .ok (.iload_n 3, 1) := by decide +kernel
theorem dX6_isRight_45 : decode cX6_isRight 45 = .ok (.isub, 1) := by decide +kernel
theorem dX6_isRight_46 : decode cX6_isRight 46 = .ok (.sipush 9999, 3) := by decide +kernel
theorem dX6_isRight_49 : decode cX6_isRight 49 = .ok (.if_icmp .gt 7, 3) := by decide +kernel
theorem dX6_isRight_52 : decode cX6_isRight 52 = .ok (.iconst 1, 1) := by decide +kernel
theorem dX6_isRight_53 : decode cX6_isRight 53 = .ok (.goto 4, 3) := by decide +kernel
theorem dX6_isRight_56 : decode cX6_isRight 56 = .ok (.iconst 0, 1) := by decide +kernel
theorem dX6_isRight_57 : decode cX6_isRight 57 = .ok (.ireturn, 1) := by decide +kernel
theorem dX6_isNamed_0 : decode cX6_isNamed 0 = .ok (.iconst 0, 1) := by decide +kernel
theorem dX6_isNamed_1 : decode cX6_isNamed 1 = .ok (.istore_n 3, 1) := by decide +kernel
theorem dX6_isNamed_2 : decode cX6_isNamed 2 = .ok (.iconst 0, 1) := by decide +kernel
end
section
theorem dX6_isNamed_3 : decode cX6_isNamed 3 = .ok (.istore 4, 2) := by decide +kernel
theorem dX6_isNamed_5 : decode cX6_isNamed 5 = .ok (.iload 4, 2) := by decide +kernel
theorem dX6_isNamed_7 : decode cX6_isNamed 7 = .ok (.aload_n 0, 1) := by decide +kernel
theorem dX6_isNamed_8 : decode cX6_isNamed 8 = .ok (.getfield 35, 3) := by decide +kernel
theorem dX6_isNamed_11 : decode cX6_isNamed 11 = .ok (.if_icmp .ge 31, 3) := by decide +kernel
theorem dX6_isNamed_14 : decode cX6_isNamed 14 = .ok (.iload_n 3, 1) := by decide +kernel
theorem dX6_isNamed_15 : decode cX6_isNamed 15 = .ok (.ifCond .ne 15, 3) := by decide +kernel
theorem dX6_isNamed_18 : decode cX6_isNamed 18 = .ok (.aload_n 0, 1) := by decide +kernel
theorem dX6_isNamed_19 : decode cX6_isNamed 19 = .ok (.getfield 13, 3) := by decide +kernel
theorem dX6_isNamed_22 : decode cX6_isNamed 22 = .ok (.iload 4, 2) := by decide +kernel
theorem dX6_isNamed_24 : decode cX6_isNamed 24 = .ok (.laload, 1) := by decide +kernel
theorem dX6_isNamed_25 : decode cX6_isNamed 25 = .ok (.lload_n 1, 1) := by decide +kernel
theorem dX6_isNamed_26 : decode cX6_isNamed 26 = .ok (.lcmp, 1) := by decide +kernel
theorem dX6_isNamed_27 : decode cX6_isNamed 27 = .ok (.ifCond .ne 7, 3) := by decide +kernel
theorem dX6_isNamed_30 : decode cX6_isNamed 30 = .ok (.iconst 1, 1) := by decide +kernel
theorem dX6_isNamed_31 : decode cX6_isNamed 31 = .ok (.goto 4, 3) := by decide +kernel
theorem dX6_isNamed_34 : decode cX6_isNamed 34 = .ok (.iconst 0, 1) := by decide +kernel
theorem dX6_isNamed_35 : decode cX6_isNamed 35 = .ok (.istore_n 3, 1) := by decide +kernel
theorem dX6_isNamed_36 : decode cX6_isNamed 36 = .ok (.iinc 4 1, 3) := by decide +kernel
theorem dX6_isNamed_39 : decode cX6_isNamed 39 = .ok (.goto (-34), 3) := by decide +kernel
theorem dX6_isNamed_42 : decode cX6_isNamed 42 = .ok (.iload_n 3, 1) := by decide +kernel
theorem dX6_isNamed_43 : decode cX6_isNamed 43 = .ok (.ireturn, 1) := by decide +kernel
set_option maxRecDepth 20000 in
theorem ggX6_addGlass_X6_parse : GoodIn wsX6_addGlass wsX6_parse := goodIn_r _ [16, 6, 11, 17, 18, 19, 20, 21, 22, 23, 10, 24, 1, 25, 26, 27, 15, 28, 39, 40, 41, 42, 43, 44, 45, 46, 47, 48, 49, 50, 51, 52, 53, 54, 55, 56] (by decide +kernel) (by decide +kernel)
set_option maxRecDepth 20000 in
theorem gX6_addGlass_X6_parse : GoodIn wsX6_addGlass (wsV RX6 83 RX6 yX6_parse wsX6_parse) := goodIn_app (goodIn_of _ (by decide +kernel)) ggX6_addGlass_X6_parse
set_option maxRecDepth 20000 in
theorem ggX6_addGlass_X6_isRight : GoodIn wsX6_addGlass wsX6_isRight := goodIn_r _ [32, 10, 33, 34, 39, 40, 41, 42, 43, 44, 45, 46, 47, 48, 49, 50, 51, 52, 53, 54, 55, 56] (by decide +kernel) (by decide +kernel)
set_option maxRecDepth 20000 in
theorem gX6_addGlass_X6_isRight : GoodIn wsX6_addGlass (wsV RX6 90 RX6 yX6_isRight wsX6_isRight) := goodIn_app (goodIn_of _ (by decide +kernel)) ggX6_addGlass_X6_isRight
set_option maxRecDepth 20000 in
theorem ggX6_addGlass_X6_isNamed : GoodIn wsX6_addGlass wsX6_isNamed := goodIn_r _ [38, 4, 8, 39, 40, 41, 42, 43, 44, 45, 46, 47, 48, 49, 50, 51, 52, 53, 54, 55, 56] (by decide +kernel) (by decide +kernel)
set_option maxRecDepth 20000 in
theorem gX6_addGlass_X6_isNamed : GoodIn wsX6_addGlass (wsV RX6 94 RX6 yX6_isNamed wsX6_isNamed) := goodIn_app (goodIn_of _ (by decide +kernel)) ggX6_addGlass_X6_isNamed
theorem dX6_addGlass_0 : decode cX6_addGlass 0 = .ok (.aload_n 0, 1) := by decide +kernel
theorem dX6_addGlass_1 : decode cX6_addGlass 1 = .ok (.invokevirtual 83, 3) := by decide +kernel
theorem dX6_addGlass_4 : decode cX6_addGlass 4 = .ok (.aload_n 0, 1) := by decide +kernel
theorem dX6_addGlass_5 : decode cX6_addGlass 5 = .ok (.getfield 77, 3) := by decide +kernel
theorem dX6_addGlass_8 : decode cX6_addGlass 8 = .ok (.ifCond .ne 7, 3) := by decide +kernel
theorem dX6_addGlass_11 : decode cX6_addGlass 11 = .ok (.ldc2_w 88, 3) := by decide +kernel
theorem dX6_addGlass_14 : decode cX6_addGlass 14 = .ok (.lreturn, 1) := by decide +kernel
theorem dX6_addGlass_15 : decode cX6_addGlass 15 = .ok (.aload_n 0, 1) := by decide +kernel
theorem dX6_addGlass_16 : decode cX6_addGlass 16 = .ok (.invokevirtual 90, 3) := by decide +kernel
theorem dX6_addGlass_19 : decode cX6_addGlass 19 = .ok (.ifCond .ne 7, 3) := by decide +kernel
theorem dX6_addGlass_22 : decode cX6_addGlass 22 = .ok (.ldc2_w 53, 3) := by decide +kernel
theorem dX6_addGlass_25 : decode cX6_addGlass 25 = .ok (.lreturn, 1) := by decide +kernel
theorem dX6_addGlass_26 : decode cX6_addGlass 26 = .ok (.aload_n 0, 1) := by decide +kernel
theorem dX6_addGlass_27 : decode cX6_addGlass 27 = .ok (.getfield 35, 3) := by decide +kernel
theorem dX6_addGlass_30 : decode cX6_addGlass 30 = .ok (.bipush 20, 2) := by decide +kernel
theorem dX6_addGlass_32 : decode cX6_addGlass 32 = .ok (.if_icmp .ne 7, 3) := by decide +kernel
theorem dX6_addGlass_35 : decode cX6_addGlass 35 = .ok (.ldc2_w 58, 3) := by decide +kernel
theorem dX6_addGlass_38 : decode cX6_addGlass 38 = .ok (.lreturn, 1) := by decide +kernel
theorem dX6_addGlass_39 : decode cX6_addGlass 39 = .ok (.aload_n 0, 1) := by decide +kernel
theorem dX6_addGlass_40 : decode cX6_addGlass 40 = .ok (.aload_n 0, 1) := by decide +kernel
theorem dX6_addGlass_41 : decode cX6_addGlass 41 = .ok (.getfield 60, 3) := by decide +kernel
theorem dX6_addGlass_44 : decode cX6_addGlass 44 = .ok (.invokevirtual 94, 3) := by decide +kernel
theorem dX6_addGlass_47 : decode cX6_addGlass 47 = .ok (.ifCond .eq 7, 3) := by decide +kernel
theorem dX6_addGlass_50 : decode cX6_addGlass 50 = .ok (.ldc2_w 98, 3) := by decide +kernel
theorem dX6_addGlass_53 : decode cX6_addGlass 53 = .ok (.lreturn, 1) := by decide +kernel
theorem dX6_addGlass_54 : decode cX6_addGlass 54 = .ok (.aload_n 0, 1) := by decide +kernel
theorem dX6_addGlass_55 : decode cX6_addGlass 55 = .ok (.getfield 13, 3) := by decide +kernel
theorem dX6_addGlass_58 : decode cX6_addGlass 58 = .ok (.aload_n 0, 1) := by decide +kernel
theorem dX6_addGlass_59 : decode cX6_addGlass 59 = .ok (.getfield 35, 3) := by decide +kernel
theorem dX6_addGlass_62 : decode cX6_addGlass 62 = .ok (.aload_n 0, 1) := by decide +kernel
theorem dX6_addGlass_63 : decode cX6_addGlass 63 = .ok (.getfield 60, 3) := by decide +kernel
theorem dX6_addGlass_66 : decode cX6_addGlass 66 = .ok (.lastore, 1) := by decide +kernel
theorem dX6_addGlass_67 : decode cX6_addGlass 67 = .ok (.iconst 0, 1) := by decide +kernel
theorem dX6_addGlass_68 : decode cX6_addGlass 68 = .ok (.istore_n 1, 1) := by decide +kernel
theorem dX6_addGlass_69 : decode cX6_addGlass 69 = .ok (.iload_n 1, 1) := by decide +kernel
theorem dX6_addGlass_70 : decode cX6_addGlass 70 = .ok (.iconst 3, 1) := by decide +kernel
theorem dX6_addGlass_71 : decode cX6_addGlass 71 = .ok (.if_icmp .ge 28, 3) := by decide +kernel
theorem dX6_addGlass_74 : decode cX6_addGlass 74 = .ok (.aload_n 0, 1) := by decide +kernel
theorem dX6_addGlass_75 : decode cX6_addGlass 75 = .ok (.getfield 17, 3) := by decide +kernel
theorem dX6_addGlass_78 : decode cX6_addGlass 78 = .ok (.iconst 3, 1) := by decide +kernel
theorem dX6_addGlass_79 : decode cX6_addGlass 79 = .ok (.aload_n 0, 1) := by decide +kernel
theorem dX6_addGlass_80 : decode cX6_addGlass 80 = .ok (.getfield 35, 3) := by decide +kernel
theorem dX6_addGlass_83 : decode cX6_addGlass 83 = .ok (.imul, 1) := by decide +kernel
theorem dX6_addGlass_84 : decode cX6_addGlass 84 = .ok (.iload_n 1, 1) := by decide +kernel
theorem dX6_addGlass_85 : decode cX6_addGlass 85 = .ok (.iadd, 1) := by decide +kernel
theorem dX6_addGlass_86 : decode cX6_addGlass 86 = .ok (.aload_n 0, 1) := by decide +kernel
theorem dX6_addGlass_87 : decode cX6_addGlass 87 = .ok (.getfield 29, 3) := by decide +kernel
theorem dX6_addGlass_90 : decode cX6_addGlass 90 = .ok (.iload_n 1, 1) := by decide +kernel
theorem dX6_addGlass_91 : decode cX6_addGlass 91 = .ok (.iaload, 1) := by decide +kernel
theorem dX6_addGlass_92 : decode cX6_addGlass 92 = .ok (.iastore, 1) := by decide +kernel
theorem dX6_addGlass_93 : decode cX6_addGlass 93 = .ok (.iinc 1 1, 3) := by decide +kernel
theorem dX6_addGlass_96 : decode cX6_addGlass 96 = .ok (.goto (-27), 3) := by decide +kernel
theorem dX6_addGlass_99 : decode cX6_addGlass 99 = .ok (.aload_n 0, 1) := by decide +kernel
theorem dX6_addGlass_100 : decode cX6_addGlass 100 = .ok (.dup, 1) := by decide +kernel
theorem dX6_addGlass_101 : decode cX6_addGlass 101 = .ok (.getfield 35, 3) := by decide +kernel
theorem dX6_addGlass_104 : decode cX6_addGlass 104 = .ok (.iconst 1, 1) := by decide +kernel
theorem dX6_addGlass_105 : decode cX6_addGlass 105 = .ok (.iadd, 1) := by decide +kernel
theorem dX6_addGlass_106 : decode cX6_addGlass 106 = .ok (.putfield 35, 3) := by decide +kernel
theorem dX6_addGlass_109 : decode cX6_addGlass 109 = .ok (.aload_n 0, 1) := by decide +kernel
theorem dX6_addGlass_110 : decode cX6_addGlass 110 = .ok (.iconst 0, 1) := by decide +kernel
theorem dX6_addGlass_111 : decode cX6_addGlass 111 = .ok (.putfield 55, 3) := by decide +kernel
theorem dX6_addGlass_114 : decode cX6_addGlass 114 = .ok (.aload_n 0, 1) := by decide +kernel
theorem dX6_addGlass_115 : decode cX6_addGlass 115 = .ok (.getfield 35, 3) := by decide +kernel
theorem dX6_addGlass_118 : decode cX6_addGlass 118 = .ok (.iconst 1, 1) := by decide +kernel
theorem dX6_addGlass_119 : decode cX6_addGlass 119 = .ok (.isub, 1) := by decide +kernel
theorem dX6_addGlass_120 : decode cX6_addGlass 120 = .ok (.i2l, 1) := by decide +kernel
theorem dX6_addGlass_121 : decode cX6_addGlass 121 = .ok (.lreturn, 1) := by decide +kernel
set_option maxRecDepth 20000 in
theorem ggX6_removeGlass_X6_isGlass : GoodIn wsX6_removeGlass wsX6_isGlass := goodIn_r _ [12, 5, 13, 14, 11, 15, 16, 17, 18, 19, 20, 21, 22, 23, 24, 25, 26, 27, 28, 29, 30, 31, 32, 33] (by decide +kernel) (by decide +kernel)
set_option maxRecDepth 20000 in
theorem gX6_removeGlass_X6_isGlass : GoodIn wsX6_removeGlass (wsV RX6 100 RX6 yX6_isGlass wsX6_isGlass) := goodIn_app (goodIn_of _ (by decide +kernel)) ggX6_removeGlass_X6_isGlass
theorem dX6_removeGlass_0 : decode cX6_removeGlass 0 = .ok (.aload_n 0, 1) := by decide +kernel
theorem dX6_removeGlass_1 : decode cX6_removeGlass 1 = .ok (.iload_n 1, 1) := by decide +kernel
theorem dX6_removeGlass_2 : decode cX6_removeGlass 2 = .ok (.invokevirtual 100, 3) := by decide +kernel
theorem dX6_removeGlass_5 : decode cX6_removeGlass 5 = .ok (.ifCond .ne 7, 3) := by decide +kernel
theorem dX6_removeGlass_8 : decode cX6_removeGlass 8 = .ok (.ldc2_w 104, 3) := by decide +kernel
theorem dX6_removeGlass_11 : decode cX6_removeGlass 11 = .ok (.lreturn, 1) := by decide +kernel
theorem dX6_removeGlass_12 : decode cX6_removeGlass 12 = .ok (.iconst 0, 1) := by decide +kernel
theorem dX6_removeGlass_13 : decode cX6_removeGlass 13 = .ok (.istore_n 2, 1) := by decide +kernel
theorem dX6_removeGlass_14 : decode cX6_removeGlass 14 = .ok (.iload_n 2, 1) := by decide +kernel
theorem dX6_removeGlass_15 : decode cX6_removeGlass 15 = .ok (.aload_n 0, 1) := by decide +kernel
theorem dX6_removeGlass_16 : decode cX6_removeGlass 16 = .ok (.getfield 43, 3) := by decide +kernel
theorem dX6_removeGlass_19 : decode cX6_removeGlass 19 = .ok (.if_icmp .ge 23, 3) := by decide +kernel
theorem dX6_removeGlass_22 : decode cX6_removeGlass 22 = .ok (.aload_n 0, 1) := by decide +kernel
theorem dX6_removeGlass_23 : decode cX6_removeGlass 23 = .ok (.getfield 20, 3) := by decide +kernel
theorem dX6_removeGlass_26 : decode cX6_removeGlass 26 = .ok (.iload_n 2, 1) := by decide +kernel
theorem dX6_removeGlass_27 : decode cX6_removeGlass 27 = .ok (.iaload, 1) := by decide +kernel
theorem dX6_removeGlass_28 : decode cX6_removeGlass 28 = .ok (.iload_n 1, 1) := by decide +kernel
theorem dX6_removeGlass_29 : decode cX6_removeGlass 29 = .ok (.if_icmp .ne 7, 3) := by decide +kernel
theorem dX6_removeGlass_32 : decode cX6_removeGlass 32 = .ok (.ldc2_w 106, 3) := by decide +kernel
theorem dX6_removeGlass_35 : decode cX6_removeGlass 35 = .ok (.lreturn, 1) := by decide +kernel
theorem dX6_removeGlass_36 : decode cX6_removeGlass 36 = .ok (.iinc 2 1, 3) := by decide +kernel
theorem dX6_removeGlass_39 : decode cX6_removeGlass 39 = .ok (.goto (-25), 3) := by decide +kernel
theorem dX6_removeGlass_42 : decode cX6_removeGlass 42 = .ok (.aload_n 0, 1) := by decide +kernel
theorem dX6_removeGlass_43 : decode cX6_removeGlass 43 = .ok (.dup, 1) := by decide +kernel
theorem dX6_removeGlass_44 : decode cX6_removeGlass 44 = .ok (.getfield 35, 3) := by decide +kernel
theorem dX6_removeGlass_47 : decode cX6_removeGlass 47 = .ok (.iconst 1, 1) := by decide +kernel
theorem dX6_removeGlass_48 : decode cX6_removeGlass 48 = .ok (.isub, 1) := by decide +kernel
theorem dX6_removeGlass_49 : decode cX6_removeGlass 49 = .ok (.putfield 35, 3) := by decide +kernel
theorem dX6_removeGlass_52 : decode cX6_removeGlass 52 = .ok (.iload_n 1, 1) := by decide +kernel
theorem dX6_removeGlass_53 : decode cX6_removeGlass 53 = .ok (.istore_n 2, 1) := by decide +kernel
theorem dX6_removeGlass_54 : decode cX6_removeGlass 54 = .ok (.iload_n 2, 1) := by decide +kernel
theorem dX6_removeGlass_55 : decode cX6_removeGlass 55 = .ok (.aload_n 0, 1) := by decide +kernel
theorem dX6_removeGlass_56 : decode cX6_removeGlass 56 = .ok (.getfield 35, 3) := by decide +kernel
theorem dX6_removeGlass_59 : decode cX6_removeGlass 59 = .ok (.if_icmp .ge 23, 3) := by decide +kernel
theorem dX6_removeGlass_62 : decode cX6_removeGlass 62 = .ok (.aload_n 0, 1) := by decide +kernel
theorem dX6_removeGlass_63 : decode cX6_removeGlass 63 = .ok (.getfield 13, 3) := by decide +kernel
theorem dX6_removeGlass_66 : decode cX6_removeGlass 66 = .ok (.iload_n 2, 1) := by decide +kernel
theorem dX6_removeGlass_67 : decode cX6_removeGlass 67 = .ok (.aload_n 0, 1) := by decide +kernel
theorem dX6_removeGlass_68 : decode cX6_removeGlass 68 = .ok (.getfield 13, 3) := by decide +kernel
theorem dX6_removeGlass_71 : decode cX6_removeGlass 71 = .ok (.iload_n 2, 1) := by decide +kernel
theorem dX6_removeGlass_72 : decode cX6_removeGlass 72 = .ok (.iconst 1, 1) := by decide +kernel
theorem dX6_removeGlass_73 : decode cX6_removeGlass 73 = .ok (.iadd, 1) := by decide +kernel
theorem dX6_removeGlass_74 : decode cX6_removeGlass 74 = .ok (.laload, 1) := by decide +kernel
theorem dX6_removeGlass_75 : decode cX6_removeGlass 75 = .ok (.lastore, 1) := by decide +kernel
theorem dX6_removeGlass_76 : decode cX6_removeGlass 76 = .ok (.iinc 2 1, 3) := by decide +kernel
theorem dX6_removeGlass_79 : decode cX6_removeGlass 79 = .ok (.goto (-25), 3) := by decide +kernel
theorem dX6_removeGlass_82 : decode cX6_removeGlass 82 = .ok (.iconst 3, 1) := by decide +kernel
theorem dX6_removeGlass_83 : decode cX6_removeGlass 83 = .ok (.iload_n 1, 1) := by decide +kernel
theorem dX6_removeGlass_84 : decode cX6_removeGlass 84 = .ok (.imul, 1) := by decide +kernel
theorem dX6_removeGlass_85 : decode cX6_removeGlass 85 = .ok (.istore_n 2, 1) := by decide +kernel
theorem dX6_removeGlass_86 : decode cX6_removeGlass 86 = .ok (.iload_n 2, 1) := by decide +kernel
theorem dX6_removeGlass_87 : decode cX6_removeGlass 87 = .ok (.iconst 3, 1) := by decide +kernel
theorem dX6_removeGlass_88 : decode cX6_removeGlass 88 = .ok (.aload_n 0, 1) := by decide +kernel
theorem dX6_removeGlass_89 : decode cX6_removeGlass 89 = .ok (.getfield 35, 3) := by decide +kernel
theorem dX6_removeGlass_92 : decode cX6_removeGlass 92 = .ok (.imul, 1) := by decide +kernel
theorem dX6_removeGlass_93 : decode cX6_removeGlass 93 = .ok (.if_icmp .ge 23, 3) := by decide +kernel
theorem dX6_removeGlass_96 : decode cX6_removeGlass 96 = .ok (.aload_n 0, 1) := by decide +kernel
theorem dX6_removeGlass_97 : decode cX6_removeGlass 97 = .ok (.getfield 17, 3) := by decide +kernel
theorem dX6_removeGlass_100 : decode cX6_removeGlass 100 = .ok (.iload_n 2, 1) := by decide +kernel
theorem dX6_removeGlass_101 : decode cX6_removeGlass 101 = .ok (.aload_n 0, 1) := by decide +kernel
theorem dX6_removeGlass_102 : decode cX6_removeGlass 102 = .ok (.getfield 17, 3) := by decide +kernel
theorem dX6_removeGlass_105 : decode cX6_removeGlass 105 = .ok (.iload_n 2, 1) := by decide +kernel
theorem dX6_removeGlass_106 : decode cX6_removeGlass 106 = .ok (.iconst 3, 1) := by decide +kernel
theorem dX6_removeGlass_107 : decode cX6_removeGlass 107 = .ok (.iadd, 1) := by decide +kernel
theorem dX6_removeGlass_108 : decode cX6_removeGlass 108 = .ok (.iaload, 1) := by decide +kernel
theorem dX6_removeGlass_109 : decode cX6_removeGlass 109 = .ok (.iastore, 1) := by decide +kernel
theorem dX6_removeGlass_110 : decode cX6_removeGlass 110 = .ok (.iinc 2 1, 3) := by decide +kernel
theorem dX6_removeGlass_113 : decode cX6_removeGlass 113 = .ok (.goto (-27), 3) := by decide +kernel
theorem dX6_removeGlass_116 : decode cX6_removeGlass 116 = .ok (.iconst 0, 1) := by decide +kernel
theorem dX6_removeGlass_117 : decode cX6_removeGlass 117 = .ok (.istore_n 2, 1) := by decide +kernel
theorem dX6_removeGlass_118 : decode cX6_removeGlass 118 = .ok (.iload_n 2, 1) := by decide +kernel
theorem dX6_removeGlass_119 : decode cX6_removeGlass 119 = .ok (.aload_n 0, 1) := by decide +kernel
theorem dX6_removeGlass_120 : decode cX6_removeGlass 120 = .ok (.getfield 43, 3) := by decide +kernel
theorem dX6_removeGlass_123 : decode cX6_removeGlass 123 = .ok (.if_icmp .ge 33, 3) := by decide +kernel
theorem dX6_removeGlass_126 : decode cX6_removeGlass 126 = .ok (.aload_n 0, 1) := by decide +kernel
theorem dX6_removeGlass_127 : decode cX6_removeGlass 127 = .ok (.getfield 20, 3) := by decide +kernel
theorem dX6_removeGlass_130 : decode cX6_removeGlass 130 = .ok (.iload_n 2, 1) := by decide +kernel
theorem dX6_removeGlass_131 : decode cX6_removeGlass 131 = .ok (.dup2, 1) := by decide +kernel
theorem dX6_removeGlass_132 : decode cX6_removeGlass 132 = .ok (.iaload, 1) := by decide +kernel
theorem dX6_removeGlass_133 : decode cX6_removeGlass 133 = .ok (.aload_n 0, 1) := by decide +kernel
theorem dX6_removeGlass_134 : decode cX6_removeGlass 134 = .ok (.getfield 20, 3) := by decide +kernel
theorem dX6_removeGlass_137 : decode cX6_removeGlass 137 = .ok (.iload_n 2, 1) := by decide +kernel
theorem dX6_removeGlass_138 : decode cX6_removeGlass 138 = .ok (.iaload, 1) := by decide +kernel
theorem dX6_removeGlass_139 : decode cX6_removeGlass 139 = .ok (.iload_n 1, 1) := by decide +kernel
theorem dX6_removeGlass_140 : decode cX6_removeGlass 140 = .ok (.if_icmp .le 7, 3) := by decide +kernel
theorem dX6_removeGlass_143 : decode cX6_removeGlass 143 = .ok (.iconst 1, 1) := by decide +kernel
theorem dX6_removeGlass_144 : decode cX6_removeGlass 144 = .ok (.goto 4, 3) := by decide +kernel
theorem dX6_removeGlass_147 : decode cX6_removeGlass 147 = .ok (.iconst 0, 1) := by decide +kernel
theorem dX6_removeGlass_148 : decode cX6_removeGlass 148 = .ok (.isub, 1) := by decide +kernel
theorem dX6_removeGlass_149 : decode cX6_removeGlass 149 = .ok (.iastore, 1) := by decide +kernel
theorem dX6_removeGlass_150 : decode cX6_removeGlass 150 = .ok (.iinc 2 1, 3) := by decide +kernel
theorem dX6_removeGlass_153 : decode cX6_removeGlass 153 = .ok (.goto (-35), 3) := by decide +kernel
theorem dX6_removeGlass_156 : decode cX6_removeGlass 156 = .ok (.aload_n 0, 1) := by decide +kernel
theorem dX6_removeGlass_157 : decode cX6_removeGlass 157 = .ok (.getfield 35, 3) := by decide +kernel
theorem dX6_removeGlass_160 : decode cX6_removeGlass 160 = .ok (.i2l, 1) := by decide +kernel
theorem dX6_removeGlass_161 : decode cX6_removeGlass 161 = .ok (.lreturn, 1) := by decide +kernel
theorem dX6_glassCount_0 : decode cX6_glassCount 0 = .ok (.aload_n 0, 1) := by decide +kernel
theorem dX6_glassCount_1 : decode cX6_glassCount 1 = .ok (.getfield 35, 3) := by decide +kernel
theorem dX6_glassCount_4 : decode cX6_glassCount 4 = .ok (.i2l, 1) := by decide +kernel
theorem dX6_glassCount_5 : decode cX6_glassCount 5 = .ok (.lreturn, 1) := by decide +kernel
set_option maxRecDepth 20000 in
theorem ggX6_index_X6_isGlass : GoodIn wsX6_index wsX6_isGlass := goodIn_r _ [8, 9, 10, 11, 7, 12, 17, 18, 19, 20, 21, 22, 23, 24, 25, 26, 27, 28, 29, 30, 31, 32, 33, 34] (by decide +kernel) (by decide +kernel)
set_option maxRecDepth 20000 in
theorem gX6_index_X6_isGlass : GoodIn wsX6_index (wsV RX6 100 RX6 yX6_isGlass wsX6_isGlass) := goodIn_app (goodIn_of _ (by decide +kernel)) ggX6_index_X6_isGlass
set_option maxRecDepth 20000 in
theorem ggX6_index_X6_isColour : GoodIn wsX6_index wsX6_isColour := goodIn_r _ [15, 16, 10, 11, 7, 12] (by decide +kernel) (by decide +kernel)
set_option maxRecDepth 20000 in
theorem gX6_index_X6_isColour : GoodIn wsX6_index (va_wsS RX6 108 yX6_isColour wsX6_isColour) := goodIn_app (goodIn_of _ (by decide +kernel)) ggX6_index_X6_isColour
theorem dX6_index_0 : decode cX6_index 0 = .ok (.aload_n 0, 1) := by decide +kernel
theorem dX6_index_1 : decode cX6_index 1 = .ok (.iload_n 1, 1) := by decide +kernel
theorem dX6_index_2 : decode cX6_index 2 = .ok (.invokevirtual 100, 3) := by decide +kernel
theorem dX6_index_5 : decode cX6_index 5 = .ok (.ifCond .ne 7, 3) := by decide +kernel
theorem dX6_index_8 : decode cX6_index 8 = .ok (.ldc2_w 104, 3) := by decide +kernel
theorem dX6_index_11 : decode cX6_index 11 = .ok (.lreturn, 1) := by decide +kernel
theorem dX6_index_12 : decode cX6_index 12 = .ok (.iload_n 2, 1) := by decide +kernel
theorem dX6_index_13 : decode cX6_index 13 = .ok (.invokestatic 108, 3) := by decide +kernel
theorem dX6_index_16 : decode cX6_index 16 = .ok (.ifCond .eq 17, 3) := by decide +kernel
theorem dX6_index_19 : decode cX6_index 19 = .ok (.aload_n 0, 1) := by decide +kernel
theorem dX6_index_20 : decode cX6_index 20 = .ok (.getfield 17, 3) := by decide +kernel
theorem dX6_index_23 : decode cX6_index 23 = .ok (.iconst 3, 1) := by decide +kernel
theorem dX6_index_24 : decode cX6_index 24 = .ok (.iload_n 1, 1) := by decide +kernel
theorem dX6_index_25 : decode cX6_index 25 = .ok (.imul, 1) := by decide +kernel
theorem dX6_index_26 : decode cX6_index 26 = .ok (.iload_n 2, 1) := by decide +kernel
theorem dX6_index_27 : decode cX6_index 27 = .ok (.iadd, 1) := by decide +kernel
theorem dX6_index_28 : decode cX6_index 28 = .ok (.iaload, 1) := by decide +kernel
theorem dX6_index_29 : decode cX6_index 29 = .ok (.i2l, 1) := by decide +kernel
theorem dX6_index_30 : decode cX6_index 30 = .ok (.goto 6, 3) := by decide +kernel
theorem dX6_index_33 : decode cX6_index 33 = .ok (.ldc2_w 53, 3) := by decide +kernel
theorem dX6_index_36 : decode cX6_index 36 = .ok (.lreturn, 1) := by decide +kernel
theorem dX6_placeNow_0 : decode cX6_placeNow 0 = .ok (.lconst 0, 1) := by decide +kernel
theorem dX6_placeNow_1 : decode cX6_placeNow 1 = .ok (.lstore_n 2, 1) := by decide +kernel
theorem dX6_placeNow_2 : decode cX6_placeNow 2 = .ok (.iconst 0, 1) := by decide +kernel
theorem dX6_placeNow_3 : decode cX6_placeNow 3 = .ok (.istore 4, 2) := by decide +kernel
theorem dX6_placeNow_5 : decode cX6_placeNow 5 = .ok (.iload 4, 2) := by decide +kernel
theorem dX6_placeNow_7 : decode cX6_placeNow 7 = .ok (.aload_n 0, 1) := by decide +kernel
theorem dX6_placeNow_8 : decode cX6_placeNow 8 = .ok (.getfield 35, 3) := by decide +kernel
theorem dX6_placeNow_11 : decode cX6_placeNow 11 = .ok (.if_icmp .ge 34, 3) := by decide +kernel
theorem dX6_placeNow_14 : decode cX6_placeNow 14 = .ok (.lload_n 2, 1) := by decide +kernel
theorem dX6_placeNow_15 : decode cX6_placeNow 15 = .ok (.aload_n 0, 1) := by decide +kernel
theorem dX6_placeNow_16 : decode cX6_placeNow 16 = .ok (.getfield 13, 3) := by decide +kernel
theorem dX6_placeNow_19 : decode cX6_placeNow 19 = .ok (.iload 4, 2) := by decide +kernel
theorem dX6_placeNow_21 : decode cX6_placeNow 21 = .ok (.laload, 1) := by decide +kernel
theorem dX6_placeNow_22 : decode cX6_placeNow 22 = .ok (.aload_n 0, 1) := by decide +kernel
theorem dX6_placeNow_23 : decode cX6_placeNow 23 = .ok (.getfield 13, 3) := by decide +kernel
theorem dX6_placeNow_26 : decode cX6_placeNow 26 = .ok (.iload_n 1, 1) := by decide +kernel
theorem dX6_placeNow_27 : decode cX6_placeNow 27 = .ok (.laload, 1) := by decide +kernel
theorem dX6_placeNow_28 : decode cX6_placeNow 28 = .ok (.lcmp, 1) := by decide +kernel
theorem dX6_placeNow_29 : decode cX6_placeNow 29 = .ok (.ifCond .ge 7, 3) := by decide +kernel
theorem dX6_placeNow_32 : decode cX6_placeNow 32 = .ok (.lconst 1, 1) := by decide +kernel
theorem dX6_placeNow_33 : decode cX6_placeNow 33 = .ok (.goto 4, 3) := by decide +kernel
theorem dX6_placeNow_36 : decode cX6_placeNow 36 = .ok (.lconst 0, 1) := by decide +kernel
theorem dX6_placeNow_37 : decode cX6_placeNow 37 = .ok (.ladd, 1) := by decide +kernel
theorem dX6_placeNow_38 : decode cX6_placeNow 38 = .ok (.lstore_n 2, 1) := by decide +kernel
theorem dX6_placeNow_39 : decode cX6_placeNow 39 = .ok (.iinc 4 1, 3) := by decide +kernel
theorem dX6_placeNow_42 : decode cX6_placeNow 42 = .ok (.goto (-37), 3) := by decide +kernel
theorem dX6_placeNow_45 : decode cX6_placeNow 45 = .ok (.lload_n 2, 1) := by decide +kernel
theorem dX6_placeNow_46 : decode cX6_placeNow 46 = .ok (.lreturn, 1) := by decide +kernel
set_option maxRecDepth 20000 in
theorem ggX6_placeByName_X6_isGlass : GoodIn wsX6_placeByName wsX6_isGlass := goodIn_r _ [6, 7, 8, 9, 5, 10, 16, 17, 18, 19, 20, 21, 22, 23, 24, 25, 26, 27, 28, 29, 30, 31, 32, 33] (by decide +kernel) (by decide +kernel)
set_option maxRecDepth 20000 in
theorem gX6_placeByName_X6_isGlass : GoodIn wsX6_placeByName (wsV RX6 100 RX6 yX6_isGlass wsX6_isGlass) := goodIn_app (goodIn_of _ (by decide +kernel)) ggX6_placeByName_X6_isGlass
set_option maxRecDepth 20000 in
theorem ggX6_placeByName_X6_placeNow : GoodIn wsX6_placeByName wsX6_placeNow := goodIn_r _ [14, 7, 15, 16, 17, 18, 19, 20, 21, 22, 23, 24, 25, 26, 27, 28, 29, 30, 31, 32, 33] (by decide +kernel) (by decide +kernel)
set_option maxRecDepth 20000 in
theorem gX6_placeByName_X6_placeNow : GoodIn wsX6_placeByName (wsV RX6 111 RX6 yX6_placeNow wsX6_placeNow) := goodIn_app (goodIn_of _ (by decide +kernel)) ggX6_placeByName_X6_placeNow
theorem dX6_placeByName_0 : decode cX6_placeByName 0 = .ok (.aload_n 0, 1) := by decide +kernel
theorem dX6_placeByName_1 : decode cX6_placeByName 1 = .ok (.iload_n 1, 1) := by decide +kernel
theorem dX6_placeByName_2 : decode cX6_placeByName 2 = .ok (.invokevirtual 100, 3) := by decide +kernel
theorem dX6_placeByName_5 : decode cX6_placeByName 5 = .ok (.ifCond .eq 11, 3) := by decide +kernel
theorem dX6_placeByName_8 : decode cX6_placeByName 8 = .ok (.aload_n 0, 1) := by decide +kernel
theorem dX6_placeByName_9 : decode cX6_placeByName 9 = .ok (.iload_n 1, 1) := by decide +kernel
theorem dX6_placeByName_10 : decode cX6_placeByName 10 = .ok (.invokevirtual 111, 3) := by decide +kernel
theorem dX6_placeByName_13 : decode cX6_placeByName 13 = .ok (.goto 6, 3) := by decide +kernel
theorem dX6_placeByName_16 : decode cX6_placeByName 16 = .ok (.ldc2_w 104, 3) := by decide +kernel
theorem dX6_placeByName_19 : decode cX6_placeByName 19 = .ok (.lreturn, 1) := by decide +kernel
set_option maxRecDepth 20000 in
theorem ggX6_abbeNow_X6_a : GoodIn wsX6_abbeNow wsX6_a := goodIn_r _ [6, 7, 8, 13, 14, 15, 16, 17, 18, 19, 20, 21, 22, 23, 24, 25, 26, 27, 28, 29, 30] (by decide +kernel) (by decide +kernel)
set_option maxRecDepth 20000 in
theorem gX6_abbeNow_X6_a : GoodIn wsX6_abbeNow (wsV RX6 117 RX6 yX6_a wsX6_a) := goodIn_app (goodIn_of _ (by decide +kernel)) ggX6_abbeNow_X6_a
set_option maxRecDepth 20000 in
theorem ggX6_abbeNow_X6_b : GoodIn wsX6_abbeNow wsX6_b := goodIn_r _ [12, 7, 13, 14, 15, 16, 17, 18, 19, 20, 21, 22, 23, 24, 25, 26, 27, 28, 29, 30] (by decide +kernel) (by decide +kernel)
set_option maxRecDepth 20000 in
theorem gX6_abbeNow_X6_b : GoodIn wsX6_abbeNow (wsV RX6 120 RX6 yX6_b wsX6_b) := goodIn_app (goodIn_of _ (by decide +kernel)) ggX6_abbeNow_X6_b
theorem dX6_abbeNow_0 : decode cX6_abbeNow 0 = .ok (.ldc2_w 115, 3) := by decide +kernel
theorem dX6_abbeNow_3 : decode cX6_abbeNow 3 = .ok (.aload_n 0, 1) := by decide +kernel
theorem dX6_abbeNow_4 : decode cX6_abbeNow 4 = .ok (.iload_n 1, 1) := by decide +kernel
theorem dX6_abbeNow_5 : decode cX6_abbeNow 5 = .ok (.invokevirtual 117, 3) := by decide +kernel
theorem dX6_abbeNow_8 : decode cX6_abbeNow 8 = .ok (.lmul, 1) := by decide +kernel
theorem dX6_abbeNow_9 : decode cX6_abbeNow 9 = .ok (.aload_n 0, 1) := by decide +kernel
theorem dX6_abbeNow_10 : decode cX6_abbeNow 10 = .ok (.iload_n 1, 1) := by decide +kernel
theorem dX6_abbeNow_11 : decode cX6_abbeNow 11 = .ok (.invokevirtual 120, 3) := by decide +kernel
theorem dX6_abbeNow_14 : decode cX6_abbeNow 14 = .ok (.ldiv, 1) := by decide +kernel
theorem dX6_abbeNow_15 : decode cX6_abbeNow 15 = .ok (.lreturn, 1) := by decide +kernel
set_option maxRecDepth 20000 in
theorem ggX6_partialNow_X6_d : GoodIn wsX6_partialNow wsX6_d := goodIn_r _ [6, 7, 12, 13, 14, 15, 16, 17, 18, 19, 20, 21, 22, 23, 24, 25, 26, 27, 28, 29] (by decide +kernel) (by decide +kernel)
set_option maxRecDepth 20000 in
theorem gX6_partialNow_X6_d : GoodIn wsX6_partialNow (wsV RX6 125 RX6 yX6_d wsX6_d) := goodIn_app (goodIn_of _ (by decide +kernel)) ggX6_partialNow_X6_d
set_option maxRecDepth 20000 in
theorem ggX6_partialNow_X6_b : GoodIn wsX6_partialNow wsX6_b := goodIn_r _ [11, 7, 12, 13, 14, 15, 16, 17, 18, 19, 20, 21, 22, 23, 24, 25, 26, 27, 28, 29] (by decide +kernel) (by decide +kernel)
set_option maxRecDepth 20000 in
theorem gX6_partialNow_X6_b : GoodIn wsX6_partialNow (wsV RX6 120 RX6 yX6_b wsX6_b) := goodIn_app (goodIn_of _ (by decide +kernel)) ggX6_partialNow_X6_b
theorem dX6_partialNow_0 : decode cX6_partialNow 0 = .ok (.ldc2_w 123, 3) := by decide +kernel
theorem dX6_partialNow_3 : decode cX6_partialNow 3 = .ok (.aload_n 0, 1) := by decide +kernel
theorem dX6_partialNow_4 : decode cX6_partialNow 4 = .ok (.iload_n 1, 1) := by decide +kernel
theorem dX6_partialNow_5 : decode cX6_partialNow 5 = .ok (.invokevirtual 125, 3) := by decide +kernel
theorem dX6_partialNow_8 : decode cX6_partialNow 8 = .ok (.lmul, 1) := by decide +kernel
theorem dX6_partialNow_9 : decode cX6_partialNow 9 = .ok (.aload_n 0, 1) := by decide +kernel
theorem dX6_partialNow_10 : decode cX6_partialNow 10 = .ok (.iload_n 1, 1) := by decide +kernel
theorem dX6_partialNow_11 : decode cX6_partialNow 11 = .ok (.invokevirtual 120, 3) := by decide +kernel
theorem dX6_partialNow_14 : decode cX6_partialNow 14 = .ok (.ldiv, 1) := by decide +kernel
theorem dX6_partialNow_15 : decode cX6_partialNow 15 = .ok (.lreturn, 1) := by decide +kernel
set_option maxRecDepth 20000 in
theorem ggX6_abbe_X6_isGlass : GoodIn wsX6_abbe wsX6_isGlass := goodIn_r _ [6, 7, 8, 9, 5, 10, 26, 27, 28, 29, 30, 31, 32, 33, 34, 35, 36, 37, 38, 39, 40, 41, 42, 43] (by decide +kernel) (by decide +kernel)
set_option maxRecDepth 20000 in
theorem gX6_abbe_X6_isGlass : GoodIn wsX6_abbe (wsV RX6 100 RX6 yX6_isGlass wsX6_isGlass) := goodIn_app (goodIn_of _ (by decide +kernel)) ggX6_abbe_X6_isGlass
set_option maxRecDepth 20000 in
theorem ggX6_abbe_X6_abbeNow : GoodIn wsX6_abbe wsX6_abbeNow := goodIn_r _ [14, 15, 16, 17, 18, 5, 19, 20, 21, 22, 23, 24, 25, 26, 27, 28, 29, 30, 31, 32, 33, 34, 35, 36, 37, 38, 39, 40, 41, 42, 43] (by decide +kernel) (by decide +kernel)
set_option maxRecDepth 20000 in
theorem gX6_abbe_X6_abbeNow : GoodIn wsX6_abbe (wsV RX6 128 RX6 yX6_abbeNow wsX6_abbeNow) := goodIn_app (goodIn_of _ (by decide +kernel)) ggX6_abbe_X6_abbeNow
theorem dX6_abbe_0 : decode cX6_abbe 0 = .ok (.aload_n 0, 1) := by decide +kernel
theorem dX6_abbe_1 : decode cX6_abbe 1 = .ok (.iload_n 1, 1) := by decide +kernel
theorem dX6_abbe_2 : decode cX6_abbe 2 = .ok (.invokevirtual 100, 3) := by decide +kernel
theorem dX6_abbe_5 : decode cX6_abbe 5 = .ok (.ifCond .eq 11, 3) := by decide +kernel
theorem dX6_abbe_8 : decode cX6_abbe 8 = .ok (.aload_n 0, 1) := by decide +kernel
theorem dX6_abbe_9 : decode cX6_abbe 9 = .ok (.iload_n 1, 1) := by decide +kernel
theorem dX6_abbe_10 : decode cX6_abbe 10 = .ok (.invokevirtual 128, 3) := by decide +kernel
theorem dX6_abbe_13 : decode cX6_abbe 13 = .ok (.goto 6, 3) := by decide +kernel
theorem dX6_abbe_16 : decode cX6_abbe 16 = .ok (.ldc2_w 104, 3) := by decide +kernel
theorem dX6_abbe_19 : decode cX6_abbe 19 = .ok (.lreturn, 1) := by decide +kernel
set_option maxRecDepth 20000 in
theorem ggX6_partial_X6_isGlass : GoodIn wsX6_partial wsX6_isGlass := goodIn_r _ [6, 7, 8, 9, 5, 10, 25, 26, 27, 28, 29, 30, 31, 32, 33, 34, 35, 36, 37, 38, 39, 40, 41, 42] (by decide +kernel) (by decide +kernel)
set_option maxRecDepth 20000 in
theorem gX6_partial_X6_isGlass : GoodIn wsX6_partial (wsV RX6 100 RX6 yX6_isGlass wsX6_isGlass) := goodIn_app (goodIn_of _ (by decide +kernel)) ggX6_partial_X6_isGlass
set_option maxRecDepth 20000 in
theorem ggX6_partial_X6_partialNow : GoodIn wsX6_partial wsX6_partialNow := goodIn_r _ [14, 15, 16, 17, 18, 5, 19, 20, 21, 22, 23, 24, 25, 26, 27, 28, 29, 30, 31, 32, 33, 34, 35, 36, 37, 38, 39, 40, 41, 42] (by decide +kernel) (by decide +kernel)
set_option maxRecDepth 20000 in
theorem gX6_partial_X6_partialNow : GoodIn wsX6_partial (wsV RX6 131 RX6 yX6_partialNow wsX6_partialNow) := goodIn_app (goodIn_of _ (by decide +kernel)) ggX6_partial_X6_partialNow
theorem dX6_partial_0 : decode cX6_partial 0 = .ok (.aload_n 0, 1) := by decide +kernel
theorem dX6_partial_1 : decode cX6_partial 1 = .ok (.iload_n 1, 1) := by decide +kernel
theorem dX6_partial_2 : decode cX6_partial 2 = .ok (.invokevirtual 100, 3) := by decide +kernel
theorem dX6_partial_5 : decode cX6_partial 5 = .ok (.ifCond .eq 11, 3) := by decide +kernel
theorem dX6_partial_8 : decode cX6_partial 8 = .ok (.aload_n 0, 1) := by decide +kernel
theorem dX6_partial_9 : decode cX6_partial 9 = .ok (.iload_n 1, 1) := by decide +kernel
theorem dX6_partial_10 : decode cX6_partial 10 = .ok (.invokevirtual 131, 3) := by decide +kernel
theorem dX6_partial_13 : decode cX6_partial 13 = .ok (.goto 6, 3) := by decide +kernel
theorem dX6_partial_16 : decode cX6_partial 16 = .ok (.ldc2_w 104, 3) := by decide +kernel
theorem dX6_partial_19 : decode cX6_partial 19 = .ok (.lreturn, 1) := by decide +kernel
set_option maxRecDepth 20000 in
theorem ggX6_glassWithAbbe_X6_abbeNow : GoodIn wsX6_glassWithAbbe wsX6_abbeNow := goodIn_r _ [7, 8, 9, 10, 11, 6, 12, 13, 14, 15, 16, 17, 18, 19, 20, 21, 22, 23, 24, 25, 26, 27, 28, 29, 30, 31, 32, 33, 34, 35, 36] (by decide +kernel) (by decide +kernel)
set_option maxRecDepth 20000 in
theorem gX6_glassWithAbbe_X6_abbeNow : GoodIn wsX6_glassWithAbbe (wsV RX6 128 RX6 yX6_abbeNow wsX6_abbeNow) := goodIn_app (goodIn_of _ (by decide +kernel)) ggX6_glassWithAbbe_X6_abbeNow
theorem dX6_glassWithAbbe_0 : decode cX6_glassWithAbbe 0 = .ok (.iconst (-1), 1) := by decide +kernel
theorem dX6_glassWithAbbe_1 : decode cX6_glassWithAbbe 1 = .ok (.istore_n 2, 1) := by decide +kernel
theorem dX6_glassWithAbbe_2 : decode cX6_glassWithAbbe 2 = .ok (.iconst 0, 1) := by decide +kernel
theorem dX6_glassWithAbbe_3 : decode cX6_glassWithAbbe 3 = .ok (.istore_n 3, 1) := by decide +kernel
theorem dX6_glassWithAbbe_4 : decode cX6_glassWithAbbe 4 = .ok (.iload_n 3, 1) := by decide +kernel
theorem dX6_glassWithAbbe_5 : decode cX6_glassWithAbbe 5 = .ok (.aload_n 0, 1) := by decide +kernel
theorem dX6_glassWithAbbe_6 : decode cX6_glassWithAbbe 6 = .ok (.getfield 35, 3) := by decide +kernel
theorem dX6_glassWithAbbe_9 : decode cX6_glassWithAbbe 9 = .ok (.if_icmp .ge 56, 3) := by decide +kernel
theorem dX6_glassWithAbbe_12 : decode cX6_glassWithAbbe 12 = .ok (.aload_n 0, 1) := by decide +kernel
theorem dX6_glassWithAbbe_13 : decode cX6_glassWithAbbe 13 = .ok (.iload_n 3, 1) := by decide +kernel
theorem dX6_glassWithAbbe_14 : decode cX6_glassWithAbbe 14 = .ok (.invokevirtual 128, 3) := by decide +kernel
theorem dX6_glassWithAbbe_17 : decode cX6_glassWithAbbe 17 = .ok (.iload_n 1, 1) := by decide +kernel
theorem dX6_glassWithAbbe_18 : decode cX6_glassWithAbbe 18 = .ok (.i2l, 1) := by decide +kernel
theorem dX6_glassWithAbbe_19 : decode cX6_glassWithAbbe 19 = .ok (.lcmp, 1) := by decide +kernel
theorem dX6_glassWithAbbe_20 : decode cX6_glassWithAbbe 20 = .ok (.ifCond .lt 25, 3) := by decide +kernel
theorem dX6_glassWithAbbe_23 : decode cX6_glassWithAbbe 23 = .ok (.iload_n 2, 1) := by decide +kernel
theorem dX6_glassWithAbbe_24 : decode cX6_glassWithAbbe 24 = .ok (.ifCond .lt 17, 3) := by decide +kernel
theorem dX6_glassWithAbbe_27 : decode cX6_glassWithAbbe 27 = .ok (.aload_n 0, 1) := by decide +kernel
theorem dX6_glassWithAbbe_28 : decode cX6_glassWithAbbe 28 = .ok (.iload_n 3, 1) := by decide +kernel
theorem dX6_glassWithAbbe_29 : decode cX6_glassWithAbbe 29 = .ok (.invokevirtual 128, 3) := by decide +kernel
theorem dX6_glassWithAbbe_32 : decode cX6_glassWithAbbe 32 = .ok (.aload_n 0, 1) := by decide +kernel
theorem dX6_glassWithAbbe_33 : decode cX6_glassWithAbbe 33 = .ok (.iload_n 2, 1) := by decide +kernel
theorem dX6_glassWithAbbe_34 : decode cX6_glassWithAbbe 34 = .ok (.invokevirtual 128, 3) := by decide +kernel
theorem dX6_glassWithAbbe_37 : decode cX6_glassWithAbbe 37 = .ok (.lcmp, 1) := by decide +kernel
theorem dX6_glassWithAbbe_38 : decode cX6_glassWithAbbe 38 = .ok (.ifCond .ge 7, 3) := by decide +kernel
theorem dX6_glassWithAbbe_41 : decode cX6_glassWithAbbe 41 = .ok (.iconst 1, 1) := by decide +kernel
theorem dX6_glassWithAbbe_42 : decode cX6_glassWithAbbe 42 = .ok (.goto 4, 3) := by decide +kernel
theorem dX6_glassWithAbbe_45 : decode cX6_glassWithAbbe 45 = .ok (.iconst 0, 1) := by decide +kernel
theorem dX6_glassWithAbbe_46 : decode cX6_glassWithAbbe 46 = .ok (.istore 4, 2) := by decide +kernel
theorem dX6_glassWithAbbe_48 : decode cX6_glassWithAbbe 48 = .ok (.iload 4, 2) := by decide +kernel
theorem dX6_glassWithAbbe_50 : decode cX6_glassWithAbbe 50 = .ok (.ifCond .eq 7, 3) := by decide +kernel
theorem dX6_glassWithAbbe_53 : decode cX6_glassWithAbbe 53 = .ok (.iload_n 3, 1) := by decide +kernel
theorem dX6_glassWithAbbe_54 : decode cX6_glassWithAbbe 54 = .ok (.goto 4, 3) := by decide +kernel
theorem dX6_glassWithAbbe_57 : decode cX6_glassWithAbbe 57 = .ok (.iload_n 2, 1) := by decide +kernel
theorem dX6_glassWithAbbe_58 : decode cX6_glassWithAbbe 58 = .ok (.istore_n 2, 1) := by decide +kernel
theorem dX6_glassWithAbbe_59 : decode cX6_glassWithAbbe 59 = .ok (.iinc 3 1, 3) := by decide +kernel
theorem dX6_glassWithAbbe_62 : decode cX6_glassWithAbbe 62 = .ok (.goto (-58), 3) := by decide +kernel
theorem dX6_glassWithAbbe_65 : decode cX6_glassWithAbbe 65 = .ok (.iload_n 2, 1) := by decide +kernel
theorem dX6_glassWithAbbe_66 : decode cX6_glassWithAbbe 66 = .ok (.ifCond .ge 9, 3) := by decide +kernel
theorem dX6_glassWithAbbe_69 : decode cX6_glassWithAbbe 69 = .ok (.ldc2_w 134, 3) := by decide +kernel
theorem dX6_glassWithAbbe_72 : decode cX6_glassWithAbbe 72 = .ok (.goto 5, 3) := by decide +kernel
theorem dX6_glassWithAbbe_75 : decode cX6_glassWithAbbe 75 = .ok (.iload_n 2, 1) := by decide +kernel
theorem dX6_glassWithAbbe_76 : decode cX6_glassWithAbbe 76 = .ok (.i2l, 1) := by decide +kernel
theorem dX6_glassWithAbbe_77 : decode cX6_glassWithAbbe 77 = .ok (.lreturn, 1) := by decide +kernel
set_option maxRecDepth 20000 in
theorem ggX6_e_X6_a : GoodIn wsX6_e wsX6_a := goodIn_r _ [5, 6, 7, 12, 13, 14, 15, 16, 17, 18, 19, 20, 21, 22, 23, 24, 25, 26, 27, 28, 29] (by decide +kernel) (by decide +kernel)
set_option maxRecDepth 20000 in
theorem gX6_e_X6_a : GoodIn wsX6_e (wsV RX6 117 RX6 yX6_a wsX6_a) := goodIn_app (goodIn_of _ (by decide +kernel)) ggX6_e_X6_a
set_option maxRecDepth 20000 in
theorem ggX6_e_X6_b : GoodIn wsX6_e wsX6_b := goodIn_r _ [11, 6, 12, 13, 14, 15, 16, 17, 18, 19, 20, 21, 22, 23, 24, 25, 26, 27, 28, 29] (by decide +kernel) (by decide +kernel)
set_option maxRecDepth 20000 in
theorem gX6_e_X6_b : GoodIn wsX6_e (wsV RX6 120 RX6 yX6_b wsX6_b) := goodIn_app (goodIn_of _ (by decide +kernel)) ggX6_e_X6_b
theorem dX6_e_0 : decode cX6_e 0 = .ok (.aload_n 0, 1) := by decide +kernel
theorem dX6_e_1 : decode cX6_e 1 = .ok (.iload_n 1, 1) := by decide +kernel
theorem dX6_e_2 : decode cX6_e 2 = .ok (.invokevirtual 117, 3) := by decide +kernel
theorem dX6_e_5 : decode cX6_e 5 = .ok (.aload_n 0, 1) := by decide +kernel
theorem dX6_e_6 : decode cX6_e 6 = .ok (.iload_n 2, 1) := by decide +kernel
theorem dX6_e_7 : decode cX6_e 7 = .ok (.invokevirtual 120, 3) := by decide +kernel
theorem dX6_e_10 : decode cX6_e 10 = .ok (.lmul, 1) := by decide +kernel
theorem dX6_e_11 : decode cX6_e 11 = .ok (.aload_n 0, 1) := by decide +kernel
theorem dX6_e_12 : decode cX6_e 12 = .ok (.iload_n 2, 1) := by decide +kernel
theorem dX6_e_13 : decode cX6_e 13 = .ok (.invokevirtual 117, 3) := by decide +kernel
theorem dX6_e_16 : decode cX6_e 16 = .ok (.aload_n 0, 1) := by decide +kernel
theorem dX6_e_17 : decode cX6_e 17 = .ok (.iload_n 1, 1) := by decide +kernel
theorem dX6_e_18 : decode cX6_e 18 = .ok (.invokevirtual 120, 3) := by decide +kernel
theorem dX6_e_21 : decode cX6_e 21 = .ok (.lmul, 1) := by decide +kernel
theorem dX6_e_22 : decode cX6_e 22 = .ok (.lsub, 1) := by decide +kernel
theorem dX6_e_23 : decode cX6_e 23 = .ok (.lreturn, 1) := by decide +kernel
set_option maxRecDepth 20000 in
theorem ggX6_spectrum_X6_d : GoodIn wsX6_spectrum wsX6_d := goodIn_r _ [5, 6, 11, 12, 13, 14, 15, 16, 17, 18, 19, 20, 21, 22, 23, 24, 25, 26, 27, 28] (by decide +kernel) (by decide +kernel)
set_option maxRecDepth 20000 in
theorem gX6_spectrum_X6_d : GoodIn wsX6_spectrum (wsV RX6 125 RX6 yX6_d wsX6_d) := goodIn_app (goodIn_of _ (by decide +kernel)) ggX6_spectrum_X6_d
set_option maxRecDepth 20000 in
theorem ggX6_spectrum_X6_b : GoodIn wsX6_spectrum wsX6_b := goodIn_r _ [10, 6, 11, 12, 13, 14, 15, 16, 17, 18, 19, 20, 21, 22, 23, 24, 25, 26, 27, 28] (by decide +kernel) (by decide +kernel)
set_option maxRecDepth 20000 in
theorem gX6_spectrum_X6_b : GoodIn wsX6_spectrum (wsV RX6 120 RX6 yX6_b wsX6_b) := goodIn_app (goodIn_of _ (by decide +kernel)) ggX6_spectrum_X6_b
theorem dX6_spectrum_0 : decode cX6_spectrum 0 = .ok (.aload_n 0, 1) := by decide +kernel
theorem dX6_spectrum_1 : decode cX6_spectrum 1 = .ok (.iload_n 1, 1) := by decide +kernel
theorem dX6_spectrum_2 : decode cX6_spectrum 2 = .ok (.invokevirtual 125, 3) := by decide +kernel
theorem dX6_spectrum_5 : decode cX6_spectrum 5 = .ok (.aload_n 0, 1) := by decide +kernel
theorem dX6_spectrum_6 : decode cX6_spectrum 6 = .ok (.iload_n 2, 1) := by decide +kernel
theorem dX6_spectrum_7 : decode cX6_spectrum 7 = .ok (.invokevirtual 120, 3) := by decide +kernel
theorem dX6_spectrum_10 : decode cX6_spectrum 10 = .ok (.lmul, 1) := by decide +kernel
theorem dX6_spectrum_11 : decode cX6_spectrum 11 = .ok (.aload_n 0, 1) := by decide +kernel
theorem dX6_spectrum_12 : decode cX6_spectrum 12 = .ok (.iload_n 2, 1) := by decide +kernel
theorem dX6_spectrum_13 : decode cX6_spectrum 13 = .ok (.invokevirtual 125, 3) := by decide +kernel
theorem dX6_spectrum_16 : decode cX6_spectrum 16 = .ok (.aload_n 0, 1) := by decide +kernel
theorem dX6_spectrum_17 : decode cX6_spectrum 17 = .ok (.iload_n 1, 1) := by decide +kernel
theorem dX6_spectrum_18 : decode cX6_spectrum 18 = .ok (.invokevirtual 120, 3) := by decide +kernel
theorem dX6_spectrum_21 : decode cX6_spectrum 21 = .ok (.lmul, 1) := by decide +kernel
theorem dX6_spectrum_22 : decode cX6_spectrum 22 = .ok (.lsub, 1) := by decide +kernel
theorem dX6_spectrum_23 : decode cX6_spectrum 23 = .ok (.lreturn, 1) := by decide +kernel
set_option maxRecDepth 20000 in
theorem ggX6_strain_X6_a : GoodIn wsX6_strain wsX6_a := goodIn_r _ [5, 6, 7, 12, 13, 14, 15, 16, 17, 18, 19, 20, 21, 22, 23, 24, 25, 26, 27, 28, 29] (by decide +kernel) (by decide +kernel)
set_option maxRecDepth 20000 in
theorem gX6_strain_X6_a : GoodIn wsX6_strain (wsV RX6 117 RX6 yX6_a wsX6_a) := goodIn_app (goodIn_of _ (by decide +kernel)) ggX6_strain_X6_a
set_option maxRecDepth 20000 in
theorem ggX6_strain_X6_b : GoodIn wsX6_strain wsX6_b := goodIn_r _ [11, 6, 12, 13, 14, 15, 16, 17, 18, 19, 20, 21, 22, 23, 24, 25, 26, 27, 28, 29] (by decide +kernel) (by decide +kernel)
set_option maxRecDepth 20000 in
theorem gX6_strain_X6_b : GoodIn wsX6_strain (wsV RX6 120 RX6 yX6_b wsX6_b) := goodIn_app (goodIn_of _ (by decide +kernel)) ggX6_strain_X6_b
theorem dX6_strain_0 : decode cX6_strain 0 = .ok (.aload_n 0, 1) := by decide +kernel
theorem dX6_strain_1 : decode cX6_strain 1 = .ok (.iload_n 1, 1) := by decide +kernel
theorem dX6_strain_2 : decode cX6_strain 2 = .ok (.invokevirtual 117, 3) := by decide +kernel
theorem dX6_strain_5 : decode cX6_strain 5 = .ok (.aload_n 0, 1) := by decide +kernel
theorem dX6_strain_6 : decode cX6_strain 6 = .ok (.iload_n 2, 1) := by decide +kernel
theorem dX6_strain_7 : decode cX6_strain 7 = .ok (.invokevirtual 120, 3) := by decide +kernel
theorem dX6_strain_10 : decode cX6_strain 10 = .ok (.lmul, 1) := by decide +kernel
theorem dX6_strain_11 : decode cX6_strain 11 = .ok (.aload_n 0, 1) := by decide +kernel
theorem dX6_strain_12 : decode cX6_strain 12 = .ok (.iload_n 2, 1) := by decide +kernel
theorem dX6_strain_13 : decode cX6_strain 13 = .ok (.invokevirtual 117, 3) := by decide +kernel
theorem dX6_strain_16 : decode cX6_strain 16 = .ok (.aload_n 0, 1) := by decide +kernel
theorem dX6_strain_17 : decode cX6_strain 17 = .ok (.iload_n 1, 1) := by decide +kernel
theorem dX6_strain_18 : decode cX6_strain 18 = .ok (.invokevirtual 120, 3) := by decide +kernel
theorem dX6_strain_21 : decode cX6_strain 21 = .ok (.lmul, 1) := by decide +kernel
theorem dX6_strain_22 : decode cX6_strain 22 = .ok (.ladd, 1) := by decide +kernel
theorem dX6_strain_23 : decode cX6_strain 23 = .ok (.lreturn, 1) := by decide +kernel
set_option maxRecDepth 20000 in
theorem ggX6_doubletPower_X6_isGlass : GoodIn wsX6_doubletPower wsX6_isGlass := goodIn_r _ [11, 12, 13, 14, 10, 15, 33, 34, 35, 36, 37, 38, 39, 40, 41, 42, 43, 44, 45, 46, 47, 48, 49, 50] (by decide +kernel) (by decide +kernel)
set_option maxRecDepth 20000 in
theorem gX6_doubletPower_X6_isGlass : GoodIn wsX6_doubletPower (wsV RX6 100 RX6 yX6_isGlass wsX6_isGlass) := goodIn_app (goodIn_of _ (by decide +kernel)) ggX6_doubletPower_X6_isGlass
set_option maxRecDepth 20000 in
theorem ggX6_doubletPower_X6_within : GoodIn wsX6_doubletPower wsX6_within := goodIn_r _ [15] (by decide +kernel) (by decide +kernel)
set_option maxRecDepth 20000 in
theorem gX6_doubletPower_X6_within : GoodIn wsX6_doubletPower (va_wsS RX6 39 yX6_within wsX6_within) := goodIn_app (goodIn_of _ (by decide +kernel)) ggX6_doubletPower_X6_within
set_option maxRecDepth 20000 in
theorem ggX6_doubletPower_X6_a : GoodIn wsX6_doubletPower wsX6_a := goodIn_r _ [19, 20, 21, 33, 34, 35, 36, 37, 38, 39, 40, 41, 42, 43, 44, 45, 46, 47, 48, 49, 50] (by decide +kernel) (by decide +kernel)
set_option maxRecDepth 20000 in
theorem gX6_doubletPower_X6_a : GoodIn wsX6_doubletPower (wsV RX6 117 RX6 yX6_a wsX6_a) := goodIn_app (goodIn_of _ (by decide +kernel)) ggX6_doubletPower_X6_a
set_option maxRecDepth 20000 in
theorem ggX6_doubletPower_X6_b : GoodIn wsX6_doubletPower wsX6_b := goodIn_r _ [25, 20, 33, 34, 35, 36, 37, 38, 39, 40, 41, 42, 43, 44, 45, 46, 47, 48, 49, 50] (by decide +kernel) (by decide +kernel)
set_option maxRecDepth 20000 in
theorem gX6_doubletPower_X6_b : GoodIn wsX6_doubletPower (wsV RX6 120 RX6 yX6_b wsX6_b) := goodIn_app (goodIn_of _ (by decide +kernel)) ggX6_doubletPower_X6_b
set_option maxRecDepth 20000 in
theorem ggX6_doubletPower_X6_e : GoodIn wsX6_doubletPower wsX6_e := goodIn_r _ [29, 16, 17, 18, 10, 19, 20, 21, 22, 23, 24, 25, 33, 34, 35, 36, 37, 38, 39, 40, 41, 42, 43, 44, 45, 46, 47, 48, 49, 50] (by decide +kernel) (by decide +kernel)
set_option maxRecDepth 20000 in
theorem gX6_doubletPower_X6_e : GoodIn wsX6_doubletPower (wsV RX6 140 RX6 yX6_e wsX6_e) := goodIn_app (goodIn_of _ (by decide +kernel)) ggX6_doubletPower_X6_e
set_option maxRecDepth 20000 in
theorem ggX6_doubletPower_X6_floor : GoodIn wsX6_doubletPower wsX6_floor := goodIn_r _ [32] (by decide +kernel) (by decide +kernel)
set_option maxRecDepth 20000 in
theorem gX6_doubletPower_X6_floor : GoodIn wsX6_doubletPower (va_wsS RX6 144 yX6_floor wsX6_floor) := goodIn_app (goodIn_of _ (by decide +kernel)) ggX6_doubletPower_X6_floor
theorem dX6_doubletPower_0 : decode cX6_doubletPower 0 = .ok (.aload_n 0, 1) := by decide +kernel
theorem dX6_doubletPower_1 : decode cX6_doubletPower 1 = .ok (.iload_n 1, 1) := by decide +kernel
theorem dX6_doubletPower_2 : decode cX6_doubletPower 2 = .ok (.invokevirtual 100, 3) := by decide +kernel
theorem dX6_doubletPower_5 : decode cX6_doubletPower 5 = .ok (.ifCond .eq 11, 3) := by decide +kernel
theorem dX6_doubletPower_8 : decode cX6_doubletPower 8 = .ok (.aload_n 0, 1) := by decide +kernel
theorem dX6_doubletPower_9 : decode cX6_doubletPower 9 = .ok (.iload_n 2, 1) := by decide +kernel
theorem dX6_doubletPower_10 : decode cX6_doubletPower 10 = .ok (.invokevirtual 100, 3) := by decide +kernel
theorem dX6_doubletPower_13 : decode cX6_doubletPower 13 = .ok (.ifCond .ne 7, 3) := by decide +kernel
theorem dX6_doubletPower_16 : decode cX6_doubletPower 16 = .ok (.ldc2_w 104, 3) := by decide +kernel
theorem dX6_doubletPower_19 : decode cX6_doubletPower 19 = .ok (.lreturn, 1) := by decide +kernel
theorem dX6_doubletPower_20 : decode cX6_doubletPower 20 = .ok (.iload_n 3, 1) := by decide +kernel
theorem dX6_doubletPower_21 : decode cX6_doubletPower 21 = .ok (.i2l, 1) := by decide +kernel
theorem dX6_doubletPower_22 : decode cX6_doubletPower 22 = .ok (.ldc2_w 136, 3) := by decide +kernel
theorem dX6_doubletPower_25 : decode cX6_doubletPower 25 = .ok (.ldc2_w 138, 3) := by decide +kernel
theorem dX6_doubletPower_28 : decode cX6_doubletPower 28 = .ok (.invokestatic 39, 3) := by decide +kernel
theorem dX6_doubletPower_31 : decode cX6_doubletPower 31 = .ok (.ifCond .eq 14, 3) := by decide +kernel
theorem dX6_doubletPower_34 : decode cX6_doubletPower 34 = .ok (.iload 4, 2) := by decide +kernel
theorem dX6_doubletPower_36 : decode cX6_doubletPower 36 = .ok (.i2l, 1) := by decide +kernel
theorem dX6_doubletPower_37 : decode cX6_doubletPower 37 = .ok (.lconst 0, 1) := by decide +kernel
theorem dX6_doubletPower_38 : decode cX6_doubletPower 38 = .ok (.lconst 1, 1) := by decide +kernel
theorem dX6_doubletPower_39 : decode cX6_doubletPower 39 = .ok (.invokestatic 39, 3) := by decide +kernel
theorem dX6_doubletPower_42 : decode cX6_doubletPower 42 = .ok (.ifCond .ne 7, 3) := by decide +kernel
theorem dX6_doubletPower_45 : decode cX6_doubletPower 45 = .ok (.ldc2_w 53, 3) := by decide +kernel
theorem dX6_doubletPower_48 : decode cX6_doubletPower 48 = .ok (.lreturn, 1) := by decide +kernel
theorem dX6_doubletPower_49 : decode cX6_doubletPower 49 = .ok (.iload 4, 2) := by decide +kernel
theorem dX6_doubletPower_51 : decode cX6_doubletPower 51 = .ok (.ifCond .ne 17, 3) := by decide +kernel
theorem dX6_doubletPower_54 : decode cX6_doubletPower 54 = .ok (.aload_n 0, 1) := by decide +kernel
theorem dX6_doubletPower_55 : decode cX6_doubletPower 55 = .ok (.iload_n 1, 1) := by decide +kernel
theorem dX6_doubletPower_56 : decode cX6_doubletPower 56 = .ok (.invokevirtual 117, 3) := by decide +kernel
theorem dX6_doubletPower_59 : decode cX6_doubletPower 59 = .ok (.aload_n 0, 1) := by decide +kernel
theorem dX6_doubletPower_60 : decode cX6_doubletPower 60 = .ok (.iload_n 2, 1) := by decide +kernel
theorem dX6_doubletPower_61 : decode cX6_doubletPower 61 = .ok (.invokevirtual 120, 3) := by decide +kernel
theorem dX6_doubletPower_64 : decode cX6_doubletPower 64 = .ok (.lmul, 1) := by decide +kernel
theorem dX6_doubletPower_65 : decode cX6_doubletPower 65 = .ok (.goto 15, 3) := by decide +kernel
theorem dX6_doubletPower_68 : decode cX6_doubletPower 68 = .ok (.aload_n 0, 1) := by decide +kernel
theorem dX6_doubletPower_69 : decode cX6_doubletPower 69 = .ok (.iload_n 2, 1) := by decide +kernel
theorem dX6_doubletPower_70 : decode cX6_doubletPower 70 = .ok (.invokevirtual 117, 3) := by decide +kernel
theorem dX6_doubletPower_73 : decode cX6_doubletPower 73 = .ok (.lneg, 1) := by decide +kernel
theorem dX6_doubletPower_74 : decode cX6_doubletPower 74 = .ok (.aload_n 0, 1) := by decide +kernel
theorem dX6_doubletPower_75 : decode cX6_doubletPower 75 = .ok (.iload_n 1, 1) := by decide +kernel
theorem dX6_doubletPower_76 : decode cX6_doubletPower 76 = .ok (.invokevirtual 120, 3) := by decide +kernel
theorem dX6_doubletPower_79 : decode cX6_doubletPower 79 = .ok (.lmul, 1) := by decide +kernel
theorem dX6_doubletPower_80 : decode cX6_doubletPower 80 = .ok (.lstore 5, 2) := by decide +kernel
theorem dX6_doubletPower_82 : decode cX6_doubletPower 82 = .ok (.aload_n 0, 1) := by decide +kernel
theorem dX6_doubletPower_83 : decode cX6_doubletPower 83 = .ok (.iload_n 1, 1) := by decide +kernel
theorem dX6_doubletPower_84 : decode cX6_doubletPower 84 = .ok (.iload_n 2, 1) := by decide +kernel
theorem dX6_doubletPower_85 : decode cX6_doubletPower 85 = .ok (.invokevirtual 140, 3) := by decide +kernel
theorem dX6_doubletPower_88 : decode cX6_doubletPower 88 = .ok (.lstore 7, 2) := by decide +kernel
theorem dX6_doubletPower_90 : decode cX6_doubletPower 90 = .ok (.lload 7, 2) := by decide +kernel
theorem dX6_doubletPower_92 : decode cX6_doubletPower 92 = .ok (.lconst 0, 1) := by decide +kernel
theorem dX6_doubletPower_93 : decode cX6_doubletPower 93 = .ok (.lcmp, 1) := by decide +kernel
theorem dX6_doubletPower_94 : decode cX6_doubletPower 94 = .ok (.ifCond .ne 9, 3) := by decide +kernel
theorem dX6_doubletPower_97 : decode cX6_doubletPower 97 = .ok (.ldc2_w 134, 3) := by decide +kernel
theorem dX6_doubletPower_100 : decode cX6_doubletPower 100 = .ok (.goto 17, 3) := by decide +kernel
theorem dX6_doubletPower_103 : decode cX6_doubletPower 103 = .ok (.ldc2_w 115, 3) := by decide +kernel
theorem dX6_doubletPower_106 : decode cX6_doubletPower 106 = .ok (.iload_n 3, 1) := by decide +kernel
theorem dX6_doubletPower_107 : decode cX6_doubletPower 107 = .ok (.i2l, 1) := by decide +kernel
theorem dX6_doubletPower_108 : decode cX6_doubletPower 108 = .ok (.lmul, 1) := by decide +kernel
theorem dX6_doubletPower_109 : decode cX6_doubletPower 109 = .ok (.lload 5, 2) := by decide +kernel
theorem dX6_doubletPower_111 : decode cX6_doubletPower 111 = .ok (.lmul, 1) := by decide +kernel
theorem dX6_doubletPower_112 : decode cX6_doubletPower 112 = .ok (.lload 7, 2) := by decide +kernel
theorem dX6_doubletPower_114 : decode cX6_doubletPower 114 = .ok (.invokestatic 144, 3) := by decide +kernel
theorem dX6_doubletPower_117 : decode cX6_doubletPower 117 = .ok (.lreturn, 1) := by decide +kernel
set_option maxRecDepth 20000 in
theorem ggX6_secondarySpectrum_X6_isGlass : GoodIn wsX6_secondarySpectrum wsX6_isGlass := goodIn_r _ [11, 12, 13, 14, 10, 15, 41, 42, 43, 44, 45, 46, 47, 48, 49, 50, 51, 52, 53, 54, 55, 56, 57, 58] (by decide +kernel) (by decide +kernel)
set_option maxRecDepth 20000 in
theorem gX6_secondarySpectrum_X6_isGlass : GoodIn wsX6_secondarySpectrum (wsV RX6 100 RX6 yX6_isGlass wsX6_isGlass) := goodIn_app (goodIn_of _ (by decide +kernel)) ggX6_secondarySpectrum_X6_isGlass
set_option maxRecDepth 20000 in
theorem ggX6_secondarySpectrum_X6_within : GoodIn wsX6_secondarySpectrum wsX6_within := goodIn_r _ [15] (by decide +kernel) (by decide +kernel)
set_option maxRecDepth 20000 in
theorem gX6_secondarySpectrum_X6_within : GoodIn wsX6_secondarySpectrum (va_wsS RX6 39 yX6_within wsX6_within) := goodIn_app (goodIn_of _ (by decide +kernel)) ggX6_secondarySpectrum_X6_within
set_option maxRecDepth 20000 in
theorem ggX6_secondarySpectrum_X6_e : GoodIn wsX6_secondarySpectrum wsX6_e := goodIn_r _ [19, 20, 21, 22, 10, 23, 24, 25, 26, 27, 28, 29, 41, 42, 43, 44, 45, 46, 47, 48, 49, 50, 51, 52, 53, 54, 55, 56, 57, 58] (by decide +kernel) (by decide +kernel)
set_option maxRecDepth 20000 in
theorem gX6_secondarySpectrum_X6_e : GoodIn wsX6_secondarySpectrum (wsV RX6 140 RX6 yX6_e wsX6_e) := goodIn_app (goodIn_of _ (by decide +kernel)) ggX6_secondarySpectrum_X6_e
set_option maxRecDepth 20000 in
theorem ggX6_secondarySpectrum_X6_spectrum : GoodIn wsX6_secondarySpectrum wsX6_spectrum := goodIn_r _ [33, 34, 35, 36, 10, 37, 24, 26, 27, 28, 29, 41, 42, 43, 44, 45, 46, 47, 48, 49, 50, 51, 52, 53, 54, 55, 56, 57, 58] (by decide +kernel) (by decide +kernel)
set_option maxRecDepth 20000 in
theorem gX6_secondarySpectrum_X6_spectrum : GoodIn wsX6_secondarySpectrum (wsV RX6 150 RX6 yX6_spectrum wsX6_spectrum) := goodIn_app (goodIn_of _ (by decide +kernel)) ggX6_secondarySpectrum_X6_spectrum
set_option maxRecDepth 20000 in
theorem ggX6_secondarySpectrum_X6_floor : GoodIn wsX6_secondarySpectrum wsX6_floor := goodIn_r _ [40] (by decide +kernel) (by decide +kernel)
set_option maxRecDepth 20000 in
theorem gX6_secondarySpectrum_X6_floor : GoodIn wsX6_secondarySpectrum (va_wsS RX6 144 yX6_floor wsX6_floor) := goodIn_app (goodIn_of _ (by decide +kernel)) ggX6_secondarySpectrum_X6_floor
theorem dX6_secondarySpectrum_0 : decode cX6_secondarySpectrum 0 = .ok (.aload_n 0, 1) := by decide +kernel
theorem dX6_secondarySpectrum_1 : decode cX6_secondarySpectrum 1 = .ok (.iload_n 1, 1) := by decide +kernel
theorem dX6_secondarySpectrum_2 : decode cX6_secondarySpectrum 2 = .ok (.invokevirtual 100, 3) := by decide +kernel
theorem dX6_secondarySpectrum_5 : decode cX6_secondarySpectrum 5 = .ok (.ifCond .eq 11, 3) := by decide +kernel
theorem dX6_secondarySpectrum_8 : decode cX6_secondarySpectrum 8 = .ok (.aload_n 0, 1) := by decide +kernel
theorem dX6_secondarySpectrum_9 : decode cX6_secondarySpectrum 9 = .ok (.iload_n 2, 1) := by decide +kernel
theorem dX6_secondarySpectrum_10 : decode cX6_secondarySpectrum 10 = .ok (.invokevirtual 100, 3) := by decide +kernel
theorem dX6_secondarySpectrum_13 : decode cX6_secondarySpectrum 13 = .ok (.ifCond .ne 7, 3) := by decide +kernel
theorem dX6_secondarySpectrum_16 : decode cX6_secondarySpectrum 16 = .ok (.ldc2_w 104, 3) := by decide +kernel
theorem dX6_secondarySpectrum_19 : decode cX6_secondarySpectrum 19 = .ok (.lreturn, 1) := by decide +kernel
theorem dX6_secondarySpectrum_20 : decode cX6_secondarySpectrum 20 = .ok (.iload_n 3, 1) := by decide +kernel
theorem dX6_secondarySpectrum_21 : decode cX6_secondarySpectrum 21 = .ok (.i2l, 1) := by decide +kernel
theorem dX6_secondarySpectrum_22 : decode cX6_secondarySpectrum 22 = .ok (.ldc2_w 136, 3) := by decide +kernel
theorem dX6_secondarySpectrum_25 : decode cX6_secondarySpectrum 25 = .ok (.ldc2_w 138, 3) := by decide +kernel
theorem dX6_secondarySpectrum_28 : decode cX6_secondarySpectrum 28 = .ok (.invokestatic 39, 3) := by decide +kernel
theorem dX6_secondarySpectrum_31 : decode cX6_secondarySpectrum 31 = .ok (.ifCond .ne 7, 3) := by decide +kernel
theorem dX6_secondarySpectrum_34 : decode cX6_secondarySpectrum 34 = .ok (.ldc2_w 53, 3) := by decide +kernel
theorem dX6_secondarySpectrum_37 : decode cX6_secondarySpectrum 37 = .ok (.lreturn, 1) := by decide +kernel
theorem dX6_secondarySpectrum_38 : decode cX6_secondarySpectrum 38 = .ok (.aload_n 0, 1) := by decide +kernel
theorem dX6_secondarySpectrum_39 : decode cX6_secondarySpectrum 39 = .ok (.iload_n 1, 1) := by decide +kernel
theorem dX6_secondarySpectrum_40 : decode cX6_secondarySpectrum 40 = .ok (.iload_n 2, 1) := by decide +kernel
theorem dX6_secondarySpectrum_41 : decode cX6_secondarySpectrum 41 = .ok (.invokevirtual 140, 3) := by decide +kernel
theorem dX6_secondarySpectrum_44 : decode cX6_secondarySpectrum 44 = .ok (.lstore 4, 2) := by decide +kernel
theorem dX6_secondarySpectrum_46 : decode cX6_secondarySpectrum 46 = .ok (.lload 4, 2) := by decide +kernel
theorem dX6_secondarySpectrum_48 : decode cX6_secondarySpectrum 48 = .ok (.lconst 0, 1) := by decide +kernel
theorem dX6_secondarySpectrum_49 : decode cX6_secondarySpectrum 49 = .ok (.lcmp, 1) := by decide +kernel
theorem dX6_secondarySpectrum_50 : decode cX6_secondarySpectrum 50 = .ok (.ifCond .ne 9, 3) := by decide +kernel
theorem dX6_secondarySpectrum_53 : decode cX6_secondarySpectrum 53 = .ok (.ldc2_w 134, 3) := by decide +kernel
theorem dX6_secondarySpectrum_56 : decode cX6_secondarySpectrum 56 = .ok (.goto 21, 3) := by decide +kernel
theorem dX6_secondarySpectrum_59 : decode cX6_secondarySpectrum 59 = .ok (.ldc2_w 148, 3) := by decide +kernel
theorem dX6_secondarySpectrum_62 : decode cX6_secondarySpectrum 62 = .ok (.iload_n 3, 1) := by decide +kernel
theorem dX6_secondarySpectrum_63 : decode cX6_secondarySpectrum 63 = .ok (.i2l, 1) := by decide +kernel
theorem dX6_secondarySpectrum_64 : decode cX6_secondarySpectrum 64 = .ok (.lmul, 1) := by decide +kernel
theorem dX6_secondarySpectrum_65 : decode cX6_secondarySpectrum 65 = .ok (.aload_n 0, 1) := by decide +kernel
theorem dX6_secondarySpectrum_66 : decode cX6_secondarySpectrum 66 = .ok (.iload_n 1, 1) := by decide +kernel
theorem dX6_secondarySpectrum_67 : decode cX6_secondarySpectrum 67 = .ok (.iload_n 2, 1) := by decide +kernel
theorem dX6_secondarySpectrum_68 : decode cX6_secondarySpectrum 68 = .ok (.invokevirtual 150, 3) := by decide +kernel
theorem dX6_secondarySpectrum_71 : decode cX6_secondarySpectrum 71 = .ok (.lmul, 1) := by decide +kernel
theorem dX6_secondarySpectrum_72 : decode cX6_secondarySpectrum 72 = .ok (.lload 4, 2) := by decide +kernel
theorem dX6_secondarySpectrum_74 : decode cX6_secondarySpectrum 74 = .ok (.invokestatic 144, 3) := by decide +kernel
theorem dX6_secondarySpectrum_77 : decode cX6_secondarySpectrum 77 = .ok (.lreturn, 1) := by decide +kernel
set_option maxRecDepth 20000 in
theorem ggX6_isDoublet_X6_e : GoodIn wsX6_isDoublet wsX6_e := goodIn_r _ [5, 6, 7, 8, 4, 9, 10, 11, 12, 13, 14, 15, 16, 17, 18, 19, 20, 21, 22, 23, 24, 25, 26, 27, 28, 29, 30, 31, 32, 33] (by decide +kernel) (by decide +kernel)
set_option maxRecDepth 20000 in
theorem gX6_isDoublet_X6_e : GoodIn wsX6_isDoublet (wsV RX6 140 RX6 yX6_e wsX6_e) := goodIn_app (goodIn_of _ (by decide +kernel)) ggX6_isDoublet_X6_e
theorem dX6_isDoublet_0 : decode cX6_isDoublet 0 = .ok (.iload_n 1, 1) := by decide +kernel
theorem dX6_isDoublet_1 : decode cX6_isDoublet 1 = .ok (.iload_n 2, 1) := by decide +kernel
theorem dX6_isDoublet_2 : decode cX6_isDoublet 2 = .ok (.if_icmp .eq 18, 3) := by decide +kernel
theorem dX6_isDoublet_5 : decode cX6_isDoublet 5 = .ok (.aload_n 0, 1) := by decide +kernel
theorem dX6_isDoublet_6 : decode cX6_isDoublet 6 = .ok (.iload_n 1, 1) := by decide +kernel
theorem dX6_isDoublet_7 : decode cX6_isDoublet 7 = .ok (.iload_n 2, 1) := by decide +kernel
theorem dX6_isDoublet_8 : decode cX6_isDoublet 8 = .ok (.invokevirtual 140, 3) := by decide +kernel
theorem dX6_isDoublet_11 : decode cX6_isDoublet 11 = .ok (.lconst 0, 1) := by decide +kernel
theorem dX6_isDoublet_12 : decode cX6_isDoublet 12 = .ok (.lcmp, 1) := by decide +kernel
theorem dX6_isDoublet_13 : decode cX6_isDoublet 13 = .ok (.ifCond .le 7, 3) := by decide +kernel
theorem dX6_isDoublet_16 : decode cX6_isDoublet 16 = .ok (.iconst 1, 1) := by decide +kernel
theorem dX6_isDoublet_17 : decode cX6_isDoublet 17 = .ok (.goto 4, 3) := by decide +kernel
theorem dX6_isDoublet_20 : decode cX6_isDoublet 20 = .ok (.iconst 0, 1) := by decide +kernel
theorem dX6_isDoublet_21 : decode cX6_isDoublet 21 = .ok (.ireturn, 1) := by decide +kernel
theorem dX6_compare_0 : decode cX6_compare 0 = .ok (.lload_n 0, 1) := by decide +kernel
theorem dX6_compare_1 : decode cX6_compare 1 = .ok (.lload 6, 2) := by decide +kernel
theorem dX6_compare_3 : decode cX6_compare 3 = .ok (.lmul, 1) := by decide +kernel
theorem dX6_compare_4 : decode cX6_compare 4 = .ok (.lload 4, 2) := by decide +kernel
theorem dX6_compare_6 : decode cX6_compare 6 = .ok (.lload_n 2, 1) := by decide +kernel
theorem dX6_compare_7 : decode cX6_compare 7 = .ok (.lmul, 1) := by decide +kernel
theorem dX6_compare_8 : decode cX6_compare 8 = .ok (.lsub, 1) := by decide +kernel
theorem dX6_compare_9 : decode cX6_compare 9 = .ok (.lreturn, 1) := by decide +kernel
set_option maxRecDepth 20000 in
theorem ggX6_isBefore_X6_spectrum : GoodIn wsX6_isBefore wsX6_spectrum := goodIn_r _ [5, 6, 7, 8, 4, 9, 10, 11, 12, 13, 14, 34, 35, 36, 37, 38, 39, 40, 41, 42, 43, 44, 45, 46, 47, 48, 49, 50, 51] (by decide +kernel) (by decide +kernel)
set_option maxRecDepth 20000 in
theorem gX6_isBefore_X6_spectrum : GoodIn wsX6_isBefore (wsV RX6 150 RX6 yX6_spectrum wsX6_spectrum) := goodIn_app (goodIn_of _ (by decide +kernel)) ggX6_isBefore_X6_spectrum
set_option maxRecDepth 20000 in
theorem ggX6_isBefore_X6_size : GoodIn wsX6_isBefore wsX6_size := goodIn_r _ [17] (by decide +kernel) (by decide +kernel)
set_option maxRecDepth 20000 in
theorem gX6_isBefore_X6_size : GoodIn wsX6_isBefore (va_wsS RX6 153 yX6_size wsX6_size) := goodIn_app (goodIn_of _ (by decide +kernel)) ggX6_isBefore_X6_size
set_option maxRecDepth 20000 in
theorem ggX6_isBefore_X6_e : GoodIn wsX6_isBefore wsX6_e := goodIn_r _ [21, 22, 23, 24, 4, 25, 10, 26, 11, 12, 13, 14, 34, 35, 36, 37, 38, 39, 40, 41, 42, 43, 44, 45, 46, 47, 48, 49, 50, 51] (by decide +kernel) (by decide +kernel)
set_option maxRecDepth 20000 in
theorem gX6_isBefore_X6_e : GoodIn wsX6_isBefore (wsV RX6 140 RX6 yX6_e wsX6_e) := goodIn_app (goodIn_of _ (by decide +kernel)) ggX6_isBefore_X6_e
set_option maxRecDepth 20000 in
theorem ggX6_isBefore_X6_compare : GoodIn wsX6_isBefore wsX6_compare := goodIn_r _ [29] (by decide +kernel) (by decide +kernel)
set_option maxRecDepth 20000 in
theorem gX6_isBefore_X6_compare : GoodIn wsX6_isBefore (va_wsS RX6 157 yX6_compare wsX6_compare) := goodIn_app (goodIn_of _ (by decide +kernel)) ggX6_isBefore_X6_compare
set_option maxRecDepth 20000 in
theorem ggX6_isBefore_X6_strain : GoodIn wsX6_isBefore wsX6_strain := goodIn_r _ [33, 22, 23, 24, 4, 25, 10, 26, 11, 12, 13, 14, 34, 35, 36, 37, 38, 39, 40, 41, 42, 43, 44, 45, 46, 47, 48, 49, 50, 51] (by decide +kernel) (by decide +kernel)
set_option maxRecDepth 20000 in
theorem gX6_isBefore_X6_strain : GoodIn wsX6_isBefore (wsV RX6 161 RX6 yX6_strain wsX6_strain) := goodIn_app (goodIn_of _ (by decide +kernel)) ggX6_isBefore_X6_strain
theorem dX6_isBefore_0 : decode cX6_isBefore 0 = .ok (.aload_n 0, 1) := by decide +kernel
theorem dX6_isBefore_1 : decode cX6_isBefore 1 = .ok (.iload_n 1, 1) := by decide +kernel
theorem dX6_isBefore_2 : decode cX6_isBefore 2 = .ok (.iload_n 2, 1) := by decide +kernel
theorem dX6_isBefore_3 : decode cX6_isBefore 3 = .ok (.invokevirtual 150, 3) := by decide +kernel
theorem dX6_isBefore_6 : decode cX6_isBefore 6 = .ok (.invokestatic 153, 3) := by decide +kernel
theorem dX6_isBefore_9 : decode cX6_isBefore 9 = .ok (.aload_n 0, 1) := by decide +kernel
theorem dX6_isBefore_10 : decode cX6_isBefore 10 = .ok (.iload_n 1, 1) := by decide +kernel
theorem dX6_isBefore_11 : decode cX6_isBefore 11 = .ok (.iload_n 2, 1) := by decide +kernel
theorem dX6_isBefore_12 : decode cX6_isBefore 12 = .ok (.invokevirtual 140, 3) := by decide +kernel
theorem dX6_isBefore_15 : decode cX6_isBefore 15 = .ok (.aload_n 0, 1) := by decide +kernel
theorem dX6_isBefore_16 : decode cX6_isBefore 16 = .ok (.iload_n 3, 1) := by decide +kernel
theorem dX6_isBefore_17 : decode cX6_isBefore 17 = .ok (.iload 4, 2) := by decide +kernel
theorem dX6_isBefore_19 : decode cX6_isBefore 19 = .ok (.invokevirtual 150, 3) := by decide +kernel
theorem dX6_isBefore_22 : decode cX6_isBefore 22 = .ok (.invokestatic 153, 3) := by decide +kernel
theorem dX6_isBefore_25 : decode cX6_isBefore 25 = .ok (.aload_n 0, 1) := by decide +kernel
theorem dX6_isBefore_26 : decode cX6_isBefore 26 = .ok (.iload_n 3, 1) := by decide +kernel
theorem dX6_isBefore_27 : decode cX6_isBefore 27 = .ok (.iload 4, 2) := by decide +kernel
theorem dX6_isBefore_29 : decode cX6_isBefore 29 = .ok (.invokevirtual 140, 3) := by decide +kernel
theorem dX6_isBefore_32 : decode cX6_isBefore 32 = .ok (.invokestatic 157, 3) := by decide +kernel
theorem dX6_isBefore_35 : decode cX6_isBefore 35 = .ok (.lstore 6, 2) := by decide +kernel
theorem dX6_isBefore_37 : decode cX6_isBefore 37 = .ok (.aload_n 0, 1) := by decide +kernel
theorem dX6_isBefore_38 : decode cX6_isBefore 38 = .ok (.iload_n 1, 1) := by decide +kernel
theorem dX6_isBefore_39 : decode cX6_isBefore 39 = .ok (.iload_n 2, 1) := by decide +kernel
theorem dX6_isBefore_40 : decode cX6_isBefore 40 = .ok (.invokevirtual 161, 3) := by decide +kernel
theorem dX6_isBefore_43 : decode cX6_isBefore 43 = .ok (.aload_n 0, 1) := by decide +kernel
theorem dX6_isBefore_44 : decode cX6_isBefore 44 = .ok (.iload_n 1, 1) := by decide +kernel
theorem dX6_isBefore_45 : decode cX6_isBefore 45 = .ok (.iload_n 2, 1) := by decide +kernel
theorem dX6_isBefore_46 : decode cX6_isBefore 46 = .ok (.invokevirtual 140, 3) := by decide +kernel
theorem dX6_isBefore_49 : decode cX6_isBefore 49 = .ok (.aload_n 0, 1) := by decide +kernel
theorem dX6_isBefore_50 : decode cX6_isBefore 50 = .ok (.iload_n 3, 1) := by decide +kernel
theorem dX6_isBefore_51 : decode cX6_isBefore 51 = .ok (.iload 4, 2) := by decide +kernel
theorem dX6_isBefore_53 : decode cX6_isBefore 53 = .ok (.invokevirtual 161, 3) := by decide +kernel
theorem dX6_isBefore_56 : decode cX6_isBefore 56 = .ok (.aload_n 0, 1) := by decide +kernel
theorem dX6_isBefore_57 : decode cX6_isBefore 57 = .ok (.iload_n 3, 1) := by decide +kernel
theorem dX6_isBefore_58 : decode cX6_isBefore 58 = .ok (.iload 4, 2) := by decide +kernel
theorem dX6_isBefore_60 : decode cX6_isBefore 60 = .ok (.invokevirtual 140, 3) := by decide +kernel
theorem dX6_isBefore_63 : decode cX6_isBefore 63 = .ok (.invokestatic 157, 3) := by decide +kernel
theorem dX6_isBefore_66 : decode cX6_isBefore 66 = .ok (.lstore 8, 2) := by decide +kernel
theorem dX6_isBefore_68 : decode cX6_isBefore 68 = .ok (.iload 5, 2) := by decide +kernel
theorem dX6_isBefore_70 : decode cX6_isBefore 70 = .ok (.ifCond .eq 8, 3) := by decide +kernel
theorem dX6_isBefore_73 : decode cX6_isBefore 73 = .ok (.lload 8, 2) := by decide +kernel
theorem dX6_isBefore_75 : decode cX6_isBefore 75 = .ok (.goto 5, 3) := by decide +kernel
theorem dX6_isBefore_78 : decode cX6_isBefore 78 = .ok (.lload 6, 2) := by decide +kernel
theorem dX6_isBefore_80 : decode cX6_isBefore 80 = .ok (.lstore 10, 2) := by decide +kernel
theorem dX6_isBefore_82 : decode cX6_isBefore 82 = .ok (.iload 5, 2) := by decide +kernel
theorem dX6_isBefore_84 : decode cX6_isBefore 84 = .ok (.ifCond .eq 8, 3) := by decide +kernel
theorem dX6_isBefore_87 : decode cX6_isBefore 87 = .ok (.lload 6, 2) := by decide +kernel
theorem dX6_isBefore_89 : decode cX6_isBefore 89 = .ok (.goto 5, 3) := by decide +kernel
theorem dX6_isBefore_92 : decode cX6_isBefore 92 = .ok (.lload 8, 2) := by decide +kernel
theorem dX6_isBefore_94 : decode cX6_isBefore 94 = .ok (.lstore 12, 2) := by decide +kernel
theorem dX6_isBefore_96 : decode cX6_isBefore 96 = .ok (.lload 10, 2) := by decide +kernel
theorem dX6_isBefore_98 : decode cX6_isBefore 98 = .ok (.lconst 0, 1) := by decide +kernel
theorem dX6_isBefore_99 : decode cX6_isBefore 99 = .ok (.lcmp, 1) := by decide +kernel
theorem dX6_isBefore_100 : decode cX6_isBefore 100 = .ok (.ifCond .eq 16, 3) := by decide +kernel
theorem dX6_isBefore_103 : decode cX6_isBefore 103 = .ok (.lload 10, 2) := by decide +kernel
theorem dX6_isBefore_105 : decode cX6_isBefore 105 = .ok (.lconst 0, 1) := by decide +kernel
theorem dX6_isBefore_106 : decode cX6_isBefore 106 = .ok (.lcmp, 1) := by decide +kernel
theorem dX6_isBefore_107 : decode cX6_isBefore 107 = .ok (.ifCond .ge 7, 3) := by decide +kernel
theorem dX6_isBefore_110 : decode cX6_isBefore 110 = .ok (.iconst 1, 1) := by decide +kernel
theorem dX6_isBefore_111 : decode cX6_isBefore 111 = .ok (.goto 4, 3) := by decide +kernel
theorem dX6_isBefore_114 : decode cX6_isBefore 114 = .ok (.iconst 0, 1) := by decide +kernel
theorem dX6_isBefore_115 : decode cX6_isBefore 115 = .ok (.ireturn, 1) := by decide +kernel
theorem dX6_isBefore_116 : decode cX6_isBefore 116 = .ok (.lload 12, 2) := by decide +kernel
theorem dX6_isBefore_118 : decode cX6_isBefore 118 = .ok (.lconst 0, 1) := by decide +kernel
theorem dX6_isBefore_119 : decode cX6_isBefore 119 = .ok (.lcmp, 1) := by decide +kernel
theorem dX6_isBefore_120 : decode cX6_isBefore 120 = .ok (.ifCond .eq 16, 3) := by decide +kernel
theorem dX6_isBefore_123 : decode cX6_isBefore 123 = .ok (.lload 12, 2) := by decide +kernel
theorem dX6_isBefore_125 : decode cX6_isBefore 125 = .ok (.lconst 0, 1) := by decide +kernel
theorem dX6_isBefore_126 : decode cX6_isBefore 126 = .ok (.lcmp, 1) := by decide +kernel
theorem dX6_isBefore_127 : decode cX6_isBefore 127 = .ok (.ifCond .ge 7, 3) := by decide +kernel
theorem dX6_isBefore_130 : decode cX6_isBefore 130 = .ok (.iconst 1, 1) := by decide +kernel
theorem dX6_isBefore_131 : decode cX6_isBefore 131 = .ok (.goto 4, 3) := by decide +kernel
theorem dX6_isBefore_134 : decode cX6_isBefore 134 = .ok (.iconst 0, 1) := by decide +kernel
theorem dX6_isBefore_135 : decode cX6_isBefore 135 = .ok (.ireturn, 1) := by decide +kernel
theorem dX6_isBefore_136 : decode cX6_isBefore 136 = .ok (.iload_n 1, 1) := by decide +kernel
theorem dX6_isBefore_137 : decode cX6_isBefore 137 = .ok (.iload_n 3, 1) := by decide +kernel
theorem dX6_isBefore_138 : decode cX6_isBefore 138 = .ok (.if_icmp .ne 17, 3) := by decide +kernel
theorem dX6_isBefore_141 : decode cX6_isBefore 141 = .ok (.iload_n 2, 1) := by decide +kernel
theorem dX6_isBefore_142 : decode cX6_isBefore 142 = .ok (.iload 4, 2) := by decide +kernel
theorem dX6_isBefore_144 : decode cX6_isBefore 144 = .ok (.if_icmp .ge 7, 3) := by decide +kernel
theorem dX6_isBefore_147 : decode cX6_isBefore 147 = .ok (.iconst 1, 1) := by decide +kernel
theorem dX6_isBefore_148 : decode cX6_isBefore 148 = .ok (.goto 17, 3) := by decide +kernel
theorem dX6_isBefore_151 : decode cX6_isBefore 151 = .ok (.iconst 0, 1) := by decide +kernel
theorem dX6_isBefore_152 : decode cX6_isBefore 152 = .ok (.goto 13, 3) := by decide +kernel
theorem dX6_isBefore_155 : decode cX6_isBefore 155 = .ok (.iload_n 1, 1) := by decide +kernel
theorem dX6_isBefore_156 : decode cX6_isBefore 156 = .ok (.iload_n 3, 1) := by decide +kernel
theorem dX6_isBefore_157 : decode cX6_isBefore 157 = .ok (.if_icmp .ge 7, 3) := by decide +kernel
theorem dX6_isBefore_160 : decode cX6_isBefore 160 = .ok (.iconst 1, 1) := by decide +kernel
theorem dX6_isBefore_161 : decode cX6_isBefore 161 = .ok (.goto 4, 3) := by decide +kernel
theorem dX6_isBefore_164 : decode cX6_isBefore 164 = .ok (.iconst 0, 1) := by decide +kernel
theorem dX6_isBefore_165 : decode cX6_isBefore 165 = .ok (.ireturn, 1) := by decide +kernel
set_option maxRecDepth 20000 in
theorem ggX6_findNext_X6_isDoublet : GoodIn wsX6_findNext wsX6_isDoublet := goodIn_r _ [8, 9, 10, 11, 7, 12, 13, 14, 15, 16, 17, 18, 19, 20, 21, 22, 45, 46, 47, 48, 49, 50, 51, 52, 53, 54, 55, 56, 57, 58, 59, 60, 61, 62] (by decide +kernel) (by decide +kernel)
set_option maxRecDepth 20000 in
theorem gX6_findNext_X6_isDoublet : GoodIn wsX6_findNext (wsV RX6 164 RX6 yX6_isDoublet wsX6_isDoublet) := goodIn_app (goodIn_of _ (by decide +kernel)) ggX6_findNext_X6_isDoublet
set_option maxRecDepth 20000 in
theorem ggX6_findNext_X6_isBefore : GoodIn wsX6_findNext wsX6_isBefore := goodIn_r _ [26, 27, 28, 29, 7, 30, 31, 32, 33, 34, 17, 19, 20, 21, 22, 35, 36, 37, 9, 10, 11, 12, 13, 14, 15, 16, 18, 38, 39, 40, 41, 42, 43, 44, 45, 46, 47, 48, 49, 50, 51, 52, 53, 54, 55, 56, 57, 58, 59, 60, 61, 62] (by decide +kernel) (by decide +kernel)
set_option maxRecDepth 20000 in
theorem gX6_findNext_X6_isBefore : GoodIn wsX6_findNext (wsV RX6 174 RX6 yX6_isBefore wsX6_isBefore) := goodIn_app (goodIn_of _ (by decide +kernel)) ggX6_findNext_X6_isBefore
theorem dX6_findNext_0 : decode cX6_findNext 0 = .ok (.iconst (-1), 1) := by decide +kernel
theorem dX6_findNext_1 : decode cX6_findNext 1 = .ok (.istore_n 2, 1) := by decide +kernel
theorem dX6_findNext_2 : decode cX6_findNext 2 = .ok (.iconst (-1), 1) := by decide +kernel
theorem dX6_findNext_3 : decode cX6_findNext 3 = .ok (.istore_n 3, 1) := by decide +kernel
theorem dX6_findNext_4 : decode cX6_findNext 4 = .ok (.iconst 0, 1) := by decide +kernel
theorem dX6_findNext_5 : decode cX6_findNext 5 = .ok (.istore 4, 2) := by decide +kernel
theorem dX6_findNext_7 : decode cX6_findNext 7 = .ok (.iload 4, 2) := by decide +kernel
theorem dX6_findNext_9 : decode cX6_findNext 9 = .ok (.aload_n 0, 1) := by decide +kernel
theorem dX6_findNext_10 : decode cX6_findNext 10 = .ok (.getfield 35, 3) := by decide +kernel
theorem dX6_findNext_13 : decode cX6_findNext 13 = .ok (.if_icmp .ge 114, 3) := by decide +kernel
theorem dX6_findNext_16 : decode cX6_findNext 16 = .ok (.iconst 0, 1) := by decide +kernel
theorem dX6_findNext_17 : decode cX6_findNext 17 = .ok (.istore 5, 2) := by decide +kernel
theorem dX6_findNext_19 : decode cX6_findNext 19 = .ok (.iload 5, 2) := by decide +kernel
theorem dX6_findNext_21 : decode cX6_findNext 21 = .ok (.aload_n 0, 1) := by decide +kernel
theorem dX6_findNext_22 : decode cX6_findNext 22 = .ok (.getfield 35, 3) := by decide +kernel
theorem dX6_findNext_25 : decode cX6_findNext 25 = .ok (.if_icmp .ge 96, 3) := by decide +kernel
theorem dX6_findNext_28 : decode cX6_findNext 28 = .ok (.aload_n 0, 1) := by decide +kernel
theorem dX6_findNext_29 : decode cX6_findNext 29 = .ok (.iload 4, 2) := by decide +kernel
theorem dX6_findNext_31 : decode cX6_findNext 31 = .ok (.iload 5, 2) := by decide +kernel
theorem dX6_findNext_33 : decode cX6_findNext 33 = .ok (.invokevirtual 164, 3) := by decide +kernel
theorem dX6_findNext_36 : decode cX6_findNext 36 = .ok (.ifCond .eq 52, 3) := by decide +kernel
theorem dX6_findNext_39 : decode cX6_findNext 39 = .ok (.aload_n 0, 1) := by decide +kernel
theorem dX6_findNext_40 : decode cX6_findNext 40 = .ok (.getfield 168, 3) := by decide +kernel
theorem dX6_findNext_43 : decode cX6_findNext 43 = .ok (.ifCond .lt 23, 3) := by decide +kernel
theorem dX6_findNext_46 : decode cX6_findNext 46 = .ok (.aload_n 0, 1) := by decide +kernel
theorem dX6_findNext_47 : decode cX6_findNext 47 = .ok (.aload_n 0, 1) := by decide +kernel
theorem dX6_findNext_48 : decode cX6_findNext 48 = .ok (.getfield 168, 3) := by decide +kernel
theorem dX6_findNext_51 : decode cX6_findNext 51 = .ok (.aload_n 0, 1) := by decide +kernel
theorem dX6_findNext_52 : decode cX6_findNext 52 = .ok (.getfield 171, 3) := by decide +kernel
theorem dX6_findNext_55 : decode cX6_findNext 55 = .ok (.iload 4, 2) := by decide +kernel
theorem dX6_findNext_57 : decode cX6_findNext 57 = .ok (.iload 5, 2) := by decide +kernel
theorem dX6_findNext_59 : decode cX6_findNext 59 = .ok (.iload_n 1, 1) := by decide +kernel
theorem dX6_findNext_60 : decode cX6_findNext 60 = .ok (.invokevirtual 174, 3) := by decide +kernel
theorem dX6_findNext_63 : decode cX6_findNext 63 = .ok (.ifCond .eq 25, 3) := by decide +kernel
theorem dX6_findNext_66 : decode cX6_findNext 66 = .ok (.iload_n 2, 1) := by decide +kernel
theorem dX6_findNext_67 : decode cX6_findNext 67 = .ok (.ifCond .lt 17, 3) := by decide +kernel
theorem dX6_findNext_70 : decode cX6_findNext 70 = .ok (.aload_n 0, 1) := by decide +kernel
theorem dX6_findNext_71 : decode cX6_findNext 71 = .ok (.iload 4, 2) := by decide +kernel
theorem dX6_findNext_73 : decode cX6_findNext 73 = .ok (.iload 5, 2) := by decide +kernel
theorem dX6_findNext_75 : decode cX6_findNext 75 = .ok (.iload_n 2, 1) := by decide +kernel
theorem dX6_findNext_76 : decode cX6_findNext 76 = .ok (.iload_n 3, 1) := by decide +kernel
theorem dX6_findNext_77 : decode cX6_findNext 77 = .ok (.iload_n 1, 1) := by decide +kernel
theorem dX6_findNext_78 : decode cX6_findNext 78 = .ok (.invokevirtual 174, 3) := by decide +kernel
theorem dX6_findNext_81 : decode cX6_findNext 81 = .ok (.ifCond .eq 7, 3) := by decide +kernel
theorem dX6_findNext_84 : decode cX6_findNext 84 = .ok (.iconst 1, 1) := by decide +kernel
theorem dX6_findNext_85 : decode cX6_findNext 85 = .ok (.goto 4, 3) := by decide +kernel
theorem dX6_findNext_88 : decode cX6_findNext 88 = .ok (.iconst 0, 1) := by decide +kernel
theorem dX6_findNext_89 : decode cX6_findNext 89 = .ok (.istore 6, 2) := by decide +kernel
theorem dX6_findNext_91 : decode cX6_findNext 91 = .ok (.iload 6, 2) := by decide +kernel
theorem dX6_findNext_93 : decode cX6_findNext 93 = .ok (.ifCond .eq 8, 3) := by decide +kernel
theorem dX6_findNext_96 : decode cX6_findNext 96 = .ok (.iload 4, 2) := by decide +kernel
theorem dX6_findNext_98 : decode cX6_findNext 98 = .ok (.goto 4, 3) := by decide +kernel
theorem dX6_findNext_101 : decode cX6_findNext 101 = .ok (.iload_n 2, 1) := by decide +kernel
theorem dX6_findNext_102 : decode cX6_findNext 102 = .ok (.istore_n 2, 1) := by decide +kernel
theorem dX6_findNext_103 : decode cX6_findNext 103 = .ok (.iload 6, 2) := by decide +kernel
theorem dX6_findNext_105 : decode cX6_findNext 105 = .ok (.ifCond .eq 8, 3) := by decide +kernel
theorem dX6_findNext_108 : decode cX6_findNext 108 = .ok (.iload 5, 2) := by decide +kernel
theorem dX6_findNext_110 : decode cX6_findNext 110 = .ok (.goto 4, 3) := by decide +kernel
theorem dX6_findNext_113 : decode cX6_findNext 113 = .ok (.iload_n 3, 1) := by decide +kernel
theorem dX6_findNext_114 : decode cX6_findNext 114 = .ok (.istore_n 3, 1) := by decide +kernel
theorem dX6_findNext_115 : decode cX6_findNext 115 = .ok (.iinc 5 1, 3) := by decide +kernel
theorem dX6_findNext_118 : decode cX6_findNext 118 = .ok (.goto (-99), 3) := by decide +kernel
theorem dX6_findNext_121 : decode cX6_findNext 121 = .ok (.iinc 4 1, 3) := by decide +kernel
theorem dX6_findNext_124 : decode cX6_findNext 124 = .ok (.goto (-117), 3) := by decide +kernel
theorem dX6_findNext_127 : decode cX6_findNext 127 = .ok (.aload_n 0, 1) := by decide +kernel
theorem dX6_findNext_128 : decode cX6_findNext 128 = .ok (.iload_n 2, 1) := by decide +kernel
theorem dX6_findNext_129 : decode cX6_findNext 129 = .ok (.putfield 168, 3) := by decide +kernel
theorem dX6_findNext_132 : decode cX6_findNext 132 = .ok (.aload_n 0, 1) := by decide +kernel
theorem dX6_findNext_133 : decode cX6_findNext 133 = .ok (.iload_n 3, 1) := by decide +kernel
theorem dX6_findNext_134 : decode cX6_findNext 134 = .ok (.putfield 171, 3) := by decide +kernel
theorem dX6_findNext_137 : decode cX6_findNext 137 = .ok (.return_, 1) := by decide +kernel
set_option maxRecDepth 20000 in
theorem ggX6_doubletNow_X6_doublets : GoodIn wsX6_doubletNow wsX6_doublets := goodIn_r _ [9, 10, 11, 12, 13, 8, 14, 15, 16, 17, 18, 19, 20, 21, 22, 23, 24, 25, 26, 27, 28, 58, 59, 60, 61, 62, 63, 64, 65, 66, 67, 68, 69, 70, 71, 72, 73, 74, 75] (by decide +kernel) (by decide +kernel)
set_option maxRecDepth 20000 in
theorem gX6_doubletNow_X6_doublets : GoodIn wsX6_doubletNow (wsV RX6 178 RX6 yX6_doublets wsX6_doublets) := goodIn_app (goodIn_of _ (by decide +kernel)) ggX6_doubletNow_X6_doublets
set_option maxRecDepth 20000 in
theorem ggX6_doubletNow_X6_within : GoodIn wsX6_doubletNow wsX6_within := goodIn_r _ [31] (by decide +kernel) (by decide +kernel)
set_option maxRecDepth 20000 in
theorem gX6_doubletNow_X6_within : GoodIn wsX6_doubletNow (va_wsS RX6 39 yX6_within wsX6_within) := goodIn_app (goodIn_of _ (by decide +kernel)) ggX6_doubletNow_X6_within
set_option maxRecDepth 20000 in
theorem ggX6_doubletNow_X6_findNext : GoodIn wsX6_doubletNow wsX6_findNext := goodIn_r _ [35, 10, 2, 4, 11, 12, 13, 8, 14, 15, 16, 17, 18, 19, 20, 21, 22, 23, 24, 25, 26, 27, 28, 36, 37, 38, 39, 40, 41, 42, 43, 44, 45, 46, 47, 48, 49, 50, 51, 52, 53, 54, 55, 56, 57, 58, 59, 60, 61, 62, 63, 64, 65, 66, 67, 68, 69, 70, 71, 72, 73, 74, 75] (by decide +kernel) (by decide +kernel)
set_option maxRecDepth 20000 in
theorem gX6_doubletNow_X6_findNext : GoodIn wsX6_doubletNow (wsV RX6 182 RX6 yX6_findNext wsX6_findNext) := goodIn_app (goodIn_of _ (by decide +kernel)) ggX6_doubletNow_X6_findNext
theorem dX6_doubletNow_0 : decode cX6_doubletNow 0 = .ok (.iload_n 2, 1) := by decide +kernel
theorem dX6_doubletNow_1 : decode cX6_doubletNow 1 = .ok (.i2l, 1) := by decide +kernel
theorem dX6_doubletNow_2 : decode cX6_doubletNow 2 = .ok (.lconst 0, 1) := by decide +kernel
theorem dX6_doubletNow_3 : decode cX6_doubletNow 3 = .ok (.aload_n 0, 1) := by decide +kernel
theorem dX6_doubletNow_4 : decode cX6_doubletNow 4 = .ok (.invokevirtual 178, 3) := by decide +kernel
theorem dX6_doubletNow_7 : decode cX6_doubletNow 7 = .ok (.lconst 1, 1) := by decide +kernel
theorem dX6_doubletNow_8 : decode cX6_doubletNow 8 = .ok (.lsub, 1) := by decide +kernel
theorem dX6_doubletNow_9 : decode cX6_doubletNow 9 = .ok (.invokestatic 39, 3) := by decide +kernel
theorem dX6_doubletNow_12 : decode cX6_doubletNow 12 = .ok (.ifCond .ne 7, 3) := by decide +kernel
theorem dX6_doubletNow_15 : decode cX6_doubletNow 15 = .ok (.ldc2_w 134, 3) := by decide +kernel
theorem dX6_doubletNow_18 : decode cX6_doubletNow 18 = .ok (.lreturn, 1) := by decide +kernel
theorem dX6_doubletNow_19 : decode cX6_doubletNow 19 = .ok (.aload_n 0, 1) := by decide +kernel
theorem dX6_doubletNow_20 : decode cX6_doubletNow 20 = .ok (.iconst (-1), 1) := by decide +kernel
theorem dX6_doubletNow_21 : decode cX6_doubletNow 21 = .ok (.putfield 168, 3) := by decide +kernel
theorem dX6_doubletNow_24 : decode cX6_doubletNow 24 = .ok (.iconst 0, 1) := by decide +kernel
theorem dX6_doubletNow_25 : decode cX6_doubletNow 25 = .ok (.istore_n 3, 1) := by decide +kernel
theorem dX6_doubletNow_26 : decode cX6_doubletNow 26 = .ok (.iload_n 3, 1) := by decide +kernel
theorem dX6_doubletNow_27 : decode cX6_doubletNow 27 = .ok (.iload_n 2, 1) := by decide +kernel
theorem dX6_doubletNow_28 : decode cX6_doubletNow 28 = .ok (.if_icmp .gt 14, 3) := by decide +kernel
theorem dX6_doubletNow_31 : decode cX6_doubletNow 31 = .ok (.aload_n 0, 1) := by decide +kernel
theorem dX6_doubletNow_32 : decode cX6_doubletNow 32 = .ok (.iload_n 1, 1) := by decide +kernel
theorem dX6_doubletNow_33 : decode cX6_doubletNow 33 = .ok (.invokevirtual 182, 3) := by decide +kernel
theorem dX6_doubletNow_36 : decode cX6_doubletNow 36 = .ok (.iinc 3 1, 3) := by decide +kernel
theorem dX6_doubletNow_39 : decode cX6_doubletNow 39 = .ok (.goto (-13), 3) := by decide +kernel
theorem dX6_doubletNow_42 : decode cX6_doubletNow 42 = .ok (.ldc2_w 186, 3) := by decide +kernel
theorem dX6_doubletNow_45 : decode cX6_doubletNow 45 = .ok (.aload_n 0, 1) := by decide +kernel
theorem dX6_doubletNow_46 : decode cX6_doubletNow 46 = .ok (.getfield 168, 3) := by decide +kernel
theorem dX6_doubletNow_49 : decode cX6_doubletNow 49 = .ok (.i2l, 1) := by decide +kernel
theorem dX6_doubletNow_50 : decode cX6_doubletNow 50 = .ok (.lmul, 1) := by decide +kernel
theorem dX6_doubletNow_51 : decode cX6_doubletNow 51 = .ok (.aload_n 0, 1) := by decide +kernel
theorem dX6_doubletNow_52 : decode cX6_doubletNow 52 = .ok (.getfield 171, 3) := by decide +kernel
theorem dX6_doubletNow_55 : decode cX6_doubletNow 55 = .ok (.i2l, 1) := by decide +kernel
theorem dX6_doubletNow_56 : decode cX6_doubletNow 56 = .ok (.ladd, 1) := by decide +kernel
theorem dX6_doubletNow_57 : decode cX6_doubletNow 57 = .ok (.lreturn, 1) := by decide +kernel
set_option maxRecDepth 20000 in
theorem ggX6_doubletAt_X6_doubletNow : GoodIn wsX6_doubletAt wsX6_doubletNow := goodIn_r _ [5, 6, 7, 8, 9, 10, 11, 12, 4, 13, 14, 15, 16, 17, 18, 19, 20, 21, 22, 23, 24, 25, 26, 27, 28, 29, 30, 31, 32, 33, 34, 35, 36, 37, 38, 39, 40, 41, 42, 43, 44, 45, 46, 47, 48, 49, 50, 51, 52, 53, 54, 55, 56, 57, 58, 59, 60, 61, 62, 63, 64, 65, 66, 67, 68, 69, 70, 71, 72, 73, 74, 75, 76, 77, 78, 79] (by decide +kernel) (by decide +kernel)
set_option maxRecDepth 20000 in
theorem gX6_doubletAt_X6_doubletNow : GoodIn wsX6_doubletAt (wsV RX6 188 RX6 yX6_doubletNow wsX6_doubletNow) := goodIn_app (goodIn_of _ (by decide +kernel)) ggX6_doubletAt_X6_doubletNow
theorem dX6_doubletAt_0 : decode cX6_doubletAt 0 = .ok (.aload_n 0, 1) := by decide +kernel
theorem dX6_doubletAt_1 : decode cX6_doubletAt 1 = .ok (.iload_n 1, 1) := by decide +kernel
theorem dX6_doubletAt_2 : decode cX6_doubletAt 2 = .ok (.iload_n 2, 1) := by decide +kernel
theorem dX6_doubletAt_3 : decode cX6_doubletAt 3 = .ok (.invokevirtual 188, 3) := by decide +kernel
theorem dX6_doubletAt_6 : decode cX6_doubletAt 6 = .ok (.lreturn, 1) := by decide +kernel
set_option maxRecDepth 20000 in
theorem ggX6_doublets_X6_isDoublet : GoodIn wsX6_doublets wsX6_isDoublet := goodIn_r _ [6, 7, 8, 9, 5, 10, 11, 12, 13, 14, 15, 16, 17, 18, 19, 20, 21, 22, 23, 24, 25, 26, 27, 28, 29, 30, 31, 32, 33, 34, 35, 36, 37, 38] (by decide +kernel) (by decide +kernel)
set_option maxRecDepth 20000 in
theorem gX6_doublets_X6_isDoublet : GoodIn wsX6_doublets (wsV RX6 164 RX6 yX6_isDoublet wsX6_isDoublet) := goodIn_app (goodIn_of _ (by decide +kernel)) ggX6_doublets_X6_isDoublet
theorem dX6_doublets_0 : decode cX6_doublets 0 = .ok (.lconst 0, 1) := by decide +kernel
theorem dX6_doublets_1 : decode cX6_doublets 1 = .ok (.lstore_n 1, 1) := by decide +kernel
theorem dX6_doublets_2 : decode cX6_doublets 2 = .ok (.iconst 0, 1) := by decide +kernel
theorem dX6_doublets_3 : decode cX6_doublets 3 = .ok (.istore_n 3, 1) := by decide +kernel
theorem dX6_doublets_4 : decode cX6_doublets 4 = .ok (.iload_n 3, 1) := by decide +kernel
end
section
theorem dX6_doublets_5 : decode cX6_doublets 5 = .ok (.aload_n 0, 1) := by decide +kernel
theorem dX6_doublets_6 : decode cX6_doublets 6 = .ok (.getfield 35, 3) := by decide +kernel
theorem dX6_doublets_9 : decode cX6_doublets 9 = .ok (.if_icmp .ge 45, 3) := by decide +kernel
theorem dX6_doublets_12 : decode cX6_doublets 12 = .ok (.iconst 0, 1) := by decide +kernel
theorem dX6_doublets_13 : decode cX6_doublets 13 = .ok (.istore 4, 2) := by decide +kernel
theorem dX6_doublets_15 : decode cX6_doublets 15 = .ok (.iload 4, 2) := by decide +kernel
theorem dX6_doublets_17 : decode cX6_doublets 17 = .ok (.aload_n 0, 1) := by decide +kernel
theorem dX6_doublets_18 : decode cX6_doublets 18 = .ok (.getfield 35, 3) := by decide +kernel
theorem dX6_doublets_21 : decode cX6_doublets 21 = .ok (.if_icmp .ge 27, 3) := by decide +kernel
theorem dX6_doublets_24 : decode cX6_doublets 24 = .ok (.lload_n 1, 1) := by decide +kernel
theorem dX6_doublets_25 : decode cX6_doublets 25 = .ok (.aload_n 0, 1) := by decide +kernel
theorem dX6_doublets_26 : decode cX6_doublets 26 = .ok (.iload_n 3, 1) := by decide +kernel
theorem dX6_doublets_27 : decode cX6_doublets 27 = .ok (.iload 4, 2) := by decide +kernel
theorem dX6_doublets_29 : decode cX6_doublets 29 = .ok (.invokevirtual 164, 3) := by decide +kernel
theorem dX6_doublets_32 : decode cX6_doublets 32 = .ok (.ifCond .eq 7, 3) := by decide +kernel
theorem dX6_doublets_35 : decode cX6_doublets 35 = .ok (.lconst 1, 1) := by decide +kernel
theorem dX6_doublets_36 : decode cX6_doublets 36 = .ok (.goto 4, 3) := by decide +kernel
theorem dX6_doublets_39 : decode cX6_doublets 39 = .ok (.lconst 0, 1) := by decide +kernel
theorem dX6_doublets_40 : decode cX6_doublets 40 = .ok (.ladd, 1) := by decide +kernel
theorem dX6_doublets_41 : decode cX6_doublets 41 = .ok (.lstore_n 1, 1) := by decide +kernel
theorem dX6_doublets_42 : decode cX6_doublets 42 = .ok (.iinc 4 1, 3) := by decide +kernel
theorem dX6_doublets_45 : decode cX6_doublets 45 = .ok (.goto (-30), 3) := by decide +kernel
theorem dX6_doublets_48 : decode cX6_doublets 48 = .ok (.iinc 3 1, 3) := by decide +kernel
theorem dX6_doublets_51 : decode cX6_doublets 51 = .ok (.goto (-47), 3) := by decide +kernel
theorem dX6_doublets_54 : decode cX6_doublets 54 = .ok (.lload_n 1, 1) := by decide +kernel
theorem dX6_doublets_55 : decode cX6_doublets 55 = .ok (.lreturn, 1) := by decide +kernel
set_option maxRecDepth 20000 in
theorem ggX6_doubletCount_X6_doublets : GoodIn wsX6_doubletCount wsX6_doublets := goodIn_r _ [5, 6, 7, 8, 9, 4, 10, 11, 12, 13, 14, 15, 16, 17, 18, 19, 20, 21, 22, 23, 24, 25, 26, 27, 28, 29, 30, 31, 32, 33, 34, 35, 36, 37, 38, 39, 40, 41, 42] (by decide +kernel) (by decide +kernel)
set_option maxRecDepth 20000 in
theorem gX6_doubletCount_X6_doublets : GoodIn wsX6_doubletCount (wsV RX6 178 RX6 yX6_doublets wsX6_doublets) := goodIn_app (goodIn_of _ (by decide +kernel)) ggX6_doubletCount_X6_doublets
theorem dX6_doubletCount_0 : decode cX6_doubletCount 0 = .ok (.aload_n 0, 1) := by decide +kernel
theorem dX6_doubletCount_1 : decode cX6_doubletCount 1 = .ok (.invokevirtual 178, 3) := by decide +kernel
theorem dX6_doubletCount_4 : decode cX6_doubletCount 4 = .ok (.lreturn, 1) := by decide +kernel
set_option maxRecDepth 20000 in
theorem ggX6_x_X6_b : GoodIn wsX6_x wsX6_b := goodIn_r _ [5, 6, 11, 12, 13, 14, 15, 16, 17, 18, 19, 20, 21, 22, 23, 24, 25, 26, 27, 28] (by decide +kernel) (by decide +kernel)
set_option maxRecDepth 20000 in
theorem gX6_x_X6_b : GoodIn wsX6_x (wsV RX6 120 RX6 yX6_b wsX6_b) := goodIn_app (goodIn_of _ (by decide +kernel)) ggX6_x_X6_b
set_option maxRecDepth 20000 in
theorem ggX6_x_X6_d : GoodIn wsX6_x wsX6_d := goodIn_r _ [10, 6, 11, 12, 13, 14, 15, 16, 17, 18, 19, 20, 21, 22, 23, 24, 25, 26, 27, 28] (by decide +kernel) (by decide +kernel)
set_option maxRecDepth 20000 in
theorem gX6_x_X6_d : GoodIn wsX6_x (wsV RX6 125 RX6 yX6_d wsX6_d) := goodIn_app (goodIn_of _ (by decide +kernel)) ggX6_x_X6_d
theorem dX6_x_0 : decode cX6_x 0 = .ok (.aload_n 0, 1) := by decide +kernel
theorem dX6_x_1 : decode cX6_x 1 = .ok (.iload_n 1, 1) := by decide +kernel
theorem dX6_x_2 : decode cX6_x 2 = .ok (.invokevirtual 120, 3) := by decide +kernel
theorem dX6_x_5 : decode cX6_x 5 = .ok (.aload_n 0, 1) := by decide +kernel
theorem dX6_x_6 : decode cX6_x 6 = .ok (.iload_n 2, 1) := by decide +kernel
theorem dX6_x_7 : decode cX6_x 7 = .ok (.invokevirtual 125, 3) := by decide +kernel
theorem dX6_x_10 : decode cX6_x 10 = .ok (.lmul, 1) := by decide +kernel
theorem dX6_x_11 : decode cX6_x 11 = .ok (.aload_n 0, 1) := by decide +kernel
theorem dX6_x_12 : decode cX6_x 12 = .ok (.iload_n 2, 1) := by decide +kernel
theorem dX6_x_13 : decode cX6_x 13 = .ok (.invokevirtual 120, 3) := by decide +kernel
theorem dX6_x_16 : decode cX6_x 16 = .ok (.aload_n 0, 1) := by decide +kernel
theorem dX6_x_17 : decode cX6_x 17 = .ok (.iload_n 1, 1) := by decide +kernel
theorem dX6_x_18 : decode cX6_x 18 = .ok (.invokevirtual 125, 3) := by decide +kernel
theorem dX6_x_21 : decode cX6_x 21 = .ok (.lmul, 1) := by decide +kernel
theorem dX6_x_22 : decode cX6_x 22 = .ok (.lsub, 1) := by decide +kernel
theorem dX6_x_23 : decode cX6_x 23 = .ok (.lreturn, 1) := by decide +kernel
set_option maxRecDepth 20000 in
theorem ggX6_t_X6_a : GoodIn wsX6_t wsX6_a := goodIn_r _ [5, 6, 7, 20, 21, 22, 23, 24, 25, 26, 27, 28, 29, 30, 31, 32, 33, 34, 35, 36, 37] (by decide +kernel) (by decide +kernel)
set_option maxRecDepth 20000 in
theorem gX6_t_X6_a : GoodIn wsX6_t (wsV RX6 117 RX6 yX6_a wsX6_a) := goodIn_app (goodIn_of _ (by decide +kernel)) ggX6_t_X6_a
set_option maxRecDepth 20000 in
theorem ggX6_t_X6_x : GoodIn wsX6_t wsX6_x := goodIn_r _ [11, 12, 13, 14, 4, 15, 6, 16, 17, 18, 19, 20, 21, 22, 23, 24, 25, 26, 27, 28, 29, 30, 31, 32, 33, 34, 35, 36, 37] (by decide +kernel) (by decide +kernel)
set_option maxRecDepth 20000 in
theorem gX6_t_X6_x : GoodIn wsX6_t (wsV RX6 192 RX6 yX6_x wsX6_x) := goodIn_app (goodIn_of _ (by decide +kernel)) ggX6_t_X6_x
theorem dX6_t_0 : decode cX6_t 0 = .ok (.aload_n 0, 1) := by decide +kernel
theorem dX6_t_1 : decode cX6_t 1 = .ok (.iload_n 1, 1) := by decide +kernel
theorem dX6_t_2 : decode cX6_t 2 = .ok (.invokevirtual 117, 3) := by decide +kernel
theorem dX6_t_5 : decode cX6_t 5 = .ok (.aload_n 0, 1) := by decide +kernel
theorem dX6_t_6 : decode cX6_t 6 = .ok (.iload_n 2, 1) := by decide +kernel
theorem dX6_t_7 : decode cX6_t 7 = .ok (.iload_n 3, 1) := by decide +kernel
theorem dX6_t_8 : decode cX6_t 8 = .ok (.invokevirtual 192, 3) := by decide +kernel
theorem dX6_t_11 : decode cX6_t 11 = .ok (.lmul, 1) := by decide +kernel
theorem dX6_t_12 : decode cX6_t 12 = .ok (.aload_n 0, 1) := by decide +kernel
theorem dX6_t_13 : decode cX6_t 13 = .ok (.iload_n 2, 1) := by decide +kernel
theorem dX6_t_14 : decode cX6_t 14 = .ok (.invokevirtual 117, 3) := by decide +kernel
theorem dX6_t_17 : decode cX6_t 17 = .ok (.aload_n 0, 1) := by decide +kernel
theorem dX6_t_18 : decode cX6_t 18 = .ok (.iload_n 3, 1) := by decide +kernel
theorem dX6_t_19 : decode cX6_t 19 = .ok (.iload_n 1, 1) := by decide +kernel
theorem dX6_t_20 : decode cX6_t 20 = .ok (.invokevirtual 192, 3) := by decide +kernel
theorem dX6_t_23 : decode cX6_t 23 = .ok (.lmul, 1) := by decide +kernel
theorem dX6_t_24 : decode cX6_t 24 = .ok (.ladd, 1) := by decide +kernel
theorem dX6_t_25 : decode cX6_t 25 = .ok (.aload_n 0, 1) := by decide +kernel
theorem dX6_t_26 : decode cX6_t 26 = .ok (.iload_n 3, 1) := by decide +kernel
theorem dX6_t_27 : decode cX6_t 27 = .ok (.invokevirtual 117, 3) := by decide +kernel
theorem dX6_t_30 : decode cX6_t 30 = .ok (.aload_n 0, 1) := by decide +kernel
theorem dX6_t_31 : decode cX6_t 31 = .ok (.iload_n 1, 1) := by decide +kernel
theorem dX6_t_32 : decode cX6_t 32 = .ok (.iload_n 2, 1) := by decide +kernel
theorem dX6_t_33 : decode cX6_t 33 = .ok (.invokevirtual 192, 3) := by decide +kernel
theorem dX6_t_36 : decode cX6_t 36 = .ok (.lmul, 1) := by decide +kernel
theorem dX6_t_37 : decode cX6_t 37 = .ok (.ladd, 1) := by decide +kernel
theorem dX6_t_38 : decode cX6_t 38 = .ok (.lreturn, 1) := by decide +kernel
set_option maxRecDepth 20000 in
theorem ggX6_tripletNow_X6_a : GoodIn wsX6_tripletNow wsX6_a := goodIn_r _ [5, 6, 7, 27, 28, 29, 30, 31, 32, 33, 34, 35, 36, 37, 38, 39, 40, 41, 42, 43, 44] (by decide +kernel) (by decide +kernel)
set_option maxRecDepth 20000 in
theorem gX6_tripletNow_X6_a : GoodIn wsX6_tripletNow (wsV RX6 117 RX6 yX6_a wsX6_a) := goodIn_app (goodIn_of _ (by decide +kernel)) ggX6_tripletNow_X6_a
set_option maxRecDepth 20000 in
theorem ggX6_tripletNow_X6_x : GoodIn wsX6_tripletNow wsX6_x := goodIn_r _ [11, 12, 13, 14, 4, 15, 6, 16, 17, 18, 19, 27, 28, 29, 30, 31, 32, 33, 34, 35, 36, 37, 38, 39, 40, 41, 42, 43, 44] (by decide +kernel) (by decide +kernel)
set_option maxRecDepth 20000 in
theorem gX6_tripletNow_X6_x : GoodIn wsX6_tripletNow (wsV RX6 192 RX6 yX6_x wsX6_x) := goodIn_app (goodIn_of _ (by decide +kernel)) ggX6_tripletNow_X6_x
set_option maxRecDepth 20000 in
theorem ggX6_tripletNow_X6_t : GoodIn wsX6_tripletNow wsX6_t := goodIn_r _ [23, 1, 2, 3, 4, 5, 6, 7, 8, 9, 10, 11, 12, 13, 14, 15, 16, 17, 18, 19, 27, 28, 29, 30, 31, 32, 33, 34, 35, 36, 37, 38, 39, 40, 41, 42, 43, 44] (by decide +kernel) (by decide +kernel)
set_option maxRecDepth 20000 in
theorem gX6_tripletNow_X6_t : GoodIn wsX6_tripletNow (wsV RX6 195 RX6 yX6_t wsX6_t) := goodIn_app (goodIn_of _ (by decide +kernel)) ggX6_tripletNow_X6_t
set_option maxRecDepth 20000 in
theorem ggX6_tripletNow_X6_floor : GoodIn wsX6_tripletNow wsX6_floor := goodIn_r _ [26] (by decide +kernel) (by decide +kernel)
set_option maxRecDepth 20000 in
theorem gX6_tripletNow_X6_floor : GoodIn wsX6_tripletNow (va_wsS RX6 144 yX6_floor wsX6_floor) := goodIn_app (goodIn_of _ (by decide +kernel)) ggX6_tripletNow_X6_floor
theorem dX6_tripletNow_0 : decode cX6_tripletNow 0 = .ok (.iload 5, 2) := by decide +kernel
theorem dX6_tripletNow_2 : decode cX6_tripletNow 2 = .ok (.ifCond .ne 18, 3) := by decide +kernel
theorem dX6_tripletNow_5 : decode cX6_tripletNow 5 = .ok (.aload_n 0, 1) := by decide +kernel
theorem dX6_tripletNow_6 : decode cX6_tripletNow 6 = .ok (.iload_n 1, 1) := by decide +kernel
theorem dX6_tripletNow_7 : decode cX6_tripletNow 7 = .ok (.invokevirtual 117, 3) := by decide +kernel
theorem dX6_tripletNow_10 : decode cX6_tripletNow 10 = .ok (.aload_n 0, 1) := by decide +kernel
theorem dX6_tripletNow_11 : decode cX6_tripletNow 11 = .ok (.iload_n 2, 1) := by decide +kernel
theorem dX6_tripletNow_12 : decode cX6_tripletNow 12 = .ok (.iload_n 3, 1) := by decide +kernel
theorem dX6_tripletNow_13 : decode cX6_tripletNow 13 = .ok (.invokevirtual 192, 3) := by decide +kernel
theorem dX6_tripletNow_16 : decode cX6_tripletNow 16 = .ok (.lmul, 1) := by decide +kernel
theorem dX6_tripletNow_17 : decode cX6_tripletNow 17 = .ok (.goto 36, 3) := by decide +kernel
theorem dX6_tripletNow_20 : decode cX6_tripletNow 20 = .ok (.iload 5, 2) := by decide +kernel
theorem dX6_tripletNow_22 : decode cX6_tripletNow 22 = .ok (.iconst 1, 1) := by decide +kernel
theorem dX6_tripletNow_23 : decode cX6_tripletNow 23 = .ok (.if_icmp .ne 18, 3) := by decide +kernel
theorem dX6_tripletNow_26 : decode cX6_tripletNow 26 = .ok (.aload_n 0, 1) := by decide +kernel
theorem dX6_tripletNow_27 : decode cX6_tripletNow 27 = .ok (.iload_n 2, 1) := by decide +kernel
theorem dX6_tripletNow_28 : decode cX6_tripletNow 28 = .ok (.invokevirtual 117, 3) := by decide +kernel
theorem dX6_tripletNow_31 : decode cX6_tripletNow 31 = .ok (.aload_n 0, 1) := by decide +kernel
theorem dX6_tripletNow_32 : decode cX6_tripletNow 32 = .ok (.iload_n 3, 1) := by decide +kernel
theorem dX6_tripletNow_33 : decode cX6_tripletNow 33 = .ok (.iload_n 1, 1) := by decide +kernel
theorem dX6_tripletNow_34 : decode cX6_tripletNow 34 = .ok (.invokevirtual 192, 3) := by decide +kernel
theorem dX6_tripletNow_37 : decode cX6_tripletNow 37 = .ok (.lmul, 1) := by decide +kernel
theorem dX6_tripletNow_38 : decode cX6_tripletNow 38 = .ok (.goto 15, 3) := by decide +kernel
theorem dX6_tripletNow_41 : decode cX6_tripletNow 41 = .ok (.aload_n 0, 1) := by decide +kernel
theorem dX6_tripletNow_42 : decode cX6_tripletNow 42 = .ok (.iload_n 3, 1) := by decide +kernel
theorem dX6_tripletNow_43 : decode cX6_tripletNow 43 = .ok (.invokevirtual 117, 3) := by decide +kernel
theorem dX6_tripletNow_46 : decode cX6_tripletNow 46 = .ok (.aload_n 0, 1) := by decide +kernel
theorem dX6_tripletNow_47 : decode cX6_tripletNow 47 = .ok (.iload_n 1, 1) := by decide +kernel
theorem dX6_tripletNow_48 : decode cX6_tripletNow 48 = .ok (.iload_n 2, 1) := by decide +kernel
theorem dX6_tripletNow_49 : decode cX6_tripletNow 49 = .ok (.invokevirtual 192, 3) := by decide +kernel
theorem dX6_tripletNow_52 : decode cX6_tripletNow 52 = .ok (.lmul, 1) := by decide +kernel
theorem dX6_tripletNow_53 : decode cX6_tripletNow 53 = .ok (.lstore 6, 2) := by decide +kernel
theorem dX6_tripletNow_55 : decode cX6_tripletNow 55 = .ok (.iload 4, 2) := by decide +kernel
theorem dX6_tripletNow_57 : decode cX6_tripletNow 57 = .ok (.i2l, 1) := by decide +kernel
theorem dX6_tripletNow_58 : decode cX6_tripletNow 58 = .ok (.lload 6, 2) := by decide +kernel
theorem dX6_tripletNow_60 : decode cX6_tripletNow 60 = .ok (.lmul, 1) := by decide +kernel
theorem dX6_tripletNow_61 : decode cX6_tripletNow 61 = .ok (.aload_n 0, 1) := by decide +kernel
theorem dX6_tripletNow_62 : decode cX6_tripletNow 62 = .ok (.iload_n 1, 1) := by decide +kernel
theorem dX6_tripletNow_63 : decode cX6_tripletNow 63 = .ok (.iload_n 2, 1) := by decide +kernel
theorem dX6_tripletNow_64 : decode cX6_tripletNow 64 = .ok (.iload_n 3, 1) := by decide +kernel
theorem dX6_tripletNow_65 : decode cX6_tripletNow 65 = .ok (.invokevirtual 195, 3) := by decide +kernel
theorem dX6_tripletNow_68 : decode cX6_tripletNow 68 = .ok (.invokestatic 144, 3) := by decide +kernel
theorem dX6_tripletNow_71 : decode cX6_tripletNow 71 = .ok (.lreturn, 1) := by decide +kernel
set_option maxRecDepth 20000 in
theorem ggX6_tripletPower_X6_isGlass : GoodIn wsX6_tripletPower wsX6_isGlass := goodIn_r _ [12, 13, 14, 15, 11, 16, 46, 47, 48, 49, 50, 51, 52, 53, 54, 55, 56, 57, 58, 59, 60, 61, 62, 63] (by decide +kernel) (by decide +kernel)
set_option maxRecDepth 20000 in
theorem gX6_tripletPower_X6_isGlass : GoodIn wsX6_tripletPower (wsV RX6 100 RX6 yX6_isGlass wsX6_isGlass) := goodIn_app (goodIn_of _ (by decide +kernel)) ggX6_tripletPower_X6_isGlass
set_option maxRecDepth 20000 in
theorem ggX6_tripletPower_X6_within : GoodIn wsX6_tripletPower wsX6_within := goodIn_r _ [16] (by decide +kernel) (by decide +kernel)
set_option maxRecDepth 20000 in
theorem gX6_tripletPower_X6_within : GoodIn wsX6_tripletPower (va_wsS RX6 39 yX6_within wsX6_within) := goodIn_app (goodIn_of _ (by decide +kernel)) ggX6_tripletPower_X6_within
set_option maxRecDepth 20000 in
theorem ggX6_tripletPower_X6_t : GoodIn wsX6_tripletPower wsX6_t := goodIn_r _ [20, 21, 22, 23, 11, 24, 25, 26, 27, 28, 29, 30, 31, 32, 33, 34, 35, 36, 37, 38, 46, 47, 48, 49, 50, 51, 52, 53, 54, 55, 56, 57, 58, 59, 60, 61, 62, 63] (by decide +kernel) (by decide +kernel)
set_option maxRecDepth 20000 in
theorem gX6_tripletPower_X6_t : GoodIn wsX6_tripletPower (wsV RX6 195 RX6 yX6_t wsX6_t) := goodIn_app (goodIn_of _ (by decide +kernel)) ggX6_tripletPower_X6_t
set_option maxRecDepth 20000 in
theorem ggX6_tripletPower_X6_tripletNow : GoodIn wsX6_tripletPower wsX6_tripletNow := goodIn_r _ [42, 21, 22, 23, 11, 24, 25, 26, 27, 28, 29, 30, 31, 32, 33, 34, 35, 36, 37, 38, 17, 18, 19, 20, 43, 44, 45, 46, 47, 48, 49, 50, 51, 52, 53, 54, 55, 56, 57, 58, 59, 60, 61, 62, 63] (by decide +kernel) (by decide +kernel)
set_option maxRecDepth 20000 in
theorem gX6_tripletPower_X6_tripletNow : GoodIn wsX6_tripletPower (wsV RX6 199 RX6 yX6_tripletNow wsX6_tripletNow) := goodIn_app (goodIn_of _ (by decide +kernel)) ggX6_tripletPower_X6_tripletNow
theorem dX6_tripletPower_0 : decode cX6_tripletPower 0 = .ok (.aload_n 0, 1) := by decide +kernel
theorem dX6_tripletPower_1 : decode cX6_tripletPower 1 = .ok (.iload_n 1, 1) := by decide +kernel
theorem dX6_tripletPower_2 : decode cX6_tripletPower 2 = .ok (.invokevirtual 100, 3) := by decide +kernel
theorem dX6_tripletPower_5 : decode cX6_tripletPower 5 = .ok (.ifCond .eq 19, 3) := by decide +kernel
theorem dX6_tripletPower_8 : decode cX6_tripletPower 8 = .ok (.aload_n 0, 1) := by decide +kernel
theorem dX6_tripletPower_9 : decode cX6_tripletPower 9 = .ok (.iload_n 2, 1) := by decide +kernel
theorem dX6_tripletPower_10 : decode cX6_tripletPower 10 = .ok (.invokevirtual 100, 3) := by decide +kernel
theorem dX6_tripletPower_13 : decode cX6_tripletPower 13 = .ok (.ifCond .eq 11, 3) := by decide +kernel
theorem dX6_tripletPower_16 : decode cX6_tripletPower 16 = .ok (.aload_n 0, 1) := by decide +kernel
theorem dX6_tripletPower_17 : decode cX6_tripletPower 17 = .ok (.iload_n 3, 1) := by decide +kernel
theorem dX6_tripletPower_18 : decode cX6_tripletPower 18 = .ok (.invokevirtual 100, 3) := by decide +kernel
theorem dX6_tripletPower_21 : decode cX6_tripletPower 21 = .ok (.ifCond .ne 7, 3) := by decide +kernel
theorem dX6_tripletPower_24 : decode cX6_tripletPower 24 = .ok (.ldc2_w 104, 3) := by decide +kernel
theorem dX6_tripletPower_27 : decode cX6_tripletPower 27 = .ok (.lreturn, 1) := by decide +kernel
theorem dX6_tripletPower_28 : decode cX6_tripletPower 28 = .ok (.iload_n 1, 1) := by decide +kernel
theorem dX6_tripletPower_29 : decode cX6_tripletPower 29 = .ok (.iload_n 2, 1) := by decide +kernel
theorem dX6_tripletPower_30 : decode cX6_tripletPower 30 = .ok (.if_icmp .eq 13, 3) := by decide +kernel
theorem dX6_tripletPower_33 : decode cX6_tripletPower 33 = .ok (.iload_n 1, 1) := by decide +kernel
theorem dX6_tripletPower_34 : decode cX6_tripletPower 34 = .ok (.iload_n 3, 1) := by decide +kernel
theorem dX6_tripletPower_35 : decode cX6_tripletPower 35 = .ok (.if_icmp .eq 8, 3) := by decide +kernel
theorem dX6_tripletPower_38 : decode cX6_tripletPower 38 = .ok (.iload_n 2, 1) := by decide +kernel
theorem dX6_tripletPower_39 : decode cX6_tripletPower 39 = .ok (.iload_n 3, 1) := by decide +kernel
theorem dX6_tripletPower_40 : decode cX6_tripletPower 40 = .ok (.if_icmp .ne 7, 3) := by decide +kernel
theorem dX6_tripletPower_43 : decode cX6_tripletPower 43 = .ok (.ldc2_w 98, 3) := by decide +kernel
theorem dX6_tripletPower_46 : decode cX6_tripletPower 46 = .ok (.lreturn, 1) := by decide +kernel
theorem dX6_tripletPower_47 : decode cX6_tripletPower 47 = .ok (.iload 4, 2) := by decide +kernel
theorem dX6_tripletPower_49 : decode cX6_tripletPower 49 = .ok (.i2l, 1) := by decide +kernel
theorem dX6_tripletPower_50 : decode cX6_tripletPower 50 = .ok (.ldc2_w 136, 3) := by decide +kernel
theorem dX6_tripletPower_53 : decode cX6_tripletPower 53 = .ok (.ldc2_w 138, 3) := by decide +kernel
theorem dX6_tripletPower_56 : decode cX6_tripletPower 56 = .ok (.invokestatic 39, 3) := by decide +kernel
theorem dX6_tripletPower_59 : decode cX6_tripletPower 59 = .ok (.ifCond .eq 16, 3) := by decide +kernel
theorem dX6_tripletPower_62 : decode cX6_tripletPower 62 = .ok (.iload 5, 2) := by decide +kernel
theorem dX6_tripletPower_64 : decode cX6_tripletPower 64 = .ok (.i2l, 1) := by decide +kernel
theorem dX6_tripletPower_65 : decode cX6_tripletPower 65 = .ok (.lconst 0, 1) := by decide +kernel
theorem dX6_tripletPower_66 : decode cX6_tripletPower 66 = .ok (.ldc2_w 46, 3) := by decide +kernel
theorem dX6_tripletPower_69 : decode cX6_tripletPower 69 = .ok (.invokestatic 39, 3) := by decide +kernel
theorem dX6_tripletPower_72 : decode cX6_tripletPower 72 = .ok (.ifCond .ne 7, 3) := by decide +kernel
theorem dX6_tripletPower_75 : decode cX6_tripletPower 75 = .ok (.ldc2_w 53, 3) := by decide +kernel
theorem dX6_tripletPower_78 : decode cX6_tripletPower 78 = .ok (.lreturn, 1) := by decide +kernel
theorem dX6_tripletPower_79 : decode cX6_tripletPower 79 = .ok (.aload_n 0, 1) := by decide +kernel
theorem dX6_tripletPower_80 : decode cX6_tripletPower 80 = .ok (.iload_n 1, 1) := by decide +kernel
theorem dX6_tripletPower_81 : decode cX6_tripletPower 81 = .ok (.iload_n 2, 1) := by decide +kernel
theorem dX6_tripletPower_82 : decode cX6_tripletPower 82 = .ok (.iload_n 3, 1) := by decide +kernel
theorem dX6_tripletPower_83 : decode cX6_tripletPower 83 = .ok (.invokevirtual 195, 3) := by decide +kernel
theorem dX6_tripletPower_86 : decode cX6_tripletPower 86 = .ok (.lconst 0, 1) := by decide +kernel
theorem dX6_tripletPower_87 : decode cX6_tripletPower 87 = .ok (.lcmp, 1) := by decide +kernel
theorem dX6_tripletPower_88 : decode cX6_tripletPower 88 = .ok (.ifCond .ne 9, 3) := by decide +kernel
theorem dX6_tripletPower_91 : decode cX6_tripletPower 91 = .ok (.ldc2_w 134, 3) := by decide +kernel
theorem dX6_tripletPower_94 : decode cX6_tripletPower 94 = .ok (.goto 14, 3) := by decide +kernel
theorem dX6_tripletPower_97 : decode cX6_tripletPower 97 = .ok (.aload_n 0, 1) := by decide +kernel
theorem dX6_tripletPower_98 : decode cX6_tripletPower 98 = .ok (.iload_n 1, 1) := by decide +kernel
theorem dX6_tripletPower_99 : decode cX6_tripletPower 99 = .ok (.iload_n 2, 1) := by decide +kernel
theorem dX6_tripletPower_100 : decode cX6_tripletPower 100 = .ok (.iload_n 3, 1) := by decide +kernel
theorem dX6_tripletPower_101 : decode cX6_tripletPower 101 = .ok (.iload 4, 2) := by decide +kernel
theorem dX6_tripletPower_103 : decode cX6_tripletPower 103 = .ok (.iload 5, 2) := by decide +kernel
theorem dX6_tripletPower_105 : decode cX6_tripletPower 105 = .ok (.invokevirtual 199, 3) := by decide +kernel
theorem dX6_tripletPower_108 : decode cX6_tripletPower 108 = .ok (.lreturn, 1) := by decide +kernel
set_option maxRecDepth 20000 in
theorem ggX6_strongest_X6_tripletNow : GoodIn wsX6_strongest wsX6_tripletNow := goodIn_r _ [5, 6, 7, 8, 4, 9, 10, 11, 12, 13, 14, 15, 16, 17, 18, 19, 20, 21, 22, 23, 24, 25, 26, 27, 28, 29, 30, 34, 35, 36, 37, 38, 39, 40, 41, 42, 43, 44, 45, 46, 47, 48, 49, 50, 51] (by decide +kernel) (by decide +kernel)
set_option maxRecDepth 20000 in
theorem gX6_strongest_X6_tripletNow : GoodIn wsX6_strongest (wsV RX6 199 RX6 yX6_tripletNow wsX6_tripletNow) := goodIn_app (goodIn_of _ (by decide +kernel)) ggX6_strongest_X6_tripletNow
set_option maxRecDepth 20000 in
theorem ggX6_strongest_X6_size : GoodIn wsX6_strongest wsX6_size := goodIn_r _ [33] (by decide +kernel) (by decide +kernel)
set_option maxRecDepth 20000 in
theorem gX6_strongest_X6_size : GoodIn wsX6_strongest (va_wsS RX6 153 yX6_size wsX6_size) := goodIn_app (goodIn_of _ (by decide +kernel)) ggX6_strongest_X6_size
theorem dX6_strongest_0 : decode cX6_strongest 0 = .ok (.lconst 0, 1) := by decide +kernel
theorem dX6_strongest_1 : decode cX6_strongest 1 = .ok (.lstore 4, 2) := by decide +kernel
theorem dX6_strongest_3 : decode cX6_strongest 3 = .ok (.iconst 0, 1) := by decide +kernel
theorem dX6_strongest_4 : decode cX6_strongest 4 = .ok (.istore 6, 2) := by decide +kernel
theorem dX6_strongest_6 : decode cX6_strongest 6 = .ok (.iload 6, 2) := by decide +kernel
theorem dX6_strongest_8 : decode cX6_strongest 8 = .ok (.iconst 3, 1) := by decide +kernel
theorem dX6_strongest_9 : decode cX6_strongest 9 = .ok (.if_icmp .ge 43, 3) := by decide +kernel
theorem dX6_strongest_12 : decode cX6_strongest 12 = .ok (.aload_n 0, 1) := by decide +kernel
theorem dX6_strongest_13 : decode cX6_strongest 13 = .ok (.iload_n 1, 1) := by decide +kernel
theorem dX6_strongest_14 : decode cX6_strongest 14 = .ok (.iload_n 2, 1) := by decide +kernel
theorem dX6_strongest_15 : decode cX6_strongest 15 = .ok (.iload_n 3, 1) := by decide +kernel
theorem dX6_strongest_16 : decode cX6_strongest 16 = .ok (.sipush 10000, 3) := by decide +kernel
theorem dX6_strongest_19 : decode cX6_strongest 19 = .ok (.iload 6, 2) := by decide +kernel
theorem dX6_strongest_21 : decode cX6_strongest 21 = .ok (.invokevirtual 199, 3) := by decide +kernel
theorem dX6_strongest_24 : decode cX6_strongest 24 = .ok (.invokestatic 153, 3) := by decide +kernel
theorem dX6_strongest_27 : decode cX6_strongest 27 = .ok (.lstore 7, 2) := by decide +kernel
theorem dX6_strongest_29 : decode cX6_strongest 29 = .ok (.lload 7, 2) := by decide +kernel
theorem dX6_strongest_31 : decode cX6_strongest 31 = .ok (.lload 4, 2) := by decide +kernel
theorem dX6_strongest_33 : decode cX6_strongest 33 = .ok (.lcmp, 1) := by decide +kernel
theorem dX6_strongest_34 : decode cX6_strongest 34 = .ok (.ifCond .le 8, 3) := by decide +kernel
theorem dX6_strongest_37 : decode cX6_strongest 37 = .ok (.lload 7, 2) := by decide +kernel
theorem dX6_strongest_39 : decode cX6_strongest 39 = .ok (.goto 5, 3) := by decide +kernel
theorem dX6_strongest_42 : decode cX6_strongest 42 = .ok (.lload 4, 2) := by decide +kernel
theorem dX6_strongest_44 : decode cX6_strongest 44 = .ok (.lstore 4, 2) := by decide +kernel
theorem dX6_strongest_46 : decode cX6_strongest 46 = .ok (.iinc 6 1, 3) := by decide +kernel
theorem dX6_strongest_49 : decode cX6_strongest 49 = .ok (.goto (-43), 3) := by decide +kernel
theorem dX6_strongest_52 : decode cX6_strongest 52 = .ok (.lload 4, 2) := by decide +kernel
theorem dX6_strongest_54 : decode cX6_strongest 54 = .ok (.lreturn, 1) := by decide +kernel
set_option maxRecDepth 20000 in
theorem ggX6_tripletBest_X6_t : GoodIn wsX6_tripletBest wsX6_t := goodIn_r _ [10, 11, 12, 13, 9, 14, 15, 16, 17, 18, 19, 20, 21, 22, 23, 24, 25, 26, 27, 28, 43, 44, 45, 46, 47, 48, 49, 50, 51, 52, 53, 54, 55, 56, 57, 58, 59, 60] (by decide +kernel) (by decide +kernel)
set_option maxRecDepth 20000 in
theorem gX6_tripletBest_X6_t : GoodIn wsX6_tripletBest (wsV RX6 195 RX6 yX6_t wsX6_t) := goodIn_app (goodIn_of _ (by decide +kernel)) ggX6_tripletBest_X6_t
set_option maxRecDepth 20000 in
theorem ggX6_tripletBest_X6_strongest : GoodIn wsX6_tripletBest wsX6_strongest := goodIn_r _ [32, 33, 34, 35, 9, 36, 11, 12, 13, 14, 15, 16, 17, 18, 19, 20, 21, 22, 23, 24, 25, 26, 27, 28, 6, 7, 8, 10, 37, 38, 39, 40, 41, 42, 43, 44, 45, 46, 47, 48, 49, 50, 51, 52, 53, 54, 55, 56, 57, 58, 59, 60] (by decide +kernel) (by decide +kernel)
set_option maxRecDepth 20000 in
theorem gX6_tripletBest_X6_strongest : GoodIn wsX6_tripletBest (wsV RX6 205 RX6 yX6_strongest wsX6_strongest) := goodIn_app (goodIn_of _ (by decide +kernel)) ggX6_tripletBest_X6_strongest
theorem dX6_tripletBest_0 : decode cX6_tripletBest 0 = .ok (.ldc2_w 134, 3) := by decide +kernel
theorem dX6_tripletBest_3 : decode cX6_tripletBest 3 = .ok (.lstore_n 1, 1) := by decide +kernel
theorem dX6_tripletBest_4 : decode cX6_tripletBest 4 = .ok (.lconst 0, 1) := by decide +kernel
theorem dX6_tripletBest_5 : decode cX6_tripletBest 5 = .ok (.lstore_n 3, 1) := by decide +kernel
theorem dX6_tripletBest_6 : decode cX6_tripletBest 6 = .ok (.iconst 0, 1) := by decide +kernel
theorem dX6_tripletBest_7 : decode cX6_tripletBest 7 = .ok (.istore 5, 2) := by decide +kernel
theorem dX6_tripletBest_9 : decode cX6_tripletBest 9 = .ok (.iload 5, 2) := by decide +kernel
theorem dX6_tripletBest_11 : decode cX6_tripletBest 11 = .ok (.aload_n 0, 1) := by decide +kernel
theorem dX6_tripletBest_12 : decode cX6_tripletBest 12 = .ok (.getfield 35, 3) := by decide +kernel
theorem dX6_tripletBest_15 : decode cX6_tripletBest 15 = .ok (.if_icmp .ge 154, 3) := by decide +kernel
theorem dX6_tripletBest_18 : decode cX6_tripletBest 18 = .ok (.iload 5, 2) := by decide +kernel
theorem dX6_tripletBest_20 : decode cX6_tripletBest 20 = .ok (.iconst 1, 1) := by decide +kernel
theorem dX6_tripletBest_21 : decode cX6_tripletBest 21 = .ok (.iadd, 1) := by decide +kernel
theorem dX6_tripletBest_22 : decode cX6_tripletBest 22 = .ok (.istore 6, 2) := by decide +kernel
theorem dX6_tripletBest_24 : decode cX6_tripletBest 24 = .ok (.iload 6, 2) := by decide +kernel
theorem dX6_tripletBest_26 : decode cX6_tripletBest 26 = .ok (.aload_n 0, 1) := by decide +kernel
theorem dX6_tripletBest_27 : decode cX6_tripletBest 27 = .ok (.getfield 35, 3) := by decide +kernel
theorem dX6_tripletBest_30 : decode cX6_tripletBest 30 = .ok (.if_icmp .ge 133, 3) := by decide +kernel
theorem dX6_tripletBest_33 : decode cX6_tripletBest 33 = .ok (.iload 6, 2) := by decide +kernel
theorem dX6_tripletBest_35 : decode cX6_tripletBest 35 = .ok (.iconst 1, 1) := by decide +kernel
theorem dX6_tripletBest_36 : decode cX6_tripletBest 36 = .ok (.iadd, 1) := by decide +kernel
theorem dX6_tripletBest_37 : decode cX6_tripletBest 37 = .ok (.istore 7, 2) := by decide +kernel
theorem dX6_tripletBest_39 : decode cX6_tripletBest 39 = .ok (.iload 7, 2) := by decide +kernel
theorem dX6_tripletBest_41 : decode cX6_tripletBest 41 = .ok (.aload_n 0, 1) := by decide +kernel
theorem dX6_tripletBest_42 : decode cX6_tripletBest 42 = .ok (.getfield 35, 3) := by decide +kernel
theorem dX6_tripletBest_45 : decode cX6_tripletBest 45 = .ok (.if_icmp .ge 112, 3) := by decide +kernel
theorem dX6_tripletBest_48 : decode cX6_tripletBest 48 = .ok (.aload_n 0, 1) := by decide +kernel
theorem dX6_tripletBest_49 : decode cX6_tripletBest 49 = .ok (.iload 5, 2) := by decide +kernel
theorem dX6_tripletBest_51 : decode cX6_tripletBest 51 = .ok (.iload 6, 2) := by decide +kernel
theorem dX6_tripletBest_53 : decode cX6_tripletBest 53 = .ok (.iload 7, 2) := by decide +kernel
theorem dX6_tripletBest_55 : decode cX6_tripletBest 55 = .ok (.invokevirtual 195, 3) := by decide +kernel
theorem dX6_tripletBest_58 : decode cX6_tripletBest 58 = .ok (.lconst 0, 1) := by decide +kernel
theorem dX6_tripletBest_59 : decode cX6_tripletBest 59 = .ok (.lcmp, 1) := by decide +kernel
theorem dX6_tripletBest_60 : decode cX6_tripletBest 60 = .ok (.ifCond .ne 9, 3) := by decide +kernel
theorem dX6_tripletBest_63 : decode cX6_tripletBest 63 = .ok (.ldc2_w 203, 3) := by decide +kernel
theorem dX6_tripletBest_66 : decode cX6_tripletBest 66 = .ok (.goto 13, 3) := by decide +kernel
theorem dX6_tripletBest_69 : decode cX6_tripletBest 69 = .ok (.aload_n 0, 1) := by decide +kernel
theorem dX6_tripletBest_70 : decode cX6_tripletBest 70 = .ok (.iload 5, 2) := by decide +kernel
theorem dX6_tripletBest_72 : decode cX6_tripletBest 72 = .ok (.iload 6, 2) := by decide +kernel
theorem dX6_tripletBest_74 : decode cX6_tripletBest 74 = .ok (.iload 7, 2) := by decide +kernel
theorem dX6_tripletBest_76 : decode cX6_tripletBest 76 = .ok (.invokevirtual 205, 3) := by decide +kernel
theorem dX6_tripletBest_79 : decode cX6_tripletBest 79 = .ok (.lstore 8, 2) := by decide +kernel
theorem dX6_tripletBest_81 : decode cX6_tripletBest 81 = .ok (.lload 8, 2) := by decide +kernel
theorem dX6_tripletBest_83 : decode cX6_tripletBest 83 = .ok (.lconst 0, 1) := by decide +kernel
theorem dX6_tripletBest_84 : decode cX6_tripletBest 84 = .ok (.lcmp, 1) := by decide +kernel
theorem dX6_tripletBest_85 : decode cX6_tripletBest 85 = .ok (.ifCond .lt 22, 3) := by decide +kernel
theorem dX6_tripletBest_88 : decode cX6_tripletBest 88 = .ok (.lload_n 1, 1) := by decide +kernel
theorem dX6_tripletBest_89 : decode cX6_tripletBest 89 = .ok (.ldc2_w 134, 3) := by decide +kernel
theorem dX6_tripletBest_92 : decode cX6_tripletBest 92 = .ok (.lcmp, 1) := by decide +kernel
theorem dX6_tripletBest_93 : decode cX6_tripletBest 93 = .ok (.ifCond .eq 10, 3) := by decide +kernel
theorem dX6_tripletBest_96 : decode cX6_tripletBest 96 = .ok (.lload 8, 2) := by decide +kernel
theorem dX6_tripletBest_98 : decode cX6_tripletBest 98 = .ok (.lload_n 3, 1) := by decide +kernel
theorem dX6_tripletBest_99 : decode cX6_tripletBest 99 = .ok (.lcmp, 1) := by decide +kernel
theorem dX6_tripletBest_100 : decode cX6_tripletBest 100 = .ok (.ifCond .ge 7, 3) := by decide +kernel
theorem dX6_tripletBest_103 : decode cX6_tripletBest 103 = .ok (.iconst 1, 1) := by decide +kernel
theorem dX6_tripletBest_104 : decode cX6_tripletBest 104 = .ok (.goto 4, 3) := by decide +kernel
theorem dX6_tripletBest_107 : decode cX6_tripletBest 107 = .ok (.iconst 0, 1) := by decide +kernel
theorem dX6_tripletBest_108 : decode cX6_tripletBest 108 = .ok (.istore 10, 2) := by decide +kernel
theorem dX6_tripletBest_110 : decode cX6_tripletBest 110 = .ok (.iload 10, 2) := by decide +kernel
theorem dX6_tripletBest_112 : decode cX6_tripletBest 112 = .ok (.ifCond .eq 25, 3) := by decide +kernel
theorem dX6_tripletBest_115 : decode cX6_tripletBest 115 = .ok (.ldc2_w 138, 3) := by decide +kernel
theorem dX6_tripletBest_118 : decode cX6_tripletBest 118 = .ok (.iload 5, 2) := by decide +kernel
theorem dX6_tripletBest_120 : decode cX6_tripletBest 120 = .ok (.i2l, 1) := by decide +kernel
theorem dX6_tripletBest_121 : decode cX6_tripletBest 121 = .ok (.lmul, 1) := by decide +kernel
theorem dX6_tripletBest_122 : decode cX6_tripletBest 122 = .ok (.ldc2_w 186, 3) := by decide +kernel
theorem dX6_tripletBest_125 : decode cX6_tripletBest 125 = .ok (.iload 6, 2) := by decide +kernel
theorem dX6_tripletBest_127 : decode cX6_tripletBest 127 = .ok (.i2l, 1) := by decide +kernel
theorem dX6_tripletBest_128 : decode cX6_tripletBest 128 = .ok (.lmul, 1) := by decide +kernel
theorem dX6_tripletBest_129 : decode cX6_tripletBest 129 = .ok (.ladd, 1) := by decide +kernel
theorem dX6_tripletBest_130 : decode cX6_tripletBest 130 = .ok (.iload 7, 2) := by decide +kernel
theorem dX6_tripletBest_132 : decode cX6_tripletBest 132 = .ok (.i2l, 1) := by decide +kernel
theorem dX6_tripletBest_133 : decode cX6_tripletBest 133 = .ok (.ladd, 1) := by decide +kernel
theorem dX6_tripletBest_134 : decode cX6_tripletBest 134 = .ok (.goto 4, 3) := by decide +kernel
theorem dX6_tripletBest_137 : decode cX6_tripletBest 137 = .ok (.lload_n 1, 1) := by decide +kernel
theorem dX6_tripletBest_138 : decode cX6_tripletBest 138 = .ok (.lstore_n 1, 1) := by decide +kernel
theorem dX6_tripletBest_139 : decode cX6_tripletBest 139 = .ok (.iload 10, 2) := by decide +kernel
theorem dX6_tripletBest_141 : decode cX6_tripletBest 141 = .ok (.ifCond .eq 8, 3) := by decide +kernel
theorem dX6_tripletBest_144 : decode cX6_tripletBest 144 = .ok (.lload 8, 2) := by decide +kernel
theorem dX6_tripletBest_146 : decode cX6_tripletBest 146 = .ok (.goto 4, 3) := by decide +kernel
theorem dX6_tripletBest_149 : decode cX6_tripletBest 149 = .ok (.lload_n 3, 1) := by decide +kernel
theorem dX6_tripletBest_150 : decode cX6_tripletBest 150 = .ok (.lstore_n 3, 1) := by decide +kernel
theorem dX6_tripletBest_151 : decode cX6_tripletBest 151 = .ok (.iinc 7 1, 3) := by decide +kernel
theorem dX6_tripletBest_154 : decode cX6_tripletBest 154 = .ok (.goto (-115), 3) := by decide +kernel
theorem dX6_tripletBest_157 : decode cX6_tripletBest 157 = .ok (.iinc 6 1, 3) := by decide +kernel
theorem dX6_tripletBest_160 : decode cX6_tripletBest 160 = .ok (.goto (-136), 3) := by decide +kernel
theorem dX6_tripletBest_163 : decode cX6_tripletBest 163 = .ok (.iinc 5 1, 3) := by decide +kernel
theorem dX6_tripletBest_166 : decode cX6_tripletBest 166 = .ok (.goto (-157), 3) := by decide +kernel
theorem dX6_tripletBest_169 : decode cX6_tripletBest 169 = .ok (.lload_n 1, 1) := by decide +kernel
theorem dX6_tripletBest_170 : decode cX6_tripletBest 170 = .ok (.lreturn, 1) := by decide +kernel
set_option maxRecDepth 20000 in
theorem ggX6_bestTriplet_X6_tripletBest : GoodIn wsX6_bestTriplet wsX6_tripletBest := goodIn_r _ [5, 6, 7, 8, 9, 10, 11, 12, 13, 4, 14, 15, 16, 17, 18, 19, 20, 21, 22, 23, 24, 25, 26, 27, 28, 29, 30, 31, 32, 33, 34, 35, 36, 37, 38, 39, 40, 41, 42, 43, 44, 45, 46, 47, 48, 49, 50, 51, 52, 53, 54, 55, 56, 57, 58, 59, 60, 61, 62, 63, 64] (by decide +kernel) (by decide +kernel)
set_option maxRecDepth 20000 in
theorem gX6_bestTriplet_X6_tripletBest : GoodIn wsX6_bestTriplet (wsV RX6 208 RX6 yX6_tripletBest wsX6_tripletBest) := goodIn_app (goodIn_of _ (by decide +kernel)) ggX6_bestTriplet_X6_tripletBest
theorem dX6_bestTriplet_0 : decode cX6_bestTriplet 0 = .ok (.aload_n 0, 1) := by decide +kernel
theorem dX6_bestTriplet_1 : decode cX6_bestTriplet 1 = .ok (.invokevirtual 208, 3) := by decide +kernel
theorem dX6_bestTriplet_4 : decode cX6_bestTriplet 4 = .ok (.lreturn, 1) := by decide +kernel
set_option maxRecDepth 20000 in
theorem ggX6_addLens_X6_isGlass : GoodIn wsX6_addLens wsX6_isGlass := goodIn_r _ [13, 14, 15, 16, 12, 17, 18, 19, 20, 21, 22, 23, 24, 25, 26, 27, 28, 29, 30, 31, 32, 33, 34, 35] (by decide +kernel) (by decide +kernel)
set_option maxRecDepth 20000 in
theorem gX6_addLens_X6_isGlass : GoodIn wsX6_addLens (wsV RX6 100 RX6 yX6_isGlass wsX6_isGlass) := goodIn_app (goodIn_of _ (by decide +kernel)) ggX6_addLens_X6_isGlass
set_option maxRecDepth 20000 in
theorem ggX6_addLens_X6_within : GoodIn wsX6_addLens wsX6_within := goodIn_r _ [17] (by decide +kernel) (by decide +kernel)
set_option maxRecDepth 20000 in
theorem gX6_addLens_X6_within : GoodIn wsX6_addLens (va_wsS RX6 39 yX6_within wsX6_within) := goodIn_app (goodIn_of _ (by decide +kernel)) ggX6_addLens_X6_within
theorem dX6_addLens_0 : decode cX6_addLens 0 = .ok (.aload_n 0, 1) := by decide +kernel
theorem dX6_addLens_1 : decode cX6_addLens 1 = .ok (.iload_n 1, 1) := by decide +kernel
theorem dX6_addLens_2 : decode cX6_addLens 2 = .ok (.invokevirtual 100, 3) := by decide +kernel
theorem dX6_addLens_5 : decode cX6_addLens 5 = .ok (.ifCond .ne 7, 3) := by decide +kernel
theorem dX6_addLens_8 : decode cX6_addLens 8 = .ok (.ldc2_w 104, 3) := by decide +kernel
theorem dX6_addLens_11 : decode cX6_addLens 11 = .ok (.lreturn, 1) := by decide +kernel
theorem dX6_addLens_12 : decode cX6_addLens 12 = .ok (.iload_n 2, 1) := by decide +kernel
theorem dX6_addLens_13 : decode cX6_addLens 13 = .ok (.i2l, 1) := by decide +kernel
theorem dX6_addLens_14 : decode cX6_addLens 14 = .ok (.ldc2_w 211, 3) := by decide +kernel
theorem dX6_addLens_17 : decode cX6_addLens 17 = .ok (.ldc2_w 213, 3) := by decide +kernel
theorem dX6_addLens_20 : decode cX6_addLens 20 = .ok (.invokestatic 39, 3) := by decide +kernel
theorem dX6_addLens_23 : decode cX6_addLens 23 = .ok (.ifCond .ne 7, 3) := by decide +kernel
theorem dX6_addLens_26 : decode cX6_addLens 26 = .ok (.ldc2_w 53, 3) := by decide +kernel
theorem dX6_addLens_29 : decode cX6_addLens 29 = .ok (.lreturn, 1) := by decide +kernel
theorem dX6_addLens_30 : decode cX6_addLens 30 = .ok (.aload_n 0, 1) := by decide +kernel
theorem dX6_addLens_31 : decode cX6_addLens 31 = .ok (.getfield 43, 3) := by decide +kernel
theorem dX6_addLens_34 : decode cX6_addLens 34 = .ok (.bipush 8, 2) := by decide +kernel
theorem dX6_addLens_36 : decode cX6_addLens 36 = .ok (.if_icmp .ne 7, 3) := by decide +kernel
theorem dX6_addLens_39 : decode cX6_addLens 39 = .ok (.ldc2_w 58, 3) := by decide +kernel
theorem dX6_addLens_42 : decode cX6_addLens 42 = .ok (.lreturn, 1) := by decide +kernel
theorem dX6_addLens_43 : decode cX6_addLens 43 = .ok (.aload_n 0, 1) := by decide +kernel
theorem dX6_addLens_44 : decode cX6_addLens 44 = .ok (.getfield 20, 3) := by decide +kernel
theorem dX6_addLens_47 : decode cX6_addLens 47 = .ok (.aload_n 0, 1) := by decide +kernel
theorem dX6_addLens_48 : decode cX6_addLens 48 = .ok (.getfield 43, 3) := by decide +kernel
theorem dX6_addLens_51 : decode cX6_addLens 51 = .ok (.iload_n 1, 1) := by decide +kernel
theorem dX6_addLens_52 : decode cX6_addLens 52 = .ok (.iastore, 1) := by decide +kernel
theorem dX6_addLens_53 : decode cX6_addLens 53 = .ok (.aload_n 0, 1) := by decide +kernel
theorem dX6_addLens_54 : decode cX6_addLens 54 = .ok (.getfield 23, 3) := by decide +kernel
theorem dX6_addLens_57 : decode cX6_addLens 57 = .ok (.aload_n 0, 1) := by decide +kernel
theorem dX6_addLens_58 : decode cX6_addLens 58 = .ok (.getfield 43, 3) := by decide +kernel
theorem dX6_addLens_61 : decode cX6_addLens 61 = .ok (.iload_n 2, 1) := by decide +kernel
theorem dX6_addLens_62 : decode cX6_addLens 62 = .ok (.iastore, 1) := by decide +kernel
theorem dX6_addLens_63 : decode cX6_addLens 63 = .ok (.aload_n 0, 1) := by decide +kernel
theorem dX6_addLens_64 : decode cX6_addLens 64 = .ok (.dup, 1) := by decide +kernel
theorem dX6_addLens_65 : decode cX6_addLens 65 = .ok (.getfield 43, 3) := by decide +kernel
theorem dX6_addLens_68 : decode cX6_addLens 68 = .ok (.iconst 1, 1) := by decide +kernel
theorem dX6_addLens_69 : decode cX6_addLens 69 = .ok (.iadd, 1) := by decide +kernel
theorem dX6_addLens_70 : decode cX6_addLens 70 = .ok (.putfield 43, 3) := by decide +kernel
theorem dX6_addLens_73 : decode cX6_addLens 73 = .ok (.aload_n 0, 1) := by decide +kernel
theorem dX6_addLens_74 : decode cX6_addLens 74 = .ok (.getfield 43, 3) := by decide +kernel
theorem dX6_addLens_77 : decode cX6_addLens 77 = .ok (.iconst 1, 1) := by decide +kernel
theorem dX6_addLens_78 : decode cX6_addLens 78 = .ok (.isub, 1) := by decide +kernel
theorem dX6_addLens_79 : decode cX6_addLens 79 = .ok (.i2l, 1) := by decide +kernel
theorem dX6_addLens_80 : decode cX6_addLens 80 = .ok (.lreturn, 1) := by decide +kernel
set_option maxRecDepth 20000 in
theorem ggX6_removeLens_X6_isLens : GoodIn wsX6_removeLens wsX6_isLens := goodIn_r _ [9, 2, 10, 11, 8, 12, 13, 14, 15, 16, 17, 18, 19, 20, 21, 22, 23, 24, 25, 26, 27, 28, 29, 30] (by decide +kernel) (by decide +kernel)
set_option maxRecDepth 20000 in
theorem gX6_removeLens_X6_isLens : GoodIn wsX6_removeLens (wsV RX6 215 RX6 yX6_isLens wsX6_isLens) := goodIn_app (goodIn_of _ (by decide +kernel)) ggX6_removeLens_X6_isLens
theorem dX6_removeLens_0 : decode cX6_removeLens 0 = .ok (.aload_n 0, 1) := by decide +kernel
theorem dX6_removeLens_1 : decode cX6_removeLens 1 = .ok (.iload_n 1, 1) := by decide +kernel
theorem dX6_removeLens_2 : decode cX6_removeLens 2 = .ok (.invokevirtual 215, 3) := by decide +kernel
theorem dX6_removeLens_5 : decode cX6_removeLens 5 = .ok (.ifCond .ne 7, 3) := by decide +kernel
theorem dX6_removeLens_8 : decode cX6_removeLens 8 = .ok (.ldc2_w 218, 3) := by decide +kernel
theorem dX6_removeLens_11 : decode cX6_removeLens 11 = .ok (.lreturn, 1) := by decide +kernel
theorem dX6_removeLens_12 : decode cX6_removeLens 12 = .ok (.aload_n 0, 1) := by decide +kernel
theorem dX6_removeLens_13 : decode cX6_removeLens 13 = .ok (.dup, 1) := by decide +kernel
theorem dX6_removeLens_14 : decode cX6_removeLens 14 = .ok (.getfield 43, 3) := by decide +kernel
theorem dX6_removeLens_17 : decode cX6_removeLens 17 = .ok (.iconst 1, 1) := by decide +kernel
theorem dX6_removeLens_18 : decode cX6_removeLens 18 = .ok (.isub, 1) := by decide +kernel
theorem dX6_removeLens_19 : decode cX6_removeLens 19 = .ok (.putfield 43, 3) := by decide +kernel
theorem dX6_removeLens_22 : decode cX6_removeLens 22 = .ok (.iload_n 1, 1) := by decide +kernel
theorem dX6_removeLens_23 : decode cX6_removeLens 23 = .ok (.istore_n 2, 1) := by decide +kernel
theorem dX6_removeLens_24 : decode cX6_removeLens 24 = .ok (.iload_n 2, 1) := by decide +kernel
theorem dX6_removeLens_25 : decode cX6_removeLens 25 = .ok (.aload_n 0, 1) := by decide +kernel
theorem dX6_removeLens_26 : decode cX6_removeLens 26 = .ok (.getfield 43, 3) := by decide +kernel
theorem dX6_removeLens_29 : decode cX6_removeLens 29 = .ok (.if_icmp .ge 37, 3) := by decide +kernel
theorem dX6_removeLens_32 : decode cX6_removeLens 32 = .ok (.aload_n 0, 1) := by decide +kernel
theorem dX6_removeLens_33 : decode cX6_removeLens 33 = .ok (.getfield 20, 3) := by decide +kernel
theorem dX6_removeLens_36 : decode cX6_removeLens 36 = .ok (.iload_n 2, 1) := by decide +kernel
theorem dX6_removeLens_37 : decode cX6_removeLens 37 = .ok (.aload_n 0, 1) := by decide +kernel
theorem dX6_removeLens_38 : decode cX6_removeLens 38 = .ok (.getfield 20, 3) := by decide +kernel
theorem dX6_removeLens_41 : decode cX6_removeLens 41 = .ok (.iload_n 2, 1) := by decide +kernel
theorem dX6_removeLens_42 : decode cX6_removeLens 42 = .ok (.iconst 1, 1) := by decide +kernel
theorem dX6_removeLens_43 : decode cX6_removeLens 43 = .ok (.iadd, 1) := by decide +kernel
theorem dX6_removeLens_44 : decode cX6_removeLens 44 = .ok (.iaload, 1) := by decide +kernel
theorem dX6_removeLens_45 : decode cX6_removeLens 45 = .ok (.iastore, 1) := by decide +kernel
theorem dX6_removeLens_46 : decode cX6_removeLens 46 = .ok (.aload_n 0, 1) := by decide +kernel
theorem dX6_removeLens_47 : decode cX6_removeLens 47 = .ok (.getfield 23, 3) := by decide +kernel
theorem dX6_removeLens_50 : decode cX6_removeLens 50 = .ok (.iload_n 2, 1) := by decide +kernel
theorem dX6_removeLens_51 : decode cX6_removeLens 51 = .ok (.aload_n 0, 1) := by decide +kernel
theorem dX6_removeLens_52 : decode cX6_removeLens 52 = .ok (.getfield 23, 3) := by decide +kernel
theorem dX6_removeLens_55 : decode cX6_removeLens 55 = .ok (.iload_n 2, 1) := by decide +kernel
theorem dX6_removeLens_56 : decode cX6_removeLens 56 = .ok (.iconst 1, 1) := by decide +kernel
theorem dX6_removeLens_57 : decode cX6_removeLens 57 = .ok (.iadd, 1) := by decide +kernel
theorem dX6_removeLens_58 : decode cX6_removeLens 58 = .ok (.iaload, 1) := by decide +kernel
theorem dX6_removeLens_59 : decode cX6_removeLens 59 = .ok (.iastore, 1) := by decide +kernel
theorem dX6_removeLens_60 : decode cX6_removeLens 60 = .ok (.iinc 2 1, 3) := by decide +kernel
theorem dX6_removeLens_63 : decode cX6_removeLens 63 = .ok (.goto (-39), 3) := by decide +kernel
theorem dX6_removeLens_66 : decode cX6_removeLens 66 = .ok (.aload_n 0, 1) := by decide +kernel
theorem dX6_removeLens_67 : decode cX6_removeLens 67 = .ok (.getfield 43, 3) := by decide +kernel
theorem dX6_removeLens_70 : decode cX6_removeLens 70 = .ok (.i2l, 1) := by decide +kernel
theorem dX6_removeLens_71 : decode cX6_removeLens 71 = .ok (.lreturn, 1) := by decide +kernel
theorem dX6_lensCount_0 : decode cX6_lensCount 0 = .ok (.aload_n 0, 1) := by decide +kernel
theorem dX6_lensCount_1 : decode cX6_lensCount 1 = .ok (.getfield 43, 3) := by decide +kernel
theorem dX6_lensCount_4 : decode cX6_lensCount 4 = .ok (.i2l, 1) := by decide +kernel
theorem dX6_lensCount_5 : decode cX6_lensCount 5 = .ok (.lreturn, 1) := by decide +kernel
set_option maxRecDepth 20000 in
theorem ggX6_lensPower_X6_a : GoodIn wsX6_lensPower wsX6_a := goodIn_r _ [10, 3, 4, 14, 15, 16, 17, 18, 19, 20, 21, 22, 23, 24, 25, 26, 27, 28, 29, 30, 31] (by decide +kernel) (by decide +kernel)
set_option maxRecDepth 20000 in
theorem gX6_lensPower_X6_a : GoodIn wsX6_lensPower (wsV RX6 117 RX6 yX6_a wsX6_a) := goodIn_app (goodIn_of _ (by decide +kernel)) ggX6_lensPower_X6_a
set_option maxRecDepth 20000 in
theorem ggX6_lensPower_X6_floor : GoodIn wsX6_lensPower wsX6_floor := goodIn_r _ [13] (by decide +kernel) (by decide +kernel)
set_option maxRecDepth 20000 in
theorem gX6_lensPower_X6_floor : GoodIn wsX6_lensPower (va_wsS RX6 144 yX6_floor wsX6_floor) := goodIn_app (goodIn_of _ (by decide +kernel)) ggX6_lensPower_X6_floor
theorem dX6_lensPower_0 : decode cX6_lensPower 0 = .ok (.aload_n 0, 1) := by decide +kernel
theorem dX6_lensPower_1 : decode cX6_lensPower 1 = .ok (.getfield 23, 3) := by decide +kernel
theorem dX6_lensPower_4 : decode cX6_lensPower 4 = .ok (.iload_n 1, 1) := by decide +kernel
theorem dX6_lensPower_5 : decode cX6_lensPower 5 = .ok (.iaload, 1) := by decide +kernel
theorem dX6_lensPower_6 : decode cX6_lensPower 6 = .ok (.i2l, 1) := by decide +kernel
theorem dX6_lensPower_7 : decode cX6_lensPower 7 = .ok (.ldc2_w 115, 3) := by decide +kernel
theorem dX6_lensPower_10 : decode cX6_lensPower 10 = .ok (.lmul, 1) := by decide +kernel
theorem dX6_lensPower_11 : decode cX6_lensPower 11 = .ok (.aload_n 0, 1) := by decide +kernel
theorem dX6_lensPower_12 : decode cX6_lensPower 12 = .ok (.getfield 17, 3) := by decide +kernel
theorem dX6_lensPower_15 : decode cX6_lensPower 15 = .ok (.iconst 3, 1) := by decide +kernel
theorem dX6_lensPower_16 : decode cX6_lensPower 16 = .ok (.iload_n 2, 1) := by decide +kernel
theorem dX6_lensPower_17 : decode cX6_lensPower 17 = .ok (.imul, 1) := by decide +kernel
theorem dX6_lensPower_18 : decode cX6_lensPower 18 = .ok (.iload_n 3, 1) := by decide +kernel
theorem dX6_lensPower_19 : decode cX6_lensPower 19 = .ok (.iadd, 1) := by decide +kernel
theorem dX6_lensPower_20 : decode cX6_lensPower 20 = .ok (.iaload, 1) := by decide +kernel
theorem dX6_lensPower_21 : decode cX6_lensPower 21 = .ok (.ldc 48, 2) := by decide +kernel
theorem dX6_lensPower_23 : decode cX6_lensPower 23 = .ok (.isub, 1) := by decide +kernel
theorem dX6_lensPower_24 : decode cX6_lensPower 24 = .ok (.i2l, 1) := by decide +kernel
theorem dX6_lensPower_25 : decode cX6_lensPower 25 = .ok (.lmul, 1) := by decide +kernel
theorem dX6_lensPower_26 : decode cX6_lensPower 26 = .ok (.aload_n 0, 1) := by decide +kernel
theorem dX6_lensPower_27 : decode cX6_lensPower 27 = .ok (.aload_n 0, 1) := by decide +kernel
theorem dX6_lensPower_28 : decode cX6_lensPower 28 = .ok (.getfield 20, 3) := by decide +kernel
theorem dX6_lensPower_31 : decode cX6_lensPower 31 = .ok (.iload_n 1, 1) := by decide +kernel
theorem dX6_lensPower_32 : decode cX6_lensPower 32 = .ok (.iaload, 1) := by decide +kernel
theorem dX6_lensPower_33 : decode cX6_lensPower 33 = .ok (.invokevirtual 117, 3) := by decide +kernel
theorem dX6_lensPower_36 : decode cX6_lensPower 36 = .ok (.invokestatic 144, 3) := by decide +kernel
theorem dX6_lensPower_39 : decode cX6_lensPower 39 = .ok (.lreturn, 1) := by decide +kernel
set_option maxRecDepth 20000 in
theorem ggX6_systemNow_X6_lensPower : GoodIn wsX6_systemNow wsX6_lensPower := goodIn_r _ [7, 8, 9, 10, 11, 2, 12, 13, 14, 6, 15, 16, 17, 18, 19, 20, 21, 22, 23, 24, 25, 26, 27, 28, 29, 30, 31, 32, 33, 34, 35, 36] (by decide +kernel) (by decide +kernel)
set_option maxRecDepth 20000 in
theorem gX6_systemNow_X6_lensPower : GoodIn wsX6_systemNow (wsV RX6 220 RX6 yX6_lensPower wsX6_lensPower) := goodIn_app (goodIn_of _ (by decide +kernel)) ggX6_systemNow_X6_lensPower
theorem dX6_systemNow_0 : decode cX6_systemNow 0 = .ok (.lconst 0, 1) := by decide +kernel
theorem dX6_systemNow_1 : decode cX6_systemNow 1 = .ok (.lstore_n 2, 1) := by decide +kernel
theorem dX6_systemNow_2 : decode cX6_systemNow 2 = .ok (.iconst 0, 1) := by decide +kernel
theorem dX6_systemNow_3 : decode cX6_systemNow 3 = .ok (.istore 4, 2) := by decide +kernel
theorem dX6_systemNow_5 : decode cX6_systemNow 5 = .ok (.iload 4, 2) := by decide +kernel
theorem dX6_systemNow_7 : decode cX6_systemNow 7 = .ok (.aload_n 0, 1) := by decide +kernel
theorem dX6_systemNow_8 : decode cX6_systemNow 8 = .ok (.getfield 43, 3) := by decide +kernel
theorem dX6_systemNow_11 : decode cX6_systemNow 11 = .ok (.if_icmp .ge 26, 3) := by decide +kernel
theorem dX6_systemNow_14 : decode cX6_systemNow 14 = .ok (.lload_n 2, 1) := by decide +kernel
theorem dX6_systemNow_15 : decode cX6_systemNow 15 = .ok (.aload_n 0, 1) := by decide +kernel
theorem dX6_systemNow_16 : decode cX6_systemNow 16 = .ok (.iload 4, 2) := by decide +kernel
theorem dX6_systemNow_18 : decode cX6_systemNow 18 = .ok (.aload_n 0, 1) := by decide +kernel
theorem dX6_systemNow_19 : decode cX6_systemNow 19 = .ok (.getfield 20, 3) := by decide +kernel
theorem dX6_systemNow_22 : decode cX6_systemNow 22 = .ok (.iload 4, 2) := by decide +kernel
theorem dX6_systemNow_24 : decode cX6_systemNow 24 = .ok (.iaload, 1) := by decide +kernel
theorem dX6_systemNow_25 : decode cX6_systemNow 25 = .ok (.iload_n 1, 1) := by decide +kernel
theorem dX6_systemNow_26 : decode cX6_systemNow 26 = .ok (.invokevirtual 220, 3) := by decide +kernel
theorem dX6_systemNow_29 : decode cX6_systemNow 29 = .ok (.ladd, 1) := by decide +kernel
theorem dX6_systemNow_30 : decode cX6_systemNow 30 = .ok (.lstore_n 2, 1) := by decide +kernel
theorem dX6_systemNow_31 : decode cX6_systemNow 31 = .ok (.iinc 4 1, 3) := by decide +kernel
theorem dX6_systemNow_34 : decode cX6_systemNow 34 = .ok (.goto (-29), 3) := by decide +kernel
theorem dX6_systemNow_37 : decode cX6_systemNow 37 = .ok (.lload_n 2, 1) := by decide +kernel
theorem dX6_systemNow_38 : decode cX6_systemNow 38 = .ok (.lreturn, 1) := by decide +kernel
set_option maxRecDepth 20000 in
theorem ggX6_systemPower_X6_isColour : GoodIn wsX6_systemPower wsX6_isColour := goodIn_r _ [5, 6, 7, 8, 4, 9] (by decide +kernel) (by decide +kernel)
set_option maxRecDepth 20000 in
theorem gX6_systemPower_X6_isColour : GoodIn wsX6_systemPower (va_wsS RX6 108 yX6_isColour wsX6_isColour) := goodIn_app (goodIn_of _ (by decide +kernel)) ggX6_systemPower_X6_isColour
set_option maxRecDepth 20000 in
theorem ggX6_systemPower_X6_systemNow : GoodIn wsX6_systemPower wsX6_systemNow := goodIn_r _ [13, 14, 15, 16, 17, 18, 4, 19, 20, 21, 22, 23, 24, 25, 26, 27, 28, 29, 30, 31, 32, 33, 34, 35, 36, 37, 38, 39, 40, 41, 42, 43, 44, 45, 46, 47, 48] (by decide +kernel) (by decide +kernel)
set_option maxRecDepth 20000 in
theorem gX6_systemPower_X6_systemNow : GoodIn wsX6_systemPower (wsV RX6 223 RX6 yX6_systemNow wsX6_systemNow) := goodIn_app (goodIn_of _ (by decide +kernel)) ggX6_systemPower_X6_systemNow
theorem dX6_systemPower_0 : decode cX6_systemPower 0 = .ok (.iload_n 1, 1) := by decide +kernel
theorem dX6_systemPower_1 : decode cX6_systemPower 1 = .ok (.invokestatic 108, 3) := by decide +kernel
theorem dX6_systemPower_4 : decode cX6_systemPower 4 = .ok (.ifCond .eq 11, 3) := by decide +kernel
theorem dX6_systemPower_7 : decode cX6_systemPower 7 = .ok (.aload_n 0, 1) := by decide +kernel
theorem dX6_systemPower_8 : decode cX6_systemPower 8 = .ok (.iload_n 1, 1) := by decide +kernel
theorem dX6_systemPower_9 : decode cX6_systemPower 9 = .ok (.invokevirtual 223, 3) := by decide +kernel
theorem dX6_systemPower_12 : decode cX6_systemPower 12 = .ok (.goto 6, 3) := by decide +kernel
theorem dX6_systemPower_15 : decode cX6_systemPower 15 = .ok (.ldc2_w 53, 3) := by decide +kernel
theorem dX6_systemPower_18 : decode cX6_systemPower 18 = .ok (.lreturn, 1) := by decide +kernel
set_option maxRecDepth 20000 in
theorem ggX6_balanceNow_X6_systemNow : GoodIn wsX6_balanceNow wsX6_systemNow := goodIn_r _ [6, 7, 8, 9, 10, 11, 5, 12, 13, 1, 14, 15, 16, 17, 18, 19, 20, 21, 22, 27, 28, 29, 30, 31, 32, 33, 34, 35, 36, 37, 38, 39, 40, 41, 42, 43, 44] (by decide +kernel) (by decide +kernel)
set_option maxRecDepth 20000 in
theorem gX6_balanceNow_X6_systemNow : GoodIn wsX6_balanceNow (wsV RX6 223 RX6 yX6_systemNow wsX6_systemNow) := goodIn_app (goodIn_of _ (by decide +kernel)) ggX6_balanceNow_X6_systemNow
set_option maxRecDepth 20000 in
theorem ggX6_balanceNow_X6_a : GoodIn wsX6_balanceNow wsX6_a := goodIn_r _ [19, 14, 15, 27, 28, 29, 30, 31, 32, 33, 34, 35, 36, 37, 38, 39, 40, 41, 42, 43, 44] (by decide +kernel) (by decide +kernel)
set_option maxRecDepth 20000 in
theorem gX6_balanceNow_X6_a : GoodIn wsX6_balanceNow (wsV RX6 117 RX6 yX6_a wsX6_a) := goodIn_app (goodIn_of _ (by decide +kernel)) ggX6_balanceNow_X6_a
set_option maxRecDepth 20000 in
theorem ggX6_balanceNow_X6_b : GoodIn wsX6_balanceNow wsX6_b := goodIn_r _ [26, 14, 27, 28, 29, 30, 31, 32, 33, 34, 35, 36, 37, 38, 39, 40, 41, 42, 43, 44] (by decide +kernel) (by decide +kernel)
set_option maxRecDepth 20000 in
theorem gX6_balanceNow_X6_b : GoodIn wsX6_balanceNow (wsV RX6 120 RX6 yX6_b wsX6_b) := goodIn_app (goodIn_of _ (by decide +kernel)) ggX6_balanceNow_X6_b
set_option maxRecDepth 20000 in
theorem ggX6_balanceNow_X6_floor : GoodIn wsX6_balanceNow wsX6_floor := goodIn_r _ [22] (by decide +kernel) (by decide +kernel)
set_option maxRecDepth 20000 in
theorem gX6_balanceNow_X6_floor : GoodIn wsX6_balanceNow (va_wsS RX6 144 yX6_floor wsX6_floor) := goodIn_app (goodIn_of _ (by decide +kernel)) ggX6_balanceNow_X6_floor
theorem dX6_balanceNow_0 : decode cX6_balanceNow 0 = .ok (.aload_n 0, 1) := by decide +kernel
theorem dX6_balanceNow_1 : decode cX6_balanceNow 1 = .ok (.iconst 0, 1) := by decide +kernel
theorem dX6_balanceNow_2 : decode cX6_balanceNow 2 = .ok (.invokevirtual 223, 3) := by decide +kernel
theorem dX6_balanceNow_5 : decode cX6_balanceNow 5 = .ok (.aload_n 0, 1) := by decide +kernel
theorem dX6_balanceNow_6 : decode cX6_balanceNow 6 = .ok (.iconst 2, 1) := by decide +kernel
theorem dX6_balanceNow_7 : decode cX6_balanceNow 7 = .ok (.invokevirtual 223, 3) := by decide +kernel
theorem dX6_balanceNow_10 : decode cX6_balanceNow 10 = .ok (.lsub, 1) := by decide +kernel
theorem dX6_balanceNow_11 : decode cX6_balanceNow 11 = .ok (.lstore_n 2, 1) := by decide +kernel
theorem dX6_balanceNow_12 : decode cX6_balanceNow 12 = .ok (.lload_n 2, 1) := by decide +kernel
theorem dX6_balanceNow_13 : decode cX6_balanceNow 13 = .ok (.lneg, 1) := by decide +kernel
theorem dX6_balanceNow_14 : decode cX6_balanceNow 14 = .ok (.aload_n 0, 1) := by decide +kernel
theorem dX6_balanceNow_15 : decode cX6_balanceNow 15 = .ok (.iload_n 1, 1) := by decide +kernel
theorem dX6_balanceNow_16 : decode cX6_balanceNow 16 = .ok (.invokevirtual 117, 3) := by decide +kernel
theorem dX6_balanceNow_19 : decode cX6_balanceNow 19 = .ok (.lmul, 1) := by decide +kernel
theorem dX6_balanceNow_20 : decode cX6_balanceNow 20 = .ok (.ldc2_w 115, 3) := by decide +kernel
theorem dX6_balanceNow_23 : decode cX6_balanceNow 23 = .ok (.aload_n 0, 1) := by decide +kernel
theorem dX6_balanceNow_24 : decode cX6_balanceNow 24 = .ok (.iload_n 1, 1) := by decide +kernel
theorem dX6_balanceNow_25 : decode cX6_balanceNow 25 = .ok (.invokevirtual 120, 3) := by decide +kernel
theorem dX6_balanceNow_28 : decode cX6_balanceNow 28 = .ok (.lmul, 1) := by decide +kernel
theorem dX6_balanceNow_29 : decode cX6_balanceNow 29 = .ok (.invokestatic 144, 3) := by decide +kernel
theorem dX6_balanceNow_32 : decode cX6_balanceNow 32 = .ok (.lreturn, 1) := by decide +kernel
set_option maxRecDepth 20000 in
theorem ggX6_balancePower_X6_isGlass : GoodIn wsX6_balancePower wsX6_isGlass := goodIn_r _ [6, 7, 8, 9, 5, 10, 40, 41, 42, 43, 44, 45, 46, 47, 48, 49, 50, 51, 52, 53, 54, 55, 56, 57] (by decide +kernel) (by decide +kernel)
set_option maxRecDepth 20000 in
theorem gX6_balancePower_X6_isGlass : GoodIn wsX6_balancePower (wsV RX6 100 RX6 yX6_isGlass wsX6_isGlass) := goodIn_app (goodIn_of _ (by decide +kernel)) ggX6_balancePower_X6_isGlass
set_option maxRecDepth 20000 in
theorem ggX6_balancePower_X6_balanceNow : GoodIn wsX6_balancePower wsX6_balanceNow := goodIn_r _ [14, 15, 16, 17, 18, 5, 19, 20, 21, 22, 23, 24, 25, 26, 27, 28, 29, 30, 31, 32, 33, 34, 35, 36, 37, 38, 39, 40, 41, 42, 43, 44, 45, 46, 47, 48, 49, 50, 51, 52, 53, 54, 55, 56, 57] (by decide +kernel) (by decide +kernel)
set_option maxRecDepth 20000 in
theorem gX6_balancePower_X6_balanceNow : GoodIn wsX6_balancePower (wsV RX6 226 RX6 yX6_balanceNow wsX6_balanceNow) := goodIn_app (goodIn_of _ (by decide +kernel)) ggX6_balancePower_X6_balanceNow
theorem dX6_balancePower_0 : decode cX6_balancePower 0 = .ok (.aload_n 0, 1) := by decide +kernel
theorem dX6_balancePower_1 : decode cX6_balancePower 1 = .ok (.iload_n 1, 1) := by decide +kernel
theorem dX6_balancePower_2 : decode cX6_balancePower 2 = .ok (.invokevirtual 100, 3) := by decide +kernel
theorem dX6_balancePower_5 : decode cX6_balancePower 5 = .ok (.ifCond .eq 11, 3) := by decide +kernel
theorem dX6_balancePower_8 : decode cX6_balancePower 8 = .ok (.aload_n 0, 1) := by decide +kernel
theorem dX6_balancePower_9 : decode cX6_balancePower 9 = .ok (.iload_n 1, 1) := by decide +kernel
theorem dX6_balancePower_10 : decode cX6_balancePower 10 = .ok (.invokevirtual 226, 3) := by decide +kernel
theorem dX6_balancePower_13 : decode cX6_balancePower 13 = .ok (.goto 6, 3) := by decide +kernel
theorem dX6_balancePower_16 : decode cX6_balancePower 16 = .ok (.ldc2_w 104, 3) := by decide +kernel
theorem dX6_balancePower_19 : decode cX6_balancePower 19 = .ok (.lreturn, 1) := by decide +kernel
set_option maxRecDepth 20000 in
theorem ggX6_miss_X6_systemNow : GoodIn wsX6_miss wsX6_systemNow := goodIn_r _ [7, 8, 1, 9, 10, 11, 6, 12, 13, 14, 15, 16, 17, 18, 19, 20, 21, 22, 23, 27, 28, 29, 30, 31, 32, 33, 34, 35, 36, 37, 38, 39, 40, 41, 42, 43, 44] (by decide +kernel) (by decide +kernel)
set_option maxRecDepth 20000 in
theorem gX6_miss_X6_systemNow : GoodIn wsX6_miss (wsV RX6 223 RX6 yX6_systemNow wsX6_systemNow) := goodIn_app (goodIn_of _ (by decide +kernel)) ggX6_miss_X6_systemNow
set_option maxRecDepth 20000 in
theorem ggX6_miss_X6_lensPower : GoodIn wsX6_miss wsX6_lensPower := goodIn_r _ [12, 13, 14, 15, 16, 1, 17, 18, 19, 6, 20, 21, 22, 23, 27, 28, 29, 30, 31, 32, 33, 34, 35, 36, 37, 38, 39, 40, 41, 42, 43, 44] (by decide +kernel) (by decide +kernel)
set_option maxRecDepth 20000 in
theorem gX6_miss_X6_lensPower : GoodIn wsX6_miss (wsV RX6 220 RX6 yX6_lensPower wsX6_lensPower) := goodIn_app (goodIn_of _ (by decide +kernel)) ggX6_miss_X6_lensPower
set_option maxRecDepth 20000 in
theorem ggX6_miss_X6_size : GoodIn wsX6_miss wsX6_size := goodIn_r _ [26] (by decide +kernel) (by decide +kernel)
set_option maxRecDepth 20000 in
theorem gX6_miss_X6_size : GoodIn wsX6_miss (va_wsS RX6 153 yX6_size wsX6_size) := goodIn_app (goodIn_of _ (by decide +kernel)) ggX6_miss_X6_size
theorem dX6_miss_0 : decode cX6_miss 0 = .ok (.lconst 0, 1) := by decide +kernel
theorem dX6_miss_1 : decode cX6_miss 1 = .ok (.lstore_n 3, 1) := by decide +kernel
theorem dX6_miss_2 : decode cX6_miss 2 = .ok (.iconst 0, 1) := by decide +kernel
theorem dX6_miss_3 : decode cX6_miss 3 = .ok (.istore 5, 2) := by decide +kernel
theorem dX6_miss_5 : decode cX6_miss 5 = .ok (.iload 5, 2) := by decide +kernel
theorem dX6_miss_7 : decode cX6_miss 7 = .ok (.iconst 3, 1) := by decide +kernel
theorem dX6_miss_8 : decode cX6_miss 8 = .ok (.if_icmp .ge 52, 3) := by decide +kernel
theorem dX6_miss_11 : decode cX6_miss 11 = .ok (.lload_n 3, 1) := by decide +kernel
theorem dX6_miss_12 : decode cX6_miss 12 = .ok (.aload_n 0, 1) := by decide +kernel
theorem dX6_miss_13 : decode cX6_miss 13 = .ok (.iload 5, 2) := by decide +kernel
theorem dX6_miss_15 : decode cX6_miss 15 = .ok (.invokevirtual 223, 3) := by decide +kernel
theorem dX6_miss_18 : decode cX6_miss 18 = .ok (.aload_n 0, 1) := by decide +kernel
theorem dX6_miss_19 : decode cX6_miss 19 = .ok (.iload_n 1, 1) := by decide +kernel
theorem dX6_miss_20 : decode cX6_miss 20 = .ok (.aload_n 0, 1) := by decide +kernel
theorem dX6_miss_21 : decode cX6_miss 21 = .ok (.getfield 20, 3) := by decide +kernel
theorem dX6_miss_24 : decode cX6_miss 24 = .ok (.iload_n 1, 1) := by decide +kernel
theorem dX6_miss_25 : decode cX6_miss 25 = .ok (.iaload, 1) := by decide +kernel
theorem dX6_miss_26 : decode cX6_miss 26 = .ok (.iload 5, 2) := by decide +kernel
theorem dX6_miss_28 : decode cX6_miss 28 = .ok (.invokevirtual 220, 3) := by decide +kernel
theorem dX6_miss_31 : decode cX6_miss 31 = .ok (.lsub, 1) := by decide +kernel
theorem dX6_miss_32 : decode cX6_miss 32 = .ok (.aload_n 0, 1) := by decide +kernel
theorem dX6_miss_33 : decode cX6_miss 33 = .ok (.iload_n 1, 1) := by decide +kernel
theorem dX6_miss_34 : decode cX6_miss 34 = .ok (.iload_n 2, 1) := by decide +kernel
theorem dX6_miss_35 : decode cX6_miss 35 = .ok (.iload 5, 2) := by decide +kernel
theorem dX6_miss_37 : decode cX6_miss 37 = .ok (.invokevirtual 220, 3) := by decide +kernel
theorem dX6_miss_40 : decode cX6_miss 40 = .ok (.ladd, 1) := by decide +kernel
theorem dX6_miss_41 : decode cX6_miss 41 = .ok (.aload_n 0, 1) := by decide +kernel
theorem dX6_miss_42 : decode cX6_miss 42 = .ok (.getfield 32, 3) := by decide +kernel
theorem dX6_miss_45 : decode cX6_miss 45 = .ok (.iload 5, 2) := by decide +kernel
theorem dX6_miss_47 : decode cX6_miss 47 = .ok (.laload, 1) := by decide +kernel
theorem dX6_miss_48 : decode cX6_miss 48 = .ok (.lsub, 1) := by decide +kernel
theorem dX6_miss_49 : decode cX6_miss 49 = .ok (.invokestatic 153, 3) := by decide +kernel
theorem dX6_miss_52 : decode cX6_miss 52 = .ok (.ladd, 1) := by decide +kernel
theorem dX6_miss_53 : decode cX6_miss 53 = .ok (.lstore_n 3, 1) := by decide +kernel
theorem dX6_miss_54 : decode cX6_miss 54 = .ok (.iinc 5 1, 3) := by decide +kernel
theorem dX6_miss_57 : decode cX6_miss 57 = .ok (.goto (-52), 3) := by decide +kernel
theorem dX6_miss_60 : decode cX6_miss 60 = .ok (.lload_n 3, 1) := by decide +kernel
theorem dX6_miss_61 : decode cX6_miss 61 = .ok (.lreturn, 1) := by decide +kernel
set_option maxRecDepth 20000 in
theorem ggX6_wrongNow_X6_miss : GoodIn wsX6_wrongNow wsX6_miss := goodIn_r _ [12, 5, 4, 13, 14, 15, 11, 16, 1, 17, 18, 19, 20, 21, 22, 23, 24, 25, 26, 27, 28, 29, 30, 31, 32, 33, 34, 35, 36, 37, 38, 39, 40, 41, 42, 43, 44, 45, 46, 47, 48, 49, 50, 51, 52] (by decide +kernel) (by decide +kernel)
set_option maxRecDepth 20000 in
theorem gX6_wrongNow_X6_miss : GoodIn wsX6_wrongNow (wsV RX6 229 RX6 yX6_miss wsX6_miss) := goodIn_app (goodIn_of _ (by decide +kernel)) ggX6_wrongNow_X6_miss
theorem dX6_wrongNow_0 : decode cX6_wrongNow 0 = .ok (.aload_n 0, 1) := by decide +kernel
theorem dX6_wrongNow_1 : decode cX6_wrongNow 1 = .ok (.getfield 43, 3) := by decide +kernel
theorem dX6_wrongNow_4 : decode cX6_wrongNow 4 = .ok (.ifCond .eq 11, 3) := by decide +kernel
theorem dX6_wrongNow_7 : decode cX6_wrongNow 7 = .ok (.aload_n 0, 1) := by decide +kernel
theorem dX6_wrongNow_8 : decode cX6_wrongNow 8 = .ok (.getfield 35, 3) := by decide +kernel
theorem dX6_wrongNow_11 : decode cX6_wrongNow 11 = .ok (.iconst 2, 1) := by decide +kernel
theorem dX6_wrongNow_12 : decode cX6_wrongNow 12 = .ok (.if_icmp .ge 7, 3) := by decide +kernel
theorem dX6_wrongNow_15 : decode cX6_wrongNow 15 = .ok (.ldc2_w 134, 3) := by decide +kernel
theorem dX6_wrongNow_18 : decode cX6_wrongNow 18 = .ok (.lreturn, 1) := by decide +kernel
theorem dX6_wrongNow_19 : decode cX6_wrongNow 19 = .ok (.aload_n 0, 1) := by decide +kernel
theorem dX6_wrongNow_20 : decode cX6_wrongNow 20 = .ok (.getfield 32, 3) := by decide +kernel
theorem dX6_wrongNow_23 : decode cX6_wrongNow 23 = .ok (.iconst 0, 1) := by decide +kernel
theorem dX6_wrongNow_24 : decode cX6_wrongNow 24 = .ok (.lload_n 1, 1) := by decide +kernel
theorem dX6_wrongNow_25 : decode cX6_wrongNow 25 = .ok (.lastore, 1) := by decide +kernel
theorem dX6_wrongNow_26 : decode cX6_wrongNow 26 = .ok (.aload_n 0, 1) := by decide +kernel
theorem dX6_wrongNow_27 : decode cX6_wrongNow 27 = .ok (.getfield 32, 3) := by decide +kernel
theorem dX6_wrongNow_30 : decode cX6_wrongNow 30 = .ok (.iconst 1, 1) := by decide +kernel
theorem dX6_wrongNow_31 : decode cX6_wrongNow 31 = .ok (.lload_n 3, 1) := by decide +kernel
theorem dX6_wrongNow_32 : decode cX6_wrongNow 32 = .ok (.lastore, 1) := by decide +kernel
theorem dX6_wrongNow_33 : decode cX6_wrongNow 33 = .ok (.aload_n 0, 1) := by decide +kernel
theorem dX6_wrongNow_34 : decode cX6_wrongNow 34 = .ok (.getfield 32, 3) := by decide +kernel
theorem dX6_wrongNow_37 : decode cX6_wrongNow 37 = .ok (.iconst 2, 1) := by decide +kernel
theorem dX6_wrongNow_38 : decode cX6_wrongNow 38 = .ok (.lload 5, 2) := by decide +kernel
theorem dX6_wrongNow_40 : decode cX6_wrongNow 40 = .ok (.lastore, 1) := by decide +kernel
theorem dX6_wrongNow_41 : decode cX6_wrongNow 41 = .ok (.ldc2_w 134, 3) := by decide +kernel
theorem dX6_wrongNow_44 : decode cX6_wrongNow 44 = .ok (.lstore 7, 2) := by decide +kernel
theorem dX6_wrongNow_46 : decode cX6_wrongNow 46 = .ok (.lconst 0, 1) := by decide +kernel
theorem dX6_wrongNow_47 : decode cX6_wrongNow 47 = .ok (.lstore 9, 2) := by decide +kernel
theorem dX6_wrongNow_49 : decode cX6_wrongNow 49 = .ok (.iconst 0, 1) := by decide +kernel
theorem dX6_wrongNow_50 : decode cX6_wrongNow 50 = .ok (.istore 11, 2) := by decide +kernel
theorem dX6_wrongNow_52 : decode cX6_wrongNow 52 = .ok (.iload 11, 2) := by decide +kernel
theorem dX6_wrongNow_54 : decode cX6_wrongNow 54 = .ok (.aload_n 0, 1) := by decide +kernel
theorem dX6_wrongNow_55 : decode cX6_wrongNow 55 = .ok (.getfield 43, 3) := by decide +kernel
theorem dX6_wrongNow_58 : decode cX6_wrongNow 58 = .ok (.if_icmp .ge 123, 3) := by decide +kernel
theorem dX6_wrongNow_61 : decode cX6_wrongNow 61 = .ok (.iconst 0, 1) := by decide +kernel
theorem dX6_wrongNow_62 : decode cX6_wrongNow 62 = .ok (.istore 12, 2) := by decide +kernel
theorem dX6_wrongNow_64 : decode cX6_wrongNow 64 = .ok (.iload 12, 2) := by decide +kernel
theorem dX6_wrongNow_66 : decode cX6_wrongNow 66 = .ok (.aload_n 0, 1) := by decide +kernel
theorem dX6_wrongNow_67 : decode cX6_wrongNow 67 = .ok (.getfield 35, 3) := by decide +kernel
theorem dX6_wrongNow_70 : decode cX6_wrongNow 70 = .ok (.if_icmp .ge 105, 3) := by decide +kernel
theorem dX6_wrongNow_73 : decode cX6_wrongNow 73 = .ok (.iload 12, 2) := by decide +kernel
theorem dX6_wrongNow_75 : decode cX6_wrongNow 75 = .ok (.aload_n 0, 1) := by decide +kernel
theorem dX6_wrongNow_76 : decode cX6_wrongNow 76 = .ok (.getfield 20, 3) := by decide +kernel
theorem dX6_wrongNow_79 : decode cX6_wrongNow 79 = .ok (.iload 11, 2) := by decide +kernel
theorem dX6_wrongNow_81 : decode cX6_wrongNow 81 = .ok (.iaload, 1) := by decide +kernel
theorem dX6_wrongNow_82 : decode cX6_wrongNow 82 = .ok (.if_icmp .ne 9, 3) := by decide +kernel
theorem dX6_wrongNow_85 : decode cX6_wrongNow 85 = .ok (.ldc2_w 203, 3) := by decide +kernel
theorem dX6_wrongNow_88 : decode cX6_wrongNow 88 = .ok (.goto 11, 3) := by decide +kernel
theorem dX6_wrongNow_91 : decode cX6_wrongNow 91 = .ok (.aload_n 0, 1) := by decide +kernel
theorem dX6_wrongNow_92 : decode cX6_wrongNow 92 = .ok (.iload 11, 2) := by decide +kernel
theorem dX6_wrongNow_94 : decode cX6_wrongNow 94 = .ok (.iload 12, 2) := by decide +kernel
theorem dX6_wrongNow_96 : decode cX6_wrongNow 96 = .ok (.invokevirtual 229, 3) := by decide +kernel
theorem dX6_wrongNow_99 : decode cX6_wrongNow 99 = .ok (.lstore 13, 2) := by decide +kernel
theorem dX6_wrongNow_101 : decode cX6_wrongNow 101 = .ok (.lload 13, 2) := by decide +kernel
theorem dX6_wrongNow_103 : decode cX6_wrongNow 103 = .ok (.lconst 0, 1) := by decide +kernel
theorem dX6_wrongNow_104 : decode cX6_wrongNow 104 = .ok (.lcmp, 1) := by decide +kernel
theorem dX6_wrongNow_105 : decode cX6_wrongNow 105 = .ok (.ifCond .lt 24, 3) := by decide +kernel
theorem dX6_wrongNow_108 : decode cX6_wrongNow 108 = .ok (.lload 7, 2) := by decide +kernel
theorem dX6_wrongNow_110 : decode cX6_wrongNow 110 = .ok (.ldc2_w 134, 3) := by decide +kernel
theorem dX6_wrongNow_113 : decode cX6_wrongNow 113 = .ok (.lcmp, 1) := by decide +kernel
theorem dX6_wrongNow_114 : decode cX6_wrongNow 114 = .ok (.ifCond .eq 11, 3) := by decide +kernel
theorem dX6_wrongNow_117 : decode cX6_wrongNow 117 = .ok (.lload 13, 2) := by decide +kernel
theorem dX6_wrongNow_119 : decode cX6_wrongNow 119 = .ok (.lload 9, 2) := by decide +kernel
theorem dX6_wrongNow_121 : decode cX6_wrongNow 121 = .ok (.lcmp, 1) := by decide +kernel
theorem dX6_wrongNow_122 : decode cX6_wrongNow 122 = .ok (.ifCond .ge 7, 3) := by decide +kernel
theorem dX6_wrongNow_125 : decode cX6_wrongNow 125 = .ok (.iconst 1, 1) := by decide +kernel
theorem dX6_wrongNow_126 : decode cX6_wrongNow 126 = .ok (.goto 4, 3) := by decide +kernel
theorem dX6_wrongNow_129 : decode cX6_wrongNow 129 = .ok (.iconst 0, 1) := by decide +kernel
theorem dX6_wrongNow_130 : decode cX6_wrongNow 130 = .ok (.istore 15, 2) := by decide +kernel
theorem dX6_wrongNow_132 : decode cX6_wrongNow 132 = .ok (.iload 15, 2) := by decide +kernel
theorem dX6_wrongNow_134 : decode cX6_wrongNow 134 = .ok (.ifCond .eq 17, 3) := by decide +kernel
theorem dX6_wrongNow_137 : decode cX6_wrongNow 137 = .ok (.ldc2_w 186, 3) := by decide +kernel
theorem dX6_wrongNow_140 : decode cX6_wrongNow 140 = .ok (.iload 11, 2) := by decide +kernel
theorem dX6_wrongNow_142 : decode cX6_wrongNow 142 = .ok (.i2l, 1) := by decide +kernel
theorem dX6_wrongNow_143 : decode cX6_wrongNow 143 = .ok (.lmul, 1) := by decide +kernel
theorem dX6_wrongNow_144 : decode cX6_wrongNow 144 = .ok (.iload 12, 2) := by decide +kernel
theorem dX6_wrongNow_146 : decode cX6_wrongNow 146 = .ok (.i2l, 1) := by decide +kernel
theorem dX6_wrongNow_147 : decode cX6_wrongNow 147 = .ok (.ladd, 1) := by decide +kernel
theorem dX6_wrongNow_148 : decode cX6_wrongNow 148 = .ok (.goto 5, 3) := by decide +kernel
theorem dX6_wrongNow_151 : decode cX6_wrongNow 151 = .ok (.lload 7, 2) := by decide +kernel
theorem dX6_wrongNow_153 : decode cX6_wrongNow 153 = .ok (.lstore 7, 2) := by decide +kernel
theorem dX6_wrongNow_155 : decode cX6_wrongNow 155 = .ok (.iload 15, 2) := by decide +kernel
theorem dX6_wrongNow_157 : decode cX6_wrongNow 157 = .ok (.ifCond .eq 8, 3) := by decide +kernel
theorem dX6_wrongNow_160 : decode cX6_wrongNow 160 = .ok (.lload 13, 2) := by decide +kernel
theorem dX6_wrongNow_162 : decode cX6_wrongNow 162 = .ok (.goto 5, 3) := by decide +kernel
theorem dX6_wrongNow_165 : decode cX6_wrongNow 165 = .ok (.lload 9, 2) := by decide +kernel
theorem dX6_wrongNow_167 : decode cX6_wrongNow 167 = .ok (.lstore 9, 2) := by decide +kernel
theorem dX6_wrongNow_169 : decode cX6_wrongNow 169 = .ok (.iinc 12 1, 3) := by decide +kernel
theorem dX6_wrongNow_172 : decode cX6_wrongNow 172 = .ok (.goto (-108), 3) := by decide +kernel
theorem dX6_wrongNow_175 : decode cX6_wrongNow 175 = .ok (.iinc 11 1, 3) := by decide +kernel
theorem dX6_wrongNow_178 : decode cX6_wrongNow 178 = .ok (.goto (-126), 3) := by decide +kernel
theorem dX6_wrongNow_181 : decode cX6_wrongNow 181 = .ok (.lload 7, 2) := by decide +kernel
theorem dX6_wrongNow_183 : decode cX6_wrongNow 183 = .ok (.lreturn, 1) := by decide +kernel
set_option maxRecDepth 20000 in
theorem ggX6_isMeasured_X6_within : GoodIn wsX6_isMeasured wsX6_within := goodIn_r _ [6] (by decide +kernel) (by decide +kernel)
set_option maxRecDepth 20000 in
theorem gX6_isMeasured_X6_within : GoodIn wsX6_isMeasured (va_wsS RX6 39 yX6_within wsX6_within) := goodIn_app (goodIn_of _ (by decide +kernel)) ggX6_isMeasured_X6_within
theorem dX6_isMeasured_0 : decode cX6_isMeasured 0 = .ok (.lload_n 0, 1) := by decide +kernel
theorem dX6_isMeasured_1 : decode cX6_isMeasured 1 = .ok (.ldc2_w 232, 3) := by decide +kernel
theorem dX6_isMeasured_4 : decode cX6_isMeasured 4 = .ok (.ldc2_w 234, 3) := by decide +kernel
theorem dX6_isMeasured_7 : decode cX6_isMeasured 7 = .ok (.invokestatic 39, 3) := by decide +kernel
theorem dX6_isMeasured_10 : decode cX6_isMeasured 10 = .ok (.ireturn, 1) := by decide +kernel
set_option maxRecDepth 20000 in
theorem ggX6_findWrongGlass_X6_isMeasured : GoodIn wsX6_findWrongGlass wsX6_isMeasured := goodIn_r _ [5, 6, 7, 8, 9, 4, 10] (by decide +kernel) (by decide +kernel)
set_option maxRecDepth 20000 in
theorem gX6_findWrongGlass_X6_isMeasured : GoodIn wsX6_findWrongGlass (va_wsS RX6 236 yX6_isMeasured wsX6_isMeasured) := goodIn_app (goodIn_of _ (by decide +kernel)) ggX6_findWrongGlass_X6_isMeasured
set_option maxRecDepth 20000 in
theorem ggX6_findWrongGlass_X6_wrongNow : GoodIn wsX6_findWrongGlass wsX6_wrongNow := goodIn_r _ [14, 15, 16, 17, 18, 19, 20, 21, 22, 23, 24, 4, 25, 26, 27, 28, 29, 30, 31, 32, 33, 34, 35, 36, 37, 38, 39, 40, 41, 42, 43, 44, 45, 46, 47, 48, 49, 50, 51, 52, 53, 54, 55, 56, 57, 58, 59, 60, 61, 62, 63, 64, 65] (by decide +kernel) (by decide +kernel)
set_option maxRecDepth 20000 in
theorem gX6_findWrongGlass_X6_wrongNow : GoodIn wsX6_findWrongGlass (wsV RX6 239 RX6 yX6_wrongNow wsX6_wrongNow) := goodIn_app (goodIn_of _ (by decide +kernel)) ggX6_findWrongGlass_X6_wrongNow
theorem dX6_findWrongGlass_0 : decode cX6_findWrongGlass 0 = .ok (.lload_n 1, 1) := by decide +kernel
theorem dX6_findWrongGlass_1 : decode cX6_findWrongGlass 1 = .ok (.invokestatic 236, 3) := by decide +kernel
theorem dX6_findWrongGlass_4 : decode cX6_findWrongGlass 4 = .ok (.ifCond .eq 29, 3) := by decide +kernel
theorem dX6_findWrongGlass_7 : decode cX6_findWrongGlass 7 = .ok (.lload_n 3, 1) := by decide +kernel
theorem dX6_findWrongGlass_8 : decode cX6_findWrongGlass 8 = .ok (.invokestatic 236, 3) := by decide +kernel
theorem dX6_findWrongGlass_11 : decode cX6_findWrongGlass 11 = .ok (.ifCond .eq 22, 3) := by decide +kernel
theorem dX6_findWrongGlass_14 : decode cX6_findWrongGlass 14 = .ok (.lload 5, 2) := by decide +kernel
theorem dX6_findWrongGlass_16 : decode cX6_findWrongGlass 16 = .ok (.invokestatic 236, 3) := by decide +kernel
theorem dX6_findWrongGlass_19 : decode cX6_findWrongGlass 19 = .ok (.ifCond .eq 14, 3) := by decide +kernel
theorem dX6_findWrongGlass_22 : decode cX6_findWrongGlass 22 = .ok (.aload_n 0, 1) := by decide +kernel
theorem dX6_findWrongGlass_23 : decode cX6_findWrongGlass 23 = .ok (.lload_n 1, 1) := by decide +kernel
theorem dX6_findWrongGlass_24 : decode cX6_findWrongGlass 24 = .ok (.lload_n 3, 1) := by decide +kernel
theorem dX6_findWrongGlass_25 : decode cX6_findWrongGlass 25 = .ok (.lload 5, 2) := by decide +kernel
theorem dX6_findWrongGlass_27 : decode cX6_findWrongGlass 27 = .ok (.invokevirtual 239, 3) := by decide +kernel
theorem dX6_findWrongGlass_30 : decode cX6_findWrongGlass 30 = .ok (.goto 6, 3) := by decide +kernel
theorem dX6_findWrongGlass_33 : decode cX6_findWrongGlass 33 = .ok (.ldc2_w 53, 3) := by decide +kernel
theorem dX6_findWrongGlass_36 : decode cX6_findWrongGlass 36 = .ok (.lreturn, 1) := by decide +kernel
set_option maxRecDepth 20000 in
theorem ggX6_addPlate_X6_within : GoodIn wsX6_addPlate wsX6_within := goodIn_r _ [11] (by decide +kernel) (by decide +kernel)
set_option maxRecDepth 20000 in
theorem gX6_addPlate_X6_within : GoodIn wsX6_addPlate (va_wsS RX6 39 yX6_within wsX6_within) := goodIn_app (goodIn_of _ (by decide +kernel)) ggX6_addPlate_X6_within
theorem dX6_addPlate_0 : decode cX6_addPlate 0 = .ok (.iload_n 1, 1) := by decide +kernel
theorem dX6_addPlate_1 : decode cX6_addPlate 1 = .ok (.i2l, 1) := by decide +kernel
theorem dX6_addPlate_2 : decode cX6_addPlate 2 = .ok (.ldc2_w 115, 3) := by decide +kernel
theorem dX6_addPlate_5 : decode cX6_addPlate 5 = .ok (.ldc2_w 148, 3) := by decide +kernel
theorem dX6_addPlate_8 : decode cX6_addPlate 8 = .ok (.invokestatic 39, 3) := by decide +kernel
theorem dX6_addPlate_11 : decode cX6_addPlate 11 = .ok (.ifCond .ne 7, 3) := by decide +kernel
theorem dX6_addPlate_14 : decode cX6_addPlate 14 = .ok (.ldc2_w 53, 3) := by decide +kernel
theorem dX6_addPlate_17 : decode cX6_addPlate 17 = .ok (.lreturn, 1) := by decide +kernel
theorem dX6_addPlate_18 : decode cX6_addPlate 18 = .ok (.iconst 0, 1) := by decide +kernel
theorem dX6_addPlate_19 : decode cX6_addPlate 19 = .ok (.istore_n 2, 1) := by decide +kernel
theorem dX6_addPlate_20 : decode cX6_addPlate 20 = .ok (.iload_n 2, 1) := by decide +kernel
theorem dX6_addPlate_21 : decode cX6_addPlate 21 = .ok (.aload_n 0, 1) := by decide +kernel
theorem dX6_addPlate_22 : decode cX6_addPlate 22 = .ok (.getfield 243, 3) := by decide +kernel
theorem dX6_addPlate_25 : decode cX6_addPlate 25 = .ok (.if_icmp .ge 23, 3) := by decide +kernel
theorem dX6_addPlate_28 : decode cX6_addPlate 28 = .ok (.aload_n 0, 1) := by decide +kernel
theorem dX6_addPlate_29 : decode cX6_addPlate 29 = .ok (.getfield 26, 3) := by decide +kernel
theorem dX6_addPlate_32 : decode cX6_addPlate 32 = .ok (.iload_n 2, 1) := by decide +kernel
theorem dX6_addPlate_33 : decode cX6_addPlate 33 = .ok (.iaload, 1) := by decide +kernel
theorem dX6_addPlate_34 : decode cX6_addPlate 34 = .ok (.iload_n 1, 1) := by decide +kernel
theorem dX6_addPlate_35 : decode cX6_addPlate 35 = .ok (.if_icmp .ne 7, 3) := by decide +kernel
theorem dX6_addPlate_38 : decode cX6_addPlate 38 = .ok (.ldc2_w 98, 3) := by decide +kernel
theorem dX6_addPlate_41 : decode cX6_addPlate 41 = .ok (.lreturn, 1) := by decide +kernel
theorem dX6_addPlate_42 : decode cX6_addPlate 42 = .ok (.iinc 2 1, 3) := by decide +kernel
theorem dX6_addPlate_45 : decode cX6_addPlate 45 = .ok (.goto (-25), 3) := by decide +kernel
theorem dX6_addPlate_48 : decode cX6_addPlate 48 = .ok (.aload_n 0, 1) := by decide +kernel
theorem dX6_addPlate_49 : decode cX6_addPlate 49 = .ok (.getfield 243, 3) := by decide +kernel
theorem dX6_addPlate_52 : decode cX6_addPlate 52 = .ok (.bipush 16, 2) := by decide +kernel
theorem dX6_addPlate_54 : decode cX6_addPlate 54 = .ok (.if_icmp .ne 7, 3) := by decide +kernel
theorem dX6_addPlate_57 : decode cX6_addPlate 57 = .ok (.ldc2_w 58, 3) := by decide +kernel
theorem dX6_addPlate_60 : decode cX6_addPlate 60 = .ok (.lreturn, 1) := by decide +kernel
theorem dX6_addPlate_61 : decode cX6_addPlate 61 = .ok (.aload_n 0, 1) := by decide +kernel
theorem dX6_addPlate_62 : decode cX6_addPlate 62 = .ok (.getfield 26, 3) := by decide +kernel
theorem dX6_addPlate_65 : decode cX6_addPlate 65 = .ok (.aload_n 0, 1) := by decide +kernel
theorem dX6_addPlate_66 : decode cX6_addPlate 66 = .ok (.getfield 243, 3) := by decide +kernel
theorem dX6_addPlate_69 : decode cX6_addPlate 69 = .ok (.iload_n 1, 1) := by decide +kernel
theorem dX6_addPlate_70 : decode cX6_addPlate 70 = .ok (.iastore, 1) := by decide +kernel
theorem dX6_addPlate_71 : decode cX6_addPlate 71 = .ok (.aload_n 0, 1) := by decide +kernel
theorem dX6_addPlate_72 : decode cX6_addPlate 72 = .ok (.dup, 1) := by decide +kernel
theorem dX6_addPlate_73 : decode cX6_addPlate 73 = .ok (.getfield 243, 3) := by decide +kernel
theorem dX6_addPlate_76 : decode cX6_addPlate 76 = .ok (.iconst 1, 1) := by decide +kernel
theorem dX6_addPlate_77 : decode cX6_addPlate 77 = .ok (.iadd, 1) := by decide +kernel
theorem dX6_addPlate_78 : decode cX6_addPlate 78 = .ok (.putfield 243, 3) := by decide +kernel
theorem dX6_addPlate_81 : decode cX6_addPlate 81 = .ok (.aload_n 0, 1) := by decide +kernel
theorem dX6_addPlate_82 : decode cX6_addPlate 82 = .ok (.getfield 243, 3) := by decide +kernel
theorem dX6_addPlate_85 : decode cX6_addPlate 85 = .ok (.iconst 1, 1) := by decide +kernel
theorem dX6_addPlate_86 : decode cX6_addPlate 86 = .ok (.isub, 1) := by decide +kernel
theorem dX6_addPlate_87 : decode cX6_addPlate 87 = .ok (.i2l, 1) := by decide +kernel
theorem dX6_addPlate_88 : decode cX6_addPlate 88 = .ok (.lreturn, 1) := by decide +kernel
theorem dX6_plateCount_0 : decode cX6_plateCount 0 = .ok (.aload_n 0, 1) := by decide +kernel
theorem dX6_plateCount_1 : decode cX6_plateCount 1 = .ok (.getfield 243, 3) := by decide +kernel
theorem dX6_plateCount_4 : decode cX6_plateCount 4 = .ok (.i2l, 1) := by decide +kernel
theorem dX6_plateCount_5 : decode cX6_plateCount 5 = .ok (.lreturn, 1) := by decide +kernel
set_option maxRecDepth 20000 in
theorem ggX6_nearestPlate_X6_size : GoodIn wsX6_nearestPlate wsX6_size := goodIn_r _ [7] (by decide +kernel) (by decide +kernel)
set_option maxRecDepth 20000 in
theorem gX6_nearestPlate_X6_size : GoodIn wsX6_nearestPlate (va_wsS RX6 153 yX6_size wsX6_size) := goodIn_app (goodIn_of _ (by decide +kernel)) ggX6_nearestPlate_X6_size
theorem dX6_nearestPlate_0 : decode cX6_nearestPlate 0 = .ok (.iconst (-1), 1) := by decide +kernel
theorem dX6_nearestPlate_1 : decode cX6_nearestPlate 1 = .ok (.istore_n 2, 1) := by decide +kernel
theorem dX6_nearestPlate_2 : decode cX6_nearestPlate 2 = .ok (.iconst 0, 1) := by decide +kernel
theorem dX6_nearestPlate_3 : decode cX6_nearestPlate 3 = .ok (.istore_n 3, 1) := by decide +kernel
theorem dX6_nearestPlate_4 : decode cX6_nearestPlate 4 = .ok (.iload_n 3, 1) := by decide +kernel
theorem dX6_nearestPlate_5 : decode cX6_nearestPlate 5 = .ok (.aload_n 0, 1) := by decide +kernel
theorem dX6_nearestPlate_6 : decode cX6_nearestPlate 6 = .ok (.getfield 243, 3) := by decide +kernel
theorem dX6_nearestPlate_9 : decode cX6_nearestPlate 9 = .ok (.if_icmp .ge 100, 3) := by decide +kernel
theorem dX6_nearestPlate_12 : decode cX6_nearestPlate 12 = .ok (.aload_n 0, 1) := by decide +kernel
theorem dX6_nearestPlate_13 : decode cX6_nearestPlate 13 = .ok (.getfield 26, 3) := by decide +kernel
theorem dX6_nearestPlate_16 : decode cX6_nearestPlate 16 = .ok (.iload_n 3, 1) := by decide +kernel
theorem dX6_nearestPlate_17 : decode cX6_nearestPlate 17 = .ok (.iaload, 1) := by decide +kernel
theorem dX6_nearestPlate_18 : decode cX6_nearestPlate 18 = .ok (.i2l, 1) := by decide +kernel
theorem dX6_nearestPlate_19 : decode cX6_nearestPlate 19 = .ok (.iload_n 1, 1) := by decide +kernel
theorem dX6_nearestPlate_20 : decode cX6_nearestPlate 20 = .ok (.i2l, 1) := by decide +kernel
theorem dX6_nearestPlate_21 : decode cX6_nearestPlate 21 = .ok (.lsub, 1) := by decide +kernel
theorem dX6_nearestPlate_22 : decode cX6_nearestPlate 22 = .ok (.invokestatic 153, 3) := by decide +kernel
theorem dX6_nearestPlate_25 : decode cX6_nearestPlate 25 = .ok (.lstore 4, 2) := by decide +kernel
theorem dX6_nearestPlate_27 : decode cX6_nearestPlate 27 = .ok (.iload_n 2, 1) := by decide +kernel
theorem dX6_nearestPlate_28 : decode cX6_nearestPlate 28 = .ok (.ifCond .ge 7, 3) := by decide +kernel
theorem dX6_nearestPlate_31 : decode cX6_nearestPlate 31 = .ok (.lconst 0, 1) := by decide +kernel
theorem dX6_nearestPlate_32 : decode cX6_nearestPlate 32 = .ok (.goto 16, 3) := by decide +kernel
theorem dX6_nearestPlate_35 : decode cX6_nearestPlate 35 = .ok (.aload_n 0, 1) := by decide +kernel
theorem dX6_nearestPlate_36 : decode cX6_nearestPlate 36 = .ok (.getfield 26, 3) := by decide +kernel
theorem dX6_nearestPlate_39 : decode cX6_nearestPlate 39 = .ok (.iload_n 2, 1) := by decide +kernel
theorem dX6_nearestPlate_40 : decode cX6_nearestPlate 40 = .ok (.iaload, 1) := by decide +kernel
theorem dX6_nearestPlate_41 : decode cX6_nearestPlate 41 = .ok (.i2l, 1) := by decide +kernel
theorem dX6_nearestPlate_42 : decode cX6_nearestPlate 42 = .ok (.iload_n 1, 1) := by decide +kernel
theorem dX6_nearestPlate_43 : decode cX6_nearestPlate 43 = .ok (.i2l, 1) := by decide +kernel
theorem dX6_nearestPlate_44 : decode cX6_nearestPlate 44 = .ok (.lsub, 1) := by decide +kernel
theorem dX6_nearestPlate_45 : decode cX6_nearestPlate 45 = .ok (.invokestatic 153, 3) := by decide +kernel
theorem dX6_nearestPlate_48 : decode cX6_nearestPlate 48 = .ok (.lstore 6, 2) := by decide +kernel
theorem dX6_nearestPlate_50 : decode cX6_nearestPlate 50 = .ok (.iload_n 2, 1) := by decide +kernel
theorem dX6_nearestPlate_51 : decode cX6_nearestPlate 51 = .ok (.ifCond .lt 34, 3) := by decide +kernel
theorem dX6_nearestPlate_54 : decode cX6_nearestPlate 54 = .ok (.lload 4, 2) := by decide +kernel
theorem dX6_nearestPlate_56 : decode cX6_nearestPlate 56 = .ok (.lload 6, 2) := by decide +kernel
theorem dX6_nearestPlate_58 : decode cX6_nearestPlate 58 = .ok (.lcmp, 1) := by decide +kernel
theorem dX6_nearestPlate_59 : decode cX6_nearestPlate 59 = .ok (.ifCond .lt 26, 3) := by decide +kernel
theorem dX6_nearestPlate_62 : decode cX6_nearestPlate 62 = .ok (.lload 4, 2) := by decide +kernel
theorem dX6_nearestPlate_64 : decode cX6_nearestPlate 64 = .ok (.lload 6, 2) := by decide +kernel
theorem dX6_nearestPlate_66 : decode cX6_nearestPlate 66 = .ok (.lcmp, 1) := by decide +kernel
theorem dX6_nearestPlate_67 : decode cX6_nearestPlate 67 = .ok (.ifCond .ne 22, 3) := by decide +kernel
theorem dX6_nearestPlate_70 : decode cX6_nearestPlate 70 = .ok (.aload_n 0, 1) := by decide +kernel
theorem dX6_nearestPlate_71 : decode cX6_nearestPlate 71 = .ok (.getfield 26, 3) := by decide +kernel
theorem dX6_nearestPlate_74 : decode cX6_nearestPlate 74 = .ok (.iload_n 3, 1) := by decide +kernel
theorem dX6_nearestPlate_75 : decode cX6_nearestPlate 75 = .ok (.iaload, 1) := by decide +kernel
theorem dX6_nearestPlate_76 : decode cX6_nearestPlate 76 = .ok (.aload_n 0, 1) := by decide +kernel
theorem dX6_nearestPlate_77 : decode cX6_nearestPlate 77 = .ok (.getfield 26, 3) := by decide +kernel
theorem dX6_nearestPlate_80 : decode cX6_nearestPlate 80 = .ok (.iload_n 2, 1) := by decide +kernel
theorem dX6_nearestPlate_81 : decode cX6_nearestPlate 81 = .ok (.iaload, 1) := by decide +kernel
theorem dX6_nearestPlate_82 : decode cX6_nearestPlate 82 = .ok (.if_icmp .ge 7, 3) := by decide +kernel
theorem dX6_nearestPlate_85 : decode cX6_nearestPlate 85 = .ok (.iconst 1, 1) := by decide +kernel
theorem dX6_nearestPlate_86 : decode cX6_nearestPlate 86 = .ok (.goto 4, 3) := by decide +kernel
theorem dX6_nearestPlate_89 : decode cX6_nearestPlate 89 = .ok (.iconst 0, 1) := by decide +kernel
theorem dX6_nearestPlate_90 : decode cX6_nearestPlate 90 = .ok (.istore 8, 2) := by decide +kernel
theorem dX6_nearestPlate_92 : decode cX6_nearestPlate 92 = .ok (.iload 8, 2) := by decide +kernel
theorem dX6_nearestPlate_94 : decode cX6_nearestPlate 94 = .ok (.ifCond .eq 7, 3) := by decide +kernel
end
section
theorem dX6_nearestPlate_97 : decode cX6_nearestPlate 97 = .ok (.iload_n 3, 1) := by decide +kernel
theorem dX6_nearestPlate_98 : decode cX6_nearestPlate 98 = .ok (.goto 4, 3) := by decide +kernel
theorem dX6_nearestPlate_101 : decode cX6_nearestPlate 101 = .ok (.iload_n 2, 1) := by decide +kernel
theorem dX6_nearestPlate_102 : decode cX6_nearestPlate 102 = .ok (.istore_n 2, 1) := by decide +kernel
theorem dX6_nearestPlate_103 : decode cX6_nearestPlate 103 = .ok (.iinc 3 1, 3) := by decide +kernel
theorem dX6_nearestPlate_106 : decode cX6_nearestPlate 106 = .ok (.goto (-102), 3) := by decide +kernel
theorem dX6_nearestPlate_109 : decode cX6_nearestPlate 109 = .ok (.iload_n 2, 1) := by decide +kernel
theorem dX6_nearestPlate_110 : decode cX6_nearestPlate 110 = .ok (.ifCond .ge 9, 3) := by decide +kernel
theorem dX6_nearestPlate_113 : decode cX6_nearestPlate 113 = .ok (.ldc2_w 134, 3) := by decide +kernel
theorem dX6_nearestPlate_116 : decode cX6_nearestPlate 116 = .ok (.goto 5, 3) := by decide +kernel
theorem dX6_nearestPlate_119 : decode cX6_nearestPlate 119 = .ok (.iload_n 2, 1) := by decide +kernel
theorem dX6_nearestPlate_120 : decode cX6_nearestPlate 120 = .ok (.i2l, 1) := by decide +kernel
theorem dX6_nearestPlate_121 : decode cX6_nearestPlate 121 = .ok (.lreturn, 1) := by decide +kernel
theorem dX6_signed_0 : decode cX6_signed 0 = .ok (.iload_n 2, 1) := by decide +kernel
theorem dX6_signed_1 : decode cX6_signed 1 = .ok (.iconst 1, 1) := by decide +kernel
theorem dX6_signed_2 : decode cX6_signed 2 = .ok (.if_icmp .ne 14, 3) := by decide +kernel
theorem dX6_signed_5 : decode cX6_signed 5 = .ok (.aload_n 0, 1) := by decide +kernel
theorem dX6_signed_6 : decode cX6_signed 6 = .ok (.getfield 26, 3) := by decide +kernel
theorem dX6_signed_9 : decode cX6_signed 9 = .ok (.iload_n 1, 1) := by decide +kernel
theorem dX6_signed_10 : decode cX6_signed 10 = .ok (.iaload, 1) := by decide +kernel
theorem dX6_signed_11 : decode cX6_signed 11 = .ok (.ineg, 1) := by decide +kernel
theorem dX6_signed_12 : decode cX6_signed 12 = .ok (.i2l, 1) := by decide +kernel
theorem dX6_signed_13 : decode cX6_signed 13 = .ok (.goto 10, 3) := by decide +kernel
theorem dX6_signed_16 : decode cX6_signed 16 = .ok (.aload_n 0, 1) := by decide +kernel
theorem dX6_signed_17 : decode cX6_signed 17 = .ok (.getfield 26, 3) := by decide +kernel
theorem dX6_signed_20 : decode cX6_signed 20 = .ok (.iload_n 1, 1) := by decide +kernel
theorem dX6_signed_21 : decode cX6_signed 21 = .ok (.iaload, 1) := by decide +kernel
theorem dX6_signed_22 : decode cX6_signed 22 = .ok (.i2l, 1) := by decide +kernel
theorem dX6_signed_23 : decode cX6_signed 23 = .ok (.lreturn, 1) := by decide +kernel
set_option maxRecDepth 20000 in
theorem ggX6_surfaces_X6_a : GoodIn wsX6_surfaces wsX6_a := goodIn_r _ [6, 7, 8, 12, 13, 14, 15, 16, 17, 18, 19, 20, 21, 22, 23, 24, 25, 26, 27, 28, 29] (by decide +kernel) (by decide +kernel)
set_option maxRecDepth 20000 in
theorem gX6_surfaces_X6_a : GoodIn wsX6_surfaces (wsV RX6 117 RX6 yX6_a wsX6_a) := goodIn_app (goodIn_of _ (by decide +kernel)) ggX6_surfaces_X6_a
set_option maxRecDepth 20000 in
theorem ggX6_surfaces_X6_floor : GoodIn wsX6_surfaces wsX6_floor := goodIn_r _ [11] (by decide +kernel) (by decide +kernel)
set_option maxRecDepth 20000 in
theorem gX6_surfaces_X6_floor : GoodIn wsX6_surfaces (va_wsS RX6 144 yX6_floor wsX6_floor) := goodIn_app (goodIn_of _ (by decide +kernel)) ggX6_surfaces_X6_floor
theorem dX6_surfaces_0 : decode cX6_surfaces 0 = .ok (.aload_n 0, 1) := by decide +kernel
theorem dX6_surfaces_1 : decode cX6_surfaces 1 = .ok (.iload_n 1, 1) := by decide +kernel
theorem dX6_surfaces_2 : decode cX6_surfaces 2 = .ok (.invokevirtual 117, 3) := by decide +kernel
theorem dX6_surfaces_5 : decode cX6_surfaces 5 = .ok (.ldc2_w 213, 3) := by decide +kernel
theorem dX6_surfaces_8 : decode cX6_surfaces 8 = .ok (.lmul, 1) := by decide +kernel
theorem dX6_surfaces_9 : decode cX6_surfaces 9 = .ok (.lload 4, 2) := by decide +kernel
theorem dX6_surfaces_11 : decode cX6_surfaces 11 = .ok (.lload_n 2, 1) := by decide +kernel
theorem dX6_surfaces_12 : decode cX6_surfaces 12 = .ok (.lsub, 1) := by decide +kernel
theorem dX6_surfaces_13 : decode cX6_surfaces 13 = .ok (.lmul, 1) := by decide +kernel
theorem dX6_surfaces_14 : decode cX6_surfaces 14 = .ok (.lload_n 2, 1) := by decide +kernel
theorem dX6_surfaces_15 : decode cX6_surfaces 15 = .ok (.lload 4, 2) := by decide +kernel
theorem dX6_surfaces_17 : decode cX6_surfaces 17 = .ok (.lmul, 1) := by decide +kernel
theorem dX6_surfaces_18 : decode cX6_surfaces 18 = .ok (.invokestatic 144, 3) := by decide +kernel
theorem dX6_surfaces_21 : decode cX6_surfaces 21 = .ok (.lreturn, 1) := by decide +kernel
set_option maxRecDepth 20000 in
theorem ggX6_surfacesBest_X6_signed : GoodIn wsX6_surfacesBest wsX6_signed := goodIn_r _ [12, 13, 31, 32, 33, 34, 35, 36, 37, 38, 39, 40, 41, 42, 43, 44, 45, 46, 47, 48] (by decide +kernel) (by decide +kernel)
set_option maxRecDepth 20000 in
theorem gX6_surfacesBest_X6_signed : GoodIn wsX6_surfacesBest (wsV RX6 246 RX6 yX6_signed wsX6_signed) := goodIn_app (goodIn_of _ (by decide +kernel)) ggX6_surfacesBest_X6_signed
set_option maxRecDepth 20000 in
theorem ggX6_surfacesBest_X6_surfaces : GoodIn wsX6_surfacesBest wsX6_surfaces := goodIn_r _ [17, 18, 19, 20, 21, 11, 22, 23, 24, 25, 26, 27, 31, 32, 33, 34, 35, 36, 37, 38, 39, 40, 41, 42, 43, 44, 45, 46, 47, 48] (by decide +kernel) (by decide +kernel)
set_option maxRecDepth 20000 in
theorem gX6_surfacesBest_X6_surfaces : GoodIn wsX6_surfacesBest (wsV RX6 249 RX6 yX6_surfaces wsX6_surfaces) := goodIn_app (goodIn_of _ (by decide +kernel)) ggX6_surfacesBest_X6_surfaces
set_option maxRecDepth 20000 in
theorem ggX6_surfacesBest_X6_size : GoodIn wsX6_surfacesBest wsX6_size := goodIn_r _ [30] (by decide +kernel) (by decide +kernel)
set_option maxRecDepth 20000 in
theorem gX6_surfacesBest_X6_size : GoodIn wsX6_surfacesBest (va_wsS RX6 153 yX6_size wsX6_size) := goodIn_app (goodIn_of _ (by decide +kernel)) ggX6_surfacesBest_X6_size
theorem dX6_surfacesBest_0 : decode cX6_surfacesBest 0 = .ok (.ldc2_w 134, 3) := by decide +kernel
theorem dX6_surfacesBest_3 : decode cX6_surfacesBest 3 = .ok (.lstore_n 2, 1) := by decide +kernel
theorem dX6_surfacesBest_4 : decode cX6_surfacesBest 4 = .ok (.lconst 0, 1) := by decide +kernel
theorem dX6_surfacesBest_5 : decode cX6_surfacesBest 5 = .ok (.lstore 4, 2) := by decide +kernel
theorem dX6_surfacesBest_7 : decode cX6_surfacesBest 7 = .ok (.iconst 0, 1) := by decide +kernel
theorem dX6_surfacesBest_8 : decode cX6_surfacesBest 8 = .ok (.istore 6, 2) := by decide +kernel
theorem dX6_surfacesBest_10 : decode cX6_surfacesBest 10 = .ok (.iload 6, 2) := by decide +kernel
theorem dX6_surfacesBest_12 : decode cX6_surfacesBest 12 = .ok (.iconst 2, 1) := by decide +kernel
theorem dX6_surfacesBest_13 : decode cX6_surfacesBest 13 = .ok (.aload_n 0, 1) := by decide +kernel
theorem dX6_surfacesBest_14 : decode cX6_surfacesBest 14 = .ok (.getfield 243, 3) := by decide +kernel
theorem dX6_surfacesBest_17 : decode cX6_surfacesBest 17 = .ok (.imul, 1) := by decide +kernel
theorem dX6_surfacesBest_18 : decode cX6_surfacesBest 18 = .ok (.if_icmp .ge 185, 3) := by decide +kernel
theorem dX6_surfacesBest_21 : decode cX6_surfacesBest 21 = .ok (.iconst 0, 1) := by decide +kernel
theorem dX6_surfacesBest_22 : decode cX6_surfacesBest 22 = .ok (.istore 7, 2) := by decide +kernel
theorem dX6_surfacesBest_24 : decode cX6_surfacesBest 24 = .ok (.iload 7, 2) := by decide +kernel
theorem dX6_surfacesBest_26 : decode cX6_surfacesBest 26 = .ok (.iconst 2, 1) := by decide +kernel
theorem dX6_surfacesBest_27 : decode cX6_surfacesBest 27 = .ok (.aload_n 0, 1) := by decide +kernel
theorem dX6_surfacesBest_28 : decode cX6_surfacesBest 28 = .ok (.getfield 243, 3) := by decide +kernel
theorem dX6_surfacesBest_31 : decode cX6_surfacesBest 31 = .ok (.imul, 1) := by decide +kernel
theorem dX6_surfacesBest_32 : decode cX6_surfacesBest 32 = .ok (.if_icmp .ge 165, 3) := by decide +kernel
theorem dX6_surfacesBest_35 : decode cX6_surfacesBest 35 = .ok (.aload_n 0, 1) := by decide +kernel
theorem dX6_surfacesBest_36 : decode cX6_surfacesBest 36 = .ok (.iload 6, 2) := by decide +kernel
theorem dX6_surfacesBest_38 : decode cX6_surfacesBest 38 = .ok (.iconst 2, 1) := by decide +kernel
theorem dX6_surfacesBest_39 : decode cX6_surfacesBest 39 = .ok (.idiv, 1) := by decide +kernel
theorem dX6_surfacesBest_40 : decode cX6_surfacesBest 40 = .ok (.iload 6, 2) := by decide +kernel
theorem dX6_surfacesBest_42 : decode cX6_surfacesBest 42 = .ok (.iconst 2, 1) := by decide +kernel
theorem dX6_surfacesBest_43 : decode cX6_surfacesBest 43 = .ok (.irem, 1) := by decide +kernel
theorem dX6_surfacesBest_44 : decode cX6_surfacesBest 44 = .ok (.invokevirtual 246, 3) := by decide +kernel
theorem dX6_surfacesBest_47 : decode cX6_surfacesBest 47 = .ok (.lstore 8, 2) := by decide +kernel
theorem dX6_surfacesBest_49 : decode cX6_surfacesBest 49 = .ok (.aload_n 0, 1) := by decide +kernel
theorem dX6_surfacesBest_50 : decode cX6_surfacesBest 50 = .ok (.iload 7, 2) := by decide +kernel
theorem dX6_surfacesBest_52 : decode cX6_surfacesBest 52 = .ok (.iconst 2, 1) := by decide +kernel
theorem dX6_surfacesBest_53 : decode cX6_surfacesBest 53 = .ok (.idiv, 1) := by decide +kernel
theorem dX6_surfacesBest_54 : decode cX6_surfacesBest 54 = .ok (.iload 7, 2) := by decide +kernel
theorem dX6_surfacesBest_56 : decode cX6_surfacesBest 56 = .ok (.iconst 2, 1) := by decide +kernel
theorem dX6_surfacesBest_57 : decode cX6_surfacesBest 57 = .ok (.irem, 1) := by decide +kernel
theorem dX6_surfacesBest_58 : decode cX6_surfacesBest 58 = .ok (.invokevirtual 246, 3) := by decide +kernel
theorem dX6_surfacesBest_61 : decode cX6_surfacesBest 61 = .ok (.lstore 10, 2) := by decide +kernel
theorem dX6_surfacesBest_63 : decode cX6_surfacesBest 63 = .ok (.lload 8, 2) := by decide +kernel
theorem dX6_surfacesBest_65 : decode cX6_surfacesBest 65 = .ok (.lload 10, 2) := by decide +kernel
theorem dX6_surfacesBest_67 : decode cX6_surfacesBest 67 = .ok (.lcmp, 1) := by decide +kernel
theorem dX6_surfacesBest_68 : decode cX6_surfacesBest 68 = .ok (.ifCond .ne 9, 3) := by decide +kernel
theorem dX6_surfacesBest_71 : decode cX6_surfacesBest 71 = .ok (.ldc2_w 203, 3) := by decide +kernel
theorem dX6_surfacesBest_74 : decode cX6_surfacesBest 74 = .ok (.goto 28, 3) := by decide +kernel
theorem dX6_surfacesBest_77 : decode cX6_surfacesBest 77 = .ok (.aload_n 0, 1) := by decide +kernel
theorem dX6_surfacesBest_78 : decode cX6_surfacesBest 78 = .ok (.aload_n 0, 1) := by decide +kernel
theorem dX6_surfacesBest_79 : decode cX6_surfacesBest 79 = .ok (.getfield 20, 3) := by decide +kernel
theorem dX6_surfacesBest_82 : decode cX6_surfacesBest 82 = .ok (.iload_n 1, 1) := by decide +kernel
theorem dX6_surfacesBest_83 : decode cX6_surfacesBest 83 = .ok (.iaload, 1) := by decide +kernel
theorem dX6_surfacesBest_84 : decode cX6_surfacesBest 84 = .ok (.lload 8, 2) := by decide +kernel
theorem dX6_surfacesBest_86 : decode cX6_surfacesBest 86 = .ok (.lload 10, 2) := by decide +kernel
theorem dX6_surfacesBest_88 : decode cX6_surfacesBest 88 = .ok (.invokevirtual 249, 3) := by decide +kernel
theorem dX6_surfacesBest_91 : decode cX6_surfacesBest 91 = .ok (.aload_n 0, 1) := by decide +kernel
theorem dX6_surfacesBest_92 : decode cX6_surfacesBest 92 = .ok (.getfield 23, 3) := by decide +kernel
theorem dX6_surfacesBest_95 : decode cX6_surfacesBest 95 = .ok (.iload_n 1, 1) := by decide +kernel
theorem dX6_surfacesBest_96 : decode cX6_surfacesBest 96 = .ok (.iaload, 1) := by decide +kernel
theorem dX6_surfacesBest_97 : decode cX6_surfacesBest 97 = .ok (.i2l, 1) := by decide +kernel
theorem dX6_surfacesBest_98 : decode cX6_surfacesBest 98 = .ok (.lsub, 1) := by decide +kernel
theorem dX6_surfacesBest_99 : decode cX6_surfacesBest 99 = .ok (.invokestatic 153, 3) := by decide +kernel
theorem dX6_surfacesBest_102 : decode cX6_surfacesBest 102 = .ok (.lstore 12, 2) := by decide +kernel
theorem dX6_surfacesBest_104 : decode cX6_surfacesBest 104 = .ok (.lload 12, 2) := by decide +kernel
theorem dX6_surfacesBest_106 : decode cX6_surfacesBest 106 = .ok (.lconst 0, 1) := by decide +kernel
theorem dX6_surfacesBest_107 : decode cX6_surfacesBest 107 = .ok (.lcmp, 1) := by decide +kernel
theorem dX6_surfacesBest_108 : decode cX6_surfacesBest 108 = .ok (.ifCond .lt 23, 3) := by decide +kernel
theorem dX6_surfacesBest_111 : decode cX6_surfacesBest 111 = .ok (.lload_n 2, 1) := by decide +kernel
theorem dX6_surfacesBest_112 : decode cX6_surfacesBest 112 = .ok (.ldc2_w 134, 3) := by decide +kernel
theorem dX6_surfacesBest_115 : decode cX6_surfacesBest 115 = .ok (.lcmp, 1) := by decide +kernel
theorem dX6_surfacesBest_116 : decode cX6_surfacesBest 116 = .ok (.ifCond .eq 11, 3) := by decide +kernel
theorem dX6_surfacesBest_119 : decode cX6_surfacesBest 119 = .ok (.lload 12, 2) := by decide +kernel
theorem dX6_surfacesBest_121 : decode cX6_surfacesBest 121 = .ok (.lload 4, 2) := by decide +kernel
theorem dX6_surfacesBest_123 : decode cX6_surfacesBest 123 = .ok (.lcmp, 1) := by decide +kernel
theorem dX6_surfacesBest_124 : decode cX6_surfacesBest 124 = .ok (.ifCond .ge 7, 3) := by decide +kernel
theorem dX6_surfacesBest_127 : decode cX6_surfacesBest 127 = .ok (.iconst 1, 1) := by decide +kernel
theorem dX6_surfacesBest_128 : decode cX6_surfacesBest 128 = .ok (.goto 4, 3) := by decide +kernel
theorem dX6_surfacesBest_131 : decode cX6_surfacesBest 131 = .ok (.iconst 0, 1) := by decide +kernel
theorem dX6_surfacesBest_132 : decode cX6_surfacesBest 132 = .ok (.istore 14, 2) := by decide +kernel
theorem dX6_surfacesBest_134 : decode cX6_surfacesBest 134 = .ok (.iload 14, 2) := by decide +kernel
theorem dX6_surfacesBest_136 : decode cX6_surfacesBest 136 = .ok (.ifCond .eq 39, 3) := by decide +kernel
theorem dX6_surfacesBest_139 : decode cX6_surfacesBest 139 = .ok (.ldc2_w 115, 3) := by decide +kernel
theorem dX6_surfacesBest_142 : decode cX6_surfacesBest 142 = .ok (.iload 6, 2) := by decide +kernel
theorem dX6_surfacesBest_144 : decode cX6_surfacesBest 144 = .ok (.iconst 2, 1) := by decide +kernel
theorem dX6_surfacesBest_145 : decode cX6_surfacesBest 145 = .ok (.idiv, 1) := by decide +kernel
theorem dX6_surfacesBest_146 : decode cX6_surfacesBest 146 = .ok (.i2l, 1) := by decide +kernel
theorem dX6_surfacesBest_147 : decode cX6_surfacesBest 147 = .ok (.lmul, 1) := by decide +kernel
theorem dX6_surfacesBest_148 : decode cX6_surfacesBest 148 = .ok (.ldc2_w 253, 3) := by decide +kernel
theorem dX6_surfacesBest_151 : decode cX6_surfacesBest 151 = .ok (.iload 7, 2) := by decide +kernel
theorem dX6_surfacesBest_153 : decode cX6_surfacesBest 153 = .ok (.iconst 2, 1) := by decide +kernel
theorem dX6_surfacesBest_154 : decode cX6_surfacesBest 154 = .ok (.idiv, 1) := by decide +kernel
theorem dX6_surfacesBest_155 : decode cX6_surfacesBest 155 = .ok (.i2l, 1) := by decide +kernel
theorem dX6_surfacesBest_156 : decode cX6_surfacesBest 156 = .ok (.lmul, 1) := by decide +kernel
theorem dX6_surfacesBest_157 : decode cX6_surfacesBest 157 = .ok (.ladd, 1) := by decide +kernel
theorem dX6_surfacesBest_158 : decode cX6_surfacesBest 158 = .ok (.iconst 2, 1) := by decide +kernel
theorem dX6_surfacesBest_159 : decode cX6_surfacesBest 159 = .ok (.iload 6, 2) := by decide +kernel
theorem dX6_surfacesBest_161 : decode cX6_surfacesBest 161 = .ok (.iconst 2, 1) := by decide +kernel
theorem dX6_surfacesBest_162 : decode cX6_surfacesBest 162 = .ok (.irem, 1) := by decide +kernel
theorem dX6_surfacesBest_163 : decode cX6_surfacesBest 163 = .ok (.imul, 1) := by decide +kernel
theorem dX6_surfacesBest_164 : decode cX6_surfacesBest 164 = .ok (.i2l, 1) := by decide +kernel
theorem dX6_surfacesBest_165 : decode cX6_surfacesBest 165 = .ok (.ladd, 1) := by decide +kernel
theorem dX6_surfacesBest_166 : decode cX6_surfacesBest 166 = .ok (.iload 7, 2) := by decide +kernel
theorem dX6_surfacesBest_168 : decode cX6_surfacesBest 168 = .ok (.iconst 2, 1) := by decide +kernel
theorem dX6_surfacesBest_169 : decode cX6_surfacesBest 169 = .ok (.irem, 1) := by decide +kernel
theorem dX6_surfacesBest_170 : decode cX6_surfacesBest 170 = .ok (.i2l, 1) := by decide +kernel
theorem dX6_surfacesBest_171 : decode cX6_surfacesBest 171 = .ok (.ladd, 1) := by decide +kernel
theorem dX6_surfacesBest_172 : decode cX6_surfacesBest 172 = .ok (.goto 4, 3) := by decide +kernel
theorem dX6_surfacesBest_175 : decode cX6_surfacesBest 175 = .ok (.lload_n 2, 1) := by decide +kernel
theorem dX6_surfacesBest_176 : decode cX6_surfacesBest 176 = .ok (.lstore_n 2, 1) := by decide +kernel
theorem dX6_surfacesBest_177 : decode cX6_surfacesBest 177 = .ok (.iload 14, 2) := by decide +kernel
theorem dX6_surfacesBest_179 : decode cX6_surfacesBest 179 = .ok (.ifCond .eq 8, 3) := by decide +kernel
theorem dX6_surfacesBest_182 : decode cX6_surfacesBest 182 = .ok (.lload 12, 2) := by decide +kernel
theorem dX6_surfacesBest_184 : decode cX6_surfacesBest 184 = .ok (.goto 5, 3) := by decide +kernel
theorem dX6_surfacesBest_187 : decode cX6_surfacesBest 187 = .ok (.lload 4, 2) := by decide +kernel
theorem dX6_surfacesBest_189 : decode cX6_surfacesBest 189 = .ok (.lstore 4, 2) := by decide +kernel
theorem dX6_surfacesBest_191 : decode cX6_surfacesBest 191 = .ok (.iinc 7 1, 3) := by decide +kernel
theorem dX6_surfacesBest_194 : decode cX6_surfacesBest 194 = .ok (.goto (-170), 3) := by decide +kernel
theorem dX6_surfacesBest_197 : decode cX6_surfacesBest 197 = .ok (.iinc 6 1, 3) := by decide +kernel
theorem dX6_surfacesBest_200 : decode cX6_surfacesBest 200 = .ok (.goto (-190), 3) := by decide +kernel
theorem dX6_surfacesBest_203 : decode cX6_surfacesBest 203 = .ok (.lload_n 2, 1) := by decide +kernel
theorem dX6_surfacesBest_204 : decode cX6_surfacesBest 204 = .ok (.lreturn, 1) := by decide +kernel
set_option maxRecDepth 20000 in
theorem ggX6_bestSurfaces_X6_isLens : GoodIn wsX6_bestSurfaces wsX6_isLens := goodIn_r _ [6, 7, 8, 9, 5, 10, 44, 45, 46, 47, 48, 49, 50, 51, 52, 53, 54, 55, 56, 57, 58, 59, 60, 61] (by decide +kernel) (by decide +kernel)
set_option maxRecDepth 20000 in
theorem gX6_bestSurfaces_X6_isLens : GoodIn wsX6_bestSurfaces (wsV RX6 215 RX6 yX6_isLens wsX6_isLens) := goodIn_app (goodIn_of _ (by decide +kernel)) ggX6_bestSurfaces_X6_isLens
set_option maxRecDepth 20000 in
theorem ggX6_bestSurfaces_X6_surfacesBest : GoodIn wsX6_bestSurfaces wsX6_surfacesBest := goodIn_r _ [14, 15, 16, 17, 18, 19, 20, 21, 22, 23, 24, 5, 25, 26, 27, 28, 29, 30, 31, 32, 33, 34, 35, 36, 37, 38, 39, 40, 41, 42, 43, 44, 45, 46, 47, 48, 49, 50, 51, 52, 53, 54, 55, 56, 57, 58, 59, 60, 61] (by decide +kernel) (by decide +kernel)
set_option maxRecDepth 20000 in
theorem gX6_bestSurfaces_X6_surfacesBest : GoodIn wsX6_bestSurfaces (wsV RX6 255 RX6 yX6_surfacesBest wsX6_surfacesBest) := goodIn_app (goodIn_of _ (by decide +kernel)) ggX6_bestSurfaces_X6_surfacesBest
theorem dX6_bestSurfaces_0 : decode cX6_bestSurfaces 0 = .ok (.aload_n 0, 1) := by decide +kernel
theorem dX6_bestSurfaces_1 : decode cX6_bestSurfaces 1 = .ok (.iload_n 1, 1) := by decide +kernel
theorem dX6_bestSurfaces_2 : decode cX6_bestSurfaces 2 = .ok (.invokevirtual 215, 3) := by decide +kernel
theorem dX6_bestSurfaces_5 : decode cX6_bestSurfaces 5 = .ok (.ifCond .eq 11, 3) := by decide +kernel
theorem dX6_bestSurfaces_8 : decode cX6_bestSurfaces 8 = .ok (.aload_n 0, 1) := by decide +kernel
theorem dX6_bestSurfaces_9 : decode cX6_bestSurfaces 9 = .ok (.iload_n 1, 1) := by decide +kernel
theorem dX6_bestSurfaces_10 : decode cX6_bestSurfaces 10 = .ok (.invokevirtual 255, 3) := by decide +kernel
theorem dX6_bestSurfaces_13 : decode cX6_bestSurfaces 13 = .ok (.goto 6, 3) := by decide +kernel
theorem dX6_bestSurfaces_16 : decode cX6_bestSurfaces 16 = .ok (.ldc2_w 218, 3) := by decide +kernel
theorem dX6_bestSurfaces_19 : decode cX6_bestSurfaces 19 = .ok (.lreturn, 1) := by decide +kernel
set_option maxRecDepth 20000 in
theorem ggX6_surfacePower_X6_isGlass : GoodIn wsX6_surfacePower wsX6_isGlass := goodIn_r _ [8, 9, 10, 11, 7, 12, 32, 33, 34, 35, 36, 37, 38, 39, 40, 41, 42, 43, 44, 45, 46, 47, 48, 49] (by decide +kernel) (by decide +kernel)
set_option maxRecDepth 20000 in
theorem gX6_surfacePower_X6_isGlass : GoodIn wsX6_surfacePower (wsV RX6 100 RX6 yX6_isGlass wsX6_isGlass) := goodIn_app (goodIn_of _ (by decide +kernel)) ggX6_surfacePower_X6_isGlass
set_option maxRecDepth 20000 in
theorem ggX6_surfacePower_X6_signed : GoodIn wsX6_surfacePower wsX6_signed := goodIn_r _ [16, 17, 32, 33, 34, 35, 36, 37, 38, 39, 40, 41, 42, 43, 44, 45, 46, 47, 48, 49] (by decide +kernel) (by decide +kernel)
set_option maxRecDepth 20000 in
theorem gX6_surfacePower_X6_signed : GoodIn wsX6_surfacePower (wsV RX6 246 RX6 yX6_signed wsX6_signed) := goodIn_app (goodIn_of _ (by decide +kernel)) ggX6_surfacePower_X6_signed
set_option maxRecDepth 20000 in
theorem ggX6_surfacePower_X6_surfaces : GoodIn wsX6_surfacePower wsX6_surfaces := goodIn_r _ [21, 22, 23, 24, 25, 7, 26, 27, 28, 29, 30, 31, 32, 33, 34, 35, 36, 37, 38, 39, 40, 41, 42, 43, 44, 45, 46, 47, 48, 49] (by decide +kernel) (by decide +kernel)
set_option maxRecDepth 20000 in
theorem gX6_surfacePower_X6_surfaces : GoodIn wsX6_surfacePower (wsV RX6 249 RX6 yX6_surfaces wsX6_surfaces) := goodIn_app (goodIn_of _ (by decide +kernel)) ggX6_surfacePower_X6_surfaces
theorem dX6_surfacePower_0 : decode cX6_surfacePower 0 = .ok (.aload_n 0, 1) := by decide +kernel
theorem dX6_surfacePower_1 : decode cX6_surfacePower 1 = .ok (.iload_n 1, 1) := by decide +kernel
theorem dX6_surfacePower_2 : decode cX6_surfacePower 2 = .ok (.invokevirtual 100, 3) := by decide +kernel
theorem dX6_surfacePower_5 : decode cX6_surfacePower 5 = .ok (.ifCond .ne 7, 3) := by decide +kernel
theorem dX6_surfacePower_8 : decode cX6_surfacePower 8 = .ok (.ldc2_w 104, 3) := by decide +kernel
theorem dX6_surfacePower_11 : decode cX6_surfacePower 11 = .ok (.lreturn, 1) := by decide +kernel
theorem dX6_surfacePower_12 : decode cX6_surfacePower 12 = .ok (.iload_n 2, 1) := by decide +kernel
theorem dX6_surfacePower_13 : decode cX6_surfacePower 13 = .ok (.sipush 1000, 3) := by decide +kernel
theorem dX6_surfacePower_16 : decode cX6_surfacePower 16 = .ok (.idiv, 1) := by decide +kernel
theorem dX6_surfacePower_17 : decode cX6_surfacePower 17 = .ok (.istore_n 3, 1) := by decide +kernel
theorem dX6_surfacePower_18 : decode cX6_surfacePower 18 = .ok (.iload_n 2, 1) := by decide +kernel
theorem dX6_surfacePower_19 : decode cX6_surfacePower 19 = .ok (.bipush 10, 2) := by decide +kernel
theorem dX6_surfacePower_21 : decode cX6_surfacePower 21 = .ok (.idiv, 1) := by decide +kernel
theorem dX6_surfacePower_22 : decode cX6_surfacePower 22 = .ok (.bipush 100, 2) := by decide +kernel
theorem dX6_surfacePower_24 : decode cX6_surfacePower 24 = .ok (.irem, 1) := by decide +kernel
theorem dX6_surfacePower_25 : decode cX6_surfacePower 25 = .ok (.istore 4, 2) := by decide +kernel
theorem dX6_surfacePower_27 : decode cX6_surfacePower 27 = .ok (.iload_n 2, 1) := by decide +kernel
theorem dX6_surfacePower_28 : decode cX6_surfacePower 28 = .ok (.ifCond .lt 28, 3) := by decide +kernel
theorem dX6_surfacePower_31 : decode cX6_surfacePower 31 = .ok (.iload_n 2, 1) := by decide +kernel
theorem dX6_surfacePower_32 : decode cX6_surfacePower 32 = .ok (.bipush 10, 2) := by decide +kernel
theorem dX6_surfacePower_34 : decode cX6_surfacePower 34 = .ok (.irem, 1) := by decide +kernel
theorem dX6_surfacePower_35 : decode cX6_surfacePower 35 = .ok (.iconst 3, 1) := by decide +kernel
theorem dX6_surfacePower_36 : decode cX6_surfacePower 36 = .ok (.if_icmp .gt 20, 3) := by decide +kernel
theorem dX6_surfacePower_39 : decode cX6_surfacePower 39 = .ok (.iload_n 3, 1) := by decide +kernel
theorem dX6_surfacePower_40 : decode cX6_surfacePower 40 = .ok (.aload_n 0, 1) := by decide +kernel
theorem dX6_surfacePower_41 : decode cX6_surfacePower 41 = .ok (.getfield 243, 3) := by decide +kernel
theorem dX6_surfacePower_44 : decode cX6_surfacePower 44 = .ok (.if_icmp .ge 12, 3) := by decide +kernel
theorem dX6_surfacePower_47 : decode cX6_surfacePower 47 = .ok (.iload 4, 2) := by decide +kernel
theorem dX6_surfacePower_49 : decode cX6_surfacePower 49 = .ok (.aload_n 0, 1) := by decide +kernel
theorem dX6_surfacePower_50 : decode cX6_surfacePower 50 = .ok (.getfield 243, 3) := by decide +kernel
theorem dX6_surfacePower_53 : decode cX6_surfacePower 53 = .ok (.if_icmp .lt 7, 3) := by decide +kernel
theorem dX6_surfacePower_56 : decode cX6_surfacePower 56 = .ok (.ldc2_w 53, 3) := by decide +kernel
theorem dX6_surfacePower_59 : decode cX6_surfacePower 59 = .ok (.lreturn, 1) := by decide +kernel
theorem dX6_surfacePower_60 : decode cX6_surfacePower 60 = .ok (.aload_n 0, 1) := by decide +kernel
theorem dX6_surfacePower_61 : decode cX6_surfacePower 61 = .ok (.iload_n 3, 1) := by decide +kernel
theorem dX6_surfacePower_62 : decode cX6_surfacePower 62 = .ok (.iload_n 2, 1) := by decide +kernel
theorem dX6_surfacePower_63 : decode cX6_surfacePower 63 = .ok (.bipush 10, 2) := by decide +kernel
theorem dX6_surfacePower_65 : decode cX6_surfacePower 65 = .ok (.irem, 1) := by decide +kernel
theorem dX6_surfacePower_66 : decode cX6_surfacePower 66 = .ok (.iconst 2, 1) := by decide +kernel
theorem dX6_surfacePower_67 : decode cX6_surfacePower 67 = .ok (.idiv, 1) := by decide +kernel
theorem dX6_surfacePower_68 : decode cX6_surfacePower 68 = .ok (.invokevirtual 246, 3) := by decide +kernel
theorem dX6_surfacePower_71 : decode cX6_surfacePower 71 = .ok (.lstore 5, 2) := by decide +kernel
theorem dX6_surfacePower_73 : decode cX6_surfacePower 73 = .ok (.aload_n 0, 1) := by decide +kernel
theorem dX6_surfacePower_74 : decode cX6_surfacePower 74 = .ok (.iload 4, 2) := by decide +kernel
theorem dX6_surfacePower_76 : decode cX6_surfacePower 76 = .ok (.iload_n 2, 1) := by decide +kernel
theorem dX6_surfacePower_77 : decode cX6_surfacePower 77 = .ok (.iconst 2, 1) := by decide +kernel
theorem dX6_surfacePower_78 : decode cX6_surfacePower 78 = .ok (.irem, 1) := by decide +kernel
theorem dX6_surfacePower_79 : decode cX6_surfacePower 79 = .ok (.invokevirtual 246, 3) := by decide +kernel
theorem dX6_surfacePower_82 : decode cX6_surfacePower 82 = .ok (.lstore 7, 2) := by decide +kernel
theorem dX6_surfacePower_84 : decode cX6_surfacePower 84 = .ok (.lload 5, 2) := by decide +kernel
theorem dX6_surfacePower_86 : decode cX6_surfacePower 86 = .ok (.lload 7, 2) := by decide +kernel
theorem dX6_surfacePower_88 : decode cX6_surfacePower 88 = .ok (.lcmp, 1) := by decide +kernel
theorem dX6_surfacePower_89 : decode cX6_surfacePower 89 = .ok (.ifCond .ne 9, 3) := by decide +kernel
theorem dX6_surfacePower_92 : decode cX6_surfacePower 92 = .ok (.ldc2_w 53, 3) := by decide +kernel
theorem dX6_surfacePower_95 : decode cX6_surfacePower 95 = .ok (.goto 12, 3) := by decide +kernel
theorem dX6_surfacePower_98 : decode cX6_surfacePower 98 = .ok (.aload_n 0, 1) := by decide +kernel
theorem dX6_surfacePower_99 : decode cX6_surfacePower 99 = .ok (.iload_n 1, 1) := by decide +kernel
theorem dX6_surfacePower_100 : decode cX6_surfacePower 100 = .ok (.lload 5, 2) := by decide +kernel
theorem dX6_surfacePower_102 : decode cX6_surfacePower 102 = .ok (.lload 7, 2) := by decide +kernel
theorem dX6_surfacePower_104 : decode cX6_surfacePower 104 = .ok (.invokevirtual 249, 3) := by decide +kernel
theorem dX6_surfacePower_107 : decode cX6_surfacePower 107 = .ok (.lreturn, 1) := by decide +kernel
theorem dX6_mix_0 : decode cX6_mix 0 = .ok (.aload_n 0, 1) := by decide +kernel
theorem dX6_mix_1 : decode cX6_mix 1 = .ok (.ldc2_w 258, 3) := by decide +kernel
theorem dX6_mix_4 : decode cX6_mix 4 = .ok (.aload_n 0, 1) := by decide +kernel
theorem dX6_mix_5 : decode cX6_mix 5 = .ok (.getfield 260, 3) := by decide +kernel
theorem dX6_mix_8 : decode cX6_mix 8 = .ok (.lmul, 1) := by decide +kernel
theorem dX6_mix_9 : decode cX6_mix 9 = .ok (.lload_n 1, 1) := by decide +kernel
theorem dX6_mix_10 : decode cX6_mix 10 = .ok (.ladd, 1) := by decide +kernel
theorem dX6_mix_11 : decode cX6_mix 11 = .ok (.putfield 260, 3) := by decide +kernel
theorem dX6_mix_14 : decode cX6_mix 14 = .ok (.return_, 1) := by decide +kernel
set_option maxRecDepth 20000 in
theorem ggX6_digest_X6_mix : GoodIn wsX6_digest wsX6_mix := goodIn_r _ [16, 17, 2, 151, 152, 153, 154, 155, 156, 157, 158, 159, 160, 161, 162, 163, 164, 165, 166, 167, 168] (by decide +kernel) (by decide +kernel)
set_option maxRecDepth 20000 in
theorem gX6_digest_X6_mix : GoodIn wsX6_digest (wsV RX6 265 RX6 yX6_mix wsX6_mix) := goodIn_app (goodIn_of _ (by decide +kernel)) ggX6_digest_X6_mix
set_option maxRecDepth 20000 in
theorem ggX6_digest_X6_placeNow : GoodIn wsX6_digest wsX6_placeNow := goodIn_r _ [21, 3, 22, 151, 152, 153, 154, 155, 156, 157, 158, 159, 160, 161, 162, 163, 164, 165, 166, 167, 168] (by decide +kernel) (by decide +kernel)
set_option maxRecDepth 20000 in
theorem gX6_digest_X6_placeNow : GoodIn wsX6_digest (wsV RX6 111 RX6 yX6_placeNow wsX6_placeNow) := goodIn_app (goodIn_of _ (by decide +kernel)) ggX6_digest_X6_placeNow
set_option maxRecDepth 20000 in
theorem ggX6_digest_X6_abbeNow : GoodIn wsX6_digest wsX6_abbeNow := goodIn_r _ [26, 27, 28, 29, 30, 15, 31, 4, 32, 33, 34, 35, 36, 151, 152, 153, 154, 155, 156, 157, 158, 159, 160, 161, 162, 163, 164, 165, 166, 167, 168] (by decide +kernel) (by decide +kernel)
set_option maxRecDepth 20000 in
theorem gX6_digest_X6_abbeNow : GoodIn wsX6_digest (wsV RX6 128 RX6 yX6_abbeNow wsX6_abbeNow) := goodIn_app (goodIn_of _ (by decide +kernel)) ggX6_digest_X6_abbeNow
set_option maxRecDepth 20000 in
theorem ggX6_digest_X6_partialNow : GoodIn wsX6_digest wsX6_partialNow := goodIn_r _ [40, 41, 42, 43, 44, 15, 45, 4, 33, 34, 35, 36, 151, 152, 153, 154, 155, 156, 157, 158, 159, 160, 161, 162, 163, 164, 165, 166, 167, 168] (by decide +kernel) (by decide +kernel)
set_option maxRecDepth 20000 in
theorem gX6_digest_X6_partialNow : GoodIn wsX6_digest (wsV RX6 131 RX6 yX6_partialNow wsX6_partialNow) := goodIn_app (goodIn_of _ (by decide +kernel)) ggX6_digest_X6_partialNow
set_option maxRecDepth 20000 in
theorem ggX6_digest_X6_balanceNow : GoodIn wsX6_digest wsX6_balanceNow := goodIn_r _ [49, 27, 50, 51, 52, 15, 53, 5, 6, 54, 55, 56, 57, 7, 4, 32, 28, 29, 30, 31, 58, 59, 60, 33, 34, 35, 36, 151, 152, 153, 154, 155, 156, 157, 158, 159, 160, 161, 162, 163, 164, 165, 166, 167, 168] (by decide +kernel) (by decide +kernel)
set_option maxRecDepth 20000 in
theorem gX6_digest_X6_balanceNow : GoodIn wsX6_digest (wsV RX6 226 RX6 yX6_balanceNow wsX6_balanceNow) := goodIn_app (goodIn_of _ (by decide +kernel)) ggX6_digest_X6_balanceNow
set_option maxRecDepth 20000 in
theorem ggX6_digest_X6_doublets : GoodIn wsX6_digest wsX6_doublets := goodIn_r _ [64, 3, 65, 66, 67, 15, 68, 69, 70, 71, 72, 28, 29, 30, 31, 4, 32, 33, 34, 35, 36, 151, 152, 153, 154, 155, 156, 157, 158, 159, 160, 161, 162, 163, 164, 165, 166, 167, 168] (by decide +kernel) (by decide +kernel)
set_option maxRecDepth 20000 in
theorem gX6_digest_X6_doublets : GoodIn wsX6_digest (wsV RX6 178 RX6 yX6_doublets wsX6_doublets) := goodIn_app (goodIn_of _ (by decide +kernel)) ggX6_digest_X6_doublets
set_option maxRecDepth 20000 in
theorem ggX6_digest_X6_doubletNow : GoodIn wsX6_digest wsX6_doubletNow := goodIn_r _ [76, 77, 78, 79, 80, 61, 62, 63, 15, 64, 3, 65, 66, 67, 68, 69, 70, 71, 72, 28, 29, 30, 31, 4, 32, 33, 34, 35, 36, 81, 82, 83, 84, 85, 86, 87, 88, 89, 90, 91, 92, 93, 94, 95, 42, 43, 44, 45, 96, 97, 98, 99, 100, 101, 102, 103, 104, 105, 151, 152, 153, 154, 155, 156, 157, 158, 159, 160, 161, 162, 163, 164, 165, 166, 167, 168] (by decide +kernel) (by decide +kernel)
set_option maxRecDepth 20000 in
theorem gX6_digest_X6_doubletNow : GoodIn wsX6_digest (wsV RX6 188 RX6 yX6_doubletNow wsX6_doubletNow) := goodIn_app (goodIn_of _ (by decide +kernel)) ggX6_digest_X6_doubletNow
set_option maxRecDepth 20000 in
theorem ggX6_digest_X6_tripletBest : GoodIn wsX6_digest wsX6_tripletBest := goodIn_r _ [109, 77, 3, 110, 111, 79, 112, 113, 114, 15, 115, 28, 29, 30, 31, 4, 32, 116, 117, 118, 119, 33, 34, 35, 36, 42, 43, 44, 45, 120, 121, 122, 123, 124, 125, 126, 127, 58, 59, 60, 96, 97, 98, 151, 152, 153, 154, 155, 156, 157, 158, 159, 160, 161, 162, 163, 164, 165, 166, 167, 168] (by decide +kernel) (by decide +kernel)
set_option maxRecDepth 20000 in
theorem gX6_digest_X6_tripletBest : GoodIn wsX6_digest (wsV RX6 208 RX6 yX6_tripletBest wsX6_tripletBest) := goodIn_app (goodIn_of _ (by decide +kernel)) ggX6_digest_X6_tripletBest
set_option maxRecDepth 20000 in
theorem ggX6_digest_X6_surfacesBest : GoodIn wsX6_digest wsX6_surfacesBest := goodIn_r _ [131, 77, 8, 110, 6, 7, 27, 132, 133, 134, 135, 15, 136, 9, 137, 138, 139, 140, 141, 28, 29, 30, 31, 4, 32, 58, 59, 60, 96, 97, 98, 151, 152, 153, 154, 155, 156, 157, 158, 159, 160, 161, 162, 163, 164, 165, 166, 167, 168] (by decide +kernel) (by decide +kernel)
set_option maxRecDepth 20000 in
theorem gX6_digest_X6_surfacesBest : GoodIn wsX6_digest (wsV RX6 255 RX6 yX6_surfacesBest wsX6_surfacesBest) := goodIn_app (goodIn_of _ (by decide +kernel)) ggX6_digest_X6_surfacesBest
set_option maxRecDepth 20000 in
theorem ggX6_digest_X6_systemNow : GoodIn wsX6_digest wsX6_systemNow := goodIn_r _ [53, 5, 6, 54, 55, 56, 15, 57, 7, 27, 4, 32, 28, 29, 30, 31, 58, 59, 60, 151, 152, 153, 154, 155, 156, 157, 158, 159, 160, 161, 162, 163, 164, 165, 166, 167, 168] (by decide +kernel) (by decide +kernel)
set_option maxRecDepth 20000 in
theorem gX6_digest_X6_systemNow : GoodIn wsX6_digest (wsV RX6 223 RX6 yX6_systemNow wsX6_systemNow) := goodIn_app (goodIn_of _ (by decide +kernel)) ggX6_digest_X6_systemNow
set_option maxRecDepth 20000 in
theorem ggX6_digest_X6_wrongNow : GoodIn wsX6_digest wsX6_wrongNow := goodIn_r _ [145, 5, 3, 77, 146, 6, 110, 79, 147, 148, 149, 15, 150, 50, 51, 52, 53, 54, 55, 56, 57, 7, 27, 4, 32, 28, 29, 30, 31, 58, 59, 60, 96, 97, 98, 151, 152, 153, 154, 155, 156, 157, 158, 159, 160, 161, 162, 163, 164, 165, 166, 167, 168] (by decide +kernel) (by decide +kernel)
set_option maxRecDepth 20000 in
theorem gX6_digest_X6_wrongNow : GoodIn wsX6_digest (wsV RX6 239 RX6 yX6_wrongNow wsX6_wrongNow) := goodIn_app (goodIn_of _ (by decide +kernel)) ggX6_digest_X6_wrongNow
theorem dX6_digest_0 : decode cX6_digest 0 = .ok (.aload_n 0, 1) := by decide +kernel
theorem dX6_digest_1 : decode cX6_digest 1 = .ok (.ldc2_w 263, 3) := by decide +kernel
theorem dX6_digest_4 : decode cX6_digest 4 = .ok (.putfield 260, 3) := by decide +kernel
theorem dX6_digest_7 : decode cX6_digest 7 = .ok (.aload_n 0, 1) := by decide +kernel
theorem dX6_digest_8 : decode cX6_digest 8 = .ok (.aload_n 0, 1) := by decide +kernel
theorem dX6_digest_9 : decode cX6_digest 9 = .ok (.getfield 35, 3) := by decide +kernel
theorem dX6_digest_12 : decode cX6_digest 12 = .ok (.i2l, 1) := by decide +kernel
theorem dX6_digest_13 : decode cX6_digest 13 = .ok (.invokevirtual 265, 3) := by decide +kernel
theorem dX6_digest_16 : decode cX6_digest 16 = .ok (.iconst 0, 1) := by decide +kernel
theorem dX6_digest_17 : decode cX6_digest 17 = .ok (.istore_n 1, 1) := by decide +kernel
theorem dX6_digest_18 : decode cX6_digest 18 = .ok (.iload_n 1, 1) := by decide +kernel
theorem dX6_digest_19 : decode cX6_digest 19 = .ok (.aload_n 0, 1) := by decide +kernel
theorem dX6_digest_20 : decode cX6_digest 20 = .ok (.getfield 35, 3) := by decide +kernel
theorem dX6_digest_23 : decode cX6_digest 23 = .ok (.if_icmp .ge 73, 3) := by decide +kernel
theorem dX6_digest_26 : decode cX6_digest 26 = .ok (.iconst 0, 1) := by decide +kernel
theorem dX6_digest_27 : decode cX6_digest 27 = .ok (.istore_n 2, 1) := by decide +kernel
theorem dX6_digest_28 : decode cX6_digest 28 = .ok (.iload_n 2, 1) := by decide +kernel
theorem dX6_digest_29 : decode cX6_digest 29 = .ok (.iconst 3, 1) := by decide +kernel
theorem dX6_digest_30 : decode cX6_digest 30 = .ok (.if_icmp .ge 24, 3) := by decide +kernel
theorem dX6_digest_33 : decode cX6_digest 33 = .ok (.aload_n 0, 1) := by decide +kernel
theorem dX6_digest_34 : decode cX6_digest 34 = .ok (.aload_n 0, 1) := by decide +kernel
theorem dX6_digest_35 : decode cX6_digest 35 = .ok (.getfield 17, 3) := by decide +kernel
theorem dX6_digest_38 : decode cX6_digest 38 = .ok (.iconst 3, 1) := by decide +kernel
theorem dX6_digest_39 : decode cX6_digest 39 = .ok (.iload_n 1, 1) := by decide +kernel
theorem dX6_digest_40 : decode cX6_digest 40 = .ok (.imul, 1) := by decide +kernel
theorem dX6_digest_41 : decode cX6_digest 41 = .ok (.iload_n 2, 1) := by decide +kernel
theorem dX6_digest_42 : decode cX6_digest 42 = .ok (.iadd, 1) := by decide +kernel
theorem dX6_digest_43 : decode cX6_digest 43 = .ok (.iaload, 1) := by decide +kernel
theorem dX6_digest_44 : decode cX6_digest 44 = .ok (.i2l, 1) := by decide +kernel
theorem dX6_digest_45 : decode cX6_digest 45 = .ok (.invokevirtual 265, 3) := by decide +kernel
theorem dX6_digest_48 : decode cX6_digest 48 = .ok (.iinc 2 1, 3) := by decide +kernel
theorem dX6_digest_51 : decode cX6_digest 51 = .ok (.goto (-23), 3) := by decide +kernel
theorem dX6_digest_54 : decode cX6_digest 54 = .ok (.aload_n 0, 1) := by decide +kernel
theorem dX6_digest_55 : decode cX6_digest 55 = .ok (.aload_n 0, 1) := by decide +kernel
theorem dX6_digest_56 : decode cX6_digest 56 = .ok (.iload_n 1, 1) := by decide +kernel
theorem dX6_digest_57 : decode cX6_digest 57 = .ok (.invokevirtual 111, 3) := by decide +kernel
theorem dX6_digest_60 : decode cX6_digest 60 = .ok (.invokevirtual 265, 3) := by decide +kernel
theorem dX6_digest_63 : decode cX6_digest 63 = .ok (.aload_n 0, 1) := by decide +kernel
theorem dX6_digest_64 : decode cX6_digest 64 = .ok (.aload_n 0, 1) := by decide +kernel
theorem dX6_digest_65 : decode cX6_digest 65 = .ok (.iload_n 1, 1) := by decide +kernel
theorem dX6_digest_66 : decode cX6_digest 66 = .ok (.invokevirtual 128, 3) := by decide +kernel
theorem dX6_digest_69 : decode cX6_digest 69 = .ok (.invokevirtual 265, 3) := by decide +kernel
theorem dX6_digest_72 : decode cX6_digest 72 = .ok (.aload_n 0, 1) := by decide +kernel
theorem dX6_digest_73 : decode cX6_digest 73 = .ok (.aload_n 0, 1) := by decide +kernel
theorem dX6_digest_74 : decode cX6_digest 74 = .ok (.iload_n 1, 1) := by decide +kernel
theorem dX6_digest_75 : decode cX6_digest 75 = .ok (.invokevirtual 131, 3) := by decide +kernel
theorem dX6_digest_78 : decode cX6_digest 78 = .ok (.invokevirtual 265, 3) := by decide +kernel
theorem dX6_digest_81 : decode cX6_digest 81 = .ok (.aload_n 0, 1) := by decide +kernel
theorem dX6_digest_82 : decode cX6_digest 82 = .ok (.aload_n 0, 1) := by decide +kernel
theorem dX6_digest_83 : decode cX6_digest 83 = .ok (.iload_n 1, 1) := by decide +kernel
theorem dX6_digest_84 : decode cX6_digest 84 = .ok (.invokevirtual 226, 3) := by decide +kernel
theorem dX6_digest_87 : decode cX6_digest 87 = .ok (.invokevirtual 265, 3) := by decide +kernel
theorem dX6_digest_90 : decode cX6_digest 90 = .ok (.iinc 1 1, 3) := by decide +kernel
theorem dX6_digest_93 : decode cX6_digest 93 = .ok (.goto (-75), 3) := by decide +kernel
theorem dX6_digest_96 : decode cX6_digest 96 = .ok (.aload_n 0, 1) := by decide +kernel
theorem dX6_digest_97 : decode cX6_digest 97 = .ok (.aload_n 0, 1) := by decide +kernel
theorem dX6_digest_98 : decode cX6_digest 98 = .ok (.invokevirtual 178, 3) := by decide +kernel
theorem dX6_digest_101 : decode cX6_digest 101 = .ok (.invokevirtual 265, 3) := by decide +kernel
theorem dX6_digest_104 : decode cX6_digest 104 = .ok (.iconst 0, 1) := by decide +kernel
theorem dX6_digest_105 : decode cX6_digest 105 = .ok (.istore_n 1, 1) := by decide +kernel
theorem dX6_digest_106 : decode cX6_digest 106 = .ok (.iload_n 1, 1) := by decide +kernel
theorem dX6_digest_107 : decode cX6_digest 107 = .ok (.iconst 4, 1) := by decide +kernel
theorem dX6_digest_108 : decode cX6_digest 108 = .ok (.if_icmp .ge 29, 3) := by decide +kernel
theorem dX6_digest_111 : decode cX6_digest 111 = .ok (.aload_n 0, 1) := by decide +kernel
theorem dX6_digest_112 : decode cX6_digest 112 = .ok (.aload_n 0, 1) := by decide +kernel
theorem dX6_digest_113 : decode cX6_digest 113 = .ok (.iconst 0, 1) := by decide +kernel
theorem dX6_digest_114 : decode cX6_digest 114 = .ok (.iload_n 1, 1) := by decide +kernel
theorem dX6_digest_115 : decode cX6_digest 115 = .ok (.invokevirtual 188, 3) := by decide +kernel
theorem dX6_digest_118 : decode cX6_digest 118 = .ok (.invokevirtual 265, 3) := by decide +kernel
theorem dX6_digest_121 : decode cX6_digest 121 = .ok (.aload_n 0, 1) := by decide +kernel
theorem dX6_digest_122 : decode cX6_digest 122 = .ok (.aload_n 0, 1) := by decide +kernel
theorem dX6_digest_123 : decode cX6_digest 123 = .ok (.iconst 1, 1) := by decide +kernel
theorem dX6_digest_124 : decode cX6_digest 124 = .ok (.iload_n 1, 1) := by decide +kernel
theorem dX6_digest_125 : decode cX6_digest 125 = .ok (.invokevirtual 188, 3) := by decide +kernel
theorem dX6_digest_128 : decode cX6_digest 128 = .ok (.invokevirtual 265, 3) := by decide +kernel
theorem dX6_digest_131 : decode cX6_digest 131 = .ok (.iinc 1 1, 3) := by decide +kernel
theorem dX6_digest_134 : decode cX6_digest 134 = .ok (.goto (-28), 3) := by decide +kernel
theorem dX6_digest_137 : decode cX6_digest 137 = .ok (.aload_n 0, 1) := by decide +kernel
theorem dX6_digest_138 : decode cX6_digest 138 = .ok (.aload_n 0, 1) := by decide +kernel
theorem dX6_digest_139 : decode cX6_digest 139 = .ok (.invokevirtual 208, 3) := by decide +kernel
theorem dX6_digest_142 : decode cX6_digest 142 = .ok (.invokevirtual 265, 3) := by decide +kernel
theorem dX6_digest_145 : decode cX6_digest 145 = .ok (.aload_n 0, 1) := by decide +kernel
theorem dX6_digest_146 : decode cX6_digest 146 = .ok (.aload_n 0, 1) := by decide +kernel
theorem dX6_digest_147 : decode cX6_digest 147 = .ok (.getfield 43, 3) := by decide +kernel
theorem dX6_digest_150 : decode cX6_digest 150 = .ok (.i2l, 1) := by decide +kernel
theorem dX6_digest_151 : decode cX6_digest 151 = .ok (.invokevirtual 265, 3) := by decide +kernel
theorem dX6_digest_154 : decode cX6_digest 154 = .ok (.iconst 0, 1) := by decide +kernel
theorem dX6_digest_155 : decode cX6_digest 155 = .ok (.istore_n 1, 1) := by decide +kernel
theorem dX6_digest_156 : decode cX6_digest 156 = .ok (.iload_n 1, 1) := by decide +kernel
theorem dX6_digest_157 : decode cX6_digest 157 = .ok (.aload_n 0, 1) := by decide +kernel
theorem dX6_digest_158 : decode cX6_digest 158 = .ok (.getfield 43, 3) := by decide +kernel
theorem dX6_digest_161 : decode cX6_digest 161 = .ok (.if_icmp .ge 40, 3) := by decide +kernel
theorem dX6_digest_164 : decode cX6_digest 164 = .ok (.aload_n 0, 1) := by decide +kernel
theorem dX6_digest_165 : decode cX6_digest 165 = .ok (.aload_n 0, 1) := by decide +kernel
theorem dX6_digest_166 : decode cX6_digest 166 = .ok (.getfield 20, 3) := by decide +kernel
theorem dX6_digest_169 : decode cX6_digest 169 = .ok (.iload_n 1, 1) := by decide +kernel
theorem dX6_digest_170 : decode cX6_digest 170 = .ok (.iaload, 1) := by decide +kernel
theorem dX6_digest_171 : decode cX6_digest 171 = .ok (.i2l, 1) := by decide +kernel
theorem dX6_digest_172 : decode cX6_digest 172 = .ok (.invokevirtual 265, 3) := by decide +kernel
theorem dX6_digest_175 : decode cX6_digest 175 = .ok (.aload_n 0, 1) := by decide +kernel
theorem dX6_digest_176 : decode cX6_digest 176 = .ok (.aload_n 0, 1) := by decide +kernel
theorem dX6_digest_177 : decode cX6_digest 177 = .ok (.getfield 23, 3) := by decide +kernel
theorem dX6_digest_180 : decode cX6_digest 180 = .ok (.iload_n 1, 1) := by decide +kernel
theorem dX6_digest_181 : decode cX6_digest 181 = .ok (.iaload, 1) := by decide +kernel
theorem dX6_digest_182 : decode cX6_digest 182 = .ok (.i2l, 1) := by decide +kernel
theorem dX6_digest_183 : decode cX6_digest 183 = .ok (.invokevirtual 265, 3) := by decide +kernel
theorem dX6_digest_186 : decode cX6_digest 186 = .ok (.aload_n 0, 1) := by decide +kernel
theorem dX6_digest_187 : decode cX6_digest 187 = .ok (.aload_n 0, 1) := by decide +kernel
theorem dX6_digest_188 : decode cX6_digest 188 = .ok (.iload_n 1, 1) := by decide +kernel
theorem dX6_digest_189 : decode cX6_digest 189 = .ok (.invokevirtual 255, 3) := by decide +kernel
theorem dX6_digest_192 : decode cX6_digest 192 = .ok (.invokevirtual 265, 3) := by decide +kernel
theorem dX6_digest_195 : decode cX6_digest 195 = .ok (.iinc 1 1, 3) := by decide +kernel
theorem dX6_digest_198 : decode cX6_digest 198 = .ok (.goto (-42), 3) := by decide +kernel
theorem dX6_digest_201 : decode cX6_digest 201 = .ok (.iconst 0, 1) := by decide +kernel
theorem dX6_digest_202 : decode cX6_digest 202 = .ok (.istore_n 1, 1) := by decide +kernel
theorem dX6_digest_203 : decode cX6_digest 203 = .ok (.iload_n 1, 1) := by decide +kernel
theorem dX6_digest_204 : decode cX6_digest 204 = .ok (.iconst 3, 1) := by decide +kernel
theorem dX6_digest_205 : decode cX6_digest 205 = .ok (.if_icmp .ge 18, 3) := by decide +kernel
theorem dX6_digest_208 : decode cX6_digest 208 = .ok (.aload_n 0, 1) := by decide +kernel
theorem dX6_digest_209 : decode cX6_digest 209 = .ok (.aload_n 0, 1) := by decide +kernel
theorem dX6_digest_210 : decode cX6_digest 210 = .ok (.iload_n 1, 1) := by decide +kernel
theorem dX6_digest_211 : decode cX6_digest 211 = .ok (.invokevirtual 223, 3) := by decide +kernel
theorem dX6_digest_214 : decode cX6_digest 214 = .ok (.invokevirtual 265, 3) := by decide +kernel
theorem dX6_digest_217 : decode cX6_digest 217 = .ok (.iinc 1 1, 3) := by decide +kernel
theorem dX6_digest_220 : decode cX6_digest 220 = .ok (.goto (-17), 3) := by decide +kernel
theorem dX6_digest_223 : decode cX6_digest 223 = .ok (.aload_n 0, 1) := by decide +kernel
theorem dX6_digest_224 : decode cX6_digest 224 = .ok (.aload_n 0, 1) := by decide +kernel
theorem dX6_digest_225 : decode cX6_digest 225 = .ok (.getfield 243, 3) := by decide +kernel
theorem dX6_digest_228 : decode cX6_digest 228 = .ok (.i2l, 1) := by decide +kernel
theorem dX6_digest_229 : decode cX6_digest 229 = .ok (.invokevirtual 265, 3) := by decide +kernel
theorem dX6_digest_232 : decode cX6_digest 232 = .ok (.iconst 0, 1) := by decide +kernel
theorem dX6_digest_233 : decode cX6_digest 233 = .ok (.istore_n 1, 1) := by decide +kernel
theorem dX6_digest_234 : decode cX6_digest 234 = .ok (.iload_n 1, 1) := by decide +kernel
theorem dX6_digest_235 : decode cX6_digest 235 = .ok (.aload_n 0, 1) := by decide +kernel
theorem dX6_digest_236 : decode cX6_digest 236 = .ok (.getfield 243, 3) := by decide +kernel
theorem dX6_digest_239 : decode cX6_digest 239 = .ok (.if_icmp .ge 20, 3) := by decide +kernel
theorem dX6_digest_242 : decode cX6_digest 242 = .ok (.aload_n 0, 1) := by decide +kernel
theorem dX6_digest_243 : decode cX6_digest 243 = .ok (.aload_n 0, 1) := by decide +kernel
theorem dX6_digest_244 : decode cX6_digest 244 = .ok (.getfield 26, 3) := by decide +kernel
theorem dX6_digest_247 : decode cX6_digest 247 = .ok (.iload_n 1, 1) := by decide +kernel
theorem dX6_digest_248 : decode cX6_digest 248 = .ok (.iaload, 1) := by decide +kernel
theorem dX6_digest_249 : decode cX6_digest 249 = .ok (.i2l, 1) := by decide +kernel
theorem dX6_digest_250 : decode cX6_digest 250 = .ok (.invokevirtual 265, 3) := by decide +kernel
theorem dX6_digest_253 : decode cX6_digest 253 = .ok (.iinc 1 1, 3) := by decide +kernel
theorem dX6_digest_256 : decode cX6_digest 256 = .ok (.goto (-22), 3) := by decide +kernel
theorem dX6_digest_259 : decode cX6_digest 259 = .ok (.aload_n 0, 1) := by decide +kernel
theorem dX6_digest_260 : decode cX6_digest 260 = .ok (.aload_n 0, 1) := by decide +kernel
theorem dX6_digest_261 : decode cX6_digest 261 = .ok (.aload_n 0, 1) := by decide +kernel
theorem dX6_digest_262 : decode cX6_digest 262 = .ok (.iconst 0, 1) := by decide +kernel
theorem dX6_digest_263 : decode cX6_digest 263 = .ok (.invokevirtual 223, 3) := by decide +kernel
theorem dX6_digest_266 : decode cX6_digest 266 = .ok (.aload_n 0, 1) := by decide +kernel
theorem dX6_digest_267 : decode cX6_digest 267 = .ok (.iconst 1, 1) := by decide +kernel
theorem dX6_digest_268 : decode cX6_digest 268 = .ok (.invokevirtual 223, 3) := by decide +kernel
theorem dX6_digest_271 : decode cX6_digest 271 = .ok (.aload_n 0, 1) := by decide +kernel
theorem dX6_digest_272 : decode cX6_digest 272 = .ok (.iconst 2, 1) := by decide +kernel
theorem dX6_digest_273 : decode cX6_digest 273 = .ok (.invokevirtual 223, 3) := by decide +kernel
theorem dX6_digest_276 : decode cX6_digest 276 = .ok (.invokevirtual 239, 3) := by decide +kernel
theorem dX6_digest_279 : decode cX6_digest 279 = .ok (.invokevirtual 265, 3) := by decide +kernel
theorem dX6_digest_282 : decode cX6_digest 282 = .ok (.aload_n 0, 1) := by decide +kernel
theorem dX6_digest_283 : decode cX6_digest 283 = .ok (.aload_n 0, 1) := by decide +kernel
theorem dX6_digest_284 : decode cX6_digest 284 = .ok (.getfield 55, 3) := by decide +kernel
theorem dX6_digest_287 : decode cX6_digest 287 = .ok (.i2l, 1) := by decide +kernel
theorem dX6_digest_288 : decode cX6_digest 288 = .ok (.invokevirtual 265, 3) := by decide +kernel
theorem dX6_digest_291 : decode cX6_digest 291 = .ok (.iconst 0, 1) := by decide +kernel
theorem dX6_digest_292 : decode cX6_digest 292 = .ok (.istore_n 1, 1) := by decide +kernel
theorem dX6_digest_293 : decode cX6_digest 293 = .ok (.iload_n 1, 1) := by decide +kernel
theorem dX6_digest_294 : decode cX6_digest 294 = .ok (.aload_n 0, 1) := by decide +kernel
theorem dX6_digest_295 : decode cX6_digest 295 = .ok (.getfield 55, 3) := by decide +kernel
theorem dX6_digest_298 : decode cX6_digest 298 = .ok (.if_icmp .ge 20, 3) := by decide +kernel
theorem dX6_digest_301 : decode cX6_digest 301 = .ok (.aload_n 0, 1) := by decide +kernel
theorem dX6_digest_302 : decode cX6_digest 302 = .ok (.aload_n 0, 1) := by decide +kernel
theorem dX6_digest_303 : decode cX6_digest 303 = .ok (.getfield 7, 3) := by decide +kernel
theorem dX6_digest_306 : decode cX6_digest 306 = .ok (.iload_n 1, 1) := by decide +kernel
theorem dX6_digest_307 : decode cX6_digest 307 = .ok (.iaload, 1) := by decide +kernel
theorem dX6_digest_308 : decode cX6_digest 308 = .ok (.i2l, 1) := by decide +kernel
theorem dX6_digest_309 : decode cX6_digest 309 = .ok (.invokevirtual 265, 3) := by decide +kernel
theorem dX6_digest_312 : decode cX6_digest 312 = .ok (.iinc 1 1, 3) := by decide +kernel
theorem dX6_digest_315 : decode cX6_digest 315 = .ok (.goto (-22), 3) := by decide +kernel
theorem dX6_digest_318 : decode cX6_digest 318 = .ok (.aload_n 0, 1) := by decide +kernel
theorem dX6_digest_319 : decode cX6_digest 319 = .ok (.getfield 260, 3) := by decide +kernel
theorem dX6_digest_322 : decode cX6_digest 322 = .ok (.lreturn, 1) := by decide +kernel
theorem dJ13_compare_74951_0 : decode cJ13_compare_74951 0 = .ok (.lload_n 0, 1) := by decide +kernel
theorem dJ13_compare_74951_1 : decode cJ13_compare_74951 1 = .ok (.lload_n 2, 1) := by decide +kernel
theorem dJ13_compare_74951_2 : decode cJ13_compare_74951 2 = .ok (.lcmp, 1) := by decide +kernel
theorem dJ13_compare_74951_3 : decode cJ13_compare_74951 3 = .ok (.ifCond .ge 7, 3) := by decide +kernel
theorem dJ13_compare_74951_6 : decode cJ13_compare_74951 6 = .ok (.iconst (-1), 1) := by decide +kernel
theorem dJ13_compare_74951_7 : decode cJ13_compare_74951 7 = .ok (.goto 14, 3) := by decide +kernel
theorem dJ13_compare_74951_10 : decode cJ13_compare_74951 10 = .ok (.lload_n 0, 1) := by decide +kernel
theorem dJ13_compare_74951_11 : decode cJ13_compare_74951 11 = .ok (.lload_n 2, 1) := by decide +kernel
theorem dJ13_compare_74951_12 : decode cJ13_compare_74951 12 = .ok (.lcmp, 1) := by decide +kernel
theorem dJ13_compare_74951_13 : decode cJ13_compare_74951 13 = .ok (.ifCond .ne 7, 3) := by decide +kernel
theorem dJ13_compare_74951_16 : decode cJ13_compare_74951 16 = .ok (.iconst 0, 1) := by decide +kernel
theorem dJ13_compare_74951_17 : decode cJ13_compare_74951 17 = .ok (.goto 4, 3) := by decide +kernel
theorem dJ13_compare_74951_20 : decode cJ13_compare_74951 20 = .ok (.iconst 1, 1) := by decide +kernel
theorem dJ13_compare_74951_21 : decode cJ13_compare_74951 21 = .ok (.ireturn, 1) := by decide +kernel
theorem dJ9_floorDiv_f86c9_0 : decode cJ9_floorDiv_f86c9 0 = .ok (.lload_n 0, 1) := by decide +kernel
theorem dJ9_floorDiv_f86c9_1 : decode cJ9_floorDiv_f86c9 1 = .ok (.lload_n 2, 1) := by decide +kernel
theorem dJ9_floorDiv_f86c9_2 : decode cJ9_floorDiv_f86c9 2 = .ok (.ldiv, 1) := by decide +kernel
theorem dJ9_floorDiv_f86c9_3 : decode cJ9_floorDiv_f86c9 3 = .ok (.lstore 4, 2) := by decide +kernel
theorem dJ9_floorDiv_f86c9_5 : decode cJ9_floorDiv_f86c9 5 = .ok (.lload_n 0, 1) := by decide +kernel
theorem dJ9_floorDiv_f86c9_6 : decode cJ9_floorDiv_f86c9 6 = .ok (.lload_n 2, 1) := by decide +kernel
theorem dJ9_floorDiv_f86c9_7 : decode cJ9_floorDiv_f86c9 7 = .ok (.lxor, 1) := by decide +kernel
theorem dJ9_floorDiv_f86c9_8 : decode cJ9_floorDiv_f86c9 8 = .ok (.lconst 0, 1) := by decide +kernel
theorem dJ9_floorDiv_f86c9_9 : decode cJ9_floorDiv_f86c9 9 = .ok (.lcmp, 1) := by decide +kernel
theorem dJ9_floorDiv_f86c9_10 : decode cJ9_floorDiv_f86c9 10 = .ok (.ifCond .ge 17, 3) := by decide +kernel
theorem dJ9_floorDiv_f86c9_13 : decode cJ9_floorDiv_f86c9 13 = .ok (.lload 4, 2) := by decide +kernel
theorem dJ9_floorDiv_f86c9_15 : decode cJ9_floorDiv_f86c9 15 = .ok (.lload_n 2, 1) := by decide +kernel
theorem dJ9_floorDiv_f86c9_16 : decode cJ9_floorDiv_f86c9 16 = .ok (.lmul, 1) := by decide +kernel
theorem dJ9_floorDiv_f86c9_17 : decode cJ9_floorDiv_f86c9 17 = .ok (.lload_n 0, 1) := by decide +kernel
theorem dJ9_floorDiv_f86c9_18 : decode cJ9_floorDiv_f86c9 18 = .ok (.lcmp, 1) := by decide +kernel
theorem dJ9_floorDiv_f86c9_19 : decode cJ9_floorDiv_f86c9 19 = .ok (.ifCond .eq 8, 3) := by decide +kernel
theorem dJ9_floorDiv_f86c9_22 : decode cJ9_floorDiv_f86c9 22 = .ok (.lload 4, 2) := by decide +kernel
theorem dJ9_floorDiv_f86c9_24 : decode cJ9_floorDiv_f86c9 24 = .ok (.lconst 1, 1) := by decide +kernel
theorem dJ9_floorDiv_f86c9_25 : decode cJ9_floorDiv_f86c9 25 = .ok (.lsub, 1) := by decide +kernel
theorem dJ9_floorDiv_f86c9_26 : decode cJ9_floorDiv_f86c9 26 = .ok (.lreturn, 1) := by decide +kernel
theorem dJ9_floorDiv_f86c9_27 : decode cJ9_floorDiv_f86c9 27 = .ok (.lload 4, 2) := by decide +kernel
theorem dJ9_floorDiv_f86c9_29 : decode cJ9_floorDiv_f86c9 29 = .ok (.lreturn, 1) := by decide +kernel
theorem dJ9_abs_067f4_0 : decode cJ9_abs_067f4 0 = .ok (.lload_n 0, 1) := by decide +kernel
theorem dJ9_abs_067f4_1 : decode cJ9_abs_067f4 1 = .ok (.lconst 0, 1) := by decide +kernel
theorem dJ9_abs_067f4_2 : decode cJ9_abs_067f4 2 = .ok (.lcmp, 1) := by decide +kernel
theorem dJ9_abs_067f4_3 : decode cJ9_abs_067f4 3 = .ok (.ifCond .ge 8, 3) := by decide +kernel
theorem dJ9_abs_067f4_6 : decode cJ9_abs_067f4 6 = .ok (.lload_n 0, 1) := by decide +kernel
theorem dJ9_abs_067f4_7 : decode cJ9_abs_067f4 7 = .ok (.lneg, 1) := by decide +kernel
theorem dJ9_abs_067f4_8 : decode cJ9_abs_067f4 8 = .ok (.goto 4, 3) := by decide +kernel
theorem dJ9_abs_067f4_11 : decode cJ9_abs_067f4 11 = .ok (.lload_n 0, 1) := by decide +kernel
theorem dJ9_abs_067f4_12 : decode cJ9_abs_067f4 12 = .ok (.lreturn, 1) := by decide +kernel
theorem dJ9_max_f86c9_0 : decode cJ9_max_f86c9 0 = .ok (.lload_n 0, 1) := by decide +kernel
theorem dJ9_max_f86c9_1 : decode cJ9_max_f86c9 1 = .ok (.lload_n 2, 1) := by decide +kernel
theorem dJ9_max_f86c9_2 : decode cJ9_max_f86c9 2 = .ok (.lcmp, 1) := by decide +kernel
theorem dJ9_max_f86c9_3 : decode cJ9_max_f86c9 3 = .ok (.ifCond .lt 7, 3) := by decide +kernel
theorem dJ9_max_f86c9_6 : decode cJ9_max_f86c9 6 = .ok (.lload_n 0, 1) := by decide +kernel
theorem dJ9_max_f86c9_7 : decode cJ9_max_f86c9 7 = .ok (.goto 4, 3) := by decide +kernel
theorem dJ9_max_f86c9_10 : decode cJ9_max_f86c9 10 = .ok (.lload_n 2, 1) := by decide +kernel
theorem dJ9_max_f86c9_11 : decode cJ9_max_f86c9 11 = .ok (.lreturn, 1) := by decide +kernel
theorem dJ9_min_7cf53_0 : decode cJ9_min_7cf53 0 = .ok (.iload_n 0, 1) := by decide +kernel
theorem dJ9_min_7cf53_1 : decode cJ9_min_7cf53 1 = .ok (.iload_n 1, 1) := by decide +kernel
theorem dJ9_min_7cf53_2 : decode cJ9_min_7cf53 2 = .ok (.if_icmp .gt 7, 3) := by decide +kernel
theorem dJ9_min_7cf53_5 : decode cJ9_min_7cf53 5 = .ok (.iload_n 0, 1) := by decide +kernel
theorem dJ9_min_7cf53_6 : decode cJ9_min_7cf53 6 = .ok (.goto 4, 3) := by decide +kernel
theorem dJ9_min_7cf53_9 : decode cJ9_min_7cf53 9 = .ok (.iload_n 1, 1) := by decide +kernel
theorem dJ9_min_7cf53_10 : decode cJ9_min_7cf53 10 = .ok (.ireturn, 1) := by decide +kernel
set_option maxRecDepth 20000 in
theorem ggL_law_X5_init : GoodIn wsL_law wsX5_init := goodIn_r _ [9, 10, 11, 12, 13, 14, 15, 16, 17, 18, 19, 20, 21, 22, 23, 24, 25, 26, 27, 28, 29, 30, 31, 32, 33, 34, 35, 36, 37, 38, 39, 40, 41, 42, 43, 44, 45, 46, 47, 48, 49, 50, 51, 52, 53, 54, 55, 56, 57, 58, 59, 60, 61, 62, 837, 838, 814, 815, 816, 817, 818, 839, 840, 841, 842, 843, 844, 845, 846, 847, 848, 849, 850, 851, 852, 853, 854] (by decide +kernel) (by decide +kernel)
set_option maxRecDepth 20000 in
theorem gL_law_X5_init : GoodIn wsL_law (wsX5_init) := ggL_law_X5_init
set_option maxRecDepth 20000 in
theorem ggL_law_X6_init : GoodIn wsL_law wsX6_init := goodIn_r _ [65, 66, 11, 12, 36, 67, 41, 68, 69, 70, 71, 72, 73, 74, 819, 820, 821, 822, 823, 824, 825, 826, 827, 828, 829, 830, 831, 832, 833, 834, 835, 836] (by decide +kernel) (by decide +kernel)
set_option maxRecDepth 20000 in
theorem gL_law_X6_init : GoodIn wsL_law (wsX6_init) := ggL_law_X6_init
set_option maxRecDepth 20000 in
theorem ggL_law_X5_append : GoodIn wsL_law wsX5_append := goodIn_r _ [78, 79, 16, 80, 81, 82, 83, 15, 84, 85, 37, 814, 815, 816, 817, 818, 837, 838] (by decide +kernel) (by decide +kernel)
set_option maxRecDepth 20000 in
theorem gL_law_X5_append : GoodIn wsL_law (wsV RL 13 RX5 yX5_append wsX5_append) := goodIn_app (goodIn_of _ (by decide +kernel)) ggL_law_X5_append
set_option maxRecDepth 20000 in
theorem ggL_law_X6_append : GoodIn wsL_law wsX6_append := goodIn_r _ [89, 90, 91, 92, 93, 94, 67, 95, 96, 5, 97, 819, 820, 821, 822, 823, 824, 825, 826, 827, 828, 829, 830, 831, 832, 833, 834, 835, 836] (by decide +kernel) (by decide +kernel)
set_option maxRecDepth 20000 in
theorem gL_law_X6_append : GoodIn wsL_law (wsV RL 17 RX6 yX6_append wsX6_append) := goodIn_app (goodIn_of _ (by decide +kernel)) ggL_law_X6_append
set_option maxRecDepth 20000 in
theorem ggL_law_X5_clearBuffer : GoodIn wsL_law wsX5_clearBuffer := goodIn_r _ [101, 16, 102, 103, 104, 15, 105, 85, 814, 815, 816, 817, 818, 837, 838] (by decide +kernel) (by decide +kernel)
set_option maxRecDepth 20000 in
theorem gL_law_X5_clearBuffer : GoodIn wsL_law (wsV RL 18 RX5 yX5_clearBuffer wsX5_clearBuffer) := goodIn_app (goodIn_of _ (by decide +kernel)) ggL_law_X5_clearBuffer
set_option maxRecDepth 20000 in
theorem ggL_law_X6_clearBuffer : GoodIn wsL_law wsX6_clearBuffer := goodIn_r _ [109, 93, 819, 820, 821, 822, 823, 824, 825, 826, 827, 828, 829, 830, 831, 832, 833, 834, 835, 836] (by decide +kernel) (by decide +kernel)
set_option maxRecDepth 20000 in
theorem gL_law_X6_clearBuffer : GoodIn wsL_law (wsV RL 22 RX6 yX6_clearBuffer wsX6_clearBuffer) := goodIn_app (goodIn_of _ (by decide +kernel)) ggL_law_X6_clearBuffer
set_option maxRecDepth 20000 in
theorem ggL_law_X5_errorPosition : GoodIn wsL_law wsX5_errorPosition := goodIn_r _ [113, 16, 114, 115, 116, 15, 117, 85, 37, 118, 119, 120, 121, 122, 123, 124, 125, 126, 127, 128, 129, 130, 131, 132, 133, 134, 814, 815, 816, 817, 818, 837, 838] (by decide +kernel) (by decide +kernel)
set_option maxRecDepth 20000 in
theorem gL_law_X5_errorPosition : GoodIn wsL_law (wsV RL 23 RX5 yX5_errorPosition wsX5_errorPosition) := goodIn_app (goodIn_of _ (by decide +kernel)) ggL_law_X5_errorPosition
set_option maxRecDepth 20000 in
theorem ggL_law_X6_errorPosition : GoodIn wsL_law wsX6_errorPosition := goodIn_r _ [138, 139, 140, 141, 142, 5, 143, 144, 93, 67, 145, 146, 147, 148, 149, 150, 73, 151, 152, 95, 96, 97, 819, 820, 821, 822, 823, 824, 825, 826, 827, 828, 829, 830, 831, 832, 833, 834, 835, 836] (by decide +kernel) (by decide +kernel)
set_option maxRecDepth 20000 in
theorem gL_law_X6_errorPosition : GoodIn wsL_law (wsV RL 26 RX6 yX6_errorPosition wsX6_errorPosition) := goodIn_app (goodIn_of _ (by decide +kernel)) ggL_law_X6_errorPosition
set_option maxRecDepth 20000 in
theorem ggL_law_X5_addGlass : GoodIn wsL_law wsX5_addGlass := goodIn_r _ [156, 16, 157, 79, 20, 80, 158, 159, 160, 161, 15, 162, 85, 118, 119, 120, 121, 122, 123, 124, 125, 37, 126, 127, 128, 129, 130, 131, 163, 115, 116, 117, 132, 133, 134, 164, 165, 166, 167, 168, 169, 170, 171, 172, 173, 2, 174, 175, 176, 177, 178, 179, 180, 181, 182, 183, 184, 19, 185, 186, 42, 187, 188, 189, 190, 43, 44, 45, 102, 103, 104, 105, 814, 815, 816, 817, 818, 839, 840, 841, 842, 843, 837, 838] (by decide +kernel) (by decide +kernel)
set_option maxRecDepth 20000 in
theorem gL_law_X5_addGlass : GoodIn wsL_law (wsV RL 27 RX5 yX5_addGlass wsX5_addGlass) := goodIn_app (goodIn_of _ (by decide +kernel)) ggL_law_X5_addGlass
set_option maxRecDepth 20000 in
theorem ggL_law_X6_addGlass : GoodIn wsL_law wsX6_addGlass := goodIn_r _ [194, 151, 195, 92, 196, 94, 144, 197, 68, 69, 73, 93, 140, 141, 142, 5, 143, 67, 145, 146, 147, 148, 149, 150, 139, 152, 95, 96, 97, 198, 199, 200, 201, 202, 203, 204, 205, 206, 207, 819, 820, 821, 822, 823, 824, 825, 826, 827, 828, 829, 830, 831, 832, 833, 834, 835, 836] (by decide +kernel) (by decide +kernel)
set_option maxRecDepth 20000 in
theorem gL_law_X6_addGlass : GoodIn wsL_law (wsV RL 30 RX6 yX6_addGlass wsX6_addGlass) := goodIn_app (goodIn_of _ (by decide +kernel)) ggL_law_X6_addGlass
set_option maxRecDepth 20000 in
theorem ggL_law_X5_removeGlass : GoodIn wsL_law wsX5_removeGlass := goodIn_r _ [211, 20, 212, 28, 213, 214, 215, 216, 19, 217, 186, 218, 219, 220, 27, 221, 222, 57, 223, 224, 225, 226, 42, 43, 44, 45, 227, 228, 229, 230, 231, 814, 815, 816, 817, 818, 839, 840, 841, 842, 843, 850, 851, 852] (by decide +kernel) (by decide +kernel)
set_option maxRecDepth 20000 in
theorem gL_law_X5_removeGlass : GoodIn wsL_law (wsV RL 31 RX5 yX5_removeGlass wsX5_removeGlass) := goodIn_app (goodIn_of _ (by decide +kernel)) ggL_law_X5_removeGlass
set_option maxRecDepth 20000 in
theorem ggL_law_X6_removeGlass : GoodIn wsL_law wsX6_removeGlass := goodIn_r _ [235, 236, 237, 70, 238, 196, 68, 69, 239, 240, 241, 5, 242, 95, 96, 97, 819, 820, 821, 822, 823, 824, 825, 826, 827, 828, 829, 830, 831, 832, 833, 834, 835, 836] (by decide +kernel) (by decide +kernel)
set_option maxRecDepth 20000 in
theorem gL_law_X6_removeGlass : GoodIn wsL_law (wsV RL 34 RX6 yX6_removeGlass wsX6_removeGlass) := goodIn_app (goodIn_of _ (by decide +kernel)) ggL_law_X6_removeGlass
set_option maxRecDepth 20000 in
theorem ggL_law_X5_glassCount : GoodIn wsL_law wsX5_glassCount := goodIn_r _ [246, 20, 814, 815, 816, 817, 818, 839, 840, 841, 842, 843] (by decide +kernel) (by decide +kernel)
set_option maxRecDepth 20000 in
theorem gL_law_X5_glassCount : GoodIn wsL_law (wsV RL 35 RX5 yX5_glassCount wsX5_glassCount) := goodIn_app (goodIn_of _ (by decide +kernel)) ggL_law_X5_glassCount
set_option maxRecDepth 20000 in
theorem ggL_law_X6_glassCount : GoodIn wsL_law wsX6_glassCount := goodIn_r _ [250, 196, 819, 820, 821, 822, 823, 824, 825, 826, 827, 828, 829, 830, 831, 832, 833, 834, 835, 836] (by decide +kernel) (by decide +kernel)
set_option maxRecDepth 20000 in
theorem gL_law_X6_glassCount : GoodIn wsL_law (wsV RL 38 RX6 yX6_glassCount wsX6_glassCount) := goodIn_app (goodIn_of _ (by decide +kernel)) ggL_law_X6_glassCount
set_option maxRecDepth 20000 in
theorem ggL_law_X5_index : GoodIn wsL_law wsX5_index := goodIn_r _ [254, 20, 212, 79, 214, 215, 216, 19, 217, 186, 255, 256, 2, 257, 258, 259, 260, 261, 43, 44, 45, 814, 815, 816, 817, 818, 839, 840, 841, 842, 843] (by decide +kernel) (by decide +kernel)
set_option maxRecDepth 20000 in
theorem gL_law_X5_index : GoodIn wsL_law (wsV RL 39 RX5 yX5_index wsX5_index) := goodIn_app (goodIn_of _ (by decide +kernel)) ggL_law_X5_index
set_option maxRecDepth 20000 in
theorem ggL_law_X6_index : GoodIn wsL_law wsX6_index := goodIn_r _ [265, 236, 69, 92, 239, 240, 241, 5, 242, 196, 95, 96, 97, 266, 267, 268, 150, 819, 820, 821, 822, 823, 824, 825, 826, 827, 828, 829, 830, 831, 832, 833, 834, 835, 836] (by decide +kernel) (by decide +kernel)
set_option maxRecDepth 20000 in
theorem gL_law_X6_index : GoodIn wsL_law (wsV RL 43 RX6 yX6_index wsX6_index) := goodIn_app (goodIn_of _ (by decide +kernel)) ggL_law_X6_index
set_option maxRecDepth 20000 in
theorem ggL_law_X5_placeByName : GoodIn wsL_law wsX5_placeByName := goodIn_r _ [272, 20, 212, 214, 215, 216, 19, 217, 186, 273, 274, 275, 276, 42, 814, 815, 816, 817, 818, 839, 840, 841, 842, 843] (by decide +kernel) (by decide +kernel)
set_option maxRecDepth 20000 in
theorem gL_law_X5_placeByName : GoodIn wsL_law (wsV RL 44 RX5 yX5_placeByName wsX5_placeByName) := goodIn_app (goodIn_of _ (by decide +kernel)) ggL_law_X5_placeByName
set_option maxRecDepth 20000 in
theorem ggL_law_X6_placeByName : GoodIn wsL_law wsX6_placeByName := goodIn_r _ [280, 236, 239, 240, 241, 5, 242, 196, 95, 96, 97, 281, 282, 283, 284, 68, 819, 820, 821, 822, 823, 824, 825, 826, 827, 828, 829, 830, 831, 832, 833, 834, 835, 836] (by decide +kernel) (by decide +kernel)
set_option maxRecDepth 20000 in
theorem gL_law_X6_placeByName : GoodIn wsL_law (wsV RL 47 RX6 yX6_placeByName wsX6_placeByName) := goodIn_app (goodIn_of _ (by decide +kernel)) ggL_law_X6_placeByName
set_option maxRecDepth 20000 in
theorem ggL_law_X5_abbe : GoodIn wsL_law wsX5_abbe := goodIn_r _ [288, 20, 212, 214, 215, 216, 19, 217, 186, 289, 290, 291, 292, 293, 294, 295, 296, 297, 44, 298, 299, 300, 301, 302, 43, 45, 303, 2, 304, 305, 306, 307, 308, 814, 815, 816, 817, 818, 839, 840, 841, 842, 843] (by decide +kernel) (by decide +kernel)
set_option maxRecDepth 20000 in
theorem gL_law_X5_abbe : GoodIn wsL_law (wsV RL 48 RX5 yX5_abbe wsX5_abbe) := goodIn_app (goodIn_of _ (by decide +kernel)) ggL_law_X5_abbe
set_option maxRecDepth 20000 in
theorem ggL_law_X6_abbe : GoodIn wsL_law wsX6_abbe := goodIn_r _ [312, 236, 239, 240, 241, 5, 242, 196, 95, 96, 97, 313, 314, 315, 316, 317, 318, 319, 320, 321, 69, 322, 323, 324, 325, 326, 819, 820, 821, 822, 823, 824, 825, 826, 827, 828, 829, 830, 831, 832, 833, 834, 835, 836] (by decide +kernel) (by decide +kernel)
set_option maxRecDepth 20000 in
theorem gL_law_X6_abbe : GoodIn wsL_law (wsV RL 51 RX6 yX6_abbe wsX6_abbe) := goodIn_app (goodIn_of _ (by decide +kernel)) ggL_law_X6_abbe
set_option maxRecDepth 20000 in
theorem ggL_law_X5_partial : GoodIn wsL_law wsX5_partial := goodIn_r _ [330, 20, 212, 331, 214, 215, 216, 19, 217, 186, 332, 333, 334, 335, 43, 44, 336, 300, 301, 302, 45, 337, 303, 2, 304, 305, 306, 307, 308, 814, 815, 816, 817, 818, 839, 840, 841, 842, 843] (by decide +kernel) (by decide +kernel)
set_option maxRecDepth 20000 in
theorem gL_law_X5_partial : GoodIn wsL_law (wsV RL 52 RX5 yX5_partial wsX5_partial) := goodIn_app (goodIn_of _ (by decide +kernel)) ggL_law_X5_partial
set_option maxRecDepth 20000 in
theorem ggL_law_X6_partial : GoodIn wsL_law wsX6_partial := goodIn_r _ [341, 236, 239, 240, 241, 5, 242, 196, 95, 96, 97, 342, 343, 344, 345, 346, 347, 348, 349, 350, 69, 323, 324, 325, 326, 819, 820, 821, 822, 823, 824, 825, 826, 827, 828, 829, 830, 831, 832, 833, 834, 835, 836] (by decide +kernel) (by decide +kernel)
set_option maxRecDepth 20000 in
theorem gL_law_X6_partial : GoodIn wsL_law (wsV RL 55 RX6 yX6_partial wsX6_partial) := goodIn_app (goodIn_of _ (by decide +kernel)) ggL_law_X6_partial
set_option maxRecDepth 20000 in
theorem ggL_law_X5_glassWithAbbe : GoodIn wsL_law wsX5_glassWithAbbe := goodIn_r _ [354, 20, 355, 356, 357, 358, 19, 359, 186, 360, 290, 291, 292, 293, 294, 295, 296, 297, 44, 298, 299, 300, 301, 302, 43, 45, 303, 2, 304, 305, 306, 307, 308, 814, 815, 816, 817, 818, 839, 840, 841, 842, 843] (by decide +kernel) (by decide +kernel)
set_option maxRecDepth 20000 in
theorem gL_law_X5_glassWithAbbe : GoodIn wsL_law (wsV RL 56 RX5 yX5_glassWithAbbe wsX5_glassWithAbbe) := goodIn_app (goodIn_of _ (by decide +kernel)) ggL_law_X5_glassWithAbbe
set_option maxRecDepth 20000 in
theorem ggL_law_X6_glassWithAbbe : GoodIn wsL_law wsX6_glassWithAbbe := goodIn_r _ [364, 196, 365, 313, 314, 315, 5, 316, 317, 318, 319, 320, 321, 69, 322, 323, 324, 325, 326, 819, 820, 821, 822, 823, 824, 825, 826, 827, 828, 829, 830, 831, 832, 833, 834, 835, 836] (by decide +kernel) (by decide +kernel)
set_option maxRecDepth 20000 in
theorem gL_law_X6_glassWithAbbe : GoodIn wsL_law (wsV RL 59 RX6 yX6_glassWithAbbe wsX6_glassWithAbbe) := goodIn_app (goodIn_of _ (by decide +kernel)) ggL_law_X6_glassWithAbbe
set_option maxRecDepth 20000 in
theorem ggL_law_X5_doubletPower : GoodIn wsL_law wsX5_doubletPower := goodIn_r _ [369, 20, 212, 79, 355, 370, 214, 215, 216, 19, 217, 186, 371, 372, 2, 373, 374, 375, 376, 377, 294, 295, 296, 297, 44, 298, 299, 300, 301, 302, 43, 45, 378, 336, 337, 303, 304, 305, 306, 307, 308, 814, 815, 816, 817, 818, 839, 840, 841, 842, 843] (by decide +kernel) (by decide +kernel)
set_option maxRecDepth 20000 in
theorem gL_law_X5_doubletPower : GoodIn wsL_law (wsV RL 60 RX5 yX5_doubletPower wsX5_doubletPower) := goodIn_app (goodIn_of _ (by decide +kernel)) ggL_law_X5_doubletPower
set_option maxRecDepth 20000 in
theorem ggL_law_X6_doubletPower : GoodIn wsL_law wsX6_doubletPower := goodIn_r _ [382, 236, 383, 384, 92, 365, 317, 239, 240, 241, 5, 242, 196, 95, 96, 97, 318, 319, 320, 321, 69, 322, 323, 324, 325, 326, 385, 386, 387, 388, 389, 390, 391, 819, 820, 821, 822, 823, 824, 825, 826, 827, 828, 829, 830, 831, 832, 833, 834, 835, 836] (by decide +kernel) (by decide +kernel)
set_option maxRecDepth 20000 in
theorem gL_law_X6_doubletPower : GoodIn wsL_law (wsV RL 64 RX6 yX6_doubletPower wsX6_doubletPower) := goodIn_app (goodIn_of _ (by decide +kernel)) ggL_law_X6_doubletPower
set_option maxRecDepth 20000 in
theorem ggL_law_X5_secondarySpectrum : GoodIn wsL_law wsX5_secondarySpectrum := goodIn_r _ [395, 20, 212, 79, 355, 396, 214, 215, 216, 19, 217, 186, 371, 372, 2, 373, 374, 375, 376, 377, 294, 295, 296, 297, 44, 298, 299, 300, 301, 302, 43, 45, 397, 398, 399, 400, 401, 333, 334, 335, 337, 303, 304, 305, 306, 307, 308, 814, 815, 816, 817, 818, 839, 840, 841, 842, 843] (by decide +kernel) (by decide +kernel)
set_option maxRecDepth 20000 in
theorem gL_law_X5_secondarySpectrum : GoodIn wsL_law (wsV RL 65 RX5 yX5_secondarySpectrum wsX5_secondarySpectrum) := goodIn_app (goodIn_of _ (by decide +kernel)) ggL_law_X5_secondarySpectrum
set_option maxRecDepth 20000 in
theorem ggL_law_X6_secondarySpectrum : GoodIn wsL_law wsX6_secondarySpectrum := goodIn_r _ [405, 236, 383, 384, 92, 365, 406, 239, 240, 241, 5, 242, 196, 95, 96, 97, 385, 386, 387, 388, 318, 319, 320, 321, 69, 322, 323, 324, 325, 326, 407, 408, 409, 410, 347, 348, 349, 350, 389, 390, 391, 819, 820, 821, 822, 823, 824, 825, 826, 827, 828, 829, 830, 831, 832, 833, 834, 835, 836] (by decide +kernel) (by decide +kernel)
set_option maxRecDepth 20000 in
theorem gL_law_X6_secondarySpectrum : GoodIn wsL_law (wsV RL 69 RX6 yX6_secondarySpectrum wsX6_secondarySpectrum) := goodIn_app (goodIn_of _ (by decide +kernel)) ggL_law_X6_secondarySpectrum
set_option maxRecDepth 20000 in
theorem ggL_law_X5_doubletAt : GoodIn wsL_law wsX5_doubletAt := goodIn_r _ [414, 24, 20, 355, 415, 416, 417, 23, 418, 419, 420, 375, 376, 19, 377, 294, 295, 296, 297, 44, 298, 299, 300, 301, 302, 43, 45, 421, 422, 423, 424, 49, 50, 51, 425, 426, 124, 427, 52, 428, 398, 399, 400, 401, 333, 334, 335, 429, 430, 431, 432, 433, 434, 53, 435, 436, 437, 438, 439, 440, 441, 442, 443, 444, 445, 446, 447, 448, 449, 450, 814, 815, 816, 817, 818, 844, 845, 846, 847, 848, 849, 839, 840, 841, 842, 843] (by decide +kernel) (by decide +kernel)
set_option maxRecDepth 20000 in
theorem gL_law_X5_doubletAt : GoodIn wsL_law (wsV RL 70 RX5 yX5_doubletAt wsX5_doubletAt) := goodIn_app (goodIn_of _ (by decide +kernel)) ggL_law_X5_doubletAt
set_option maxRecDepth 20000 in
theorem ggL_law_X6_doubletAt : GoodIn wsL_law wsX6_doubletAt := goodIn_r _ [454, 455, 456, 457, 5, 458, 365, 459, 460, 461, 462, 463, 464, 465, 196, 466, 467, 468, 469, 385, 386, 387, 388, 318, 319, 320, 321, 69, 322, 323, 324, 325, 326, 95, 96, 97, 470, 471, 472, 473, 474, 475, 476, 477, 407, 408, 409, 410, 347, 348, 349, 350, 478, 479, 480, 481, 482, 483, 484, 485, 486, 487, 819, 820, 821, 822, 823, 824, 825, 826, 827, 828, 829, 830, 831, 832, 833, 834, 835, 836] (by decide +kernel) (by decide +kernel)
set_option maxRecDepth 20000 in
theorem gL_law_X6_doubletAt : GoodIn wsL_law (wsV RL 74 RX6 yX6_doubletAt wsX6_doubletAt) := goodIn_app (goodIn_of _ (by decide +kernel)) ggL_law_X6_doubletAt
set_option maxRecDepth 20000 in
theorem ggL_law_X5_doubletCount : GoodIn wsL_law wsX5_doubletCount := goodIn_r _ [491, 24, 20, 415, 416, 417, 23, 418, 419, 420, 375, 376, 19, 377, 294, 295, 296, 297, 44, 298, 299, 300, 301, 302, 43, 45, 421, 422, 423, 424, 49, 50, 51, 425, 426, 124, 427, 52, 428, 398, 399, 400, 401, 333, 334, 335, 429, 430, 814, 815, 816, 817, 818, 844, 845, 846, 847, 848, 849, 839, 840, 841, 842, 843] (by decide +kernel) (by decide +kernel)
set_option maxRecDepth 20000 in
theorem gL_law_X5_doubletCount : GoodIn wsL_law (wsV RL 75 RX5 yX5_doubletCount wsX5_doubletCount) := goodIn_app (goodIn_of _ (by decide +kernel)) ggL_law_X5_doubletCount
set_option maxRecDepth 20000 in
theorem ggL_law_X6_doubletCount : GoodIn wsL_law wsX6_doubletCount := goodIn_r _ [495, 462, 463, 464, 5, 465, 196, 466, 467, 468, 469, 385, 386, 387, 388, 318, 319, 320, 321, 69, 322, 323, 324, 325, 326, 819, 820, 821, 822, 823, 824, 825, 826, 827, 828, 829, 830, 831, 832, 833, 834, 835, 836] (by decide +kernel) (by decide +kernel)
set_option maxRecDepth 20000 in
theorem gL_law_X6_doubletCount : GoodIn wsL_law (wsV RL 78 RX6 yX6_doubletCount wsX6_doubletCount) := goodIn_app (goodIn_of _ (by decide +kernel)) ggL_law_X6_doubletCount
set_option maxRecDepth 20000 in
theorem ggL_law_X5_tripletPower : GoodIn wsL_law wsX5_tripletPower := goodIn_r _ [499, 20, 212, 158, 79, 355, 214, 215, 216, 19, 217, 186, 371, 372, 2, 373, 500, 501, 502, 503, 294, 295, 296, 297, 44, 298, 504, 398, 399, 400, 299, 300, 301, 302, 43, 45, 401, 333, 334, 335, 337, 303, 304, 305, 306, 307, 308, 814, 815, 816, 817, 818, 839, 840, 841, 842, 843] (by decide +kernel) (by decide +kernel)
set_option maxRecDepth 20000 in
theorem gL_law_X5_tripletPower : GoodIn wsL_law (wsV RL 79 RX5 yX5_tripletPower wsX5_tripletPower) := goodIn_app (goodIn_of _ (by decide +kernel)) ggL_law_X5_tripletPower
set_option maxRecDepth 20000 in
theorem ggL_law_X6_tripletPower : GoodIn wsL_law wsX6_tripletPower := goodIn_r _ [508, 236, 197, 383, 384, 150, 92, 365, 239, 240, 241, 5, 242, 196, 95, 96, 97, 509, 510, 511, 512, 318, 319, 320, 321, 69, 322, 513, 514, 515, 516, 323, 324, 325, 326, 347, 348, 349, 350, 517, 518, 519, 520, 389, 390, 391, 819, 820, 821, 822, 823, 824, 825, 826, 827, 828, 829, 830, 831, 832, 833, 834, 835, 836] (by decide +kernel) (by decide +kernel)
set_option maxRecDepth 20000 in
theorem gL_law_X6_tripletPower : GoodIn wsL_law (wsV RL 83 RX6 yX6_tripletPower wsX6_tripletPower) := goodIn_app (goodIn_of _ (by decide +kernel)) ggL_law_X6_tripletPower
set_option maxRecDepth 20000 in
theorem ggL_law_X5_bestTriplet : GoodIn wsL_law wsX5_bestTriplet := goodIn_r _ [524, 355, 20, 525, 526, 527, 2, 528, 529, 530, 531, 124, 532, 500, 501, 502, 19, 503, 294, 295, 296, 297, 44, 298, 504, 398, 399, 400, 299, 300, 301, 302, 43, 45, 401, 333, 334, 335, 533, 534, 535, 536, 537, 426, 427, 337, 303, 304, 305, 306, 307, 308, 814, 815, 816, 817, 818, 839, 840, 841, 842, 843] (by decide +kernel) (by decide +kernel)
set_option maxRecDepth 20000 in
theorem gL_law_X5_bestTriplet : GoodIn wsL_law (wsV RL 84 RX5 yX5_bestTriplet wsX5_bestTriplet) := goodIn_app (goodIn_of _ (by decide +kernel)) ggL_law_X5_bestTriplet
set_option maxRecDepth 20000 in
theorem ggL_law_X6_bestTriplet : GoodIn wsL_law wsX6_bestTriplet := goodIn_r _ [541, 542, 543, 544, 5, 545, 365, 196, 546, 384, 460, 509, 510, 511, 512, 318, 319, 320, 321, 69, 322, 513, 514, 515, 516, 323, 324, 325, 326, 347, 348, 349, 350, 547, 548, 549, 550, 517, 518, 519, 520, 389, 390, 391, 478, 479, 480, 819, 820, 821, 822, 823, 824, 825, 826, 827, 828, 829, 830, 831, 832, 833, 834, 835, 836] (by decide +kernel) (by decide +kernel)
set_option maxRecDepth 20000 in
theorem gL_law_X6_bestTriplet : GoodIn wsL_law (wsV RL 87 RX6 yX6_bestTriplet wsX6_bestTriplet) := goodIn_app (goodIn_of _ (by decide +kernel)) ggL_law_X6_bestTriplet
set_option maxRecDepth 20000 in
theorem ggL_law_X5_addLens : GoodIn wsL_law wsX5_addLens := goodIn_r _ [554, 20, 212, 555, 556, 79, 28, 80, 214, 215, 216, 19, 217, 186, 557, 558, 559, 27, 560, 222, 57, 58, 814, 815, 816, 817, 818, 850, 851, 852, 839, 840, 841, 842, 843] (by decide +kernel) (by decide +kernel)
set_option maxRecDepth 20000 in
theorem gL_law_X5_addLens : GoodIn wsL_law (wsV RL 88 RX5 yX5_addLens wsX5_addLens) := goodIn_app (goodIn_of _ (by decide +kernel)) ggL_law_X5_addLens
set_option maxRecDepth 20000 in
theorem ggL_law_X6_addLens : GoodIn wsL_law wsX6_addLens := goodIn_r _ [564, 236, 565, 566, 92, 237, 94, 70, 71, 239, 240, 241, 5, 242, 196, 95, 96, 97, 819, 820, 821, 822, 823, 824, 825, 826, 827, 828, 829, 830, 831, 832, 833, 834, 835, 836] (by decide +kernel) (by decide +kernel)
set_option maxRecDepth 20000 in
theorem gL_law_X6_addLens : GoodIn wsL_law (wsV RL 91 RX6 yX6_addLens wsX6_addLens) := goodIn_app (goodIn_of _ (by decide +kernel)) ggL_law_X6_addLens
set_option maxRecDepth 20000 in
theorem ggL_law_X5_removeLens : GoodIn wsL_law wsX5_removeLens := goodIn_r _ [570, 28, 571, 572, 573, 574, 27, 575, 222, 576, 577, 578, 579, 57, 58, 580, 814, 815, 816, 817, 818, 850, 851, 852] (by decide +kernel) (by decide +kernel)
set_option maxRecDepth 20000 in
theorem gL_law_X5_removeLens : GoodIn wsL_law (wsV RL 92 RX5 yX5_removeLens wsX5_removeLens) := goodIn_app (goodIn_of _ (by decide +kernel)) ggL_law_X5_removeLens
set_option maxRecDepth 20000 in
theorem ggL_law_X6_removeLens : GoodIn wsL_law wsX6_removeLens := goodIn_r _ [584, 585, 237, 70, 71, 586, 587, 588, 5, 589, 95, 96, 97, 819, 820, 821, 822, 823, 824, 825, 826, 827, 828, 829, 830, 831, 832, 833, 834, 835, 836] (by decide +kernel) (by decide +kernel)
set_option maxRecDepth 20000 in
theorem gL_law_X6_removeLens : GoodIn wsL_law (wsV RL 95 RX6 yX6_removeLens wsX6_removeLens) := goodIn_app (goodIn_of _ (by decide +kernel)) ggL_law_X6_removeLens
set_option maxRecDepth 20000 in
theorem ggL_law_X5_lensCount : GoodIn wsL_law wsX5_lensCount := goodIn_r _ [593, 28, 814, 815, 816, 817, 818, 850, 851, 852] (by decide +kernel) (by decide +kernel)
set_option maxRecDepth 20000 in
theorem gL_law_X5_lensCount : GoodIn wsL_law (wsV RL 96 RX5 yX5_lensCount wsX5_lensCount) := goodIn_app (goodIn_of _ (by decide +kernel)) ggL_law_X5_lensCount
set_option maxRecDepth 20000 in
theorem ggL_law_X6_lensCount : GoodIn wsL_law wsX6_lensCount := goodIn_r _ [597, 237, 819, 820, 821, 822, 823, 824, 825, 826, 827, 828, 829, 830, 831, 832, 833, 834, 835, 836] (by decide +kernel) (by decide +kernel)
set_option maxRecDepth 20000 in
theorem gL_law_X6_lensCount : GoodIn wsL_law (wsV RL 99 RX6 yX6_lensCount wsX6_lensCount) := goodIn_app (goodIn_of _ (by decide +kernel)) ggL_law_X6_lensCount
set_option maxRecDepth 20000 in
theorem ggL_law_X5_systemPower : GoodIn wsL_law wsX5_systemPower := goodIn_r _ [601, 28, 20, 79, 255, 256, 2, 257, 602, 603, 604, 27, 605, 222, 57, 606, 607, 608, 609, 610, 58, 611, 612, 259, 260, 19, 261, 43, 44, 45, 613, 295, 296, 297, 298, 303, 304, 305, 306, 307, 308, 814, 815, 816, 817, 818, 850, 851, 852, 839, 840, 841, 842, 843] (by decide +kernel) (by decide +kernel)
set_option maxRecDepth 20000 in
theorem gL_law_X5_systemPower : GoodIn wsL_law (wsV RL 100 RX5 yX5_systemPower wsX5_systemPower) := goodIn_app (goodIn_of _ (by decide +kernel)) ggL_law_X5_systemPower
set_option maxRecDepth 20000 in
theorem ggL_law_X6_systemPower : GoodIn wsL_law wsX6_systemPower := goodIn_r _ [617, 92, 266, 267, 5, 268, 150, 95, 96, 97, 618, 619, 620, 621, 237, 70, 622, 623, 624, 625, 71, 317, 69, 322, 318, 319, 320, 321, 389, 390, 391, 819, 820, 821, 822, 823, 824, 825, 826, 827, 828, 829, 830, 831, 832, 833, 834, 835, 836] (by decide +kernel) (by decide +kernel)
set_option maxRecDepth 20000 in
theorem gL_law_X6_systemPower : GoodIn wsL_law (wsV RL 103 RX6 yX6_systemPower wsX6_systemPower) := goodIn_app (goodIn_of _ (by decide +kernel)) ggL_law_X6_systemPower
set_option maxRecDepth 20000 in
theorem ggL_law_X5_balancePower : GoodIn wsL_law wsX5_balancePower := goodIn_r _ [629, 20, 212, 28, 370, 214, 215, 216, 19, 217, 186, 602, 603, 604, 27, 605, 222, 57, 606, 607, 608, 609, 610, 58, 611, 612, 259, 260, 261, 43, 44, 45, 613, 295, 296, 297, 298, 303, 2, 304, 305, 306, 307, 308, 378, 336, 300, 301, 302, 337, 814, 815, 816, 817, 818, 839, 840, 841, 842, 843, 850, 851, 852] (by decide +kernel) (by decide +kernel)
set_option maxRecDepth 20000 in
theorem gL_law_X5_balancePower : GoodIn wsL_law (wsV RL 104 RX5 yX5_balancePower wsX5_balancePower) := goodIn_app (goodIn_of _ (by decide +kernel)) ggL_law_X5_balancePower
set_option maxRecDepth 20000 in
theorem ggL_law_X6_balancePower : GoodIn wsL_law wsX6_balancePower := goodIn_r _ [633, 236, 239, 240, 241, 5, 242, 196, 95, 96, 97, 634, 635, 636, 637, 317, 618, 619, 620, 621, 237, 70, 622, 623, 624, 625, 71, 69, 322, 318, 319, 320, 321, 389, 390, 391, 323, 324, 325, 326, 819, 820, 821, 822, 823, 824, 825, 826, 827, 828, 829, 830, 831, 832, 833, 834, 835, 836] (by decide +kernel) (by decide +kernel)
set_option maxRecDepth 20000 in
theorem gL_law_X6_balancePower : GoodIn wsL_law (wsV RL 107 RX6 yX6_balancePower wsX6_balancePower) := goodIn_app (goodIn_of _ (by decide +kernel)) ggL_law_X6_balancePower
set_option maxRecDepth 20000 in
theorem ggL_law_X5_findWrongGlass : GoodIn wsL_law wsX5_findWrongGlass := goodIn_r _ [641, 79, 28, 20, 355, 642, 643, 2, 644, 645, 646, 602, 603, 604, 27, 605, 222, 57, 606, 607, 608, 609, 610, 58, 611, 612, 259, 260, 19, 261, 43, 44, 45, 613, 295, 296, 297, 298, 303, 304, 305, 306, 307, 308, 647, 648, 649, 650, 537, 426, 124, 427, 651, 652, 653, 654, 655, 656, 657, 658, 814, 815, 816, 817, 818, 850, 851, 852, 839, 840, 841, 842, 843] (by decide +kernel) (by decide +kernel)
set_option maxRecDepth 20000 in
theorem gL_law_X5_findWrongGlass : GoodIn wsL_law (wsV RL 110 RX5 yX5_findWrongGlass wsX5_findWrongGlass) := goodIn_app (goodIn_of _ (by decide +kernel)) ggL_law_X5_findWrongGlass
set_option maxRecDepth 20000 in
theorem ggL_law_X6_findWrongGlass : GoodIn wsL_law wsX6_findWrongGlass := goodIn_r _ [662, 92, 663, 664, 5, 665, 666, 667, 95, 96, 97, 668, 669, 670, 671, 237, 196, 365, 74, 70, 546, 460, 672, 673, 674, 675, 618, 619, 620, 621, 622, 623, 624, 625, 71, 317, 69, 322, 318, 319, 320, 321, 389, 390, 391, 478, 479, 480, 819, 820, 821, 822, 823, 824, 825, 826, 827, 828, 829, 830, 831, 832, 833, 834, 835, 836] (by decide +kernel) (by decide +kernel)
set_option maxRecDepth 20000 in
theorem gL_law_X6_findWrongGlass : GoodIn wsL_law (wsV RL 114 RX6 yX6_findWrongGlass wsX6_findWrongGlass) := goodIn_app (goodIn_of _ (by decide +kernel)) ggL_law_X6_findWrongGlass
set_option maxRecDepth 20000 in
theorem ggL_law_X5_addPlate : GoodIn wsL_law wsX5_addPlate := goodIn_r _ [679, 680, 79, 32, 158, 80, 681, 682, 683, 31, 684, 685, 62, 686, 687, 688, 689, 814, 815, 816, 817, 818, 853, 854] (by decide +kernel) (by decide +kernel)
set_option maxRecDepth 20000 in
theorem gL_law_X5_addPlate : GoodIn wsL_law (wsV RL 115 RX5 yX5_addPlate wsX5_addPlate) := goodIn_app (goodIn_of _ (by decide +kernel)) ggL_law_X5_addPlate
set_option maxRecDepth 20000 in
theorem ggL_law_X6_addPlate : GoodIn wsL_law wsX6_addPlate := goodIn_r _ [693, 317, 406, 92, 694, 72, 197, 94, 95, 96, 5, 97, 819, 820, 821, 822, 823, 824, 825, 826, 827, 828, 829, 830, 831, 832, 833, 834, 835, 836] (by decide +kernel) (by decide +kernel)
set_option maxRecDepth 20000 in
theorem gL_law_X6_addPlate : GoodIn wsL_law (wsV RL 118 RX6 yX6_addPlate wsX6_addPlate) := goodIn_app (goodIn_of _ (by decide +kernel)) ggL_law_X6_addPlate
set_option maxRecDepth 20000 in
theorem ggL_law_X5_plateCount : GoodIn wsL_law wsX5_plateCount := goodIn_r _ [698, 32, 814, 815, 816, 817, 818, 853, 854] (by decide +kernel) (by decide +kernel)
set_option maxRecDepth 20000 in
theorem gL_law_X5_plateCount : GoodIn wsL_law (wsV RL 119 RX5 yX5_plateCount wsX5_plateCount) := goodIn_app (goodIn_of _ (by decide +kernel)) ggL_law_X5_plateCount
set_option maxRecDepth 20000 in
theorem ggL_law_X6_plateCount : GoodIn wsL_law wsX6_plateCount := goodIn_r _ [702, 694, 819, 820, 821, 822, 823, 824, 825, 826, 827, 828, 829, 830, 831, 832, 833, 834, 835, 836] (by decide +kernel) (by decide +kernel)
set_option maxRecDepth 20000 in
theorem gL_law_X6_plateCount : GoodIn wsL_law (wsV RL 122 RX6 yX6_plateCount wsX6_plateCount) := goodIn_app (goodIn_of _ (by decide +kernel)) ggL_law_X6_plateCount
set_option maxRecDepth 20000 in
theorem ggL_law_X5_nearestPlate : GoodIn wsL_law wsX5_nearestPlate := goodIn_r _ [706, 32, 355, 707, 708, 709, 31, 710, 685, 62, 711, 426, 124, 427, 814, 815, 816, 817, 818, 853, 854] (by decide +kernel) (by decide +kernel)
set_option maxRecDepth 20000 in
theorem gL_law_X5_nearestPlate : GoodIn wsL_law (wsV RL 123 RX5 yX5_nearestPlate wsX5_nearestPlate) := goodIn_app (goodIn_of _ (by decide +kernel)) ggL_law_X5_nearestPlate
set_option maxRecDepth 20000 in
theorem ggL_law_X6_nearestPlate : GoodIn wsL_law wsX6_nearestPlate := goodIn_r _ [715, 694, 72, 365, 478, 479, 5, 480, 819, 820, 821, 822, 823, 824, 825, 826, 827, 828, 829, 830, 831, 832, 833, 834, 835, 836] (by decide +kernel) (by decide +kernel)
set_option maxRecDepth 20000 in
theorem gL_law_X6_nearestPlate : GoodIn wsL_law (wsV RL 126 RX6 yX6_nearestPlate wsX6_nearestPlate) := goodIn_app (goodIn_of _ (by decide +kernel)) ggL_law_X6_nearestPlate
set_option maxRecDepth 20000 in
theorem ggL_law_X5_bestSurfaces : GoodIn wsL_law wsX5_bestSurfaces := goodIn_r _ [719, 28, 571, 20, 355, 32, 529, 537, 426, 124, 427, 572, 573, 574, 27, 575, 222, 655, 656, 657, 658, 57, 378, 295, 296, 19, 297, 44, 298, 720, 721, 722, 723, 58, 724, 725, 726, 2, 727, 728, 729, 730, 731, 31, 732, 62, 337, 303, 304, 305, 306, 307, 308, 814, 815, 816, 817, 818, 853, 854, 850, 851, 852, 839, 840, 841, 842, 843] (by decide +kernel) (by decide +kernel)
set_option maxRecDepth 20000 in
theorem gL_law_X5_bestSurfaces : GoodIn wsL_law (wsV RL 127 RX5 yX5_bestSurfaces wsX5_bestSurfaces) := goodIn_app (goodIn_of _ (by decide +kernel)) ggL_law_X5_bestSurfaces
set_option maxRecDepth 20000 in
theorem ggL_law_X6_bestSurfaces : GoodIn wsL_law wsX6_bestSurfaces := goodIn_r _ [736, 585, 586, 587, 588, 5, 589, 237, 95, 96, 97, 737, 738, 739, 740, 365, 694, 546, 70, 71, 317, 741, 742, 743, 744, 745, 72, 746, 747, 748, 749, 566, 318, 319, 320, 321, 69, 322, 389, 390, 391, 478, 479, 480, 819, 820, 821, 822, 823, 824, 825, 826, 827, 828, 829, 830, 831, 832, 833, 834, 835, 836] (by decide +kernel) (by decide +kernel)
set_option maxRecDepth 20000 in
theorem gL_law_X6_bestSurfaces : GoodIn wsL_law (wsV RL 130 RX6 yX6_bestSurfaces wsX6_bestSurfaces) := goodIn_app (goodIn_of _ (by decide +kernel)) ggL_law_X6_bestSurfaces
set_option maxRecDepth 20000 in
theorem ggL_law_X5_surfacePower : GoodIn wsL_law wsX5_surfacePower := goodIn_r _ [753, 20, 212, 79, 32, 214, 215, 216, 19, 217, 186, 754, 755, 756, 31, 757, 685, 378, 295, 296, 297, 44, 298, 724, 725, 726, 2, 727, 728, 729, 730, 731, 732, 62, 337, 303, 304, 305, 306, 307, 308, 814, 815, 816, 817, 818, 839, 840, 841, 842, 843, 853, 854] (by decide +kernel) (by decide +kernel)
set_option maxRecDepth 20000 in
theorem gL_law_X5_surfacePower : GoodIn wsL_law (wsV RL 131 RX5 yX5_surfacePower wsX5_surfacePower) := goodIn_app (goodIn_of _ (by decide +kernel)) ggL_law_X5_surfacePower
set_option maxRecDepth 20000 in
theorem ggL_law_X6_surfacePower : GoodIn wsL_law wsX6_surfacePower := goodIn_r _ [761, 236, 694, 92, 239, 240, 241, 5, 242, 196, 95, 96, 97, 742, 743, 744, 745, 72, 746, 747, 748, 749, 566, 318, 319, 320, 321, 69, 322, 389, 390, 391, 819, 820, 821, 822, 823, 824, 825, 826, 827, 828, 829, 830, 831, 832, 833, 834, 835, 836] (by decide +kernel) (by decide +kernel)
set_option maxRecDepth 20000 in
theorem gL_law_X6_surfacePower : GoodIn wsL_law (wsV RL 134 RX6 yX6_surfacePower wsX6_surfacePower) := goodIn_app (goodIn_of _ (by decide +kernel)) ggL_law_X6_surfacePower
set_option maxRecDepth 20000 in
theorem ggL_law_X5_digest : GoodIn wsL_law wsX5_digest := goodIn_r _ [765, 766, 767, 768, 769, 2, 770, 20, 771, 772, 773, 774, 775, 252, 253, 254, 212, 79, 214, 215, 216, 19, 217, 186, 255, 256, 257, 258, 259, 260, 261, 43, 44, 45, 776, 270, 271, 272, 273, 274, 275, 276, 42, 777, 286, 287, 288, 289, 290, 291, 292, 293, 294, 295, 296, 297, 298, 299, 300, 301, 302, 303, 304, 305, 306, 307, 308, 778, 328, 329, 330, 331, 332, 333, 334, 335, 336, 337, 779, 627, 628, 629, 28, 370, 602, 603, 604, 27, 605, 222, 57, 606, 607, 608, 609, 610, 58, 611, 612, 613, 378, 780, 781, 782, 783, 784, 489, 490, 491, 24, 415, 416, 417, 23, 418, 419, 420, 375, 376, 377, 421, 422, 423, 424, 49, 50, 51, 425, 426, 124, 427, 52, 428, 398, 399, 400, 401, 429, 430, 785, 412, 413, 414, 355, 431, 432, 433, 434, 53, 435, 436, 437, 438, 439, 440, 441, 442, 443, 444, 445, 446, 447, 448, 449, 450, 786, 522, 523, 524, 525, 526, 527, 528, 529, 530, 531, 532, 500, 501, 502, 503, 504, 533, 534, 535, 536, 537, 787, 788, 789, 790, 655, 656, 657, 658, 720, 721, 722, 723, 791, 717, 718, 719, 571, 32, 572, 573, 574, 575, 724, 725, 726, 727, 728, 729, 730, 731, 31, 732, 62, 792, 599, 600, 601, 793, 794, 795, 796, 797, 639, 640, 641, 642, 643, 644, 645, 646, 647, 648, 649, 650, 651, 652, 653, 654, 798, 799, 800, 801, 16, 802, 169, 170, 15, 171, 85, 37, 814, 815, 816, 817, 818, 839, 840, 841, 842, 843, 850, 851, 852, 844, 845, 846, 847, 848, 849, 853, 854, 837, 838] (by decide +kernel) (by decide +kernel)
set_option maxRecDepth 20000 in
theorem gL_law_X5_digest : GoodIn wsL_law (wsV RL 135 RX5 yX5_digest wsX5_digest) := goodIn_app (goodIn_of _ (by decide +kernel)) ggL_law_X5_digest
set_option maxRecDepth 20000 in
theorem ggL_law_X6_digest : GoodIn wsL_law wsX6_digest := goodIn_r _ [806, 807, 808, 196, 69, 237, 70, 71, 694, 72, 93, 67, 809, 810, 811, 5, 812, 813, 281, 282, 283, 284, 68, 313, 314, 315, 316, 317, 318, 319, 320, 321, 322, 323, 324, 325, 326, 342, 343, 344, 345, 346, 347, 348, 349, 350, 634, 635, 636, 637, 618, 619, 620, 621, 622, 623, 624, 625, 389, 390, 391, 462, 463, 464, 465, 466, 467, 468, 469, 385, 386, 387, 388, 455, 456, 457, 458, 365, 459, 460, 461, 95, 96, 97, 470, 471, 472, 473, 474, 475, 476, 477, 407, 408, 409, 410, 478, 479, 480, 481, 482, 483, 484, 485, 486, 487, 542, 543, 544, 545, 546, 384, 509, 510, 511, 512, 513, 514, 515, 516, 547, 548, 549, 550, 517, 518, 519, 520, 737, 738, 739, 740, 741, 742, 743, 744, 745, 746, 747, 748, 749, 566, 668, 669, 670, 671, 74, 672, 673, 674, 675, 819, 820, 821, 822, 823, 824, 825, 826, 827, 828, 829, 830, 831, 832, 833, 834, 835, 836] (by decide +kernel) (by decide +kernel)
set_option maxRecDepth 20000 in
theorem gL_law_X6_digest : GoodIn wsL_law (wsV RL 138 RX6 yX6_digest wsX6_digest) := goodIn_app (goodIn_of _ (by decide +kernel)) ggL_law_X6_digest
theorem dL_law_0 : decode cL_law 0 = .ok (.new 7, 3) := by decide +kernel
theorem dL_law_3 : decode cL_law 3 = .ok (.dup, 1) := by decide +kernel
theorem dL_law_4 : decode cL_law 4 = .ok (.invokespecial 9, 3) := by decide +kernel
theorem dL_law_7 : decode cL_law 7 = .ok (.astore_n 1, 1) := by decide +kernel
theorem dL_law_8 : decode cL_law 8 = .ok (.new 10, 3) := by decide +kernel
theorem dL_law_11 : decode cL_law 11 = .ok (.dup, 1) := by decide +kernel
theorem dL_law_12 : decode cL_law 12 = .ok (.invokespecial 12, 3) := by decide +kernel
theorem dL_law_15 : decode cL_law 15 = .ok (.astore_n 2, 1) := by decide +kernel
theorem dL_law_16 : decode cL_law 16 = .ok (.iconst 0, 1) := by decide +kernel
theorem dL_law_17 : decode cL_law 17 = .ok (.istore_n 3, 1) := by decide +kernel
theorem dL_law_18 : decode cL_law 18 = .ok (.iload_n 3, 1) := by decide +kernel
theorem dL_law_19 : decode cL_law 19 = .ok (.aload_n 0, 1) := by decide +kernel
theorem dL_law_20 : decode cL_law 20 = .ok (.arraylength, 1) := by decide +kernel
theorem dL_law_21 : decode cL_law 21 = .ok (.bipush 7, 2) := by decide +kernel
theorem dL_law_23 : decode cL_law 23 = .ok (.isub, 1) := by decide +kernel
theorem dL_law_24 : decode cL_law 24 = .ok (.if_icmp .gt 1010, 3) := by decide +kernel
theorem dL_law_27 : decode cL_law 27 = .ok (.aload_n 0, 1) := by decide +kernel
theorem dL_law_28 : decode cL_law 28 = .ok (.iload_n 3, 1) := by decide +kernel
theorem dL_law_29 : decode cL_law 29 = .ok (.iaload, 1) := by decide +kernel
theorem dL_law_30 : decode cL_law 30 = .ok (.bipush 31, 2) := by decide +kernel
theorem dL_law_32 : decode cL_law 32 = .ok (.iand, 1) := by decide +kernel
theorem dL_law_33 : decode cL_law 33 = .ok (.tableswitch 995 0 28 #[131, 155, 169, 183, 197, 221, 235, 269, 293, 317, 341, 365, 419, 463, 513, 527, 591, 605, 639, 663, 677, 701, 725, 861, 885, 899, 923, 947, 981], 131) := by decide +kernel
theorem dL_law_164 : decode cL_law 164 = .ok (.aload_n 1, 1) := by decide +kernel
theorem dL_law_165 : decode cL_law 165 = .ok (.aload_n 0, 1) := by decide +kernel
theorem dL_law_166 : decode cL_law 166 = .ok (.iload_n 3, 1) := by decide +kernel
theorem dL_law_167 : decode cL_law 167 = .ok (.iconst 1, 1) := by decide +kernel
theorem dL_law_168 : decode cL_law 168 = .ok (.iadd, 1) := by decide +kernel
theorem dL_law_169 : decode cL_law 169 = .ok (.iaload, 1) := by decide +kernel
theorem dL_law_170 : decode cL_law 170 = .ok (.invokevirtual 13, 3) := by decide +kernel
theorem dL_law_173 : decode cL_law 173 = .ok (.aload_n 2, 1) := by decide +kernel
theorem dL_law_174 : decode cL_law 174 = .ok (.aload_n 0, 1) := by decide +kernel
theorem dL_law_175 : decode cL_law 175 = .ok (.iload_n 3, 1) := by decide +kernel
theorem dL_law_176 : decode cL_law 176 = .ok (.iconst 1, 1) := by decide +kernel
theorem dL_law_177 : decode cL_law 177 = .ok (.iadd, 1) := by decide +kernel
theorem dL_law_178 : decode cL_law 178 = .ok (.iaload, 1) := by decide +kernel
theorem dL_law_179 : decode cL_law 179 = .ok (.invokevirtual 17, 3) := by decide +kernel
theorem dL_law_182 : decode cL_law 182 = .ok (.lcmp, 1) := by decide +kernel
theorem dL_law_183 : decode cL_law 183 = .ok (.ifCond .eq 845, 3) := by decide +kernel
theorem dL_law_186 : decode cL_law 186 = .ok (.iconst 0, 1) := by decide +kernel
theorem dL_law_187 : decode cL_law 187 = .ok (.ireturn, 1) := by decide +kernel
theorem dL_law_188 : decode cL_law 188 = .ok (.aload_n 1, 1) := by decide +kernel
theorem dL_law_189 : decode cL_law 189 = .ok (.invokevirtual 18, 3) := by decide +kernel
theorem dL_law_192 : decode cL_law 192 = .ok (.aload_n 2, 1) := by decide +kernel
theorem dL_law_193 : decode cL_law 193 = .ok (.invokevirtual 22, 3) := by decide +kernel
theorem dL_law_196 : decode cL_law 196 = .ok (.lcmp, 1) := by decide +kernel
theorem dL_law_197 : decode cL_law 197 = .ok (.ifCond .eq 831, 3) := by decide +kernel
theorem dL_law_200 : decode cL_law 200 = .ok (.iconst 0, 1) := by decide +kernel
theorem dL_law_201 : decode cL_law 201 = .ok (.ireturn, 1) := by decide +kernel
theorem dL_law_202 : decode cL_law 202 = .ok (.aload_n 1, 1) := by decide +kernel
theorem dL_law_203 : decode cL_law 203 = .ok (.invokevirtual 23, 3) := by decide +kernel
theorem dL_law_206 : decode cL_law 206 = .ok (.aload_n 2, 1) := by decide +kernel
theorem dL_law_207 : decode cL_law 207 = .ok (.invokevirtual 26, 3) := by decide +kernel
theorem dL_law_210 : decode cL_law 210 = .ok (.lcmp, 1) := by decide +kernel
theorem dL_law_211 : decode cL_law 211 = .ok (.ifCond .eq 817, 3) := by decide +kernel
theorem dL_law_214 : decode cL_law 214 = .ok (.iconst 0, 1) := by decide +kernel
theorem dL_law_215 : decode cL_law 215 = .ok (.ireturn, 1) := by decide +kernel
theorem dL_law_216 : decode cL_law 216 = .ok (.aload_n 1, 1) := by decide +kernel
theorem dL_law_217 : decode cL_law 217 = .ok (.invokevirtual 27, 3) := by decide +kernel
theorem dL_law_220 : decode cL_law 220 = .ok (.aload_n 2, 1) := by decide +kernel
theorem dL_law_221 : decode cL_law 221 = .ok (.invokevirtual 30, 3) := by decide +kernel
theorem dL_law_224 : decode cL_law 224 = .ok (.lcmp, 1) := by decide +kernel
theorem dL_law_225 : decode cL_law 225 = .ok (.ifCond .eq 803, 3) := by decide +kernel
theorem dL_law_228 : decode cL_law 228 = .ok (.iconst 0, 1) := by decide +kernel
theorem dL_law_229 : decode cL_law 229 = .ok (.ireturn, 1) := by decide +kernel
theorem dL_law_230 : decode cL_law 230 = .ok (.aload_n 1, 1) := by decide +kernel
theorem dL_law_231 : decode cL_law 231 = .ok (.aload_n 0, 1) := by decide +kernel
theorem dL_law_232 : decode cL_law 232 = .ok (.iload_n 3, 1) := by decide +kernel
theorem dL_law_233 : decode cL_law 233 = .ok (.iconst 1, 1) := by decide +kernel
theorem dL_law_234 : decode cL_law 234 = .ok (.iadd, 1) := by decide +kernel
theorem dL_law_235 : decode cL_law 235 = .ok (.iaload, 1) := by decide +kernel
theorem dL_law_236 : decode cL_law 236 = .ok (.invokevirtual 31, 3) := by decide +kernel
theorem dL_law_239 : decode cL_law 239 = .ok (.aload_n 2, 1) := by decide +kernel
theorem dL_law_240 : decode cL_law 240 = .ok (.aload_n 0, 1) := by decide +kernel
theorem dL_law_241 : decode cL_law 241 = .ok (.iload_n 3, 1) := by decide +kernel
theorem dL_law_242 : decode cL_law 242 = .ok (.iconst 1, 1) := by decide +kernel
theorem dL_law_243 : decode cL_law 243 = .ok (.iadd, 1) := by decide +kernel
theorem dL_law_244 : decode cL_law 244 = .ok (.iaload, 1) := by decide +kernel
theorem dL_law_245 : decode cL_law 245 = .ok (.invokevirtual 34, 3) := by decide +kernel
theorem dL_law_248 : decode cL_law 248 = .ok (.lcmp, 1) := by decide +kernel
theorem dL_law_249 : decode cL_law 249 = .ok (.ifCond .eq 779, 3) := by decide +kernel
theorem dL_law_252 : decode cL_law 252 = .ok (.iconst 0, 1) := by decide +kernel
theorem dL_law_253 : decode cL_law 253 = .ok (.ireturn, 1) := by decide +kernel
theorem dL_law_254 : decode cL_law 254 = .ok (.aload_n 1, 1) := by decide +kernel
theorem dL_law_255 : decode cL_law 255 = .ok (.invokevirtual 35, 3) := by decide +kernel
theorem dL_law_258 : decode cL_law 258 = .ok (.aload_n 2, 1) := by decide +kernel
theorem dL_law_259 : decode cL_law 259 = .ok (.invokevirtual 38, 3) := by decide +kernel
theorem dL_law_262 : decode cL_law 262 = .ok (.lcmp, 1) := by decide +kernel
theorem dL_law_263 : decode cL_law 263 = .ok (.ifCond .eq 765, 3) := by decide +kernel
theorem dL_law_266 : decode cL_law 266 = .ok (.iconst 0, 1) := by decide +kernel
theorem dL_law_267 : decode cL_law 267 = .ok (.ireturn, 1) := by decide +kernel
theorem dL_law_268 : decode cL_law 268 = .ok (.aload_n 1, 1) := by decide +kernel
theorem dL_law_269 : decode cL_law 269 = .ok (.aload_n 0, 1) := by decide +kernel
theorem dL_law_270 : decode cL_law 270 = .ok (.iload_n 3, 1) := by decide +kernel
theorem dL_law_271 : decode cL_law 271 = .ok (.iconst 1, 1) := by decide +kernel
end
section
theorem dL_law_272 : decode cL_law 272 = .ok (.iadd, 1) := by decide +kernel
theorem dL_law_273 : decode cL_law 273 = .ok (.iaload, 1) := by decide +kernel
theorem dL_law_274 : decode cL_law 274 = .ok (.aload_n 0, 1) := by decide +kernel
theorem dL_law_275 : decode cL_law 275 = .ok (.iload_n 3, 1) := by decide +kernel
theorem dL_law_276 : decode cL_law 276 = .ok (.iconst 2, 1) := by decide +kernel
theorem dL_law_277 : decode cL_law 277 = .ok (.iadd, 1) := by decide +kernel
theorem dL_law_278 : decode cL_law 278 = .ok (.iaload, 1) := by decide +kernel
theorem dL_law_279 : decode cL_law 279 = .ok (.invokevirtual 39, 3) := by decide +kernel
theorem dL_law_282 : decode cL_law 282 = .ok (.aload_n 2, 1) := by decide +kernel
theorem dL_law_283 : decode cL_law 283 = .ok (.aload_n 0, 1) := by decide +kernel
theorem dL_law_284 : decode cL_law 284 = .ok (.iload_n 3, 1) := by decide +kernel
theorem dL_law_285 : decode cL_law 285 = .ok (.iconst 1, 1) := by decide +kernel
theorem dL_law_286 : decode cL_law 286 = .ok (.iadd, 1) := by decide +kernel
theorem dL_law_287 : decode cL_law 287 = .ok (.iaload, 1) := by decide +kernel
theorem dL_law_288 : decode cL_law 288 = .ok (.aload_n 0, 1) := by decide +kernel
theorem dL_law_289 : decode cL_law 289 = .ok (.iload_n 3, 1) := by decide +kernel
theorem dL_law_290 : decode cL_law 290 = .ok (.iconst 2, 1) := by decide +kernel
theorem dL_law_291 : decode cL_law 291 = .ok (.iadd, 1) := by decide +kernel
theorem dL_law_292 : decode cL_law 292 = .ok (.iaload, 1) := by decide +kernel
theorem dL_law_293 : decode cL_law 293 = .ok (.invokevirtual 43, 3) := by decide +kernel
theorem dL_law_296 : decode cL_law 296 = .ok (.lcmp, 1) := by decide +kernel
theorem dL_law_297 : decode cL_law 297 = .ok (.ifCond .eq 731, 3) := by decide +kernel
theorem dL_law_300 : decode cL_law 300 = .ok (.iconst 0, 1) := by decide +kernel
theorem dL_law_301 : decode cL_law 301 = .ok (.ireturn, 1) := by decide +kernel
theorem dL_law_302 : decode cL_law 302 = .ok (.aload_n 1, 1) := by decide +kernel
theorem dL_law_303 : decode cL_law 303 = .ok (.aload_n 0, 1) := by decide +kernel
theorem dL_law_304 : decode cL_law 304 = .ok (.iload_n 3, 1) := by decide +kernel
theorem dL_law_305 : decode cL_law 305 = .ok (.iconst 1, 1) := by decide +kernel
theorem dL_law_306 : decode cL_law 306 = .ok (.iadd, 1) := by decide +kernel
theorem dL_law_307 : decode cL_law 307 = .ok (.iaload, 1) := by decide +kernel
theorem dL_law_308 : decode cL_law 308 = .ok (.invokevirtual 44, 3) := by decide +kernel
theorem dL_law_311 : decode cL_law 311 = .ok (.aload_n 2, 1) := by decide +kernel
theorem dL_law_312 : decode cL_law 312 = .ok (.aload_n 0, 1) := by decide +kernel
theorem dL_law_313 : decode cL_law 313 = .ok (.iload_n 3, 1) := by decide +kernel
theorem dL_law_314 : decode cL_law 314 = .ok (.iconst 1, 1) := by decide +kernel
theorem dL_law_315 : decode cL_law 315 = .ok (.iadd, 1) := by decide +kernel
theorem dL_law_316 : decode cL_law 316 = .ok (.iaload, 1) := by decide +kernel
theorem dL_law_317 : decode cL_law 317 = .ok (.invokevirtual 47, 3) := by decide +kernel
theorem dL_law_320 : decode cL_law 320 = .ok (.lcmp, 1) := by decide +kernel
theorem dL_law_321 : decode cL_law 321 = .ok (.ifCond .eq 707, 3) := by decide +kernel
theorem dL_law_324 : decode cL_law 324 = .ok (.iconst 0, 1) := by decide +kernel
theorem dL_law_325 : decode cL_law 325 = .ok (.ireturn, 1) := by decide +kernel
theorem dL_law_326 : decode cL_law 326 = .ok (.aload_n 1, 1) := by decide +kernel
theorem dL_law_327 : decode cL_law 327 = .ok (.aload_n 0, 1) := by decide +kernel
theorem dL_law_328 : decode cL_law 328 = .ok (.iload_n 3, 1) := by decide +kernel
theorem dL_law_329 : decode cL_law 329 = .ok (.iconst 1, 1) := by decide +kernel
theorem dL_law_330 : decode cL_law 330 = .ok (.iadd, 1) := by decide +kernel
theorem dL_law_331 : decode cL_law 331 = .ok (.iaload, 1) := by decide +kernel
theorem dL_law_332 : decode cL_law 332 = .ok (.invokevirtual 48, 3) := by decide +kernel
theorem dL_law_335 : decode cL_law 335 = .ok (.aload_n 2, 1) := by decide +kernel
theorem dL_law_336 : decode cL_law 336 = .ok (.aload_n 0, 1) := by decide +kernel
theorem dL_law_337 : decode cL_law 337 = .ok (.iload_n 3, 1) := by decide +kernel
theorem dL_law_338 : decode cL_law 338 = .ok (.iconst 1, 1) := by decide +kernel
theorem dL_law_339 : decode cL_law 339 = .ok (.iadd, 1) := by decide +kernel
theorem dL_law_340 : decode cL_law 340 = .ok (.iaload, 1) := by decide +kernel
theorem dL_law_341 : decode cL_law 341 = .ok (.invokevirtual 51, 3) := by decide +kernel
theorem dL_law_344 : decode cL_law 344 = .ok (.lcmp, 1) := by decide +kernel
theorem dL_law_345 : decode cL_law 345 = .ok (.ifCond .eq 683, 3) := by decide +kernel
theorem dL_law_348 : decode cL_law 348 = .ok (.iconst 0, 1) := by decide +kernel
theorem dL_law_349 : decode cL_law 349 = .ok (.ireturn, 1) := by decide +kernel
theorem dL_law_350 : decode cL_law 350 = .ok (.aload_n 1, 1) := by decide +kernel
theorem dL_law_351 : decode cL_law 351 = .ok (.aload_n 0, 1) := by decide +kernel
theorem dL_law_352 : decode cL_law 352 = .ok (.iload_n 3, 1) := by decide +kernel
theorem dL_law_353 : decode cL_law 353 = .ok (.iconst 1, 1) := by decide +kernel
theorem dL_law_354 : decode cL_law 354 = .ok (.iadd, 1) := by decide +kernel
theorem dL_law_355 : decode cL_law 355 = .ok (.iaload, 1) := by decide +kernel
theorem dL_law_356 : decode cL_law 356 = .ok (.invokevirtual 52, 3) := by decide +kernel
theorem dL_law_359 : decode cL_law 359 = .ok (.aload_n 2, 1) := by decide +kernel
theorem dL_law_360 : decode cL_law 360 = .ok (.aload_n 0, 1) := by decide +kernel
theorem dL_law_361 : decode cL_law 361 = .ok (.iload_n 3, 1) := by decide +kernel
theorem dL_law_362 : decode cL_law 362 = .ok (.iconst 1, 1) := by decide +kernel
theorem dL_law_363 : decode cL_law 363 = .ok (.iadd, 1) := by decide +kernel
theorem dL_law_364 : decode cL_law 364 = .ok (.iaload, 1) := by decide +kernel
theorem dL_law_365 : decode cL_law 365 = .ok (.invokevirtual 55, 3) := by decide +kernel
theorem dL_law_368 : decode cL_law 368 = .ok (.lcmp, 1) := by decide +kernel
theorem dL_law_369 : decode cL_law 369 = .ok (.ifCond .eq 659, 3) := by decide +kernel
theorem dL_law_372 : decode cL_law 372 = .ok (.iconst 0, 1) := by decide +kernel
theorem dL_law_373 : decode cL_law 373 = .ok (.ireturn, 1) := by decide +kernel
theorem dL_law_374 : decode cL_law 374 = .ok (.aload_n 1, 1) := by decide +kernel
theorem dL_law_375 : decode cL_law 375 = .ok (.aload_n 0, 1) := by decide +kernel
theorem dL_law_376 : decode cL_law 376 = .ok (.iload_n 3, 1) := by decide +kernel
theorem dL_law_377 : decode cL_law 377 = .ok (.iconst 1, 1) := by decide +kernel
theorem dL_law_378 : decode cL_law 378 = .ok (.iadd, 1) := by decide +kernel
theorem dL_law_379 : decode cL_law 379 = .ok (.iaload, 1) := by decide +kernel
theorem dL_law_380 : decode cL_law 380 = .ok (.invokevirtual 56, 3) := by decide +kernel
theorem dL_law_383 : decode cL_law 383 = .ok (.aload_n 2, 1) := by decide +kernel
theorem dL_law_384 : decode cL_law 384 = .ok (.aload_n 0, 1) := by decide +kernel
theorem dL_law_385 : decode cL_law 385 = .ok (.iload_n 3, 1) := by decide +kernel
theorem dL_law_386 : decode cL_law 386 = .ok (.iconst 1, 1) := by decide +kernel
theorem dL_law_387 : decode cL_law 387 = .ok (.iadd, 1) := by decide +kernel
theorem dL_law_388 : decode cL_law 388 = .ok (.iaload, 1) := by decide +kernel
theorem dL_law_389 : decode cL_law 389 = .ok (.invokevirtual 59, 3) := by decide +kernel
theorem dL_law_392 : decode cL_law 392 = .ok (.lcmp, 1) := by decide +kernel
theorem dL_law_393 : decode cL_law 393 = .ok (.ifCond .eq 635, 3) := by decide +kernel
theorem dL_law_396 : decode cL_law 396 = .ok (.iconst 0, 1) := by decide +kernel
theorem dL_law_397 : decode cL_law 397 = .ok (.ireturn, 1) := by decide +kernel
theorem dL_law_398 : decode cL_law 398 = .ok (.aload_n 1, 1) := by decide +kernel
theorem dL_law_399 : decode cL_law 399 = .ok (.aload_n 0, 1) := by decide +kernel
theorem dL_law_400 : decode cL_law 400 = .ok (.iload_n 3, 1) := by decide +kernel
theorem dL_law_401 : decode cL_law 401 = .ok (.iconst 1, 1) := by decide +kernel
theorem dL_law_402 : decode cL_law 402 = .ok (.iadd, 1) := by decide +kernel
theorem dL_law_403 : decode cL_law 403 = .ok (.iaload, 1) := by decide +kernel
theorem dL_law_404 : decode cL_law 404 = .ok (.aload_n 0, 1) := by decide +kernel
theorem dL_law_405 : decode cL_law 405 = .ok (.iload_n 3, 1) := by decide +kernel
theorem dL_law_406 : decode cL_law 406 = .ok (.iconst 2, 1) := by decide +kernel
theorem dL_law_407 : decode cL_law 407 = .ok (.iadd, 1) := by decide +kernel
theorem dL_law_408 : decode cL_law 408 = .ok (.iaload, 1) := by decide +kernel
theorem dL_law_409 : decode cL_law 409 = .ok (.aload_n 0, 1) := by decide +kernel
theorem dL_law_410 : decode cL_law 410 = .ok (.iload_n 3, 1) := by decide +kernel
theorem dL_law_411 : decode cL_law 411 = .ok (.iconst 3, 1) := by decide +kernel
theorem dL_law_412 : decode cL_law 412 = .ok (.iadd, 1) := by decide +kernel
theorem dL_law_413 : decode cL_law 413 = .ok (.iaload, 1) := by decide +kernel
theorem dL_law_414 : decode cL_law 414 = .ok (.aload_n 0, 1) := by decide +kernel
theorem dL_law_415 : decode cL_law 415 = .ok (.iload_n 3, 1) := by decide +kernel
theorem dL_law_416 : decode cL_law 416 = .ok (.iconst 4, 1) := by decide +kernel
theorem dL_law_417 : decode cL_law 417 = .ok (.iadd, 1) := by decide +kernel
theorem dL_law_418 : decode cL_law 418 = .ok (.iaload, 1) := by decide +kernel
theorem dL_law_419 : decode cL_law 419 = .ok (.invokevirtual 60, 3) := by decide +kernel
theorem dL_law_422 : decode cL_law 422 = .ok (.aload_n 2, 1) := by decide +kernel
theorem dL_law_423 : decode cL_law 423 = .ok (.aload_n 0, 1) := by decide +kernel
theorem dL_law_424 : decode cL_law 424 = .ok (.iload_n 3, 1) := by decide +kernel
theorem dL_law_425 : decode cL_law 425 = .ok (.iconst 1, 1) := by decide +kernel
theorem dL_law_426 : decode cL_law 426 = .ok (.iadd, 1) := by decide +kernel
theorem dL_law_427 : decode cL_law 427 = .ok (.iaload, 1) := by decide +kernel
theorem dL_law_428 : decode cL_law 428 = .ok (.aload_n 0, 1) := by decide +kernel
theorem dL_law_429 : decode cL_law 429 = .ok (.iload_n 3, 1) := by decide +kernel
theorem dL_law_430 : decode cL_law 430 = .ok (.iconst 2, 1) := by decide +kernel
theorem dL_law_431 : decode cL_law 431 = .ok (.iadd, 1) := by decide +kernel
theorem dL_law_432 : decode cL_law 432 = .ok (.iaload, 1) := by decide +kernel
theorem dL_law_433 : decode cL_law 433 = .ok (.aload_n 0, 1) := by decide +kernel
theorem dL_law_434 : decode cL_law 434 = .ok (.iload_n 3, 1) := by decide +kernel
theorem dL_law_435 : decode cL_law 435 = .ok (.iconst 3, 1) := by decide +kernel
theorem dL_law_436 : decode cL_law 436 = .ok (.iadd, 1) := by decide +kernel
theorem dL_law_437 : decode cL_law 437 = .ok (.iaload, 1) := by decide +kernel
theorem dL_law_438 : decode cL_law 438 = .ok (.aload_n 0, 1) := by decide +kernel
theorem dL_law_439 : decode cL_law 439 = .ok (.iload_n 3, 1) := by decide +kernel
theorem dL_law_440 : decode cL_law 440 = .ok (.iconst 4, 1) := by decide +kernel
theorem dL_law_441 : decode cL_law 441 = .ok (.iadd, 1) := by decide +kernel
theorem dL_law_442 : decode cL_law 442 = .ok (.iaload, 1) := by decide +kernel
theorem dL_law_443 : decode cL_law 443 = .ok (.invokevirtual 64, 3) := by decide +kernel
theorem dL_law_446 : decode cL_law 446 = .ok (.lcmp, 1) := by decide +kernel
theorem dL_law_447 : decode cL_law 447 = .ok (.ifCond .eq 581, 3) := by decide +kernel
theorem dL_law_450 : decode cL_law 450 = .ok (.iconst 0, 1) := by decide +kernel
theorem dL_law_451 : decode cL_law 451 = .ok (.ireturn, 1) := by decide +kernel
theorem dL_law_452 : decode cL_law 452 = .ok (.aload_n 1, 1) := by decide +kernel
theorem dL_law_453 : decode cL_law 453 = .ok (.aload_n 0, 1) := by decide +kernel
theorem dL_law_454 : decode cL_law 454 = .ok (.iload_n 3, 1) := by decide +kernel
theorem dL_law_455 : decode cL_law 455 = .ok (.iconst 1, 1) := by decide +kernel
theorem dL_law_456 : decode cL_law 456 = .ok (.iadd, 1) := by decide +kernel
theorem dL_law_457 : decode cL_law 457 = .ok (.iaload, 1) := by decide +kernel
theorem dL_law_458 : decode cL_law 458 = .ok (.aload_n 0, 1) := by decide +kernel
theorem dL_law_459 : decode cL_law 459 = .ok (.iload_n 3, 1) := by decide +kernel
theorem dL_law_460 : decode cL_law 460 = .ok (.iconst 2, 1) := by decide +kernel
theorem dL_law_461 : decode cL_law 461 = .ok (.iadd, 1) := by decide +kernel
theorem dL_law_462 : decode cL_law 462 = .ok (.iaload, 1) := by decide +kernel
theorem dL_law_463 : decode cL_law 463 = .ok (.aload_n 0, 1) := by decide +kernel
theorem dL_law_464 : decode cL_law 464 = .ok (.iload_n 3, 1) := by decide +kernel
theorem dL_law_465 : decode cL_law 465 = .ok (.iconst 3, 1) := by decide +kernel
theorem dL_law_466 : decode cL_law 466 = .ok (.iadd, 1) := by decide +kernel
theorem dL_law_467 : decode cL_law 467 = .ok (.iaload, 1) := by decide +kernel
theorem dL_law_468 : decode cL_law 468 = .ok (.invokevirtual 65, 3) := by decide +kernel
theorem dL_law_471 : decode cL_law 471 = .ok (.aload_n 2, 1) := by decide +kernel
theorem dL_law_472 : decode cL_law 472 = .ok (.aload_n 0, 1) := by decide +kernel
theorem dL_law_473 : decode cL_law 473 = .ok (.iload_n 3, 1) := by decide +kernel
theorem dL_law_474 : decode cL_law 474 = .ok (.iconst 1, 1) := by decide +kernel
theorem dL_law_475 : decode cL_law 475 = .ok (.iadd, 1) := by decide +kernel
theorem dL_law_476 : decode cL_law 476 = .ok (.iaload, 1) := by decide +kernel
theorem dL_law_477 : decode cL_law 477 = .ok (.aload_n 0, 1) := by decide +kernel
theorem dL_law_478 : decode cL_law 478 = .ok (.iload_n 3, 1) := by decide +kernel
theorem dL_law_479 : decode cL_law 479 = .ok (.iconst 2, 1) := by decide +kernel
theorem dL_law_480 : decode cL_law 480 = .ok (.iadd, 1) := by decide +kernel
theorem dL_law_481 : decode cL_law 481 = .ok (.iaload, 1) := by decide +kernel
theorem dL_law_482 : decode cL_law 482 = .ok (.aload_n 0, 1) := by decide +kernel
theorem dL_law_483 : decode cL_law 483 = .ok (.iload_n 3, 1) := by decide +kernel
theorem dL_law_484 : decode cL_law 484 = .ok (.iconst 3, 1) := by decide +kernel
theorem dL_law_485 : decode cL_law 485 = .ok (.iadd, 1) := by decide +kernel
theorem dL_law_486 : decode cL_law 486 = .ok (.iaload, 1) := by decide +kernel
theorem dL_law_487 : decode cL_law 487 = .ok (.invokevirtual 69, 3) := by decide +kernel
theorem dL_law_490 : decode cL_law 490 = .ok (.lcmp, 1) := by decide +kernel
theorem dL_law_491 : decode cL_law 491 = .ok (.ifCond .eq 537, 3) := by decide +kernel
theorem dL_law_494 : decode cL_law 494 = .ok (.iconst 0, 1) := by decide +kernel
theorem dL_law_495 : decode cL_law 495 = .ok (.ireturn, 1) := by decide +kernel
theorem dL_law_496 : decode cL_law 496 = .ok (.aload_n 1, 1) := by decide +kernel
theorem dL_law_497 : decode cL_law 497 = .ok (.aload_n 0, 1) := by decide +kernel
theorem dL_law_498 : decode cL_law 498 = .ok (.iload_n 3, 1) := by decide +kernel
theorem dL_law_499 : decode cL_law 499 = .ok (.iconst 1, 1) := by decide +kernel
theorem dL_law_500 : decode cL_law 500 = .ok (.iadd, 1) := by decide +kernel
theorem dL_law_501 : decode cL_law 501 = .ok (.iaload, 1) := by decide +kernel
theorem dL_law_502 : decode cL_law 502 = .ok (.ifCond .eq 7, 3) := by decide +kernel
theorem dL_law_505 : decode cL_law 505 = .ok (.iconst 1, 1) := by decide +kernel
theorem dL_law_506 : decode cL_law 506 = .ok (.goto 4, 3) := by decide +kernel
theorem dL_law_509 : decode cL_law 509 = .ok (.iconst 0, 1) := by decide +kernel
theorem dL_law_510 : decode cL_law 510 = .ok (.aload_n 0, 1) := by decide +kernel
theorem dL_law_511 : decode cL_law 511 = .ok (.iload_n 3, 1) := by decide +kernel
theorem dL_law_512 : decode cL_law 512 = .ok (.iconst 2, 1) := by decide +kernel
theorem dL_law_513 : decode cL_law 513 = .ok (.iadd, 1) := by decide +kernel
theorem dL_law_514 : decode cL_law 514 = .ok (.iaload, 1) := by decide +kernel
theorem dL_law_515 : decode cL_law 515 = .ok (.invokevirtual 70, 3) := by decide +kernel
theorem dL_law_518 : decode cL_law 518 = .ok (.aload_n 2, 1) := by decide +kernel
theorem dL_law_519 : decode cL_law 519 = .ok (.aload_n 0, 1) := by decide +kernel
theorem dL_law_520 : decode cL_law 520 = .ok (.iload_n 3, 1) := by decide +kernel
theorem dL_law_521 : decode cL_law 521 = .ok (.iconst 1, 1) := by decide +kernel
theorem dL_law_522 : decode cL_law 522 = .ok (.iadd, 1) := by decide +kernel
theorem dL_law_523 : decode cL_law 523 = .ok (.iaload, 1) := by decide +kernel
theorem dL_law_524 : decode cL_law 524 = .ok (.ifCond .eq 7, 3) := by decide +kernel
theorem dL_law_527 : decode cL_law 527 = .ok (.iconst 1, 1) := by decide +kernel
theorem dL_law_528 : decode cL_law 528 = .ok (.goto 4, 3) := by decide +kernel
theorem dL_law_531 : decode cL_law 531 = .ok (.iconst 0, 1) := by decide +kernel
theorem dL_law_532 : decode cL_law 532 = .ok (.aload_n 0, 1) := by decide +kernel
theorem dL_law_533 : decode cL_law 533 = .ok (.iload_n 3, 1) := by decide +kernel
theorem dL_law_534 : decode cL_law 534 = .ok (.iconst 2, 1) := by decide +kernel
theorem dL_law_535 : decode cL_law 535 = .ok (.iadd, 1) := by decide +kernel
theorem dL_law_536 : decode cL_law 536 = .ok (.iaload, 1) := by decide +kernel
theorem dL_law_537 : decode cL_law 537 = .ok (.invokevirtual 74, 3) := by decide +kernel
theorem dL_law_540 : decode cL_law 540 = .ok (.lcmp, 1) := by decide +kernel
theorem dL_law_541 : decode cL_law 541 = .ok (.ifCond .eq 487, 3) := by decide +kernel
theorem dL_law_544 : decode cL_law 544 = .ok (.iconst 0, 1) := by decide +kernel
theorem dL_law_545 : decode cL_law 545 = .ok (.ireturn, 1) := by decide +kernel
theorem dL_law_546 : decode cL_law 546 = .ok (.aload_n 1, 1) := by decide +kernel
theorem dL_law_547 : decode cL_law 547 = .ok (.invokevirtual 75, 3) := by decide +kernel
theorem dL_law_550 : decode cL_law 550 = .ok (.aload_n 2, 1) := by decide +kernel
theorem dL_law_551 : decode cL_law 551 = .ok (.invokevirtual 78, 3) := by decide +kernel
theorem dL_law_554 : decode cL_law 554 = .ok (.lcmp, 1) := by decide +kernel
theorem dL_law_555 : decode cL_law 555 = .ok (.ifCond .eq 473, 3) := by decide +kernel
theorem dL_law_558 : decode cL_law 558 = .ok (.iconst 0, 1) := by decide +kernel
theorem dL_law_559 : decode cL_law 559 = .ok (.ireturn, 1) := by decide +kernel
theorem dL_law_560 : decode cL_law 560 = .ok (.aload_n 1, 1) := by decide +kernel
theorem dL_law_561 : decode cL_law 561 = .ok (.aload_n 0, 1) := by decide +kernel
theorem dL_law_562 : decode cL_law 562 = .ok (.iload_n 3, 1) := by decide +kernel
theorem dL_law_563 : decode cL_law 563 = .ok (.iconst 1, 1) := by decide +kernel
theorem dL_law_564 : decode cL_law 564 = .ok (.iadd, 1) := by decide +kernel
theorem dL_law_565 : decode cL_law 565 = .ok (.iaload, 1) := by decide +kernel
theorem dL_law_566 : decode cL_law 566 = .ok (.aload_n 0, 1) := by decide +kernel
theorem dL_law_567 : decode cL_law 567 = .ok (.iload_n 3, 1) := by decide +kernel
theorem dL_law_568 : decode cL_law 568 = .ok (.iconst 2, 1) := by decide +kernel
theorem dL_law_569 : decode cL_law 569 = .ok (.iadd, 1) := by decide +kernel
theorem dL_law_570 : decode cL_law 570 = .ok (.iaload, 1) := by decide +kernel
theorem dL_law_571 : decode cL_law 571 = .ok (.aload_n 0, 1) := by decide +kernel
theorem dL_law_572 : decode cL_law 572 = .ok (.iload_n 3, 1) := by decide +kernel
theorem dL_law_573 : decode cL_law 573 = .ok (.iconst 3, 1) := by decide +kernel
theorem dL_law_574 : decode cL_law 574 = .ok (.iadd, 1) := by decide +kernel
theorem dL_law_575 : decode cL_law 575 = .ok (.iaload, 1) := by decide +kernel
theorem dL_law_576 : decode cL_law 576 = .ok (.aload_n 0, 1) := by decide +kernel
theorem dL_law_577 : decode cL_law 577 = .ok (.iload_n 3, 1) := by decide +kernel
theorem dL_law_578 : decode cL_law 578 = .ok (.iconst 4, 1) := by decide +kernel
theorem dL_law_579 : decode cL_law 579 = .ok (.iadd, 1) := by decide +kernel
theorem dL_law_580 : decode cL_law 580 = .ok (.iaload, 1) := by decide +kernel
theorem dL_law_581 : decode cL_law 581 = .ok (.aload_n 0, 1) := by decide +kernel
theorem dL_law_582 : decode cL_law 582 = .ok (.iload_n 3, 1) := by decide +kernel
theorem dL_law_583 : decode cL_law 583 = .ok (.iconst 5, 1) := by decide +kernel
theorem dL_law_584 : decode cL_law 584 = .ok (.iadd, 1) := by decide +kernel
theorem dL_law_585 : decode cL_law 585 = .ok (.iaload, 1) := by decide +kernel
theorem dL_law_586 : decode cL_law 586 = .ok (.invokevirtual 79, 3) := by decide +kernel
theorem dL_law_589 : decode cL_law 589 = .ok (.aload_n 2, 1) := by decide +kernel
theorem dL_law_590 : decode cL_law 590 = .ok (.aload_n 0, 1) := by decide +kernel
theorem dL_law_591 : decode cL_law 591 = .ok (.iload_n 3, 1) := by decide +kernel
theorem dL_law_592 : decode cL_law 592 = .ok (.iconst 1, 1) := by decide +kernel
theorem dL_law_593 : decode cL_law 593 = .ok (.iadd, 1) := by decide +kernel
theorem dL_law_594 : decode cL_law 594 = .ok (.iaload, 1) := by decide +kernel
theorem dL_law_595 : decode cL_law 595 = .ok (.aload_n 0, 1) := by decide +kernel
theorem dL_law_596 : decode cL_law 596 = .ok (.iload_n 3, 1) := by decide +kernel
theorem dL_law_597 : decode cL_law 597 = .ok (.iconst 2, 1) := by decide +kernel
theorem dL_law_598 : decode cL_law 598 = .ok (.iadd, 1) := by decide +kernel
theorem dL_law_599 : decode cL_law 599 = .ok (.iaload, 1) := by decide +kernel
theorem dL_law_600 : decode cL_law 600 = .ok (.aload_n 0, 1) := by decide +kernel
theorem dL_law_601 : decode cL_law 601 = .ok (.iload_n 3, 1) := by decide +kernel
theorem dL_law_602 : decode cL_law 602 = .ok (.iconst 3, 1) := by decide +kernel
theorem dL_law_603 : decode cL_law 603 = .ok (.iadd, 1) := by decide +kernel
theorem dL_law_604 : decode cL_law 604 = .ok (.iaload, 1) := by decide +kernel
theorem dL_law_605 : decode cL_law 605 = .ok (.aload_n 0, 1) := by decide +kernel
theorem dL_law_606 : decode cL_law 606 = .ok (.iload_n 3, 1) := by decide +kernel
theorem dL_law_607 : decode cL_law 607 = .ok (.iconst 4, 1) := by decide +kernel
theorem dL_law_608 : decode cL_law 608 = .ok (.iadd, 1) := by decide +kernel
theorem dL_law_609 : decode cL_law 609 = .ok (.iaload, 1) := by decide +kernel
theorem dL_law_610 : decode cL_law 610 = .ok (.aload_n 0, 1) := by decide +kernel
theorem dL_law_611 : decode cL_law 611 = .ok (.iload_n 3, 1) := by decide +kernel
theorem dL_law_612 : decode cL_law 612 = .ok (.iconst 5, 1) := by decide +kernel
theorem dL_law_613 : decode cL_law 613 = .ok (.iadd, 1) := by decide +kernel
theorem dL_law_614 : decode cL_law 614 = .ok (.iaload, 1) := by decide +kernel
theorem dL_law_615 : decode cL_law 615 = .ok (.invokevirtual 83, 3) := by decide +kernel
theorem dL_law_618 : decode cL_law 618 = .ok (.lcmp, 1) := by decide +kernel
theorem dL_law_619 : decode cL_law 619 = .ok (.ifCond .eq 409, 3) := by decide +kernel
theorem dL_law_622 : decode cL_law 622 = .ok (.iconst 0, 1) := by decide +kernel
theorem dL_law_623 : decode cL_law 623 = .ok (.ireturn, 1) := by decide +kernel
theorem dL_law_624 : decode cL_law 624 = .ok (.aload_n 1, 1) := by decide +kernel
theorem dL_law_625 : decode cL_law 625 = .ok (.invokevirtual 84, 3) := by decide +kernel
theorem dL_law_628 : decode cL_law 628 = .ok (.aload_n 2, 1) := by decide +kernel
theorem dL_law_629 : decode cL_law 629 = .ok (.invokevirtual 87, 3) := by decide +kernel
theorem dL_law_632 : decode cL_law 632 = .ok (.lcmp, 1) := by decide +kernel
theorem dL_law_633 : decode cL_law 633 = .ok (.ifCond .eq 395, 3) := by decide +kernel
theorem dL_law_636 : decode cL_law 636 = .ok (.iconst 0, 1) := by decide +kernel
theorem dL_law_637 : decode cL_law 637 = .ok (.ireturn, 1) := by decide +kernel
theorem dL_law_638 : decode cL_law 638 = .ok (.aload_n 1, 1) := by decide +kernel
theorem dL_law_639 : decode cL_law 639 = .ok (.aload_n 0, 1) := by decide +kernel
theorem dL_law_640 : decode cL_law 640 = .ok (.iload_n 3, 1) := by decide +kernel
theorem dL_law_641 : decode cL_law 641 = .ok (.iconst 1, 1) := by decide +kernel
theorem dL_law_642 : decode cL_law 642 = .ok (.iadd, 1) := by decide +kernel
theorem dL_law_643 : decode cL_law 643 = .ok (.iaload, 1) := by decide +kernel
theorem dL_law_644 : decode cL_law 644 = .ok (.aload_n 0, 1) := by decide +kernel
theorem dL_law_645 : decode cL_law 645 = .ok (.iload_n 3, 1) := by decide +kernel
theorem dL_law_646 : decode cL_law 646 = .ok (.iconst 2, 1) := by decide +kernel
theorem dL_law_647 : decode cL_law 647 = .ok (.iadd, 1) := by decide +kernel
theorem dL_law_648 : decode cL_law 648 = .ok (.iaload, 1) := by decide +kernel
theorem dL_law_649 : decode cL_law 649 = .ok (.invokevirtual 88, 3) := by decide +kernel
theorem dL_law_652 : decode cL_law 652 = .ok (.aload_n 2, 1) := by decide +kernel
theorem dL_law_653 : decode cL_law 653 = .ok (.aload_n 0, 1) := by decide +kernel
theorem dL_law_654 : decode cL_law 654 = .ok (.iload_n 3, 1) := by decide +kernel
theorem dL_law_655 : decode cL_law 655 = .ok (.iconst 1, 1) := by decide +kernel
theorem dL_law_656 : decode cL_law 656 = .ok (.iadd, 1) := by decide +kernel
theorem dL_law_657 : decode cL_law 657 = .ok (.iaload, 1) := by decide +kernel
theorem dL_law_658 : decode cL_law 658 = .ok (.aload_n 0, 1) := by decide +kernel
theorem dL_law_659 : decode cL_law 659 = .ok (.iload_n 3, 1) := by decide +kernel
theorem dL_law_660 : decode cL_law 660 = .ok (.iconst 2, 1) := by decide +kernel
theorem dL_law_661 : decode cL_law 661 = .ok (.iadd, 1) := by decide +kernel
theorem dL_law_662 : decode cL_law 662 = .ok (.iaload, 1) := by decide +kernel
theorem dL_law_663 : decode cL_law 663 = .ok (.invokevirtual 91, 3) := by decide +kernel
theorem dL_law_666 : decode cL_law 666 = .ok (.lcmp, 1) := by decide +kernel
theorem dL_law_667 : decode cL_law 667 = .ok (.ifCond .eq 361, 3) := by decide +kernel
theorem dL_law_670 : decode cL_law 670 = .ok (.iconst 0, 1) := by decide +kernel
theorem dL_law_671 : decode cL_law 671 = .ok (.ireturn, 1) := by decide +kernel
theorem dL_law_672 : decode cL_law 672 = .ok (.aload_n 1, 1) := by decide +kernel
theorem dL_law_673 : decode cL_law 673 = .ok (.aload_n 0, 1) := by decide +kernel
theorem dL_law_674 : decode cL_law 674 = .ok (.iload_n 3, 1) := by decide +kernel
theorem dL_law_675 : decode cL_law 675 = .ok (.iconst 1, 1) := by decide +kernel
theorem dL_law_676 : decode cL_law 676 = .ok (.iadd, 1) := by decide +kernel
theorem dL_law_677 : decode cL_law 677 = .ok (.iaload, 1) := by decide +kernel
theorem dL_law_678 : decode cL_law 678 = .ok (.invokevirtual 92, 3) := by decide +kernel
theorem dL_law_681 : decode cL_law 681 = .ok (.aload_n 2, 1) := by decide +kernel
theorem dL_law_682 : decode cL_law 682 = .ok (.aload_n 0, 1) := by decide +kernel
theorem dL_law_683 : decode cL_law 683 = .ok (.iload_n 3, 1) := by decide +kernel
theorem dL_law_684 : decode cL_law 684 = .ok (.iconst 1, 1) := by decide +kernel
theorem dL_law_685 : decode cL_law 685 = .ok (.iadd, 1) := by decide +kernel
theorem dL_law_686 : decode cL_law 686 = .ok (.iaload, 1) := by decide +kernel
theorem dL_law_687 : decode cL_law 687 = .ok (.invokevirtual 95, 3) := by decide +kernel
theorem dL_law_690 : decode cL_law 690 = .ok (.lcmp, 1) := by decide +kernel
theorem dL_law_691 : decode cL_law 691 = .ok (.ifCond .eq 337, 3) := by decide +kernel
theorem dL_law_694 : decode cL_law 694 = .ok (.iconst 0, 1) := by decide +kernel
theorem dL_law_695 : decode cL_law 695 = .ok (.ireturn, 1) := by decide +kernel
theorem dL_law_696 : decode cL_law 696 = .ok (.aload_n 1, 1) := by decide +kernel
theorem dL_law_697 : decode cL_law 697 = .ok (.invokevirtual 96, 3) := by decide +kernel
theorem dL_law_700 : decode cL_law 700 = .ok (.aload_n 2, 1) := by decide +kernel
theorem dL_law_701 : decode cL_law 701 = .ok (.invokevirtual 99, 3) := by decide +kernel
theorem dL_law_704 : decode cL_law 704 = .ok (.lcmp, 1) := by decide +kernel
theorem dL_law_705 : decode cL_law 705 = .ok (.ifCond .eq 323, 3) := by decide +kernel
theorem dL_law_708 : decode cL_law 708 = .ok (.iconst 0, 1) := by decide +kernel
theorem dL_law_709 : decode cL_law 709 = .ok (.ireturn, 1) := by decide +kernel
theorem dL_law_710 : decode cL_law 710 = .ok (.aload_n 1, 1) := by decide +kernel
theorem dL_law_711 : decode cL_law 711 = .ok (.aload_n 0, 1) := by decide +kernel
theorem dL_law_712 : decode cL_law 712 = .ok (.iload_n 3, 1) := by decide +kernel
theorem dL_law_713 : decode cL_law 713 = .ok (.iconst 1, 1) := by decide +kernel
theorem dL_law_714 : decode cL_law 714 = .ok (.iadd, 1) := by decide +kernel
theorem dL_law_715 : decode cL_law 715 = .ok (.iaload, 1) := by decide +kernel
theorem dL_law_716 : decode cL_law 716 = .ok (.invokevirtual 100, 3) := by decide +kernel
theorem dL_law_719 : decode cL_law 719 = .ok (.aload_n 2, 1) := by decide +kernel
theorem dL_law_720 : decode cL_law 720 = .ok (.aload_n 0, 1) := by decide +kernel
theorem dL_law_721 : decode cL_law 721 = .ok (.iload_n 3, 1) := by decide +kernel
theorem dL_law_722 : decode cL_law 722 = .ok (.iconst 1, 1) := by decide +kernel
theorem dL_law_723 : decode cL_law 723 = .ok (.iadd, 1) := by decide +kernel
theorem dL_law_724 : decode cL_law 724 = .ok (.iaload, 1) := by decide +kernel
theorem dL_law_725 : decode cL_law 725 = .ok (.invokevirtual 103, 3) := by decide +kernel
theorem dL_law_728 : decode cL_law 728 = .ok (.lcmp, 1) := by decide +kernel
theorem dL_law_729 : decode cL_law 729 = .ok (.ifCond .eq 299, 3) := by decide +kernel
theorem dL_law_732 : decode cL_law 732 = .ok (.iconst 0, 1) := by decide +kernel
theorem dL_law_733 : decode cL_law 733 = .ok (.ireturn, 1) := by decide +kernel
theorem dL_law_734 : decode cL_law 734 = .ok (.aload_n 1, 1) := by decide +kernel
theorem dL_law_735 : decode cL_law 735 = .ok (.aload_n 0, 1) := by decide +kernel
theorem dL_law_736 : decode cL_law 736 = .ok (.iload_n 3, 1) := by decide +kernel
theorem dL_law_737 : decode cL_law 737 = .ok (.iconst 1, 1) := by decide +kernel
theorem dL_law_738 : decode cL_law 738 = .ok (.iadd, 1) := by decide +kernel
theorem dL_law_739 : decode cL_law 739 = .ok (.iaload, 1) := by decide +kernel
theorem dL_law_740 : decode cL_law 740 = .ok (.invokevirtual 104, 3) := by decide +kernel
theorem dL_law_743 : decode cL_law 743 = .ok (.aload_n 2, 1) := by decide +kernel
theorem dL_law_744 : decode cL_law 744 = .ok (.aload_n 0, 1) := by decide +kernel
theorem dL_law_745 : decode cL_law 745 = .ok (.iload_n 3, 1) := by decide +kernel
theorem dL_law_746 : decode cL_law 746 = .ok (.iconst 1, 1) := by decide +kernel
theorem dL_law_747 : decode cL_law 747 = .ok (.iadd, 1) := by decide +kernel
theorem dL_law_748 : decode cL_law 748 = .ok (.iaload, 1) := by decide +kernel
theorem dL_law_749 : decode cL_law 749 = .ok (.invokevirtual 107, 3) := by decide +kernel
theorem dL_law_752 : decode cL_law 752 = .ok (.lcmp, 1) := by decide +kernel
theorem dL_law_753 : decode cL_law 753 = .ok (.ifCond .eq 275, 3) := by decide +kernel
theorem dL_law_756 : decode cL_law 756 = .ok (.iconst 0, 1) := by decide +kernel
theorem dL_law_757 : decode cL_law 757 = .ok (.ireturn, 1) := by decide +kernel
theorem dL_law_758 : decode cL_law 758 = .ok (.aload_n 1, 1) := by decide +kernel
theorem dL_law_759 : decode cL_law 759 = .ok (.aload_n 0, 1) := by decide +kernel
theorem dL_law_760 : decode cL_law 760 = .ok (.iload_n 3, 1) := by decide +kernel
theorem dL_law_761 : decode cL_law 761 = .ok (.iconst 1, 1) := by decide +kernel
theorem dL_law_762 : decode cL_law 762 = .ok (.iadd, 1) := by decide +kernel
theorem dL_law_763 : decode cL_law 763 = .ok (.iaload, 1) := by decide +kernel
theorem dL_law_764 : decode cL_law 764 = .ok (.i2l, 1) := by decide +kernel
theorem dL_law_765 : decode cL_law 765 = .ok (.bipush 32, 2) := by decide +kernel
theorem dL_law_767 : decode cL_law 767 = .ok (.lshl, 1) := by decide +kernel
theorem dL_law_768 : decode cL_law 768 = .ok (.aload_n 0, 1) := by decide +kernel
theorem dL_law_769 : decode cL_law 769 = .ok (.iload_n 3, 1) := by decide +kernel
theorem dL_law_770 : decode cL_law 770 = .ok (.iconst 2, 1) := by decide +kernel
theorem dL_law_771 : decode cL_law 771 = .ok (.iadd, 1) := by decide +kernel
theorem dL_law_772 : decode cL_law 772 = .ok (.iaload, 1) := by decide +kernel
theorem dL_law_773 : decode cL_law 773 = .ok (.i2l, 1) := by decide +kernel
theorem dL_law_774 : decode cL_law 774 = .ok (.ldc2_w 108, 3) := by decide +kernel
theorem dL_law_777 : decode cL_law 777 = .ok (.land, 1) := by decide +kernel
theorem dL_law_778 : decode cL_law 778 = .ok (.lor, 1) := by decide +kernel
theorem dL_law_779 : decode cL_law 779 = .ok (.aload_n 0, 1) := by decide +kernel
theorem dL_law_780 : decode cL_law 780 = .ok (.iload_n 3, 1) := by decide +kernel
theorem dL_law_781 : decode cL_law 781 = .ok (.iconst 3, 1) := by decide +kernel
theorem dL_law_782 : decode cL_law 782 = .ok (.iadd, 1) := by decide +kernel
theorem dL_law_783 : decode cL_law 783 = .ok (.iaload, 1) := by decide +kernel
theorem dL_law_784 : decode cL_law 784 = .ok (.i2l, 1) := by decide +kernel
theorem dL_law_785 : decode cL_law 785 = .ok (.bipush 32, 2) := by decide +kernel
theorem dL_law_787 : decode cL_law 787 = .ok (.lshl, 1) := by decide +kernel
theorem dL_law_788 : decode cL_law 788 = .ok (.aload_n 0, 1) := by decide +kernel
theorem dL_law_789 : decode cL_law 789 = .ok (.iload_n 3, 1) := by decide +kernel
theorem dL_law_790 : decode cL_law 790 = .ok (.iconst 4, 1) := by decide +kernel
theorem dL_law_791 : decode cL_law 791 = .ok (.iadd, 1) := by decide +kernel
theorem dL_law_792 : decode cL_law 792 = .ok (.iaload, 1) := by decide +kernel
theorem dL_law_793 : decode cL_law 793 = .ok (.i2l, 1) := by decide +kernel
theorem dL_law_794 : decode cL_law 794 = .ok (.ldc2_w 108, 3) := by decide +kernel
theorem dL_law_797 : decode cL_law 797 = .ok (.land, 1) := by decide +kernel
theorem dL_law_798 : decode cL_law 798 = .ok (.lor, 1) := by decide +kernel
theorem dL_law_799 : decode cL_law 799 = .ok (.aload_n 0, 1) := by decide +kernel
theorem dL_law_800 : decode cL_law 800 = .ok (.iload_n 3, 1) := by decide +kernel
theorem dL_law_801 : decode cL_law 801 = .ok (.iconst 5, 1) := by decide +kernel
theorem dL_law_802 : decode cL_law 802 = .ok (.iadd, 1) := by decide +kernel
theorem dL_law_803 : decode cL_law 803 = .ok (.iaload, 1) := by decide +kernel
theorem dL_law_804 : decode cL_law 804 = .ok (.i2l, 1) := by decide +kernel
theorem dL_law_805 : decode cL_law 805 = .ok (.bipush 32, 2) := by decide +kernel
theorem dL_law_807 : decode cL_law 807 = .ok (.lshl, 1) := by decide +kernel
theorem dL_law_808 : decode cL_law 808 = .ok (.aload_n 0, 1) := by decide +kernel
theorem dL_law_809 : decode cL_law 809 = .ok (.iload_n 3, 1) := by decide +kernel
theorem dL_law_810 : decode cL_law 810 = .ok (.bipush 6, 2) := by decide +kernel
theorem dL_law_812 : decode cL_law 812 = .ok (.iadd, 1) := by decide +kernel
theorem dL_law_813 : decode cL_law 813 = .ok (.iaload, 1) := by decide +kernel
theorem dL_law_814 : decode cL_law 814 = .ok (.i2l, 1) := by decide +kernel
theorem dL_law_815 : decode cL_law 815 = .ok (.ldc2_w 108, 3) := by decide +kernel
theorem dL_law_818 : decode cL_law 818 = .ok (.land, 1) := by decide +kernel
theorem dL_law_819 : decode cL_law 819 = .ok (.lor, 1) := by decide +kernel
theorem dL_law_820 : decode cL_law 820 = .ok (.invokevirtual 110, 3) := by decide +kernel
theorem dL_law_823 : decode cL_law 823 = .ok (.aload_n 2, 1) := by decide +kernel
theorem dL_law_824 : decode cL_law 824 = .ok (.aload_n 0, 1) := by decide +kernel
theorem dL_law_825 : decode cL_law 825 = .ok (.iload_n 3, 1) := by decide +kernel
theorem dL_law_826 : decode cL_law 826 = .ok (.iconst 1, 1) := by decide +kernel
theorem dL_law_827 : decode cL_law 827 = .ok (.iadd, 1) := by decide +kernel
theorem dL_law_828 : decode cL_law 828 = .ok (.iaload, 1) := by decide +kernel
theorem dL_law_829 : decode cL_law 829 = .ok (.i2l, 1) := by decide +kernel
theorem dL_law_830 : decode cL_law 830 = .ok (.bipush 32, 2) := by decide +kernel
theorem dL_law_832 : decode cL_law 832 = .ok (.lshl, 1) := by decide +kernel
theorem dL_law_833 : decode cL_law 833 = .ok (.aload_n 0, 1) := by decide +kernel
theorem dL_law_834 : decode cL_law 834 = .ok (.iload_n 3, 1) := by decide +kernel
theorem dL_law_835 : decode cL_law 835 = .ok (.iconst 2, 1) := by decide +kernel
theorem dL_law_836 : decode cL_law 836 = .ok (.iadd, 1) := by decide +kernel
theorem dL_law_837 : decode cL_law 837 = .ok (.iaload, 1) := by decide +kernel
theorem dL_law_838 : decode cL_law 838 = .ok (.i2l, 1) := by decide +kernel
theorem dL_law_839 : decode cL_law 839 = .ok (.ldc2_w 108, 3) := by decide +kernel
theorem dL_law_842 : decode cL_law 842 = .ok (.land, 1) := by decide +kernel
theorem dL_law_843 : decode cL_law 843 = .ok (.lor, 1) := by decide +kernel
theorem dL_law_844 : decode cL_law 844 = .ok (.aload_n 0, 1) := by decide +kernel
theorem dL_law_845 : decode cL_law 845 = .ok (.iload_n 3, 1) := by decide +kernel
theorem dL_law_846 : decode cL_law 846 = .ok (.iconst 3, 1) := by decide +kernel
theorem dL_law_847 : decode cL_law 847 = .ok (.iadd, 1) := by decide +kernel
theorem dL_law_848 : decode cL_law 848 = .ok (.iaload, 1) := by decide +kernel
theorem dL_law_849 : decode cL_law 849 = .ok (.i2l, 1) := by decide +kernel
theorem dL_law_850 : decode cL_law 850 = .ok (.bipush 32, 2) := by decide +kernel
theorem dL_law_852 : decode cL_law 852 = .ok (.lshl, 1) := by decide +kernel
theorem dL_law_853 : decode cL_law 853 = .ok (.aload_n 0, 1) := by decide +kernel
theorem dL_law_854 : decode cL_law 854 = .ok (.iload_n 3, 1) := by decide +kernel
theorem dL_law_855 : decode cL_law 855 = .ok (.iconst 4, 1) := by decide +kernel
theorem dL_law_856 : decode cL_law 856 = .ok (.iadd, 1) := by decide +kernel
theorem dL_law_857 : decode cL_law 857 = .ok (.iaload, 1) := by decide +kernel
theorem dL_law_858 : decode cL_law 858 = .ok (.i2l, 1) := by decide +kernel
theorem dL_law_859 : decode cL_law 859 = .ok (.ldc2_w 108, 3) := by decide +kernel
theorem dL_law_862 : decode cL_law 862 = .ok (.land, 1) := by decide +kernel
theorem dL_law_863 : decode cL_law 863 = .ok (.lor, 1) := by decide +kernel
theorem dL_law_864 : decode cL_law 864 = .ok (.aload_n 0, 1) := by decide +kernel
theorem dL_law_865 : decode cL_law 865 = .ok (.iload_n 3, 1) := by decide +kernel
theorem dL_law_866 : decode cL_law 866 = .ok (.iconst 5, 1) := by decide +kernel
theorem dL_law_867 : decode cL_law 867 = .ok (.iadd, 1) := by decide +kernel
theorem dL_law_868 : decode cL_law 868 = .ok (.iaload, 1) := by decide +kernel
theorem dL_law_869 : decode cL_law 869 = .ok (.i2l, 1) := by decide +kernel
theorem dL_law_870 : decode cL_law 870 = .ok (.bipush 32, 2) := by decide +kernel
theorem dL_law_872 : decode cL_law 872 = .ok (.lshl, 1) := by decide +kernel
theorem dL_law_873 : decode cL_law 873 = .ok (.aload_n 0, 1) := by decide +kernel
theorem dL_law_874 : decode cL_law 874 = .ok (.iload_n 3, 1) := by decide +kernel
theorem dL_law_875 : decode cL_law 875 = .ok (.bipush 6, 2) := by decide +kernel
theorem dL_law_877 : decode cL_law 877 = .ok (.iadd, 1) := by decide +kernel
theorem dL_law_878 : decode cL_law 878 = .ok (.iaload, 1) := by decide +kernel
theorem dL_law_879 : decode cL_law 879 = .ok (.i2l, 1) := by decide +kernel
theorem dL_law_880 : decode cL_law 880 = .ok (.ldc2_w 108, 3) := by decide +kernel
theorem dL_law_883 : decode cL_law 883 = .ok (.land, 1) := by decide +kernel
theorem dL_law_884 : decode cL_law 884 = .ok (.lor, 1) := by decide +kernel
theorem dL_law_885 : decode cL_law 885 = .ok (.invokevirtual 114, 3) := by decide +kernel
theorem dL_law_888 : decode cL_law 888 = .ok (.lcmp, 1) := by decide +kernel
theorem dL_law_889 : decode cL_law 889 = .ok (.ifCond .eq 139, 3) := by decide +kernel
theorem dL_law_892 : decode cL_law 892 = .ok (.iconst 0, 1) := by decide +kernel
theorem dL_law_893 : decode cL_law 893 = .ok (.ireturn, 1) := by decide +kernel
theorem dL_law_894 : decode cL_law 894 = .ok (.aload_n 1, 1) := by decide +kernel
theorem dL_law_895 : decode cL_law 895 = .ok (.aload_n 0, 1) := by decide +kernel
theorem dL_law_896 : decode cL_law 896 = .ok (.iload_n 3, 1) := by decide +kernel
theorem dL_law_897 : decode cL_law 897 = .ok (.iconst 1, 1) := by decide +kernel
theorem dL_law_898 : decode cL_law 898 = .ok (.iadd, 1) := by decide +kernel
theorem dL_law_899 : decode cL_law 899 = .ok (.iaload, 1) := by decide +kernel
theorem dL_law_900 : decode cL_law 900 = .ok (.invokevirtual 115, 3) := by decide +kernel
theorem dL_law_903 : decode cL_law 903 = .ok (.aload_n 2, 1) := by decide +kernel
theorem dL_law_904 : decode cL_law 904 = .ok (.aload_n 0, 1) := by decide +kernel
theorem dL_law_905 : decode cL_law 905 = .ok (.iload_n 3, 1) := by decide +kernel
theorem dL_law_906 : decode cL_law 906 = .ok (.iconst 1, 1) := by decide +kernel
theorem dL_law_907 : decode cL_law 907 = .ok (.iadd, 1) := by decide +kernel
theorem dL_law_908 : decode cL_law 908 = .ok (.iaload, 1) := by decide +kernel
theorem dL_law_909 : decode cL_law 909 = .ok (.invokevirtual 118, 3) := by decide +kernel
theorem dL_law_912 : decode cL_law 912 = .ok (.lcmp, 1) := by decide +kernel
theorem dL_law_913 : decode cL_law 913 = .ok (.ifCond .eq 115, 3) := by decide +kernel
theorem dL_law_916 : decode cL_law 916 = .ok (.iconst 0, 1) := by decide +kernel
theorem dL_law_917 : decode cL_law 917 = .ok (.ireturn, 1) := by decide +kernel
theorem dL_law_918 : decode cL_law 918 = .ok (.aload_n 1, 1) := by decide +kernel
theorem dL_law_919 : decode cL_law 919 = .ok (.invokevirtual 119, 3) := by decide +kernel
theorem dL_law_922 : decode cL_law 922 = .ok (.aload_n 2, 1) := by decide +kernel
theorem dL_law_923 : decode cL_law 923 = .ok (.invokevirtual 122, 3) := by decide +kernel
theorem dL_law_926 : decode cL_law 926 = .ok (.lcmp, 1) := by decide +kernel
theorem dL_law_927 : decode cL_law 927 = .ok (.ifCond .eq 101, 3) := by decide +kernel
theorem dL_law_930 : decode cL_law 930 = .ok (.iconst 0, 1) := by decide +kernel
theorem dL_law_931 : decode cL_law 931 = .ok (.ireturn, 1) := by decide +kernel
theorem dL_law_932 : decode cL_law 932 = .ok (.aload_n 1, 1) := by decide +kernel
theorem dL_law_933 : decode cL_law 933 = .ok (.aload_n 0, 1) := by decide +kernel
theorem dL_law_934 : decode cL_law 934 = .ok (.iload_n 3, 1) := by decide +kernel
theorem dL_law_935 : decode cL_law 935 = .ok (.iconst 1, 1) := by decide +kernel
theorem dL_law_936 : decode cL_law 936 = .ok (.iadd, 1) := by decide +kernel
theorem dL_law_937 : decode cL_law 937 = .ok (.iaload, 1) := by decide +kernel
theorem dL_law_938 : decode cL_law 938 = .ok (.invokevirtual 123, 3) := by decide +kernel
theorem dL_law_941 : decode cL_law 941 = .ok (.aload_n 2, 1) := by decide +kernel
theorem dL_law_942 : decode cL_law 942 = .ok (.aload_n 0, 1) := by decide +kernel
theorem dL_law_943 : decode cL_law 943 = .ok (.iload_n 3, 1) := by decide +kernel
theorem dL_law_944 : decode cL_law 944 = .ok (.iconst 1, 1) := by decide +kernel
theorem dL_law_945 : decode cL_law 945 = .ok (.iadd, 1) := by decide +kernel
theorem dL_law_946 : decode cL_law 946 = .ok (.iaload, 1) := by decide +kernel
theorem dL_law_947 : decode cL_law 947 = .ok (.invokevirtual 126, 3) := by decide +kernel
theorem dL_law_950 : decode cL_law 950 = .ok (.lcmp, 1) := by decide +kernel
theorem dL_law_951 : decode cL_law 951 = .ok (.ifCond .eq 77, 3) := by decide +kernel
theorem dL_law_954 : decode cL_law 954 = .ok (.iconst 0, 1) := by decide +kernel
theorem dL_law_955 : decode cL_law 955 = .ok (.ireturn, 1) := by decide +kernel
theorem dL_law_956 : decode cL_law 956 = .ok (.aload_n 1, 1) := by decide +kernel
theorem dL_law_957 : decode cL_law 957 = .ok (.aload_n 0, 1) := by decide +kernel
theorem dL_law_958 : decode cL_law 958 = .ok (.iload_n 3, 1) := by decide +kernel
theorem dL_law_959 : decode cL_law 959 = .ok (.iconst 1, 1) := by decide +kernel
theorem dL_law_960 : decode cL_law 960 = .ok (.iadd, 1) := by decide +kernel
theorem dL_law_961 : decode cL_law 961 = .ok (.iaload, 1) := by decide +kernel
theorem dL_law_962 : decode cL_law 962 = .ok (.invokevirtual 127, 3) := by decide +kernel
theorem dL_law_965 : decode cL_law 965 = .ok (.aload_n 2, 1) := by decide +kernel
theorem dL_law_966 : decode cL_law 966 = .ok (.aload_n 0, 1) := by decide +kernel
theorem dL_law_967 : decode cL_law 967 = .ok (.iload_n 3, 1) := by decide +kernel
theorem dL_law_968 : decode cL_law 968 = .ok (.iconst 1, 1) := by decide +kernel
theorem dL_law_969 : decode cL_law 969 = .ok (.iadd, 1) := by decide +kernel
theorem dL_law_970 : decode cL_law 970 = .ok (.iaload, 1) := by decide +kernel
theorem dL_law_971 : decode cL_law 971 = .ok (.invokevirtual 130, 3) := by decide +kernel
theorem dL_law_974 : decode cL_law 974 = .ok (.lcmp, 1) := by decide +kernel
theorem dL_law_975 : decode cL_law 975 = .ok (.ifCond .eq 53, 3) := by decide +kernel
theorem dL_law_978 : decode cL_law 978 = .ok (.iconst 0, 1) := by decide +kernel
theorem dL_law_979 : decode cL_law 979 = .ok (.ireturn, 1) := by decide +kernel
theorem dL_law_980 : decode cL_law 980 = .ok (.aload_n 1, 1) := by decide +kernel
theorem dL_law_981 : decode cL_law 981 = .ok (.aload_n 0, 1) := by decide +kernel
theorem dL_law_982 : decode cL_law 982 = .ok (.iload_n 3, 1) := by decide +kernel
theorem dL_law_983 : decode cL_law 983 = .ok (.iconst 1, 1) := by decide +kernel
theorem dL_law_984 : decode cL_law 984 = .ok (.iadd, 1) := by decide +kernel
theorem dL_law_985 : decode cL_law 985 = .ok (.iaload, 1) := by decide +kernel
theorem dL_law_986 : decode cL_law 986 = .ok (.aload_n 0, 1) := by decide +kernel
theorem dL_law_987 : decode cL_law 987 = .ok (.iload_n 3, 1) := by decide +kernel
theorem dL_law_988 : decode cL_law 988 = .ok (.iconst 2, 1) := by decide +kernel
theorem dL_law_989 : decode cL_law 989 = .ok (.iadd, 1) := by decide +kernel
theorem dL_law_990 : decode cL_law 990 = .ok (.iaload, 1) := by decide +kernel
theorem dL_law_991 : decode cL_law 991 = .ok (.invokevirtual 131, 3) := by decide +kernel
theorem dL_law_994 : decode cL_law 994 = .ok (.aload_n 2, 1) := by decide +kernel
theorem dL_law_995 : decode cL_law 995 = .ok (.aload_n 0, 1) := by decide +kernel
theorem dL_law_996 : decode cL_law 996 = .ok (.iload_n 3, 1) := by decide +kernel
theorem dL_law_997 : decode cL_law 997 = .ok (.iconst 1, 1) := by decide +kernel
theorem dL_law_998 : decode cL_law 998 = .ok (.iadd, 1) := by decide +kernel
theorem dL_law_999 : decode cL_law 999 = .ok (.iaload, 1) := by decide +kernel
theorem dL_law_1000 : decode cL_law 1000 = .ok (.aload_n 0, 1) := by decide +kernel
theorem dL_law_1001 : decode cL_law 1001 = .ok (.iload_n 3, 1) := by decide +kernel
theorem dL_law_1002 : decode cL_law 1002 = .ok (.iconst 2, 1) := by decide +kernel
theorem dL_law_1003 : decode cL_law 1003 = .ok (.iadd, 1) := by decide +kernel
theorem dL_law_1004 : decode cL_law 1004 = .ok (.iaload, 1) := by decide +kernel
theorem dL_law_1005 : decode cL_law 1005 = .ok (.invokevirtual 134, 3) := by decide +kernel
theorem dL_law_1008 : decode cL_law 1008 = .ok (.lcmp, 1) := by decide +kernel
theorem dL_law_1009 : decode cL_law 1009 = .ok (.ifCond .eq 19, 3) := by decide +kernel
theorem dL_law_1012 : decode cL_law 1012 = .ok (.iconst 0, 1) := by decide +kernel
theorem dL_law_1013 : decode cL_law 1013 = .ok (.ireturn, 1) := by decide +kernel
theorem dL_law_1014 : decode cL_law 1014 = .ok (.aload_n 1, 1) := by decide +kernel
theorem dL_law_1015 : decode cL_law 1015 = .ok (.invokevirtual 135, 3) := by decide +kernel
theorem dL_law_1018 : decode cL_law 1018 = .ok (.aload_n 2, 1) := by decide +kernel
theorem dL_law_1019 : decode cL_law 1019 = .ok (.invokevirtual 138, 3) := by decide +kernel
theorem dL_law_1022 : decode cL_law 1022 = .ok (.lcmp, 1) := by decide +kernel
theorem dL_law_1023 : decode cL_law 1023 = .ok (.ifCond .eq 5, 3) := by decide +kernel
theorem dL_law_1026 : decode cL_law 1026 = .ok (.iconst 0, 1) := by decide +kernel
theorem dL_law_1027 : decode cL_law 1027 = .ok (.ireturn, 1) := by decide +kernel
theorem dL_law_1028 : decode cL_law 1028 = .ok (.iinc 3 7, 3) := by decide +kernel
theorem dL_law_1031 : decode cL_law 1031 = .ok (.goto (-1013), 3) := by decide +kernel
theorem dL_law_1034 : decode cL_law 1034 = .ok (.iconst 1, 1) := by decide +kernel
theorem dL_law_1035 : decode cL_law 1035 = .ok (.ireturn, 1) := by decide +kernel
abbrev vwCl : List vw_C := [(RX0, TX0, 5), (RX1, TX1, 6), (RX2, TX2, 2), (RX3, TX3, 3), (RX4, TX4, 2), (RX5, TX5, 5), (RX6, TX6, 18)]
end
section
/-! rows of our own: tops rewritten, places by Nat, branches by Nat and by truth, loops, joins, calls -/
section RWA
variable {p : Program} {l : Launch} {e : Env} {R : Room} {s : State} {m : MethodId} {args : Array Value} {below : List Frame} {meth : Method} {c : Code} {H : Heap} {locs : List Loc} {cells slots : Nat} {Q : State → Prop}
variable {cc : ByteArray} {pc : Nat} {ls : Array Slot} {rest : List Value}
theorem rw_topi {x y : Int32} (h : x = y) (k : W p l e R s m args below meth c H locs cells slots Q (F0 m pc ls (.int y :: rest))) : W p l e R s m args below meth c H locs cells slots Q (F0 m pc ls (.int x :: rest)) := by subst h; exact k
theorem rw_topl {x y : Int64} (h : x = y) (k : W p l e R s m args below meth c H locs cells slots Q (F0 m pc ls (.long y :: rest))) : W p l e R s m args below meth c H locs cells slots Q (F0 m pc ls (.long x :: rest)) := by subst h; exact k
variable {D : va_G} {cl : List vw_C} {A : Nat → Prop} {a : Nat} {tys : List (ClassId × FieldType)} {ws : va_W} {H0 : Heap}
theorem ar_iald (hexec : p.tables.exec = Jvm.exec) (hb : c.code = cc) (hK : va_K D cl tys s) (hP : va_P D cl ws H) (q0 t0 : Nat) {cA : ClassId} {n : Nat} {f : Nat → Int32} (ha : ws[q0]? = some (a, .inl (cA, n, .inl f))) (ht : tys[t0]? = some (cA, .int)) {i : Int32} (g : Nat) (hi : i = nI g) (hg : g < n) (hn : n < 2 ^ 31) (hdg : decode cc pc = .ok (.iaload, 1))
    (kk : W p l e R s m args below meth c H locs cells slots Q (F0 m (pc + 1) ls (.int (f g) :: rest))) : W p l e R s m args below meth c H locs cells slots Q (F0 m pc ls (.int i :: .ref a :: rest)) := by
  subst hi
  refine va_iald hexec hb hK hP q0 t0 ha ht (vp_in_nI hg hn) hdg ?_
  rw [nI_clamp (by omega)]
  exact kk
theorem ar_lald (hexec : p.tables.exec = Jvm.exec) (hb : c.code = cc) (hK : va_K D cl tys s) (hP : va_P D cl ws H) (q0 t0 : Nat) {cA : ClassId} {n : Nat} {f : Nat → Int64} (ha : ws[q0]? = some (a, .inl (cA, n, .inr (.inl f)))) (ht : tys[t0]? = some (cA, .long)) {i : Int32} (g : Nat) (hi : i = nI g) (hg : g < n) (hn : n < 2 ^ 31) (hdg : decode cc pc = .ok (.laload, 1))
    (kk : W p l e R s m args below meth c H locs cells slots Q (F0 m (pc + 1) ls (.long (f g) :: rest))) : W p l e R s m args below meth c H locs cells slots Q (F0 m pc ls (.int i :: .ref a :: rest)) := by
  subst hi
  refine va_lald hexec hb hK hP q0 t0 ha ht (vp_in_nI hg hn) hdg ?_
  rw [nI_clamp (by omega)]
  exact kk
theorem ar_iast (hexec : p.tables.exec = Jvm.exec) (hb : c.code = cc) (hK : va_K D cl tys s) (hP : va_P D cl ws H) (hD : va_D A ws) (hS : va_S A H0 H locs) (q0 t0 : Nat) {cA : ClassId} {n : Nat} {f : Nat → Int32} (ha : ws[q0]? = some (a, .inl (cA, n, .inl f))) (ht : tys[t0]? = some (cA, .int)) {i x : Int32} (g : Nat) (hi : i = nI g) (hg : g < n) (hn : n < 2 ^ 31) (hdg : decode cc pc = .ok (.iastore, 1))
    (kk : ∀ (H1 : Heap) (locs1 : List Loc), va_P D cl (ws.set q0 (a, .inl (cA, n, .inl (upd f g x)))) H1 → va_D A (ws.set q0 (a, .inl (cA, n, .inl (upd f g x)))) → va_S A H0 H1 locs1 → W p l e R s m args below meth c H1 locs1 cells slots Q (F0 m (pc + 1) ls rest)) : W p l e R s m args below meth c H locs cells slots Q (F0 m pc ls (.int x :: .int i :: .ref a :: rest)) := by
  subst hi
  refine va_iast hexec hb hK hP hD hS q0 t0 ha ht (vp_in_nI hg hn) hdg ?_
  rw [nI_clamp (by omega)]
  exact kk
theorem ar_last (hexec : p.tables.exec = Jvm.exec) (hb : c.code = cc) (hK : va_K D cl tys s) (hP : va_P D cl ws H) (hD : va_D A ws) (hS : va_S A H0 H locs) (q0 t0 : Nat) {cA : ClassId} {n : Nat} {f : Nat → Int64} (ha : ws[q0]? = some (a, .inl (cA, n, .inr (.inl f)))) (ht : tys[t0]? = some (cA, .long)) {i : Int32} {x : Int64} (g : Nat) (hi : i = nI g) (hg : g < n) (hn : n < 2 ^ 31) (hdg : decode cc pc = .ok (.lastore, 1))
    (kk : ∀ (H1 : Heap) (locs1 : List Loc), va_P D cl (ws.set q0 (a, .inl (cA, n, .inr (.inl (vp_updL f g x))))) H1 → va_D A (ws.set q0 (a, .inl (cA, n, .inr (.inl (vp_updL f g x))))) → va_S A H0 H1 locs1 → W p l e R s m args below meth c H1 locs1 cells slots Q (F0 m (pc + 1) ls rest)) : W p l e R s m args below meth c H locs cells slots Q (F0 m pc ls (.long x :: .int i :: .ref a :: rest)) := by
  subst hi
  refine va_last hexec hb hK hP hD hS q0 t0 ha ht (vp_in_nI hg hn) hdg ?_
  rw [nI_clamp (by omega)]
  exact kk
/-- an if on a truth value -/
theorem rb_eq (hexec : p.tables.exec = Jvm.exec) (hb : c.code = cc) {P : Prop} {dP : Decidable P} {off : Int} {tgt : Nat} (hdg : decode cc pc = .ok (.ifCond .eq off, 3)) (ht : (pc : Int) + off = (tgt : Int))
    (kt : ¬ P → W p l e R s m args below meth c H locs cells slots Q (F0 m tgt ls rest)) (kf : P → W p l e R s m args below meth c H locs cells slots Q (F0 m (pc + 3) ls rest)) : W p l e R s m args below meth c H locs cells slots Q (F0 m pc ls (.int (if P then 1 else 0) :: rest)) := by
  refine lv_if_eq hexec hb hdg ht (fun h => kt (fun q => ?_)) (fun h => kf ?_)
  · rw [if_pos q] at h; exact absurd h (by decide)
  · exact Decidable.byContradiction (fun q => h (if_neg q))
theorem rb_ne (hexec : p.tables.exec = Jvm.exec) (hb : c.code = cc) {P : Prop} {dP : Decidable P} {off : Int} {tgt : Nat} (hdg : decode cc pc = .ok (.ifCond .ne off, 3)) (ht : (pc : Int) + off = (tgt : Int))
    (kt : P → W p l e R s m args below meth c H locs cells slots Q (F0 m tgt ls rest)) (kf : ¬ P → W p l e R s m args below meth c H locs cells slots Q (F0 m (pc + 3) ls rest)) : W p l e R s m args below meth c H locs cells slots Q (F0 m pc ls (.int (if P then 1 else 0) :: rest)) := by
  refine lv_if_ne hexec hb hdg ht (fun h => kt ?_) (fun h => kf (fun q => h ?_))
  · exact Decidable.byContradiction (fun q => h (if_neg q))
  · rw [if_pos q]; decide
theorem rl_0 (x y : Int64) : lg_cmp x y = 0 ↔ x = y := by
  unfold lg_cmp
  by_cases h : x > y
  · rw [if_pos h]
    constructor
    · intro q; exact absurd q (by decide)
    · intro q; subst q; exact absurd h (Int64.lt_irrefl)
  · rw [if_neg h]
    by_cases q : x = y
    · rw [if_pos q]; exact ⟨fun _ => q, fun _ => rfl⟩
    · rw [if_neg q]; exact ⟨fun z => absurd z (by decide), fun z => absurd z q⟩
theorem rl_lt (x y : Int64) : lg_cmp x y < 0 ↔ x < y := by
  have h := lg_cmp_ge x y
  rw [← Int32.not_le, h, Int64.not_le]
theorem rl_gt (x y : Int64) : 0 < lg_cmp x y ↔ y < x := by
  unfold lg_cmp
  by_cases h : x > y
  · rw [if_pos h]; exact ⟨fun _ => h, fun _ => by decide⟩
  · rw [if_neg h]
    by_cases q : x = y
    · rw [if_pos q]; exact ⟨fun z => absurd z (by decide), fun z => absurd z h⟩
    · rw [if_neg q]; exact ⟨fun z => absurd z (by decide), fun z => absurd z h⟩
/-- two longs compared and a branch on it -/
theorem rl_ifeq (hexec : p.tables.exec = Jvm.exec) (hb : c.code = cc) {x y : Int64} {off : Int} {tgt : Nat} (hd0 : decode cc pc = .ok (.lcmp, 1)) (hdg : decode cc (pc + 1) = .ok (.ifCond .eq off, 3)) (ht : ((pc + 1 : Nat) : Int) + off = (tgt : Int))
    (kt : x = y → W p l e R s m args below meth c H locs cells slots Q (F0 m tgt ls rest)) (kf : ¬ x = y → W p l e R s m args below meth c H locs cells slots Q (F0 m (pc + 1 + 3) ls rest)) : W p l e R s m args below meth c H locs cells slots Q (F0 m pc ls (.long y :: .long x :: rest)) :=
  W.lcmp hexec hb hd0 (lv_if_eq hexec hb hdg ht (fun h => kt ((rl_0 x y).mp h)) (fun h => kf (fun q => h ((rl_0 x y).mpr q))))
theorem rl_ifne (hexec : p.tables.exec = Jvm.exec) (hb : c.code = cc) {x y : Int64} {off : Int} {tgt : Nat} (hd0 : decode cc pc = .ok (.lcmp, 1)) (hdg : decode cc (pc + 1) = .ok (.ifCond .ne off, 3)) (ht : ((pc + 1 : Nat) : Int) + off = (tgt : Int))
    (kt : ¬ x = y → W p l e R s m args below meth c H locs cells slots Q (F0 m tgt ls rest)) (kf : x = y → W p l e R s m args below meth c H locs cells slots Q (F0 m (pc + 1 + 3) ls rest)) : W p l e R s m args below meth c H locs cells slots Q (F0 m pc ls (.long y :: .long x :: rest)) :=
  W.lcmp hexec hb hd0 (lv_if_ne hexec hb hdg ht (fun h => kt (fun q => h ((rl_0 x y).mpr q))) (fun h => kf (Decidable.byContradiction (fun q => h (fun z => q ((rl_0 x y).mp z))))))
theorem rl_iflt (hexec : p.tables.exec = Jvm.exec) (hb : c.code = cc) {x y : Int64} {off : Int} {tgt : Nat} (hd0 : decode cc pc = .ok (.lcmp, 1)) (hdg : decode cc (pc + 1) = .ok (.ifCond .lt off, 3)) (ht : ((pc + 1 : Nat) : Int) + off = (tgt : Int))
    (kt : x < y → W p l e R s m args below meth c H locs cells slots Q (F0 m tgt ls rest)) (kf : ¬ x < y → W p l e R s m args below meth c H locs cells slots Q (F0 m (pc + 1 + 3) ls rest)) : W p l e R s m args below meth c H locs cells slots Q (F0 m pc ls (.long y :: .long x :: rest)) :=
  W.lcmp hexec hb hd0 (lv_if_lt hexec hb hdg ht (fun h => kt ((rl_lt x y).mp h)) (fun h => kf (fun q => h ((rl_lt x y).mpr q))))
theorem rl_ifge (hexec : p.tables.exec = Jvm.exec) (hb : c.code = cc) {x y : Int64} {off : Int} {tgt : Nat} (hd0 : decode cc pc = .ok (.lcmp, 1)) (hdg : decode cc (pc + 1) = .ok (.ifCond .ge off, 3)) (ht : ((pc + 1 : Nat) : Int) + off = (tgt : Int))
    (kt : ¬ x < y → W p l e R s m args below meth c H locs cells slots Q (F0 m tgt ls rest)) (kf : x < y → W p l e R s m args below meth c H locs cells slots Q (F0 m (pc + 1 + 3) ls rest)) : W p l e R s m args below meth c H locs cells slots Q (F0 m pc ls (.long y :: .long x :: rest)) :=
  W.lcmp hexec hb hd0 (lv_if_ge hexec hb hdg ht (fun h => kt (fun q => (Int64.not_le.mpr q) ((lg_cmp_ge x y).mp h))) (fun h => kf (Int64.not_le.mp (fun q => h ((lg_cmp_ge x y).mpr q)))))
theorem rl_ifgt (hexec : p.tables.exec = Jvm.exec) (hb : c.code = cc) {x y : Int64} {off : Int} {tgt : Nat} (hd0 : decode cc pc = .ok (.lcmp, 1)) (hdg : decode cc (pc + 1) = .ok (.ifCond .gt off, 3)) (ht : ((pc + 1 : Nat) : Int) + off = (tgt : Int))
    (kt : y < x → W p l e R s m args below meth c H locs cells slots Q (F0 m tgt ls rest)) (kf : ¬ y < x → W p l e R s m args below meth c H locs cells slots Q (F0 m (pc + 1 + 3) ls rest)) : W p l e R s m args below meth c H locs cells slots Q (F0 m pc ls (.long y :: .long x :: rest)) :=
  W.lcmp hexec hb hd0 (lv_if_gt hexec hb hdg ht (fun h => kt ((rl_gt x y).mp h)) (fun h => kf (fun q => h ((rl_gt x y).mpr q))))
theorem rl_ifle (hexec : p.tables.exec = Jvm.exec) (hb : c.code = cc) {x y : Int64} {off : Int} {tgt : Nat} (hd0 : decode cc pc = .ok (.lcmp, 1)) (hdg : decode cc (pc + 1) = .ok (.ifCond .le off, 3)) (ht : ((pc + 1 : Nat) : Int) + off = (tgt : Int))
    (kt : ¬ y < x → W p l e R s m args below meth c H locs cells slots Q (F0 m tgt ls rest)) (kf : y < x → W p l e R s m args below meth c H locs cells slots Q (F0 m (pc + 1 + 3) ls rest)) : W p l e R s m args below meth c H locs cells slots Q (F0 m pc ls (.long y :: .long x :: rest)) :=
  W.lcmp hexec hb hd0 (lv_if_le hexec hb hdg ht (fun h => kt (fun q => absurd ((rl_gt x y).mpr q) (Int32.not_lt.mpr h))) (fun h => kf ((rl_gt x y).mp (Int32.not_le.mp h))))
end RWA
section RWB
variable {p : Program} {l : Launch} {e : Env} {R : Room} {s : State} {m : MethodId} {args : Array Value} {below : List Frame} {meth : Method} {c : Code} {H : Heap} {locs : List Loc} {cells slots : Nat} {Q : State → Prop}
variable {cc : ByteArray} {pc : Nat} {ls : Array Slot} {rest : List Value}
/-- two places compared, by their Nats -/
theorem rn_ge (hexec : p.tables.exec = Jvm.exec) (hb : c.code = cc) {x y : Int32} (a b : Nat) (hx : x = nI a) (hy : y = nI b) (ha : a < 2 ^ 31) (hbb : b < 2 ^ 31) {off : Int} {tgt : Nat} (hdg : decode cc pc = .ok (.if_icmp .ge off, 3)) (ht : (pc : Int) + off = (tgt : Int))
    (kt : b ≤ a → W p l e R s m args below meth c H locs cells slots Q (F0 m tgt ls rest)) (kf : a < b → W p l e R s m args below meth c H locs cells slots Q (F0 m (pc + 3) ls rest)) : W p l e R s m args below meth c H locs cells slots Q (F0 m pc ls (.int y :: .int x :: rest)) := by
  subst hx; subst hy
  exact lv_icmp_ge hexec hb hdg ht (fun h => kt ((nI_leI hbb ha).mp h)) (fun h => kf (Nat.lt_of_not_le (fun q => h ((nI_leI hbb ha).mpr q))))
theorem rn_lt (hexec : p.tables.exec = Jvm.exec) (hb : c.code = cc) {x y : Int32} (a b : Nat) (hx : x = nI a) (hy : y = nI b) (ha : a < 2 ^ 31) (hbb : b < 2 ^ 31) {off : Int} {tgt : Nat} (hdg : decode cc pc = .ok (.if_icmp .lt off, 3)) (ht : (pc : Int) + off = (tgt : Int))
    (kt : a < b → W p l e R s m args below meth c H locs cells slots Q (F0 m tgt ls rest)) (kf : b ≤ a → W p l e R s m args below meth c H locs cells slots Q (F0 m (pc + 3) ls rest)) : W p l e R s m args below meth c H locs cells slots Q (F0 m pc ls (.int y :: .int x :: rest)) := by
  subst hx; subst hy
  exact lv_icmp_lt hexec hb hdg ht (fun h => kt ((nI_ltI ha hbb).mp h)) (fun h => kf (Nat.le_of_not_lt (fun q => h ((nI_ltI ha hbb).mpr q))))
theorem rn_gt (hexec : p.tables.exec = Jvm.exec) (hb : c.code = cc) {x y : Int32} (a b : Nat) (hx : x = nI a) (hy : y = nI b) (ha : a < 2 ^ 31) (hbb : b < 2 ^ 31) {off : Int} {tgt : Nat} (hdg : decode cc pc = .ok (.if_icmp .gt off, 3)) (ht : (pc : Int) + off = (tgt : Int))
    (kt : b < a → W p l e R s m args below meth c H locs cells slots Q (F0 m tgt ls rest)) (kf : a ≤ b → W p l e R s m args below meth c H locs cells slots Q (F0 m (pc + 3) ls rest)) : W p l e R s m args below meth c H locs cells slots Q (F0 m pc ls (.int y :: .int x :: rest)) := by
  subst hx; subst hy
  exact lv_icmp_gt hexec hb hdg ht (fun h => kt ((nI_ltI hbb ha).mp h)) (fun h => kf (Nat.le_of_not_lt (fun q => h ((nI_ltI hbb ha).mpr q))))
theorem rn_le (hexec : p.tables.exec = Jvm.exec) (hb : c.code = cc) {x y : Int32} (a b : Nat) (hx : x = nI a) (hy : y = nI b) (ha : a < 2 ^ 31) (hbb : b < 2 ^ 31) {off : Int} {tgt : Nat} (hdg : decode cc pc = .ok (.if_icmp .le off, 3)) (ht : (pc : Int) + off = (tgt : Int))
    (kt : a ≤ b → W p l e R s m args below meth c H locs cells slots Q (F0 m tgt ls rest)) (kf : b < a → W p l e R s m args below meth c H locs cells slots Q (F0 m (pc + 3) ls rest)) : W p l e R s m args below meth c H locs cells slots Q (F0 m pc ls (.int y :: .int x :: rest)) := by
  subst hx; subst hy
  exact lv_icmp_le hexec hb hdg ht (fun h => kt ((nI_leI ha hbb).mp h)) (fun h => kf (Nat.lt_of_not_le (fun q => h ((nI_leI ha hbb).mpr q))))
theorem rn_eq (hexec : p.tables.exec = Jvm.exec) (hb : c.code = cc) {x y : Int32} (a b : Nat) (hx : x = nI a) (hy : y = nI b) (ha : a < 2 ^ 31) (hbb : b < 2 ^ 31) {off : Int} {tgt : Nat} (hdg : decode cc pc = .ok (.if_icmp .eq off, 3)) (ht : (pc : Int) + off = (tgt : Int))
    (kt : a = b → W p l e R s m args below meth c H locs cells slots Q (F0 m tgt ls rest)) (kf : a ≠ b → W p l e R s m args below meth c H locs cells slots Q (F0 m (pc + 3) ls rest)) : W p l e R s m args below meth c H locs cells slots Q (F0 m pc ls (.int y :: .int x :: rest)) := by
  subst hx; subst hy
  exact lv_icmp_eq hexec hb hdg ht (fun h => kt ((nI_eq ha hbb).mp h)) (fun h => kf (fun q => h ((nI_eq ha hbb).mpr q)))
theorem rn_ne (hexec : p.tables.exec = Jvm.exec) (hb : c.code = cc) {x y : Int32} (a b : Nat) (hx : x = nI a) (hy : y = nI b) (ha : a < 2 ^ 31) (hbb : b < 2 ^ 31) {off : Int} {tgt : Nat} (hdg : decode cc pc = .ok (.if_icmp .ne off, 3)) (ht : (pc : Int) + off = (tgt : Int))
    (kt : a ≠ b → W p l e R s m args below meth c H locs cells slots Q (F0 m tgt ls rest)) (kf : a = b → W p l e R s m args below meth c H locs cells slots Q (F0 m (pc + 3) ls rest)) : W p l e R s m args below meth c H locs cells slots Q (F0 m pc ls (.int y :: .int x :: rest)) := by
  subst hx; subst hy
  exact lv_icmp_ne hexec hb hdg ht (fun h => kt (fun q => h ((nI_eq ha hbb).mpr q))) (fun h => kf (Decidable.byContradiction (fun q => h (fun z => q ((nI_eq ha hbb).mp z)))))
/-- two roads meet at pcJ: what holds there goes first -/
theorem rjoin {nL : Nat} (pcJ : Nat) (L : List (Nat × Value)) (st : List Value) (hJ : ∀ ls, lv_has ls nL L → W p l e R s m args below meth c H locs cells slots Q (F0 m pcJ ls st)) {g : JFrame}
    (hB : (∀ ls, lv_has ls nL L → W p l e R s m args below meth c H locs cells slots Q (F0 m pcJ ls st)) → W p l e R s m args below meth c H locs cells slots Q g) : W p l e R s m args below meth c H locs cells slots Q g := hB hJ
/-- the same, where heap and locals may be any that the joint words allow -/
theorem rjoinH {σ : Type} (pcJ : Nat) {nL : Nat} {D : va_G} {cl : List vw_C} {A : Nat → Prop} {H0 : Heap} (Wd : σ → va_W) (L : σ → List (Nat × Value)) (st : σ → List Value) (I : σ → Prop)
    (hJ : ∀ (z : σ) (H : Heap) (locs : List Loc) (ls : Array Slot), I z → va_P D cl (Wd z) H → va_D A (Wd z) → va_S A H0 H locs → lv_has ls nL (L z) → W p l e R s m args below meth c H locs cells slots Q (F0 m pcJ ls (st z))) {g : JFrame}
    (hB : (∀ (z : σ) (H : Heap) (locs : List Loc) (ls : Array Slot), I z → va_P D cl (Wd z) H → va_D A (Wd z) → va_S A H0 H locs → lv_has ls nL (L z) → W p l e R s m args below meth c H locs cells slots Q (F0 m pcJ ls (st z))) → W p l e R s m args below meth c H locs cells slots Q g) : W p l e R s m args below meth c H locs cells slots Q g := hB hJ
/-- a counted loop that writes nothing: the locals are L k at its head, I k holds there -/
theorem rloop {nL hd : Nat} (lo n : Nat) (L : Nat → List (Nat × Value)) (I : Nat → Prop) (hlo : lo ≤ n) (hI : I lo) (h0 : lv_has ls nL (L lo))
    (step : ∀ k, lo ≤ k → k < n → I k → ∀ ls, lv_has ls nL (L k) → (I (k + 1) → ∀ ls, lv_has ls nL (L (k + 1)) → W p l e R s m args below meth c H locs cells slots Q (F0 m hd ls [])) → W p l e R s m args below meth c H locs cells slots Q (F0 m hd ls []))
    (last : I n → ∀ ls, lv_has ls nL (L n) → W p l e R s m args below meth c H locs cells slots Q (F0 m hd ls [])) : W p l e R s m args below meth c H locs cells slots Q (F0 m hd ls []) := by
  have go : ∀ (j k : Nat), lo ≤ k → k + j = n → I k → ∀ ls, lv_has ls nL (L k) → W p l e R s m args below meth c H locs cells slots Q (F0 m hd ls []) := by
    intro j
    induction j with
    | zero =>
      intro k h1 h2 h3 ls h4
      have : k = n := by omega
      subst this
      exact last h3 ls h4
    | succ j ih =>
      intro k h1 h2 h3 ls h4
      exact step k h1 (by omega) h3 ls h4 (fun h5 ls h6 => ih (k + 1) (by omega) (by omega) h5 ls h6)
  exact go (n - lo) lo (Nat.le_refl _) (by omega) hI ls h0
/-- a loop that writes nothing, by a measure that falls -/
theorem rloopM {σ : Type} {nL hd : Nat} (μ : σ → Nat) (L : σ → List (Nat × Value)) (I : σ → Prop) (z0 : σ) (hI : I z0) (h0 : lv_has ls nL (L z0))
    (step : ∀ z, I z → ∀ ls, lv_has ls nL (L z) → (∀ z', I z' → μ z' < μ z → ∀ ls, lv_has ls nL (L z') → W p l e R s m args below meth c H locs cells slots Q (F0 m hd ls [])) → W p l e R s m args below meth c H locs cells slots Q (F0 m hd ls [])) : W p l e R s m args below meth c H locs cells slots Q (F0 m hd ls []) := by
  have go : ∀ (k : Nat) (z : σ), μ z < k → I z → ∀ ls, lv_has ls nL (L z) → W p l e R s m args below meth c H locs cells slots Q (F0 m hd ls []) := by
    intro k
    induction k with
    | zero => intro z h; exact absurd h (Nat.not_lt_zero _)
    | succ k ih =>
      intro z h h1 ls h2
      exact step z h1 ls h2 (fun z' h3 h4 ls h5 => ih z' (by omega) h3 ls h5)
  exact go (μ z0 + 1) z0 (Nat.lt_succ_self _) hI ls h0
/-- a loop that writes, by a measure that falls -/
theorem rloopH {σ : Type} {nL hd : Nat} {D : va_G} {cl : List vw_C} {A : Nat → Prop} {H0 : Heap} (μ : σ → Nat) (Wd : σ → va_W) (L : σ → List (Nat × Value)) (I : σ → Prop) (z0 : σ) (hI : I z0) (hP : va_P D cl (Wd z0) H) (hD : va_D A (Wd z0)) (hS : va_S A H0 H locs) (h0 : lv_has ls nL (L z0))
    (step : ∀ z, I z → ∀ (H : Heap) (locs : List Loc) (ls : Array Slot), va_P D cl (Wd z) H → va_D A (Wd z) → va_S A H0 H locs → lv_has ls nL (L z) → (∀ z', I z' → μ z' < μ z → ∀ (H : Heap) (locs : List Loc) (ls : Array Slot), va_P D cl (Wd z') H → va_D A (Wd z') → va_S A H0 H locs → lv_has ls nL (L z') → W p l e R s m args below meth c H locs cells slots Q (F0 m hd ls [])) → W p l e R s m args below meth c H locs cells slots Q (F0 m hd ls [])) : W p l e R s m args below meth c H locs cells slots Q (F0 m hd ls []) := by
  have go : ∀ (k : Nat) (z : σ), μ z < k → I z → ∀ (H : Heap) (locs : List Loc) (ls : Array Slot), va_P D cl (Wd z) H → va_D A (Wd z) → va_S A H0 H locs → lv_has ls nL (L z) → W p l e R s m args below meth c H locs cells slots Q (F0 m hd ls []) := by
    intro k
    induction k with
    | zero => intro z h; exact absurd h (Nat.not_lt_zero _)
    | succ k ih =>
      intro z h h1 H locs ls h2 h3 h4 h5
      exact step z h1 H locs ls h2 h3 h4 h5 (fun z' g1 g2 H locs ls g3 g4 g5 g6 => ih z' (by omega) g1 H locs ls g3 g4 g5 g6)
  exact go (μ z0 + 1) z0 (Nat.lt_succ_self _) hI H locs ls hP hD hS h0
/-- a counted loop that writes -/
theorem rloopC {nL hd : Nat} {D : va_G} {cl : List vw_C} {A : Nat → Prop} {H0 : Heap} (lo n : Nat) (Wd : Nat → va_W) (L : Nat → List (Nat × Value)) (I : Nat → Prop) (hlo : lo ≤ n) (hI : I lo) (hP : va_P D cl (Wd lo) H) (hD : va_D A (Wd lo)) (hS : va_S A H0 H locs) (h0 : lv_has ls nL (L lo))
    (step : ∀ k, lo ≤ k → k < n → I k → ∀ (H : Heap) (locs : List Loc) (ls : Array Slot), va_P D cl (Wd k) H → va_D A (Wd k) → va_S A H0 H locs → lv_has ls nL (L k) → (I (k + 1) → ∀ (H : Heap) (locs : List Loc) (ls : Array Slot), va_P D cl (Wd (k + 1)) H → va_D A (Wd (k + 1)) → va_S A H0 H locs → lv_has ls nL (L (k + 1)) → W p l e R s m args below meth c H locs cells slots Q (F0 m hd ls [])) → W p l e R s m args below meth c H locs cells slots Q (F0 m hd ls []))
    (last : I n → ∀ (H : Heap) (locs : List Loc) (ls : Array Slot), va_P D cl (Wd n) H → va_D A (Wd n) → va_S A H0 H locs → lv_has ls nL (L n) → W p l e R s m args below meth c H locs cells slots Q (F0 m hd ls [])) : W p l e R s m args below meth c H locs cells slots Q (F0 m hd ls []) := by
  have go : ∀ (j k : Nat), lo ≤ k → k + j = n → I k → ∀ (H : Heap) (locs : List Loc) (ls : Array Slot), va_P D cl (Wd k) H → va_D A (Wd k) → va_S A H0 H locs → lv_has ls nL (L k) → W p l e R s m args below meth c H locs cells slots Q (F0 m hd ls []) := by
    intro j
    induction j with
    | zero =>
      intro k h1 h2 h3 H locs ls g1 g2 g3 g4
      have : k = n := by omega
      subst this
      exact last h3 H locs ls g1 g2 g3 g4
    | succ j ih =>
      intro k h1 h2 h3 H locs ls g1 g2 g3 g4
      exact step k h1 (by omega) h3 H locs ls g1 g2 g3 g4 (fun h5 H locs ls q1 q2 q3 q4 => ih (k + 1) (by omega) (by omega) h5 H locs ls q1 q2 q3 q4)
  exact go (n - lo) lo (Nat.le_refl _) (by omega) hI H locs ls hP hD hS h0
end RWB
end
section
/-! the nest's words, worlds that are only read, worlds that are written, calls of both kinds -/
def nwL : List Cond := [.fieldLinkNest "AchromatDesk" 46 "AchromatDesk$GlassText" "length" "I" "AchromatDesk", .fieldLinkNest "AchromatDesk$DoubletRanking" 32 "AchromatDesk$Catalogue" "count" "I" "AchromatDesk", .fieldLinkNest "AchromatDesk" 77 "AchromatDesk$Catalogue" "count" "I" "AchromatDesk", .fieldLinkNest "AchromatDesk" 161 "AchromatDesk$DoubletRanking" "count" "I" "AchromatDesk", .fieldLinkNest "AchromatDesk" 178 "AchromatDesk$LensSystem" "count" "I" "AchromatDesk", .fieldLinkNest "AchromatDesk" 204 "AchromatDesk$PlateSet" "count" "I" "AchromatDesk", .methodLinkNest "AchromatDesk" 11 yX2_init "AchromatDesk", .methodLinkNest "AchromatDesk" 18 yX0_init "AchromatDesk", .methodLinkNest "AchromatDesk" 25 yX1_init "AchromatDesk", .methodLinkNest "AchromatDesk" 32 yX3_init "AchromatDesk", .methodLinkNest "AchromatDesk" 39 yX4_init "AchromatDesk", .methodLinkNest "AchromatDesk$Catalogue" 42 yX5_floorQuotient "AchromatDesk", .methodLinkNest "AchromatDesk$LensSystem" 44 yX5_floorQuotient "AchromatDesk"]
def NW (U : State) : Prop := ∀ w ∈ nwL, va_Nw w U
theorem nwL_tbl : ∀ w ∈ nwL, w ∈ lw_tbl := by decide +kernel
theorem nwL_on : ∀ w ∈ nwL, w.onTables = true := by decide +kernel
theorem NW.at {U : State} (h : NW U) (k : Nat) {w : Cond} (hk : nwL[k]? = some w) : va_Nw w U := h w (List.mem_of_getElem? hk)
theorem NW.same {u U : State} (h : u.vm = U.vm) (hN : NW u) : NW U := fun w hw => va_Nw.same (nwL_on w hw) h (hN w hw)
theorem NW.warm {s U : State} (hW : s.WarmedH U.vm) (hN : NW s) : NW U := by
  have hN' : ∀ w ∈ nwL, va_Nw w s := hN
  show ∀ w ∈ nwL, va_Nw w U
  unfold nwL at hN' ⊢
  simp only [List.forall_mem_cons] at hN' ⊢
  obtain ⟨h0, h1, h2, h3, h4, h5, h6, h7, h8, h9, h10, h11, h12, -⟩ := hN'
  exact ⟨va_Nw.warmF hW h0, va_Nw.warmF hW h1, va_Nw.warmF hW h2, va_Nw.warmF hW h3, va_Nw.warmF hW h4, va_Nw.warmF hW h5, va_Nw.warmM hW h6, va_Nw.warmM hW h7, va_Nw.warmM hW h8, va_Nw.warmM hW h9, va_Nw.warmM hW h10, va_Nw.warmM hW h11, va_Nw.warmM hW h12, fun w h => absurd h List.not_mem_nil⟩
abbrev tyK (cI cJ : ClassId) : List (ClassId × FieldType) := [(cI, .int), (cJ, .long)]
/-- a world that is only read -/
def RO (D : va_G) (tys : List (ClassId × FieldType)) (wc : va_W) (U : State) : Prop := va_P D vwCl wc U.heap ∧ va_K D vwCl tys U ∧ NW U
/-- a world that is written -/
def MU (D : va_G) (tys : List (ClassId × FieldType)) (wc : va_W) (sz : Nat) (U : State) : Prop := U.heap.size = sz ∧ va_P D vwCl wc U.heap ∧ va_K D vwCl tys U ∧ NW U ∧ va_D (fun _ => True) wc
/-- what is left behind a method that writes -/
abbrev MB (D : va_G) (wc : va_W) (sz : Nat) {S : Type} (w1 : S → va_W) : S → State → Prop := fun u t => va_P D vwCl (w1 u) t.heap ∧ va_D (va_A wc sz) (w1 u)
theorem RO.blind {D : va_G} {tys : List (ClassId × FieldType)} {wc : va_W} {av : List Value} : FrameBlind (va_Pc av (RO D tys wc)) := fun a U g mk q => by
  obtain ⟨q0, qP, qK, qN⟩ := q
  exact ⟨q0, qP, va_K.moved (u := U) (U := U.calling g mk a) (Vm.Alike.refl U.vm) qK, NW.same (u := U) (U := U.calling g mk a) rfl qN⟩
theorem MU.blind {D : va_G} {tys : List (ClassId × FieldType)} {wc : va_W} {sz : Nat} {av : List Value} : FrameBlind (va_Pc av (MU D tys wc sz)) := fun a U g mk q => by
  obtain ⟨q0, q1, qP, qK, qN, qD⟩ := q
  exact ⟨q0, q1, qP, va_K.moved (u := U) (U := U.calling g mk a) (Vm.Alike.refl U.vm) qK, NW.same (u := U) (U := U.calling g mk a) rfl qN, qD⟩
theorem T.blind {av : List Value} : FrameBlind (va_Pc av (fun _ => True)) := fun a U g mk q => ⟨q.1, trivial⟩
theorem RO.pre {D : va_G} {tys : List (ClassId × FieldType)} {wc : va_W} {s : State} {H : Heap} (hP : va_P D vwCl wc H) (hK : va_K D vwCl tys s) (hN : NW s) (av : List Value) : ∀ U : State, U.heap = H → s.WarmedH U.vm → va_Pc av (RO D tys wc) av.toArray U := fun U hU hW => ⟨rfl, by rw [hU]; exact hP, va_K.moved hW.alike hK, NW.warm hW hN⟩
theorem MU.pre {D : va_G} {tys : List (ClassId × FieldType)} {wc : va_W} {A : Nat → Prop} {s : State} {H : Heap} (hP : va_P D vwCl wc H) (hK : va_K D vwCl tys s) (hN : NW s) (hD : va_D A wc) (av : List Value) : ∀ U : State, U.heap = H → s.WarmedH U.vm → va_Pc av (MU D tys wc H.size) av.toArray U := fun U hU hW => ⟨rfl, by rw [hU], by rw [hU]; exact hP, va_K.moved hW.alike hK, NW.warm hW hN, hD.weaken (fun _ _ _ _ => trivial)⟩
section RWC
variable {p : Program} {l : Launch} {e : Env} {R : Room} {s : State} {m : MethodId} {args : Array Value} {below : List Frame} {meth : Method} {c : Code} {H : Heap} {locs : List Loc} {cells slots : Nat} {Q : State → Prop}
variable {cc : ByteArray} {pc : Nat} {ls : Array Slot} {rest st0 As : List Value}
variable {y : MethodName} {bytes : ByteArray} {maxL nL n index b : Nat} {ret : Option FieldType} {ws : List Cond} {rm : Room} {Ts : List Cond} {own C host : String} {D : va_G} {tys : List (ClassId × FieldType)} {wc : va_W}
/-- a call of a method of an object that only reads -/
theorem roVl {post : Int64 → Prop} (hM : Met l y ws rm (va_Pc (Value.ref b :: As) (RO D tys wc)) (vp_Sl post) 0 0 (fun _ => False)) (S : CallFix p m c cc nL s args Ts own) (cw : CallW R s args own C index y bytes maxL ret ws rm 0 0 n) (hP : va_P D vwCl wc H) (hK : va_K D vwCl tys s) (hN : NW s) {ci N : Nat} {T : u_T} {fs : List Value} (hc : vwCl[ci]? = some (C, T, N)) (he : wc[0]? = some (b, .inr (ci, fs)))
    (hn : As.length = n) (hsize : ls.size = nL) (hst : st0 = As.reverse ++ .ref b :: rest) (hW : (rest.map fun v => v.category).sum ≤ 8) (hdg : decode cc pc = .ok (.invokevirtual index, 3)) (hf : cells ≤ R.cells ∧ slots ≤ R.slots)
    (kk : ∀ r : Int64, post r → W p l e R s m args below meth c H locs cells slots Q (F0 m (pc + 3) ls (.long r :: rest))) : W p l e R s m args below meth c H locs cells slots Q (F0 m pc ls st0) :=
  vp_callSl (va_Run.run (va_runV (g := F0 m pc ls st0) S hM cw ⟨RO.blind, va_recv hK hP hc he, RO.pre hP hK hN _⟩ rfl hn hsize hst (lv_room hW) hdg hf)) kk
theorem roVi {post : Int32 → Prop} (hM : Met l y ws rm (va_Pc (Value.ref b :: As) (RO D tys wc)) (vp_Si post) 0 0 (fun _ => False)) (S : CallFix p m c cc nL s args Ts own) (cw : CallW R s args own C index y bytes maxL ret ws rm 0 0 n) (hP : va_P D vwCl wc H) (hK : va_K D vwCl tys s) (hN : NW s) {ci N : Nat} {T : u_T} {fs : List Value} (hc : vwCl[ci]? = some (C, T, N)) (he : wc[0]? = some (b, .inr (ci, fs)))
    (hn : As.length = n) (hsize : ls.size = nL) (hst : st0 = As.reverse ++ .ref b :: rest) (hW : (rest.map fun v => v.category).sum ≤ 8) (hdg : decode cc pc = .ok (.invokevirtual index, 3)) (hf : cells ≤ R.cells ∧ slots ≤ R.slots)
    (kk : ∀ r : Int32, post r → W p l e R s m args below meth c H locs cells slots Q (F0 m (pc + 3) ls (.int r :: rest))) : W p l e R s m args below meth c H locs cells slots Q (F0 m pc ls st0) :=
  vp_callSi (va_Run.run (va_runV (g := F0 m pc ls st0) S hM cw ⟨RO.blind, va_recv hK hP hc he, RO.pre hP hK hN _⟩ rfl hn hsize hst (lv_room hW) hdg hf)) kk
/-- a call of a static method that needs no world -/
theorem stSl {post : Int64 → Prop} (hM : Met l y ws rm (va_Pc As (fun _ => True)) (vp_Sl post) 0 0 (fun _ => False)) (S : CallFix p m c cc nL s args Ts own) (cw : CallB R s args own index y bytes maxL ret ws rm 0 0 n ∧ (Cond.static y).before args s = true)
    (hn : As.length = n) (hsize : ls.size = nL) (hst : st0 = As.reverse ++ rest) (hW : (rest.map fun v => v.category).sum ≤ 8) (hdg : decode cc pc = .ok (.invokestatic index, 3)) (hf : cells ≤ R.cells ∧ slots ≤ R.slots)
    (kk : ∀ r : Int64, post r → W p l e R s m args below meth c H locs cells slots Q (F0 m (pc + 3) ls (.long r :: rest))) : W p l e R s m args below meth c H locs cells slots Q (F0 m pc ls st0) :=
  vp_callSl (va_Run.run (va_runS (g := F0 m pc ls st0) S hM cw ⟨T.blind, fun U hU hW => ⟨rfl, trivial⟩⟩ rfl hn hsize hst (lv_room hW) hdg hf)) kk
theorem stSi {post : Int32 → Prop} (hM : Met l y ws rm (va_Pc As (fun _ => True)) (vp_Si post) 0 0 (fun _ => False)) (S : CallFix p m c cc nL s args Ts own) (cw : CallB R s args own index y bytes maxL ret ws rm 0 0 n ∧ (Cond.static y).before args s = true)
    (hn : As.length = n) (hsize : ls.size = nL) (hst : st0 = As.reverse ++ rest) (hW : (rest.map fun v => v.category).sum ≤ 8) (hdg : decode cc pc = .ok (.invokestatic index, 3)) (hf : cells ≤ R.cells ∧ slots ≤ R.slots)
    (kk : ∀ r : Int32, post r → W p l e R s m args below meth c H locs cells slots Q (F0 m (pc + 3) ls (.int r :: rest))) : W p l e R s m args below meth c H locs cells slots Q (F0 m pc ls st0) :=
  vp_callSi (va_Run.run (va_runS (g := F0 m pc ls st0) S hM cw ⟨T.blind, fun U hU hW => ⟨rfl, trivial⟩⟩ rfl hn hsize hst (lv_room hW) hdg hf)) kk
/-- the same, of a nest mate's private method -/
theorem nsSl {post : Int64 → Prop} (hM : Met l y ws rm (va_Pc As (fun _ => True)) (vp_Sl post) 0 0 (fun _ => False)) (S : CallFix p m c cc nL s args Ts own) (cw : va_CN R s args own index y host bytes maxL ret ws rm 0 0 n) (hstt : (Cond.static y).before args s = true)
    (hn : As.length = n) (hsize : ls.size = nL) (hst : st0 = As.reverse ++ rest) (hW : (rest.map fun v => v.category).sum ≤ 8) (hdg : decode cc pc = .ok (.invokestatic index, 3)) (hf : cells ≤ R.cells ∧ slots ≤ R.slots)
    (kk : ∀ r : Int64, post r → W p l e R s m args below meth c H locs cells slots Q (F0 m (pc + 3) ls (.long r :: rest))) : W p l e R s m args below meth c H locs cells slots Q (F0 m pc ls st0) :=
  vp_callSl (va_Run.run (va_runSN (g := F0 m pc ls st0) S hM ⟨cw, hstt, trivial⟩ ⟨T.blind, fun U hU hW => ⟨rfl, trivial⟩⟩ rfl hn hsize hst (lv_room hW) hdg hf)) kk
variable {A0 : Nat → Prop} {H0 : Heap} {wb wr : va_W} {mc ms : Nat}
/-- a call of a method of an object that writes: its cells come back behind the others -/
theorem muVl {S' : Type} {post : Int64 → S' → Prop} {w1 : S' → va_W} (hM : Met l y ws rm (va_Pc (Value.ref b :: As) (MU D tys wc H.size)) (va_Ql post (MB D wc H.size w1) (va_A wc H.size)) mc ms (va_A wc H.size)) (S : CallFix p m c cc nL s args Ts own) (cw : CallW R s args own C index y bytes maxL ret ws rm mc ms n) (hP : va_P D vwCl wb H) (hD : va_D A0 wb) (hS : va_S A0 H0 H locs) (hA : ∀ q, H0.size ≤ q → A0 q) (hK : va_K D vwCl tys s) (hN : NW s) (isC isR : List Nat) (hC : isC.map (fun i => wb[i]?) = wc.map some) (hC2 : isC.filterMap (fun i => wb[i]?) = wc) (hCn : va_nd isC = true) (hR : isR.map (fun i => wb[i]?) = wr.map some) (hRn : va_nd isR = true) (hdis : ∀ i ∈ isR, i ∉ isC) {ci N : Nat} {T : u_T} {fs : List Value} (hc : vwCl[ci]? = some (C, T, N)) (he : wc[0]? = some (b, .inr (ci, fs)))
    (hn : As.length = n) (hsize : ls.size = nL) (hst : st0 = As.reverse ++ .ref b :: rest) (hW : (rest.map fun v => v.category).sum ≤ 8) (hdg : decode cc pc = .ok (.invokevirtual index, 3)) (hf : cells + mc ≤ R.cells ∧ slots + ms ≤ R.slots)
    (kk : ∀ (r : Int64) (u : S') (H1 : Heap) (locs1 : List Loc), post r u → va_P D vwCl (wr ++ w1 u) H1 → va_D A0 (wr ++ w1 u) → va_S A0 H0 H1 locs1 → W p l e R s m args below meth c H1 locs1 (cells + mc) (slots + ms) Q (F0 m (pc + 3) ls (.long r :: rest))) : W p l e R s m args below meth c H locs cells slots Q (F0 m pc ls st0) := by
  have hPc := hP.sub isC hC2
  have hDc := hD.sub isC hCn hC
  have hFc := va_free hD hS hA isC hC
  refine va_calll (va_runV (g := F0 m pc ls st0) S hM cw ⟨MU.blind, va_recv hK hPc hc he, MU.pre hPc hK hN hDc _⟩ rfl hn hsize hst (lv_room hW) hdg hf) hS (fun q _ h => hFc q h) hFc (fun r u t H1 locs ht hvm hw hB hz1 hk1 hS => ?_)
  obtain ⟨hP1, hD1⟩ := hB
  rw [ht] at hP1
  obtain ⟨hP, hD⟩ := va_join hP hD isC isR hC hR hRn hdis hk1 hFc hP1 hD1
  exact kk r u H1 locs hw hP hD hS
theorem muVi {S' : Type} {post : Int32 → S' → Prop} {w1 : S' → va_W} (hM : Met l y ws rm (va_Pc (Value.ref b :: As) (MU D tys wc H.size)) (va_Qi post (MB D wc H.size w1) (va_A wc H.size)) mc ms (va_A wc H.size)) (S : CallFix p m c cc nL s args Ts own) (cw : CallW R s args own C index y bytes maxL ret ws rm mc ms n) (hP : va_P D vwCl wb H) (hD : va_D A0 wb) (hS : va_S A0 H0 H locs) (hA : ∀ q, H0.size ≤ q → A0 q) (hK : va_K D vwCl tys s) (hN : NW s) (isC isR : List Nat) (hC : isC.map (fun i => wb[i]?) = wc.map some) (hC2 : isC.filterMap (fun i => wb[i]?) = wc) (hCn : va_nd isC = true) (hR : isR.map (fun i => wb[i]?) = wr.map some) (hRn : va_nd isR = true) (hdis : ∀ i ∈ isR, i ∉ isC) {ci N : Nat} {T : u_T} {fs : List Value} (hc : vwCl[ci]? = some (C, T, N)) (he : wc[0]? = some (b, .inr (ci, fs)))
    (hn : As.length = n) (hsize : ls.size = nL) (hst : st0 = As.reverse ++ .ref b :: rest) (hW : (rest.map fun v => v.category).sum ≤ 8) (hdg : decode cc pc = .ok (.invokevirtual index, 3)) (hf : cells + mc ≤ R.cells ∧ slots + ms ≤ R.slots)
    (kk : ∀ (r : Int32) (u : S') (H1 : Heap) (locs1 : List Loc), post r u → va_P D vwCl (wr ++ w1 u) H1 → va_D A0 (wr ++ w1 u) → va_S A0 H0 H1 locs1 → W p l e R s m args below meth c H1 locs1 (cells + mc) (slots + ms) Q (F0 m (pc + 3) ls (.int r :: rest))) : W p l e R s m args below meth c H locs cells slots Q (F0 m pc ls st0) := by
  have hPc := hP.sub isC hC2
  have hDc := hD.sub isC hCn hC
  have hFc := va_free hD hS hA isC hC
  refine va_calli (va_runV (g := F0 m pc ls st0) S hM cw ⟨MU.blind, va_recv hK hPc hc he, MU.pre hPc hK hN hDc _⟩ rfl hn hsize hst (lv_room hW) hdg hf) hS (fun q _ h => hFc q h) hFc (fun r u t H1 locs ht hvm hw hB hz1 hk1 hS => ?_)
  obtain ⟨hP1, hD1⟩ := hB
  rw [ht] at hP1
  obtain ⟨hP, hD⟩ := va_join hP hD isC isR hC hR hRn hdis hk1 hFc hP1 hD1
  exact kk r u H1 locs hw hP hD hS
theorem muVv {S' : Type} {post : S' → Prop} {w1 : S' → va_W} (hM : Met l y ws rm (va_Pc (Value.ref b :: As) (MU D tys wc H.size)) (va_Qv post (MB D wc H.size w1) (va_A wc H.size)) mc ms (va_A wc H.size)) (S : CallFix p m c cc nL s args Ts own) (cw : CallW R s args own C index y bytes maxL ret ws rm mc ms n) (hP : va_P D vwCl wb H) (hD : va_D A0 wb) (hS : va_S A0 H0 H locs) (hA : ∀ q, H0.size ≤ q → A0 q) (hK : va_K D vwCl tys s) (hN : NW s) (isC isR : List Nat) (hC : isC.map (fun i => wb[i]?) = wc.map some) (hC2 : isC.filterMap (fun i => wb[i]?) = wc) (hCn : va_nd isC = true) (hR : isR.map (fun i => wb[i]?) = wr.map some) (hRn : va_nd isR = true) (hdis : ∀ i ∈ isR, i ∉ isC) {ci N : Nat} {T : u_T} {fs : List Value} (hc : vwCl[ci]? = some (C, T, N)) (he : wc[0]? = some (b, .inr (ci, fs)))
    (hn : As.length = n) (hsize : ls.size = nL) (hst : st0 = As.reverse ++ .ref b :: rest) (hW : (rest.map fun v => v.category).sum ≤ 8) (hdg : decode cc pc = .ok (.invokevirtual index, 3)) (hf : cells + mc ≤ R.cells ∧ slots + ms ≤ R.slots)
    (kk : ∀ (u : S') (H1 : Heap) (locs1 : List Loc), post u → va_P D vwCl (wr ++ w1 u) H1 → va_D A0 (wr ++ w1 u) → va_S A0 H0 H1 locs1 → W p l e R s m args below meth c H1 locs1 (cells + mc) (slots + ms) Q (F0 m (pc + 3) ls rest)) : W p l e R s m args below meth c H locs cells slots Q (F0 m pc ls st0) := by
  have hPc := hP.sub isC hC2
  have hDc := hD.sub isC hCn hC
  have hFc := va_free hD hS hA isC hC
  refine va_callv (va_runV (g := F0 m pc ls st0) S hM cw ⟨MU.blind, va_recv hK hPc hc he, MU.pre hPc hK hN hDc _⟩ rfl hn hsize hst (lv_room hW) hdg hf) hS (fun q _ h => hFc q h) hFc (fun u t H1 locs ht hvm hw hB hz1 hk1 hS => ?_)
  obtain ⟨hP1, hD1⟩ := hB
  rw [ht] at hP1
  obtain ⟨hP, hD⟩ := va_join hP hD isC isR hC hR hRn hdis hk1 hFc hP1 hD1
  exact kk u H1 locs hw hP hD hS
end RWC
end
