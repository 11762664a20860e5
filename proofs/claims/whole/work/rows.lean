section
/-! Out of the starting texts: PART A of the skeleton; rows for throwing and catching (names printed for this claim), Bundle's names written out. -/
/-- a private method of a class that the tables say can be made, by its rows of tables_1 -/
def lw_okq (q : MethodName × Nat) : Prop := (q.1.cls ≠ "java/lang/invoke/MethodHandle" ∧ q.1.cls ≠ "java/lang/invoke/VarHandle") ∧ Cond.instantiable q.1.cls q.2 ∈ tables_1 ∧ Cond.privateMethod q.1 ∈ tables_1 ∧ Cond.instanceMethod q.1 ∈ tables_1
theorem lw_p0 : lw_okq (⟨"CutSheets", "sheet", "()LCutSheets$Sheet;"⟩, 9) := ⟨⟨by decide +kernel, by decide +kernel⟩, List.mem_of_getElem? (i := 16) (by decide +kernel), List.mem_of_getElem? (i := 169) (by decide +kernel), List.mem_of_getElem? (i := 170) (by decide +kernel)⟩
theorem lw_p1 : lw_okq (⟨"CutSheets$Sheet", "areas", "(I)[I"⟩, 5) := ⟨⟨by decide +kernel, by decide +kernel⟩, List.mem_of_getElem? (i := 25) (by decide +kernel), List.mem_of_getElem? (i := 181) (by decide +kernel), List.mem_of_getElem? (i := 182) (by decide +kernel)⟩
theorem lw_p2 : lw_okq (⟨"java/lang/Throwable", "fillInStackTrace", "(I)Ljava/lang/Throwable;"⟩, 6) := ⟨⟨by decide +kernel, by decide +kernel⟩, List.mem_of_getElem? (i := 227) (by decide +kernel), List.mem_of_getElem? (i := 225) (by decide +kernel), List.mem_of_getElem? (i := 226) (by decide +kernel)⟩
theorem lw_p3 : lw_okq (⟨"CutSheets", "mayInsert", "(I)Z"⟩, 9) := ⟨⟨by decide +kernel, by decide +kernel⟩, List.mem_of_getElem? (i := 16) (by decide +kernel), List.mem_of_getElem? (i := 252) (by decide +kernel), List.mem_of_getElem? (i := 253) (by decide +kernel)⟩
theorem lw_p4 : lw_okq (⟨"CutSheets", "mayChange", "()Z"⟩, 9) := ⟨⟨by decide +kernel, by decide +kernel⟩, List.mem_of_getElem? (i := 16) (by decide +kernel), List.mem_of_getElem? (i := 286) (by decide +kernel), List.mem_of_getElem? (i := 287) (by decide +kernel)⟩
theorem lw_p5 : lw_okq (⟨"CutSheets$Sheet", "leastNumber", "(I)I"⟩, 5) := ⟨⟨by decide +kernel, by decide +kernel⟩, List.mem_of_getElem? (i := 25) (by decide +kernel), List.mem_of_getElem? (i := 294) (by decide +kernel), List.mem_of_getElem? (i := 295) (by decide +kernel)⟩
theorem lw_p6 : lw_okq (⟨"CutSheets$Sheet", "howManyIn", "(II)I"⟩, 5) := ⟨⟨by decide +kernel, by decide +kernel⟩, List.mem_of_getElem? (i := 25) (by decide +kernel), List.mem_of_getElem? (i := 302) (by decide +kernel), List.mem_of_getElem? (i := 303) (by decide +kernel)⟩
theorem lw_p7 : lw_okq (⟨"CutSheets", "changed", "()LCutSheets$Sheet;"⟩, 9) := ⟨⟨by decide +kernel, by decide +kernel⟩, List.mem_of_getElem? (i := 16) (by decide +kernel), List.mem_of_getElem? (i := 327) (by decide +kernel), List.mem_of_getElem? (i := 328) (by decide +kernel)⟩
theorem lw_p8 : lw_okq (⟨"CutSheets$Sheet", "putAll", "(II)V"⟩, 5) := ⟨⟨by decide +kernel, by decide +kernel⟩, List.mem_of_getElem? (i := 25) (by decide +kernel), List.mem_of_getElem? (i := 401) (by decide +kernel), List.mem_of_getElem? (i := 402) (by decide +kernel)⟩
theorem lw_p9 : lw_okq (⟨"CutSheets$Sheet", "copySpot", "(II[I)I"⟩, 5) := ⟨⟨by decide +kernel, by decide +kernel⟩, List.mem_of_getElem? (i := 25) (by decide +kernel), List.mem_of_getElem? (i := 430) (by decide +kernel), List.mem_of_getElem? (i := 431) (by decide +kernel)⟩
theorem lw_p10 : lw_okq (⟨"CutSheets$Sheet", "copyCut", "(II[II)I"⟩, 5) := ⟨⟨by decide +kernel, by decide +kernel⟩, List.mem_of_getElem? (i := 25) (by decide +kernel), List.mem_of_getElem? (i := 435) (by decide +kernel), List.mem_of_getElem? (i := 436) (by decide +kernel)⟩
theorem lw_p11 : lw_okq (⟨"CutSheets$Sheet", "copyCutsIn", "(II[II)V"⟩, 5) := ⟨⟨by decide +kernel, by decide +kernel⟩, List.mem_of_getElem? (i := 25) (by decide +kernel), List.mem_of_getElem? (i := 439) (by decide +kernel), List.mem_of_getElem? (i := 440) (by decide +kernel)⟩
theorem lw_p12 : lw_okq (⟨"CutSheets", "hasAlike", "(II)Z"⟩, 9) := ⟨⟨by decide +kernel, by decide +kernel⟩, List.mem_of_getElem? (i := 16) (by decide +kernel), List.mem_of_getElem? (i := 450) (by decide +kernel), List.mem_of_getElem? (i := 451) (by decide +kernel)⟩
theorem lw_p13 : lw_okq (⟨"CutSheets$Reading", "clear", "(I)V"⟩, 5) := ⟨⟨by decide +kernel, by decide +kernel⟩, List.mem_of_getElem? (i := 58) (by decide +kernel), List.mem_of_getElem? (i := 458) (by decide +kernel), List.mem_of_getElem? (i := 459) (by decide +kernel)⟩
theorem lw_p14 : lw_okq (⟨"CutSheets$Reading", "addSpot", "(LCutSheets$Sheet;I)V"⟩, 5) := ⟨⟨by decide +kernel, by decide +kernel⟩, List.mem_of_getElem? (i := 58) (by decide +kernel), List.mem_of_getElem? (i := 462) (by decide +kernel), List.mem_of_getElem? (i := 463) (by decide +kernel)⟩
theorem lw_p15 : lw_okq (⟨"CutSheets$Reading", "add", "(I)V"⟩, 5) := ⟨⟨by decide +kernel, by decide +kernel⟩, List.mem_of_getElem? (i := 58) (by decide +kernel), List.mem_of_getElem? (i := 466) (by decide +kernel), List.mem_of_getElem? (i := 467) (by decide +kernel)⟩
def lw_privs_1 : List (MethodName × Nat) := [(⟨"CutSheets", "sheet", "()LCutSheets$Sheet;"⟩, 9), (⟨"CutSheets$Sheet", "areas", "(I)[I"⟩, 5), (⟨"java/lang/Throwable", "fillInStackTrace", "(I)Ljava/lang/Throwable;"⟩, 6), (⟨"CutSheets", "mayInsert", "(I)Z"⟩, 9), (⟨"CutSheets", "mayChange", "()Z"⟩, 9), (⟨"CutSheets$Sheet", "leastNumber", "(I)I"⟩, 5), (⟨"CutSheets$Sheet", "howManyIn", "(II)I"⟩, 5), (⟨"CutSheets", "changed", "()LCutSheets$Sheet;"⟩, 9), (⟨"CutSheets$Sheet", "putAll", "(II)V"⟩, 5), (⟨"CutSheets$Sheet", "copySpot", "(II[I)I"⟩, 5), (⟨"CutSheets$Sheet", "copyCut", "(II[II)I"⟩, 5), (⟨"CutSheets$Sheet", "copyCutsIn", "(II[II)V"⟩, 5), (⟨"CutSheets", "hasAlike", "(II)Z"⟩, 9), (⟨"CutSheets$Reading", "clear", "(I)V"⟩, 5), (⟨"CutSheets$Reading", "addSpot", "(LCutSheets$Sheet;I)V"⟩, 5), (⟨"CutSheets$Reading", "add", "(I)V"⟩, 5)]
theorem lw_r1 : ∀ q ∈ lw_privs_1, lw_okq q := List.forall_mem_cons.mpr ⟨lw_p0, List.forall_mem_cons.mpr ⟨lw_p1, List.forall_mem_cons.mpr ⟨lw_p2, List.forall_mem_cons.mpr ⟨lw_p3, List.forall_mem_cons.mpr ⟨lw_p4, List.forall_mem_cons.mpr ⟨lw_p5, List.forall_mem_cons.mpr ⟨lw_p6, List.forall_mem_cons.mpr ⟨lw_p7, List.forall_mem_cons.mpr ⟨lw_p8, List.forall_mem_cons.mpr ⟨lw_p9, List.forall_mem_cons.mpr ⟨lw_p10, List.forall_mem_cons.mpr ⟨lw_p11, List.forall_mem_cons.mpr ⟨lw_p12, List.forall_mem_cons.mpr ⟨lw_p13, List.forall_mem_cons.mpr ⟨lw_p14, List.forall_mem_cons.mpr ⟨lw_p15, fun _ h => absurd h List.not_mem_nil⟩⟩⟩⟩⟩⟩⟩⟩⟩⟩⟩⟩⟩⟩⟩⟩
theorem lw_p16 : lw_okq (⟨"CutSheets$Reading", "addLine", "(LCutSheets$Sheet;I)V"⟩, 5) := ⟨⟨by decide +kernel, by decide +kernel⟩, List.mem_of_getElem? (i := 58) (by decide +kernel), List.mem_of_getElem? (i := 471) (by decide +kernel), List.mem_of_getElem? (i := 472) (by decide +kernel)⟩
theorem lw_p17 : lw_okq (⟨"CutSheets$Reading", "addArea", "(LCutSheets$Sheet;II)V"⟩, 5) := ⟨⟨by decide +kernel, by decide +kernel⟩, List.mem_of_getElem? (i := 58) (by decide +kernel), List.mem_of_getElem? (i := 477) (by decide +kernel), List.mem_of_getElem? (i := 478) (by decide +kernel)⟩
theorem lw_p18 : lw_okq (⟨"CutSheets$Reading", "addCutsIn", "(LCutSheets$Sheet;II)V"⟩, 5) := ⟨⟨by decide +kernel, by decide +kernel⟩, List.mem_of_getElem? (i := 58) (by decide +kernel), List.mem_of_getElem? (i := 481) (by decide +kernel), List.mem_of_getElem? (i := 482) (by decide +kernel)⟩
theorem lw_p19 : lw_okq (⟨"CutSheets$Look", "isAreaTrue", "(II)Z"⟩, 9) := ⟨⟨by decide +kernel, by decide +kernel⟩, List.mem_of_getElem? (i := 82) (by decide +kernel), List.mem_of_getElem? (i := 600) (by decide +kernel), List.mem_of_getElem? (i := 601) (by decide +kernel)⟩
theorem lw_p20 : lw_okq (⟨"CutSheets$Look", "areSpotsTrue", "(I)Z"⟩, 9) := ⟨⟨by decide +kernel, by decide +kernel⟩, List.mem_of_getElem? (i := 82) (by decide +kernel), List.mem_of_getElem? (i := 604) (by decide +kernel), List.mem_of_getElem? (i := 605) (by decide +kernel)⟩
theorem lw_p21 : lw_okq (⟨"CutSheets$Look", "bitOfSpot", "(I)I"⟩, 9) := ⟨⟨by decide +kernel, by decide +kernel⟩, List.mem_of_getElem? (i := 82) (by decide +kernel), List.mem_of_getElem? (i := 608) (by decide +kernel), List.mem_of_getElem? (i := 609) (by decide +kernel)⟩
theorem lw_p22 : lw_okq (⟨"CutSheets$Look", "thingAt", "(I)I"⟩, 9) := ⟨⟨by decide +kernel, by decide +kernel⟩, List.mem_of_getElem? (i := 82) (by decide +kernel), List.mem_of_getElem? (i := 612) (by decide +kernel), List.mem_of_getElem? (i := 613) (by decide +kernel)⟩
theorem lw_p23 : lw_okq (⟨"CutSheets$Look", "areCutsFalse", "(II)Z"⟩, 9) := ⟨⟨by decide +kernel, by decide +kernel⟩, List.mem_of_getElem? (i := 82) (by decide +kernel), List.mem_of_getElem? (i := 622) (by decide +kernel), List.mem_of_getElem? (i := 623) (by decide +kernel)⟩
theorem lw_p24 : lw_okq (⟨"CutSheets$Look", "takeNextThings", "(I)V"⟩, 9) := ⟨⟨by decide +kernel, by decide +kernel⟩, List.mem_of_getElem? (i := 82) (by decide +kernel), List.mem_of_getElem? (i := 626) (by decide +kernel), List.mem_of_getElem? (i := 627) (by decide +kernel)⟩
theorem lw_p25 : lw_okq (⟨"CutSheetsModel", "isArea", "(I)Z"⟩, 21) := ⟨⟨by decide +kernel, by decide +kernel⟩, List.mem_of_getElem? (i := 650) (by decide +kernel), List.mem_of_getElem? (i := 729) (by decide +kernel), List.mem_of_getElem? (i := 730) (by decide +kernel)⟩
theorem lw_p26 : lw_okq (⟨"CutSheetsModel", "freeCut", "()I"⟩, 21) := ⟨⟨by decide +kernel, by decide +kernel⟩, List.mem_of_getElem? (i := 650) (by decide +kernel), List.mem_of_getElem? (i := 733) (by decide +kernel), List.mem_of_getElem? (i := 734) (by decide +kernel)⟩
theorem lw_p27 : lw_okq (⟨"CutSheetsModel", "checked", "(IZ)I"⟩, 21) := ⟨⟨by decide +kernel, by decide +kernel⟩, List.mem_of_getElem? (i := 650) (by decide +kernel), List.mem_of_getElem? (i := 737) (by decide +kernel), List.mem_of_getElem? (i := 738) (by decide +kernel)⟩
theorem lw_p28 : lw_okq (⟨"CutSheetsModel", "depthOf", "(I)I"⟩, 21) := ⟨⟨by decide +kernel, by decide +kernel⟩, List.mem_of_getElem? (i := 650) (by decide +kernel), List.mem_of_getElem? (i := 741) (by decide +kernel), List.mem_of_getElem? (i := 742) (by decide +kernel)⟩
theorem lw_p29 : lw_okq (⟨"CutSheetsModel", "keep", "()V"⟩, 21) := ⟨⟨by decide +kernel, by decide +kernel⟩, List.mem_of_getElem? (i := 650) (by decide +kernel), List.mem_of_getElem? (i := 745) (by decide +kernel), List.mem_of_getElem? (i := 746) (by decide +kernel)⟩
theorem lw_p30 : lw_okq (⟨"CutSheetsModel", "freeLine", "()I"⟩, 21) := ⟨⟨by decide +kernel, by decide +kernel⟩, List.mem_of_getElem? (i := 650) (by decide +kernel), List.mem_of_getElem? (i := 753) (by decide +kernel), List.mem_of_getElem? (i := 754) (by decide +kernel)⟩
theorem lw_p31 : lw_okq (⟨"CutSheetsModel", "places", "(I)I"⟩, 21) := ⟨⟨by decide +kernel, by decide +kernel⟩, List.mem_of_getElem? (i := 650) (by decide +kernel), List.mem_of_getElem? (i := 761) (by decide +kernel), List.mem_of_getElem? (i := 762) (by decide +kernel)⟩
def lw_privs_2 : List (MethodName × Nat) := [(⟨"CutSheets$Reading", "addLine", "(LCutSheets$Sheet;I)V"⟩, 5), (⟨"CutSheets$Reading", "addArea", "(LCutSheets$Sheet;II)V"⟩, 5), (⟨"CutSheets$Reading", "addCutsIn", "(LCutSheets$Sheet;II)V"⟩, 5), (⟨"CutSheets$Look", "isAreaTrue", "(II)Z"⟩, 9), (⟨"CutSheets$Look", "areSpotsTrue", "(I)Z"⟩, 9), (⟨"CutSheets$Look", "bitOfSpot", "(I)I"⟩, 9), (⟨"CutSheets$Look", "thingAt", "(I)I"⟩, 9), (⟨"CutSheets$Look", "areCutsFalse", "(II)Z"⟩, 9), (⟨"CutSheets$Look", "takeNextThings", "(I)V"⟩, 9), (⟨"CutSheetsModel", "isArea", "(I)Z"⟩, 21), (⟨"CutSheetsModel", "freeCut", "()I"⟩, 21), (⟨"CutSheetsModel", "checked", "(IZ)I"⟩, 21), (⟨"CutSheetsModel", "depthOf", "(I)I"⟩, 21), (⟨"CutSheetsModel", "keep", "()V"⟩, 21), (⟨"CutSheetsModel", "freeLine", "()I"⟩, 21), (⟨"CutSheetsModel", "places", "(I)I"⟩, 21)]
theorem lw_r2 : ∀ q ∈ lw_privs_2, lw_okq q := List.forall_mem_cons.mpr ⟨lw_p16, List.forall_mem_cons.mpr ⟨lw_p17, List.forall_mem_cons.mpr ⟨lw_p18, List.forall_mem_cons.mpr ⟨lw_p19, List.forall_mem_cons.mpr ⟨lw_p20, List.forall_mem_cons.mpr ⟨lw_p21, List.forall_mem_cons.mpr ⟨lw_p22, List.forall_mem_cons.mpr ⟨lw_p23, List.forall_mem_cons.mpr ⟨lw_p24, List.forall_mem_cons.mpr ⟨lw_p25, List.forall_mem_cons.mpr ⟨lw_p26, List.forall_mem_cons.mpr ⟨lw_p27, List.forall_mem_cons.mpr ⟨lw_p28, List.forall_mem_cons.mpr ⟨lw_p29, List.forall_mem_cons.mpr ⟨lw_p30, List.forall_mem_cons.mpr ⟨lw_p31, fun _ h => absurd h List.not_mem_nil⟩⟩⟩⟩⟩⟩⟩⟩⟩⟩⟩⟩⟩⟩⟩⟩
theorem lw_p32 : lw_okq (⟨"CutSheetsModel", "mayHook", "(II)Z"⟩, 21) := ⟨⟨by decide +kernel, by decide +kernel⟩, List.mem_of_getElem? (i := 650) (by decide +kernel), List.mem_of_getElem? (i := 765) (by decide +kernel), List.mem_of_getElem? (i := 766) (by decide +kernel)⟩
theorem lw_p33 : lw_okq (⟨"CutSheetsModel", "isLine", "(I)Z"⟩, 21) := ⟨⟨by decide +kernel, by decide +kernel⟩, List.mem_of_getElem? (i := 650) (by decide +kernel), List.mem_of_getElem? (i := 769) (by decide +kernel), List.mem_of_getElem? (i := 770) (by decide +kernel)⟩
theorem lw_p34 : lw_okq (⟨"CutSheetsModel", "isWithin", "(II)Z"⟩, 21) := ⟨⟨by decide +kernel, by decide +kernel⟩, List.mem_of_getElem? (i := 650) (by decide +kernel), List.mem_of_getElem? (i := 773) (by decide +kernel), List.mem_of_getElem? (i := 774) (by decide +kernel)⟩
theorem lw_p35 : lw_okq (⟨"CutSheetsModel", "freeSpot", "()I"⟩, 21) := ⟨⟨by decide +kernel, by decide +kernel⟩, List.mem_of_getElem? (i := 650) (by decide +kernel), List.mem_of_getElem? (i := 777) (by decide +kernel), List.mem_of_getElem? (i := 778) (by decide +kernel)⟩
theorem lw_p36 : lw_okq (⟨"CutSheetsModel", "noPart", "(II)Z"⟩, 21) := ⟨⟨by decide +kernel, by decide +kernel⟩, List.mem_of_getElem? (i := 650) (by decide +kernel), List.mem_of_getElem? (i := 789) (by decide +kernel), List.mem_of_getElem? (i := 790) (by decide +kernel)⟩
theorem lw_p37 : lw_okq (⟨"CutSheetsModel", "isSpot", "(I)Z"⟩, 21) := ⟨⟨by decide +kernel, by decide +kernel⟩, List.mem_of_getElem? (i := 650) (by decide +kernel), List.mem_of_getElem? (i := 793) (by decide +kernel), List.mem_of_getElem? (i := 794) (by decide +kernel)⟩
theorem lw_p38 : lw_okq (⟨"CutSheetsModel", "isCut", "(I)Z"⟩, 21) := ⟨⟨by decide +kernel, by decide +kernel⟩, List.mem_of_getElem? (i := 650) (by decide +kernel), List.mem_of_getElem? (i := 797) (by decide +kernel), List.mem_of_getElem? (i := 798) (by decide +kernel)⟩
theorem lw_p39 : lw_okq (⟨"CutSheetsModel", "areaOf", "(II)I"⟩, 21) := ⟨⟨by decide +kernel, by decide +kernel⟩, List.mem_of_getElem? (i := 650) (by decide +kernel), List.mem_of_getElem? (i := 801) (by decide +kernel), List.mem_of_getElem? (i := 802) (by decide +kernel)⟩
theorem lw_p40 : lw_okq (⟨"CutSheetsModel", "isHooked", "(I)Z"⟩, 21) := ⟨⟨by decide +kernel, by decide +kernel⟩, List.mem_of_getElem? (i := 650) (by decide +kernel), List.mem_of_getElem? (i := 805) (by decide +kernel), List.mem_of_getElem? (i := 806) (by decide +kernel)⟩
theorem lw_p41 : lw_okq (⟨"CutSheetsModel", "late", "()I"⟩, 21) := ⟨⟨by decide +kernel, by decide +kernel⟩, List.mem_of_getElem? (i := 650) (by decide +kernel), List.mem_of_getElem? (i := 809) (by decide +kernel), List.mem_of_getElem? (i := 810) (by decide +kernel)⟩
theorem lw_p42 : lw_okq (⟨"CutSheetsModel", "removeSpot", "(I)V"⟩, 21) := ⟨⟨by decide +kernel, by decide +kernel⟩, List.mem_of_getElem? (i := 650) (by decide +kernel), List.mem_of_getElem? (i := 813) (by decide +kernel), List.mem_of_getElem? (i := 814) (by decide +kernel)⟩
theorem lw_p43 : lw_okq (⟨"CutSheetsModel", "removeCut", "(I)V"⟩, 21) := ⟨⟨by decide +kernel, by decide +kernel⟩, List.mem_of_getElem? (i := 650) (by decide +kernel), List.mem_of_getElem? (i := 817) (by decide +kernel), List.mem_of_getElem? (i := 818) (by decide +kernel)⟩
theorem lw_p44 : lw_okq (⟨"CutSheetsModel", "isRoomFor", "(I)Z"⟩, 21) := ⟨⟨by decide +kernel, by decide +kernel⟩, List.mem_of_getElem? (i := 650) (by decide +kernel), List.mem_of_getElem? (i := 825) (by decide +kernel), List.mem_of_getElem? (i := 826) (by decide +kernel)⟩
theorem lw_p45 : lw_okq (⟨"CutSheetsModel", "amount", "(II)I"⟩, 21) := ⟨⟨by decide +kernel, by decide +kernel⟩, List.mem_of_getElem? (i := 650) (by decide +kernel), List.mem_of_getElem? (i := 829) (by decide +kernel), List.mem_of_getElem? (i := 830) (by decide +kernel)⟩
theorem lw_p46 : lw_okq (⟨"CutSheetsModel", "copyCut", "(II)I"⟩, 21) := ⟨⟨by decide +kernel, by decide +kernel⟩, List.mem_of_getElem? (i := 650) (by decide +kernel), List.mem_of_getElem? (i := 833) (by decide +kernel), List.mem_of_getElem? (i := 834) (by decide +kernel)⟩
theorem lw_p47 : lw_okq (⟨"CutSheetsModel", "copyArea", "(III)V"⟩, 21) := ⟨⟨by decide +kernel, by decide +kernel⟩, List.mem_of_getElem? (i := 650) (by decide +kernel), List.mem_of_getElem? (i := 837) (by decide +kernel), List.mem_of_getElem? (i := 838) (by decide +kernel)⟩
def lw_privs_3 : List (MethodName × Nat) := [(⟨"CutSheetsModel", "mayHook", "(II)Z"⟩, 21), (⟨"CutSheetsModel", "isLine", "(I)Z"⟩, 21), (⟨"CutSheetsModel", "isWithin", "(II)Z"⟩, 21), (⟨"CutSheetsModel", "freeSpot", "()I"⟩, 21), (⟨"CutSheetsModel", "noPart", "(II)Z"⟩, 21), (⟨"CutSheetsModel", "isSpot", "(I)Z"⟩, 21), (⟨"CutSheetsModel", "isCut", "(I)Z"⟩, 21), (⟨"CutSheetsModel", "areaOf", "(II)I"⟩, 21), (⟨"CutSheetsModel", "isHooked", "(I)Z"⟩, 21), (⟨"CutSheetsModel", "late", "()I"⟩, 21), (⟨"CutSheetsModel", "removeSpot", "(I)V"⟩, 21), (⟨"CutSheetsModel", "removeCut", "(I)V"⟩, 21), (⟨"CutSheetsModel", "isRoomFor", "(I)Z"⟩, 21), (⟨"CutSheetsModel", "amount", "(II)I"⟩, 21), (⟨"CutSheetsModel", "copyCut", "(II)I"⟩, 21), (⟨"CutSheetsModel", "copyArea", "(III)V"⟩, 21)]
theorem lw_r3 : ∀ q ∈ lw_privs_3, lw_okq q := List.forall_mem_cons.mpr ⟨lw_p32, List.forall_mem_cons.mpr ⟨lw_p33, List.forall_mem_cons.mpr ⟨lw_p34, List.forall_mem_cons.mpr ⟨lw_p35, List.forall_mem_cons.mpr ⟨lw_p36, List.forall_mem_cons.mpr ⟨lw_p37, List.forall_mem_cons.mpr ⟨lw_p38, List.forall_mem_cons.mpr ⟨lw_p39, List.forall_mem_cons.mpr ⟨lw_p40, List.forall_mem_cons.mpr ⟨lw_p41, List.forall_mem_cons.mpr ⟨lw_p42, List.forall_mem_cons.mpr ⟨lw_p43, List.forall_mem_cons.mpr ⟨lw_p44, List.forall_mem_cons.mpr ⟨lw_p45, List.forall_mem_cons.mpr ⟨lw_p46, List.forall_mem_cons.mpr ⟨lw_p47, fun _ h => absurd h List.not_mem_nil⟩⟩⟩⟩⟩⟩⟩⟩⟩⟩⟩⟩⟩⟩⟩⟩
theorem lw_p48 : lw_okq (⟨"CutSheetsModel", "copySpot", "(II)V"⟩, 21) := ⟨⟨by decide +kernel, by decide +kernel⟩, List.mem_of_getElem? (i := 650) (by decide +kernel), List.mem_of_getElem? (i := 841) (by decide +kernel), List.mem_of_getElem? (i := 842) (by decide +kernel)⟩
theorem lw_p49 : lw_okq (⟨"CutSheetsModel", "hasOther", "(II)Z"⟩, 21) := ⟨⟨by decide +kernel, by decide +kernel⟩, List.mem_of_getElem? (i := 650) (by decide +kernel), List.mem_of_getElem? (i := 849) (by decide +kernel), List.mem_of_getElem? (i := 850) (by decide +kernel)⟩
theorem lw_p50 : lw_okq (⟨"CutSheetsModel", "readPart", "(II)V"⟩, 21) := ⟨⟨by decide +kernel, by decide +kernel⟩, List.mem_of_getElem? (i := 650) (by decide +kernel), List.mem_of_getElem? (i := 853) (by decide +kernel), List.mem_of_getElem? (i := 854) (by decide +kernel)⟩
theorem lw_p51 : lw_okq (⟨"CutSheetsModel", "readSpot", "(I)V"⟩, 21) := ⟨⟨by decide +kernel, by decide +kernel⟩, List.mem_of_getElem? (i := 650) (by decide +kernel), List.mem_of_getElem? (i := 857) (by decide +kernel), List.mem_of_getElem? (i := 858) (by decide +kernel)⟩
theorem lw_p52 : lw_okq (⟨"CutSheetsModel", "add", "(I)V"⟩, 21) := ⟨⟨by decide +kernel, by decide +kernel⟩, List.mem_of_getElem? (i := 650) (by decide +kernel), List.mem_of_getElem? (i := 861) (by decide +kernel), List.mem_of_getElem? (i := 862) (by decide +kernel)⟩
theorem lw_p53 : lw_okq (⟨"CutSheetsModel", "readArea", "(I)V"⟩, 21) := ⟨⟨by decide +kernel, by decide +kernel⟩, List.mem_of_getElem? (i := 650) (by decide +kernel), List.mem_of_getElem? (i := 865) (by decide +kernel), List.mem_of_getElem? (i := 866) (by decide +kernel)⟩
theorem lw_p54 : lw_okq (⟨"CutSheetsModel", "readOwn", "(I)V"⟩, 21) := ⟨⟨by decide +kernel, by decide +kernel⟩, List.mem_of_getElem? (i := 650) (by decide +kernel), List.mem_of_getElem? (i := 869) (by decide +kernel), List.mem_of_getElem? (i := 870) (by decide +kernel)⟩
theorem lw_p55 : lw_okq (⟨"CutSheetsModel", "isAlike", "(II)Z"⟩, 21) := ⟨⟨by decide +kernel, by decide +kernel⟩, List.mem_of_getElem? (i := 650) (by decide +kernel), List.mem_of_getElem? (i := 873) (by decide +kernel), List.mem_of_getElem? (i := 874) (by decide +kernel)⟩
theorem lw_p56 : lw_okq (⟨"CutSheetsModel", "only", "(I)I"⟩, 21) := ⟨⟨by decide +kernel, by decide +kernel⟩, List.mem_of_getElem? (i := 650) (by decide +kernel), List.mem_of_getElem? (i := 885) (by decide +kernel), List.mem_of_getElem? (i := 886) (by decide +kernel)⟩
theorem lw_p57 : lw_okq (⟨"CutSheetsModel", "firstHolds", "(II)Z"⟩, 21) := ⟨⟨by decide +kernel, by decide +kernel⟩, List.mem_of_getElem? (i := 650) (by decide +kernel), List.mem_of_getElem? (i := 921) (by decide +kernel), List.mem_of_getElem? (i := 922) (by decide +kernel)⟩
theorem lw_p58 : lw_okq (⟨"CutSheetsModel", "change", "()V"⟩, 21) := ⟨⟨by decide +kernel, by decide +kernel⟩, List.mem_of_getElem? (i := 650) (by decide +kernel), List.mem_of_getElem? (i := 925) (by decide +kernel), List.mem_of_getElem? (i := 926) (by decide +kernel)⟩
theorem lw_p59 : lw_okq (⟨"CutSheetsModel", "sheetHolds", "(II)Z"⟩, 21) := ⟨⟨by decide +kernel, by decide +kernel⟩, List.mem_of_getElem? (i := 650) (by decide +kernel), List.mem_of_getElem? (i := 929) (by decide +kernel), List.mem_of_getElem? (i := 930) (by decide +kernel)⟩
theorem lw_p60 : lw_okq (⟨"CutSheetsModel", "look", "(IIII)V"⟩, 21) := ⟨⟨by decide +kernel, by decide +kernel⟩, List.mem_of_getElem? (i := 650) (by decide +kernel), List.mem_of_getElem? (i := 933) (by decide +kernel), List.mem_of_getElem? (i := 934) (by decide +kernel)⟩
theorem lw_p61 : lw_okq (⟨"CutSheetsModel", "spotHolds", "(IIII)Z"⟩, 21) := ⟨⟨by decide +kernel, by decide +kernel⟩, List.mem_of_getElem? (i := 650) (by decide +kernel), List.mem_of_getElem? (i := 937) (by decide +kernel), List.mem_of_getElem? (i := 938) (by decide +kernel)⟩
theorem lw_p62 : lw_okq (⟨"CutSheetsModel", "thing", "(III)I"⟩, 21) := ⟨⟨by decide +kernel, by decide +kernel⟩, List.mem_of_getElem? (i := 650) (by decide +kernel), List.mem_of_getElem? (i := 941) (by decide +kernel), List.mem_of_getElem? (i := 942) (by decide +kernel)⟩
theorem lw_p63 : lw_okq (⟨"CutSheetsModel", "any", "(IIII)V"⟩, 21) := ⟨⟨by decide +kernel, by decide +kernel⟩, List.mem_of_getElem? (i := 650) (by decide +kernel), List.mem_of_getElem? (i := 945) (by decide +kernel), List.mem_of_getElem? (i := 946) (by decide +kernel)⟩
def lw_privs_4 : List (MethodName × Nat) := [(⟨"CutSheetsModel", "copySpot", "(II)V"⟩, 21), (⟨"CutSheetsModel", "hasOther", "(II)Z"⟩, 21), (⟨"CutSheetsModel", "readPart", "(II)V"⟩, 21), (⟨"CutSheetsModel", "readSpot", "(I)V"⟩, 21), (⟨"CutSheetsModel", "add", "(I)V"⟩, 21), (⟨"CutSheetsModel", "readArea", "(I)V"⟩, 21), (⟨"CutSheetsModel", "readOwn", "(I)V"⟩, 21), (⟨"CutSheetsModel", "isAlike", "(II)Z"⟩, 21), (⟨"CutSheetsModel", "only", "(I)I"⟩, 21), (⟨"CutSheetsModel", "firstHolds", "(II)Z"⟩, 21), (⟨"CutSheetsModel", "change", "()V"⟩, 21), (⟨"CutSheetsModel", "sheetHolds", "(II)Z"⟩, 21), (⟨"CutSheetsModel", "look", "(IIII)V"⟩, 21), (⟨"CutSheetsModel", "spotHolds", "(IIII)Z"⟩, 21), (⟨"CutSheetsModel", "thing", "(III)I"⟩, 21), (⟨"CutSheetsModel", "any", "(IIII)V"⟩, 21)]
theorem lw_r4 : ∀ q ∈ lw_privs_4, lw_okq q := List.forall_mem_cons.mpr ⟨lw_p48, List.forall_mem_cons.mpr ⟨lw_p49, List.forall_mem_cons.mpr ⟨lw_p50, List.forall_mem_cons.mpr ⟨lw_p51, List.forall_mem_cons.mpr ⟨lw_p52, List.forall_mem_cons.mpr ⟨lw_p53, List.forall_mem_cons.mpr ⟨lw_p54, List.forall_mem_cons.mpr ⟨lw_p55, List.forall_mem_cons.mpr ⟨lw_p56, List.forall_mem_cons.mpr ⟨lw_p57, List.forall_mem_cons.mpr ⟨lw_p58, List.forall_mem_cons.mpr ⟨lw_p59, List.forall_mem_cons.mpr ⟨lw_p60, List.forall_mem_cons.mpr ⟨lw_p61, List.forall_mem_cons.mpr ⟨lw_p62, List.forall_mem_cons.mpr ⟨lw_p63, fun _ h => absurd h List.not_mem_nil⟩⟩⟩⟩⟩⟩⟩⟩⟩⟩⟩⟩⟩⟩⟩⟩
def lw_privs : List (MethodName × Nat) := lw_privs_1 ++ (lw_privs_2 ++ (lw_privs_3 ++ (lw_privs_4)))
def lw_tbl : List Cond := k2_sels lw_privs ++ tables_1
theorem lw_privs_ok : ∀ q ∈ lw_privs, lw_okq q := by
  show ∀ q ∈ lw_privs_1 ++ (lw_privs_2 ++ (lw_privs_3 ++ (lw_privs_4))), lw_okq q
  exact List.forall_mem_append.mpr ⟨lw_r1, List.forall_mem_append.mpr ⟨lw_r2, List.forall_mem_append.mpr ⟨lw_r3, lw_r4⟩⟩⟩
section VXR
variable {p : Program} {l : Launch} {e : Env} {R : Room} {s : State} {m : MethodId} {args : Array Value} {below : List Frame} {meth : Method} {c : Code} {H : Heap} {locs : List Loc} {cells slots : Nat} {Q : State → Prop}
variable {mc ms : Nat} {free : Addr → Prop} {A0 A1 : Nat → Prop} {H0 : Heap} {a : Array Value} {pc : Nat} {ls : Array Slot} {st0 rest : List Value}
def vx_W (p : Program) (l : Launch) (e : Env) (R : Room) (s : State) (m : MethodId) (args : Array Value) (below : List Frame) (meth : Method) (c : Code) (H : Heap) (locs : List Loc) (cells slots : Nat) (Q : State → Prop) (g : JFrame) (q : Addr) : Prop :=
  ∀ T : State, T.heap = H → Stand p l e R s m args below meth c T locs cells slots → ∃ t, Steps p.tables e below ((T.setTop g).pushFrame (.throwing q)) t ∧ Q t
theorem vx_catch {own name : String} {E : String} {ce : Cell} {q : Addr} (hown : s.vm.findClass own = some m.cls) (pre : List ExceptionTableEntry) (x : ExceptionTableEntry) (suf : List ExceptionTableEntry) (hsplit : c.exceptionTable.toList = pre ++ x :: suf)
    (hpass : ∀ z ∈ pre, covers z pc = false ∨ (z.catchType ≠ 0 ∧ ∃ nm : String, (Cond.classLink own z.catchType nm).before args s = true ∧ va_Nc E nm s)) (hx : covers x pc = true) (h0 : x.catchType ≠ 0)
    (hlink : (Cond.classLink own x.catchType name).before args s = true) (hcast : (Cond.castable E name).before args s = true) (hcell : H[q]? = some ce) (hv : ce.vm = .none) (hcl : s.vm.findClass E = some ce.cls)
    (kk : W p l e R s m args below meth c H locs cells slots Q (F0 m x.handlerPc ls [.ref q])) : vx_W p l e R s m args below meth c H locs cells slots Q (F0 m pc ls rest) q := by
  intro T hT X
  have hpl : e.platform.magicAccessors = ({} : Platform).magicAccessors := by rw [X.admits.platform]
  obtain ⟨c3, c4, hc3, hc4, hasg⟩ := Cond.castable_spec hcast
  cases Option.some.inj (hc3.symm.trans hcl)
  obtain ⟨c5, hc5, hcl5⟩ := Cond.classLink_spec hown hlink e.platform hpl
  cases Option.some.inj (hc4.symm.trans hc5)
  obtain ⟨vm', X', st⟩ := X.thenCaughtThrough q (g := F0 m pc ls rest) rfl (Steps.refl _) (by rw [hT]; exact hcell) (by rw [hv]; rfl) (by obtain ⟨k9, h9, -⟩ := Vm.findClass_spec hcl; exact ⟨k9, h9⟩) pre x suf hsplit
    (fun z hz => by
      rcases hpass z hz with h | ⟨hz0, nm, hl1, hn1⟩
      · exact Or.inl h
      · obtain ⟨c6, hc6, hcl6⟩ := Cond.classLink_spec hown hl1 e.platform hpl
        obtain ⟨a8, b8, h1, h2, h3⟩ := hn1
        cases Option.some.inj (h1.symm.trans hcl)
        cases Option.some.inj (h2.symm.trans hc6)
        exact Or.inr ⟨hz0, _, hcl6, h3⟩) hx (Or.inr ⟨h0, c4, hcl5, hasg⟩)
  obtain ⟨t, a1, b1⟩ := kk (T.setVm vm') hT X'
  exact ⟨t, st.trans a1, b1⟩
end VXR
section VXE
variable {p : Program} {l : Launch} {e : Env} {R : Room} {s : State} {m : MethodId} {args : Array Value} {below : List Frame} {meth : Method} {c : Code} {H : Heap} {locs : List Loc} {cells slots : Nat} {Q : State → Prop}
variable {mc ms : Nat} {free : Addr → Prop} {A0 A1 : Nat → Prop} {H0 : Heap} {a : Array Value} {ls : Array Slot} {st0 rest : List Value}
variable {Qc : Array Value → State → Outcome → State → Prop} {XC : String → State → State → Prop}
theorem vx_frame {U : State} {k n : Nat} (h : s.sameButNew ({ U with vm := s.vm } : State) locs k n) : s.heap.size ≤ U.heap.size ∧ ∀ q : Nat, q < s.heap.size → (∀ z ∈ locs, z.base ≠ q) → U.heap[q]? = s.heap[q]? := by
  obtain ⟨-, h2, -, -, -, h6⟩ := h
  refine ⟨h2, fun q hq hz => ?_⟩
  obtain ⟨c9, e1, e2, e3, e4⟩ := h6 q _ (Array.getElem?_eq_getElem hq)
  have hs : c9.slots = (s.heap[q]).slots := Array.ext_getElem? fun i => e4 i fun hm => hz _ hm rfl
  have h9 : c9 = s.heap[q] := by
    rw [hs] at e2
    exact e2
  have e5 : U.heap[q]? = some c9 := e1
  rw [e5, h9, Array.getElem?_eq_getElem hq]
def vx_no (w : Cond) : Bool := decide (w ≠ .isRef (.static Bundle.tN "UNASSIGNED_STACK" Bundle.steD)) && decide (w ≠ .isRef (.static Bundle.tN "SUPPRESSED_SENTINEL" Bundle.listD)) && decide (w ≠ .laysStatic Bundle.tN "UNASSIGNED_STACK" Bundle.steD) && decide (w ≠ .laysStatic Bundle.tN "SUPPRESSED_SENTINEL" Bundle.listD)
def vx_at0 (own : String) (ic : Nat) (X : String) (names : List String) : List Cond := (Bundle.ownAtoms0 own ic X names).filter vx_no
theorem vx_own {args : Array Value} {s : State} {L : List Cond} (h1 : ∀ w ∈ L.filter vx_no, w.before args s = true)
    (hU : (Cond.isRef (.static Bundle.tN "UNASSIGNED_STACK" Bundle.steD)).before args s = true) (hN : (Cond.isRef (.static Bundle.tN "SUPPRESSED_SENTINEL" Bundle.listD)).before args s = true)
    (lU : (Cond.laysStatic Bundle.tN "UNASSIGNED_STACK" Bundle.steD).before args s = true) (lN : (Cond.laysStatic Bundle.tN "SUPPRESSED_SENTINEL" Bundle.listD).before args s = true) : ∀ w ∈ L, w.before args s = true := by
  intro w hw
  by_cases e1 : w = .isRef (.static Bundle.tN "UNASSIGNED_STACK" Bundle.steD)
  · rw [e1]; exact hU
  · by_cases e2 : w = .isRef (.static Bundle.tN "SUPPRESSED_SENTINEL" Bundle.listD)
    · rw [e2]; exact hN
    · by_cases e3 : w = .laysStatic Bundle.tN "UNASSIGNED_STACK" Bundle.steD
      · rw [e3]; exact lU
      · by_cases e4 : w = .laysStatic Bundle.tN "SUPPRESSED_SENTINEL" Bundle.listD
        · rw [e4]; exact lN
        · exact h1 w (List.mem_filter.mpr ⟨hw, by unfold vx_no; rw [decide_eq_true e1, decide_eq_true e2, decide_eq_true e3, decide_eq_true e4]; rfl⟩)
def vx_L (C n d : String) (A : Nat → Prop) (U : State) (H : Heap) : Prop := ∃ (c : ClassId) (k : Class) (i : Nat) (f : Field) (a : Nat) (cell : Cell), U.vm.findClass C = some c ∧ U.fieldFound? C n d = some (c, k, i, f) ∧ f.isStatic = true ∧ k.statics = some a ∧ H[a]? = some cell ∧ cell.vm.isStatics = true ∧ cell.cls = c ∧ f.slot < cell.slots.size ∧ k.staticTypes[f.slot]? = some f.type ∧ ¬ A a
theorem vx_L.moved {C n d : String} {A : Nat → Prop} {u U : State} {H : Heap} (hvm : u.vm.Alike U.vm) (h : vx_L C n d A u H) : vx_L C n d A U H := by
  obtain ⟨c, k, i, f, a, cell, h1, h2, h3, h4, h5, h6, h7, h8, h9, h10⟩ := h
  obtain ⟨k', hi', he⟩ := State.fieldFound?_setVm hvm h2
  exact ⟨c, k', i, f, a, cell, by rw [hvm.findClass]; exact h1, hi', h3, by rw [he]; exact h4, h5, h6, h7, h8, by rw [he]; exact h9, h10⟩
theorem vx_L.kept {C n d : String} {A : Nat → Prop} {U : State} {H H1 : Heap} (h : vx_L C n d A U H) (hq : ∀ a : Nat, a < H.size → ¬ A a → H1[a]? = H[a]?) : vx_L C n d A U H1 := by
  obtain ⟨c, k, i, f, a, cell, h1, h2, h3, h4, h5, h6, h7, h8, h9, h10⟩ := h
  exact ⟨c, k, i, f, a, cell, h1, h2, h3, h4, by rw [hq a (Array.getElem?_eq_some_iff.mp h5).1 h10]; exact h5, h6, h7, h8, h9, h10⟩
theorem vx_L.narrow {C n d : String} {A B : Nat → Prop} {U : State} {H : Heap} (h : vx_L C n d A U H) (hAB : ∀ q, B q → A q) : vx_L C n d B U H := by
  obtain ⟨c, k, i, f, a, cell, h1, h2, h3, h4, h5, h6, h7, h8, h9, h10⟩ := h
  exact ⟨c, k, i, f, a, cell, h1, h2, h3, h4, h5, h6, h7, h8, h9, fun z => h10 (hAB _ z)⟩
theorem vx_L.word {C n d : String} {A : Nat → Prop} {s : State} {args : Array Value} (h : vx_L C n d A s s.heap) : (Cond.laysStatic C n d).before args s = true := by
  obtain ⟨c, k, i, f, a, cell, h1, h2, h3, h4, h5, h6, h7, h8, h9, -⟩ := h
  show (Cond.laysStatic C n d).holds args s none s [] = true
  exact Cond.laysStatic_of h1 h2 h3 h4 h5 h6 h7 h8 h9
def vx_Zq (C n d : String) (A : Nat → Prop) (U : State) (H : Heap) : Prop := va_Zq C n d A U H ∧ vx_L C n d A U H
theorem vx_Zq.moved {C n d : String} {A : Nat → Prop} {u U : State} {H : Heap} (hvm : u.vm.Alike U.vm) (h : vx_Zq C n d A u H) : vx_Zq C n d A U H := ⟨va_Zq.moved hvm h.1, vx_L.moved hvm h.2⟩
theorem vx_Zq.kept {C n d : String} {A : Nat → Prop} {U : State} {H H1 : Heap} (h : vx_Zq C n d A U H) (hq : ∀ a : Nat, a < H.size → ¬ A a → H1[a]? = H[a]?) : vx_Zq C n d A U H1 := ⟨va_Zq.kept h.1 hq, vx_L.kept h.2 hq⟩
theorem vx_Zq.narrow {C n d : String} {A B : Nat → Prop} {U : State} {H : Heap} (h : vx_Zq C n d A U H) (hAB : ∀ q, B q → A q) : vx_Zq C n d B U H := ⟨va_Zq.narrow h.1 hAB, vx_L.narrow h.2 hAB⟩
theorem vx_Zqof {args : Array Value} {s : State} {C n d : String} {A : Nat → Prop} (hl : (Cond.laysStatic C n d).before args s = true) (hini : (Cond.initialized C).before args s = true) (h : (Cond.isRef (.static C n d)).before args s = true) (hA : ∀ a : Nat, a < s.heap.size → ¬ A a) : vx_Zq C n d A s s.heap := by
  refine ⟨va_Zqof hl hini h hA, ?_⟩
  obtain ⟨c, k, i, f, a, cell, h1, h2, h3, h4, h5, h6, h7, h8, h9⟩ := Cond.laysStatic_spec hl
  exact ⟨c, k, i, f, a, cell, h1, h2, h3, h4, h5, h6, h7, h8, h9, hA a (Array.getElem?_eq_some_iff.mp h5).1⟩
theorem vx_isRef {C n d : String} {v : Value} {A : Nat → Prop} {s : State} {args : Array Value} (h : va_Z C n d v A s s.heap) (hv : v.isRef = true) : (Cond.isRef (.static C n d)).before args s = true := by
  obtain ⟨cf, kf, fi, f, a, cell, h1, h2, h3, h4, h5, h6, h7, -⟩ := h
  have he : (Term.static C n d).eval args s none [] s = some v := by
    simp [Term.eval, State.fieldNamed?, h1, h2, h4, h5, h6, h7]
  simp only [Cond.before, Cond.holds, Cond.value, he]
  cases v <;> simp_all [Value.isRef]
theorem vx_isRefq {C n d : String} {A : Nat → Prop} {s : State} {args : Array Value} (h : va_Zq C n d A s s.heap) : (Cond.isRef (.static C n d)).before args s = true := by
  rcases h with h | ⟨t, h⟩
  · exact vx_isRef h rfl
  · exact vx_isRef h rfl
theorem vx_rebase {T : State} (X : Stand p l e R s m args below meth c T locs cells slots) {R' : Room} (hf : R'.frames ≤ R.frames) (hl : R'.locals ≤ R.locals) (hc : cells + R'.cells ≤ R.cells) (hs : slots + R'.slots ≤ R.slots) :
    Stand p l e R' ((T.setVm s.vm).setFrames (.invoking m args :: below)) m args below meth c T [] 0 0 := by
  have htop : (T.setVm s.vm).topJava?.isSome := X.here.top
  have hF : ((T.setVm s.vm).setFrames (.invoking m args :: below)).frames = .invoking m args :: below := State.frames_setFrames _ (State.cur_lt_of_top htop)
  obtain ⟨g₀, hg0⟩ := Option.isSome_iff_exists.mp htop
  obtain ⟨r, hr⟩ := State.topJava?_eq_some.mp hg0
  have hl9 : e.platform.stackLimits (T.setVm s.vm).me = e.platform.stackLimits s.me := X.limits
  have hb9 : (T.setVm s.vm).me.stackBytes = s.me.stackBytes := X.bytes
  refine ⟨X.admits, X.cas, X.clock, hF, ?_, X.hears, X.method, X.code, X.here, X.tail, X.warmed, ?_, ?_, ?_⟩
  · have h := X.room
    have hU : ((T.setVm s.vm).setFrames (.invoking m args :: below)).localsInUse = s.localsInUse := by
      rw [State.localsInUse_invoking hF (meth := meth) (c := c) X.method X.code, State.localsInUse_invoking X.frames X.method X.code]
    simp only [State.hasRoom, Bool.and_eq_true, decide_eq_true_eq] at h ⊢
    obtain ⟨⟨⟨⟨h1, h2, h3, h4, h5, h6⟩, h7⟩, h8⟩, h9⟩ := h
    rw [X.frames, List.length_cons] at h2 h3
    have q1 := X.heapSize
    have q2 := X.used
    simp only [hF, hU, List.length_cons, State.stackLimits_setFrames, State.stackBytes_setFrames, hl9, hb9]
    refine ⟨⟨⟨⟨by omega, by omega, by omega, by omega, by omega, h6⟩, ?_⟩, ?_⟩, X.book⟩
    · show T.heap.size + R'.cells ≤ e.platform.maxCells
      omega
    · show T.slotsUsed + R'.slots ≤ e.platform.maxSlots
      omega
  · rw [State.stackLimits_setFrames]; rfl
  · rw [State.stackBytes_setFrames]; rfl
  · refine ⟨?_, Nat.le_refl _, Nat.le_refl _, ?_, ?_, fun a c9 h9 => ⟨c9, h9, rfl, rfl, fun _ _ => rfl⟩⟩
    · obtain ⟨t, ht, -⟩ := State.frames_cons hr
      show T.setVm s.vm = { ((T.setVm s.vm).setFrames (.invoking m args :: below)).setFrames (T.setVm s.vm).frames with heap := T.heap, slotsUsed := T.slotsUsed }
      rw [State.setFrames_setFrames, State.setFrames_self ht]
      rfl
    · show T.slotsUsed = T.slotsUsed + ((T.heap.toList.drop T.heap.size).map (·.slots.size)).sum
      rw [List.drop_eq_nil_of_le (Nat.le_of_eq Array.length_toList)]
      rfl
    · show ((T.heap.toList.drop T.heap.size).map (·.slots.size)).sum ≤ 0
      rw [List.drop_eq_nil_of_le (Nat.le_of_eq Array.length_toList)]
      exact Nat.le_refl _
end VXE
end
section
/-- name, code, locals, answer, handlers -/
abbrev mm_M : Type := MethodName × ByteArray × Nat × Option FieldType × List (Nat × Nat × Nat × Nat)
/-! printed by wip/whole/gen_names.py: classes, fields, methods -/
def mFG : u_T := fun k => match k with
  | 0 => ("CutSheets$Groups", "numbers", "[I", true)
  | _ => ("CutSheets$Groups", "begins", "[I", true)
def mtG : Nat → FieldType := fun k => match k with
  | 0 => .array .int
  | _ => .array .int
theorem mnG : ∀ a, a < 2 → ∀ b, b < 2 → a ≠ b → (mFG a).2.1 ≠ (mFG b).2.1 := by decide +kernel
theorem moG : ∀ k, k < 2 → parseFieldDescriptor (mFG k).2.2.1 = some (mtG k) := by decide +kernel
def mFK : u_T := fun k => match k with
  | 0 => ("CutSheets$Look", "lines", "LCutSheets$Groups;", true)
  | 1 => ("CutSheets$Look", "spots", "LCutSheets$Groups;", true)
  | 2 => ("CutSheets$Look", "cuts", "LCutSheets$Groups;", true)
  | 3 => ("CutSheets$Look", "hookedArea", "[I", true)
  | 4 => ("CutSheets$Look", "signs", "[I", true)
  | 5 => ("CutSheets$Look", "hooks", "[I", true)
  | 6 => ("CutSheets$Look", "thingOf", "[I", true)
  | 7 => ("CutSheets$Look", "things", "I", false)
  | _ => ("CutSheets$Look", "bits", "I", false)
def mtK : Nat → FieldType := fun k => match k with
  | 0 => .object "CutSheets$Groups"
  | 1 => .object "CutSheets$Groups"
  | 2 => .object "CutSheets$Groups"
  | 3 => .array .int
  | 4 => .array .int
  | 5 => .array .int
  | 6 => .array .int
  | 7 => .int
  | _ => .int
theorem mnK : ∀ a, a < 9 → ∀ b, b < 9 → a ≠ b → (mFK a).2.1 ≠ (mFK b).2.1 := by decide +kernel
theorem moK : ∀ k, k < 9 → parseFieldDescriptor (mFK k).2.2.1 = some (mtK k) := by decide +kernel
def mFR : u_T := fun k => match k with
  | 0 => ("CutSheets$Reading", "tokens", "[I", true)
  | 1 => ("CutSheets$Reading", "size", "I", false)
  | 2 => ("CutSheets$Reading", "innerAreas", "I", false)
  | 3 => ("CutSheets$Reading", "orders", "[I", true)
  | _ => ("CutSheets$Reading", "ordered", "I", false)
def mtR : Nat → FieldType := fun k => match k with
  | 0 => .array .int
  | 1 => .int
  | 2 => .int
  | 3 => .array .int
  | _ => .int
theorem mnR : ∀ a, a < 5 → ∀ b, b < 5 → a ≠ b → (mFR a).2.1 ≠ (mFR b).2.1 := by decide +kernel
theorem moR : ∀ k, k < 5 → parseFieldDescriptor (mFR k).2.2.1 = some (mtR k) := by decide +kernel
def mFS : u_T := fun k => match k with
  | 0 => ("CutSheets$Sheet", "spotArea", "[I", true)
  | 1 => ("CutSheets$Sheet", "cutArea", "[I", true)
  | 2 => ("CutSheets$Sheet", "lineArea", "[I", true)
  | 3 => ("CutSheets$Sheet", "spotSign", "[I", true)
  | _ => ("CutSheets$Sheet", "hooks", "[I", true)
def mtS : Nat → FieldType := fun k => match k with
  | 0 => .array .int
  | 1 => .array .int
  | 2 => .array .int
  | 3 => .array .int
  | _ => .array .int
theorem mnS : ∀ a, a < 5 → ∀ b, b < 5 → a ≠ b → (mFS a).2.1 ≠ (mFS b).2.1 := by decide +kernel
theorem moS : ∀ k, k < 5 → parseFieldDescriptor (mFS k).2.2.1 = some (mtS k) := by decide +kernel
def mFC : u_T := fun k => match k with
  | 0 => ("CutSheets", "sheets", "[LCutSheets$Sheet;", true)
  | 1 => ("CutSheets", "lastRead", "LCutSheets$Reading;", true)
  | 2 => ("CutSheets", "partRead", "LCutSheets$Reading;", true)
  | 3 => ("CutSheets", "otherRead", "LCutSheets$Reading;", true)
  | 4 => ("CutSheets", "firstLook", "LCutSheets$Look;", true)
  | 5 => ("CutSheets", "nowLook", "LCutSheets$Look;", true)
  | 6 => ("CutSheets", "standsFor", "[I", true)
  | 7 => ("CutSheets", "drawing", "Z", false)
  | _ => ("CutSheets", "moves", "I", false)
def mtC : Nat → FieldType := fun k => match k with
  | 0 => .array (.object "CutSheets$Sheet")
  | 1 => .object "CutSheets$Reading"
  | 2 => .object "CutSheets$Reading"
  | 3 => .object "CutSheets$Reading"
  | 4 => .object "CutSheets$Look"
  | 5 => .object "CutSheets$Look"
  | 6 => .array .int
  | 7 => .boolean
  | _ => .int
theorem mnC : ∀ a, a < 9 → ∀ b, b < 9 → a ≠ b → (mFC a).2.1 ≠ (mFC b).2.1 := by decide +kernel
theorem moC : ∀ k, k < 9 → parseFieldDescriptor (mFC k).2.2.1 = some (mtC k) := by decide +kernel
def mFM : u_T := fun k => match k with
  | 0 => ("CutSheetsModel", "thrown", "I", false)
  | 1 => ("CutSheetsModel", "started", "Z", false)
  | 2 => ("CutSheetsModel", "moves", "I", false)
  | 3 => ("CutSheetsModel", "sheet", "[I", false)
  | 4 => ("CutSheetsModel", "kept", "[I", false)
  | 5 => ("CutSheetsModel", "reading", "I", false)
  | 6 => ("CutSheetsModel", "tokens", "[I", false)
  | 7 => ("CutSheetsModel", "otherReading", "I", false)
  | 8 => ("CutSheetsModel", "others", "[I", false)
  | 9 => ("CutSheetsModel", "renamed", "[I", false)
  | 10 => ("CutSheetsModel", "open", "I", false)
  | 11 => ("CutSheetsModel", "pile", "[I", false)
  | 12 => ("CutSheetsModel", "reached", "[I", false)
  | 13 => ("CutSheetsModel", "holding", "[Z", false)
  | 14 => ("CutSheetsModel", "newNumber", "[I", false)
  | 15 => ("CutSheetsModel", "newLine", "[I", false)
  | 16 => ("CutSheetsModel", "holdBack", "[I", false)
  | 17 => ("CutSheetsModel", "unitOf", "[I", false)
  | 18 => ("CutSheetsModel", "ownSpots", "[I", false)
  | 19 => ("CutSheetsModel", "ownCuts", "[I", false)
  | _ => ("CutSheetsModel", "firstSheet", "[I", false)
def mtM : Nat → FieldType := fun k => match k with
  | 0 => .int
  | 1 => .boolean
  | 2 => .int
  | 3 => .array .int
  | 4 => .array .int
  | 5 => .int
  | 6 => .array .int
  | 7 => .int
  | 8 => .array .int
  | 9 => .array .int
  | 10 => .int
  | 11 => .array .int
  | 12 => .array .int
  | 13 => .array .boolean
  | 14 => .array .int
  | 15 => .array .int
  | 16 => .array .int
  | 17 => .array .int
  | 18 => .array .int
  | 19 => .array .int
  | _ => .array .int
theorem mnM : ∀ a, a < 21 → ∀ b, b < 21 → a ≠ b → (mFM a).2.1 ≠ (mFM b).2.1 := by decide +kernel
theorem moM : ∀ k, k < 21 → parseFieldDescriptor (mFM k).2.2.1 = some (mtM k) := by decide +kernel
abbrev mm_cl : List vw_C := [("CutSheets$Groups", mFG, 2), ("CutSheets$Look", mFK, 9), ("CutSheets$Reading", mFR, 5), ("CutSheets$Sheet", mFS, 5), ("CutSheets", mFC, 9), ("CutSheetsModel", mFM, 21)]
abbrev mC_init : mm_M := (⟨"CutSheets", "<init>", "()V"⟩, prog_1_method_1_code, 2, none, [])
abbrev mC_cut : mm_M := (⟨"CutSheets", "cut", "(I)I"⟩, prog_1_method_2_code, 2, (some (.int)), [])
abbrev mC_line : mm_M := (⟨"CutSheets", "line", "(I)I"⟩, prog_1_method_3_code, 2, (some (.int)), [])
abbrev mC_spot : mm_M := (⟨"CutSheets", "spot", "(IIII)I"⟩, prog_1_method_4_code, 6, (some (.int)), [])
abbrev mC_start : mm_M := (⟨"CutSheets", "start", "()V"⟩, prog_1_method_5_code, 1, none, [])
abbrev mC_erase : mm_M := (⟨"CutSheets", "erase", "(II)I"⟩, prog_1_method_6_code, 4, (some (.int)), [])
abbrev mC_copy : mm_M := (⟨"CutSheets", "copy", "(III)I"⟩, prog_1_method_7_code, 6, (some (.int)), [])
abbrev mC_uncopy : mm_M := (⟨"CutSheets", "uncopy", "(II)I"⟩, prog_1_method_8_code, 3, (some (.int)), [])
abbrev mC_wrap : mm_M := (⟨"CutSheets", "wrap", "(II)I"⟩, prog_1_method_9_code, 7, (some (.int)), [])
abbrev mC_unwrap : mm_M := (⟨"CutSheets", "unwrap", "(I)I"⟩, prog_1_method_10_code, 2, (some (.int)), [])
abbrev mC_join : mm_M := (⟨"CutSheets", "join", "(II)I"⟩, prog_1_method_11_code, 6, (some (.int)), [])
abbrev mC_sever : mm_M := (⟨"CutSheets", "sever", "(II)I"⟩, prog_1_method_12_code, 6, (some (.int)), [])
abbrev mC_back : mm_M := (⟨"CutSheets", "back", "()I"⟩, prog_1_method_13_code, 1, (some (.int)), [])
abbrev mC_depth : mm_M := (⟨"CutSheets", "depth", "(I)I"⟩, prog_1_method_14_code, 2, (some (.int)), [])
abbrev mC_read : mm_M := (⟨"CutSheets", "read", "(I)I"⟩, prog_1_method_15_code, 2, (some (.int)), [])
abbrev mC_token : mm_M := (⟨"CutSheets", "token", "(I)I"⟩, prog_1_method_16_code, 2, (some (.int)), [])
abbrev mC_holds : mm_M := (⟨"CutSheets", "holds", "(ZII)Z"⟩, prog_1_method_17_code, 4, (some (.boolean)), [])
abbrev mC_refutes : mm_M := (⟨"CutSheets", "refutes", "(I)I"⟩, prog_1_method_18_code, 4, (some (.int)), [])
abbrev mC_count : mm_M := (⟨"CutSheets", "count", "(I)I"⟩, prog_1_method_19_code, 2, (some (.int)), [])
abbrev mC_needArgument : mm_M := (⟨"CutSheets", "needArgument", "(Z)V"⟩, prog_1_method_20_code, 1, none, [])
abbrev mC_needState : mm_M := (⟨"CutSheets", "needState", "(Z)V"⟩, prog_1_method_21_code, 1, none, [])
abbrev mC_needRoom : mm_M := (⟨"CutSheets", "needRoom", "(Z)V"⟩, prog_1_method_22_code, 1, none, [])
abbrev mC_sheet : mm_M := (⟨"CutSheets", "sheet", "()LCutSheets$Sheet;"⟩, prog_1_method_23_code, 1, (some ((.object "CutSheets$Sheet"))), [])
abbrev mC_mayInsert : mm_M := (⟨"CutSheets", "mayInsert", "(I)Z"⟩, prog_1_method_24_code, 2, (some (.boolean)), [])
abbrev mC_mayChange : mm_M := (⟨"CutSheets", "mayChange", "()Z"⟩, prog_1_method_25_code, 1, (some (.boolean)), [])
abbrev mC_changed : mm_M := (⟨"CutSheets", "changed", "()LCutSheets$Sheet;"⟩, prog_1_method_26_code, 1, (some ((.object "CutSheets$Sheet"))), [])
abbrev mC_hasAlike : mm_M := (⟨"CutSheets", "hasAlike", "(II)Z"⟩, prog_1_method_27_code, 6, (some (.boolean)), [])
abbrev mC_placesOf : mm_M := (⟨"CutSheets", "placesOf", "(I)I"⟩, prog_1_method_28_code, 1, (some (.int)), [])
abbrev mC_bitOfOne : mm_M := (⟨"CutSheets", "bitOfOne", "(I)I"⟩, prog_1_method_29_code, 1, (some (.int)), [])
abbrev mC_bitOfTwo : mm_M := (⟨"CutSheets", "bitOfTwo", "(II)I"⟩, prog_1_method_30_code, 2, (some (.int)), [])
abbrev mC_bitsOf : mm_M := (⟨"CutSheets", "bitsOf", "(I)I"⟩, prog_1_method_31_code, 4, (some (.int)), [])
abbrev mC_isAmong : mm_M := (⟨"CutSheets", "isAmong", "(II)Z"⟩, prog_1_method_32_code, 2, (some (.boolean)), [])
abbrev mM_init : mm_M := (⟨"CutSheetsModel", "<init>", "()V"⟩, prog_7_method_1_code, 2, none, [])
abbrev mM_thrown : mm_M := (⟨"CutSheetsModel", "thrown", "()I"⟩, prog_7_method_2_code, 1, (some (.int)), [])
abbrev mM_isArea : mm_M := (⟨"CutSheetsModel", "isArea", "(I)Z"⟩, prog_7_method_3_code, 2, (some (.boolean)), [])
abbrev mM_isCut : mm_M := (⟨"CutSheetsModel", "isCut", "(I)Z"⟩, prog_7_method_4_code, 2, (some (.boolean)), [])
abbrev mM_isLine : mm_M := (⟨"CutSheetsModel", "isLine", "(I)Z"⟩, prog_7_method_5_code, 2, (some (.boolean)), [])
abbrev mM_isSpot : mm_M := (⟨"CutSheetsModel", "isSpot", "(I)Z"⟩, prog_7_method_6_code, 2, (some (.boolean)), [])
abbrev mM_isWithin : mm_M := (⟨"CutSheetsModel", "isWithin", "(II)Z"⟩, prog_7_method_7_code, 4, (some (.boolean)), [])
abbrev mM_depthOf : mm_M := (⟨"CutSheetsModel", "depthOf", "(I)I"⟩, prog_7_method_8_code, 4, (some (.int)), [])
abbrev mM_places : mm_M := (⟨"CutSheetsModel", "places", "(I)I"⟩, prog_7_method_9_code, 2, (some (.int)), [])
abbrev mM_freeCut : mm_M := (⟨"CutSheetsModel", "freeCut", "()I"⟩, prog_7_method_10_code, 2, (some (.int)), [])
abbrev mM_freeLine : mm_M := (⟨"CutSheetsModel", "freeLine", "()I"⟩, prog_7_method_11_code, 2, (some (.int)), [])
abbrev mM_freeSpot : mm_M := (⟨"CutSheetsModel", "freeSpot", "()I"⟩, prog_7_method_12_code, 2, (some (.int)), [])
abbrev mM_amount : mm_M := (⟨"CutSheetsModel", "amount", "(II)I"⟩, prog_7_method_13_code, 5, (some (.int)), [])
abbrev mM_keep : mm_M := (⟨"CutSheetsModel", "keep", "()V"⟩, prog_7_method_14_code, 2, none, [])
abbrev mM_checked : mm_M := (⟨"CutSheetsModel", "checked", "(IZ)I"⟩, prog_7_method_15_code, 3, (some (.int)), [])
abbrev mM_cut : mm_M := (⟨"CutSheetsModel", "cut", "(I)I"⟩, prog_7_method_16_code, 3, (some (.int)), [])
abbrev mM_line : mm_M := (⟨"CutSheetsModel", "line", "(I)I"⟩, prog_7_method_17_code, 3, (some (.int)), [])
abbrev mM_mayHook : mm_M := (⟨"CutSheetsModel", "mayHook", "(II)Z"⟩, prog_7_method_18_code, 3, (some (.boolean)), [])
abbrev mM_spot : mm_M := (⟨"CutSheetsModel", "spot", "(IIII)I"⟩, prog_7_method_19_code, 7, (some (.int)), [])
abbrev mM_start : mm_M := (⟨"CutSheetsModel", "start", "()V"⟩, prog_7_method_20_code, 2, none, [])
abbrev mM_removeSpot : mm_M := (⟨"CutSheetsModel", "removeSpot", "(I)V"⟩, prog_7_method_21_code, 2, none, [])
abbrev mM_removeCut : mm_M := (⟨"CutSheetsModel", "removeCut", "(I)V"⟩, prog_7_method_22_code, 3, none, [])
abbrev mM_isHooked : mm_M := (⟨"CutSheetsModel", "isHooked", "(I)Z"⟩, prog_7_method_23_code, 4, (some (.boolean)), [])
abbrev mM_noPart : mm_M := (⟨"CutSheetsModel", "noPart", "(II)Z"⟩, prog_7_method_24_code, 3, (some (.boolean)), [])
abbrev mM_areaOf : mm_M := (⟨"CutSheetsModel", "areaOf", "(II)I"⟩, prog_7_method_25_code, 3, (some (.int)), [])
abbrev mM_late : mm_M := (⟨"CutSheetsModel", "late", "()I"⟩, prog_7_method_26_code, 1, (some (.int)), [])
abbrev mM_erase : mm_M := (⟨"CutSheetsModel", "erase", "(II)I"⟩, prog_7_method_27_code, 4, (some (.int)), [])
abbrev mM_copySpot : mm_M := (⟨"CutSheetsModel", "copySpot", "(II)V"⟩, prog_7_method_28_code, 6, none, [])
abbrev mM_copyArea : mm_M := (⟨"CutSheetsModel", "copyArea", "(III)V"⟩, prog_7_method_29_code, 5, none, [])
abbrev mM_copyCut : mm_M := (⟨"CutSheetsModel", "copyCut", "(II)I"⟩, prog_7_method_30_code, 8, (some (.int)), [])
abbrev mM_isRoomFor : mm_M := (⟨"CutSheetsModel", "isRoomFor", "(I)Z"⟩, prog_7_method_31_code, 6, (some (.boolean)), [])
abbrev mM_copy : mm_M := (⟨"CutSheetsModel", "copy", "(III)I"⟩, prog_7_method_32_code, 7, (some (.int)), [])
abbrev mM_add : mm_M := (⟨"CutSheetsModel", "add", "(I)V"⟩, prog_7_method_33_code, 2, none, [])
abbrev mM_readOwn : mm_M := (⟨"CutSheetsModel", "readOwn", "(I)V"⟩, prog_7_method_34_code, 3, none, [])
abbrev mM_readSpot : mm_M := (⟨"CutSheetsModel", "readSpot", "(I)V"⟩, prog_7_method_35_code, 4, none, [])
abbrev mM_readArea : mm_M := (⟨"CutSheetsModel", "readArea", "(I)V"⟩, prog_7_method_36_code, 4, none, [])
abbrev mM_readPart : mm_M := (⟨"CutSheetsModel", "readPart", "(II)V"⟩, prog_7_method_37_code, 6, none, [])
abbrev mM_isAlike : mm_M := (⟨"CutSheetsModel", "isAlike", "(II)Z"⟩, prog_7_method_38_code, 5, (some (.boolean)), [])
abbrev mM_hasOther : mm_M := (⟨"CutSheetsModel", "hasOther", "(II)Z"⟩, prog_7_method_39_code, 7, (some (.boolean)), [])
abbrev mM_uncopy : mm_M := (⟨"CutSheetsModel", "uncopy", "(II)I"⟩, prog_7_method_40_code, 6, (some (.int)), [])
abbrev mM_wrap : mm_M := (⟨"CutSheetsModel", "wrap", "(II)I"⟩, prog_7_method_41_code, 6, (some (.int)), [])
abbrev mM_only : mm_M := (⟨"CutSheetsModel", "only", "(I)I"⟩, prog_7_method_42_code, 5, (some (.int)), [])
abbrev mM_unwrap : mm_M := (⟨"CutSheetsModel", "unwrap", "(I)I"⟩, prog_7_method_43_code, 5, (some (.int)), [])
abbrev mM_join : mm_M := (⟨"CutSheetsModel", "join", "(II)I"⟩, prog_7_method_44_code, 5, (some (.int)), [])
abbrev mM_sever : mm_M := (⟨"CutSheetsModel", "sever", "(II)I"⟩, prog_7_method_45_code, 8, (some (.int)), [])
abbrev mM_back : mm_M := (⟨"CutSheetsModel", "back", "()I"⟩, prog_7_method_46_code, 2, (some (.int)), [])
abbrev mM_depth : mm_M := (⟨"CutSheetsModel", "depth", "(I)I"⟩, prog_7_method_47_code, 2, (some (.int)), [])
abbrev mM_read : mm_M := (⟨"CutSheetsModel", "read", "(I)I"⟩, prog_7_method_48_code, 2, (some (.int)), [])
abbrev mM_token : mm_M := (⟨"CutSheetsModel", "token", "(I)I"⟩, prog_7_method_49_code, 2, (some (.int)), [])
abbrev mM_count : mm_M := (⟨"CutSheetsModel", "count", "(I)I"⟩, prog_7_method_50_code, 2, (some (.int)), [])
abbrev mM_thing : mm_M := (⟨"CutSheetsModel", "thing", "(III)I"⟩, prog_7_method_51_code, 4, (some (.int)), [])
abbrev mM_spotHolds : mm_M := (⟨"CutSheetsModel", "spotHolds", "(IIII)Z"⟩, prog_7_method_52_code, 9, (some (.boolean)), [])
abbrev mM_look : mm_M := (⟨"CutSheetsModel", "look", "(IIII)V"⟩, prog_7_method_53_code, 10, none, [])
abbrev mM_any : mm_M := (⟨"CutSheetsModel", "any", "(IIII)V"⟩, prog_7_method_54_code, 8, none, [])
abbrev mM_sheetHolds : mm_M := (⟨"CutSheetsModel", "sheetHolds", "(II)Z"⟩, prog_7_method_55_code, 6, (some (.boolean)), [])
abbrev mM_change : mm_M := (⟨"CutSheetsModel", "change", "()V"⟩, prog_7_method_56_code, 3, none, [])
abbrev mM_firstHolds : mm_M := (⟨"CutSheetsModel", "firstHolds", "(II)Z"⟩, prog_7_method_57_code, 4, (some (.boolean)), [])
abbrev mM_holds : mm_M := (⟨"CutSheetsModel", "holds", "(ZII)Z"⟩, prog_7_method_58_code, 4, (some (.boolean)), [])
abbrev mM_refutes : mm_M := (⟨"CutSheetsModel", "refutes", "(I)I"⟩, prog_7_method_59_code, 4, (some (.int)), [])
abbrev mG_init : mm_M := (⟨"CutSheets$Groups", "<init>", "(I)V"⟩, prog_2_method_1_code, 2, none, [])
abbrev mG_arrange : mm_M := (⟨"CutSheets$Groups", "arrange", "([I)V"⟩, prog_2_method_2_code, 5, none, [])
abbrev mK_init : mm_M := (⟨"CutSheets$Look", "<init>", "()V"⟩, prog_3_method_1_code, 1, none, [])
abbrev mK_arrange : mm_M := (⟨"CutSheets$Look", "arrange", "(LCutSheets$Sheet;)V"⟩, prog_3_method_2_code, 3, none, [])
abbrev mK_isTrueIn : mm_M := (⟨"CutSheets$Look", "isTrueIn", "(II)Z"⟩, prog_3_method_3_code, 3, (some (.boolean)), [])
abbrev mK_isAreaTrue : mm_M := (⟨"CutSheets$Look", "isAreaTrue", "(II)Z"⟩, prog_3_method_4_code, 5, (some (.boolean)), [])
abbrev mK_takeNextThings : mm_M := (⟨"CutSheets$Look", "takeNextThings", "(I)V"⟩, prog_3_method_5_code, 4, none, [])
abbrev mK_areSpotsTrue : mm_M := (⟨"CutSheets$Look", "areSpotsTrue", "(I)Z"⟩, prog_3_method_6_code, 3, (some (.boolean)), [])
abbrev mK_bitOfSpot : mm_M := (⟨"CutSheets$Look", "bitOfSpot", "(I)I"⟩, prog_3_method_7_code, 4, (some (.int)), [])
abbrev mK_thingAt : mm_M := (⟨"CutSheets$Look", "thingAt", "(I)I"⟩, prog_3_method_8_code, 3, (some (.int)), [])
abbrev mK_areCutsFalse : mm_M := (⟨"CutSheets$Look", "areCutsFalse", "(II)Z"⟩, prog_3_method_9_code, 4, (some (.boolean)), [])
abbrev mR_init : mm_M := (⟨"CutSheets$Reading", "<init>", "()V"⟩, prog_4_method_1_code, 1, none, [])
abbrev mR_takeArea : mm_M := (⟨"CutSheets$Reading", "takeArea", "(LCutSheets$Sheet;I)V"⟩, prog_4_method_2_code, 3, none, [])
abbrev mR_takePart : mm_M := (⟨"CutSheets$Reading", "takePart", "(LCutSheets$Sheet;II)V"⟩, prog_4_method_3_code, 4, none, [])
abbrev mR_isSame : mm_M := (⟨"CutSheets$Reading", "isSame", "(LCutSheets$Reading;)Z"⟩, prog_4_method_4_code, 3, (some (.boolean)), [])
abbrev mR_clear : mm_M := (⟨"CutSheets$Reading", "clear", "(I)V"⟩, prog_4_method_5_code, 3, none, [])
abbrev mR_addArea : mm_M := (⟨"CutSheets$Reading", "addArea", "(LCutSheets$Sheet;II)V"⟩, prog_4_method_6_code, 5, none, [])
abbrev mR_addCutsIn : mm_M := (⟨"CutSheets$Reading", "addCutsIn", "(LCutSheets$Sheet;II)V"⟩, prog_4_method_7_code, 5, none, [])
abbrev mR_addSpot : mm_M := (⟨"CutSheets$Reading", "addSpot", "(LCutSheets$Sheet;I)V"⟩, prog_4_method_8_code, 4, none, [])
abbrev mR_addLine : mm_M := (⟨"CutSheets$Reading", "addLine", "(LCutSheets$Sheet;I)V"⟩, prog_4_method_9_code, 4, none, [])
abbrev mR_add : mm_M := (⟨"CutSheets$Reading", "add", "(I)V"⟩, prog_4_method_10_code, 2, none, [])
abbrev mS_init : mm_M := (⟨"CutSheets$Sheet", "<init>", "()V"⟩, prog_5_method_1_code, 2, none, [])
abbrev mS_takeOver : mm_M := (⟨"CutSheets$Sheet", "takeOver", "(LCutSheets$Sheet;)V"⟩, prog_5_method_2_code, 2, none, [])
abbrev mS_areas : mm_M := (⟨"CutSheets$Sheet", "areas", "(I)[I"⟩, prog_5_method_3_code, 2, (some ((.array .int))), [])
abbrev mS_leastNumber : mm_M := (⟨"CutSheets$Sheet", "leastNumber", "(I)I"⟩, prog_5_method_4_code, 2, (some (.int)), [])
abbrev mS_has : mm_M := (⟨"CutSheets$Sheet", "has", "(II)Z"⟩, prog_5_method_5_code, 3, (some (.boolean)), [])
abbrev mS_hasPart : mm_M := (⟨"CutSheets$Sheet", "hasPart", "(II)Z"⟩, prog_5_method_6_code, 3, (some (.boolean)), [])
abbrev mS_hasArea : mm_M := (⟨"CutSheets$Sheet", "hasArea", "(I)Z"⟩, prog_5_method_7_code, 2, (some (.boolean)), [])
abbrev mS_areaOf : mm_M := (⟨"CutSheets$Sheet", "areaOf", "(II)I"⟩, prog_5_method_8_code, 3, (some (.int)), [])
abbrev mS_howMany : mm_M := (⟨"CutSheets$Sheet", "howMany", "(I)I"⟩, prog_5_method_9_code, 2, (some (.int)), [])
abbrev mS_free : mm_M := (⟨"CutSheets$Sheet", "free", "(I)I"⟩, prog_5_method_10_code, 2, (some (.int)), [])
abbrev mS_howManyIn : mm_M := (⟨"CutSheets$Sheet", "howManyIn", "(II)I"⟩, prog_5_method_11_code, 5, (some (.int)), [])
abbrev mS_depthOf : mm_M := (⟨"CutSheets$Sheet", "depthOf", "(I)I"⟩, prog_5_method_12_code, 4, (some (.int)), [])
abbrev mS_isOdd : mm_M := (⟨"CutSheets$Sheet", "isOdd", "(I)Z"⟩, prog_5_method_13_code, 2, (some (.boolean)), [])
abbrev mS_isWithin : mm_M := (⟨"CutSheets$Sheet", "isWithin", "(II)Z"⟩, prog_5_method_14_code, 5, (some (.boolean)), [])
abbrev mS_areasWithin : mm_M := (⟨"CutSheets$Sheet", "areasWithin", "(I)I"⟩, prog_5_method_15_code, 4, (some (.int)), [])
abbrev mS_reaches : mm_M := (⟨"CutSheets$Sheet", "reaches", "(II)Z"⟩, prog_5_method_16_code, 3, (some (.boolean)), [])
abbrev mS_isHooked : mm_M := (⟨"CutSheets$Sheet", "isHooked", "(I)Z"⟩, prog_5_method_17_code, 3, (some (.boolean)), [])
abbrev mS_add : mm_M := (⟨"CutSheets$Sheet", "add", "(II)I"⟩, prog_5_method_18_code, 5, (some (.int)), [])
abbrev mS_addSpot : mm_M := (⟨"CutSheets$Sheet", "addSpot", "(IIII)I"⟩, prog_5_method_19_code, 6, (some (.int)), [])
abbrev mS_put : mm_M := (⟨"CutSheets$Sheet", "put", "(III)V"⟩, prog_5_method_20_code, 4, none, [])
abbrev mS_remove : mm_M := (⟨"CutSheets$Sheet", "remove", "(II)V"⟩, prog_5_method_21_code, 3, none, [])
abbrev mS_putAll : mm_M := (⟨"CutSheets$Sheet", "putAll", "(II)V"⟩, prog_5_method_22_code, 6, none, [])
abbrev mS_rehook : mm_M := (⟨"CutSheets$Sheet", "rehook", "(III)V"⟩, prog_5_method_23_code, 6, none, [])
abbrev mS_holdsOneCutAlone : mm_M := (⟨"CutSheets$Sheet", "holdsOneCutAlone", "(I)Z"⟩, prog_5_method_24_code, 3, (some (.boolean)), [])
abbrev mS_removeDoubleCut : mm_M := (⟨"CutSheets$Sheet", "removeDoubleCut", "(I)V"⟩, prog_5_method_25_code, 4, none, [])
abbrev mS_hasRoomForCopy : mm_M := (⟨"CutSheets$Sheet", "hasRoomForCopy", "(II)Z"⟩, prog_5_method_26_code, 4, (some (.boolean)), [])
abbrev mS_addCopy : mm_M := (⟨"CutSheets$Sheet", "addCopy", "(III[I)I"⟩, prog_5_method_27_code, 5, (some (.int)), [])
abbrev mS_copySpot : mm_M := (⟨"CutSheets$Sheet", "copySpot", "(II[I)I"⟩, prog_5_method_28_code, 6, (some (.int)), [])
abbrev mS_copyCut : mm_M := (⟨"CutSheets$Sheet", "copyCut", "(II[II)I"⟩, prog_5_method_29_code, 7, (some (.int)), [])
abbrev mS_copyCutsIn : mm_M := (⟨"CutSheets$Sheet", "copyCutsIn", "(II[II)V"⟩, prog_5_method_30_code, 6, none, [])
abbrev mL_cut : mm_M := (⟨"CutSheetsLaw", "cut", "(LCutSheets;I[J)I"⟩, method_3_code, 4, (some (.int)), [(0, 9, 12, 13), (0, 9, 15, 15), (0, 9, 18, 17)])
abbrev mL_line : mm_M := (⟨"CutSheetsLaw", "line", "(LCutSheets;I[J)I"⟩, method_4_code, 4, (some (.int)), [(0, 9, 12, 13), (0, 9, 15, 15), (0, 9, 18, 17)])
abbrev mL_spot : mm_M := (⟨"CutSheetsLaw", "spot", "(LCutSheets;IIII[J)I"⟩, method_5_code, 7, (some (.int)), [(0, 14, 17, 13), (0, 14, 21, 15), (0, 14, 25, 17)])
abbrev mL_start : mm_M := (⟨"CutSheetsLaw", "start", "(LCutSheets;)I"⟩, method_6_code, 2, (some (.int)), [(0, 4, 7, 15)])
abbrev mL_erase : mm_M := (⟨"CutSheetsLaw", "erase", "(LCutSheets;II[J)I"⟩, method_7_code, 5, (some (.int)), [(0, 10, 13, 13), (0, 10, 17, 15), (0, 10, 21, 17)])
abbrev mL_copy : mm_M := (⟨"CutSheetsLaw", "copy", "(LCutSheets;III[J)I"⟩, method_8_code, 6, (some (.int)), [(0, 12, 15, 13), (0, 12, 19, 15), (0, 12, 23, 17)])
abbrev mL_uncopy : mm_M := (⟨"CutSheetsLaw", "uncopy", "(LCutSheets;II[J)I"⟩, method_9_code, 5, (some (.int)), [(0, 10, 13, 13), (0, 10, 17, 15), (0, 10, 21, 17)])
abbrev mL_wrap : mm_M := (⟨"CutSheetsLaw", "wrap", "(LCutSheets;II[J)I"⟩, method_10_code, 5, (some (.int)), [(0, 10, 13, 13), (0, 10, 17, 15), (0, 10, 21, 17)])
abbrev mL_unwrap : mm_M := (⟨"CutSheetsLaw", "unwrap", "(LCutSheets;I[J)I"⟩, method_11_code, 4, (some (.int)), [(0, 9, 12, 13), (0, 9, 15, 15), (0, 9, 18, 17)])
abbrev mL_join : mm_M := (⟨"CutSheetsLaw", "join", "(LCutSheets;II[J)I"⟩, method_12_code, 5, (some (.int)), [(0, 10, 13, 13), (0, 10, 17, 15), (0, 10, 21, 17)])
abbrev mL_sever : mm_M := (⟨"CutSheetsLaw", "sever", "(LCutSheets;II[J)I"⟩, method_13_code, 5, (some (.int)), [(0, 10, 13, 13), (0, 10, 17, 15), (0, 10, 21, 17)])
abbrev mL_back : mm_M := (⟨"CutSheetsLaw", "back", "(LCutSheets;[J)I"⟩, method_14_code, 3, (some (.int)), [(0, 8, 11, 15)])
abbrev mL_depth : mm_M := (⟨"CutSheetsLaw", "depth", "(LCutSheets;I[J)I"⟩, method_15_code, 4, (some (.int)), [(0, 9, 12, 13)])
abbrev mL_read : mm_M := (⟨"CutSheetsLaw", "read", "(LCutSheets;I[J)I"⟩, method_16_code, 4, (some (.int)), [(0, 9, 12, 13)])
abbrev mL_token : mm_M := (⟨"CutSheetsLaw", "token", "(LCutSheets;I[J)I"⟩, method_17_code, 4, (some (.int)), [(0, 9, 12, 65)])
abbrev mL_holds : mm_M := (⟨"CutSheetsLaw", "holds", "(LCutSheets;ZII[J)I"⟩, method_18_code, 6, (some (.int)), [(0, 19, 22, 13), (0, 19, 26, 15)])
abbrev mL_refutes : mm_M := (⟨"CutSheetsLaw", "refutes", "(LCutSheets;I[J)I"⟩, method_19_code, 4, (some (.int)), [(0, 9, 12, 13), (0, 9, 15, 15)])
abbrev mL_count : mm_M := (⟨"CutSheetsLaw", "count", "(LCutSheets;I[J)I"⟩, method_20_code, 4, (some (.int)), [(0, 9, 12, 13)])
abbrev mL_law : mm_M := (⟨"CutSheetsLaw", "law", "([I)Z"⟩, code, 7, (some (.boolean)), [])
/-! printed by wip/whole/gen_names.py: nest links, field types -/
def mm_NF : List (String × Nat × String × String × String) := [("CutSheets", 151, "CutSheets$Reading", "size", "I"), ("CutSheets", 157, "CutSheets$Reading", "tokens", "[I"), ("CutSheets$Look", 52, "CutSheets$Sheet", "lineArea", "[I"), ("CutSheets$Look", 59, "CutSheets$Sheet", "spotArea", "[I"), ("CutSheets$Look", 62, "CutSheets$Sheet", "cutArea", "[I"), ("CutSheets$Look", 65, "CutSheets$Sheet", "spotSign", "[I"), ("CutSheets$Look", 74, "CutSheets$Sheet", "hooks", "[I"), ("CutSheets$Look", 79, "CutSheets$Groups", "begins", "[I"), ("CutSheets$Look", 82, "CutSheets$Groups", "numbers", "[I"), ("CutSheets$Reading", 46, "CutSheets$Sheet", "lineArea", "[I"), ("CutSheets$Reading", 52, "CutSheets$Sheet", "spotArea", "[I"), ("CutSheets$Reading", 58, "CutSheets$Sheet", "cutArea", "[I"), ("CutSheets$Reading", 64, "CutSheets$Sheet", "spotSign", "[I"), ("CutSheets$Reading", 70, "CutSheets$Sheet", "hooks", "[I")]
def mm_NM : List (String × Nat × MethodName) := [("CutSheets", 18, ⟨"CutSheets$Reading", "<init>", "()V"⟩), ("CutSheets", 31, ⟨"CutSheets$Look", "<init>", "()V"⟩), ("CutSheets$Look", 101, ⟨"CutSheets", "bitOfOne", "(I)I"⟩), ("CutSheets$Look", 104, ⟨"CutSheets", "bitOfTwo", "(II)I"⟩), ("CutSheets$Reading", 67, ⟨"CutSheets", "placesOf", "(I)I"⟩), ("CutSheets$Reading", 73, ⟨"CutSheets", "isAmong", "(II)Z"⟩), ("CutSheets$Sheet", 52, ⟨"CutSheets", "isAmong", "(II)Z"⟩)]
def mm_NC : List (Nat × Nat) := [(0, 1), (0, 2), (1, 0), (1, 2), (2, 0), (2, 1)]
def mm_fld (ci k : Nat) : String × String × String × Bool := match ci with
  | 0 => mFG k
  | 1 => mFK k
  | 2 => mFR k
  | 3 => mFS k
  | 4 => mFC k
  | _ => mFM k
def mm_ty (ci k : Nat) : FieldType := match ci with
  | 0 => mtG k
  | 1 => mtK k
  | 2 => mtR k
  | 3 => mtS k
  | 4 => mtC k
  | _ => mtM k
theorem mm_fld_eq (ci : Nat) (q : vw_C) (h : mm_cl[ci]? = some q) : ∀ k, mm_fld ci k = q.2.1 k := by
  match ci, h with
  | 0, h => cases h; exact fun _ => rfl
  | 1, h => cases h; exact fun _ => rfl
  | 2, h => cases h; exact fun _ => rfl
  | 3, h => cases h; exact fun _ => rfl
  | 4, h => cases h; exact fun _ => rfl
  | 5, h => cases h; exact fun _ => rfl
  | n + 6, h => exact absurd h (by simp [mm_cl])
theorem mm_tyok (ci : Nat) (q : vw_C) (h : mm_cl[ci]? = some q) : ∀ k, k < q.2.2 → parseFieldDescriptor (q.2.1 k).2.2.1 = some (mm_ty ci k) := by
  match ci, h with
  | 0, h => cases h; exact moG
  | 1, h => cases h; exact moK
  | 2, h => cases h; exact moR
  | 3, h => cases h; exact moS
  | 4, h => cases h; exact moC
  | 5, h => cases h; exact moM
  | n + 6, h => exact absurd h (by simp [mm_cl])
theorem mm_nmok (ci : Nat) (q : vw_C) (h : mm_cl[ci]? = some q) : ∀ a, a < q.2.2 → ∀ b, b < q.2.2 → a ≠ b → (q.2.1 a).2.1 ≠ (q.2.1 b).2.1 := by
  match ci, h with
  | 0, h => cases h; exact mnG
  | 1, h => cases h; exact mnK
  | 2, h => cases h; exact mnR
  | 3, h => cases h; exact mnS
  | 4, h => cases h; exact mnC
  | 5, h => cases h; exact mnM
  | n + 6, h => exact absurd h (by simp [mm_cl])
end
section
/-! The small machine: pictures of the heap, W with its context put away. -/
abbrev mm_E : Type := (Nat × vp_A) ⊕ (Nat × List Value)
abbrev mm_H : Type := Nat × Nat × (Nat → Option mm_E)
abbrev mm_L : Type := List (Option Value)
abbrev mm_O : Type := Option Value ⊕ Nat
abbrev mm_D : Type := mm_O → mm_H → Prop
/-- fixed for a run: classes and slots; array classes; first address that is ours, ends of the room; the script -/
abbrev mm_G : Type := va_G × (Nat → ClassId) × (Nat × Nat × Nat) × (Nat × Nat × (Nat → Int32))
abbrev mm_B (Γ : mm_G) : Nat := Γ.2.2.1.1
abbrev mm_Cm (Γ : mm_G) : Nat := Γ.2.2.1.2.1
abbrev mm_Sm (Γ : mm_G) : Nat := Γ.2.2.1.2.2
def mm_up (h : mm_H) (a : Nat) (x : mm_E) : mm_H := (h.1, h.2.1, fun q => if q = a then some x else h.2.2 q)
def mm_add (h : mm_H) (n : Nat) (x : mm_E) : mm_H := (h.1 + 1, h.2.1 + n, fun q => if q = h.1 then some x else h.2.2 q)
/-- an exception was made: its cell is not in the picture -/
def mm_exn (h : mm_H) : mm_H := (h.1 + 1, h.2.1 + 6, h.2.2)
def mm_exc : Nat → String
  | 0 => "java/lang/IllegalArgumentException"
  | 1 => "java/lang/IllegalStateException"
  | 2 => "java/lang/UnsupportedOperationException"
  | _ => "java/lang/IndexOutOfBoundsException"
/-- the array types: by number -/
def mm_aty : Nat → FieldType
  | 0 => .int
  | 1 => .boolean
  | 2 => .long
  | _ => .object "CutSheets$Sheet"
def mm_tys (Γ : mm_G) : List (ClassId × FieldType) := [(Γ.2.1 0, mm_aty 0), (Γ.2.1 1, mm_aty 1), (Γ.2.1 2, mm_aty 2), (Γ.2.1 3, mm_aty 3)]
/-- the words that move -/
def mm_T : List Cond := lw_tbl.filter goodWord
theorem mm_in (i : Nat) {w : Cond} (h : lw_tbl[i]? = some w) (hg : goodWord w = true) : w ∈ mm_T := List.mem_filter.mpr ⟨List.mem_of_getElem? h, hg⟩
/-- a cell of the picture, in the heap -/
def mm_at (Γ : mm_G) (H : Heap) (a : Nat) : mm_E → Prop
  | .inl x => H[a]? = some (vp_cell (Γ.2.1 x.1) x.2)
  | .inr o => ∃ r : vw_C, mm_cl[o.1]? = some r ∧ t_OB a (Γ.1.1 o.1) r.2.2 (Γ.1.2 o.1) H (vp_V o.2)
/-- the picture, in the heap; with it what is old and read: the script, Throwable's two statics -/
def mm_R (Γ : mm_G) (U : State) (h : mm_H) (H : Heap) : Prop :=
  (H.size = h.1 ∧ h.1 ≤ mm_Cm Γ ∧ h.2.1 ≤ mm_Sm Γ ∧ mm_B Γ ≤ h.1) ∧
  (∀ (a : Nat) (x : mm_E), h.2.2 a = some x → mm_B Γ ≤ a ∧ mm_at Γ H a x) ∧
  (Γ.2.2.2.1 < mm_B Γ ∧ va_X Γ.2.2.2.1 Γ.2.2.2.2.1 Γ.2.2.2.2.2 U H) ∧
  (vx_Zq Bundle.tN "UNASSIGNED_STACK" Bundle.steD (fun q => mm_B Γ ≤ q) U H ∧ vx_Zq Bundle.tN "SUPPRESSED_SENTINEL" Bundle.listD (fun q => mm_B Γ ≤ q) U H)
def mm_Lc (la : Array Slot) (n : Nat) (ls : mm_L) : Prop := la.size = n ∧ lv_wf la ∧ ∀ (i : Nat) (v : Value), ls[i]? = some (some v) → la[i]? = some (.val v) ∧ v.category = 1
/-- what the tables say, at a state -/
def mm_K (Γ : mm_G) (U : State) : Prop := va_K Γ.1 mm_cl (mm_tys Γ) U ∧ (∀ q ∈ mm_NF, va_Nw (.fieldLinkNest q.1 q.2.1 q.2.2.1 q.2.2.2.1 q.2.2.2.2 "CutSheets") U) ∧ (∀ q ∈ mm_NM, va_Nw (.methodLinkNest q.1 q.2.1 q.2.2 "CutSheets") U) ∧ ∀ q ∈ mm_NC, va_Nc (mm_exc q.1) (mm_exc q.2) U
def mm_out (s t : State) (o : Outcome) : mm_O → Prop
  | .inl v => o = .returned v
  | .inr k => ∃ (x : Addr) (ce : Cell), o = .threw x ∧ t.heap[x]? = some ce ∧ ce.vm = .none ∧ s.vm.findClass (mm_exc k) = some ce.cls
/-- the method has ended -/
def mm_Q (Γ : mm_G) (below : List Frame) (D : mm_D) (s : State) (u0 : Nat) (t : State) : Prop :=
  ∃ (o : Outcome) (o' : mm_O) (h' : mm_H) (L : List Loc) (k n : Nat), t.status = .running ∧ Ended t below o ∧ mm_out s t o o' ∧ D o' h' ∧ mm_R Γ t h' t.heap ∧
    s.WarmedH t.vm ∧ s.sameButNew ({ t with vm := s.vm } : State) L k n ∧ (∀ q ∈ L, mm_B Γ ≤ q.base) ∧ h'.1 = s.heap.size + k ∧ h'.2.1 = u0 + n
/-- the context: machine, method, tables, room for depth d -/
def mm_C (Γ : mm_G) (l : Launch) (M : mm_M) (d : Nat) (p : Program) (R : Room) (s : State) (m : MethodId) (args : Array Value) (meth : Method) (c : Code) (u0 : Nat) : Prop :=
  (p.tables.exec = Jvm.exec ∧ c.code = M.2.1 ∧ c.maxLocals = M.2.2.1 ∧ meth.sig.returnType = M.2.2.2.1 ∧ meth.locks = false ∧ s.vm.findClass M.1.cls = some m.cls ∧ meth.name = M.1.name ∧
  c.exceptionTable.toList.map (fun h => (h.startPc, h.endPc, h.handlerPc, h.catchType)) = M.2.2.2.2) ∧
  ((∀ w ∈ mm_T, w.before args s = true) ∧ mm_K Γ s) ∧ (mm_B Γ ≤ s.heap.size ∧ mm_Cm Γ ≤ s.heap.size + R.cells ∧ mm_Sm Γ ≤ u0 + R.slots ∧
  d + 20 ≤ R.frames ∧ 60 * d + 400 ≤ R.locals ∧ l.stackTraces = false)
def mm_W (Γ : mm_G) (l : Launch) (M : mm_M) (d : Nat) (D : mm_D) (pc : Nat) (ls : mm_L) (st : List Value) (h : mm_H) : Prop :=
  ∀ (p : Program) (e : Env) (R : Room) (s : State) (m : MethodId) (args : Array Value) (below : List Frame) (meth : Method) (c : Code) (u0 : Nat), mm_C Γ l M d p R s m args meth c u0 →
  ∀ (H : Heap) (locs : List Loc) (cells slots : Nat) (la : Array Slot), mm_R Γ s h H → mm_Lc la M.2.2.1 ls → (∀ q ∈ locs, mm_B Γ ≤ q.base) → h.1 = s.heap.size + cells → h.2.1 = u0 + slots →
    W p l e R s m args below meth c H locs cells slots (mm_Q Γ below D s u0) (F0 m pc la st)
/-- an exception is under way over the frame at pc -/
def mm_Th (Γ : mm_G) (l : Launch) (M : mm_M) (d : Nat) (D : mm_D) (pc : Nat) (ls : mm_L) (k : Nat) (h : mm_H) : Prop :=
  ∀ (p : Program) (e : Env) (R : Room) (s : State) (m : MethodId) (args : Array Value) (below : List Frame) (meth : Method) (c : Code) (u0 : Nat), mm_C Γ l M d p R s m args meth c u0 →
  ∀ (H : Heap) (locs : List Loc) (cells slots : Nat) (la : Array Slot) (st : List Value) (x : Addr) (ce : Cell), mm_R Γ s h H → mm_Lc la M.2.2.1 ls → (∀ q ∈ locs, mm_B Γ ≤ q.base) → h.1 = s.heap.size + cells → h.2.1 = u0 + slots →
    H[x]? = some ce → ce.vm = .none → s.vm.findClass (mm_exc k) = some ce.cls → vx_W p l e R s m args below meth c H locs cells slots (mm_Q Γ below D s u0) (F0 m pc la st) x
/-- a method's contract at depth d: from its entry -/
def mm_ent (as : List Value) (n : Nat) : mm_L := as.map some ++ List.replicate (n - as.length) none
def mm_Ev (Γ : mm_G) (l : Launch) (d : Nat) (M : mm_M) (as : List Value) (h : mm_H) (D : mm_D) : Prop := mm_W Γ l M d D 0 (mm_ent as M.2.2.1) [] h
/-- a known end -/
def mm_is (o : mm_O) (g : mm_H) : mm_D := fun o' g' => o' = o ∧ g' = g
section MMC
variable {Γ : mm_G} {l : Launch} {M : mm_M} {d : Nat} {p : Program} {R : Room} {s : State} {m : MethodId} {args : Array Value} {meth : Method} {c : Code} {u0 : Nat}
theorem mm_C.x (h : mm_C Γ l M d p R s m args meth c u0) : p.tables.exec = Jvm.exec := h.1.1
theorem mm_C.b (h : mm_C Γ l M d p R s m args meth c u0) : c.code = M.2.1 := h.1.2.1
theorem mm_C.ml (h : mm_C Γ l M d p R s m args meth c u0) : c.maxLocals = M.2.2.1 := h.1.2.2.1
theorem mm_C.ret (h : mm_C Γ l M d p R s m args meth c u0) : meth.sig.returnType = M.2.2.2.1 := h.1.2.2.2.1
theorem mm_C.lk (h : mm_C Γ l M d p R s m args meth c u0) : meth.locks = false := h.1.2.2.2.2.1
theorem mm_C.own (h : mm_C Γ l M d p R s m args meth c u0) : s.vm.findClass M.1.cls = some m.cls := h.1.2.2.2.2.2.1
theorem mm_C.nm (h : mm_C Γ l M d p R s m args meth c u0) : meth.name = M.1.name := h.1.2.2.2.2.2.2.1
theorem mm_C.tab (h : mm_C Γ l M d p R s m args meth c u0) : c.exceptionTable.toList.map (fun h => (h.startPc, h.endPc, h.handlerPc, h.catchType)) = M.2.2.2.2 := h.1.2.2.2.2.2.2.2
theorem mm_C.w (h : mm_C Γ l M d p R s m args meth c u0) : ∀ w ∈ mm_T, w.before args s = true := h.2.1.1
theorem mm_C.k (h : mm_C Γ l M d p R s m args meth c u0) : mm_K Γ s := h.2.1.2
theorem mm_C.rm (h : mm_C Γ l M d p R s m args meth c u0) : mm_B Γ ≤ s.heap.size ∧ mm_Cm Γ ≤ s.heap.size + R.cells ∧ mm_Sm Γ ≤ u0 + R.slots ∧ d + 20 ≤ R.frames ∧ 60 * d + 400 ≤ R.locals ∧ l.stackTraces = false := h.2.2
end MMC
section MMW
variable {p : Program} {l : Launch} {e : Env} {R : Room} {s : State} {m : MethodId} {args : Array Value} {below : List Frame} {meth : Method} {c : Code} {H : Heap} {locs : List Loc} {cells slots : Nat} {Q Q' : State → Prop} {g : JFrame}
theorem mm_mono (h : ∀ t, Q t → Q' t) (w : W p l e R s m args below meth c H locs cells slots Q g) : W p l e R s m args below meth c H locs cells slots Q' g := fun T hT X =>
  (w T hT X).elim fun t q => ⟨t, q.1, h t q.2⟩
theorem mm_monoX {x : Addr} (h : ∀ t, Q t → Q' t) (w : vx_W p l e R s m args below meth c H locs cells slots Q g x) : vx_W p l e R s m args below meth c H locs cells slots Q' g x := fun T hT X =>
  (w T hT X).elim fun t q => ⟨t, q.1, h t q.2⟩
end MMW
theorem mm_weaken {tb : Tables} {e : Env} {mid below : List Frame} {a b : State} (h : Steps tb e (mid ++ below) a b) : Steps tb e below a b := by
  obtain ⟨n, hn, w⟩ := h
  exact ⟨n, hn, fun k hk => (w k hk).weaken⟩
theorem mm_at.kept {Γ : mm_G} {H H1 : Heap} {a : Nat} {x : mm_E} (hq : H1[a]? = H[a]?) (h : mm_at Γ H a x) : mm_at Γ H1 a x := by
  match x, h with
  | .inl _, h => exact hq.trans h
  | .inr _, ⟨r, h1, h2⟩ => exact ⟨r, h1, h2.kept hq⟩
theorem mm_at.lt {Γ : mm_G} {H : Heap} {a : Nat} {x : mm_E} (h : mm_at Γ H a x) : a < H.size := by
  match x, h with
  | .inl _, h => exact (Array.getElem?_eq_some_iff.mp h).1
  | .inr _, ⟨r, h1, c0, h2, _⟩ => exact (Array.getElem?_eq_some_iff.mp h2).1
theorem mm_X.moved {b L : Nat} {xs : Nat → Int32} {u U : State} {H : Heap} (hvm : u.vm.Alike U.vm) (h : va_X b L xs u H) : va_X b L xs U H := by
  obtain ⟨scr, h1, h2, h3⟩ := h
  exact ⟨scr, h1, State.isArrayOf_alike hvm h2, h3⟩
theorem mm_Nc.moved {E nm : String} {u U : State} (hvm : u.vm.Alike U.vm) (h : va_Nc E nm u) : va_Nc E nm U := h.moved hvm
theorem mm_K.moved {Γ : mm_G} {u U : State} (hW : u.WarmedH U.vm) (h : mm_K Γ u) : mm_K Γ U :=
  ⟨h.1.moved hW.alike, fun q hq => (h.2.1 q hq).warmF hW, fun q hq => (h.2.2.1 q hq).warmM hW, fun q hq => mm_Nc.moved hW.alike (h.2.2.2 q hq)⟩
theorem mm_R.moved {Γ : mm_G} {u U : State} {h : mm_H} {H : Heap} (hvm : u.vm.Alike U.vm) (q : mm_R Γ u h H) : mm_R Γ U h H :=
  ⟨q.1, q.2.1, ⟨q.2.2.1.1, mm_X.moved hvm q.2.2.1.2⟩, ⟨q.2.2.2.1.moved hvm, q.2.2.2.2.moved hvm⟩⟩
/-- one of our cells is written -/
theorem mm_R.set {Γ : mm_G} {U : State} {h : mm_H} {H H1 : Heap} {a : Nat} {x x' : mm_E} (q : mm_R Γ U h H) (hx : h.2.2 a = some x) (h1 : mm_at Γ H1 a x') (hz : H1.size = H.size) (ho : ∀ b : Nat, b ≠ a → H1[b]? = H[b]?) : mm_R Γ U (mm_up h a x') H1 := by
  obtain ⟨⟨z, z1, z2, z3⟩, q1, ⟨q2, scr, s1, s2⟩, q3, q4⟩ := q
  have hB : mm_B Γ ≤ a := (q1 a x hx).1
  have hk : ∀ b : Nat, b < H.size → ¬ mm_B Γ ≤ b → H1[b]? = H[b]? := fun b _ hb => ho b (fun hh => hb (by rw [hh]; exact hB))
  refine ⟨⟨by rw [hz]; exact z, z1, z2, z3⟩, fun b y hy => ?_, ⟨q2, scr, by rw [ho _ (by omega)]; exact s1, s2⟩, q3.kept hk, q4.kept hk⟩
  by_cases hb : b = a
  · subst hb
    simp only [mm_up, if_true] at hy
    cases hy
    exact ⟨hB, h1⟩
  · simp only [mm_up, hb, if_false] at hy
    exact ⟨(q1 b y hy).1, (q1 b y hy).2.kept (ho b hb)⟩
/-- a cell comes -/
theorem mm_R.new {Γ : mm_G} {U : State} {h : mm_H} {H H1 : Heap} {n : Nat} {x : mm_E} (q : mm_R Γ U h H) (hn : h.1 + 1 ≤ mm_Cm Γ) (hu : h.2.1 + n ≤ mm_Sm Γ) (h1 : mm_at Γ H1 h.1 x) (hz : H1.size = h.1 + 1) (ho : ∀ b : Nat, b < h.1 → H1[b]? = H[b]?) : mm_R Γ U (mm_add h n x) H1 := by
  obtain ⟨⟨z, z1, z2, z3⟩, q1, ⟨q2, scr, s1, s2⟩, q3, q4⟩ := q
  have hk : ∀ b : Nat, b < H.size → ¬ mm_B Γ ≤ b → H1[b]? = H[b]? := fun b hb _ => ho b (by omega)
  refine ⟨⟨hz, hn, hu, by show mm_B Γ ≤ h.1 + 1; omega⟩, fun b y hy => ?_, ⟨q2, scr, by rw [ho _ (by omega)]; exact s1, s2⟩, q3.kept hk, q4.kept hk⟩
  by_cases hb : b = h.1
  · subst hb
    simp only [mm_add, if_true] at hy
    cases hy
    exact ⟨z3, h1⟩
  · simp only [mm_add, hb, if_false] at hy
    have hlt := (q1 b y hy).2.lt
    exact ⟨(q1 b y hy).1, (q1 b y hy).2.kept (ho b (by omega))⟩
/-- an exception comes -/
theorem mm_R.exn {Γ : mm_G} {U : State} {h : mm_H} {H H1 : Heap} (q : mm_R Γ U h H) (hn : h.1 + 1 ≤ mm_Cm Γ) (hu : h.2.1 + 6 ≤ mm_Sm Γ) (hz : H1.size = h.1 + 1) (ho : ∀ b : Nat, b < H.size → H1[b]? = H[b]?) : mm_R Γ U (mm_exn h) H1 := by
  obtain ⟨⟨z, z1, z2, z3⟩, q1, ⟨q2, scr, s1, s2⟩, q3, q4⟩ := q
  have hk : ∀ b : Nat, b < H.size → ¬ mm_B Γ ≤ b → H1[b]? = H[b]? := fun b hb _ => ho b hb
  refine ⟨⟨hz, hn, hu, by show mm_B Γ ≤ h.1 + 1; omega⟩, fun b y hy => ?_, ⟨q2, scr, by rw [ho _ (by omega)]; exact s1, s2⟩, q3.kept hk, q4.kept hk⟩
  have hy' : h.2.2 b = some y := hy
  have hlt := (q1 b y hy').2.lt
  exact ⟨(q1 b y hy').1, (q1 b y hy').2.kept (ho b hlt)⟩
/-! locals -/
def mm_pairs (ls : mm_L) : List (Nat × Value) := (List.range ls.length).filterMap fun i => match ls[i]? with
  | some (some v) => some (i, v)
  | _ => none
theorem mm_pairs_mem {ls : mm_L} {i : Nat} {v : Value} : (i, v) ∈ mm_pairs ls ↔ ls[i]? = some (some v) := by
  unfold mm_pairs
  rw [List.mem_filterMap]
  constructor
  · rintro ⟨j, -, hj⟩
    cases hx : ls[j]? with
    | none => rw [hx] at hj; simp at hj
    | some o =>
      cases o with
      | none => rw [hx] at hj; simp at hj
      | some w =>
        rw [hx] at hj
        simp at hj
        obtain ⟨rfl, rfl⟩ := hj
        exact hx
  · intro h
    refine ⟨i, List.mem_range.mpr (List.getElem?_eq_some_iff.mp h).1, ?_⟩
    rw [h]
theorem mm_Lc.pairs {la : Array Slot} {n : Nat} {ls : mm_L} (h : mm_Lc la n ls) : lv_has la n (mm_pairs ls) :=
  ⟨h.1, h.2.1, fun q hq => (h.2.2 q.1 q.2 (mm_pairs_mem.mp hq)).1⟩
theorem mm_Lc.at {la : Array Slot} {n : Nat} {ls : mm_L} {i : Nat} {v : Value} (_ : mm_Lc la n ls) (hx : ls[i]? = some (some v)) : ∃ k : Nat, (mm_pairs ls)[k]? = some (i, v) :=
  List.getElem?_of_mem (mm_pairs_mem.mpr hx)
theorem mm_Lc.put {la la' : Array Slot} {n : Nat} {ls ls' : mm_L} {i : Nat} {v : Value} (h : mm_Lc la n ls) (h' : lv_has la' n ((i, v) :: (mm_pairs ls).filter (fun q => !(q.1 == i) && !(q.1 + 1 == i && q.2.category == 2)))) (hv : v.category = 1) (hs : ls.set i (some v) = ls') : mm_Lc la' n ls' := by
  refine ⟨h'.1, h'.2.1, fun j w hj => ?_⟩
  rw [← hs] at hj
  by_cases hji : j = i
  · subst hji
    have hlt : j < ls.length := by
      have := (List.getElem?_eq_some_iff.mp hj).1
      simpa using this
    rw [List.getElem?_set_self hlt] at hj
    cases hj
    exact ⟨h'.2.2 _ List.mem_cons_self, hv⟩
  · rw [List.getElem?_set_ne (fun e => hji e.symm)] at hj
    have hw := (h.2.2 j w hj).2
    refine ⟨h'.2.2 (j, w) (List.mem_cons_of_mem _ (List.mem_filter.mpr ⟨mm_pairs_mem.mpr hj, ?_⟩)), hw⟩
    simp [hji, hw]
theorem mm_entry (as : List Value) {n : Nat} (ha : ∀ v ∈ as, v.category = 1) (hl : as.length ≤ n) : ∃ la : Array Slot, mm_Lc la n (as.map some) ∧ ∀ mk : MethodId, entryFrame mk as.toArray n = F0 mk 0 la [] := by
  have e1 : lg_sl as = as.map Slot.val := by
    clear hl
    induction as with
    | nil => rfl
    | cons v t ih =>
      have hv : ¬ v.category = 2 := by rw [ha v List.mem_cons_self]; decide
      have := ih (fun w hw => ha w (List.mem_cons_of_mem _ hw))
      simp only [lg_sl, List.flatMap_cons, List.map_cons] at this ⊢
      rw [if_neg hv, this]
      rfl
  have hlen : (lg_sl as).length ≤ n := by rw [e1]; simpa using hl
  have hh := lv_entry as hlen
  refine ⟨_, ⟨hh.1, hh.2.1, fun i v hv => ?_⟩, fun mk => lg_entry_eq mk as n⟩
  rw [List.getElem?_map] at hv
  cases hx : as[i]? with
  | none => rw [hx] at hv; simp at hv
  | some w =>
    rw [hx] at hv
    simp at hv
    subst hv
    have hlt : i < as.length := (List.getElem?_eq_some_iff.mp hx).1
    refine ⟨?_, ha w (List.mem_of_getElem? hx)⟩
    rw [e1]
    simp [List.getElem?_append, hlt]
    exact (List.getElem?_eq_some_iff.mp hx).2
theorem mm_Lc.pad {la : Array Slot} {n : Nat} {as : List Value} (h : mm_Lc la n (as.map some)) : mm_Lc la n (mm_ent as n) := by
  refine ⟨h.1, h.2.1, fun i v hv => h.2.2 i v ?_⟩
  unfold mm_ent at hv
  by_cases hi : i < (as.map some).length
  · rw [List.getElem?_append_left hi] at hv
    exact hv
  · rw [List.getElem?_append_right (Nat.le_of_not_lt hi)] at hv
    have hm := List.mem_of_getElem? hv
    have h9 := List.eq_of_mem_replicate hm
    cases h9
end
section
/-! Calls: a callee is walked in place. -/
/-- the method's bytes are in the tables -/
def mm_CW (M : mm_M) : Prop := (M.2.2.2.2 = [] ∧ Cond.code M.1 M.2.1 M.2.2.1 M.2.2.2.1 ∈ mm_T) ∨ Cond.codeWith M.1 M.2.1 M.2.2.1 M.2.2.2.1 M.2.2.2.2 ∈ mm_T
def mm_MB (M : mm_M) (n : Nat) : Prop := mm_CW M ∧ plainName M.1.cls = true ∧ (M.1.cls ≠ "java/lang/invoke/MethodHandle" ∧ M.1.cls ≠ "java/lang/invoke/VarHandle") ∧ (parseMethodDescriptor M.1.desc).map (fun q => q.parameters.length) = some n
def mm_ML (own : String) (idx : Nat) (y : MethodName) : Prop := Cond.methodLink own idx y ∈ mm_T ∨ (own, idx, y) ∈ mm_NM
def mm_MS (own : String) (idx : Nat) (M : mm_M) (n : Nat) : Prop := mm_MB M n ∧ mm_ML own idx M.1 ∧ Cond.static M.1 ∈ mm_T ∧ Cond.initialized M.1.cls ∈ mm_T
def mm_MV (own : String) (idx : Nat) (M : mm_M) (n : Nat) (ci : Nat) : Prop := mm_MB M n ∧ mm_ML own idx M.1 ∧ Cond.instanceMethod M.1 ∈ mm_T ∧ Cond.selects M.1.cls M.1 M.1 ∈ mm_T ∧ ∃ q : vw_C, mm_cl[ci]? = some q ∧ q.1 = M.1.cls
def mm_MI (own : String) (idx : Nat) (M : mm_M) (n : Nat) : Prop := mm_MB M n ∧ mm_ML own idx M.1 ∧ Cond.instanceMethod M.1 ∈ mm_T ∧ M.1.name = "<init>" ∧ Cond.code M.1 M.2.1 M.2.2.1 none ∈ mm_T
theorem mm_CW.spec {M : mm_M} {args : Array Value} {s : State} (h : mm_CW M) (hw : ∀ w ∈ mm_T, w.before args s = true) {mk : MethodId} (hn : s.methodNamed? M.1 = some mk) :
    ∃ (meth : Method) (c : Code), s.vm.method? mk = some meth ∧ meth.code = some c ∧ c.code = M.2.1 ∧ c.maxLocals = M.2.2.1 ∧ c.exceptionTable.toList.map (fun h => (h.startPc, h.endPc, h.handlerPc, h.catchType)) = M.2.2.2.2 ∧ meth.sig.returnType = M.2.2.2.1 ∧ meth.locks = false ∧ parseMethodDescriptor M.1.desc = some meth.sig := by
  rcases h with ⟨h0, h⟩ | h
  · obtain ⟨meth, c, a1, a2, a3, a4, a5, a6, a7, a8⟩ := Cond.code_spec hn (hw _ h)
    refine ⟨meth, c, a1, a2, a3, a4, ?_, a5, a6, a8⟩
    rw [h0]
    have : c.exceptionTable = #[] := Array.isEmpty_iff.mp a7
    rw [this]
    rfl
  · obtain ⟨m', meth, c, a0, a1, a2, a3, a4, a5, a6, a7, a8⟩ := Cond.codeWith_spec (hw _ h)
    cases hn.symm.trans a0
    exact ⟨meth, c, a1, a2, a3, a4, a5, a6, a7, a8⟩
theorem mm_T.good {w : Cond} (h : w ∈ mm_T) : goodWord w = true := (List.mem_filter.mp h).2
set_option maxHeartbeats 1000000 in
theorem mm_enter {Γ : mm_G} {l : Launch} {M : mm_M} {d : Nat} {p : Program} {e : Env} {R : Room} {s : State} {m : MethodId} {args : Array Value} {below : List Frame} {meth : Method} {c : Code} {u0 : Nat} (hC : mm_C Γ l M (d + 1) p R s m args meth c u0)
    {T : State} {locs : List Loc} {cells slots : Nat} (X : Stand p l e R s m args below meth c T locs cells slots) {h : mm_H} (hr : mm_R Γ s h T.heap) (hq : ∀ q ∈ locs, mm_B Γ ≤ q.base) (h1 : h.1 = s.heap.size + cells) (h2 : h.2.1 = u0 + slots)
    {g : JFrame} (hg : g.method = m) (hmr : g.monitorRoom = 0) (hsize : g.locals.size = c.maxLocals) {ig : Instr} {len : Nat} (hdg : decode c.code g.pc = .ok (ig, len))
    {M' : mm_M} {n' : Nat} (hM : mm_MB M' n') {mk : MethodId} (hn : s.methodNamed? M'.1 = some mk)
    {as : List Value} (ha : ∀ v ∈ as, v.category = 1) (hl : as.length ≤ M'.2.2.1) (hw : (g.stack.map fun v => v.category).sum + (M'.2.2.1 + 11) ≤ 60) {D' : mm_D} (hE : mm_Ev Γ l d M' as h D') :
    ∃ (o : mm_O) (h' : mm_H) (T' : State) (L : List Loc) (k n : Nat), D' o h' ∧ Stand p l e R s m args below meth c T' (locs ++ L) (cells + k) (slots + n) ∧ mm_R Γ s h' T'.heap ∧ (∀ q ∈ locs ++ L, mm_B Γ ≤ q.base) ∧ h'.1 = s.heap.size + (cells + k) ∧ h'.2.1 = u0 + (slots + n) ∧
      ((∃ v, o = .inl v ∧ ∀ acts, Steps p.tables e below (doInvoke e (T.setTop g) acts mk as.toArray).1 (T'.setTop { g with pc := g.pc + len, stack := v.toList ++ g.stack })) ∨
       (∃ (j : Nat) (x : Addr) (ce : Cell), o = .inr j ∧ T'.heap[x]? = some ce ∧ ce.vm = .none ∧ s.vm.findClass (mm_exc j) = some ce.cls ∧ ∀ acts, Steps p.tables e below (doInvoke e (T.setTop g) acts mk as.toArray).1 ((T'.setTop g).pushFrame (.throwing x)))) := by
  obtain ⟨hCW, hpl, -, -⟩ := hM
  obtain ⟨methk, ck, hmk, hck, hbk, hlk, htk, hrk, hkk, -⟩ := hCW.spec hC.w hn
  have hW := X.warmed
  have hmT : T.vm.method? mk = some methk := by rw [hW.alike.method?]; exact hmk
  have hnT : T.methodNamed? M'.1 = some mk := X.named hn
  have hpk : T.plainMethod mk := State.plainMethod.of_named (s := T) (plainFor_of_name hpl) hnT hmT
  obtain ⟨hB, hCm, hSm, hfr, hlo, htr⟩ := hC.rm
  have hz := hr.1
  obtain ⟨Y, hdo⟩ := X.into hg hsize hdg as.toArray (R' := { frames := R.frames - 1, locals := R.locals - 60, cells := mm_Cm Γ - h.1, slots := mm_Sm Γ - h.2.1 }) hmT hck hkk hpk (by show R.frames - 1 + 1 ≤ R.frames; omega)
    (by rw [hmr, hlk]; show 2 * 0 + _ + (M'.2.2.1 + 11) + (R.locals - 60) ≤ R.locals; omega) (by show cells + (mm_Cm Γ - h.1) ≤ R.cells; omega) (by show slots + (mm_Sm Γ - h.2.1) ≤ R.slots; omega)
  have hWc : s.WarmedH (T.calling g mk as.toArray).vm := hW
  have hC' : mm_C Γ l M' d p { frames := R.frames - 1, locals := R.locals - 60, cells := mm_Cm Γ - h.1, slots := mm_Sm Γ - h.2.1 } (T.calling g mk as.toArray) mk as.toArray methk ck h.2.1 := by
    refine ⟨⟨hC.x, hbk, hlk, hrk, hkk, ?_, (name_of_methodNamed hn hmk).1, htk⟩, ⟨fun w hw => word_at hWc (good_of_word (mm_T.good hw)) (hC.w w hw), hC.k.moved hWc⟩, ?_, ?_, ?_, ?_, ?_, htr⟩
    · rw [hWc.alike.findClass]; exact findClass_of_methodNamed hn
    · show mm_B Γ ≤ T.heap.size; omega
    · show mm_Cm Γ ≤ T.heap.size + (mm_Cm Γ - h.1); omega
    · show mm_Sm Γ ≤ h.2.1 + (mm_Sm Γ - h.2.1); omega
    · show d + 20 ≤ R.frames - 1; omega
    · show 60 * d + 400 ≤ R.locals - 60; omega
  obtain ⟨la, hla, hent⟩ := mm_entry as ha hl
  have w := hE p e _ (T.calling g mk as.toArray) mk as.toArray (.java g :: below) methk ck h.2.1 hC' T.heap [] 0 0 la (hr.moved hWc.alike) hla.pad (fun q hq => nomatch hq) (by show h.1 = T.heap.size + 0; omega) rfl
  obtain ⟨t, st, o, o', h', L, k, n, hrun, hend, hout, hD, hR', hW', hsame, hL, z1, z2⟩ := w ((T.setTop g).pushFrame (.java (entryFrame mk as.toArray ck.maxLocals))) rfl Y
  have z1' : h'.1 = T.heap.size + k := z1
  have hLs : ∀ q ∈ locs ++ L, mm_B Γ ≤ q.base := fun q hh => (List.mem_append.mp hh).elim (hq q) (hL q)
  have hdo' : ∀ acts, (doInvoke e (T.setTop g) acts mk as.toArray).1 = ((T.setTop g).pushFrame (.java (entryFrame mk as.toArray ck.maxLocals))).setTop (F0 mk 0 la []) := by
    intro acts
    rw [hdo acts, hlk, hent mk]
  match o', hout, hD with
  | .inl v, hout, hD =>
    have ho : o = .returned v := hout
    subst ho
    obtain ⟨T', X', -, -, ht⟩ := X.outOf hg hdg hend hW' hsame
    have hh : t.heap = T'.heap := by rw [ht]; rfl
    have hv : t.vm = T'.vm := by rw [ht]; rfl
    refine ⟨.inl v, h', T', L, k, n, hD, X', ?_, hLs, by omega, by omega, Or.inl ⟨v, rfl, fun acts => ?_⟩⟩
    · rw [← hh]
      refine hR'.moved ?_
      rw [hv]
      exact X'.warmed.alike.symm
    · rw [hdo' acts, ← ht]
      exact mm_weaken (mid := [.java g]) st
  | .inr j, hout, hD =>
    obtain ⟨x, ce, ho, hx, hxv, hxc⟩ := hout
    subst ho
    obtain ⟨T', X', -, -, ht⟩ := X.outOfThrown hg hend hW' hsame
    have hh : t.heap = T'.heap := by rw [ht]; rfl
    have hv : t.vm = T'.vm := by rw [ht]; rfl
    refine ⟨.inr j, h', T', L, k, n, hD, X', ?_, hLs, by omega, by omega, Or.inr ⟨j, x, ce, rfl, by rw [← hh]; exact hx, hxv, ?_, fun acts => ?_⟩⟩
    · rw [← hh]
      refine hR'.moved ?_
      rw [hv]
      exact X'.warmed.alike.symm
    · have hxc' : (T.calling g mk as.toArray).vm.findClass (mm_exc j) = some ce.cls := hxc
      rw [hWc.alike.findClass] at hxc'
      exact hxc'
    · rw [hdo' acts, ← ht]
      exact mm_weaken (mid := [.java g]) st
section MMcall
variable {Γ : mm_G} {l : Launch} {M : mm_M} {d : Nat} {D : mm_D} {pc : Nat} {ls : mm_L} {h : mm_H} {idx : Nat} {M' : mm_M} {n' : Nat} {D' : mm_D} {as rest : List Value}
/-- behind a call: the two ways on -/
theorem mm_after {p : Program} {e : Env} {R : Room} {s : State} {m : MethodId} {args : Array Value} {below : List Frame} {meth : Method} {c : Code} {u0 : Nat} (hC : mm_C Γ l M (d + 1) p R s m args meth c u0)
    {T T1 : State} {la : Array Slot} (hla : mm_Lc la M.2.2.1 ls) {mk : MethodId} {st0 : List Value} {locs : List Loc} {cells slots : Nat}
    (step : ∀ target, (∀ acts, Steps p.tables e below (doInvoke e (T1.setTop { (F0 m pc la st0) with stack := rest }) acts mk as.toArray).1 target) → Steps p.tables e below (T.setTop (F0 m pc la st0)) target)
    (X1 : Stand p l e R s m args below meth c T1 locs cells slots) (hr : mm_R Γ s h T1.heap) (hq : ∀ q ∈ locs, mm_B Γ ≤ q.base) (h1 : h.1 = s.heap.size + cells) (h2 : h.2.1 = u0 + slots) {ig : Instr} (hd : decode M.2.1 pc = .ok (ig, 3))
    (hM : mm_MB M' n') (hn : s.methodNamed? M'.1 = some mk) (ha : ∀ v ∈ as, v.category = 1) (hl : as.length ≤ M'.2.2.1) (hw : (rest.map fun v => v.category).sum + (M'.2.2.1 + 11) ≤ 60) (hE : mm_Ev Γ l d M' as h D')
    (kr : ∀ v h', D' (.inl v) h' → mm_W Γ l M (d + 1) D (pc + 3) ls (v.toList ++ rest) h') (kt : ∀ k h', D' (.inr k) h' → mm_Th Γ l M (d + 1) D pc ls k h') :
    ∃ t, Steps p.tables e below (T.setTop (F0 m pc la st0)) t ∧ mm_Q Γ below D s u0 t := by
  obtain ⟨o, h', T', L, k, n, hD, X', hR', hLs, z1, z2, hcase⟩ := mm_enter hC X1 hr hq h1 h2 (g := { (F0 m pc la st0) with stack := rest }) rfl rfl (by show la.size = _; rw [hC.ml]; exact hla.1) (ig := ig) (len := 3) (by rw [hC.b]; exact hd) hM hn ha hl hw hE
  rcases hcase with ⟨v, rfl, st⟩ | ⟨j, x, ce, rfl, hx, hxv, hxc, st⟩
  · obtain ⟨t, a1, b1⟩ := kr v h' hD p e R s m args below meth c u0 hC T'.heap (locs ++ L) (cells + k) (slots + n) la hR' hla hLs z1 z2 T' rfl X'
    exact ⟨t, step t fun acts => (st acts).trans a1, b1⟩
  · obtain ⟨t, a1, b1⟩ := kt j h' hD p e R s m args below meth c u0 hC T'.heap (locs ++ L) (cells + k) (slots + n) la rest x ce hR' hla hLs z1 z2 hx hxv hxc T' rfl X'
    exact ⟨t, step t fun acts => (st acts).trans a1, b1⟩
theorem mm_lenOf {y : MethodName} {n : Nat} (h : (parseMethodDescriptor y.desc).map (fun q => q.parameters.length) = some n) {sig : _} (hs : parseMethodDescriptor y.desc = some sig) : n = sig.parameters.length := by
  rw [hs] at h
  exact (Option.some.inj h).symm
/-- a static method is called -/
theorem mm_calls (hd : decode M.2.1 pc = .ok (.invokestatic idx, 3)) (hL : mm_MS M.1.cls idx M' n') (hlen : as.length = n') (ha : ∀ v ∈ as, v.category = 1) (hl : as.length ≤ M'.2.2.1) (hw : (rest.map fun v => v.category).sum + (M'.2.2.1 + 11) ≤ 60) (hE : mm_Ev Γ l d M' as h D')
    (kr : ∀ v h', D' (.inl v) h' → mm_W Γ l M (d + 1) D (pc + 3) ls (v.toList ++ rest) h') (kt : ∀ k h', D' (.inr k) h' → mm_Th Γ l M (d + 1) D pc ls k h') : mm_W Γ l M (d + 1) D pc ls (as.reverse ++ rest) h := by
  intro p e R s m args below meth c u0 hC H locs cells slots la hr hla hq h1 h2 T hT X
  subst hT
  obtain ⟨hMB, hlk, hst, hini⟩ := hL
  have hcw := hMB.1
  have hnm : ∃ mk, s.methodNamed? M'.1 = some mk := by
    rcases hcw with ⟨-, hc⟩ | hc
    · exact Cond.code_named (hC.w _ hc)
    · obtain ⟨mk, _, _, a0, -⟩ := Cond.codeWith_spec (hC.w _ hc)
      exact ⟨mk, a0⟩
  obtain ⟨mk, hn⟩ := hnm
  obtain ⟨methk, ck, hmk, -, -, -, -, -, -, hsig⟩ := hcw.spec hC.w hn
  have hstatic : methk.isStatic = true := Cond.static_spec hn hmk (hC.w _ hst)
  obtain ⟨kP, hkP, -⟩ := className_of_methodNamed hn
  have hinitP : kP.init = .initialized := Cond.initialized_spec (findClass_of_methodNamed hn) hkP (hC.w _ hini)
  have hlen' : as.length = methk.sig.parameters.length := hlen.trans (mm_lenOf hMB.2.2.2 hsig)
  rcases hlk with hlk | hlk
  · obtain ⟨vm₁, X₁, step⟩ := X.invokestatic hC.x hC.own (hC.w _ hlk) hn hmk hstatic hkP hinitP hMB.2.2.1 (g := F0 m pc la (as.reverse ++ rest)) rfl (argsL := as) (rest := rest) hlen' rfl (by rw [hC.b]; exact hd)
    exact mm_after hC hla step X₁ hr hq h1 h2 hd hMB hn ha hl hw hE kr kt
  · obtain ⟨vm₁, X₁, step⟩ := X.invokestaticNest hC.x hC.own ((hC.k.2.2.1 _ hlk).use rfl) hn hmk hstatic hkP hinitP hMB.2.2.1 (g := F0 m pc la (as.reverse ++ rest)) rfl (argsL := as) (rest := rest) hlen' rfl (by rw [hC.b]; exact hd)
    exact mm_after hC hla step X₁ hr hq h1 h2 hd hMB hn ha hl hw hE kr kt
/-- a method of an object is called -/
theorem mm_callv {ci b : Nat} {fs : List Value} (hd : decode M.2.1 pc = .ok (.invokevirtual idx, 3)) (hL : mm_MV M.1.cls idx M' n' ci) (hb : h.2.2 b = some (.inr (ci, fs))) (hlen : as.length = n') (ha : ∀ v ∈ as, v.category = 1) (hl : as.length + 1 ≤ M'.2.2.1) (hw : (rest.map fun v => v.category).sum + (M'.2.2.1 + 11) ≤ 60) (hE : mm_Ev Γ l d M' (.ref b :: as) h D')
    (kr : ∀ v h', D' (.inl v) h' → mm_W Γ l M (d + 1) D (pc + 3) ls (v.toList ++ rest) h') (kt : ∀ k h', D' (.inr k) h' → mm_Th Γ l M (d + 1) D pc ls k h') : mm_W Γ l M (d + 1) D pc ls (as.reverse ++ .ref b :: rest) h := by
  intro p e R s m args below meth c u0 hC H locs cells slots la hr hla hq h1 h2 T hT X
  subst hT
  obtain ⟨hMB, hlk, hin, hse, q, hq1, hq2⟩ := hL
  have hcw := hMB.1
  obtain ⟨mk, methM, hn, hmk, hstM, habM⟩ := Cond.instanceMethod_spec (hC.w _ hin)
  obtain ⟨methk, ck, hmk', -, -, -, -, -, -, hsig⟩ := hcw.spec hC.w hn
  cases hmk.symm.trans hmk'
  obtain ⟨r, hr1, cell, hc1, hc2, hc3, -⟩ := (hr.2.1 b _ hb).2
  have hrq : r = q := Option.some.inj (hr1.symm.trans hq1)
  subst hrq
  have hcls : s.vm.findClass M'.1.cls = some cell.cls := by
    rw [← hq2, hc2]
    exact (hC.k.1.1 ci _ hr1).2.1
  obtain ⟨c2, r2, m2, q1, q2, q3, q4, kP, hkP, hkPi⟩ := Cond.selects_spec (hC.w _ hse)
  cases hcls.symm.trans q1
  cases (State.methodFound?_of_named hn hMB.2.2.1).symm.trans q2
  cases hn.symm.trans q3
  have hselP : selectMethod e.platform s.vm cell.cls mk = .method mk := by rw [Launch.admits_selectMethod X.admits]; exact q4
  have hlen' : as.length = methM.sig.parameters.length := hlen.trans (mm_lenOf hMB.2.2.2 hsig)
  have ha' : ∀ v ∈ Value.ref b :: as, v.category = 1 := fun v hv => (List.mem_cons.mp hv).elim (fun e => by rw [e]; rfl) (ha v)
  rcases hlk with hlk | hlk
  · obtain ⟨vm₁, X₁, step⟩ := X.invokevirtual hC.x hC.own (hC.w _ hlk) hn hmk hstM hkP hkPi hMB.2.2.1 (a := b) (cell := cell) hc1 (fun z hz => by rw [hc3] at hz; cases hz) hselP hmk habM hkP hkPi (g := F0 m pc la (as.reverse ++ .ref b :: rest)) rfl (argsL := as) (rest := rest) hlen' rfl (by rw [hC.b]; exact hd)
    exact mm_after hC hla step X₁ hr hq h1 h2 hd hMB hn ha' hl hw hE kr kt
  · obtain ⟨vm₁, X₁, step⟩ := X.invokevirtualNest hC.x hC.own ((hC.k.2.2.1 _ hlk).use rfl) hn hmk hstM hkP hkPi hMB.2.2.1 (a := b) (cell := cell) hc1 (fun z hz => by rw [hc3] at hz; cases hz) hselP hmk habM hkP hkPi (g := F0 m pc la (as.reverse ++ .ref b :: rest)) rfl (argsL := as) (rest := rest) hlen' rfl (by rw [hC.b]; exact hd)
    exact mm_after hC hla step X₁ hr hq h1 h2 hd hMB hn ha' hl hw hE kr kt
/-- a constructor is called -/
theorem mm_calli {b : Nat} (hd : decode M.2.1 pc = .ok (.invokespecial idx, 3)) (hL : mm_MI M.1.cls idx M' n') (hlen : as.length = n') (ha : ∀ v ∈ as, v.category = 1) (hl : as.length + 1 ≤ M'.2.2.1) (hw : (rest.map fun v => v.category).sum + (M'.2.2.1 + 11) ≤ 60) (hE : mm_Ev Γ l d M' (.ref b :: as) h D')
    (kr : ∀ v h', D' (.inl v) h' → mm_W Γ l M (d + 1) D (pc + 3) ls (v.toList ++ rest) h') (kt : ∀ k h', D' (.inr k) h' → mm_Th Γ l M (d + 1) D pc ls k h') : mm_W Γ l M (d + 1) D pc ls (as.reverse ++ .ref b :: rest) h := by
  intro p e R s m args below meth c u0 hC H locs cells slots la hr hla hq h1 h2 T hT X
  subst hT
  obtain ⟨hMB, hlk, hin, hy1, hco⟩ := hL
  have ha' : ∀ v ∈ Value.ref b :: as, v.category = 1 := fun v hv => (List.mem_cons.mp hv).elim (fun e => by rw [e]; rfl) (ha v)
  have hpl : e.platform.magicAccessors = ({} : Platform).magicAccessors := by rw [X.admits.platform]
  rcases hlk with hlk | hlk
  · obtain ⟨mk, methM, cM, kP, vm₁, hn, -, -, -, -, -, -, -, hW₁, step⟩ := Steps.initColdArgs (e := e) X.here hC.x X.warmed hpl hC.own hy1 hMB.2.2.1 (hC.w _ hlk) (hC.w _ hin) (hC.w _ hco) (f := F0 m pc la (as.reverse ++ .ref b :: rest)) rfl (a := b) (argsL := as) (rest := rest) (fun sig hs => hlen.trans (mm_lenOf hMB.2.2.2 hs)) rfl (by rw [hC.b]; exact hd)
    exact mm_after hC hla step (X.noted hW₁) hr hq h1 h2 hd hMB hn ha' hl hw hE kr kt
  · obtain ⟨mk, methM, cM, kP, vm₁, hn, -, -, -, -, -, -, -, hW₁, step⟩ := Steps.initColdArgsNest (e := e) X.here hC.x X.warmed hpl hC.own hy1 hMB.2.2.1 ((hC.k.2.2.1 _ hlk).use rfl) (hC.w _ hin) (hC.w _ hco) (f := F0 m pc la (as.reverse ++ .ref b :: rest)) rfl (a := b) (argsL := as) (rest := rest) (fun sig hs => hlen.trans (mm_lenOf hMB.2.2.2 hs)) rfl (by rw [hC.b]; exact hd)
    exact mm_after hC hla step (X.noted hW₁) hr hq h1 h2 hd hMB hn ha' hl hw hE kr kt
end MMcall
end
section
/-! printed by wip/whole/gen_names.py: one theorem a pool entry -/
theorem mlG_0 : u_lay "CutSheets$Groups" mFG 0 ∈ mm_T := mm_in 161 (by decide +kernel) rfl
theorem mlG_1 : u_lay "CutSheets$Groups" mFG 1 ∈ mm_T := mm_in 163 (by decide +kernel) rfl
theorem mlG : ∀ w ∈ u_ws "CutSheets$Groups" mFG 2, w ∈ mm_T := by
  intro w hw
  obtain ⟨k, hk, rfl⟩ := List.mem_map.mp hw
  have hk := List.mem_range.mp hk
  match k, hk with
  | 0, _ => exact mlG_0
  | 1, _ => exact mlG_1
  | n + 2, h => exact absurd h (by omega)
theorem mlK_0 : u_lay "CutSheets$Look" mFK 0 ∈ mm_T := mm_in 175 (by decide +kernel) rfl
theorem mlK_1 : u_lay "CutSheets$Look" mFK 1 ∈ mm_T := mm_in 177 (by decide +kernel) rfl
theorem mlK_2 : u_lay "CutSheets$Look" mFK 2 ∈ mm_T := mm_in 179 (by decide +kernel) rfl
theorem mlK_3 : u_lay "CutSheets$Look" mFK 3 ∈ mm_T := mm_in 181 (by decide +kernel) rfl
theorem mlK_4 : u_lay "CutSheets$Look" mFK 4 ∈ mm_T := mm_in 183 (by decide +kernel) rfl
theorem mlK_5 : u_lay "CutSheets$Look" mFK 5 ∈ mm_T := mm_in 185 (by decide +kernel) rfl
theorem mlK_6 : u_lay "CutSheets$Look" mFK 6 ∈ mm_T := mm_in 187 (by decide +kernel) rfl
theorem mlK_7 : u_lay "CutSheets$Look" mFK 7 ∈ mm_T := mm_in 189 (by decide +kernel) rfl
theorem mlK_8 : u_lay "CutSheets$Look" mFK 8 ∈ mm_T := mm_in 191 (by decide +kernel) rfl
theorem mlK : ∀ w ∈ u_ws "CutSheets$Look" mFK 9, w ∈ mm_T := by
  intro w hw
  obtain ⟨k, hk, rfl⟩ := List.mem_map.mp hw
  have hk := List.mem_range.mp hk
  match k, hk with
  | 0, _ => exact mlK_0
  | 1, _ => exact mlK_1
  | 2, _ => exact mlK_2
  | 3, _ => exact mlK_3
  | 4, _ => exact mlK_4
  | 5, _ => exact mlK_5
  | 6, _ => exact mlK_6
  | 7, _ => exact mlK_7
  | 8, _ => exact mlK_8
  | n + 9, h => exact absurd h (by omega)
theorem mlR_0 : u_lay "CutSheets$Reading" mFR 0 ∈ mm_T := mm_in 134 (by decide +kernel) rfl
theorem mlR_1 : u_lay "CutSheets$Reading" mFR 1 ∈ mm_T := mm_in 136 (by decide +kernel) rfl
theorem mlR_2 : u_lay "CutSheets$Reading" mFR 2 ∈ mm_T := mm_in 138 (by decide +kernel) rfl
theorem mlR_3 : u_lay "CutSheets$Reading" mFR 3 ∈ mm_T := mm_in 140 (by decide +kernel) rfl
theorem mlR_4 : u_lay "CutSheets$Reading" mFR 4 ∈ mm_T := mm_in 142 (by decide +kernel) rfl
theorem mlR : ∀ w ∈ u_ws "CutSheets$Reading" mFR 5, w ∈ mm_T := by
  intro w hw
  obtain ⟨k, hk, rfl⟩ := List.mem_map.mp hw
  have hk := List.mem_range.mp hk
  match k, hk with
  | 0, _ => exact mlR_0
  | 1, _ => exact mlR_1
  | 2, _ => exact mlR_2
  | 3, _ => exact mlR_3
  | 4, _ => exact mlR_4
  | n + 5, h => exact absurd h (by omega)
theorem mlS_0 : u_lay "CutSheets$Sheet" mFS 0 ∈ mm_T := mm_in 109 (by decide +kernel) rfl
theorem mlS_1 : u_lay "CutSheets$Sheet" mFS 1 ∈ mm_T := mm_in 111 (by decide +kernel) rfl
theorem mlS_2 : u_lay "CutSheets$Sheet" mFS 2 ∈ mm_T := mm_in 113 (by decide +kernel) rfl
theorem mlS_3 : u_lay "CutSheets$Sheet" mFS 3 ∈ mm_T := mm_in 115 (by decide +kernel) rfl
theorem mlS_4 : u_lay "CutSheets$Sheet" mFS 4 ∈ mm_T := mm_in 117 (by decide +kernel) rfl
theorem mlS : ∀ w ∈ u_ws "CutSheets$Sheet" mFS 5, w ∈ mm_T := by
  intro w hw
  obtain ⟨k, hk, rfl⟩ := List.mem_map.mp hw
  have hk := List.mem_range.mp hk
  match k, hk with
  | 0, _ => exact mlS_0
  | 1, _ => exact mlS_1
  | 2, _ => exact mlS_2
  | 3, _ => exact mlS_3
  | 4, _ => exact mlS_4
  | n + 5, h => exact absurd h (by omega)
theorem mlC_0 : u_lay "CutSheets" mFC 0 ∈ mm_T := mm_in 203 (by decide +kernel) rfl
theorem mlC_1 : u_lay "CutSheets" mFC 1 ∈ mm_T := mm_in 205 (by decide +kernel) rfl
theorem mlC_2 : u_lay "CutSheets" mFC 2 ∈ mm_T := mm_in 207 (by decide +kernel) rfl
theorem mlC_3 : u_lay "CutSheets" mFC 3 ∈ mm_T := mm_in 209 (by decide +kernel) rfl
theorem mlC_4 : u_lay "CutSheets" mFC 4 ∈ mm_T := mm_in 211 (by decide +kernel) rfl
theorem mlC_5 : u_lay "CutSheets" mFC 5 ∈ mm_T := mm_in 213 (by decide +kernel) rfl
theorem mlC_6 : u_lay "CutSheets" mFC 6 ∈ mm_T := mm_in 215 (by decide +kernel) rfl
theorem mlC_7 : u_lay "CutSheets" mFC 7 ∈ mm_T := mm_in 217 (by decide +kernel) rfl
theorem mlC_8 : u_lay "CutSheets" mFC 8 ∈ mm_T := mm_in 219 (by decide +kernel) rfl
theorem mlC : ∀ w ∈ u_ws "CutSheets" mFC 9, w ∈ mm_T := by
  intro w hw
  obtain ⟨k, hk, rfl⟩ := List.mem_map.mp hw
  have hk := List.mem_range.mp hk
  match k, hk with
  | 0, _ => exact mlC_0
  | 1, _ => exact mlC_1
  | 2, _ => exact mlC_2
  | 3, _ => exact mlC_3
  | 4, _ => exact mlC_4
  | 5, _ => exact mlC_5
  | 6, _ => exact mlC_6
  | 7, _ => exact mlC_7
  | 8, _ => exact mlC_8
  | n + 9, h => exact absurd h (by omega)
theorem mlM_0 : u_lay "CutSheetsModel" mFM 0 ∈ mm_T := mm_in 740 (by decide +kernel) rfl
theorem mlM_1 : u_lay "CutSheetsModel" mFM 1 ∈ mm_T := mm_in 742 (by decide +kernel) rfl
theorem mlM_2 : u_lay "CutSheetsModel" mFM 2 ∈ mm_T := mm_in 744 (by decide +kernel) rfl
theorem mlM_3 : u_lay "CutSheetsModel" mFM 3 ∈ mm_T := mm_in 746 (by decide +kernel) rfl
theorem mlM_4 : u_lay "CutSheetsModel" mFM 4 ∈ mm_T := mm_in 748 (by decide +kernel) rfl
theorem mlM_5 : u_lay "CutSheetsModel" mFM 5 ∈ mm_T := mm_in 750 (by decide +kernel) rfl
theorem mlM_6 : u_lay "CutSheetsModel" mFM 6 ∈ mm_T := mm_in 752 (by decide +kernel) rfl
theorem mlM_7 : u_lay "CutSheetsModel" mFM 7 ∈ mm_T := mm_in 754 (by decide +kernel) rfl
theorem mlM_8 : u_lay "CutSheetsModel" mFM 8 ∈ mm_T := mm_in 756 (by decide +kernel) rfl
theorem mlM_9 : u_lay "CutSheetsModel" mFM 9 ∈ mm_T := mm_in 758 (by decide +kernel) rfl
theorem mlM_10 : u_lay "CutSheetsModel" mFM 10 ∈ mm_T := mm_in 760 (by decide +kernel) rfl
theorem mlM_11 : u_lay "CutSheetsModel" mFM 11 ∈ mm_T := mm_in 762 (by decide +kernel) rfl
theorem mlM_12 : u_lay "CutSheetsModel" mFM 12 ∈ mm_T := mm_in 764 (by decide +kernel) rfl
theorem mlM_13 : u_lay "CutSheetsModel" mFM 13 ∈ mm_T := mm_in 766 (by decide +kernel) rfl
theorem mlM_14 : u_lay "CutSheetsModel" mFM 14 ∈ mm_T := mm_in 768 (by decide +kernel) rfl
theorem mlM_15 : u_lay "CutSheetsModel" mFM 15 ∈ mm_T := mm_in 770 (by decide +kernel) rfl
theorem mlM_16 : u_lay "CutSheetsModel" mFM 16 ∈ mm_T := mm_in 772 (by decide +kernel) rfl
theorem mlM_17 : u_lay "CutSheetsModel" mFM 17 ∈ mm_T := mm_in 774 (by decide +kernel) rfl
theorem mlM_18 : u_lay "CutSheetsModel" mFM 18 ∈ mm_T := mm_in 776 (by decide +kernel) rfl
theorem mlM_19 : u_lay "CutSheetsModel" mFM 19 ∈ mm_T := mm_in 778 (by decide +kernel) rfl
theorem mlM_20 : u_lay "CutSheetsModel" mFM 20 ∈ mm_T := mm_in 780 (by decide +kernel) rfl
theorem mlM : ∀ w ∈ u_ws "CutSheetsModel" mFM 21, w ∈ mm_T := by
  intro w hw
  obtain ⟨k, hk, rfl⟩ := List.mem_map.mp hw
  have hk := List.mem_range.mp hk
  match k, hk with
  | 0, _ => exact mlM_0
  | 1, _ => exact mlM_1
  | 2, _ => exact mlM_2
  | 3, _ => exact mlM_3
  | 4, _ => exact mlM_4
  | 5, _ => exact mlM_5
  | 6, _ => exact mlM_6
  | 7, _ => exact mlM_7
  | 8, _ => exact mlM_8
  | 9, _ => exact mlM_9
  | 10, _ => exact mlM_10
  | 11, _ => exact mlM_11
  | 12, _ => exact mlM_12
  | 13, _ => exact mlM_13
  | 14, _ => exact mlM_14
  | 15, _ => exact mlM_15
  | 16, _ => exact mlM_16
  | 17, _ => exact mlM_17
  | 18, _ => exact mlM_18
  | 19, _ => exact mlM_19
  | 20, _ => exact mlM_20
  | n + 21, h => exact absurd h (by omega)
theorem mm_lay (ci : Nat) (q : vw_C) (h : mm_cl[ci]? = some q) : ∀ w ∈ u_ws q.1 q.2.1 q.2.2, w ∈ mm_T := by
  match ci, h with
  | 0, h => cases h; exact mlG
  | 1, h => cases h; exact mlK
  | 2, h => cases h; exact mlR
  | 3, h => cases h; exact mlS
  | 4, h => cases h; exact mlC
  | 5, h => cases h; exact mlM
  | n + 6, h => exact absurd h (by simp [mm_cl])
end
section
/-! Rows over the heap, ends, throws. -/
section MMR
variable {Γ : mm_G} {l : Launch} {M : mm_M} {d : Nat} {D : mm_D} {pc : Nat} {ls : mm_L} {st : List Value} {h : mm_H}
theorem mm_ireturn {v : Int32} (hd : decode M.2.1 pc = .ok (.ireturn, 1)) (hM : M.2.2.2.1 = some .int) (hD : D (.inl (some (.int v))) h) : mm_W Γ l M d D pc ls [.int v] h := by
  intro p e R s m args below meth c u0 hC H locs cells slots la hr hl hq h1 h2
  refine mm_mono ?_ (W.iret (Qc := fun _ _ o t => o = .returned (some (.int v)) ∧ mm_R Γ t h t.heap) (free := fun q => mm_B Γ ≤ q) hC.x hC.b (by rw [hC.ret]; exact hM) (fun t ht hW => ⟨rfl, by rw [ht]; exact hr.moved hW.alike⟩) hq hd hC.lk)
  rintro t ⟨o, a1, a2, ⟨rfl, a3⟩, L, ⟨-, a4, a5⟩, a6⟩
  exact ⟨_, .inl (some (.int v)), h, L, cells, slots, a1, a2, rfl, hD, a3, a4, a5, a6, h1, h2⟩
theorem mm_zreturn {v : Int32} (hd : decode M.2.1 pc = .ok (.ireturn, 1)) (hM : M.2.2.2.1 = some .boolean) (hv : narrow .boolean (.int v) = .int v) (hD : D (.inl (some (.int v))) h) : mm_W Γ l M d D pc ls [.int v] h := by
  intro p e R s m args below meth c u0 hC H locs cells slots la hr hl hq h1 h2
  refine mm_mono ?_ (W.zret (ty := .boolean) (Qc := fun _ _ o t => o = .returned (some (.int v)) ∧ mm_R Γ t h t.heap) (free := fun q => mm_B Γ ≤ q) hC.x hC.b (by rw [hC.ret]; exact hM) hv (fun t ht hW => ⟨rfl, by rw [ht]; exact hr.moved hW.alike⟩) hq hd hC.lk)
  rintro t ⟨o, a1, a2, ⟨rfl, a3⟩, L, ⟨-, a4, a5⟩, a6⟩
  exact ⟨_, .inl (some (.int v)), h, L, cells, slots, a1, a2, rfl, hD, a3, a4, a5, a6, h1, h2⟩
theorem mm_return (hd : decode M.2.1 pc = .ok (.return_, 1)) (hM : M.2.2.2.1 = none) (hD : D (.inl none) h) : mm_W Γ l M d D pc ls [] h := by
  intro p e R s m args below meth c u0 hC H locs cells slots la hr hl hq h1 h2
  refine mm_mono ?_ (W.vret (Qc := fun _ _ o t => o = .returned none ∧ mm_R Γ t h t.heap) (free := fun q => mm_B Γ ≤ q) hC.x hC.b (by rw [hC.ret]; exact hM) (fun t ht hW => ⟨rfl, by rw [ht]; exact hr.moved hW.alike⟩) hq hd hC.lk)
  rintro t ⟨o, a1, a2, ⟨rfl, a3⟩, L, ⟨-, a4, a5⟩, a6⟩
  exact ⟨_, .inl none, h, L, cells, slots, a1, a2, rfl, hD, a3, a4, a5, a6, h1, h2⟩
theorem mm_areturn {a : Nat} {rt : FieldType} (hd : decode M.2.1 pc = .ok (.areturn, 1)) (hM : M.2.2.2.1 = some rt) (hrt : (∃ n, rt = .object n) ∨ ∃ t, rt = .array t) (hD : D (.inl (some (.ref a))) h) : mm_W Γ l M d D pc ls [.ref a] h := by
  intro p e R s m args below meth c u0 hC H locs cells slots la hr hl hq h1 h2
  refine mm_mono ?_ (W.aret (v := .ref a) (rt := rt) (Qc := fun _ _ o t => o = .returned (some (.ref a)) ∧ mm_R Γ t h t.heap) (free := fun q => mm_B Γ ≤ q) hC.x hC.b (by rw [hC.ret]; exact hM) hrt (Or.inr ⟨a, rfl⟩) (fun t ht hW => ⟨rfl, by rw [ht]; exact hr.moved hW.alike⟩) hq hd hC.lk)
  rintro t ⟨o, a1, a2, ⟨rfl, a3⟩, L, ⟨-, a4, a5⟩, a6⟩
  exact ⟨_, .inl (some (.ref a)), h, L, cells, slots, a1, a2, rfl, hD, a3, a4, a5, a6, h1, h2⟩
/-- locals may be forgotten -/
theorem mm_sub {ls' : mm_L} (hs : ∀ (i : Nat) (v : Value), ls'[i]? = some (some v) → ls[i]? = some (some v)) (k : mm_W Γ l M d D pc ls' st h) : mm_W Γ l M d D pc ls st h :=
  fun p e R s m args below meth c u0 hC H locs cells slots la hr hl hq h1 h2 => k p e R s m args below meth c u0 hC H locs cells slots la hr ⟨hl.1, hl.2.1, fun i v hv => hl.2.2 i v (hs i v hv)⟩ hq h1 h2
/-- what is weaker at the end -/
theorem mm_post {D1 : mm_D} (hs : ∀ o g, D1 o g → D o g) (k : mm_W Γ l M d D1 pc ls st h) : mm_W Γ l M d D pc ls st h := by
  intro p e R s m args below meth c u0 hC H locs cells slots la hr hl hq h1 h2
  refine mm_mono ?_ (k p e R s m args below meth c u0 hC H locs cells slots la hr hl hq h1 h2)
  rintro t ⟨o, o', h', L, k1, n1, a1, a2, a3, a4, a5⟩
  exact ⟨o, o', h', L, k1, n1, a1, a2, a3, hs _ _ a4, a5⟩
theorem mm_arr {Γ : mm_G} {U : State} (hK : mm_K Γ U) (k : Nat) (hk : k < 4) : ArrOfT U (Γ.2.1 k) (mm_aty k) := by
  match k, hk with
  | 0, _ => exact (hK.1.2 0 _ rfl).1
  | 1, _ => exact (hK.1.2 1 _ rfl).1
  | 2, _ => exact (hK.1.2 2 _ rfl).1
  | 3, _ => exact (hK.1.2 3 _ rfl).1
  | n + 4, h => exact absurd h (by omega)
theorem mm_ix {j n : Nat} (hj : j < n) (hn : n < 2 ^ 31) (cA : ClassId) (f : Nat → Value) : ¬ (nI j < 0 ∨ (arrV cA n f).slots.size ≤ (nI j).toNatClampNeg) := by rw [arrV_size]; exact nI_in hj hn
theorem mm_rd {j n : Nat} (hj : j < n) (hn : n < 2 ^ 31) (cA : ClassId) (f : Nat → Value) : (arrV cA n f).slots[(nI j).toNatClampNeg]? = some (f j) := by rw [nI_clamp (by omega), arrV_read _ _ hj]
/-- an int array is read -/
theorem mm_iaload {a n j : Nat} {f : Nat → Int32} {i : Int32} (hd : decode M.2.1 pc = .ok (.iaload, 1)) (ha : h.2.2 a = some (.inl (0, n, .inl f))) (hi : i = nI j) (hj : j < n) (hn : n < 2 ^ 31) (k : mm_W Γ l M d D (pc + 1) ls (.int (f j) :: st) h) : mm_W Γ l M d D pc ls (.int i :: .ref a :: st) h := by
  intro p e R s m args below meth c u0 hC H locs cells slots la hr hl hq h1 h2
  subst hi
  exact W.iald (v := .int (f j)) hC.x hC.b ((hr.2.1 a _ ha).2) (mm_arr hC.k 0 (by decide) n (fun j => .int (f j))) (fun q => by cases q) (mm_ix hj hn _ _) (mm_rd hj hn _ _) rfl rfl hd (k p e R s m args below meth c u0 hC H locs cells slots la hr hl hq h1 h2)
theorem mm_baload {a n j : Nat} {f : Nat → Int32} {i : Int32} (hd : decode M.2.1 pc = .ok (.baload, 1)) (ha : h.2.2 a = some (.inl (1, n, .inl f))) (hi : i = nI j) (hj : j < n) (hn : n < 2 ^ 31) (k : mm_W Γ l M d D (pc + 1) ls (.int (f j) :: st) h) : mm_W Γ l M d D pc ls (.int i :: .ref a :: st) h := by
  intro p e R s m args below meth c u0 hC H locs cells slots la hr hl hq h1 h2
  subst hi
  exact W.zald (v := .int (f j)) hC.x hC.b ((hr.2.1 a _ ha).2) (mm_arr hC.k 1 (by decide) n (fun j => .int (f j))) (fun q => by cases q) (mm_ix hj hn _ _) (mm_rd hj hn _ _) rfl rfl hd (k p e R s m args below meth c u0 hC H locs cells slots la hr hl hq h1 h2)
theorem mm_laload {a n j : Nat} {f : Nat → Int64} {i : Int32} (hd : decode M.2.1 pc = .ok (.laload, 1)) (ha : h.2.2 a = some (.inl (2, n, .inr (.inl f)))) (hi : i = nI j) (hj : j < n) (hn : n < 2 ^ 31) (k : mm_W Γ l M d D (pc + 1) ls (.long (f j) :: st) h) : mm_W Γ l M d D pc ls (.int i :: .ref a :: st) h := by
  intro p e R s m args below meth c u0 hC H locs cells slots la hr hl hq h1 h2
  subst hi
  exact W.lald (v := .long (f j)) hC.x hC.b ((hr.2.1 a _ ha).2) (mm_arr hC.k 2 (by decide) n (fun j => .long (f j))) (fun q => by cases q) (mm_ix hj hn _ _) (mm_rd hj hn _ _) rfl rfl hd (k p e R s m args below meth c u0 hC H locs cells slots la hr hl hq h1 h2)
theorem mm_aaload {a n j b : Nat} {f : Nat → Option Nat} {i : Int32} (hd : decode M.2.1 pc = .ok (.aaload, 1)) (ha : h.2.2 a = some (.inl (3, n, .inr (.inr (.inr (.inr f)))))) (hi : i = nI j) (hj : j < n) (hn : n < 2 ^ 31) (hf : f j = some b) (k : mm_W Γ l M d D (pc + 1) ls (.ref b :: st) h) : mm_W Γ l M d D pc ls (.int i :: .ref a :: st) h := by
  intro p e R s m args below meth c u0 hC H locs cells slots la hr hl hq h1 h2
  subst hi
  refine W.aald (v := va_rf (f j)) (ty := .object "CutSheets$Sheet") hC.x hC.b ((hr.2.1 a _ ha).2) (mm_arr hC.k 3 (by decide) n (fun j => va_rf (f j))) rfl (fun q => by cases q) (mm_ix hj hn _ _) (mm_rd hj hn _ _) rfl rfl hd ?_
  rw [hf]
  exact k p e R s m args below meth c u0 hC H locs cells slots la hr hl hq h1 h2
/-- the script is read -/
theorem mm_sload {j : Nat} {i : Int32} (hd : decode M.2.1 pc = .ok (.iaload, 1)) (hi : i = nI j) (hj : j < Γ.2.2.2.2.1) (hn : Γ.2.2.2.2.1 < 2 ^ 31) (k : mm_W Γ l M d D (pc + 1) ls (.int (Γ.2.2.2.2.2 j) :: st) h) : mm_W Γ l M d D pc ls (.int i :: .ref Γ.2.2.2.1 :: st) h := by
  intro p e R s m args below meth c u0 hC H locs cells slots la hr hl hq h1 h2
  subst hi
  obtain ⟨scr, s1, s2, s3, s4, s5⟩ := hr.2.2.1.2
  exact W.iald (v := .int (Γ.2.2.2.2.2 j)) hC.x hC.b s1 s2 s3 (by rw [s4]; exact nI_in hj hn) (by rw [nI_clamp (by omega)]; exact s5 j hj) rfl rfl hd (k p e R s m args below meth c u0 hC H locs cells slots la hr hl hq h1 h2)
theorem mm_slen {v : Int32} (hd : decode M.2.1 pc = .ok (.arraylength, 1)) (hv : nI Γ.2.2.2.2.1 = v) (k : mm_W Γ l M d D (pc + 1) ls (.int v :: st) h) : mm_W Γ l M d D pc ls (.ref Γ.2.2.2.1 :: st) h := by
  intro p e R s m args below meth c u0 hC H locs cells slots la hr hl hq h1 h2
  subst hv
  obtain ⟨scr, s1, s2, s3, s4, s5⟩ := hr.2.2.1.2
  exact W.alen (n := nI Γ.2.2.2.2.1) hC.x hC.b s1 s2 (by rw [s4] <;> rfl) rfl rfl hd (k p e R s m args below meth c u0 hC H locs cells slots la hr hl hq h1 h2)
theorem mm_alen {a t n : Nat} {x : _} {v : Int32} (hd : decode M.2.1 pc = .ok (.arraylength, 1)) (ha : h.2.2 a = some (.inl (t, n, x))) (ht : t < 4) (hv : nI n = v) (k : mm_W Γ l M d D (pc + 1) ls (.int v :: st) h) : mm_W Γ l M d D pc ls (.ref a :: st) h := by
  intro p e R s m args below meth c u0 hC H locs cells slots la hr hl hq h1 h2
  subst hv
  have kk := k p e R s m args below meth c u0 hC H locs cells slots la hr hl hq h1 h2
  have hc := (hr.2.1 a _ ha).2
  have hA := mm_arr hC.k t ht n
  match x, hc with
  | .inl f, hc => exact W.alen (n := nI n) hC.x hC.b hc (hA (fun j => .int (f j))) (by rw [vp_cell_i, arrV_size] <;> rfl) rfl rfl hd kk
  | .inr (.inl f), hc => exact W.alen (n := nI n) hC.x hC.b hc (hA (fun j => .long (f j))) (by rw [vp_cell_l, arrV_size] <;> rfl) rfl rfl hd kk
  | .inr (.inr (.inl f)), hc => exact W.alen (n := nI n) hC.x hC.b hc (hA (fun j => .float (f j))) (by rw [vp_cell_f, arrV_size] <;> rfl) rfl rfl hd kk
  | .inr (.inr (.inr (.inl f))), hc => exact W.alen (n := nI n) hC.x hC.b hc (hA (fun j => .double (f j))) (by rw [vp_cell_d, arrV_size] <;> rfl) rfl rfl hd kk
  | .inr (.inr (.inr (.inr f))), hc => exact W.alen (n := nI n) hC.x hC.b hc (hA (fun j => va_rf (f j))) (by rw [vp_cell_q, arrV_size] <;> rfl) rfl rfl hd kk
theorem mm_updi (cA : ClassId) (n j : Nat) (f : Nat → Int32) (x : Int32) : (vp_cell cA (n, .inl f)).setSlot j (.int x) = vp_cell cA (n, .inl (upd f j x)) := by
  rw [vp_cell_i, vp_cell_i, arrV_store]
  congr 1
  funext q
  by_cases hqj : q = j
  · subst hqj; simp [updV, upd]
  · simp [updV, upd, hqj]
theorem mm_updl (cA : ClassId) (n j : Nat) (f : Nat → Int64) (x : Int64) : (vp_cell cA (n, .inr (.inl f))).setSlot j (.long x) = vp_cell cA (n, .inr (.inl (vp_updL f j x))) := by
  rw [vp_cell_l, vp_cell_l, arrV_store]
  congr 1
  funext q
  by_cases hqj : q = j
  · subst hqj; simp [updV, vp_updL]
  · simp [updV, vp_updL, hqj]
theorem mm_updq (cA : ClassId) (n j v : Nat) (f : Nat → Option Nat) : (vp_cell cA (n, .inr (.inr (.inr (.inr f))))).setSlot j (.ref v) = vp_cell cA (n, .inr (.inr (.inr (.inr (va_up f j (some v)))))) := by
  rw [vp_cell_q, vp_cell_q, arrV_store]
  congr 1
  funext q
  by_cases hqj : q = j
  · subst hqj; simp [updV, va_up, va_rf]
  · simp [updV, va_up, hqj]
/-- an int array is written -/
theorem mm_iastore {a n j : Nat} {f : Nat → Int32} {i x : Int32} (hd : decode M.2.1 pc = .ok (.iastore, 1)) (ha : h.2.2 a = some (.inl (0, n, .inl f))) (hi : i = nI j) (hj : j < n) (hn : n < 2 ^ 31) (k : mm_W Γ l M d D (pc + 1) ls st (mm_up h a (.inl (0, n, .inl (upd f j x))))) : mm_W Γ l M d D pc ls (.int x :: .int i :: .ref a :: st) h := by
  intro p e R s m args below meth c u0 hC H locs cells slots la hr hl hq h1 h2
  subst hi
  refine W.iast hC.x hC.b ((hr.2.1 a _ ha).2) (mm_arr hC.k 0 (by decide) n (fun j => .int (f j))) (fun q => by cases q) (mm_ix hj hn _ _) rfl rfl hd fun H1 e1 z oq => ?_
  rw [nI_clamp (by omega)] at e1 ⊢
  refine k p e R s m args below meth c u0 hC H1 _ cells slots la (hr.set ha ?_ z oq) hl (t_lc hq (hr.2.1 a _ ha).1) h1 h2
  show H1[a]? = some (vp_cell _ _)
  rw [e1]
  exact congrArg some (mm_updi _ _ _ _ _)
theorem mm_bastore {a n j : Nat} {f : Nat → Int32} {i x : Int32} (hd : decode M.2.1 pc = .ok (.bastore, 1)) (ha : h.2.2 a = some (.inl (1, n, .inl f))) (hi : i = nI j) (hj : j < n) (hn : n < 2 ^ 31) (hx : narrow .boolean (.int x) = .int x) (k : mm_W Γ l M d D (pc + 1) ls st (mm_up h a (.inl (1, n, .inl (upd f j x))))) : mm_W Γ l M d D pc ls (.int x :: .int i :: .ref a :: st) h := by
  intro p e R s m args below meth c u0 hC H locs cells slots la hr hl hq h1 h2
  subst hi
  refine W.zast hC.x hC.b ((hr.2.1 a _ ha).2) (mm_arr hC.k 1 (by decide) n (fun j => .int (f j))) (fun q => by cases q) (mm_ix hj hn _ _) rfl rfl hd fun H1 e1 z oq => ?_
  rw [nI_clamp (by omega)] at e1 ⊢
  rw [hx] at e1
  refine k p e R s m args below meth c u0 hC H1 _ cells slots la (hr.set ha ?_ z oq) hl (t_lc hq (hr.2.1 a _ ha).1) h1 h2
  show H1[a]? = some (vp_cell _ _)
  rw [e1]
  exact congrArg some (mm_updi _ _ _ _ _)
theorem mm_lastore {a n j : Nat} {f : Nat → Int64} {i : Int32} {x : Int64} (hd : decode M.2.1 pc = .ok (.lastore, 1)) (ha : h.2.2 a = some (.inl (2, n, .inr (.inl f)))) (hi : i = nI j) (hj : j < n) (hn : n < 2 ^ 31) (k : mm_W Γ l M d D (pc + 1) ls st (mm_up h a (.inl (2, n, .inr (.inl (vp_updL f j x)))))) : mm_W Γ l M d D pc ls (.long x :: .int i :: .ref a :: st) h := by
  intro p e R s m args below meth c u0 hC H locs cells slots la hr hl hq h1 h2
  subst hi
  refine W.last hC.x hC.b ((hr.2.1 a _ ha).2) (mm_arr hC.k 2 (by decide) n (fun j => .long (f j))) (fun q => by cases q) (mm_ix hj hn _ _) rfl rfl hd fun H1 e1 z oq => ?_
  rw [nI_clamp (by omega)] at e1 ⊢
  refine k p e R s m args below meth c u0 hC H1 _ cells slots la (hr.set ha ?_ z oq) hl (t_lc hq (hr.2.1 a _ ha).1) h1 h2
  show H1[a]? = some (vp_cell _ _)
  rw [e1]
  exact congrArg some (mm_updl _ _ _ _ _)
/-- a sheet is put into the array of sheets -/
theorem mm_aastore {a n j v : Nat} {f : Nat → Option Nat} {vs : List Value} {i : Int32} (hd : decode M.2.1 pc = .ok (.aastore, 1)) (ha : h.2.2 a = some (.inl (3, n, .inr (.inr (.inr (.inr f)))))) (hb : h.2.2 v = some (.inr (3, vs))) (hi : i = nI j) (hj : j < n) (hn : n < 2 ^ 31) (k : mm_W Γ l M d D (pc + 1) ls st (mm_up h a (.inl (3, n, .inr (.inr (.inr (.inr (va_up f j (some v))))))))) : mm_W Γ l M d D pc ls (.ref v :: .int i :: .ref a :: st) h := by
  intro p e R s m args below meth c u0 hC H locs cells slots la hr hl hq h1 h2
  subst hi
  obtain ⟨r', hr', cellV, g1, g2, g3, -⟩ := (hr.2.1 v _ hb).2
  have hcls := (hC.k.1.1 3 _ rfl).2
  obtain ⟨kA, comp, k1, k2, k3, -⟩ := (hC.k.1.2 3 _ rfl).2
  have hcomp : comp = Γ.1.1 3 := Option.some.inj (k3.symm.trans hcls.1)
  subst hcomp
  obtain ⟨kC, hkC, hkd⟩ := hcls.2
  have hasg : s.vm.assignable (Γ.1.1 3) (Γ.1.1 3) = true := va_assign ⟨hcls.1, kC, hkC, hkd⟩
  refine W.aast hC.x hC.b ((hr.2.1 a _ ha).2) (fun q h => by cases h) (fun h => by cases h) k1 k2 rfl hkC ⟨nI_pos (by omega), by show _ < (arrV _ _ _).slots.size; rw [arrV_size, nI_clamp (by omega)]; exact hj⟩ g1 (fun q h => by rw [g3] at h; cases h) (by rw [g2]; exact hkC) (by rw [g2]; exact hasg) rfl rfl hd fun H1 e1 z oq => ?_
  rw [nI_clamp (by omega)] at e1 ⊢
  refine k p e R s m args below meth c u0 hC H1 _ cells slots la (hr.set ha ?_ z oq) hl (t_lc hq (hr.2.1 a _ ha).1) h1 h2
  show H1[a]? = some (vp_cell _ _)
  rw [e1]
  exact congrArg some (mm_updq _ _ _ _ _)
/-! fields -/
def mm_FL (own : String) (idx ci k : Nat) : Prop := ∃ q : vw_C, mm_cl[ci]? = some q ∧ k < q.2.2 ∧ (Cond.fieldLink own idx (q.2.1 k).1 (q.2.1 k).2.1 (q.2.1 k).2.2.1 ∈ mm_T ∨ (own, idx, (q.2.1 k).1, (q.2.1 k).2.1, (q.2.1 k).2.2.1) ∈ mm_NF)
theorem mm_getf {a idx ci k : Nat} {fs : List Value} {v : Value} (hd : decode M.2.1 pc = .ok (.getfield idx, 3)) (hL : mm_FL M.1.cls idx ci k) (ha : h.2.2 a = some (.inr (ci, fs))) (hv : fs[k]? = some v) (kk : mm_W Γ l M d D (pc + 3) ls (v :: st) h) : mm_W Γ l M d D pc ls (.ref a :: st) h := by
  intro p e R s m args below meth c u0 hC H locs cells slots la hr hl hq h1 h2
  obtain ⟨q, hq1, hk, hlk⟩ := hL
  obtain ⟨r, g1, cell, c1, c2, c3, c4⟩ := (hr.2.1 a _ ha).2
  have hrq : r = q := Option.some.inj (g1.symm.trans hq1)
  subst hrq
  obtain ⟨hS, hfc, kC, hkC, hkind⟩ := hC.k.1.1 ci _ hq1
  obtain ⟨cf, kf, fi, f, hi, hsl⟩ := hS k hk
  have hst := (u_facts hfc hkC (u_lays hC.w (mm_lay ci _ hq1) hk) hi).1
  have hvv : cell.slots[f.slot]? = some v := by
    rw [hsl, c4 k hk]
    simp [vp_V, hv]
  rcases hlk with hlk | hlk
  · exact W.getf hC.x hC.b hC.own (hC.w _ hlk) hi hst c1 (by rw [c3]; exact fun h => by cases h) hvv rfl rfl hd (kk p e R s m args below meth c u0 hC H locs cells slots la hr hl hq h1 h2)
  · exact va_Wgetf hC.x hC.b hC.own ((hC.k.2.1 _ hlk).use rfl) hi hst c1 (by rw [c3]; exact fun h => by cases h) hvv rfl rfl hd (kk p e R s m args below meth c u0 hC H locs cells slots la hr hl hq h1 h2)
theorem mm_apart {Γ : mm_G} {s : State} {args : Array Value} {ci : Nat} {q : vw_C} (hw : ∀ w ∈ mm_T, w.before args s = true) (hK : mm_K Γ s) (hq : mm_cl[ci]? = some q) : ∀ x y, x < q.2.2 → y < q.2.2 → x ≠ y → Γ.1.2 ci x ≠ Γ.1.2 ci y :=
  va_apart (own := "") (D := Γ.1) (cl := mm_cl) (tys := mm_tys Γ) (C := q.1) (T := q.2.1) hw (mm_lay ci q hq) (mm_ty ci) (mm_tyok ci q hq) (mm_nmok ci q hq) hK.1 hq
theorem mm_putf {a idx ci k : Nat} {fs : List Value} {v : Value} {ty : FieldType} (hd : decode M.2.1 pc = .ok (.putfield idx, 3)) (hL : mm_FL M.1.cls idx ci k) (hfin : (mm_fld ci k).2.2.2 = false) (hty : mm_ty ci k = ty) (hn : narrow ty v = v) (hf : fits ty v = true) (ha : h.2.2 a = some (.inr (ci, fs))) (hv : k < fs.length) (kk : mm_W Γ l M d D (pc + 3) ls st (mm_up h a (.inr (ci, fs.set k v)))) : mm_W Γ l M d D pc ls (v :: .ref a :: st) h := by
  intro p e R s m args below meth c u0 hC H locs cells slots la hr hl hq h1 h2
  obtain ⟨q, hq1, hk, hlk⟩ := hL
  obtain ⟨r, g1, cell, c1, c2, c3, c4⟩ := (hr.2.1 a _ ha).2
  have hrq : r = q := Option.some.inj (g1.symm.trans hq1)
  subst hrq
  have hap := mm_apart hC.w hC.k hq1
  obtain ⟨hS, hfc, kC, hkC, hkind⟩ := hC.k.1.1 ci _ hq1
  obtain ⟨cf, kf, fi, f, hi, hsl⟩ := hS k hk
  have hlay := hC.w _ (mm_lay ci _ hq1 _ (u_in_lay hk))
  unfold u_lay at hlay
  rw [mm_fld_eq ci _ hq1] at hfin
  rw [if_neg (by rw [hfin]; decide)] at hlay
  have hst := (u_facts hfc hkC (u_lays hC.w (mm_lay ci _ hq1) hk) hi).1
  have h6 := u_store hfc hkC hkind hlay hi (by rw [mm_tyok ci _ hq1 k hk, hty]) hn hf
  have fin : ∀ H' : Heap, H'[a]? = some (cell.setSlot f.slot v) → H'.size = H.size → (∀ q, q ≠ a → H'[q]? = H[q]?) → W p l e R s m args below meth c H' (locs ++ [⟨a, f.slot⟩]) cells slots (mm_Q Γ below D s u0) (F0 m (pc + 3) la st) := by
    intro H' e1 e2 e3
    refine kk p e R s m args below meth c u0 hC H' _ cells slots la (hr.set ha ?_ e2 e3) hl (t_lc hq (hr.2.1 a _ ha).1) h1 h2
    rw [hsl] at e1
    exact ⟨_, hq1, t_OB.to (V := updV (vp_V fs) k v) ⟨_, e1, c2, c3, t_set c4 hap hk v⟩ (fun j _ => vp_updV_set hv v j)⟩
  rcases hlk with hlk | hlk
  · exact W.putK hC.x hC.b (f := f) ⟨hC.own, hC.w _ hlk, ⟨_, _, _, hi⟩, hst⟩ (by rw [c2]; exact h6) c1 c3 (by rw [hsl]; exact k2_hasslot (c4 k hk)) rfl rfl hd fin
  · exact va_WputK hC.x hC.b (f := f) hC.own ((hC.k.2.1 _ hlk).use rfl) hi hst (by rw [c2]; exact h6) c1 c3 (by rw [hsl]; exact k2_hasslot (c4 k hk)) rfl rfl hd fin
/-- a final field, in its constructor -/
theorem mm_putF {a idx ci k : Nat} {fs : List Value} {v : Value} {ty : FieldType} (hd : decode M.2.1 pc = .ok (.putfield idx, 3)) (hL : mm_FL M.1.cls idx ci k) (hfin : (mm_fld ci k).2.2.2 = true) (hdecl : (mm_fld ci k).1 = M.1.cls) (hin : M.1.name = "<init>") (hty : mm_ty ci k = ty) (hn : narrow ty v = v) (hf : fits ty v = true) (ha : h.2.2 a = some (.inr (ci, fs))) (hv : k < fs.length) (hnest : ∀ x, (M.1.cls, idx, x) ∉ mm_NF) (kk : mm_W Γ l M d D (pc + 3) ls st (mm_up h a (.inr (ci, fs.set k v)))) : mm_W Γ l M d D pc ls (v :: .ref a :: st) h := by
  intro p e R s m args below meth c u0 hC H locs cells slots la hr hl hq h1 h2
  obtain ⟨q, hq1, hk, hlk⟩ := hL
  obtain ⟨r, g1, cell, c1, c2, c3, c4⟩ := (hr.2.1 a _ ha).2
  have hrq : r = q := Option.some.inj (g1.symm.trans hq1)
  subst hrq
  have hap := mm_apart hC.w hC.k hq1
  obtain ⟨hS, hfc, kC, hkC, hkind⟩ := hC.k.1.1 ci _ hq1
  obtain ⟨cf, kf, fi, f, hi, hsl⟩ := hS k hk
  have hlay := hC.w _ (mm_lay ci _ hq1 _ (u_in_lay hk))
  unfold u_lay at hlay
  rw [mm_fld_eq ci _ hq1] at hfin hdecl
  rw [if_pos hfin] at hlay
  have hst := (u_facts hfc hkC (u_lays hC.w (mm_lay ci _ hq1) hk) hi).1
  have hcf : m.cls = cf := by
    obtain ⟨_, _, c', _, _, _, -, -, hf', -, -, -, hown2, -⟩ := Cond.laysFinal_spec hlay
    have e1 : c' = cf := by have := hi.symm.trans hf'; simp at this; exact this.1.symm
    rw [hdecl] at hown2
    rw [← e1]; exact Option.some.inj (hC.own.symm.trans hown2)
  have h6 := u_fits hfc hkC hkind (Or.inr hlay) hi (by rw [mm_tyok ci _ hq1 k hk, hty]) hn hf
  rcases hlk with hlk | hlk
  · refine W.putFinK hC.x hC.b hC.own (hC.w _ hlk) hi hst hcf (by rw [hC.nm]; exact hin) (by rw [c2]; exact h6) c1 c3 (by rw [hsl]; exact k2_hasslot (c4 k hk)) rfl rfl hd fun H' e1 e2 e3 => ?_
    refine kk p e R s m args below meth c u0 hC H' _ cells slots la (hr.set ha ?_ e2 e3) hl (t_lc hq (hr.2.1 a _ ha).1) h1 h2
    rw [hsl] at e1
    exact ⟨_, hq1, t_OB.to (V := updV (vp_V fs) k v) ⟨_, e1, c2, c3, t_set c4 hap hk v⟩ (fun j _ => vp_updV_set hv v j)⟩
  · exact absurd hlk (hnest _)
/-! new -/
def mm_CLk (own : String) (idx ci : Nat) : Prop := ∃ q : vw_C, mm_cl[ci]? = some q ∧ Cond.classLink own idx q.1 ∈ mm_T ∧ Cond.instantiable q.1 q.2.2 ∈ mm_T ∧ Cond.initialized q.1 ∈ mm_T
def mm_num (ci : Nat) : Nat := match mm_cl[ci]? with
  | some q => q.2.2
  | none => 0
def mm_dfl (ci : Nat) : List Value := (List.range (mm_num ci)).map fun k => defaultValue (mm_ty ci k)
theorem mm_new {idx ci n : Nat} {fs : List Value} (hd : decode M.2.1 pc = .ok (.new idx, 3)) (hL : mm_CLk M.1.cls idx ci) (hn : mm_num ci = n) (hfs : mm_dfl ci = fs) (hm : h.1 + 1 ≤ mm_Cm Γ) (hs : h.2.1 + n ≤ mm_Sm Γ) (kk : mm_W Γ l M d D (pc + 3) ls (.ref h.1 :: st) (mm_add h n (.inr (ci, fs)))) : mm_W Γ l M d D pc ls st h := by
  intro p e R s m args below meth c u0 hC H locs cells slots la hr hl hq h1 h2
  obtain ⟨q, hq1, w1, w2, w3⟩ := hL
  have hnq : n = q.2.2 := by rw [← hn]; unfold mm_num; rw [hq1]
  subst hnq
  have hKn := hC.k.1.1 ci _ hq1
  obtain ⟨hB, hCm, hSm, -⟩ := hC.rm
  refine W.newcK hC.x hC.b hC.own (hC.w _ w1) (hC.w _ w2) (hC.w _ w3) rfl hd (by omega) (by omega) hKn.2.1 hr.1.1 fun H1 kC hkC e1 z1 o1 => ?_
  refine kk p e R s m args below meth c u0 hC H1 locs (cells + 1) (slots + q.2.2) la (hr.new hm hs ⟨q, hq1, ?_⟩ z1 o1) hl hq (by show h.1 + 1 = _; omega) (by show h.2.1 + q.2.2 = _; omega)
  refine (u_born (mm_ty ci) hC.w (mm_lay ci _ hq1) hKn hkC e1 (mm_tyok ci _ hq1)).to fun j hj => ?_
  rw [← hfs]
  have hj' : j < mm_num ci := by rw [hn]; exact hj
  simp [vp_V, mm_dfl, List.getD_eq_getElem?_getD, List.getElem?_map, List.getElem?_range hj']
/-- a new array of ints, of booleans, of longs -/
theorem mm_newarr {at' : ArrayType} {t N : Nat} {x : _} {i : Int32} (hd : decode M.2.1 pc = .ok (.newarray at', 2)) (hty : newarray.typeOf at' = mm_aty t) (ht : t < 3) (hW : Cond.arrayClass (mm_aty t) ∈ mm_T) (hx : ∀ cA : ClassId, vp_cell cA (N, x) = arrV cA N (fun _ => defaultValue (mm_aty t))) (hi : i = nI N) (hN : N < 1000000) (hb : componentBytes (mm_aty t) ≤ 8) (hm : h.1 + 1 ≤ mm_Cm Γ) (hs : h.2.1 + N ≤ mm_Sm Γ) (kk : mm_W Γ l M d D (pc + 2) ls (.ref h.1 :: st) (mm_add h N (.inl (t, N, x)))) : mm_W Γ l M d D pc ls (.int i :: st) h := by
  intro p e R s m args below meth c u0 hC H locs cells slots la hr hl hq h1 h2
  subst hi
  obtain ⟨hB, hCm, hSm, -⟩ := hC.rm
  have hbytes : N * componentBytes (newarray.typeOf at') ≤ 536870912 := by
    rw [hty]
    calc N * componentBytes (mm_aty t) ≤ 1000000 * 8 := Nat.mul_le_mul (by omega) hb
      _ ≤ 536870912 := by decide
  refine va_newaK hC.x hC.b (by rw [hty]; exact hC.w _ hW) rfl hd rfl (nI_pos (by omega)) (nI_clamp (by omega)) hbytes (by omega) (by omega) hr.1.1 fun H1 cA e1 z1 o1 hA hF => ?_
  have hcA : cA = Γ.2.1 t := by
    have hR : va_RA s (Γ.2.1 t) (mm_aty t) := by
      match t, ht with
      | 0, _ => exact (hC.k.1.2 0 _ rfl).2
      | 1, _ => exact (hC.k.1.2 1 _ rfl).2
      | 2, _ => exact (hC.k.1.2 2 _ rfl).2
      | n + 3, h => exact absurd h (by omega)
    rw [hty] at hF
    match t, ht, hR, hF with
    | 0, _, hR, hF => exact Option.some.inj (hF.symm.trans hR)
    | 1, _, hR, hF => exact Option.some.inj (hF.symm.trans hR)
    | 2, _, hR, hF => exact Option.some.inj (hF.symm.trans hR)
    | n + 3, h, _, _ => exact absurd h (by omega)
  subst hcA
  refine kk p e R s m args below meth c u0 hC H1 locs (cells + 1) (slots + N) la (hr.new hm hs ?_ z1 o1) hl hq (by show h.1 + 1 = _; omega) (by show h.2.1 + N = _; omega)
  show H1[h.1]? = some (vp_cell _ _)
  rw [hx, e1, hty]
/-- a new array of sheets -/
theorem mm_anew {idx N : Nat} {i : Int32} (hd : decode M.2.1 pc = .ok (.anewarray idx, 3)) (hL : Cond.classLink M.1.cls idx "CutSheets$Sheet" ∈ mm_T) (hO : Cond.arrayOver (.object "CutSheets$Sheet") ∈ mm_T) (hi : i = nI N) (hN : N < 1000000) (hm : h.1 + 1 ≤ mm_Cm Γ) (hs : h.2.1 + N ≤ mm_Sm Γ) (kk : mm_W Γ l M d D (pc + 3) ls (.ref h.1 :: st) (mm_add h N (.inl (3, N, .inr (.inr (.inr (.inr (fun _ => none)))))))) : mm_W Γ l M d D pc ls (.int i :: st) h := by
  intro p e R s m args below meth c u0 hC H locs cells slots la hr hl hq h1 h2
  subst hi
  obtain ⟨hB, hCm, hSm, -⟩ := hC.rm
  have hcl : (nI N).toNatClampNeg = N := nI_clamp (by omega)
  refine W.anew hC.x hC.b hC.own (hC.w _ hL) (hC.w _ hO) rfl hd rfl (nI_pos (by omega)) (by rw [hcl]; omega) (by omega) (by rw [hcl]; omega) fun cA kA comp f1 f2 f3 f4 => ?_
  obtain ⟨kA', comp', k1, k2, k3, k4⟩ := (hC.k.1.2 3 _ rfl).2
  have hcA : cA = Γ.2.1 3 := Option.some.inj (f1.symm.trans k4)
  subst hcA
  rw [hcl, hr.1.1]
  refine kk p e R s m args below meth c u0 hC _ locs (cells + 1) (slots + N) la (hr.new hm hs ?_ ?_ ?_) hl hq (by show h.1 + 1 = _; omega) (by show h.2.1 + N = _; omega)
  · show _ = some (vp_cell _ _)
    rw [vp_cell_q]
    show _ = some (arrV _ _ (fun _ => Value.null))
    rw [← arrV_new, ← hr.1.1]
    simp
  · simp [hr.1.1]
  · intro q hq
    rw [Array.getElem?_push, if_neg (by rw [hr.1.1]; omega)]
theorem mm_objInit {idx a : Nat} (hd : decode M.2.1 pc = .ok (.invokespecial idx, 3)) (hL : Cond.methodLink M.1.cls idx Lib.objectInit ∈ mm_T) (hI : Cond.instanceMethod Lib.objectInit ∈ mm_T) (hc : Cond.code Lib.objectInit ⟨#[0xb1]⟩ 1 none ∈ mm_T) (hw : (st.map fun v => v.category).sum ≤ 60) (kk : mm_W Γ l M d D (pc + 3) ls st h) : mm_W Γ l M d D pc ls (.ref a :: st) h := by
  intro p e R s m args below meth c u0 hC H locs cells slots la hr hl hq h1 h2
  obtain ⟨hB, hCm, hSm, hfr, hlo, -⟩ := hC.rm
  exact W.objInit hC.x hC.b hC.own (hC.w _ hL) (hC.w _ hI) (hC.w _ hc) rfl (by show la.size = _; rw [hC.ml]; exact hl.1) rfl hd (by omega) (by show 2 * 0 + _ + 12 ≤ _; omega) (kk p e R s m args below meth c u0 hC H locs cells slots la hr hl hq h1 h2)
end MMR
end
section
/-! System.arraycopy, throws, exceptions under way. -/
section MMcopy
variable {Γ : mm_G} {l : Launch} {M : mm_M} {d : Nat} {D : mm_D} {pc : Nat} {ls : mm_L} {st : List Value} {h : mm_H}
set_option maxHeartbeats 1000000 in
theorem mm_copyi {idx a0 a n0 n1 N : Nat} {f g : Nat → Int32} (hd : decode M.2.1 pc = .ok (.invokestatic idx, 3)) (hL : Cond.methodLink M.1.cls idx arraycopyName ∈ mm_T) (hnat : Cond.native arraycopyName ∈ mm_T) (hsta : Cond.static arraycopyName ∈ mm_T) (hini : Cond.initialized "java/lang/System" ∈ mm_T)
    (ha0 : h.2.2 a0 = some (.inl (0, n0, .inl f))) (ha1 : h.2.2 a = some (.inl (0, n1, .inl g))) {n : Int32} (hn : n = nI N) (hN : N < 2 ^ 31) (h4 : N ≤ n0) (h5 : N ≤ n1) (hwt : (st.map fun v => v.category).sum + (nativeFrameWords "java/lang/System" "arraycopy" 5 + 11) ≤ 400)
    (kk : mm_W Γ l M d D (pc + 3) ls st (mm_up h a (.inl (0, n1, .inl (va_cpy f g 0 0 N))))) : mm_W Γ l M d D pc ls (.int n :: .int 0 :: .ref a :: .int 0 :: .ref a0 :: st) h := by
  intro p e R s m args below meth c u0 hC H locs cells slots la hr hl hq z1 z2 T hT X
  subst hn
  obtain ⟨hB, hCm, hSm, hfr, hlo, -⟩ := hC.rm
  have hcl : (nI N).toNatClampNeg = N := nI_clamp hN
  have hc0 : H[a0]? = some (vp_cell (Γ.2.1 0) (n0, .inl f)) := (hr.2.1 a0 _ ha0).2
  have hc1 : H[a]? = some (vp_cell (Γ.2.1 0) (n1, .inl g)) := (hr.2.1 a _ ha1).2
  have hA : ArrOfT s (Γ.2.1 0) .int := mm_arr hC.k 0 (by decide)
  obtain ⟨-, k0, hk0, cm0, hkk0⟩ := hA n0 (fun j => .int (f j))
  obtain ⟨-, k1, hk1, cm1, hkk1⟩ := hA n1 (fun j => .int (g j))
  have i0 : (0 : Int32).toInt = 0 := by decide
  have iN : (nI N).toInt = (N : Int) := nI_toInt hN
  obtain ⟨vm', X', step⟩ := X.arraycopy hC.x hC.own (hC.w _ hL) (hC.w _ hnat) (hC.w _ hsta) (hC.w _ hini) (src := a0) (dst := a) (cs := vp_cell (Γ.2.1 0) (n0, .inl f)) (cd := vp_cell (Γ.2.1 0) (n1, .inl g)) (srcPos := 0) (destPos := 0) (n := nI N) (by rw [hT]; exact hc0) (by rw [hT]; exact hc1)
    (fun _ h => by cases h) (fun _ h => by cases h) (fun h => by cases h) (fun h => by cases h) hk0 hk1 hkk0 hkk1 (by simp [refKind]) (by decide) (by decide) (nI_pos hN)
    (by rw [i0, iN]; show ¬ _ > ((arrV _ n0 (fun j => .int (f j))).slots.size : Int); rw [arrV_size]; omega)
    (by rw [i0, iN]; show ¬ _ > ((arrV _ n1 (fun j => .int (g j))).slots.size : Int); rw [arrV_size]; omega)
    (fun vm₁ _ i hi => by
      rw [hcl] at hi
      have e : (vp_cell (Γ.2.1 0) (n0, .inl f)).slots.getD ((0 : Int32).toNatClampNeg + i) .null = .int (f ((0 : Int32).toNatClampNeg + i)) := by
        show (arrV _ n0 (fun j => .int (f j))).slots.getD _ _ = _
        have hz : (0 : Int32).toNatClampNeg = 0 := by decide
        rw [hz, Array.getD_eq_getD_getElem?, arrV_read _ _ (by omega)]
        rfl
      refine ⟨?_, ?_⟩
      · rw [e]
        rfl
      · rw [e]
        exact trivial)
    (g := F0 m pc la (.int (nI N) :: .int 0 :: .ref a :: .int 0 :: .ref a0 :: st)) rfl (by show la.size = _; rw [hC.ml]; exact hl.1) (rest := st) rfl (by rw [hC.b]; exact hd) (by omega) (by show 2 * 0 + _ + _ ≤ _; omega)
  have hz0 : (0 : Int32).toNatClampNeg = 0 := by decide
  have e1 : copied (vp_cell (Γ.2.1 0) (n0, .inl f)) (vp_cell (Γ.2.1 0) (n1, .inl g)) 0 0 (nI N) = vp_cell (Γ.2.1 0) (n1, .inl (va_cpy f g 0 0 N)) := by
    have h9 := va_copied (fun z => Value.int z) (Γ.2.1 0) (Γ.2.1 0) (n0 := n0) (n1 := n1) (sp := 0) (dp := 0) (n := N) f g (by omega)
    show (arrV (Γ.2.1 0) n1 (fun j => .int (g j))).storeRun (0 : Int32).toNatClampNeg ((arrV (Γ.2.1 0) n0 (fun j => .int (f j))).stretch (0 : Int32).toNatClampNeg (nI N).toNatClampNeg) = _
    rw [hcl, hz0]
    exact h9
  rw [e1] at X' step
  have hla : a < H.size := (Array.getElem?_eq_some_iff.mp hc1).1
  have hheap : ((T.setVm vm').setCell a (vp_cell (Γ.2.1 0) (n1, .inl (va_cpy f g 0 0 N)))).heap = H.setIfInBounds a (vp_cell (Γ.2.1 0) (n1, .inl (va_cpy f g 0 0 N))) := by rw [← hT]; rfl
  have oq : ∀ q : Nat, q ≠ a → (H.setIfInBounds a (vp_cell (Γ.2.1 0) (n1, .inl (va_cpy f g 0 0 N))))[q]? = H[q]? := fun q hq => by simp [Array.getElem?_setIfInBounds, Ne.symm hq]
  obtain ⟨t, a1, b1⟩ := kk p e R s m args below meth c u0 hC _ _ cells slots la (hr.set ha1 (show (H.setIfInBounds a _)[a]? = some _ by simp [Array.getElem?_setIfInBounds, hla]) (by simp) oq) hl (fun q hh => by
      rcases List.mem_append.mp hh with hh | hh
      · exact hq q hh
      · obtain ⟨z, -, hz⟩ := List.mem_map.mp hh
        rw [← hz]
        exact (hr.2.1 a _ ha1).1) z1 z2 _ hheap X'
  exact ⟨t, step t a1, b1⟩
/-- an exception leaves a method with no handlers over this place -/
theorem mm_leave {k : Nat} (hout : ∀ x ∈ M.2.2.2.2, ¬ (x.1 ≤ pc ∧ pc < x.2.1)) (hD : D (.inr k) h) : mm_Th Γ l M d D pc ls k h := by
  intro p e R s m args below meth c u0 hC H locs cells slots la st x ce hr hl hq h1 h2 hx hxv hxc T hT X
  have ho : ∀ z ∈ c.exceptionTable.toList, covers z pc = false := by
    intro z hz
    have hm : (z.startPc, z.endPc, z.handlerPc, z.catchType) ∈ M.2.2.2.2 := by
      rw [← hC.tab]
      exact List.mem_map.mpr ⟨z, hz, rfl⟩
    have := hout _ hm
    simp only [covers]
    simp only [Bool.and_eq_false_iff, decide_eq_false_iff_not]
    by_cases h9 : z.startPc ≤ pc
    · exact Or.inr fun h8 => this ⟨h9, h8⟩
    · exact Or.inl h9
  obtain ⟨st1, hrun, hend, hW, hsm⟩ := X.leaveThrown x (g := F0 m pc la st) rfl rfl rfl ho hC.lk
  refine ⟨_, st1, .threw x, .inr k, h, locs, cells, slots, hrun, hend, ⟨x, ce, rfl, ?_, hxv, hxc⟩, hD, ?_, hW, hsm, hq, h1, h2⟩
  · show T.heap[x]? = some ce
    rw [hT]; exact hx
  · show mm_R Γ _ h T.heap
    rw [hT]; exact hr.moved hW.alike
end MMcopy
section MMthrow
variable {Γ : mm_G} {l : Launch} {M : mm_M} {d : Nat} {D : mm_D} {pc : Nat} {ls : mm_L} {st : List Value} {h : mm_H}
/-- the words of 'throw new E()' at a place of a method -/
def mm_TW (own : String) (ik ic k : Nat) (names : List String) : Prop := Bundle.fit (mm_exc k) = true ∧ (∀ n ∈ names, Bundle.fit n = true) ∧ names.length ≤ 8 ∧ Cond.classLink own ik (mm_exc k) ∈ mm_T ∧ Cond.initialized (mm_exc k) ∈ mm_T ∧ ∀ w ∈ vx_at0 own ic (mm_exc k) names, w ∈ mm_T
set_option maxHeartbeats 1000000 in
theorem mm_throw {ik ic k : Nat} {names : List String} (d0 : decode M.2.1 pc = .ok (.new ik, 3)) (d3 : decode M.2.1 (pc + 3) = .ok (.dup, 1)) (d4 : decode M.2.1 (pc + 4) = .ok (.invokespecial ic, 3)) (d7 : decode M.2.1 (pc + 7) = .ok (.athrow, 1)) (hT : mm_TW M.1.cls ik ic k names)
    (hout : M.2.2.2.2 = []) (hwt : (st.map fun v => v.category).sum ≤ 100) (hm : h.1 + 1 ≤ mm_Cm Γ) (hs : h.2.1 + 6 ≤ mm_Sm Γ) (hD : D (.inr k) (mm_exn h)) : mm_W Γ l M d D pc ls st h := by
  intro p e R s m args below meth c u0 hC H locs cells slots la hr hl hq h1 h2
  obtain ⟨t1, t2, t3, t4, t5, t6⟩ := hT
  obtain ⟨hB, hCm, hSm, hfr, hlo, htr⟩ := hC.rm
  have hsz := hr.1.1
  have hemp : c.exceptionTable.toList = [] := by
    have := hC.tab
    rw [hout] at this
    exact List.map_eq_nil_iff.mp this
  intro T hT X
  have htr' : e.platform.stackTraces = false := (show e.platform.stackTraces = l.stackTraces by rw [X.admits.platform]).trans htr
  have Y := vx_rebase X (R' := { frames := R.frames, locals := R.locals, cells := 1, slots := 6 }) (Nat.le_refl _) (Nat.le_refl _) (by show cells + 1 ≤ R.cells; omega) (by show slots + 6 ≤ R.slots; omega)
  obtain ⟨s', hA⟩ : ∃ z, z = (T.setVm s.vm).setFrames (.invoking m args :: below) := ⟨_, rfl⟩
  rw [← hA] at Y
  have hvm : s'.vm = s.vm := by rw [hA]; rfl
  have hhp : s'.heap = H := by rw [hA]; exact hT
  have hW0 : s.WarmedH s'.vm := by rw [hvm]; exact State.WarmedH.refl s
  have mv : ∀ w ∈ mm_T, w.before args s' = true := fun w hw => word_at hW0 (good_of_word (mm_T.good hw)) (hC.w w hw)
  have hU' : vx_Zq Bundle.tN "UNASSIGNED_STACK" Bundle.steD (fun q => mm_B Γ ≤ q) s' s'.heap := by rw [hhp]; exact vx_Zq.moved hW0.alike hr.2.2.2.1
  have hN' : vx_Zq Bundle.tN "SUPPRESSED_SENTINEL" Bundle.listD (fun q => mm_B Γ ≤ q) s' s'.heap := by rw [hhp]; exact vx_Zq.moved hW0.alike hr.2.2.2.2
  have hat : ∀ w ∈ Bundle.ownAtoms0 M.1.cls ic (mm_exc k) names, w.before args s' = true := vx_own (fun w hw => mv w (t6 w hw)) (vx_isRefq hU'.1) (vx_isRefq hN'.1) hU'.2.word hN'.2.word
  have hown' : s'.vm.findClass M.1.cls = some m.cls := by rw [hvm]; exact hC.own
  have hins : (Cond.instantiable (mm_exc k) 6).before args s' = true := hat _ (by simp [Bundle.ownAtoms0])
  obtain ⟨vm₁, cX, kX, hfX, hkX, -, -, X₁, st1⟩ := Y.newCold hC.x (own := M.1.cls) (C := mm_exc k) (index := ik) (n := 6) hown' (mv _ t4) hins (mv _ t5)
    (g := F0 m pc la st) rfl (by rw [hC.b]; exact d0) (Nat.le_refl _) (Nat.le_refl _)
  generalize hT1 : (T.setVm vm₁).pushCell { cls := cX, slots := kX.instanceTypes.map defaultValue, vm := .none } = T1 at X₁ st1
  have hcat : (Value.ref T.heap.size).category = 1 := rfl
  have hcellA : T1.heap[T.heap.size]? = some (freshCell cX kX) := by rw [← hT1]; exact State.heap_pushCell_size _ _
  have d3' : decode c.code (pc + 3) = .ok (.dup, 1) := by rw [hC.b]; exact d3
  obtain ⟨U, hsteps, hrun, hend, hW, hsame, ce, hce, hO⟩ := X₁.ctorThrow0 hC.x htr' (own := M.1.cls) (cls := mm_exc k) (names := names) (ic := ic) hown' t1 t2 hat (fun x hx => nomatch hx) hfX hkX hcellA (by rw [hhp, hT]; exact Nat.le_refl _)
    (g := { method := m, pc := pc + 4, locals := la, stack := .ref T.heap.size :: .ref T.heap.size :: st, locked := none }) rfl (by show la.size = _; rw [hC.ml]; exact hl.1) rfl rfl (rest := st) rfl
    (by rw [hC.b]; exact d4) (by rw [hC.b]; exact d7) (by rw [hemp]; exact fun x hx => nomatch hx) (by show names.length + 3 < R.frames; omega) (by show 2 * 0 + _ + _ ≤ R.locals; simp only [List.map_cons, List.sum_cons, hcat]; omega) hC.lk
  obtain ⟨f1, f2⟩ := vx_frame hsame
  rw [hhp] at f1 f2
  have hWs : s.WarmedH U.vm := State.WarmedH.trans hW0 hW
  have hcl : s.vm.findClass (mm_exc k) = some ce.cls := by
    have h9 := hO.cls
    rw [hvm] at h9
    exact h9
  have hall : s.sameButNew ({ U with vm := s.vm } : State) locs (cells + 1) (slots + 6) := by
    subst hA
    obtain ⟨e1, e2⟩ := hsame
    rw [State.setFrames_setFrames] at e1
    have h2 : (T.setVm s.vm).sameButNew ({ U with vm := s.vm } : State) [] (0 + 1) (0 + 6) := ⟨e1, e2⟩
    have h3 := X.same.trans h2
    rw [List.append_nil] at h3
    exact h3.mono (by omega) (by omega)
  have hlt : T.heap.size < U.heap.size := (Array.getElem?_eq_some_iff.mp hce).1
  have hle : U.heap.size ≤ s.heap.size + (cells + 1) := hall.2.2.1
  have hTs : T.heap.size = h.1 := by rw [hT]; exact hsz
  refine ⟨U, ?_, .threw T.heap.size, .inr k, mm_exn h, locs, cells + 1, slots + 6, hrun, hend, ⟨_, ce, rfl, hce, hO.vm, hcl⟩, hD, ?_, hWs, hall, hq, by show h.1 + 1 = _; omega, by show h.2.1 + 6 = _; omega⟩
  · refine st1 _ ?_
    show Steps p.tables e below (T1.setTop { method := m, pc := pc + 3, locals := la, stack := .ref T.heap.size :: st, locked := none }) _
    jvm_step X₁.here [X₁.here.top, hC.x, d3', Value.category]
    exact hsteps
  · exact (hr.moved hWs.alike).exn hm hs (by omega) (fun b hb => f2 b hb (fun z hz => nomatch hz))
end MMthrow
section MMcatch
variable {Γ : mm_G} {l : Launch} {M : mm_M} {d : Nat} {D : mm_D} {pc : Nat} {ls : mm_L} {h : mm_H}
/-- caught by a handler of this method; the rows ahead don't take it -/
theorem mm_catch {k j s0 e0 hp ct : Nat} {pre suf : List (Nat × Nat × Nat × Nat)} (htab : M.2.2.2.2 = pre ++ (s0, e0, hp, ct) :: suf) (hpass : ∀ z ∈ pre, z.2.2.2 ≠ 0 ∧ ∃ i, Cond.classLink M.1.cls z.2.2.2 (mm_exc i) ∈ mm_T ∧ (k, i) ∈ mm_NC) (hin : s0 ≤ pc ∧ pc < e0) (h0 : ct ≠ 0)
    (hlink : Cond.classLink M.1.cls ct (mm_exc j) ∈ mm_T) (hcast : Cond.castable (mm_exc k) (mm_exc j) ∈ mm_T) (kk : ∀ x : Addr, mm_W Γ l M d D hp ls [.ref x] h) : mm_Th Γ l M d D pc ls k h := by
  intro p e R s m args below meth c u0 hC H locs cells slots la st x ce hr hl hq h1 h2 hx hxv hxc
  have ht := hC.tab
  rw [htab] at ht
  obtain ⟨pr, sf, e1, e2, e3⟩ := List.map_eq_append_iff.mp ht
  obtain ⟨y, su, e4, e5, e6⟩ := List.map_eq_cons_iff.mp e3
  subst e4
  cases e5
  refine vx_catch (own := M.1.cls) (name := mm_exc j) (E := mm_exc k) (ce := ce) hC.own pr y su e1 (fun z hz => ?_) ?_ h0 (hC.w _ hlink) (hC.w _ hcast) hx hxv hxc (kk x p e R s m args below meth c u0 hC H locs cells slots la hr hl hq h1 h2)
  · have hm : (z.startPc, z.endPc, z.handlerPc, z.catchType) ∈ pre := by
      rw [← e2]
      exact List.mem_map.mpr ⟨z, hz, rfl⟩
    obtain ⟨g0, i, g1, g2⟩ := hpass _ hm
    exact Or.inr ⟨g0, mm_exc i, hC.w _ g1, hC.k.2.2.2 _ g2⟩
  · simp only [covers, Bool.and_eq_true, decide_eq_true_eq]
    exact hin
end MMcatch
end
section
/-! plain rows and calls of a known arity, printed by wip/whole/gen_mm.py -/
theorem mm_iconst {Γ : mm_G} {l : Launch} {M : mm_M} {d : Nat} {D : mm_D} {pc : Nat} {ls : mm_L} {st : List Value} {h : mm_H} {n : Int} {v : Int32} (hd : decode M.2.1 pc = .ok (.iconst n, 1)) (hv : Int32.ofInt n = v) (k : mm_W Γ l M d D (pc + 1) ls (.int v :: st) h) : mm_W Γ l M d D (pc) ls (st) h :=
  fun p e R s m args below meth c u0 hC H locs cells slots la hr hl hq h1 h2 => lv_iconst hC.x hC.b hd hv (k p e R s m args below meth c u0 hC H locs cells slots la hr hl hq h1 h2)
theorem mm_bipush {Γ : mm_G} {l : Launch} {M : mm_M} {d : Nat} {D : mm_D} {pc : Nat} {ls : mm_L} {st : List Value} {h : mm_H} {n : Int} {v : Int32} (hd : decode M.2.1 pc = .ok (.bipush n, 2)) (hv : (Int8.ofInt n).toInt32 = v) (k : mm_W Γ l M d D (pc + 2) ls (.int v :: st) h) : mm_W Γ l M d D (pc) ls (st) h :=
  fun p e R s m args below meth c u0 hC H locs cells slots la hr hl hq h1 h2 => lv_bipush hC.x hC.b hd hv (k p e R s m args below meth c u0 hC H locs cells slots la hr hl hq h1 h2)
theorem mm_sipush {Γ : mm_G} {l : Launch} {M : mm_M} {d : Nat} {D : mm_D} {pc : Nat} {ls : mm_L} {st : List Value} {h : mm_H} {n : Int} {v : Int32} (hd : decode M.2.1 pc = .ok (.sipush n, 3)) (hv : (Int16.ofInt n).toInt32 = v) (k : mm_W Γ l M d D (pc + 3) ls (.int v :: st) h) : mm_W Γ l M d D (pc) ls (st) h :=
  fun p e R s m args below meth c u0 hC H locs cells slots la hr hl hq h1 h2 => lv_sipush hC.x hC.b hd hv (k p e R s m args below meth c u0 hC H locs cells slots la hr hl hq h1 h2)
theorem mm_lconst {Γ : mm_G} {l : Launch} {M : mm_M} {d : Nat} {D : mm_D} {pc : Nat} {ls : mm_L} {st : List Value} {h : mm_H} {n : Fin 2} {v : Int64} (hd : decode M.2.1 pc = .ok (.lconst n, 1)) (hv : Int64.ofNat (n : Nat) = v) (k : mm_W Γ l M d D (pc + 1) ls (.long v :: st) h) : mm_W Γ l M d D (pc) ls (st) h :=
  fun p e R s m args below meth c u0 hC H locs cells slots la hr hl hq h1 h2 => lv_lconst hC.x hC.b hd hv (k p e R s m args below meth c u0 hC H locs cells slots la hr hl hq h1 h2)
theorem mm_null {Γ : mm_G} {l : Launch} {M : mm_M} {d : Nat} {D : mm_D} {pc : Nat} {ls : mm_L} {st : List Value} {h : mm_H}  (hd : decode M.2.1 pc = .ok (.aconst_null, 1))  (k : mm_W Γ l M d D (pc + 1) ls (.null :: st) h) : mm_W Γ l M d D (pc) ls (st) h :=
  fun p e R s m args below meth c u0 hC H locs cells slots la hr hl hq h1 h2 => lv_null hC.x hC.b hd  (k p e R s m args below meth c u0 hC H locs cells slots la hr hl hq h1 h2)
theorem mm_ineg {Γ : mm_G} {l : Launch} {M : mm_M} {d : Nat} {D : mm_D} {pc : Nat} {ls : mm_L} {st : List Value} {h : mm_H} {x : Int32} (hd : decode M.2.1 pc = .ok (.ineg, 1))  (k : mm_W Γ l M d D (pc + 1) ls (.int (-x) :: st) h) : mm_W Γ l M d D (pc) ls (.int x :: st) h :=
  fun p e R s m args below meth c u0 hC H locs cells slots la hr hl hq h1 h2 => lv_ineg hC.x hC.b hd  (k p e R s m args below meth c u0 hC H locs cells slots la hr hl hq h1 h2)
theorem mm_i2l {Γ : mm_G} {l : Launch} {M : mm_M} {d : Nat} {D : mm_D} {pc : Nat} {ls : mm_L} {st : List Value} {h : mm_H} {x : Int32} (hd : decode M.2.1 pc = .ok (.i2l, 1))  (k : mm_W Γ l M d D (pc + 1) ls (.long x.toInt64 :: st) h) : mm_W Γ l M d D (pc) ls (.int x :: st) h :=
  fun p e R s m args below meth c u0 hC H locs cells slots la hr hl hq h1 h2 => lv_i2l hC.x hC.b hd rfl (k p e R s m args below meth c u0 hC H locs cells slots la hr hl hq h1 h2)
theorem mm_l2i {Γ : mm_G} {l : Launch} {M : mm_M} {d : Nat} {D : mm_D} {pc : Nat} {ls : mm_L} {st : List Value} {h : mm_H} {x : Int64} (hd : decode M.2.1 pc = .ok (.l2i, 1))  (k : mm_W Γ l M d D (pc + 1) ls (.int x.toInt32 :: st) h) : mm_W Γ l M d D (pc) ls (.long x :: st) h :=
  fun p e R s m args below meth c u0 hC H locs cells slots la hr hl hq h1 h2 => lv_l2i hC.x hC.b hd rfl (k p e R s m args below meth c u0 hC H locs cells slots la hr hl hq h1 h2)
theorem mm_lcmp {Γ : mm_G} {l : Launch} {M : mm_M} {d : Nat} {D : mm_D} {pc : Nat} {ls : mm_L} {st : List Value} {h : mm_H} {x y : Int64} (hd : decode M.2.1 pc = .ok (.lcmp, 1))  (k : mm_W Γ l M d D (pc + 1) ls (.int (lg_cmp x y) :: st) h) : mm_W Γ l M d D (pc) ls (.long y :: .long x :: st) h :=
  fun p e R s m args below meth c u0 hC H locs cells slots la hr hl hq h1 h2 => W.lcmp hC.x hC.b hd  (k p e R s m args below meth c u0 hC H locs cells slots la hr hl hq h1 h2)
theorem mm_iushr {Γ : mm_G} {l : Launch} {M : mm_M} {d : Nat} {D : mm_D} {pc : Nat} {ls : mm_L} {st : List Value} {h : mm_H} {x y : Int32} (hd : decode M.2.1 pc = .ok (.iushr, 1))  (k : mm_W Γ l M d D (pc + 1) ls (.int ((x.toUInt32 >>> (y.toUInt32 &&& Int32.toUInt32 31)).toInt32) :: st) h) : mm_W Γ l M d D (pc) ls (.int y :: .int x :: st) h :=
  fun p e R s m args below meth c u0 hC H locs cells slots la hr hl hq h1 h2 => lv_iushr hC.x hC.b hd rfl (k p e R s m args below meth c u0 hC H locs cells slots la hr hl hq h1 h2)
theorem mm_dup {Γ : mm_G} {l : Launch} {M : mm_M} {d : Nat} {D : mm_D} {pc : Nat} {ls : mm_L} {st : List Value} {h : mm_H} {va : Value} (hd : decode M.2.1 pc = .ok (.dup, 1)) (hva : va.category = 1) (k : mm_W Γ l M d D (pc + 1) ls (va :: va :: st) h) : mm_W Γ l M d D (pc) ls (va :: st) h :=
  fun p e R s m args below meth c u0 hC H locs cells slots la hr hl hq h1 h2 => lv_dup hC.x hC.b hd hva (k p e R s m args below meth c u0 hC H locs cells slots la hr hl hq h1 h2)
theorem mm_pop {Γ : mm_G} {l : Launch} {M : mm_M} {d : Nat} {D : mm_D} {pc : Nat} {ls : mm_L} {st : List Value} {h : mm_H} {va : Value} (hd : decode M.2.1 pc = .ok (.pop, 1)) (hva : va.category = 1) (k : mm_W Γ l M d D (pc + 1) ls (st) h) : mm_W Γ l M d D (pc) ls (va :: st) h :=
  fun p e R s m args below meth c u0 hC H locs cells slots la hr hl hq h1 h2 => lv_pop hC.x hC.b hd hva (k p e R s m args below meth c u0 hC H locs cells slots la hr hl hq h1 h2)
theorem mm_dup_x1 {Γ : mm_G} {l : Launch} {M : mm_M} {d : Nat} {D : mm_D} {pc : Nat} {ls : mm_L} {st : List Value} {h : mm_H} {va vb : Value} (hd : decode M.2.1 pc = .ok (.dup_x1, 1)) (hva : va.category = 1) (hvb : vb.category = 1) (k : mm_W Γ l M d D (pc + 1) ls (va :: vb :: va :: st) h) : mm_W Γ l M d D (pc) ls (va :: vb :: st) h :=
  fun p e R s m args below meth c u0 hC H locs cells slots la hr hl hq h1 h2 => lv_dup_x1 hC.x hC.b hd hva hvb (k p e R s m args below meth c u0 hC H locs cells slots la hr hl hq h1 h2)
theorem mm_dup_x2 {Γ : mm_G} {l : Launch} {M : mm_M} {d : Nat} {D : mm_D} {pc : Nat} {ls : mm_L} {st : List Value} {h : mm_H} {va vb vd : Value} (hd : decode M.2.1 pc = .ok (.dup_x2, 1)) (hva : va.category = 1) (hvb : vb.category = 1) (hvd : vd.category = 1) (k : mm_W Γ l M d D (pc + 1) ls (va :: vb :: vd :: va :: st) h) : mm_W Γ l M d D (pc) ls (va :: vb :: vd :: st) h :=
  fun p e R s m args below meth c u0 hC H locs cells slots la hr hl hq h1 h2 => lv_dup_x2 hC.x hC.b hd hva hvb hvd (k p e R s m args below meth c u0 hC H locs cells slots la hr hl hq h1 h2)
theorem mm_dup2 {Γ : mm_G} {l : Launch} {M : mm_M} {d : Nat} {D : mm_D} {pc : Nat} {ls : mm_L} {st : List Value} {h : mm_H} {va vb : Value} (hd : decode M.2.1 pc = .ok (.dup2, 1)) (hva : va.category = 1) (hvb : vb.category = 1) (k : mm_W Γ l M d D (pc + 1) ls (va :: vb :: va :: vb :: st) h) : mm_W Γ l M d D (pc) ls (va :: vb :: st) h :=
  fun p e R s m args below meth c u0 hC H locs cells slots la hr hl hq h1 h2 => lv_dup2_11 hC.x hC.b hd hva hvb (k p e R s m args below meth c u0 hC H locs cells slots la hr hl hq h1 h2)
theorem mm_iadd {Γ : mm_G} {l : Launch} {M : mm_M} {d : Nat} {D : mm_D} {pc : Nat} {ls : mm_L} {st : List Value} {h : mm_H} {x y : Int32} (hd : decode M.2.1 pc = .ok (.iadd, 1))  (k : mm_W Γ l M d D (pc + 1) ls (.int (x + y) :: st) h) : mm_W Γ l M d D (pc) ls (.int y :: .int x :: st) h :=
  fun p e R s m args below meth c u0 hC H locs cells slots la hr hl hq h1 h2 => lv_iadd hC.x hC.b hd  (k p e R s m args below meth c u0 hC H locs cells slots la hr hl hq h1 h2)
theorem mm_isub {Γ : mm_G} {l : Launch} {M : mm_M} {d : Nat} {D : mm_D} {pc : Nat} {ls : mm_L} {st : List Value} {h : mm_H} {x y : Int32} (hd : decode M.2.1 pc = .ok (.isub, 1))  (k : mm_W Γ l M d D (pc + 1) ls (.int (x - y) :: st) h) : mm_W Γ l M d D (pc) ls (.int y :: .int x :: st) h :=
  fun p e R s m args below meth c u0 hC H locs cells slots la hr hl hq h1 h2 => lv_isub hC.x hC.b hd  (k p e R s m args below meth c u0 hC H locs cells slots la hr hl hq h1 h2)
theorem mm_imul {Γ : mm_G} {l : Launch} {M : mm_M} {d : Nat} {D : mm_D} {pc : Nat} {ls : mm_L} {st : List Value} {h : mm_H} {x y : Int32} (hd : decode M.2.1 pc = .ok (.imul, 1))  (k : mm_W Γ l M d D (pc + 1) ls (.int (x * y) :: st) h) : mm_W Γ l M d D (pc) ls (.int y :: .int x :: st) h :=
  fun p e R s m args below meth c u0 hC H locs cells slots la hr hl hq h1 h2 => lv_imul hC.x hC.b hd  (k p e R s m args below meth c u0 hC H locs cells slots la hr hl hq h1 h2)
theorem mm_iand {Γ : mm_G} {l : Launch} {M : mm_M} {d : Nat} {D : mm_D} {pc : Nat} {ls : mm_L} {st : List Value} {h : mm_H} {x y : Int32} (hd : decode M.2.1 pc = .ok (.iand, 1))  (k : mm_W Γ l M d D (pc + 1) ls (.int (x &&& y) :: st) h) : mm_W Γ l M d D (pc) ls (.int y :: .int x :: st) h :=
  fun p e R s m args below meth c u0 hC H locs cells slots la hr hl hq h1 h2 => lv_iand hC.x hC.b hd  (k p e R s m args below meth c u0 hC H locs cells slots la hr hl hq h1 h2)
theorem mm_ior {Γ : mm_G} {l : Launch} {M : mm_M} {d : Nat} {D : mm_D} {pc : Nat} {ls : mm_L} {st : List Value} {h : mm_H} {x y : Int32} (hd : decode M.2.1 pc = .ok (.ior, 1))  (k : mm_W Γ l M d D (pc + 1) ls (.int (x ||| y) :: st) h) : mm_W Γ l M d D (pc) ls (.int y :: .int x :: st) h :=
  fun p e R s m args below meth c u0 hC H locs cells slots la hr hl hq h1 h2 => lv_ior hC.x hC.b hd  (k p e R s m args below meth c u0 hC H locs cells slots la hr hl hq h1 h2)
theorem mm_ixor {Γ : mm_G} {l : Launch} {M : mm_M} {d : Nat} {D : mm_D} {pc : Nat} {ls : mm_L} {st : List Value} {h : mm_H} {x y : Int32} (hd : decode M.2.1 pc = .ok (.ixor, 1))  (k : mm_W Γ l M d D (pc + 1) ls (.int (x ^^^ y) :: st) h) : mm_W Γ l M d D (pc) ls (.int y :: .int x :: st) h :=
  fun p e R s m args below meth c u0 hC H locs cells slots la hr hl hq h1 h2 => lv_ixor hC.x hC.b hd  (k p e R s m args below meth c u0 hC H locs cells slots la hr hl hq h1 h2)
theorem mm_ishl {Γ : mm_G} {l : Launch} {M : mm_M} {d : Nat} {D : mm_D} {pc : Nat} {ls : mm_L} {st : List Value} {h : mm_H} {x y : Int32} (hd : decode M.2.1 pc = .ok (.ishl, 1))  (k : mm_W Γ l M d D (pc + 1) ls (.int (x <<< (y &&& 31)) :: st) h) : mm_W Γ l M d D (pc) ls (.int y :: .int x :: st) h :=
  fun p e R s m args below meth c u0 hC H locs cells slots la hr hl hq h1 h2 => lv_ishl hC.x hC.b hd  (k p e R s m args below meth c u0 hC H locs cells slots la hr hl hq h1 h2)
theorem mm_ishr {Γ : mm_G} {l : Launch} {M : mm_M} {d : Nat} {D : mm_D} {pc : Nat} {ls : mm_L} {st : List Value} {h : mm_H} {x y : Int32} (hd : decode M.2.1 pc = .ok (.ishr, 1))  (k : mm_W Γ l M d D (pc + 1) ls (.int (x >>> (y &&& 31)) :: st) h) : mm_W Γ l M d D (pc) ls (.int y :: .int x :: st) h :=
  fun p e R s m args below meth c u0 hC H locs cells slots la hr hl hq h1 h2 => lv_ishr hC.x hC.b hd  (k p e R s m args below meth c u0 hC H locs cells slots la hr hl hq h1 h2)
theorem mm_idiv {Γ : mm_G} {l : Launch} {M : mm_M} {d : Nat} {D : mm_D} {pc : Nat} {ls : mm_L} {st : List Value} {h : mm_H} {x y : Int32} (hd : decode M.2.1 pc = .ok (.idiv, 1)) (hne : ¬ y = 0) (k : mm_W Γ l M d D (pc + 1) ls (.int (x / y) :: st) h) : mm_W Γ l M d D (pc) ls (.int y :: .int x :: st) h :=
  fun p e R s m args below meth c u0 hC H locs cells slots la hr hl hq h1 h2 => lv_idiv hC.x hC.b hd hne (k p e R s m args below meth c u0 hC H locs cells slots la hr hl hq h1 h2)
theorem mm_irem {Γ : mm_G} {l : Launch} {M : mm_M} {d : Nat} {D : mm_D} {pc : Nat} {ls : mm_L} {st : List Value} {h : mm_H} {x y : Int32} (hd : decode M.2.1 pc = .ok (.irem, 1)) (hne : ¬ y = 0) (k : mm_W Γ l M d D (pc + 1) ls (.int (x - x / y * y) :: st) h) : mm_W Γ l M d D (pc) ls (.int y :: .int x :: st) h :=
  fun p e R s m args below meth c u0 hC H locs cells slots la hr hl hq h1 h2 => lv_irem hC.x hC.b hd hne (k p e R s m args below meth c u0 hC H locs cells slots la hr hl hq h1 h2)
theorem mm_iload_n {Γ : mm_G} {l : Launch} {M : mm_M} {d : Nat} {D : mm_D} {pc : Nat} {ls : mm_L} {st : List Value} {h : mm_H} {j : Fin 4} {i : Nat} {x : Int32} (hd : decode M.2.1 pc = .ok (.iload_n j, 1)) (hi : (j : Nat) = i) (hx : ls[i]? = some (some (.int x))) (k : mm_W Γ l M d D (pc + 1) ls (.int x :: st) h) : mm_W Γ l M d D (pc) ls (st) h :=
  fun p e R s m args below meth c u0 hC H locs cells slots la hr hl hq h1 h2 => lv_iload_n hC.x hC.b hd hi (hl.2.2 i _ hx).1 (k p e R s m args below meth c u0 hC H locs cells slots la hr hl hq h1 h2)
theorem mm_iload {Γ : mm_G} {l : Launch} {M : mm_M} {d : Nat} {D : mm_D} {pc : Nat} {ls : mm_L} {st : List Value} {h : mm_H} {i : Nat} {x : Int32} (hd : decode M.2.1 pc = .ok (.iload i, 2)) (hx : ls[i]? = some (some (.int x))) (k : mm_W Γ l M d D (pc + 2) ls (.int x :: st) h) : mm_W Γ l M d D (pc) ls (st) h :=
  fun p e R s m args below meth c u0 hC H locs cells slots la hr hl hq h1 h2 => lv_iload hC.x hC.b hd (hl.2.2 i _ hx).1 (k p e R s m args below meth c u0 hC H locs cells slots la hr hl hq h1 h2)
theorem mm_aload_n {Γ : mm_G} {l : Launch} {M : mm_M} {d : Nat} {D : mm_D} {pc : Nat} {ls : mm_L} {st : List Value} {h : mm_H} {j : Fin 4} {i : Nat} {x : Nat} (hd : decode M.2.1 pc = .ok (.aload_n j, 1)) (hi : (j : Nat) = i) (hx : ls[i]? = some (some (.ref x))) (k : mm_W Γ l M d D (pc + 1) ls (.ref x :: st) h) : mm_W Γ l M d D (pc) ls (st) h :=
  fun p e R s m args below meth c u0 hC H locs cells slots la hr hl hq h1 h2 => lv_aload_n hC.x hC.b hd hi (hl.2.2 i _ hx).1 (k p e R s m args below meth c u0 hC H locs cells slots la hr hl hq h1 h2)
theorem mm_aload {Γ : mm_G} {l : Launch} {M : mm_M} {d : Nat} {D : mm_D} {pc : Nat} {ls : mm_L} {st : List Value} {h : mm_H} {i : Nat} {x : Nat} (hd : decode M.2.1 pc = .ok (.aload i, 2)) (hx : ls[i]? = some (some (.ref x))) (k : mm_W Γ l M d D (pc + 2) ls (.ref x :: st) h) : mm_W Γ l M d D (pc) ls (st) h :=
  fun p e R s m args below meth c u0 hC H locs cells slots la hr hl hq h1 h2 => lv_aload hC.x hC.b hd (hl.2.2 i _ hx).1 (k p e R s m args below meth c u0 hC H locs cells slots la hr hl hq h1 h2)
theorem mm_istore_n {Γ : mm_G} {l : Launch} {M : mm_M} {d : Nat} {D : mm_D} {pc : Nat} {ls : mm_L} {st : List Value} {h : mm_H} {j : Fin 4} {i : Nat} {x : Int32} {ls' : mm_L} (hd : decode M.2.1 pc = .ok (.istore_n j, 1)) (hi : (j : Nat) = i) (hn : i < M.2.2.1) (hs : ls.set i (some (.int x)) = ls') (k : mm_W Γ l M d D (pc + 1) ls' (st) h) : mm_W Γ l M d D (pc) ls (.int x :: st) h :=
  fun p e R s m args below meth c u0 hC H locs cells slots la hr hl hq h1 h2 => lv_istore_n hC.x hC.b hd hi (mm_Lc.pairs hl) hn rfl (fun la' hl' => k p e R s m args below meth c u0 hC H locs cells slots la' hr (mm_Lc.put hl hl' rfl hs) hq h1 h2)
theorem mm_istore {Γ : mm_G} {l : Launch} {M : mm_M} {d : Nat} {D : mm_D} {pc : Nat} {ls : mm_L} {st : List Value} {h : mm_H} {i : Nat} {x : Int32} {ls' : mm_L} (hd : decode M.2.1 pc = .ok (.istore i, 2))  (hn : i < M.2.2.1) (hs : ls.set i (some (.int x)) = ls') (k : mm_W Γ l M d D (pc + 2) ls' (st) h) : mm_W Γ l M d D (pc) ls (.int x :: st) h :=
  fun p e R s m args below meth c u0 hC H locs cells slots la hr hl hq h1 h2 => lv_istore hC.x hC.b hd (mm_Lc.pairs hl) hn rfl (fun la' hl' => k p e R s m args below meth c u0 hC H locs cells slots la' hr (mm_Lc.put hl hl' rfl hs) hq h1 h2)
theorem mm_astore_n {Γ : mm_G} {l : Launch} {M : mm_M} {d : Nat} {D : mm_D} {pc : Nat} {ls : mm_L} {st : List Value} {h : mm_H} {j : Fin 4} {i : Nat} {x : Nat} {ls' : mm_L} (hd : decode M.2.1 pc = .ok (.astore_n j, 1)) (hi : (j : Nat) = i) (hn : i < M.2.2.1) (hs : ls.set i (some (.ref x)) = ls') (k : mm_W Γ l M d D (pc + 1) ls' (st) h) : mm_W Γ l M d D (pc) ls (.ref x :: st) h :=
  fun p e R s m args below meth c u0 hC H locs cells slots la hr hl hq h1 h2 => lv_astore_n hC.x hC.b hd hi (mm_Lc.pairs hl) hn rfl (fun la' hl' => k p e R s m args below meth c u0 hC H locs cells slots la' hr (mm_Lc.put hl hl' rfl hs) hq h1 h2)
theorem mm_astore {Γ : mm_G} {l : Launch} {M : mm_M} {d : Nat} {D : mm_D} {pc : Nat} {ls : mm_L} {st : List Value} {h : mm_H} {i : Nat} {x : Nat} {ls' : mm_L} (hd : decode M.2.1 pc = .ok (.astore i, 2))  (hn : i < M.2.2.1) (hs : ls.set i (some (.ref x)) = ls') (k : mm_W Γ l M d D (pc + 2) ls' (st) h) : mm_W Γ l M d D (pc) ls (.ref x :: st) h :=
  fun p e R s m args below meth c u0 hC H locs cells slots la hr hl hq h1 h2 => lv_astore hC.x hC.b hd (mm_Lc.pairs hl) hn rfl (fun la' hl' => k p e R s m args below meth c u0 hC H locs cells slots la' hr (mm_Lc.put hl hl' rfl hs) hq h1 h2)
theorem mm_iinc {Γ : mm_G} {l : Launch} {M : mm_M} {d : Nat} {D : mm_D} {pc : Nat} {ls : mm_L} {st : List Value} {h : mm_H} {i : Nat} {n : Int} {x v : Int32} {ls' : mm_L} (hd : decode M.2.1 pc = .ok (.iinc i n, 3)) (hn : i < M.2.2.1) (hx : ls[i]? = some (some (.int x))) (hv : x + Int32.ofInt n = v) (hs : ls.set i (some (.int v)) = ls') (k : mm_W Γ l M d D (pc + 3) ls' (st) h) : mm_W Γ l M d D (pc) ls (st) h :=
  fun p e R s m args below meth c u0 hC H locs cells slots la hr hl hq h1 h2 => (mm_Lc.at hl hx).elim (fun j hj => lv_iinc hC.x hC.b hd (mm_Lc.pairs hl) hj hv hn rfl (fun la' hl' => k p e R s m args below meth c u0 hC H locs cells slots la' hr (mm_Lc.put hl hl' rfl hs) hq h1 h2))
theorem mm_if_eq {Γ : mm_G} {l : Launch} {M : mm_M} {d : Nat} {D : mm_D} {pc : Nat} {ls : mm_L} {st : List Value} {h : mm_H} {x : Int32} {off : Int} {tgt : Nat} (hd : decode M.2.1 pc = .ok (.ifCond .eq off, 3)) (ht : (pc : Int) + off = (tgt : Int)) (kt : x = 0 → mm_W Γ l M d D (tgt) ls (st) h) (kf : ¬ x = 0 → mm_W Γ l M d D (pc + 3) ls (st) h) : mm_W Γ l M d D (pc) ls (.int x :: st) h :=
  fun p e R s m args below meth c u0 hC H locs cells slots la hr hl hq h1 h2 => lv_if_eq hC.x hC.b hd ht (fun q => kt q p e R s m args below meth c u0 hC H locs cells slots la hr hl hq h1 h2) (fun q => kf q p e R s m args below meth c u0 hC H locs cells slots la hr hl hq h1 h2)
theorem mm_icmp_eq {Γ : mm_G} {l : Launch} {M : mm_M} {d : Nat} {D : mm_D} {pc : Nat} {ls : mm_L} {st : List Value} {h : mm_H} {x y : Int32} {off : Int} {tgt : Nat} (hd : decode M.2.1 pc = .ok (.if_icmp .eq off, 3)) (ht : (pc : Int) + off = (tgt : Int)) (kt : x = y → mm_W Γ l M d D (tgt) ls (st) h) (kf : ¬ x = y → mm_W Γ l M d D (pc + 3) ls (st) h) : mm_W Γ l M d D (pc) ls (.int y :: .int x :: st) h :=
  fun p e R s m args below meth c u0 hC H locs cells slots la hr hl hq h1 h2 => lv_icmp_eq hC.x hC.b hd ht (fun q => kt q p e R s m args below meth c u0 hC H locs cells slots la hr hl hq h1 h2) (fun q => kf q p e R s m args below meth c u0 hC H locs cells slots la hr hl hq h1 h2)
theorem mm_if_ne {Γ : mm_G} {l : Launch} {M : mm_M} {d : Nat} {D : mm_D} {pc : Nat} {ls : mm_L} {st : List Value} {h : mm_H} {x : Int32} {off : Int} {tgt : Nat} (hd : decode M.2.1 pc = .ok (.ifCond .ne off, 3)) (ht : (pc : Int) + off = (tgt : Int)) (kt : ¬ x = 0 → mm_W Γ l M d D (tgt) ls (st) h) (kf : x = 0 → mm_W Γ l M d D (pc + 3) ls (st) h) : mm_W Γ l M d D (pc) ls (.int x :: st) h :=
  fun p e R s m args below meth c u0 hC H locs cells slots la hr hl hq h1 h2 => lv_if_ne hC.x hC.b hd ht (fun q => kt q p e R s m args below meth c u0 hC H locs cells slots la hr hl hq h1 h2) (fun q => kf q p e R s m args below meth c u0 hC H locs cells slots la hr hl hq h1 h2)
theorem mm_icmp_ne {Γ : mm_G} {l : Launch} {M : mm_M} {d : Nat} {D : mm_D} {pc : Nat} {ls : mm_L} {st : List Value} {h : mm_H} {x y : Int32} {off : Int} {tgt : Nat} (hd : decode M.2.1 pc = .ok (.if_icmp .ne off, 3)) (ht : (pc : Int) + off = (tgt : Int)) (kt : ¬ x = y → mm_W Γ l M d D (tgt) ls (st) h) (kf : x = y → mm_W Γ l M d D (pc + 3) ls (st) h) : mm_W Γ l M d D (pc) ls (.int y :: .int x :: st) h :=
  fun p e R s m args below meth c u0 hC H locs cells slots la hr hl hq h1 h2 => lv_icmp_ne hC.x hC.b hd ht (fun q => kt q p e R s m args below meth c u0 hC H locs cells slots la hr hl hq h1 h2) (fun q => kf q p e R s m args below meth c u0 hC H locs cells slots la hr hl hq h1 h2)
theorem mm_if_lt {Γ : mm_G} {l : Launch} {M : mm_M} {d : Nat} {D : mm_D} {pc : Nat} {ls : mm_L} {st : List Value} {h : mm_H} {x : Int32} {off : Int} {tgt : Nat} (hd : decode M.2.1 pc = .ok (.ifCond .lt off, 3)) (ht : (pc : Int) + off = (tgt : Int)) (kt : x < 0 → mm_W Γ l M d D (tgt) ls (st) h) (kf : ¬ x < 0 → mm_W Γ l M d D (pc + 3) ls (st) h) : mm_W Γ l M d D (pc) ls (.int x :: st) h :=
  fun p e R s m args below meth c u0 hC H locs cells slots la hr hl hq h1 h2 => lv_if_lt hC.x hC.b hd ht (fun q => kt q p e R s m args below meth c u0 hC H locs cells slots la hr hl hq h1 h2) (fun q => kf q p e R s m args below meth c u0 hC H locs cells slots la hr hl hq h1 h2)
theorem mm_icmp_lt {Γ : mm_G} {l : Launch} {M : mm_M} {d : Nat} {D : mm_D} {pc : Nat} {ls : mm_L} {st : List Value} {h : mm_H} {x y : Int32} {off : Int} {tgt : Nat} (hd : decode M.2.1 pc = .ok (.if_icmp .lt off, 3)) (ht : (pc : Int) + off = (tgt : Int)) (kt : x < y → mm_W Γ l M d D (tgt) ls (st) h) (kf : ¬ x < y → mm_W Γ l M d D (pc + 3) ls (st) h) : mm_W Γ l M d D (pc) ls (.int y :: .int x :: st) h :=
  fun p e R s m args below meth c u0 hC H locs cells slots la hr hl hq h1 h2 => lv_icmp_lt hC.x hC.b hd ht (fun q => kt q p e R s m args below meth c u0 hC H locs cells slots la hr hl hq h1 h2) (fun q => kf q p e R s m args below meth c u0 hC H locs cells slots la hr hl hq h1 h2)
theorem mm_if_ge {Γ : mm_G} {l : Launch} {M : mm_M} {d : Nat} {D : mm_D} {pc : Nat} {ls : mm_L} {st : List Value} {h : mm_H} {x : Int32} {off : Int} {tgt : Nat} (hd : decode M.2.1 pc = .ok (.ifCond .ge off, 3)) (ht : (pc : Int) + off = (tgt : Int)) (kt : 0 ≤ x → mm_W Γ l M d D (tgt) ls (st) h) (kf : ¬ 0 ≤ x → mm_W Γ l M d D (pc + 3) ls (st) h) : mm_W Γ l M d D (pc) ls (.int x :: st) h :=
  fun p e R s m args below meth c u0 hC H locs cells slots la hr hl hq h1 h2 => lv_if_ge hC.x hC.b hd ht (fun q => kt q p e R s m args below meth c u0 hC H locs cells slots la hr hl hq h1 h2) (fun q => kf q p e R s m args below meth c u0 hC H locs cells slots la hr hl hq h1 h2)
theorem mm_icmp_ge {Γ : mm_G} {l : Launch} {M : mm_M} {d : Nat} {D : mm_D} {pc : Nat} {ls : mm_L} {st : List Value} {h : mm_H} {x y : Int32} {off : Int} {tgt : Nat} (hd : decode M.2.1 pc = .ok (.if_icmp .ge off, 3)) (ht : (pc : Int) + off = (tgt : Int)) (kt : y ≤ x → mm_W Γ l M d D (tgt) ls (st) h) (kf : ¬ y ≤ x → mm_W Γ l M d D (pc + 3) ls (st) h) : mm_W Γ l M d D (pc) ls (.int y :: .int x :: st) h :=
  fun p e R s m args below meth c u0 hC H locs cells slots la hr hl hq h1 h2 => lv_icmp_ge hC.x hC.b hd ht (fun q => kt q p e R s m args below meth c u0 hC H locs cells slots la hr hl hq h1 h2) (fun q => kf q p e R s m args below meth c u0 hC H locs cells slots la hr hl hq h1 h2)
theorem mm_if_gt {Γ : mm_G} {l : Launch} {M : mm_M} {d : Nat} {D : mm_D} {pc : Nat} {ls : mm_L} {st : List Value} {h : mm_H} {x : Int32} {off : Int} {tgt : Nat} (hd : decode M.2.1 pc = .ok (.ifCond .gt off, 3)) (ht : (pc : Int) + off = (tgt : Int)) (kt : 0 < x → mm_W Γ l M d D (tgt) ls (st) h) (kf : ¬ 0 < x → mm_W Γ l M d D (pc + 3) ls (st) h) : mm_W Γ l M d D (pc) ls (.int x :: st) h :=
  fun p e R s m args below meth c u0 hC H locs cells slots la hr hl hq h1 h2 => lv_if_gt hC.x hC.b hd ht (fun q => kt q p e R s m args below meth c u0 hC H locs cells slots la hr hl hq h1 h2) (fun q => kf q p e R s m args below meth c u0 hC H locs cells slots la hr hl hq h1 h2)
theorem mm_icmp_gt {Γ : mm_G} {l : Launch} {M : mm_M} {d : Nat} {D : mm_D} {pc : Nat} {ls : mm_L} {st : List Value} {h : mm_H} {x y : Int32} {off : Int} {tgt : Nat} (hd : decode M.2.1 pc = .ok (.if_icmp .gt off, 3)) (ht : (pc : Int) + off = (tgt : Int)) (kt : y < x → mm_W Γ l M d D (tgt) ls (st) h) (kf : ¬ y < x → mm_W Γ l M d D (pc + 3) ls (st) h) : mm_W Γ l M d D (pc) ls (.int y :: .int x :: st) h :=
  fun p e R s m args below meth c u0 hC H locs cells slots la hr hl hq h1 h2 => lv_icmp_gt hC.x hC.b hd ht (fun q => kt q p e R s m args below meth c u0 hC H locs cells slots la hr hl hq h1 h2) (fun q => kf q p e R s m args below meth c u0 hC H locs cells slots la hr hl hq h1 h2)
theorem mm_if_le {Γ : mm_G} {l : Launch} {M : mm_M} {d : Nat} {D : mm_D} {pc : Nat} {ls : mm_L} {st : List Value} {h : mm_H} {x : Int32} {off : Int} {tgt : Nat} (hd : decode M.2.1 pc = .ok (.ifCond .le off, 3)) (ht : (pc : Int) + off = (tgt : Int)) (kt : x ≤ 0 → mm_W Γ l M d D (tgt) ls (st) h) (kf : ¬ x ≤ 0 → mm_W Γ l M d D (pc + 3) ls (st) h) : mm_W Γ l M d D (pc) ls (.int x :: st) h :=
  fun p e R s m args below meth c u0 hC H locs cells slots la hr hl hq h1 h2 => lv_if_le hC.x hC.b hd ht (fun q => kt q p e R s m args below meth c u0 hC H locs cells slots la hr hl hq h1 h2) (fun q => kf q p e R s m args below meth c u0 hC H locs cells slots la hr hl hq h1 h2)
theorem mm_icmp_le {Γ : mm_G} {l : Launch} {M : mm_M} {d : Nat} {D : mm_D} {pc : Nat} {ls : mm_L} {st : List Value} {h : mm_H} {x y : Int32} {off : Int} {tgt : Nat} (hd : decode M.2.1 pc = .ok (.if_icmp .le off, 3)) (ht : (pc : Int) + off = (tgt : Int)) (kt : x ≤ y → mm_W Γ l M d D (tgt) ls (st) h) (kf : ¬ x ≤ y → mm_W Γ l M d D (pc + 3) ls (st) h) : mm_W Γ l M d D (pc) ls (.int y :: .int x :: st) h :=
  fun p e R s m args below meth c u0 hC H locs cells slots la hr hl hq h1 h2 => lv_icmp_le hC.x hC.b hd ht (fun q => kt q p e R s m args below meth c u0 hC H locs cells slots la hr hl hq h1 h2) (fun q => kf q p e R s m args below meth c u0 hC H locs cells slots la hr hl hq h1 h2)
theorem mm_goto {Γ : mm_G} {l : Launch} {M : mm_M} {d : Nat} {D : mm_D} {pc : Nat} {ls : mm_L} {st : List Value} {h : mm_H} {off : Int} {tgt : Nat} (hd : decode M.2.1 pc = .ok (.goto off, 3)) (ht : (pc : Int) + off = (tgt : Int)) (k : mm_W Γ l M d D (tgt) ls (st) h) : mm_W Γ l M d D (pc) ls (st) h :=
  fun p e R s m args below meth c u0 hC H locs cells slots la hr hl hq h1 h2 => lv_goto hC.x hC.b hd ht (k p e R s m args below meth c u0 hC H locs cells slots la hr hl hq h1 h2)
theorem mm_tableOut {Γ : mm_G} {l : Launch} {M : mm_M} {d : Nat} {D : mm_D} {pc : Nat} {ls : mm_L} {st : List Value} {h : mm_H} {dflt lo hi : Int} {offs : Array Int} {len : Nat} {x : Int32} {tgt : Nat} (hd : decode M.2.1 pc = .ok (.tableswitch dflt lo hi offs, len)) (hx : x.toInt < lo ∨ hi < x.toInt) (ht : (pc : Int) + dflt = (tgt : Int)) (k : mm_W Γ l M d D (tgt) ls (st) h) : mm_W Γ l M d D (pc) ls (.int x :: st) h :=
  fun p e R s m args below meth c u0 hC H locs cells slots la hr hl hq h1 h2 => lv_tableOut hC.x hC.b hd hx ht (k p e R s m args below meth c u0 hC H locs cells slots la hr hl hq h1 h2)
theorem mm_tableIn {Γ : mm_G} {l : Launch} {M : mm_M} {d : Nat} {D : mm_D} {pc : Nat} {ls : mm_L} {st : List Value} {h : mm_H} {dflt lo hi : Int} {offs : Array Int} {len : Nat} {x : Int32} {off : Int} {tgt : Nat} (hd : decode M.2.1 pc = .ok (.tableswitch dflt lo hi offs, len)) (ha : ¬ x.toInt < lo) (hb : ¬ hi < x.toInt) (ho : offs[(x.toInt - lo).toNat]? = some off) (ht : (pc : Int) + off = (tgt : Int)) (k : mm_W Γ l M d D (tgt) ls (st) h) : mm_W Γ l M d D (pc) ls (.int x :: st) h :=
  fun p e R s m args below meth c u0 hC H locs cells slots la hr hl hq h1 h2 => lv_tableIn hC.x hC.b hd ha hb ho ht (k p e R s m args below meth c u0 hC H locs cells slots la hr hl hq h1 h2)
theorem mm_s0 {Γ : mm_G} {l : Launch} {M : mm_M} {d : Nat} {D : mm_D} {pc : Nat} {ls : mm_L} {rest : List Value} {h : mm_H} {idx : Nat} {M' : mm_M} {g : mm_H} {r : Option Value} (hd : decode M.2.1 pc = .ok (.invokestatic idx, 3)) (hL : mm_MS M.1.cls idx M' 0)  (hl : 0 ≤ M'.2.2.1) (hw : (rest.map fun v => v.category).sum + (M'.2.2.1 + 11) ≤ 60) (hE : mm_Ev Γ l d M' [] h (mm_is (.inl r) g)) (k : mm_W Γ l M (d + 1) D (pc + 3) ls (r.toList ++ rest) g) : mm_W Γ l M (d + 1) D pc ls (rest) h :=
  mm_calls (as := []) (rest := rest) hd hL rfl (fun v hv => nomatch hv) hl hw hE (fun _ _ hh => by obtain ⟨h1, h2⟩ := hh; cases h1; cases h2; exact k) (fun _ _ hh => by obtain ⟨h1, h2⟩ := hh; cases h1)
theorem mm_s0t {Γ : mm_G} {l : Launch} {M : mm_M} {d : Nat} {D : mm_D} {pc : Nat} {ls : mm_L} {rest : List Value} {h : mm_H} {idx : Nat} {M' : mm_M} {g : mm_H} {kx : Nat} (hd : decode M.2.1 pc = .ok (.invokestatic idx, 3)) (hL : mm_MS M.1.cls idx M' 0)  (hl : 0 ≤ M'.2.2.1) (hw : (rest.map fun v => v.category).sum + (M'.2.2.1 + 11) ≤ 60) (hE : mm_Ev Γ l d M' [] h (mm_is (.inr kx) g)) (k : mm_Th Γ l M (d + 1) D pc ls kx g) : mm_W Γ l M (d + 1) D pc ls (rest) h :=
  mm_calls (as := []) (rest := rest) hd hL rfl (fun v hv => nomatch hv) hl hw hE (fun _ _ hh => by obtain ⟨h1, h2⟩ := hh; cases h1) (fun _ _ hh => by obtain ⟨h1, h2⟩ := hh; cases h1; cases h2; exact k)
theorem mm_s1 {Γ : mm_G} {l : Launch} {M : mm_M} {d : Nat} {D : mm_D} {pc : Nat} {ls : mm_L} {rest : List Value} {h : mm_H} {idx : Nat} {M' : mm_M} {g : mm_H} {v1 : Value} {r : Option Value} (hd : decode M.2.1 pc = .ok (.invokestatic idx, 3)) (hL : mm_MS M.1.cls idx M' 1) (c1 : v1.category = 1) (hl : 1 ≤ M'.2.2.1) (hw : (rest.map fun v => v.category).sum + (M'.2.2.1 + 11) ≤ 60) (hE : mm_Ev Γ l d M' [v1] h (mm_is (.inl r) g)) (k : mm_W Γ l M (d + 1) D (pc + 3) ls (r.toList ++ rest) g) : mm_W Γ l M (d + 1) D pc ls (v1 :: rest) h :=
  mm_calls (as := [v1]) (rest := rest) hd hL rfl (fun v hv => by simp only [List.mem_cons, List.not_mem_nil, or_false] at hv; rcases hv with rfl <;> assumption) hl hw hE (fun _ _ hh => by obtain ⟨h1, h2⟩ := hh; cases h1; cases h2; exact k) (fun _ _ hh => by obtain ⟨h1, h2⟩ := hh; cases h1)
theorem mm_s1t {Γ : mm_G} {l : Launch} {M : mm_M} {d : Nat} {D : mm_D} {pc : Nat} {ls : mm_L} {rest : List Value} {h : mm_H} {idx : Nat} {M' : mm_M} {g : mm_H} {v1 : Value} {kx : Nat} (hd : decode M.2.1 pc = .ok (.invokestatic idx, 3)) (hL : mm_MS M.1.cls idx M' 1) (c1 : v1.category = 1) (hl : 1 ≤ M'.2.2.1) (hw : (rest.map fun v => v.category).sum + (M'.2.2.1 + 11) ≤ 60) (hE : mm_Ev Γ l d M' [v1] h (mm_is (.inr kx) g)) (k : mm_Th Γ l M (d + 1) D pc ls kx g) : mm_W Γ l M (d + 1) D pc ls (v1 :: rest) h :=
  mm_calls (as := [v1]) (rest := rest) hd hL rfl (fun v hv => by simp only [List.mem_cons, List.not_mem_nil, or_false] at hv; rcases hv with rfl <;> assumption) hl hw hE (fun _ _ hh => by obtain ⟨h1, h2⟩ := hh; cases h1) (fun _ _ hh => by obtain ⟨h1, h2⟩ := hh; cases h1; cases h2; exact k)
theorem mm_s2 {Γ : mm_G} {l : Launch} {M : mm_M} {d : Nat} {D : mm_D} {pc : Nat} {ls : mm_L} {rest : List Value} {h : mm_H} {idx : Nat} {M' : mm_M} {g : mm_H} {v1 v2 : Value} {r : Option Value} (hd : decode M.2.1 pc = .ok (.invokestatic idx, 3)) (hL : mm_MS M.1.cls idx M' 2) (c1 : v1.category = 1) (c2 : v2.category = 1) (hl : 2 ≤ M'.2.2.1) (hw : (rest.map fun v => v.category).sum + (M'.2.2.1 + 11) ≤ 60) (hE : mm_Ev Γ l d M' [v1, v2] h (mm_is (.inl r) g)) (k : mm_W Γ l M (d + 1) D (pc + 3) ls (r.toList ++ rest) g) : mm_W Γ l M (d + 1) D pc ls (v2 :: v1 :: rest) h :=
  mm_calls (as := [v1, v2]) (rest := rest) hd hL rfl (fun v hv => by simp only [List.mem_cons, List.not_mem_nil, or_false] at hv; rcases hv with rfl | rfl <;> assumption) hl hw hE (fun _ _ hh => by obtain ⟨h1, h2⟩ := hh; cases h1; cases h2; exact k) (fun _ _ hh => by obtain ⟨h1, h2⟩ := hh; cases h1)
theorem mm_s2t {Γ : mm_G} {l : Launch} {M : mm_M} {d : Nat} {D : mm_D} {pc : Nat} {ls : mm_L} {rest : List Value} {h : mm_H} {idx : Nat} {M' : mm_M} {g : mm_H} {v1 v2 : Value} {kx : Nat} (hd : decode M.2.1 pc = .ok (.invokestatic idx, 3)) (hL : mm_MS M.1.cls idx M' 2) (c1 : v1.category = 1) (c2 : v2.category = 1) (hl : 2 ≤ M'.2.2.1) (hw : (rest.map fun v => v.category).sum + (M'.2.2.1 + 11) ≤ 60) (hE : mm_Ev Γ l d M' [v1, v2] h (mm_is (.inr kx) g)) (k : mm_Th Γ l M (d + 1) D pc ls kx g) : mm_W Γ l M (d + 1) D pc ls (v2 :: v1 :: rest) h :=
  mm_calls (as := [v1, v2]) (rest := rest) hd hL rfl (fun v hv => by simp only [List.mem_cons, List.not_mem_nil, or_false] at hv; rcases hv with rfl | rfl <;> assumption) hl hw hE (fun _ _ hh => by obtain ⟨h1, h2⟩ := hh; cases h1) (fun _ _ hh => by obtain ⟨h1, h2⟩ := hh; cases h1; cases h2; exact k)
theorem mm_s3 {Γ : mm_G} {l : Launch} {M : mm_M} {d : Nat} {D : mm_D} {pc : Nat} {ls : mm_L} {rest : List Value} {h : mm_H} {idx : Nat} {M' : mm_M} {g : mm_H} {v1 v2 v3 : Value} {r : Option Value} (hd : decode M.2.1 pc = .ok (.invokestatic idx, 3)) (hL : mm_MS M.1.cls idx M' 3) (c1 : v1.category = 1) (c2 : v2.category = 1) (c3 : v3.category = 1) (hl : 3 ≤ M'.2.2.1) (hw : (rest.map fun v => v.category).sum + (M'.2.2.1 + 11) ≤ 60) (hE : mm_Ev Γ l d M' [v1, v2, v3] h (mm_is (.inl r) g)) (k : mm_W Γ l M (d + 1) D (pc + 3) ls (r.toList ++ rest) g) : mm_W Γ l M (d + 1) D pc ls (v3 :: v2 :: v1 :: rest) h :=
  mm_calls (as := [v1, v2, v3]) (rest := rest) hd hL rfl (fun v hv => by simp only [List.mem_cons, List.not_mem_nil, or_false] at hv; rcases hv with rfl | rfl | rfl <;> assumption) hl hw hE (fun _ _ hh => by obtain ⟨h1, h2⟩ := hh; cases h1; cases h2; exact k) (fun _ _ hh => by obtain ⟨h1, h2⟩ := hh; cases h1)
theorem mm_s3t {Γ : mm_G} {l : Launch} {M : mm_M} {d : Nat} {D : mm_D} {pc : Nat} {ls : mm_L} {rest : List Value} {h : mm_H} {idx : Nat} {M' : mm_M} {g : mm_H} {v1 v2 v3 : Value} {kx : Nat} (hd : decode M.2.1 pc = .ok (.invokestatic idx, 3)) (hL : mm_MS M.1.cls idx M' 3) (c1 : v1.category = 1) (c2 : v2.category = 1) (c3 : v3.category = 1) (hl : 3 ≤ M'.2.2.1) (hw : (rest.map fun v => v.category).sum + (M'.2.2.1 + 11) ≤ 60) (hE : mm_Ev Γ l d M' [v1, v2, v3] h (mm_is (.inr kx) g)) (k : mm_Th Γ l M (d + 1) D pc ls kx g) : mm_W Γ l M (d + 1) D pc ls (v3 :: v2 :: v1 :: rest) h :=
  mm_calls (as := [v1, v2, v3]) (rest := rest) hd hL rfl (fun v hv => by simp only [List.mem_cons, List.not_mem_nil, or_false] at hv; rcases hv with rfl | rfl | rfl <;> assumption) hl hw hE (fun _ _ hh => by obtain ⟨h1, h2⟩ := hh; cases h1) (fun _ _ hh => by obtain ⟨h1, h2⟩ := hh; cases h1; cases h2; exact k)
theorem mm_s4 {Γ : mm_G} {l : Launch} {M : mm_M} {d : Nat} {D : mm_D} {pc : Nat} {ls : mm_L} {rest : List Value} {h : mm_H} {idx : Nat} {M' : mm_M} {g : mm_H} {v1 v2 v3 v4 : Value} {r : Option Value} (hd : decode M.2.1 pc = .ok (.invokestatic idx, 3)) (hL : mm_MS M.1.cls idx M' 4) (c1 : v1.category = 1) (c2 : v2.category = 1) (c3 : v3.category = 1) (c4 : v4.category = 1) (hl : 4 ≤ M'.2.2.1) (hw : (rest.map fun v => v.category).sum + (M'.2.2.1 + 11) ≤ 60) (hE : mm_Ev Γ l d M' [v1, v2, v3, v4] h (mm_is (.inl r) g)) (k : mm_W Γ l M (d + 1) D (pc + 3) ls (r.toList ++ rest) g) : mm_W Γ l M (d + 1) D pc ls (v4 :: v3 :: v2 :: v1 :: rest) h :=
  mm_calls (as := [v1, v2, v3, v4]) (rest := rest) hd hL rfl (fun v hv => by simp only [List.mem_cons, List.not_mem_nil, or_false] at hv; rcases hv with rfl | rfl | rfl | rfl <;> assumption) hl hw hE (fun _ _ hh => by obtain ⟨h1, h2⟩ := hh; cases h1; cases h2; exact k) (fun _ _ hh => by obtain ⟨h1, h2⟩ := hh; cases h1)
theorem mm_s4t {Γ : mm_G} {l : Launch} {M : mm_M} {d : Nat} {D : mm_D} {pc : Nat} {ls : mm_L} {rest : List Value} {h : mm_H} {idx : Nat} {M' : mm_M} {g : mm_H} {v1 v2 v3 v4 : Value} {kx : Nat} (hd : decode M.2.1 pc = .ok (.invokestatic idx, 3)) (hL : mm_MS M.1.cls idx M' 4) (c1 : v1.category = 1) (c2 : v2.category = 1) (c3 : v3.category = 1) (c4 : v4.category = 1) (hl : 4 ≤ M'.2.2.1) (hw : (rest.map fun v => v.category).sum + (M'.2.2.1 + 11) ≤ 60) (hE : mm_Ev Γ l d M' [v1, v2, v3, v4] h (mm_is (.inr kx) g)) (k : mm_Th Γ l M (d + 1) D pc ls kx g) : mm_W Γ l M (d + 1) D pc ls (v4 :: v3 :: v2 :: v1 :: rest) h :=
  mm_calls (as := [v1, v2, v3, v4]) (rest := rest) hd hL rfl (fun v hv => by simp only [List.mem_cons, List.not_mem_nil, or_false] at hv; rcases hv with rfl | rfl | rfl | rfl <;> assumption) hl hw hE (fun _ _ hh => by obtain ⟨h1, h2⟩ := hh; cases h1) (fun _ _ hh => by obtain ⟨h1, h2⟩ := hh; cases h1; cases h2; exact k)
theorem mm_s5 {Γ : mm_G} {l : Launch} {M : mm_M} {d : Nat} {D : mm_D} {pc : Nat} {ls : mm_L} {rest : List Value} {h : mm_H} {idx : Nat} {M' : mm_M} {g : mm_H} {v1 v2 v3 v4 v5 : Value} {r : Option Value} (hd : decode M.2.1 pc = .ok (.invokestatic idx, 3)) (hL : mm_MS M.1.cls idx M' 5) (c1 : v1.category = 1) (c2 : v2.category = 1) (c3 : v3.category = 1) (c4 : v4.category = 1) (c5 : v5.category = 1) (hl : 5 ≤ M'.2.2.1) (hw : (rest.map fun v => v.category).sum + (M'.2.2.1 + 11) ≤ 60) (hE : mm_Ev Γ l d M' [v1, v2, v3, v4, v5] h (mm_is (.inl r) g)) (k : mm_W Γ l M (d + 1) D (pc + 3) ls (r.toList ++ rest) g) : mm_W Γ l M (d + 1) D pc ls (v5 :: v4 :: v3 :: v2 :: v1 :: rest) h :=
  mm_calls (as := [v1, v2, v3, v4, v5]) (rest := rest) hd hL rfl (fun v hv => by simp only [List.mem_cons, List.not_mem_nil, or_false] at hv; rcases hv with rfl | rfl | rfl | rfl | rfl <;> assumption) hl hw hE (fun _ _ hh => by obtain ⟨h1, h2⟩ := hh; cases h1; cases h2; exact k) (fun _ _ hh => by obtain ⟨h1, h2⟩ := hh; cases h1)
theorem mm_s5t {Γ : mm_G} {l : Launch} {M : mm_M} {d : Nat} {D : mm_D} {pc : Nat} {ls : mm_L} {rest : List Value} {h : mm_H} {idx : Nat} {M' : mm_M} {g : mm_H} {v1 v2 v3 v4 v5 : Value} {kx : Nat} (hd : decode M.2.1 pc = .ok (.invokestatic idx, 3)) (hL : mm_MS M.1.cls idx M' 5) (c1 : v1.category = 1) (c2 : v2.category = 1) (c3 : v3.category = 1) (c4 : v4.category = 1) (c5 : v5.category = 1) (hl : 5 ≤ M'.2.2.1) (hw : (rest.map fun v => v.category).sum + (M'.2.2.1 + 11) ≤ 60) (hE : mm_Ev Γ l d M' [v1, v2, v3, v4, v5] h (mm_is (.inr kx) g)) (k : mm_Th Γ l M (d + 1) D pc ls kx g) : mm_W Γ l M (d + 1) D pc ls (v5 :: v4 :: v3 :: v2 :: v1 :: rest) h :=
  mm_calls (as := [v1, v2, v3, v4, v5]) (rest := rest) hd hL rfl (fun v hv => by simp only [List.mem_cons, List.not_mem_nil, or_false] at hv; rcases hv with rfl | rfl | rfl | rfl | rfl <;> assumption) hl hw hE (fun _ _ hh => by obtain ⟨h1, h2⟩ := hh; cases h1) (fun _ _ hh => by obtain ⟨h1, h2⟩ := hh; cases h1; cases h2; exact k)
theorem mm_s6 {Γ : mm_G} {l : Launch} {M : mm_M} {d : Nat} {D : mm_D} {pc : Nat} {ls : mm_L} {rest : List Value} {h : mm_H} {idx : Nat} {M' : mm_M} {g : mm_H} {v1 v2 v3 v4 v5 v6 : Value} {r : Option Value} (hd : decode M.2.1 pc = .ok (.invokestatic idx, 3)) (hL : mm_MS M.1.cls idx M' 6) (c1 : v1.category = 1) (c2 : v2.category = 1) (c3 : v3.category = 1) (c4 : v4.category = 1) (c5 : v5.category = 1) (c6 : v6.category = 1) (hl : 6 ≤ M'.2.2.1) (hw : (rest.map fun v => v.category).sum + (M'.2.2.1 + 11) ≤ 60) (hE : mm_Ev Γ l d M' [v1, v2, v3, v4, v5, v6] h (mm_is (.inl r) g)) (k : mm_W Γ l M (d + 1) D (pc + 3) ls (r.toList ++ rest) g) : mm_W Γ l M (d + 1) D pc ls (v6 :: v5 :: v4 :: v3 :: v2 :: v1 :: rest) h :=
  mm_calls (as := [v1, v2, v3, v4, v5, v6]) (rest := rest) hd hL rfl (fun v hv => by simp only [List.mem_cons, List.not_mem_nil, or_false] at hv; rcases hv with rfl | rfl | rfl | rfl | rfl | rfl <;> assumption) hl hw hE (fun _ _ hh => by obtain ⟨h1, h2⟩ := hh; cases h1; cases h2; exact k) (fun _ _ hh => by obtain ⟨h1, h2⟩ := hh; cases h1)
theorem mm_s6t {Γ : mm_G} {l : Launch} {M : mm_M} {d : Nat} {D : mm_D} {pc : Nat} {ls : mm_L} {rest : List Value} {h : mm_H} {idx : Nat} {M' : mm_M} {g : mm_H} {v1 v2 v3 v4 v5 v6 : Value} {kx : Nat} (hd : decode M.2.1 pc = .ok (.invokestatic idx, 3)) (hL : mm_MS M.1.cls idx M' 6) (c1 : v1.category = 1) (c2 : v2.category = 1) (c3 : v3.category = 1) (c4 : v4.category = 1) (c5 : v5.category = 1) (c6 : v6.category = 1) (hl : 6 ≤ M'.2.2.1) (hw : (rest.map fun v => v.category).sum + (M'.2.2.1 + 11) ≤ 60) (hE : mm_Ev Γ l d M' [v1, v2, v3, v4, v5, v6] h (mm_is (.inr kx) g)) (k : mm_Th Γ l M (d + 1) D pc ls kx g) : mm_W Γ l M (d + 1) D pc ls (v6 :: v5 :: v4 :: v3 :: v2 :: v1 :: rest) h :=
  mm_calls (as := [v1, v2, v3, v4, v5, v6]) (rest := rest) hd hL rfl (fun v hv => by simp only [List.mem_cons, List.not_mem_nil, or_false] at hv; rcases hv with rfl | rfl | rfl | rfl | rfl | rfl <;> assumption) hl hw hE (fun _ _ hh => by obtain ⟨h1, h2⟩ := hh; cases h1) (fun _ _ hh => by obtain ⟨h1, h2⟩ := hh; cases h1; cases h2; exact k)
theorem mm_s7 {Γ : mm_G} {l : Launch} {M : mm_M} {d : Nat} {D : mm_D} {pc : Nat} {ls : mm_L} {rest : List Value} {h : mm_H} {idx : Nat} {M' : mm_M} {g : mm_H} {v1 v2 v3 v4 v5 v6 v7 : Value} {r : Option Value} (hd : decode M.2.1 pc = .ok (.invokestatic idx, 3)) (hL : mm_MS M.1.cls idx M' 7) (c1 : v1.category = 1) (c2 : v2.category = 1) (c3 : v3.category = 1) (c4 : v4.category = 1) (c5 : v5.category = 1) (c6 : v6.category = 1) (c7 : v7.category = 1) (hl : 7 ≤ M'.2.2.1) (hw : (rest.map fun v => v.category).sum + (M'.2.2.1 + 11) ≤ 60) (hE : mm_Ev Γ l d M' [v1, v2, v3, v4, v5, v6, v7] h (mm_is (.inl r) g)) (k : mm_W Γ l M (d + 1) D (pc + 3) ls (r.toList ++ rest) g) : mm_W Γ l M (d + 1) D pc ls (v7 :: v6 :: v5 :: v4 :: v3 :: v2 :: v1 :: rest) h :=
  mm_calls (as := [v1, v2, v3, v4, v5, v6, v7]) (rest := rest) hd hL rfl (fun v hv => by simp only [List.mem_cons, List.not_mem_nil, or_false] at hv; rcases hv with rfl | rfl | rfl | rfl | rfl | rfl | rfl <;> assumption) hl hw hE (fun _ _ hh => by obtain ⟨h1, h2⟩ := hh; cases h1; cases h2; exact k) (fun _ _ hh => by obtain ⟨h1, h2⟩ := hh; cases h1)
theorem mm_s7t {Γ : mm_G} {l : Launch} {M : mm_M} {d : Nat} {D : mm_D} {pc : Nat} {ls : mm_L} {rest : List Value} {h : mm_H} {idx : Nat} {M' : mm_M} {g : mm_H} {v1 v2 v3 v4 v5 v6 v7 : Value} {kx : Nat} (hd : decode M.2.1 pc = .ok (.invokestatic idx, 3)) (hL : mm_MS M.1.cls idx M' 7) (c1 : v1.category = 1) (c2 : v2.category = 1) (c3 : v3.category = 1) (c4 : v4.category = 1) (c5 : v5.category = 1) (c6 : v6.category = 1) (c7 : v7.category = 1) (hl : 7 ≤ M'.2.2.1) (hw : (rest.map fun v => v.category).sum + (M'.2.2.1 + 11) ≤ 60) (hE : mm_Ev Γ l d M' [v1, v2, v3, v4, v5, v6, v7] h (mm_is (.inr kx) g)) (k : mm_Th Γ l M (d + 1) D pc ls kx g) : mm_W Γ l M (d + 1) D pc ls (v7 :: v6 :: v5 :: v4 :: v3 :: v2 :: v1 :: rest) h :=
  mm_calls (as := [v1, v2, v3, v4, v5, v6, v7]) (rest := rest) hd hL rfl (fun v hv => by simp only [List.mem_cons, List.not_mem_nil, or_false] at hv; rcases hv with rfl | rfl | rfl | rfl | rfl | rfl | rfl <;> assumption) hl hw hE (fun _ _ hh => by obtain ⟨h1, h2⟩ := hh; cases h1) (fun _ _ hh => by obtain ⟨h1, h2⟩ := hh; cases h1; cases h2; exact k)
theorem mm_v0 {Γ : mm_G} {l : Launch} {M : mm_M} {d : Nat} {D : mm_D} {pc : Nat} {ls : mm_L} {rest : List Value} {h : mm_H} {idx : Nat} {M' : mm_M} {g : mm_H} {a : Nat} {ci : Nat} {fs : List Value} {r : Option Value} (hd : decode M.2.1 pc = .ok (.invokevirtual idx, 3)) (hL : mm_MV M.1.cls idx M' 0 ci) (hb : h.2.2 a = some (.inr (ci, fs)))  (hl : 1 ≤ M'.2.2.1) (hw : (rest.map fun v => v.category).sum + (M'.2.2.1 + 11) ≤ 60) (hE : mm_Ev Γ l d M' [.ref a] h (mm_is (.inl r) g)) (k : mm_W Γ l M (d + 1) D (pc + 3) ls (r.toList ++ rest) g) : mm_W Γ l M (d + 1) D pc ls (.ref a :: rest) h :=
  mm_callv (as := []) (rest := rest) hd hL hb rfl (fun v hv => nomatch hv) hl hw hE (fun _ _ hh => by obtain ⟨h1, h2⟩ := hh; cases h1; cases h2; exact k) (fun _ _ hh => by obtain ⟨h1, h2⟩ := hh; cases h1)
theorem mm_v0t {Γ : mm_G} {l : Launch} {M : mm_M} {d : Nat} {D : mm_D} {pc : Nat} {ls : mm_L} {rest : List Value} {h : mm_H} {idx : Nat} {M' : mm_M} {g : mm_H} {a : Nat} {ci : Nat} {fs : List Value} {kx : Nat} (hd : decode M.2.1 pc = .ok (.invokevirtual idx, 3)) (hL : mm_MV M.1.cls idx M' 0 ci) (hb : h.2.2 a = some (.inr (ci, fs)))  (hl : 1 ≤ M'.2.2.1) (hw : (rest.map fun v => v.category).sum + (M'.2.2.1 + 11) ≤ 60) (hE : mm_Ev Γ l d M' [.ref a] h (mm_is (.inr kx) g)) (k : mm_Th Γ l M (d + 1) D pc ls kx g) : mm_W Γ l M (d + 1) D pc ls (.ref a :: rest) h :=
  mm_callv (as := []) (rest := rest) hd hL hb rfl (fun v hv => nomatch hv) hl hw hE (fun _ _ hh => by obtain ⟨h1, h2⟩ := hh; cases h1) (fun _ _ hh => by obtain ⟨h1, h2⟩ := hh; cases h1; cases h2; exact k)
theorem mm_v1 {Γ : mm_G} {l : Launch} {M : mm_M} {d : Nat} {D : mm_D} {pc : Nat} {ls : mm_L} {rest : List Value} {h : mm_H} {idx : Nat} {M' : mm_M} {g : mm_H} {v1 : Value} {a : Nat} {ci : Nat} {fs : List Value} {r : Option Value} (hd : decode M.2.1 pc = .ok (.invokevirtual idx, 3)) (hL : mm_MV M.1.cls idx M' 1 ci) (hb : h.2.2 a = some (.inr (ci, fs))) (c1 : v1.category = 1) (hl : 2 ≤ M'.2.2.1) (hw : (rest.map fun v => v.category).sum + (M'.2.2.1 + 11) ≤ 60) (hE : mm_Ev Γ l d M' [.ref a, v1] h (mm_is (.inl r) g)) (k : mm_W Γ l M (d + 1) D (pc + 3) ls (r.toList ++ rest) g) : mm_W Γ l M (d + 1) D pc ls (v1 :: .ref a :: rest) h :=
  mm_callv (as := [v1]) (rest := rest) hd hL hb rfl (fun v hv => by simp only [List.mem_cons, List.not_mem_nil, or_false] at hv; rcases hv with rfl <;> assumption) hl hw hE (fun _ _ hh => by obtain ⟨h1, h2⟩ := hh; cases h1; cases h2; exact k) (fun _ _ hh => by obtain ⟨h1, h2⟩ := hh; cases h1)
theorem mm_v1t {Γ : mm_G} {l : Launch} {M : mm_M} {d : Nat} {D : mm_D} {pc : Nat} {ls : mm_L} {rest : List Value} {h : mm_H} {idx : Nat} {M' : mm_M} {g : mm_H} {v1 : Value} {a : Nat} {ci : Nat} {fs : List Value} {kx : Nat} (hd : decode M.2.1 pc = .ok (.invokevirtual idx, 3)) (hL : mm_MV M.1.cls idx M' 1 ci) (hb : h.2.2 a = some (.inr (ci, fs))) (c1 : v1.category = 1) (hl : 2 ≤ M'.2.2.1) (hw : (rest.map fun v => v.category).sum + (M'.2.2.1 + 11) ≤ 60) (hE : mm_Ev Γ l d M' [.ref a, v1] h (mm_is (.inr kx) g)) (k : mm_Th Γ l M (d + 1) D pc ls kx g) : mm_W Γ l M (d + 1) D pc ls (v1 :: .ref a :: rest) h :=
  mm_callv (as := [v1]) (rest := rest) hd hL hb rfl (fun v hv => by simp only [List.mem_cons, List.not_mem_nil, or_false] at hv; rcases hv with rfl <;> assumption) hl hw hE (fun _ _ hh => by obtain ⟨h1, h2⟩ := hh; cases h1) (fun _ _ hh => by obtain ⟨h1, h2⟩ := hh; cases h1; cases h2; exact k)
theorem mm_v2 {Γ : mm_G} {l : Launch} {M : mm_M} {d : Nat} {D : mm_D} {pc : Nat} {ls : mm_L} {rest : List Value} {h : mm_H} {idx : Nat} {M' : mm_M} {g : mm_H} {v1 v2 : Value} {a : Nat} {ci : Nat} {fs : List Value} {r : Option Value} (hd : decode M.2.1 pc = .ok (.invokevirtual idx, 3)) (hL : mm_MV M.1.cls idx M' 2 ci) (hb : h.2.2 a = some (.inr (ci, fs))) (c1 : v1.category = 1) (c2 : v2.category = 1) (hl : 3 ≤ M'.2.2.1) (hw : (rest.map fun v => v.category).sum + (M'.2.2.1 + 11) ≤ 60) (hE : mm_Ev Γ l d M' [.ref a, v1, v2] h (mm_is (.inl r) g)) (k : mm_W Γ l M (d + 1) D (pc + 3) ls (r.toList ++ rest) g) : mm_W Γ l M (d + 1) D pc ls (v2 :: v1 :: .ref a :: rest) h :=
  mm_callv (as := [v1, v2]) (rest := rest) hd hL hb rfl (fun v hv => by simp only [List.mem_cons, List.not_mem_nil, or_false] at hv; rcases hv with rfl | rfl <;> assumption) hl hw hE (fun _ _ hh => by obtain ⟨h1, h2⟩ := hh; cases h1; cases h2; exact k) (fun _ _ hh => by obtain ⟨h1, h2⟩ := hh; cases h1)
theorem mm_v2t {Γ : mm_G} {l : Launch} {M : mm_M} {d : Nat} {D : mm_D} {pc : Nat} {ls : mm_L} {rest : List Value} {h : mm_H} {idx : Nat} {M' : mm_M} {g : mm_H} {v1 v2 : Value} {a : Nat} {ci : Nat} {fs : List Value} {kx : Nat} (hd : decode M.2.1 pc = .ok (.invokevirtual idx, 3)) (hL : mm_MV M.1.cls idx M' 2 ci) (hb : h.2.2 a = some (.inr (ci, fs))) (c1 : v1.category = 1) (c2 : v2.category = 1) (hl : 3 ≤ M'.2.2.1) (hw : (rest.map fun v => v.category).sum + (M'.2.2.1 + 11) ≤ 60) (hE : mm_Ev Γ l d M' [.ref a, v1, v2] h (mm_is (.inr kx) g)) (k : mm_Th Γ l M (d + 1) D pc ls kx g) : mm_W Γ l M (d + 1) D pc ls (v2 :: v1 :: .ref a :: rest) h :=
  mm_callv (as := [v1, v2]) (rest := rest) hd hL hb rfl (fun v hv => by simp only [List.mem_cons, List.not_mem_nil, or_false] at hv; rcases hv with rfl | rfl <;> assumption) hl hw hE (fun _ _ hh => by obtain ⟨h1, h2⟩ := hh; cases h1) (fun _ _ hh => by obtain ⟨h1, h2⟩ := hh; cases h1; cases h2; exact k)
theorem mm_v3 {Γ : mm_G} {l : Launch} {M : mm_M} {d : Nat} {D : mm_D} {pc : Nat} {ls : mm_L} {rest : List Value} {h : mm_H} {idx : Nat} {M' : mm_M} {g : mm_H} {v1 v2 v3 : Value} {a : Nat} {ci : Nat} {fs : List Value} {r : Option Value} (hd : decode M.2.1 pc = .ok (.invokevirtual idx, 3)) (hL : mm_MV M.1.cls idx M' 3 ci) (hb : h.2.2 a = some (.inr (ci, fs))) (c1 : v1.category = 1) (c2 : v2.category = 1) (c3 : v3.category = 1) (hl : 4 ≤ M'.2.2.1) (hw : (rest.map fun v => v.category).sum + (M'.2.2.1 + 11) ≤ 60) (hE : mm_Ev Γ l d M' [.ref a, v1, v2, v3] h (mm_is (.inl r) g)) (k : mm_W Γ l M (d + 1) D (pc + 3) ls (r.toList ++ rest) g) : mm_W Γ l M (d + 1) D pc ls (v3 :: v2 :: v1 :: .ref a :: rest) h :=
  mm_callv (as := [v1, v2, v3]) (rest := rest) hd hL hb rfl (fun v hv => by simp only [List.mem_cons, List.not_mem_nil, or_false] at hv; rcases hv with rfl | rfl | rfl <;> assumption) hl hw hE (fun _ _ hh => by obtain ⟨h1, h2⟩ := hh; cases h1; cases h2; exact k) (fun _ _ hh => by obtain ⟨h1, h2⟩ := hh; cases h1)
theorem mm_v3t {Γ : mm_G} {l : Launch} {M : mm_M} {d : Nat} {D : mm_D} {pc : Nat} {ls : mm_L} {rest : List Value} {h : mm_H} {idx : Nat} {M' : mm_M} {g : mm_H} {v1 v2 v3 : Value} {a : Nat} {ci : Nat} {fs : List Value} {kx : Nat} (hd : decode M.2.1 pc = .ok (.invokevirtual idx, 3)) (hL : mm_MV M.1.cls idx M' 3 ci) (hb : h.2.2 a = some (.inr (ci, fs))) (c1 : v1.category = 1) (c2 : v2.category = 1) (c3 : v3.category = 1) (hl : 4 ≤ M'.2.2.1) (hw : (rest.map fun v => v.category).sum + (M'.2.2.1 + 11) ≤ 60) (hE : mm_Ev Γ l d M' [.ref a, v1, v2, v3] h (mm_is (.inr kx) g)) (k : mm_Th Γ l M (d + 1) D pc ls kx g) : mm_W Γ l M (d + 1) D pc ls (v3 :: v2 :: v1 :: .ref a :: rest) h :=
  mm_callv (as := [v1, v2, v3]) (rest := rest) hd hL hb rfl (fun v hv => by simp only [List.mem_cons, List.not_mem_nil, or_false] at hv; rcases hv with rfl | rfl | rfl <;> assumption) hl hw hE (fun _ _ hh => by obtain ⟨h1, h2⟩ := hh; cases h1) (fun _ _ hh => by obtain ⟨h1, h2⟩ := hh; cases h1; cases h2; exact k)
theorem mm_v4 {Γ : mm_G} {l : Launch} {M : mm_M} {d : Nat} {D : mm_D} {pc : Nat} {ls : mm_L} {rest : List Value} {h : mm_H} {idx : Nat} {M' : mm_M} {g : mm_H} {v1 v2 v3 v4 : Value} {a : Nat} {ci : Nat} {fs : List Value} {r : Option Value} (hd : decode M.2.1 pc = .ok (.invokevirtual idx, 3)) (hL : mm_MV M.1.cls idx M' 4 ci) (hb : h.2.2 a = some (.inr (ci, fs))) (c1 : v1.category = 1) (c2 : v2.category = 1) (c3 : v3.category = 1) (c4 : v4.category = 1) (hl : 5 ≤ M'.2.2.1) (hw : (rest.map fun v => v.category).sum + (M'.2.2.1 + 11) ≤ 60) (hE : mm_Ev Γ l d M' [.ref a, v1, v2, v3, v4] h (mm_is (.inl r) g)) (k : mm_W Γ l M (d + 1) D (pc + 3) ls (r.toList ++ rest) g) : mm_W Γ l M (d + 1) D pc ls (v4 :: v3 :: v2 :: v1 :: .ref a :: rest) h :=
  mm_callv (as := [v1, v2, v3, v4]) (rest := rest) hd hL hb rfl (fun v hv => by simp only [List.mem_cons, List.not_mem_nil, or_false] at hv; rcases hv with rfl | rfl | rfl | rfl <;> assumption) hl hw hE (fun _ _ hh => by obtain ⟨h1, h2⟩ := hh; cases h1; cases h2; exact k) (fun _ _ hh => by obtain ⟨h1, h2⟩ := hh; cases h1)
theorem mm_v4t {Γ : mm_G} {l : Launch} {M : mm_M} {d : Nat} {D : mm_D} {pc : Nat} {ls : mm_L} {rest : List Value} {h : mm_H} {idx : Nat} {M' : mm_M} {g : mm_H} {v1 v2 v3 v4 : Value} {a : Nat} {ci : Nat} {fs : List Value} {kx : Nat} (hd : decode M.2.1 pc = .ok (.invokevirtual idx, 3)) (hL : mm_MV M.1.cls idx M' 4 ci) (hb : h.2.2 a = some (.inr (ci, fs))) (c1 : v1.category = 1) (c2 : v2.category = 1) (c3 : v3.category = 1) (c4 : v4.category = 1) (hl : 5 ≤ M'.2.2.1) (hw : (rest.map fun v => v.category).sum + (M'.2.2.1 + 11) ≤ 60) (hE : mm_Ev Γ l d M' [.ref a, v1, v2, v3, v4] h (mm_is (.inr kx) g)) (k : mm_Th Γ l M (d + 1) D pc ls kx g) : mm_W Γ l M (d + 1) D pc ls (v4 :: v3 :: v2 :: v1 :: .ref a :: rest) h :=
  mm_callv (as := [v1, v2, v3, v4]) (rest := rest) hd hL hb rfl (fun v hv => by simp only [List.mem_cons, List.not_mem_nil, or_false] at hv; rcases hv with rfl | rfl | rfl | rfl <;> assumption) hl hw hE (fun _ _ hh => by obtain ⟨h1, h2⟩ := hh; cases h1) (fun _ _ hh => by obtain ⟨h1, h2⟩ := hh; cases h1; cases h2; exact k)
theorem mm_v5 {Γ : mm_G} {l : Launch} {M : mm_M} {d : Nat} {D : mm_D} {pc : Nat} {ls : mm_L} {rest : List Value} {h : mm_H} {idx : Nat} {M' : mm_M} {g : mm_H} {v1 v2 v3 v4 v5 : Value} {a : Nat} {ci : Nat} {fs : List Value} {r : Option Value} (hd : decode M.2.1 pc = .ok (.invokevirtual idx, 3)) (hL : mm_MV M.1.cls idx M' 5 ci) (hb : h.2.2 a = some (.inr (ci, fs))) (c1 : v1.category = 1) (c2 : v2.category = 1) (c3 : v3.category = 1) (c4 : v4.category = 1) (c5 : v5.category = 1) (hl : 6 ≤ M'.2.2.1) (hw : (rest.map fun v => v.category).sum + (M'.2.2.1 + 11) ≤ 60) (hE : mm_Ev Γ l d M' [.ref a, v1, v2, v3, v4, v5] h (mm_is (.inl r) g)) (k : mm_W Γ l M (d + 1) D (pc + 3) ls (r.toList ++ rest) g) : mm_W Γ l M (d + 1) D pc ls (v5 :: v4 :: v3 :: v2 :: v1 :: .ref a :: rest) h :=
  mm_callv (as := [v1, v2, v3, v4, v5]) (rest := rest) hd hL hb rfl (fun v hv => by simp only [List.mem_cons, List.not_mem_nil, or_false] at hv; rcases hv with rfl | rfl | rfl | rfl | rfl <;> assumption) hl hw hE (fun _ _ hh => by obtain ⟨h1, h2⟩ := hh; cases h1; cases h2; exact k) (fun _ _ hh => by obtain ⟨h1, h2⟩ := hh; cases h1)
theorem mm_v5t {Γ : mm_G} {l : Launch} {M : mm_M} {d : Nat} {D : mm_D} {pc : Nat} {ls : mm_L} {rest : List Value} {h : mm_H} {idx : Nat} {M' : mm_M} {g : mm_H} {v1 v2 v3 v4 v5 : Value} {a : Nat} {ci : Nat} {fs : List Value} {kx : Nat} (hd : decode M.2.1 pc = .ok (.invokevirtual idx, 3)) (hL : mm_MV M.1.cls idx M' 5 ci) (hb : h.2.2 a = some (.inr (ci, fs))) (c1 : v1.category = 1) (c2 : v2.category = 1) (c3 : v3.category = 1) (c4 : v4.category = 1) (c5 : v5.category = 1) (hl : 6 ≤ M'.2.2.1) (hw : (rest.map fun v => v.category).sum + (M'.2.2.1 + 11) ≤ 60) (hE : mm_Ev Γ l d M' [.ref a, v1, v2, v3, v4, v5] h (mm_is (.inr kx) g)) (k : mm_Th Γ l M (d + 1) D pc ls kx g) : mm_W Γ l M (d + 1) D pc ls (v5 :: v4 :: v3 :: v2 :: v1 :: .ref a :: rest) h :=
  mm_callv (as := [v1, v2, v3, v4, v5]) (rest := rest) hd hL hb rfl (fun v hv => by simp only [List.mem_cons, List.not_mem_nil, or_false] at hv; rcases hv with rfl | rfl | rfl | rfl | rfl <;> assumption) hl hw hE (fun _ _ hh => by obtain ⟨h1, h2⟩ := hh; cases h1) (fun _ _ hh => by obtain ⟨h1, h2⟩ := hh; cases h1; cases h2; exact k)
theorem mm_v6 {Γ : mm_G} {l : Launch} {M : mm_M} {d : Nat} {D : mm_D} {pc : Nat} {ls : mm_L} {rest : List Value} {h : mm_H} {idx : Nat} {M' : mm_M} {g : mm_H} {v1 v2 v3 v4 v5 v6 : Value} {a : Nat} {ci : Nat} {fs : List Value} {r : Option Value} (hd : decode M.2.1 pc = .ok (.invokevirtual idx, 3)) (hL : mm_MV M.1.cls idx M' 6 ci) (hb : h.2.2 a = some (.inr (ci, fs))) (c1 : v1.category = 1) (c2 : v2.category = 1) (c3 : v3.category = 1) (c4 : v4.category = 1) (c5 : v5.category = 1) (c6 : v6.category = 1) (hl : 7 ≤ M'.2.2.1) (hw : (rest.map fun v => v.category).sum + (M'.2.2.1 + 11) ≤ 60) (hE : mm_Ev Γ l d M' [.ref a, v1, v2, v3, v4, v5, v6] h (mm_is (.inl r) g)) (k : mm_W Γ l M (d + 1) D (pc + 3) ls (r.toList ++ rest) g) : mm_W Γ l M (d + 1) D pc ls (v6 :: v5 :: v4 :: v3 :: v2 :: v1 :: .ref a :: rest) h :=
  mm_callv (as := [v1, v2, v3, v4, v5, v6]) (rest := rest) hd hL hb rfl (fun v hv => by simp only [List.mem_cons, List.not_mem_nil, or_false] at hv; rcases hv with rfl | rfl | rfl | rfl | rfl | rfl <;> assumption) hl hw hE (fun _ _ hh => by obtain ⟨h1, h2⟩ := hh; cases h1; cases h2; exact k) (fun _ _ hh => by obtain ⟨h1, h2⟩ := hh; cases h1)
theorem mm_v6t {Γ : mm_G} {l : Launch} {M : mm_M} {d : Nat} {D : mm_D} {pc : Nat} {ls : mm_L} {rest : List Value} {h : mm_H} {idx : Nat} {M' : mm_M} {g : mm_H} {v1 v2 v3 v4 v5 v6 : Value} {a : Nat} {ci : Nat} {fs : List Value} {kx : Nat} (hd : decode M.2.1 pc = .ok (.invokevirtual idx, 3)) (hL : mm_MV M.1.cls idx M' 6 ci) (hb : h.2.2 a = some (.inr (ci, fs))) (c1 : v1.category = 1) (c2 : v2.category = 1) (c3 : v3.category = 1) (c4 : v4.category = 1) (c5 : v5.category = 1) (c6 : v6.category = 1) (hl : 7 ≤ M'.2.2.1) (hw : (rest.map fun v => v.category).sum + (M'.2.2.1 + 11) ≤ 60) (hE : mm_Ev Γ l d M' [.ref a, v1, v2, v3, v4, v5, v6] h (mm_is (.inr kx) g)) (k : mm_Th Γ l M (d + 1) D pc ls kx g) : mm_W Γ l M (d + 1) D pc ls (v6 :: v5 :: v4 :: v3 :: v2 :: v1 :: .ref a :: rest) h :=
  mm_callv (as := [v1, v2, v3, v4, v5, v6]) (rest := rest) hd hL hb rfl (fun v hv => by simp only [List.mem_cons, List.not_mem_nil, or_false] at hv; rcases hv with rfl | rfl | rfl | rfl | rfl | rfl <;> assumption) hl hw hE (fun _ _ hh => by obtain ⟨h1, h2⟩ := hh; cases h1) (fun _ _ hh => by obtain ⟨h1, h2⟩ := hh; cases h1; cases h2; exact k)
theorem mm_v7 {Γ : mm_G} {l : Launch} {M : mm_M} {d : Nat} {D : mm_D} {pc : Nat} {ls : mm_L} {rest : List Value} {h : mm_H} {idx : Nat} {M' : mm_M} {g : mm_H} {v1 v2 v3 v4 v5 v6 v7 : Value} {a : Nat} {ci : Nat} {fs : List Value} {r : Option Value} (hd : decode M.2.1 pc = .ok (.invokevirtual idx, 3)) (hL : mm_MV M.1.cls idx M' 7 ci) (hb : h.2.2 a = some (.inr (ci, fs))) (c1 : v1.category = 1) (c2 : v2.category = 1) (c3 : v3.category = 1) (c4 : v4.category = 1) (c5 : v5.category = 1) (c6 : v6.category = 1) (c7 : v7.category = 1) (hl : 8 ≤ M'.2.2.1) (hw : (rest.map fun v => v.category).sum + (M'.2.2.1 + 11) ≤ 60) (hE : mm_Ev Γ l d M' [.ref a, v1, v2, v3, v4, v5, v6, v7] h (mm_is (.inl r) g)) (k : mm_W Γ l M (d + 1) D (pc + 3) ls (r.toList ++ rest) g) : mm_W Γ l M (d + 1) D pc ls (v7 :: v6 :: v5 :: v4 :: v3 :: v2 :: v1 :: .ref a :: rest) h :=
  mm_callv (as := [v1, v2, v3, v4, v5, v6, v7]) (rest := rest) hd hL hb rfl (fun v hv => by simp only [List.mem_cons, List.not_mem_nil, or_false] at hv; rcases hv with rfl | rfl | rfl | rfl | rfl | rfl | rfl <;> assumption) hl hw hE (fun _ _ hh => by obtain ⟨h1, h2⟩ := hh; cases h1; cases h2; exact k) (fun _ _ hh => by obtain ⟨h1, h2⟩ := hh; cases h1)
theorem mm_v7t {Γ : mm_G} {l : Launch} {M : mm_M} {d : Nat} {D : mm_D} {pc : Nat} {ls : mm_L} {rest : List Value} {h : mm_H} {idx : Nat} {M' : mm_M} {g : mm_H} {v1 v2 v3 v4 v5 v6 v7 : Value} {a : Nat} {ci : Nat} {fs : List Value} {kx : Nat} (hd : decode M.2.1 pc = .ok (.invokevirtual idx, 3)) (hL : mm_MV M.1.cls idx M' 7 ci) (hb : h.2.2 a = some (.inr (ci, fs))) (c1 : v1.category = 1) (c2 : v2.category = 1) (c3 : v3.category = 1) (c4 : v4.category = 1) (c5 : v5.category = 1) (c6 : v6.category = 1) (c7 : v7.category = 1) (hl : 8 ≤ M'.2.2.1) (hw : (rest.map fun v => v.category).sum + (M'.2.2.1 + 11) ≤ 60) (hE : mm_Ev Γ l d M' [.ref a, v1, v2, v3, v4, v5, v6, v7] h (mm_is (.inr kx) g)) (k : mm_Th Γ l M (d + 1) D pc ls kx g) : mm_W Γ l M (d + 1) D pc ls (v7 :: v6 :: v5 :: v4 :: v3 :: v2 :: v1 :: .ref a :: rest) h :=
  mm_callv (as := [v1, v2, v3, v4, v5, v6, v7]) (rest := rest) hd hL hb rfl (fun v hv => by simp only [List.mem_cons, List.not_mem_nil, or_false] at hv; rcases hv with rfl | rfl | rfl | rfl | rfl | rfl | rfl <;> assumption) hl hw hE (fun _ _ hh => by obtain ⟨h1, h2⟩ := hh; cases h1) (fun _ _ hh => by obtain ⟨h1, h2⟩ := hh; cases h1; cases h2; exact k)
theorem mm_i0 {Γ : mm_G} {l : Launch} {M : mm_M} {d : Nat} {D : mm_D} {pc : Nat} {ls : mm_L} {rest : List Value} {h : mm_H} {idx : Nat} {M' : mm_M} {g : mm_H} {a : Nat} {r : Option Value} (hd : decode M.2.1 pc = .ok (.invokespecial idx, 3)) (hL : mm_MI M.1.cls idx M' 0)  (hl : 1 ≤ M'.2.2.1) (hw : (rest.map fun v => v.category).sum + (M'.2.2.1 + 11) ≤ 60) (hE : mm_Ev Γ l d M' [.ref a] h (mm_is (.inl r) g)) (k : mm_W Γ l M (d + 1) D (pc + 3) ls (r.toList ++ rest) g) : mm_W Γ l M (d + 1) D pc ls (.ref a :: rest) h :=
  mm_calli (as := []) (rest := rest) hd hL rfl (fun v hv => nomatch hv) hl hw hE (fun _ _ hh => by obtain ⟨h1, h2⟩ := hh; cases h1; cases h2; exact k) (fun _ _ hh => by obtain ⟨h1, h2⟩ := hh; cases h1)
theorem mm_i0t {Γ : mm_G} {l : Launch} {M : mm_M} {d : Nat} {D : mm_D} {pc : Nat} {ls : mm_L} {rest : List Value} {h : mm_H} {idx : Nat} {M' : mm_M} {g : mm_H} {a : Nat} {kx : Nat} (hd : decode M.2.1 pc = .ok (.invokespecial idx, 3)) (hL : mm_MI M.1.cls idx M' 0)  (hl : 1 ≤ M'.2.2.1) (hw : (rest.map fun v => v.category).sum + (M'.2.2.1 + 11) ≤ 60) (hE : mm_Ev Γ l d M' [.ref a] h (mm_is (.inr kx) g)) (k : mm_Th Γ l M (d + 1) D pc ls kx g) : mm_W Γ l M (d + 1) D pc ls (.ref a :: rest) h :=
  mm_calli (as := []) (rest := rest) hd hL rfl (fun v hv => nomatch hv) hl hw hE (fun _ _ hh => by obtain ⟨h1, h2⟩ := hh; cases h1) (fun _ _ hh => by obtain ⟨h1, h2⟩ := hh; cases h1; cases h2; exact k)
theorem mm_i1 {Γ : mm_G} {l : Launch} {M : mm_M} {d : Nat} {D : mm_D} {pc : Nat} {ls : mm_L} {rest : List Value} {h : mm_H} {idx : Nat} {M' : mm_M} {g : mm_H} {v1 : Value} {a : Nat} {r : Option Value} (hd : decode M.2.1 pc = .ok (.invokespecial idx, 3)) (hL : mm_MI M.1.cls idx M' 1) (c1 : v1.category = 1) (hl : 2 ≤ M'.2.2.1) (hw : (rest.map fun v => v.category).sum + (M'.2.2.1 + 11) ≤ 60) (hE : mm_Ev Γ l d M' [.ref a, v1] h (mm_is (.inl r) g)) (k : mm_W Γ l M (d + 1) D (pc + 3) ls (r.toList ++ rest) g) : mm_W Γ l M (d + 1) D pc ls (v1 :: .ref a :: rest) h :=
  mm_calli (as := [v1]) (rest := rest) hd hL rfl (fun v hv => by simp only [List.mem_cons, List.not_mem_nil, or_false] at hv; rcases hv with rfl <;> assumption) hl hw hE (fun _ _ hh => by obtain ⟨h1, h2⟩ := hh; cases h1; cases h2; exact k) (fun _ _ hh => by obtain ⟨h1, h2⟩ := hh; cases h1)
theorem mm_i1t {Γ : mm_G} {l : Launch} {M : mm_M} {d : Nat} {D : mm_D} {pc : Nat} {ls : mm_L} {rest : List Value} {h : mm_H} {idx : Nat} {M' : mm_M} {g : mm_H} {v1 : Value} {a : Nat} {kx : Nat} (hd : decode M.2.1 pc = .ok (.invokespecial idx, 3)) (hL : mm_MI M.1.cls idx M' 1) (c1 : v1.category = 1) (hl : 2 ≤ M'.2.2.1) (hw : (rest.map fun v => v.category).sum + (M'.2.2.1 + 11) ≤ 60) (hE : mm_Ev Γ l d M' [.ref a, v1] h (mm_is (.inr kx) g)) (k : mm_Th Γ l M (d + 1) D pc ls kx g) : mm_W Γ l M (d + 1) D pc ls (v1 :: .ref a :: rest) h :=
  mm_calli (as := [v1]) (rest := rest) hd hL rfl (fun v hv => by simp only [List.mem_cons, List.not_mem_nil, or_false] at hv; rcases hv with rfl <;> assumption) hl hw hE (fun _ _ hh => by obtain ⟨h1, h2⟩ := hh; cases h1) (fun _ _ hh => by obtain ⟨h1, h2⟩ := hh; cases h1; cases h2; exact k)
theorem mm_i2 {Γ : mm_G} {l : Launch} {M : mm_M} {d : Nat} {D : mm_D} {pc : Nat} {ls : mm_L} {rest : List Value} {h : mm_H} {idx : Nat} {M' : mm_M} {g : mm_H} {v1 v2 : Value} {a : Nat} {r : Option Value} (hd : decode M.2.1 pc = .ok (.invokespecial idx, 3)) (hL : mm_MI M.1.cls idx M' 2) (c1 : v1.category = 1) (c2 : v2.category = 1) (hl : 3 ≤ M'.2.2.1) (hw : (rest.map fun v => v.category).sum + (M'.2.2.1 + 11) ≤ 60) (hE : mm_Ev Γ l d M' [.ref a, v1, v2] h (mm_is (.inl r) g)) (k : mm_W Γ l M (d + 1) D (pc + 3) ls (r.toList ++ rest) g) : mm_W Γ l M (d + 1) D pc ls (v2 :: v1 :: .ref a :: rest) h :=
  mm_calli (as := [v1, v2]) (rest := rest) hd hL rfl (fun v hv => by simp only [List.mem_cons, List.not_mem_nil, or_false] at hv; rcases hv with rfl | rfl <;> assumption) hl hw hE (fun _ _ hh => by obtain ⟨h1, h2⟩ := hh; cases h1; cases h2; exact k) (fun _ _ hh => by obtain ⟨h1, h2⟩ := hh; cases h1)
theorem mm_i2t {Γ : mm_G} {l : Launch} {M : mm_M} {d : Nat} {D : mm_D} {pc : Nat} {ls : mm_L} {rest : List Value} {h : mm_H} {idx : Nat} {M' : mm_M} {g : mm_H} {v1 v2 : Value} {a : Nat} {kx : Nat} (hd : decode M.2.1 pc = .ok (.invokespecial idx, 3)) (hL : mm_MI M.1.cls idx M' 2) (c1 : v1.category = 1) (c2 : v2.category = 1) (hl : 3 ≤ M'.2.2.1) (hw : (rest.map fun v => v.category).sum + (M'.2.2.1 + 11) ≤ 60) (hE : mm_Ev Γ l d M' [.ref a, v1, v2] h (mm_is (.inr kx) g)) (k : mm_Th Γ l M (d + 1) D pc ls kx g) : mm_W Γ l M (d + 1) D pc ls (v2 :: v1 :: .ref a :: rest) h :=
  mm_calli (as := [v1, v2]) (rest := rest) hd hL rfl (fun v hv => by simp only [List.mem_cons, List.not_mem_nil, or_false] at hv; rcases hv with rfl | rfl <;> assumption) hl hw hE (fun _ _ hh => by obtain ⟨h1, h2⟩ := hh; cases h1) (fun _ _ hh => by obtain ⟨h1, h2⟩ := hh; cases h1; cases h2; exact k)
theorem mm_i3 {Γ : mm_G} {l : Launch} {M : mm_M} {d : Nat} {D : mm_D} {pc : Nat} {ls : mm_L} {rest : List Value} {h : mm_H} {idx : Nat} {M' : mm_M} {g : mm_H} {v1 v2 v3 : Value} {a : Nat} {r : Option Value} (hd : decode M.2.1 pc = .ok (.invokespecial idx, 3)) (hL : mm_MI M.1.cls idx M' 3) (c1 : v1.category = 1) (c2 : v2.category = 1) (c3 : v3.category = 1) (hl : 4 ≤ M'.2.2.1) (hw : (rest.map fun v => v.category).sum + (M'.2.2.1 + 11) ≤ 60) (hE : mm_Ev Γ l d M' [.ref a, v1, v2, v3] h (mm_is (.inl r) g)) (k : mm_W Γ l M (d + 1) D (pc + 3) ls (r.toList ++ rest) g) : mm_W Γ l M (d + 1) D pc ls (v3 :: v2 :: v1 :: .ref a :: rest) h :=
  mm_calli (as := [v1, v2, v3]) (rest := rest) hd hL rfl (fun v hv => by simp only [List.mem_cons, List.not_mem_nil, or_false] at hv; rcases hv with rfl | rfl | rfl <;> assumption) hl hw hE (fun _ _ hh => by obtain ⟨h1, h2⟩ := hh; cases h1; cases h2; exact k) (fun _ _ hh => by obtain ⟨h1, h2⟩ := hh; cases h1)
theorem mm_i3t {Γ : mm_G} {l : Launch} {M : mm_M} {d : Nat} {D : mm_D} {pc : Nat} {ls : mm_L} {rest : List Value} {h : mm_H} {idx : Nat} {M' : mm_M} {g : mm_H} {v1 v2 v3 : Value} {a : Nat} {kx : Nat} (hd : decode M.2.1 pc = .ok (.invokespecial idx, 3)) (hL : mm_MI M.1.cls idx M' 3) (c1 : v1.category = 1) (c2 : v2.category = 1) (c3 : v3.category = 1) (hl : 4 ≤ M'.2.2.1) (hw : (rest.map fun v => v.category).sum + (M'.2.2.1 + 11) ≤ 60) (hE : mm_Ev Γ l d M' [.ref a, v1, v2, v3] h (mm_is (.inr kx) g)) (k : mm_Th Γ l M (d + 1) D pc ls kx g) : mm_W Γ l M (d + 1) D pc ls (v3 :: v2 :: v1 :: .ref a :: rest) h :=
  mm_calli (as := [v1, v2, v3]) (rest := rest) hd hL rfl (fun v hv => by simp only [List.mem_cons, List.not_mem_nil, or_false] at hv; rcases hv with rfl | rfl | rfl <;> assumption) hl hw hE (fun _ _ hh => by obtain ⟨h1, h2⟩ := hh; cases h1) (fun _ _ hh => by obtain ⟨h1, h2⟩ := hh; cases h1; cases h2; exact k)
theorem mm_i4 {Γ : mm_G} {l : Launch} {M : mm_M} {d : Nat} {D : mm_D} {pc : Nat} {ls : mm_L} {rest : List Value} {h : mm_H} {idx : Nat} {M' : mm_M} {g : mm_H} {v1 v2 v3 v4 : Value} {a : Nat} {r : Option Value} (hd : decode M.2.1 pc = .ok (.invokespecial idx, 3)) (hL : mm_MI M.1.cls idx M' 4) (c1 : v1.category = 1) (c2 : v2.category = 1) (c3 : v3.category = 1) (c4 : v4.category = 1) (hl : 5 ≤ M'.2.2.1) (hw : (rest.map fun v => v.category).sum + (M'.2.2.1 + 11) ≤ 60) (hE : mm_Ev Γ l d M' [.ref a, v1, v2, v3, v4] h (mm_is (.inl r) g)) (k : mm_W Γ l M (d + 1) D (pc + 3) ls (r.toList ++ rest) g) : mm_W Γ l M (d + 1) D pc ls (v4 :: v3 :: v2 :: v1 :: .ref a :: rest) h :=
  mm_calli (as := [v1, v2, v3, v4]) (rest := rest) hd hL rfl (fun v hv => by simp only [List.mem_cons, List.not_mem_nil, or_false] at hv; rcases hv with rfl | rfl | rfl | rfl <;> assumption) hl hw hE (fun _ _ hh => by obtain ⟨h1, h2⟩ := hh; cases h1; cases h2; exact k) (fun _ _ hh => by obtain ⟨h1, h2⟩ := hh; cases h1)
theorem mm_i4t {Γ : mm_G} {l : Launch} {M : mm_M} {d : Nat} {D : mm_D} {pc : Nat} {ls : mm_L} {rest : List Value} {h : mm_H} {idx : Nat} {M' : mm_M} {g : mm_H} {v1 v2 v3 v4 : Value} {a : Nat} {kx : Nat} (hd : decode M.2.1 pc = .ok (.invokespecial idx, 3)) (hL : mm_MI M.1.cls idx M' 4) (c1 : v1.category = 1) (c2 : v2.category = 1) (c3 : v3.category = 1) (c4 : v4.category = 1) (hl : 5 ≤ M'.2.2.1) (hw : (rest.map fun v => v.category).sum + (M'.2.2.1 + 11) ≤ 60) (hE : mm_Ev Γ l d M' [.ref a, v1, v2, v3, v4] h (mm_is (.inr kx) g)) (k : mm_Th Γ l M (d + 1) D pc ls kx g) : mm_W Γ l M (d + 1) D pc ls (v4 :: v3 :: v2 :: v1 :: .ref a :: rest) h :=
  mm_calli (as := [v1, v2, v3, v4]) (rest := rest) hd hL rfl (fun v hv => by simp only [List.mem_cons, List.not_mem_nil, or_false] at hv; rcases hv with rfl | rfl | rfl | rfl <;> assumption) hl hw hE (fun _ _ hh => by obtain ⟨h1, h2⟩ := hh; cases h1) (fun _ _ hh => by obtain ⟨h1, h2⟩ := hh; cases h1; cases h2; exact k)
theorem mm_i5 {Γ : mm_G} {l : Launch} {M : mm_M} {d : Nat} {D : mm_D} {pc : Nat} {ls : mm_L} {rest : List Value} {h : mm_H} {idx : Nat} {M' : mm_M} {g : mm_H} {v1 v2 v3 v4 v5 : Value} {a : Nat} {r : Option Value} (hd : decode M.2.1 pc = .ok (.invokespecial idx, 3)) (hL : mm_MI M.1.cls idx M' 5) (c1 : v1.category = 1) (c2 : v2.category = 1) (c3 : v3.category = 1) (c4 : v4.category = 1) (c5 : v5.category = 1) (hl : 6 ≤ M'.2.2.1) (hw : (rest.map fun v => v.category).sum + (M'.2.2.1 + 11) ≤ 60) (hE : mm_Ev Γ l d M' [.ref a, v1, v2, v3, v4, v5] h (mm_is (.inl r) g)) (k : mm_W Γ l M (d + 1) D (pc + 3) ls (r.toList ++ rest) g) : mm_W Γ l M (d + 1) D pc ls (v5 :: v4 :: v3 :: v2 :: v1 :: .ref a :: rest) h :=
  mm_calli (as := [v1, v2, v3, v4, v5]) (rest := rest) hd hL rfl (fun v hv => by simp only [List.mem_cons, List.not_mem_nil, or_false] at hv; rcases hv with rfl | rfl | rfl | rfl | rfl <;> assumption) hl hw hE (fun _ _ hh => by obtain ⟨h1, h2⟩ := hh; cases h1; cases h2; exact k) (fun _ _ hh => by obtain ⟨h1, h2⟩ := hh; cases h1)
theorem mm_i5t {Γ : mm_G} {l : Launch} {M : mm_M} {d : Nat} {D : mm_D} {pc : Nat} {ls : mm_L} {rest : List Value} {h : mm_H} {idx : Nat} {M' : mm_M} {g : mm_H} {v1 v2 v3 v4 v5 : Value} {a : Nat} {kx : Nat} (hd : decode M.2.1 pc = .ok (.invokespecial idx, 3)) (hL : mm_MI M.1.cls idx M' 5) (c1 : v1.category = 1) (c2 : v2.category = 1) (c3 : v3.category = 1) (c4 : v4.category = 1) (c5 : v5.category = 1) (hl : 6 ≤ M'.2.2.1) (hw : (rest.map fun v => v.category).sum + (M'.2.2.1 + 11) ≤ 60) (hE : mm_Ev Γ l d M' [.ref a, v1, v2, v3, v4, v5] h (mm_is (.inr kx) g)) (k : mm_Th Γ l M (d + 1) D pc ls kx g) : mm_W Γ l M (d + 1) D pc ls (v5 :: v4 :: v3 :: v2 :: v1 :: .ref a :: rest) h :=
  mm_calli (as := [v1, v2, v3, v4, v5]) (rest := rest) hd hL rfl (fun v hv => by simp only [List.mem_cons, List.not_mem_nil, or_false] at hv; rcases hv with rfl | rfl | rfl | rfl | rfl <;> assumption) hl hw hE (fun _ _ hh => by obtain ⟨h1, h2⟩ := hh; cases h1) (fun _ _ hh => by obtain ⟨h1, h2⟩ := hh; cases h1; cases h2; exact k)
theorem mm_i6 {Γ : mm_G} {l : Launch} {M : mm_M} {d : Nat} {D : mm_D} {pc : Nat} {ls : mm_L} {rest : List Value} {h : mm_H} {idx : Nat} {M' : mm_M} {g : mm_H} {v1 v2 v3 v4 v5 v6 : Value} {a : Nat} {r : Option Value} (hd : decode M.2.1 pc = .ok (.invokespecial idx, 3)) (hL : mm_MI M.1.cls idx M' 6) (c1 : v1.category = 1) (c2 : v2.category = 1) (c3 : v3.category = 1) (c4 : v4.category = 1) (c5 : v5.category = 1) (c6 : v6.category = 1) (hl : 7 ≤ M'.2.2.1) (hw : (rest.map fun v => v.category).sum + (M'.2.2.1 + 11) ≤ 60) (hE : mm_Ev Γ l d M' [.ref a, v1, v2, v3, v4, v5, v6] h (mm_is (.inl r) g)) (k : mm_W Γ l M (d + 1) D (pc + 3) ls (r.toList ++ rest) g) : mm_W Γ l M (d + 1) D pc ls (v6 :: v5 :: v4 :: v3 :: v2 :: v1 :: .ref a :: rest) h :=
  mm_calli (as := [v1, v2, v3, v4, v5, v6]) (rest := rest) hd hL rfl (fun v hv => by simp only [List.mem_cons, List.not_mem_nil, or_false] at hv; rcases hv with rfl | rfl | rfl | rfl | rfl | rfl <;> assumption) hl hw hE (fun _ _ hh => by obtain ⟨h1, h2⟩ := hh; cases h1; cases h2; exact k) (fun _ _ hh => by obtain ⟨h1, h2⟩ := hh; cases h1)
theorem mm_i6t {Γ : mm_G} {l : Launch} {M : mm_M} {d : Nat} {D : mm_D} {pc : Nat} {ls : mm_L} {rest : List Value} {h : mm_H} {idx : Nat} {M' : mm_M} {g : mm_H} {v1 v2 v3 v4 v5 v6 : Value} {a : Nat} {kx : Nat} (hd : decode M.2.1 pc = .ok (.invokespecial idx, 3)) (hL : mm_MI M.1.cls idx M' 6) (c1 : v1.category = 1) (c2 : v2.category = 1) (c3 : v3.category = 1) (c4 : v4.category = 1) (c5 : v5.category = 1) (c6 : v6.category = 1) (hl : 7 ≤ M'.2.2.1) (hw : (rest.map fun v => v.category).sum + (M'.2.2.1 + 11) ≤ 60) (hE : mm_Ev Γ l d M' [.ref a, v1, v2, v3, v4, v5, v6] h (mm_is (.inr kx) g)) (k : mm_Th Γ l M (d + 1) D pc ls kx g) : mm_W Γ l M (d + 1) D pc ls (v6 :: v5 :: v4 :: v3 :: v2 :: v1 :: .ref a :: rest) h :=
  mm_calli (as := [v1, v2, v3, v4, v5, v6]) (rest := rest) hd hL rfl (fun v hv => by simp only [List.mem_cons, List.not_mem_nil, or_false] at hv; rcases hv with rfl | rfl | rfl | rfl | rfl | rfl <;> assumption) hl hw hE (fun _ _ hh => by obtain ⟨h1, h2⟩ := hh; cases h1) (fun _ _ hh => by obtain ⟨h1, h2⟩ := hh; cases h1; cases h2; exact k)
theorem mm_i7 {Γ : mm_G} {l : Launch} {M : mm_M} {d : Nat} {D : mm_D} {pc : Nat} {ls : mm_L} {rest : List Value} {h : mm_H} {idx : Nat} {M' : mm_M} {g : mm_H} {v1 v2 v3 v4 v5 v6 v7 : Value} {a : Nat} {r : Option Value} (hd : decode M.2.1 pc = .ok (.invokespecial idx, 3)) (hL : mm_MI M.1.cls idx M' 7) (c1 : v1.category = 1) (c2 : v2.category = 1) (c3 : v3.category = 1) (c4 : v4.category = 1) (c5 : v5.category = 1) (c6 : v6.category = 1) (c7 : v7.category = 1) (hl : 8 ≤ M'.2.2.1) (hw : (rest.map fun v => v.category).sum + (M'.2.2.1 + 11) ≤ 60) (hE : mm_Ev Γ l d M' [.ref a, v1, v2, v3, v4, v5, v6, v7] h (mm_is (.inl r) g)) (k : mm_W Γ l M (d + 1) D (pc + 3) ls (r.toList ++ rest) g) : mm_W Γ l M (d + 1) D pc ls (v7 :: v6 :: v5 :: v4 :: v3 :: v2 :: v1 :: .ref a :: rest) h :=
  mm_calli (as := [v1, v2, v3, v4, v5, v6, v7]) (rest := rest) hd hL rfl (fun v hv => by simp only [List.mem_cons, List.not_mem_nil, or_false] at hv; rcases hv with rfl | rfl | rfl | rfl | rfl | rfl | rfl <;> assumption) hl hw hE (fun _ _ hh => by obtain ⟨h1, h2⟩ := hh; cases h1; cases h2; exact k) (fun _ _ hh => by obtain ⟨h1, h2⟩ := hh; cases h1)
theorem mm_i7t {Γ : mm_G} {l : Launch} {M : mm_M} {d : Nat} {D : mm_D} {pc : Nat} {ls : mm_L} {rest : List Value} {h : mm_H} {idx : Nat} {M' : mm_M} {g : mm_H} {v1 v2 v3 v4 v5 v6 v7 : Value} {a : Nat} {kx : Nat} (hd : decode M.2.1 pc = .ok (.invokespecial idx, 3)) (hL : mm_MI M.1.cls idx M' 7) (c1 : v1.category = 1) (c2 : v2.category = 1) (c3 : v3.category = 1) (c4 : v4.category = 1) (c5 : v5.category = 1) (c6 : v6.category = 1) (c7 : v7.category = 1) (hl : 8 ≤ M'.2.2.1) (hw : (rest.map fun v => v.category).sum + (M'.2.2.1 + 11) ≤ 60) (hE : mm_Ev Γ l d M' [.ref a, v1, v2, v3, v4, v5, v6, v7] h (mm_is (.inr kx) g)) (k : mm_Th Γ l M (d + 1) D pc ls kx g) : mm_W Γ l M (d + 1) D pc ls (v7 :: v6 :: v5 :: v4 :: v3 :: v2 :: v1 :: .ref a :: rest) h :=
  mm_calli (as := [v1, v2, v3, v4, v5, v6, v7]) (rest := rest) hd hL rfl (fun v hv => by simp only [List.mem_cons, List.not_mem_nil, or_false] at hv; rcases hv with rfl | rfl | rfl | rfl | rfl | rfl | rfl <;> assumption) hl hw hE (fun _ _ hh => by obtain ⟨h1, h2⟩ := hh; cases h1) (fun _ _ hh => by obtain ⟨h1, h2⟩ := hh; cases h1; cases h2; exact k)
end
section
/-! Branch rows over numbers, printed by wip/whole/gen_nat.py -/
/-- a number or none -/
def mm_enc (o : Option Nat) : Int32 := match o with
  | none => -1
  | some n => nI n
def mm_bI (b : Bool) : Int32 := if b then 1 else 0
def mm_sm (o : Option Nat) : Prop := ∀ n, o = some n → n < 2 ^ 31
theorem mm_sm_none : mm_sm none := fun n h => nomatch h
theorem mm_sm_some {k : Nat} (h : k < 2 ^ 31) : mm_sm (some k) := fun n e => by cases e; exact h
theorem mm_neg_ne {n : Nat} (h : n < 2 ^ 31) : ¬ nI n = -1 := by
  intro e
  have h1 := congrArg Int32.toInt e
  rw [nI_toInt h] at h1
  have h2 : (-1 : Int32).toInt = -1 := by decide
  omega
theorem mm_enc_none {o : Option Nat} (hs : mm_sm o) : mm_enc o = -1 ↔ o = none := by
  cases o with
  | none => exact ⟨fun _ => rfl, fun _ => rfl⟩
  | some n => exact ⟨fun e => absurd e (mm_neg_ne (hs n rfl)), fun e => nomatch e⟩
theorem mm_enc_some {o : Option Nat} {k : Nat} (hs : mm_sm o) (hk : k < 2 ^ 31) : mm_enc o = nI k ↔ o = some k := by
  cases o with
  | none => exact ⟨fun e => absurd e.symm (mm_neg_ne hk), fun e => nomatch e⟩
  | some n => exact ⟨fun e => by rw [(nI_eq (hs n rfl) hk).mp e], fun e => by cases e; rfl⟩
theorem mm_enc_eq {o o' : Option Nat} (hs : mm_sm o) (hs' : mm_sm o') : mm_enc o = mm_enc o' ↔ o = o' := by
  cases o' with
  | none => exact mm_enc_none hs
  | some k => exact mm_enc_some hs (hs' k rfl)
theorem mm_bI_0 {b : Bool} : mm_bI b = 0 ↔ b = false := by cases b <;> decide
theorem mm_bI_narrow (b : Bool) : narrow .boolean (.int (mm_bI b)) = .int (mm_bI b) := by cases b <;> rfl
theorem mm_nI0 {a : Nat} (h : a < 2 ^ 31) : nI a = 0 ↔ a = 0 := nI_eq (b := 0) h (by decide)
theorem mm_icmp_eq_n {Γ : mm_G} {l : Launch} {M : mm_M} {d : Nat} {D : mm_D} {pc : Nat} {ls : mm_L} {st : List Value} {h : mm_H} {off : Int} {tgt : Nat} {a b : Nat} (hd : decode M.2.1 pc = .ok (.if_icmp .eq off, 3)) (ht : (pc : Int) + off = (tgt : Int)) (ha : a < 2 ^ 31) (hb : b < 2 ^ 31) (kt : a = b → mm_W Γ l M d D (tgt) ls (st) h) (kf : ¬ a = b → mm_W Γ l M d D (pc + 3) ls (st) h) : mm_W Γ l M d D (pc) ls (.int (nI b) :: .int (nI a) :: st) h :=
  mm_icmp_eq hd ht (fun q => kt ((nI_eq ha hb).mp q)) (fun q => kf (fun w => q ((nI_eq ha hb).mpr w)))
theorem mm_icmp_ne_n {Γ : mm_G} {l : Launch} {M : mm_M} {d : Nat} {D : mm_D} {pc : Nat} {ls : mm_L} {st : List Value} {h : mm_H} {off : Int} {tgt : Nat} {a b : Nat} (hd : decode M.2.1 pc = .ok (.if_icmp .ne off, 3)) (ht : (pc : Int) + off = (tgt : Int)) (ha : a < 2 ^ 31) (hb : b < 2 ^ 31) (kt : ¬ a = b → mm_W Γ l M d D (tgt) ls (st) h) (kf : a = b → mm_W Γ l M d D (pc + 3) ls (st) h) : mm_W Γ l M d D (pc) ls (.int (nI b) :: .int (nI a) :: st) h :=
  mm_icmp_ne hd ht (fun q => kt (fun w => q ((nI_eq ha hb).mpr w))) (fun q => kf ((nI_eq ha hb).mp q))
theorem mm_icmp_lt_n {Γ : mm_G} {l : Launch} {M : mm_M} {d : Nat} {D : mm_D} {pc : Nat} {ls : mm_L} {st : List Value} {h : mm_H} {off : Int} {tgt : Nat} {a b : Nat} (hd : decode M.2.1 pc = .ok (.if_icmp .lt off, 3)) (ht : (pc : Int) + off = (tgt : Int)) (ha : a < 2 ^ 31) (hb : b < 2 ^ 31) (kt : a < b → mm_W Γ l M d D (tgt) ls (st) h) (kf : b ≤ a → mm_W Γ l M d D (pc + 3) ls (st) h) : mm_W Γ l M d D (pc) ls (.int (nI b) :: .int (nI a) :: st) h :=
  mm_icmp_lt hd ht (fun q => kt ((nI_ltI ha hb).mp q)) (fun q => kf (Nat.le_of_not_lt fun w => q ((nI_ltI ha hb).mpr w)))
theorem mm_icmp_ge_n {Γ : mm_G} {l : Launch} {M : mm_M} {d : Nat} {D : mm_D} {pc : Nat} {ls : mm_L} {st : List Value} {h : mm_H} {off : Int} {tgt : Nat} {a b : Nat} (hd : decode M.2.1 pc = .ok (.if_icmp .ge off, 3)) (ht : (pc : Int) + off = (tgt : Int)) (ha : a < 2 ^ 31) (hb : b < 2 ^ 31) (kt : b ≤ a → mm_W Γ l M d D (tgt) ls (st) h) (kf : a < b → mm_W Γ l M d D (pc + 3) ls (st) h) : mm_W Γ l M d D (pc) ls (.int (nI b) :: .int (nI a) :: st) h :=
  mm_icmp_ge hd ht (fun q => kt ((nI_leI hb ha).mp q)) (fun q => kf (Nat.lt_of_not_le fun w => q ((nI_leI hb ha).mpr w)))
theorem mm_icmp_gt_n {Γ : mm_G} {l : Launch} {M : mm_M} {d : Nat} {D : mm_D} {pc : Nat} {ls : mm_L} {st : List Value} {h : mm_H} {off : Int} {tgt : Nat} {a b : Nat} (hd : decode M.2.1 pc = .ok (.if_icmp .gt off, 3)) (ht : (pc : Int) + off = (tgt : Int)) (ha : a < 2 ^ 31) (hb : b < 2 ^ 31) (kt : b < a → mm_W Γ l M d D (tgt) ls (st) h) (kf : a ≤ b → mm_W Γ l M d D (pc + 3) ls (st) h) : mm_W Γ l M d D (pc) ls (.int (nI b) :: .int (nI a) :: st) h :=
  mm_icmp_gt hd ht (fun q => kt ((nI_ltI hb ha).mp q)) (fun q => kf (Nat.le_of_not_lt fun w => q ((nI_ltI hb ha).mpr w)))
theorem mm_icmp_le_n {Γ : mm_G} {l : Launch} {M : mm_M} {d : Nat} {D : mm_D} {pc : Nat} {ls : mm_L} {st : List Value} {h : mm_H} {off : Int} {tgt : Nat} {a b : Nat} (hd : decode M.2.1 pc = .ok (.if_icmp .le off, 3)) (ht : (pc : Int) + off = (tgt : Int)) (ha : a < 2 ^ 31) (hb : b < 2 ^ 31) (kt : a ≤ b → mm_W Γ l M d D (tgt) ls (st) h) (kf : b < a → mm_W Γ l M d D (pc + 3) ls (st) h) : mm_W Γ l M d D (pc) ls (.int (nI b) :: .int (nI a) :: st) h :=
  mm_icmp_le hd ht (fun q => kt ((nI_leI ha hb).mp q)) (fun q => kf (Nat.lt_of_not_le fun w => q ((nI_leI ha hb).mpr w)))
theorem mm_if_eq_n {Γ : mm_G} {l : Launch} {M : mm_M} {d : Nat} {D : mm_D} {pc : Nat} {ls : mm_L} {st : List Value} {h : mm_H} {off : Int} {tgt : Nat} {a : Nat} (hd : decode M.2.1 pc = .ok (.ifCond .eq off, 3)) (ht : (pc : Int) + off = (tgt : Int)) (ha : a < 2 ^ 31) (kt : a = 0 → mm_W Γ l M d D (tgt) ls (st) h) (kf : ¬ a = 0 → mm_W Γ l M d D (pc + 3) ls (st) h) : mm_W Γ l M d D (pc) ls (.int (nI a) :: st) h :=
  mm_if_eq hd ht (fun q => kt ((mm_nI0 ha).mp q)) (fun q => kf (fun w => q ((mm_nI0 ha).mpr w)))
theorem mm_if_ne_n {Γ : mm_G} {l : Launch} {M : mm_M} {d : Nat} {D : mm_D} {pc : Nat} {ls : mm_L} {st : List Value} {h : mm_H} {off : Int} {tgt : Nat} {a : Nat} (hd : decode M.2.1 pc = .ok (.ifCond .ne off, 3)) (ht : (pc : Int) + off = (tgt : Int)) (ha : a < 2 ^ 31) (kt : ¬ a = 0 → mm_W Γ l M d D (tgt) ls (st) h) (kf : a = 0 → mm_W Γ l M d D (pc + 3) ls (st) h) : mm_W Γ l M d D (pc) ls (.int (nI a) :: st) h :=
  mm_if_ne hd ht (fun q => kt (fun w => q ((mm_nI0 ha).mpr w))) (fun q => kf ((mm_nI0 ha).mp q))
theorem mm_if_gt_n {Γ : mm_G} {l : Launch} {M : mm_M} {d : Nat} {D : mm_D} {pc : Nat} {ls : mm_L} {st : List Value} {h : mm_H} {off : Int} {tgt : Nat} {a : Nat} (hd : decode M.2.1 pc = .ok (.ifCond .gt off, 3)) (ht : (pc : Int) + off = (tgt : Int)) (ha : a < 2 ^ 31) (kt : 0 < a → mm_W Γ l M d D (tgt) ls (st) h) (kf : a = 0 → mm_W Γ l M d D (pc + 3) ls (st) h) : mm_W Γ l M d D (pc) ls (.int (nI a) :: st) h :=
  mm_if_gt hd ht (fun q => kt ((nI_ltI (a := 0) (by decide) ha).mp q)) (fun q => kf (Nat.le_zero.mp (Nat.le_of_not_lt fun w => q ((nI_ltI (a := 0) (by decide) ha).mpr w))))
theorem mm_if_le_n {Γ : mm_G} {l : Launch} {M : mm_M} {d : Nat} {D : mm_D} {pc : Nat} {ls : mm_L} {st : List Value} {h : mm_H} {off : Int} {tgt : Nat} {a : Nat} (hd : decode M.2.1 pc = .ok (.ifCond .le off, 3)) (ht : (pc : Int) + off = (tgt : Int)) (ha : a < 2 ^ 31) (kt : a = 0 → mm_W Γ l M d D (tgt) ls (st) h) (kf : 0 < a → mm_W Γ l M d D (pc + 3) ls (st) h) : mm_W Γ l M d D (pc) ls (.int (nI a) :: st) h :=
  mm_if_le hd ht (fun q => kt (Nat.le_zero.mp ((nI_leI (b := 0) ha (by decide)).mp q))) (fun q => kf (Nat.lt_of_not_le fun w => q ((nI_leI (b := 0) ha (by decide)).mpr w)))
theorem mm_if_eq_b {Γ : mm_G} {l : Launch} {M : mm_M} {d : Nat} {D : mm_D} {pc : Nat} {ls : mm_L} {st : List Value} {h : mm_H} {off : Int} {tgt : Nat} {b : Bool} (hd : decode M.2.1 pc = .ok (.ifCond .eq off, 3)) (ht : (pc : Int) + off = (tgt : Int))  (kt : b = false → mm_W Γ l M d D (tgt) ls (st) h) (kf : b = true → mm_W Γ l M d D (pc + 3) ls (st) h) : mm_W Γ l M d D (pc) ls (.int (mm_bI b) :: st) h :=
  mm_if_eq hd ht (fun q => kt (mm_bI_0.mp q)) (fun q => kf ((by cases b with | true => rfl | false => exact absurd rfl q)))
theorem mm_if_ne_b {Γ : mm_G} {l : Launch} {M : mm_M} {d : Nat} {D : mm_D} {pc : Nat} {ls : mm_L} {st : List Value} {h : mm_H} {off : Int} {tgt : Nat} {b : Bool} (hd : decode M.2.1 pc = .ok (.ifCond .ne off, 3)) (ht : (pc : Int) + off = (tgt : Int))  (kt : b = true → mm_W Γ l M d D (tgt) ls (st) h) (kf : b = false → mm_W Γ l M d D (pc + 3) ls (st) h) : mm_W Γ l M d D (pc) ls (.int (mm_bI b) :: st) h :=
  mm_if_ne hd ht (fun q => kt ((by cases b with | true => rfl | false => exact absurd rfl q))) (fun q => kf (mm_bI_0.mp q))
theorem mm_icmp_eq_o {Γ : mm_G} {l : Launch} {M : mm_M} {d : Nat} {D : mm_D} {pc : Nat} {ls : mm_L} {st : List Value} {h : mm_H} {off : Int} {tgt : Nat} {o : Option Nat} (hd : decode M.2.1 pc = .ok (.if_icmp .eq off, 3)) (ht : (pc : Int) + off = (tgt : Int)) (hs : mm_sm o) (kt : o = none → mm_W Γ l M d D (tgt) ls (st) h) (kf : ¬ o = none → mm_W Γ l M d D (pc + 3) ls (st) h) : mm_W Γ l M d D (pc) ls (.int (-1) :: .int (mm_enc o) :: st) h :=
  mm_icmp_eq hd ht (fun q => kt ((mm_enc_none hs).mp q)) (fun q => kf (fun w => q ((mm_enc_none hs).mpr w)))
theorem mm_icmp_eq_k {Γ : mm_G} {l : Launch} {M : mm_M} {d : Nat} {D : mm_D} {pc : Nat} {ls : mm_L} {st : List Value} {h : mm_H} {off : Int} {tgt : Nat} {o : Option Nat} {k : Nat} (hd : decode M.2.1 pc = .ok (.if_icmp .eq off, 3)) (ht : (pc : Int) + off = (tgt : Int)) (hs : mm_sm o) (hk : k < 2 ^ 31) (kt : o = some k → mm_W Γ l M d D (tgt) ls (st) h) (kf : ¬ o = some k → mm_W Γ l M d D (pc + 3) ls (st) h) : mm_W Γ l M d D (pc) ls (.int (nI k) :: .int (mm_enc o) :: st) h :=
  mm_icmp_eq hd ht (fun q => kt ((mm_enc_some hs hk).mp q)) (fun q => kf (fun w => q ((mm_enc_some hs hk).mpr w)))
theorem mm_icmp_eq_e {Γ : mm_G} {l : Launch} {M : mm_M} {d : Nat} {D : mm_D} {pc : Nat} {ls : mm_L} {st : List Value} {h : mm_H} {off : Int} {tgt : Nat} {o o' : Option Nat} (hd : decode M.2.1 pc = .ok (.if_icmp .eq off, 3)) (ht : (pc : Int) + off = (tgt : Int)) (hs : mm_sm o) (hs' : mm_sm o') (kt : o = o' → mm_W Γ l M d D (tgt) ls (st) h) (kf : ¬ o = o' → mm_W Γ l M d D (pc + 3) ls (st) h) : mm_W Γ l M d D (pc) ls (.int (mm_enc o') :: .int (mm_enc o) :: st) h :=
  mm_icmp_eq hd ht (fun q => kt ((mm_enc_eq hs hs').mp q)) (fun q => kf (fun w => q ((mm_enc_eq hs hs').mpr w)))
theorem mm_icmp_eq_r {Γ : mm_G} {l : Launch} {M : mm_M} {d : Nat} {D : mm_D} {pc : Nat} {ls : mm_L} {st : List Value} {h : mm_H} {off : Int} {tgt : Nat} {o : Option Nat} {k : Nat} (hd : decode M.2.1 pc = .ok (.if_icmp .eq off, 3)) (ht : (pc : Int) + off = (tgt : Int)) (hs : mm_sm o) (hk : k < 2 ^ 31) (kt : o = some k → mm_W Γ l M d D (tgt) ls (st) h) (kf : ¬ o = some k → mm_W Γ l M d D (pc + 3) ls (st) h) : mm_W Γ l M d D (pc) ls (.int (mm_enc o) :: .int (nI k) :: st) h :=
  mm_icmp_eq hd ht (fun q => kt ((mm_enc_some hs hk).mp q.symm)) (fun q => kf (fun w => q ((mm_enc_some hs hk).mpr w).symm))
theorem mm_icmp_ne_o {Γ : mm_G} {l : Launch} {M : mm_M} {d : Nat} {D : mm_D} {pc : Nat} {ls : mm_L} {st : List Value} {h : mm_H} {off : Int} {tgt : Nat} {o : Option Nat} (hd : decode M.2.1 pc = .ok (.if_icmp .ne off, 3)) (ht : (pc : Int) + off = (tgt : Int)) (hs : mm_sm o) (kt : ¬ o = none → mm_W Γ l M d D (tgt) ls (st) h) (kf : o = none → mm_W Γ l M d D (pc + 3) ls (st) h) : mm_W Γ l M d D (pc) ls (.int (-1) :: .int (mm_enc o) :: st) h :=
  mm_icmp_ne hd ht (fun q => kt (fun w => q ((mm_enc_none hs).mpr w))) (fun q => kf ((mm_enc_none hs).mp q))
theorem mm_icmp_ne_k {Γ : mm_G} {l : Launch} {M : mm_M} {d : Nat} {D : mm_D} {pc : Nat} {ls : mm_L} {st : List Value} {h : mm_H} {off : Int} {tgt : Nat} {o : Option Nat} {k : Nat} (hd : decode M.2.1 pc = .ok (.if_icmp .ne off, 3)) (ht : (pc : Int) + off = (tgt : Int)) (hs : mm_sm o) (hk : k < 2 ^ 31) (kt : ¬ o = some k → mm_W Γ l M d D (tgt) ls (st) h) (kf : o = some k → mm_W Γ l M d D (pc + 3) ls (st) h) : mm_W Γ l M d D (pc) ls (.int (nI k) :: .int (mm_enc o) :: st) h :=
  mm_icmp_ne hd ht (fun q => kt (fun w => q ((mm_enc_some hs hk).mpr w))) (fun q => kf ((mm_enc_some hs hk).mp q))
theorem mm_icmp_ne_e {Γ : mm_G} {l : Launch} {M : mm_M} {d : Nat} {D : mm_D} {pc : Nat} {ls : mm_L} {st : List Value} {h : mm_H} {off : Int} {tgt : Nat} {o o' : Option Nat} (hd : decode M.2.1 pc = .ok (.if_icmp .ne off, 3)) (ht : (pc : Int) + off = (tgt : Int)) (hs : mm_sm o) (hs' : mm_sm o') (kt : ¬ o = o' → mm_W Γ l M d D (tgt) ls (st) h) (kf : o = o' → mm_W Γ l M d D (pc + 3) ls (st) h) : mm_W Γ l M d D (pc) ls (.int (mm_enc o') :: .int (mm_enc o) :: st) h :=
  mm_icmp_ne hd ht (fun q => kt (fun w => q ((mm_enc_eq hs hs').mpr w))) (fun q => kf ((mm_enc_eq hs hs').mp q))
theorem mm_icmp_ne_r {Γ : mm_G} {l : Launch} {M : mm_M} {d : Nat} {D : mm_D} {pc : Nat} {ls : mm_L} {st : List Value} {h : mm_H} {off : Int} {tgt : Nat} {o : Option Nat} {k : Nat} (hd : decode M.2.1 pc = .ok (.if_icmp .ne off, 3)) (ht : (pc : Int) + off = (tgt : Int)) (hs : mm_sm o) (hk : k < 2 ^ 31) (kt : ¬ o = some k → mm_W Γ l M d D (tgt) ls (st) h) (kf : o = some k → mm_W Γ l M d D (pc + 3) ls (st) h) : mm_W Γ l M d D (pc) ls (.int (mm_enc o) :: .int (nI k) :: st) h :=
  mm_icmp_ne hd ht (fun q => kt (fun w => q ((mm_enc_some hs hk).mpr w).symm)) (fun q => kf ((mm_enc_some hs hk).mp q.symm))
section MMcong
variable {Γ : mm_G} {l : Launch} {M : mm_M} {d : Nat} {D : mm_D} {pc : Nat} {ls : mm_L} {st : List Value} {h : mm_H}
theorem mm_arr_eq (cA : ClassId) {n : Nat} {f g : Nat → Value} (hf : ∀ i, i < n → f i = g i) : arrV cA n f = arrV cA n g := by
  unfold arrV
  congr 1
  exact congrArg Array.ofFn (funext fun i => hf i.1 i.2)
/-- an array's picture matters within its length alone -/
theorem mm_cong {a t n : Nat} {f g : Nat → Int32} (ha : h.2.2 a = some (.inl (t, n, .inl f))) (hf : ∀ i, i < n → f i = g i) (k : mm_W Γ l M d D pc ls st (mm_up h a (.inl (t, n, .inl g)))) : mm_W Γ l M d D pc ls st h := by
  intro p e R s m args below meth c u0 hC H locs cells slots la hr hl hq h1 h2
  refine k p e R s m args below meth c u0 hC H locs cells slots la (hr.set ha ?_ rfl (fun _ _ => rfl)) hl hq h1 h2
  have h9 := (hr.2.1 a _ ha).2
  show H[a]? = some (vp_cell _ _)
  rw [vp_cell_i]
  have h8 : H[a]? = some (arrV (Γ.2.1 t) n (fun j => .int (f j))) := h9
  rw [h8, mm_arr_eq (Γ.2.1 t) (f := fun j => .int (f j)) (g := fun j => .int (g j)) (fun i hi => by rw [hf i hi])]
/-- the same picture, spelled otherwise -/
theorem mm_eqh {h' : mm_H} (e : h' = h) (k : mm_W Γ l M d D pc ls st h') : mm_W Γ l M d D pc ls st h := e ▸ k
/-- the value on top, spelled otherwise -/
theorem mm_top {v v' : Value} (e : v = v') (k : mm_W Γ l M d D pc ls (v' :: st) h) : mm_W Γ l M d D pc ls (v :: st) h := by rw [e]; exact k
end MMcong
theorem mm_up_up (h : mm_H) (a : Nat) (x y : mm_E) : mm_up (mm_up h a x) a y = mm_up h a y := by
  unfold mm_up
  refine Prod.ext rfl (Prod.ext rfl (funext fun q => ?_))
  by_cases hq : q = a <;> simp [hq]
theorem mm_up_comm (h : mm_H) {a b : Nat} (x y : mm_E) (hab : a ≠ b) : mm_up (mm_up h a x) b y = mm_up (mm_up h b y) a x := by
  unfold mm_up
  refine Prod.ext rfl (Prod.ext rfl (funext fun q => ?_))
  by_cases h1 : q = a
  · by_cases h2 : q = b
    · exact absurd (h1.symm.trans h2) hab
    · simp [h1, hab]
  · by_cases h2 : q = b <;> simp [h1, h2]
theorem mm_up_same (h : mm_H) {a : Nat} {x : mm_E} (hx : h.2.2 a = some x) : mm_up h a x = h := by
  unfold mm_up
  refine Prod.ext rfl (Prod.ext rfl (funext fun q => ?_))
  by_cases hq : q = a
  · simp [hq, hx]
  · simp [hq]
theorem mm_up_at (h : mm_H) (a : Nat) (x : mm_E) : (mm_up h a x).2.2 a = some x := by simp [mm_up]
theorem mm_up_ne (h : mm_H) {a b : Nat} (x : mm_E) (hab : b ≠ a) : (mm_up h a x).2.2 b = h.2.2 b := by simp [mm_up, hab]
end
section
/-! Bits and sets of areas. -/
theorem kb_and (a b : Nat) : nI a &&& nI b = nI (a &&& b) := by
  apply Int32.toBitVec_inj.1
  show BitVec.ofNat 32 a &&& BitVec.ofNat 32 b = BitVec.ofNat 32 (a &&& b)
  apply BitVec.eq_of_getLsbD_eq
  intro i hi
  simp [hi]
theorem kb_or (a b : Nat) : nI a ||| nI b = nI (a ||| b) := by
  apply Int32.toBitVec_inj.1
  show BitVec.ofNat 32 a ||| BitVec.ofNat 32 b = BitVec.ofNat 32 (a ||| b)
  apply BitVec.eq_of_getLsbD_eq
  intro i hi
  simp [hi]
theorem kb_sl : ∀ n, n < 32 → ((nI n &&& 31).toBitVec.smod 32).toNat = n := by decide +kernel
theorem kb_shl {n a : Nat} (ha : a < 32) (h : n * 2 ^ a < 2 ^ 32) : nI n <<< (nI a &&& 31) = nI (n * 2 ^ a) := pk_shlN (nI a &&& 31) a (kb_sl a ha) h
theorem kb_shr {n a : Nat} (hn : n < 2 ^ 31) (ha : a < 32) : nI n >>> (nI a &&& 31) = nI (n / 2 ^ a) := pk_shrN hn (nI a &&& 31) a (kb_sl a ha)
theorem kb_one {n a : Nat} (hn : n < 2 ^ 31) (ha : a < 32) : (nI n >>> (nI a &&& 31)) &&& nI 1 = nI (if n.testBit a then 1 else 0) := by
  rw [kb_shr hn ha, kb_and]
  congr 1
  rw [Nat.and_one_is_mod]
  unfold Nat.testBit
  rw [Nat.shiftRight_eq_div_pow, Nat.and_comm, Nat.and_one_is_mod]
  by_cases h : n / 2 ^ a % 2 = 0
  · simp [h]
  · have : n / 2 ^ a % 2 = 1 := by omega
    simp [this]
/-- a set of the numbers below n, as a number -/
def kb_mask (p : Nat → Bool) : Nat → Nat
  | 0 => 0
  | n + 1 => if p n then kb_mask p n ||| 2 ^ n else kb_mask p n
theorem kb_mask_bit (p : Nat → Bool) (n a : Nat) : (kb_mask p n).testBit a = (decide (a < n) && p a) := by
  induction n with
  | zero => simp [kb_mask]
  | succ n ih =>
    simp only [kb_mask]
    by_cases hp : p n = true
    · rw [if_pos hp, Nat.testBit_or, ih, Nat.testBit_two_pow]
      by_cases h1 : a = n
      · subst h1
        simp [hp]
      · have h2 : ¬ n = a := fun e => h1 e.symm
        by_cases h3 : a < n
        · simp [h3, h2, Nat.lt_succ_of_lt h3]
        · have h4 : ¬ a < n + 1 := by omega
          simp [h3, h4, h2]
    · have hp' : p n = false := by cases h : p n with | true => exact absurd h hp | false => rfl
      rw [if_neg hp, ih]
      by_cases h1 : a = n
      · subst h1
        simp [hp']
      · by_cases h3 : a < n
        · simp [h3, Nat.lt_succ_of_lt h3]
        · have h4 : ¬ a < n + 1 := by omega
          simp [h3, h4]
theorem kb_mask_lt (p : Nat → Bool) (n : Nat) : kb_mask p n < 2 ^ n := by
  induction n with
  | zero => simp [kb_mask]
  | succ n ih =>
    simp only [kb_mask]
    have h2 : 2 ^ (n + 1) = 2 ^ n + 2 ^ n := by rw [Nat.pow_succ]; omega
    by_cases hp : p n = true
    · rw [if_pos hp]
      exact Nat.or_lt_two_pow (by omega) (Nat.pow_lt_pow_right (by decide) (Nat.lt_succ_self n))
    · rw [if_neg hp]
      omega
end
