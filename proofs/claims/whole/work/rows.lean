section
/-! Out of the starting texts: PART A of the skeleton; rows for throwing and catching (names printed for this claim), Bundle's names written out. -/
/-- a private method of a class that the tables say can be made, by its rows of tables_1 -/
def lw_okq (q : MethodName × Nat) : Prop := (q.1.cls ≠ "java/lang/invoke/MethodHandle" ∧ q.1.cls ≠ "java/lang/invoke/VarHandle") ∧ Cond.instantiable q.1.cls q.2 ∈ tables_1 ∧ Cond.privateMethod q.1 ∈ tables_1 ∧ Cond.instanceMethod q.1 ∈ tables_1
theorem lw_p0 : lw_okq (⟨"CutSheets", "sheet", "()LCutSheets$Sheet;"⟩, 9) := ⟨⟨by decide +kernel, by decide +kernel⟩, List.mem_of_getElem? (i := 16) (by decide +kernel), List.mem_of_getElem? (i := 169) (by decide +kernel), List.mem_of_getElem? (i := 170) (by decide +kernel)⟩
theorem lw_p1 : lw_okq (⟨"CutSheets$Sheet", "areas", "(I)[I"⟩, 5) := ⟨⟨by decide +kernel, by decide +kernel⟩, List.mem_of_getElem? (i := 25) (by decide +kernel), List.mem_of_getElem? (i := 181) (by decide +kernel), List.mem_of_getElem? (i := 182) (by decide +kernel)⟩
theorem lw_p2 : lw_okq (⟨"java/lang/Throwable", "fillInStackTrace", "(I)Ljava/lang/Throwable;"⟩, 6) := ⟨⟨by decide +kernel, by decide +kernel⟩, List.mem_of_getElem? (i := 227) (by decide +kernel), List.mem_of_getElem? (i := 225) (by decide +kernel), List.mem_of_getElem? (i := 226) (by decide +kernel)⟩
theorem lw_p3 : lw_okq (⟨"CutSheets", "mayInsert", "(I)Z"⟩, 9) := ⟨⟨by decide +kernel, by decide +kernel⟩, List.mem_of_getElem? (i := 16) (by decide +kernel), List.mem_of_getElem? (i := 252) (by decide +kernel), List.mem_of_getElem? (i := 253) (by decide +kernel)⟩
theorem lw_p4 : lw_okq (⟨"CutSheets", "mayChange", "()Z"⟩, 9) := ⟨⟨by decide +kernel, by decide +kernel⟩, List.mem_of_getElem? (i := 16) (by decide +kernel), List.mem_of_getElem? (i := 286) (by decide +kernel), List.mem_of_getElem? (i := 287) (by decide +kernel)⟩
theorem lw_p5 : lw_okq (⟨"CutSheets$Sheet", "leastNumber", "(I)I"⟩, 5) := ⟨⟨by decide +kernel, by decide +kernel⟩, List.mem_of_getElem? (i := 25) (by decide +kernel), List.mem_of_getElem? (i := 294) (by decide +kernel), List.mem_of_getElem? (i := 295) (by decide +kernel)⟩
theorem lw_p6 : lw_okq (⟨"CutSheets$Sheet", "howManyIn", "(II)I"⟩, 5) := ⟨⟨by decide +kernel, by decide +kernel⟩, List.mem_of_getElem? (i := 25) (by decide +kernel), List.mem_of_getElem? (i := 302) (by decide +kernel), List.mem_of_getElem? (i := 303) (by decide +kernel)⟩
theorem lw_p7 : lw_okq (⟨"CutSheets", "changed", "()LCutSheets$Sheet;"⟩, 9) := ⟨⟨by decide +kernel, by decide +kernel⟩, List.mem_of_getElem? (i := 16) (by decide +kernel), List.mem_of_getElem? (i := 327) (by decide +kernel), List.mem_of_getElem? (i := 328) (by decide +kernel)⟩
theorem lw_p8 : lw_okq (⟨"CutSheets$Sheet", "putAll", "(II)V"⟩, 5) := ⟨⟨by decide +kernel, by decide +kernel⟩, List.mem_of_getElem? (i := 25) (by decide +kernel), List.mem_of_getElem? (i := 401) (by decide +kernel), List.mem_of_getElem? (i := 402) (by decide +kernel)⟩
theorem lw_p9 : lw_okq (⟨"CutSheets$Sheet", "copySpot", "(II[I)I"⟩, 5) := ⟨⟨by decide +kernel, by decide +kernel⟩, List.mem_of_getElem? (i := 25) (by decide +kernel), List.mem_of_getElem? (i := 430) (by decide +kernel), List.mem_of_getElem? (i := 431) (by decide +kernel)⟩
theorem lw_p10 : lw_okq (⟨"CutSheets$Sheet", "copyCut", "(II[II)I"⟩, 5) := ⟨⟨by decide +kernel, by decide +kernel⟩, List.mem_of_getElem? (i := 25) (by decide +kernel), List.mem_of_getElem? (i := 435) (by decide +kernel), List.mem_of_getElem? (i := 436) (by decide +kernel)⟩
theorem lw_p11 : lw_okq (⟨"CutSheets$Sheet", "copyCutsIn", "(II[II)V"⟩, 5) := ⟨⟨by decide +kernel, by decide +kernel⟩, List.mem_of_getElem? (i := 25) (by decide +kernel), List.mem_of_getElem? (i := 439) (by decide +kernel), List.mem_of_getElem? (i := 440) (by decide +kernel)⟩
theorem lw_p12 : lw_okq (⟨"CutSheets", "hasAlike", "(II)Z"⟩, 9) := ⟨⟨by decide +kernel, by decide +kernel⟩, List.mem_of_getElem? (i := 16) (by decide +kernel), List.mem_of_getElem? (i := 450) (by decide +kernel), List.mem_of_getElem? (i := 451) (by decide +kernel)⟩
theorem lw_p13 : lw_okq (⟨"CutSheets$Reading", "clear", "(I)V"⟩, 5) := ⟨⟨by decide +kernel, by decide +kernel⟩, List.mem_of_getElem? (i := 58) (by decide +kernel), List.mem_of_getElem? (i := 458) (by decide +kernel), List.mem_of_getElem? (i := 459) (by decide +kernel)⟩
theorem lw_p14 : lw_okq (⟨"CutSheets$Reading", "addSpot", "(LCutSheets$Sheet;I)V"⟩, 5) := ⟨⟨by decide +kernel, by decide +kernel⟩, List.mem_of_getElem? (i := 58) (by decide +kernel), List.mem_of_getElem? (i := 462) (by decide +kernel), List.mem_of_getElem? (i := 463) (by decide +kernel)⟩
theorem lw_p15 : lw_okq (⟨"CutSheets$Reading", "add", "(I)V"⟩, 5) := ⟨⟨by decide +kernel, by decide +kernel⟩, List.mem_of_getElem? (i := 58) (by decide +kernel), List.mem_of_getElem? (i := 466) (by decide +kernel), List.mem_of_getElem? (i := 467) (by decide +kernel)⟩
def lw_privs_1 : List (MethodName × Nat) := [(⟨"CutSheets", "sheet", "()LCutSheets$Sheet;"⟩, 9), (⟨"CutSheets$Sheet", "areas", "(I)[I"⟩, 5), (⟨"java/lang/Throwable", "fillInStackTrace", "(I)Ljava/lang/Throwable;"⟩, 6), (⟨"CutSheets", "mayInsert", "(I)Z"⟩, 9), (⟨"CutSheets", "mayChange", "()Z"⟩, 9), (⟨"CutSheets$Sheet", "leastNumber", "(I)I"⟩, 5), (⟨"CutSheets$Sheet", "howManyIn", "(II)I"⟩, 5), (⟨"CutSheets", "changed", "()LCutSheets$Sheet;"⟩, 9), (⟨"CutSheets$Sheet", "putAll", "(II)V"⟩, 5), (⟨"CutSheets$Sheet", "copySpot", "(II[I)I"⟩, 5), (⟨"CutSheets$Sheet", "copyCut", "(II[II)I"⟩, 5), (⟨"CutSheets$Sheet", "copyCutsIn", "(II[II)V"⟩, 5), (⟨"CutSheets", "hasAlike", "(II)Z"⟩, 9), (⟨"CutSheets$Reading", "clear", "(I)V"⟩, 5), (⟨"CutSheets$Reading", "addSpot", "(LCutSheets$Sheet;I)V"⟩, 5), (⟨"CutSheets$Reading", "add", "(I)V"⟩, 5)]
theorem lw_r1 : ∀ q ∈ lw_privs_1, lw_okq q := List.forall_mem_cons.mpr ⟨lw_p0, List.forall_mem_cons.mpr ⟨lw_p1, List.forall_mem_cons.mpr ⟨lw_p2, List.forall_mem_cons.mpr ⟨lw_p3, List.forall_mem_cons.mpr ⟨lw_p4, List.forall_mem_cons.mpr ⟨lw_p5, List.forall_mem_cons.mpr ⟨lw_p6, List.forall_mem_cons.mpr ⟨lw_p7, List.forall_mem_cons.mpr ⟨lw_p8, List.forall_mem_cons.mpr ⟨lw_p9, List.forall_mem_cons.mpr ⟨lw_p10, List.forall_mem_cons.mpr ⟨lw_p11, List.forall_mem_cons.mpr ⟨lw_p12, List.forall_mem_cons.mpr ⟨lw_p13, List.forall_mem_cons.mpr ⟨lw_p14, List.forall_mem_cons.mpr ⟨lw_p15, fun _ h => absurd h List.not_mem_nil⟩⟩⟩⟩⟩⟩⟩⟩⟩⟩⟩⟩⟩⟩⟩⟩
theorem lw_p16 : lw_okq (⟨"CutSheets$Reading", "addLine", "(LCutSheets$Sheet;I)V"⟩, 5) := ⟨⟨by decide +kernel, by decide +kernel⟩, List.mem_of_getElem? (i := 58) (by decide +kernel), List.mem_of_getElem? (i := 471) (by decide +kernel), List.mem_of_getElem? (i := 472) (by decide +kernel)⟩
theorem lw_p17 : lw_okq (⟨"CutSheets$Reading", "addArea", "(LCutSheets$Sheet;II)V"⟩, 5) := ⟨⟨by decide +kernel, by decide +kernel⟩, List.mem_of_getElem? (i := 58) (by decide +kernel), List.mem_of_getElem? (i := 477) (by decide +kernel), List.mem_of_getElem? (i := 478) (by decide +kernel)⟩
theorem lw_p18 : lw_okq (⟨"CutSheets$Reading", "addCutsIn", "(LCutSheets$Sheet;II)V"⟩, 5) := ⟨⟨by decide +kernel, by decide +kernel⟩, List.mem_of_getElem? (i := 58) (by decide +kernel), List.mem_of_getElem? (i := 481) (by decide +kernel), List.mem_of_getElem? (i := 482) (by decide +kernel)⟩
theorem lw_p19 : lw_okq (⟨"CutSheets$Look", "isAreaTrue", "(II)Z"⟩, 9) := ⟨⟨by decide +kernel, by decide +kernel⟩, List.mem_of_getElem? (i := 82) (by decide +kernel), List.mem_of_getElem? (i := 600) (by decide +kernel), List.mem_of_getElem? (i := 601) (by decide +kernel)⟩
theorem lw_p20 : lw_okq (⟨"CutSheets$Look", "areSpotsTrue", "(I)Z"⟩, 9) := ⟨⟨by decide +kernel, by decide +kernel⟩, List.mem_of_getElem? (i := 82) (by decide +kernel), List.mem_of_getElem? (i := 604) (by decide +kernel), List.mem_of_getElem? (i := 605) (by decide +kernel)⟩
theorem lw_p21 : lw_okq (⟨"CutSheets$Look", "bitOfSpot", "(I)I"⟩, 9) := ⟨⟨by decide +kernel, by decide +kernel⟩, List.mem_of_getElem? (i := 82) (by decide +kernel), List.mem_of_getElem? (i := 608) (by decide +kernel), List.mem_of_getElem? (i := 609) (by decide +kernel)⟩
theorem lw_p22 : lw_okq (⟨"CutSheets$Look", "thingAt", "(I)I"⟩, 9) := ⟨⟨by decide +kernel, by decide +kernel⟩, List.mem_of_getElem? (i := 82) (by decide +kernel), List.mem_of_getElem? (i := 612) (by decide +kernel), List.mem_of_getElem? (i := 613) (by decide +kernel)⟩
theorem lw_p23 : lw_okq (⟨"CutSheets$Look", "areCutsFalse", "(II)Z"⟩, 9) := ⟨⟨by decide +kernel, by decide +kernel⟩, List.mem_of_getElem? (i := 82) (by decide +kernel), List.mem_of_getElem? (i := 622) (by decide +kernel), List.mem_of_getElem? (i := 623) (by decide +kernel)⟩
theorem lw_p24 : lw_okq (⟨"CutSheets$Look", "takeNextThings", "(I)V"⟩, 9) := ⟨⟨by decide +kernel, by decide +kernel⟩, List.mem_of_getElem? (i := 82) (by decide +kernel), List.mem_of_getElem? (i := 626) (by decide +kernel), List.mem_of_getElem? (i := 627) (by decide +kernel)⟩
theorem lw_p25 : lw_okq (⟨"CutSheetsModel", "isArea", "(I)Z"⟩, 21) := ⟨⟨by decide +kernel, by decide +kernel⟩, List.mem_of_getElem? (i := 650) (by decide +kernel), List.mem_of_getElem? (i := 729) (by decide +kernel), List.mem_of_getElem? (i := 730) (by decide +kernel)⟩
theorem lw_p26 : lw_okq (⟨"CutSheetsModel", "freeCut", "()I"⟩, 21) := ⟨⟨by decide +kernel, by decide +kernel⟩, List.mem_of_getElem? (i := 650) (by decide +kernel), List.mem_of_getElem? (i := 733) (by decide +kernel), List.mem_of_getElem? (i := 734) (by decide +kernel)⟩
theorem lw_p27 : lw_okq (⟨"CutSheetsModel", "checked", "(IZ)I"⟩, 21) := ⟨⟨by decide +kernel, by decide +kernel⟩, List.mem_of_getElem? (i := 650) (by decide +kernel), List.mem_of_getElem? (i := 737) (by decide +kernel), List.mem_of_getElem? (i := 738) (by decide +kernel)⟩
theorem lw_p28 : lw_okq (⟨"CutSheetsModel", "depthOf", "(I)I"⟩, 21) := ⟨⟨by decide +kernel, by decide +kernel⟩, List.mem_of_getElem? (i := 650) (by decide +kernel), List.mem_of_getElem? (i := 741) (by decide +kernel), List.mem_of_getElem? (i := 742) (by decide +kernel)⟩
theorem lw_p29 : lw_okq (⟨"CutSheetsModel", "keep", "()V"⟩, 21) := ⟨⟨by decide +kernel, by decide +kernel⟩, List.mem_of_getElem? (i := 650) (by decide +kernel), List.mem_of_getElem? (i := 745) (by decide +kernel), List.mem_of_getElem? (i := 746) (by decide +kernel)⟩
theorem lw_p30 : lw_okq (⟨"CutSheetsModel", "freeLine", "()I"⟩, 21) := ⟨⟨by decide +kernel, by decide +kernel⟩, List.mem_of_getElem? (i := 650) (by decide +kernel), List.mem_of_getElem? (i := 753) (by decide +kernel), List.mem_of_getElem? (i := 754) (by decide +kernel)⟩
theorem lw_p31 : lw_okq (⟨"CutSheetsModel", "places", "(I)I"⟩, 21) := ⟨⟨by decide +kernel, by decide +kernel⟩, List.mem_of_getElem? (i := 650) (by decide +kernel), List.mem_of_getElem? (i := 761) (by decide +kernel), List.mem_of_getElem? (i := 762) (by decide +kernel)⟩
def lw_privs_2 : List (MethodName × Nat) := [(⟨"CutSheets$Reading", "addLine", "(LCutSheets$Sheet;I)V"⟩, 5), (⟨"CutSheets$Reading", "addArea", "(LCutSheets$Sheet;II)V"⟩, 5), (⟨"CutSheets$Reading", "addCutsIn", "(LCutSheets$Sheet;II)V"⟩, 5), (⟨"CutSheets$Look", "isAreaTrue", "(II)Z"⟩, 9), (⟨"CutSheets$Look", "areSpotsTrue", "(I)Z"⟩, 9), (⟨"CutSheets$Look", "bitOfSpot", "(I)I"⟩, 9), (⟨"CutSheets$Look", "thingAt", "(I)I"⟩, 9), (⟨"CutSheets$Look", "areCutsFalse", "(II)Z"⟩, 9), (⟨"CutSheets$Look", "takeNextThings", "(I)V"⟩, 9), (⟨"CutSheetsModel", "isArea", "(I)Z"⟩, 21), (⟨"CutSheetsModel", "freeCut", "()I"⟩, 21), (⟨"CutSheetsModel", "checked", "(IZ)I"⟩, 21), (⟨"CutSheetsModel", "depthOf", "(I)I"⟩, 21), (⟨"CutSheetsModel", "keep", "()V"⟩, 21), (⟨"CutSheetsModel", "freeLine", "()I"⟩, 21), (⟨"CutSheetsModel", "places", "(I)I"⟩, 21)]
theorem lw_r2 : ∀ q ∈ lw_privs_2, lw_okq q := List.forall_mem_cons.mpr ⟨lw_p16, List.forall_mem_cons.mpr ⟨lw_p17, List.forall_mem_cons.mpr ⟨lw_p18, List.forall_mem_cons.mpr ⟨lw_p19, List.forall_mem_cons.mpr ⟨lw_p20, List.forall_mem_cons.mpr ⟨lw_p21, List.forall_mem_cons.mpr ⟨lw_p22, List.forall_mem_cons.mpr ⟨lw_p23, List.forall_mem_cons.mpr ⟨lw_p24, List.forall_mem_cons.mpr ⟨lw_p25, List.forall_mem_cons.mpr ⟨lw_p26, List.forall_mem_cons.mpr ⟨lw_p27, List.forall_mem_cons.mpr ⟨lw_p28, List.forall_mem_cons.mpr ⟨lw_p29, List.forall_mem_cons.mpr ⟨lw_p30, List.forall_mem_cons.mpr ⟨lw_p31, fun _ h => absurd h List.not_mem_nil⟩⟩⟩⟩⟩⟩⟩⟩⟩⟩⟩⟩⟩⟩⟩⟩
theorem lw_p32 : lw_okq (⟨"CutSheetsModel", "mayHook", "(II)Z"⟩, 21) := ⟨⟨by decide +kernel, by decide +kernel⟩, List.mem_of_getElem? (i := 650) (by decide +kernel), List.mem_of_getElem? (i := 765) (by decide +kernel), List.mem_of_getElem? (i := 766) (by decide +kernel)⟩
theorem lw_p33 : lw_okq (⟨"CutSheetsModel", "isLine", "(I)Z"⟩, 21) := ⟨⟨by decide +kernel, by decide +kernel⟩, List.mem_of_getElem? (i := 650) (by decide +kernel), List.mem_of_getElem? (i := 769) (by decide +kernel), List.mem_of_getElem? (i := 770) (by decide +kernel)⟩
theorem lw_p34 : lw_okq (⟨"CutSheetsModel", "isWithin", "(II)Z"⟩, 21) := ⟨⟨by decide +kernel, by decide +kernel⟩, List.mem_of_getElem? (i := 650) (by decide +kernel), List.mem_of_getElem? (i := 773) (by decide +kernel), List.mem_of_getElem? (i := 774) (by decide +kernel)⟩
theorem lw_p35 : lw_okq (⟨"CutSheetsModel", "freeSpot", "()I"⟩, 21) := ⟨⟨by decide +kernel, by decide +kernel⟩, List.mem_of_getElem? (i := 650) (by decide +kernel), List.mem_of_getElem? (i := 777) (by decide +kernel), List.mem_of_getElem? (i := 778) (by decide +kernel)⟩
theorem lw_p36 : lw_okq (⟨"CutSheetsModel", "noPart", "(II)Z"⟩, 21) := ⟨⟨by decide +kernel, by decide +kernel⟩, List.mem_of_getElem? (i := 650) (by decide +kernel), List.mem_of_getElem? (i := 789) (by decide +kernel), List.mem_of_getElem? (i := 790) (by decide +kernel)⟩
theorem lw_p37 : lw_okq (⟨"CutSheetsModel", "isSpot", "(I)Z"⟩, 21) := ⟨⟨by decide +kernel, by decide +kernel⟩, List.mem_of_getElem? (i := 650) (by decide +kernel), List.mem_of_getElem? (i := 793) (by decide +kernel), List.mem_of_getElem? (i := 794) (by decide +kernel)⟩
theorem lw_p38 : lw_okq (⟨"CutSheetsModel", "isCut", "(I)Z"⟩, 21) := ⟨⟨by decide +kernel, by decide +kernel⟩, List.mem_of_getElem? (i := 650) (by decide +kernel), List.mem_of_getElem? (i := 797) (by decide +kernel), List.mem_of_getElem? (i := 798) (by decide +kernel)⟩
theorem lw_p39 : lw_okq (⟨"CutSheetsModel", "areaOf", "(II)I"⟩, 21) := ⟨⟨by decide +kernel, by decide +kernel⟩, List.mem_of_getElem? (i := 650) (by decide +kernel), List.mem_of_getElem? (i := 801) (by decide +kernel), List.mem_of_getElem? (i := 802) (by decide +kernel)⟩
theorem lw_p40 : lw_okq (⟨"CutSheetsModel", "isHooked", "(I)Z"⟩, 21) := ⟨⟨by decide +kernel, by decide +kernel⟩, List.mem_of_getElem? (i := 650) (by decide +kernel), List.mem_of_getElem? (i := 805) (by decide +kernel), List.mem_of_getElem? (i := 806) (by decide +kernel)⟩
theorem lw_p41 : lw_okq (⟨"CutSheetsModel", "late", "()I"⟩, 21) := ⟨⟨by decide +kernel, by decide +kernel⟩, List.mem_of_getElem? (i := 650) (by decide +kernel), List.mem_of_getElem? (i := 809) (by decide +kernel), List.mem_of_getElem? (i := 810) (by decide +kernel)⟩
theorem lw_p42 : lw_okq (⟨"CutSheetsModel", "removeSpot", "(I)V"⟩, 21) := ⟨⟨by decide +kernel, by decide +kernel⟩, List.mem_of_getElem? (i := 650) (by decide +kernel), List.mem_of_getElem? (i := 813) (by decide +kernel), List.mem_of_getElem? (i := 814) (by decide +kernel)⟩
theorem lw_p43 : lw_okq (⟨"CutSheetsModel", "removeCut", "(I)V"⟩, 21) := ⟨⟨by decide +kernel, by decide +kernel⟩, List.mem_of_getElem? (i := 650) (by decide +kernel), List.mem_of_getElem? (i := 817) (by decide +kernel), List.mem_of_getElem? (i := 818) (by decide +kernel)⟩
theorem lw_p44 : lw_okq (⟨"CutSheetsModel", "isRoomFor", "(I)Z"⟩, 21) := ⟨⟨by decide +kernel, by decide +kernel⟩, List.mem_of_getElem? (i := 650) (by decide +kernel), List.mem_of_getElem? (i := 825) (by decide +kernel), List.mem_of_getElem? (i := 826) (by decide +kernel)⟩
theorem lw_p45 : lw_okq (⟨"CutSheetsModel", "amount", "(II)I"⟩, 21) := ⟨⟨by decide +kernel, by decide +kernel⟩, List.mem_of_getElem? (i := 650) (by decide +kernel), List.mem_of_getElem? (i := 829) (by decide +kernel), List.mem_of_getElem? (i := 830) (by decide +kernel)⟩
theorem lw_p46 : lw_okq (⟨"CutSheetsModel", "copyCut", "(II)I"⟩, 21) := ⟨⟨by decide +kernel, by decide +kernel⟩, List.mem_of_getElem? (i := 650) (by decide +kernel), List.mem_of_getElem? (i := 833) (by decide +kernel), List.mem_of_getElem? (i := 834) (by decide +kernel)⟩
theorem lw_p47 : lw_okq (⟨"CutSheetsModel", "copyArea", "(III)V"⟩, 21) := ⟨⟨by decide +kernel, by decide +kernel⟩, List.mem_of_getElem? (i := 650) (by decide +kernel), List.mem_of_getElem? (i := 837) (by decide +kernel), List.mem_of_getElem? (i := 838) (by decide +kernel)⟩
def lw_privs_3 : List (MethodName × Nat) := [(⟨"CutSheetsModel", "mayHook", "(II)Z"⟩, 21), (⟨"CutSheetsModel", "isLine", "(I)Z"⟩, 21), (⟨"CutSheetsModel", "isWithin", "(II)Z"⟩, 21), (⟨"CutSheetsModel", "freeSpot", "()I"⟩, 21), (⟨"CutSheetsModel", "noPart", "(II)Z"⟩, 21), (⟨"CutSheetsModel", "isSpot", "(I)Z"⟩, 21), (⟨"CutSheetsModel", "isCut", "(I)Z"⟩, 21), (⟨"CutSheetsModel", "areaOf", "(II)I"⟩, 21), (⟨"CutSheetsModel", "isHooked", "(I)Z"⟩, 21), (⟨"CutSheetsModel", "late", "()I"⟩, 21), (⟨"CutSheetsModel", "removeSpot", "(I)V"⟩, 21), (⟨"CutSheetsModel", "removeCut", "(I)V"⟩, 21), (⟨"CutSheetsModel", "isRoomFor", "(I)Z"⟩, 21), (⟨"CutSheetsModel", "amount", "(II)I"⟩, 21), (⟨"CutSheetsModel", "copyCut", "(II)I"⟩, 21), (⟨"CutSheetsModel", "copyArea", "(III)V"⟩, 21)]
theorem lw_r3 : ∀ q ∈ lw_privs_3, lw_okq q := List.forall_mem_cons.mpr ⟨lw_p32, List.forall_mem_cons.mpr ⟨lw_p33, List.forall_mem_cons.mpr ⟨lw_p34, List.forall_mem_cons.mpr ⟨lw_p35, List.forall_mem_cons.mpr ⟨lw_p36, List.forall_mem_cons.mpr ⟨lw_p37, List.forall_mem_cons.mpr ⟨lw_p38, List.forall_mem_cons.mpr ⟨lw_p39, List.forall_mem_cons.mpr ⟨lw_p40, List.forall_mem_cons.mpr ⟨lw_p41, List.forall_mem_cons.mpr ⟨lw_p42, List.forall_mem_cons.mpr ⟨lw_p43, List.forall_mem_cons.mpr ⟨lw_p44, List.forall_mem_cons.mpr ⟨lw_p45, List.forall_mem_cons.mpr ⟨lw_p46, List.forall_mem_cons.mpr ⟨lw_p47, fun _ h => absurd h List.not_mem_nil⟩⟩⟩⟩⟩⟩⟩⟩⟩⟩⟩⟩⟩⟩⟩⟩
theorem lw_p48 : lw_okq (⟨"CutSheetsModel", "copySpot", "(II)V"⟩, 21) := ⟨⟨by decide +kernel, by decide +kernel⟩, List.mem_of_getElem? (i := 650) (by decide +kernel), List.mem_of_getElem? (i := 841) (by decide +kernel), List.mem_of_getElem? (i := 842) (by decide +kernel)⟩
theorem lw_p49 : lw_okq (⟨"CutSheetsModel", "hasOther", "(II)Z"⟩, 21) := ⟨⟨by decide +kernel, by decide +kernel⟩, List.mem_of_getElem? (i := 650) (by decide +kernel), List.mem_of_getElem? (i := 849) (by decide +kernel), List.mem_of_getElem? (i := 850) (by decide +kernel)⟩
theorem lw_p50 : lw_okq (⟨"CutSheetsModel", "readPart", "(II)V"⟩, 21) := ⟨⟨by decide +kernel, by decide +kernel⟩, List.mem_of_getElem? (i := 650) (by decide +kernel), List.mem_of_getElem? (i := 853) (by decide +kernel), List.mem_of_getElem? (i := 854) (by decide +kernel)⟩
theorem lw_p51 : lw_okq (⟨"CutSheetsModel", "readSpot", "(I)V"⟩, 21) := ⟨⟨by decide +kernel, by decide +kernel⟩, List.mem_of_getElem? (i := 650) (by decide +kernel), List.mem_of_getElem? (i := 857) (by decide +kernel), List.mem_of_getElem? (i := 858) (by decide +kernel)⟩
theorem lw_p52 : lw_okq (⟨"CutSheetsModel", "add", "(I)V"⟩, 21) := ⟨⟨by decide +kernel, by decide +kernel⟩, List.mem_of_getElem? (i := 650) (by decide +kernel), List.mem_of_getElem? (i := 861) (by decide +kernel), List.mem_of_getElem? (i := 862) (by decide +kernel)⟩
theorem lw_p53 : lw_okq (⟨"CutSheetsModel", "readArea", "(I)V"⟩, 21) := ⟨⟨by decide +kernel, by decide +kernel⟩, List.mem_of_getElem? (i := 650) (by decide +kernel), List.mem_of_getElem? (i := 865) (by decide +kernel), List.mem_of_getElem? (i := 866) (by decide +kernel)⟩
theorem lw_p54 : lw_okq (⟨"CutSheetsModel", "readOwn", "(I)V"⟩, 21) := ⟨⟨by decide +kernel, by decide +kernel⟩, List.mem_of_getElem? (i := 650) (by decide +kernel), List.mem_of_getElem? (i := 869) (by decide +kernel), List.mem_of_getElem? (i := 870) (by decide +kernel)⟩
theorem lw_p55 : lw_okq (⟨"CutSheetsModel", "isAlike", "(II)Z"⟩, 21) := ⟨⟨by decide +kernel, by decide +kernel⟩, List.mem_of_getElem? (i := 650) (by decide +kernel), List.mem_of_getElem? (i := 873) (by decide +kernel), List.mem_of_getElem? (i := 874) (by decide +kernel)⟩
theorem lw_p56 : lw_okq (⟨"CutSheetsModel", "only", "(I)I"⟩, 21) := ⟨⟨by decide +kernel, by decide +kernel⟩, List.mem_of_getElem? (i := 650) (by decide +kernel), List.mem_of_getElem? (i := 885) (by decide +kernel), List.mem_of_getElem? (i := 886) (by decide +kernel)⟩
theorem lw_p57 : lw_okq (⟨"CutSheetsModel", "firstHolds", "(II)Z"⟩, 21) := ⟨⟨by decide +kernel, by decide +kernel⟩, List.mem_of_getElem? (i := 650) (by decide +kernel), List.mem_of_getElem? (i := 921) (by decide +kernel), List.mem_of_getElem? (i := 922) (by decide +kernel)⟩
theorem lw_p58 : lw_okq (⟨"CutSheetsModel", "change", "()V"⟩, 21) := ⟨⟨by decide +kernel, by decide +kernel⟩, List.mem_of_getElem? (i := 650) (by decide +kernel), List.mem_of_getElem? (i := 925) (by decide +kernel), List.mem_of_getElem? (i := 926) (by decide +kernel)⟩
theorem lw_p59 : lw_okq (⟨"CutSheetsModel", "sheetHolds", "(II)Z"⟩, 21) := ⟨⟨by decide +kernel, by decide +kernel⟩, List.mem_of_getElem? (i := 650) (by decide +kernel), List.mem_of_getElem? (i := 929) (by decide +kernel), List.mem_of_getElem? (i := 930) (by decide +kernel)⟩
theorem lw_p60 : lw_okq (⟨"CutSheetsModel", "look", "(IIII)V"⟩, 21) := ⟨⟨by decide +kernel, by decide +kernel⟩, List.mem_of_getElem? (i := 650) (by decide +kernel), List.mem_of_getElem? (i := 933) (by decide +kernel), List.mem_of_getElem? (i := 934) (by decide +kernel)⟩
theorem lw_p61 : lw_okq (⟨"CutSheetsModel", "spotHolds", "(IIII)Z"⟩, 21) := ⟨⟨by decide +kernel, by decide +kernel⟩, List.mem_of_getElem? (i := 650) (by decide +kernel), List.mem_of_getElem? (i := 937) (by decide +kernel), List.mem_of_getElem? (i := 938) (by decide +kernel)⟩
theorem lw_p62 : lw_okq (⟨"CutSheetsModel", "thing", "(III)I"⟩, 21) := ⟨⟨by decide +kernel, by decide +kernel⟩, List.mem_of_getElem? (i := 650) (by decide +kernel), List.mem_of_getElem? (i := 941) (by decide +kernel), List.mem_of_getElem? (i := 942) (by decide +kernel)⟩
theorem lw_p63 : lw_okq (⟨"CutSheetsModel", "any", "(IIII)V"⟩, 21) := ⟨⟨by decide +kernel, by decide +kernel⟩, List.mem_of_getElem? (i := 650) (by decide +kernel), List.mem_of_getElem? (i := 945) (by decide +kernel), List.mem_of_getElem? (i := 946) (by decide +kernel)⟩
def lw_privs_4 : List (MethodName × Nat) := [(⟨"CutSheetsModel", "copySpot", "(II)V"⟩, 21), (⟨"CutSheetsModel", "hasOther", "(II)Z"⟩, 21), (⟨"CutSheetsModel", "readPart", "(II)V"⟩, 21), (⟨"CutSheetsModel", "readSpot", "(I)V"⟩, 21), (⟨"CutSheetsModel", "add", "(I)V"⟩, 21), (⟨"CutSheetsModel", "readArea", "(I)V"⟩, 21), (⟨"CutSheetsModel", "readOwn", "(I)V"⟩, 21), (⟨"CutSheetsModel", "isAlike", "(II)Z"⟩, 21), (⟨"CutSheetsModel", "only", "(I)I"⟩, 21), (⟨"CutSheetsModel", "firstHolds", "(II)Z"⟩, 21), (⟨"CutSheetsModel", "change", "()V"⟩, 21), (⟨"CutSheetsModel", "sheetHolds", "(II)Z"⟩, 21), (⟨"CutSheetsModel", "look", "(IIII)V"⟩, 21), (⟨"CutSheetsModel", "spotHolds", "(IIII)Z"⟩, 21), (⟨"CutSheetsModel", "thing", "(III)I"⟩, 21), (⟨"CutSheetsModel", "any", "(IIII)V"⟩, 21)]
theorem lw_r4 : ∀ q ∈ lw_privs_4, lw_okq q := List.forall_mem_cons.mpr ⟨lw_p48, List.forall_mem_cons.mpr ⟨lw_p49, List.forall_mem_cons.mpr ⟨lw_p50, List.forall_mem_cons.mpr ⟨lw_p51, List.forall_mem_cons.mpr ⟨lw_p52, List.forall_mem_cons.mpr ⟨lw_p53, List.forall_mem_cons.mpr ⟨lw_p54, List.forall_mem_cons.mpr ⟨lw_p55, List.forall_mem_cons.mpr ⟨lw_p56, List.forall_mem_cons.mpr ⟨lw_p57, List.forall_mem_cons.mpr ⟨lw_p58, List.forall_mem_cons.mpr ⟨lw_p59, List.forall_mem_cons.mpr ⟨lw_p60, List.forall_mem_cons.mpr ⟨lw_p61, List.forall_mem_cons.mpr ⟨lw_p62, List.forall_mem_cons.mpr ⟨lw_p63, fun _ h => absurd h List.not_mem_nil⟩⟩⟩⟩⟩⟩⟩⟩⟩⟩⟩⟩⟩⟩⟩⟩
def lw_privs : List (MethodName × Nat) := lw_privs_1 ++ (lw_privs_2 ++ (lw_privs_3 ++ (lw_privs_4)))
def lw_tbl : List Cond := k2_sels lw_privs ++ tables_1
theorem lw_privs_ok : ∀ q ∈ lw_privs, lw_okq q := by
  show ∀ q ∈ lw_privs_1 ++ (lw_privs_2 ++ (lw_privs_3 ++ (lw_privs_4))), lw_okq q
  exact List.forall_mem_append.mpr ⟨lw_r1, List.forall_mem_append.mpr ⟨lw_r2, List.forall_mem_append.mpr ⟨lw_r3, lw_r4⟩⟩⟩
section VXR
variable {p : Program} {l : Launch} {e : Env} {R : Room} {s : State} {m : MethodId} {args : Array Value} {below : List Frame} {meth : Method} {c : Code} {H : Heap} {locs : List Loc} {cells slots : Nat} {Q : State → Prop}
variable {mc ms : Nat} {free : Addr → Prop} {A0 A1 : Nat → Prop} {H0 : Heap} {a : Array Value} {pc : Nat} {ls : Array Slot} {st0 rest : List Value}
def vx_W (p : Program) (l : Launch) (e : Env) (R : Room) (s : State) (m : MethodId) (args : Array Value) (below : List Frame) (meth : Method) (c : Code) (H : Heap) (locs : List Loc) (cells slots : Nat) (Q : State → Prop) (g : JFrame) (q : Addr) : Prop :=
  ∀ T : State, T.heap = H → Stand p l e R s m args below meth c T locs cells slots → ∃ t, Steps p.tables e below ((T.setTop g).pushFrame (.throwing q)) t ∧ Q t
theorem vx_catch {own name : String} {E : String} {ce : Cell} {q : Addr} (hown : s.vm.findClass own = some m.cls) (pre : List ExceptionTableEntry) (x : ExceptionTableEntry) (suf : List ExceptionTableEntry) (hsplit : c.exceptionTable.toList = pre ++ x :: suf)
    (hpass : ∀ z ∈ pre, covers z pc = false ∨ (z.catchType ≠ 0 ∧ ∃ nm : String, (Cond.classLink own z.catchType nm).before args s = true ∧ va_Nc E nm s)) (hx : covers x pc = true) (h0 : x.catchType ≠ 0)
    (hlink : (Cond.classLink own x.catchType name).before args s = true) (hcast : (Cond.castable E name).before args s = true) (hcell : H[q]? = some ce) (hv : ce.vm = .none) (hcl : s.vm.findClass E = some ce.cls)
    (kk : W p l e R s m args below meth c H locs cells slots Q (F0 m x.handlerPc ls [.ref q])) : vx_W p l e R s m args below meth c H locs cells slots Q (F0 m pc ls rest) q := by
  intro T hT X
  have hpl : e.platform.magicAccessors = ({} : Platform).magicAccessors := by rw [X.admits.platform]
  obtain ⟨c3, c4, hc3, hc4, hasg⟩ := Cond.castable_spec hcast
  cases Option.some.inj (hc3.symm.trans hcl)
  obtain ⟨c5, hc5, hcl5⟩ := Cond.classLink_spec hown hlink e.platform hpl
  cases Option.some.inj (hc4.symm.trans hc5)
  obtain ⟨vm', X', st⟩ := X.thenCaughtThrough q (g := F0 m pc ls rest) rfl (Steps.refl _) (by rw [hT]; exact hcell) (by rw [hv]; rfl) (by obtain ⟨k9, h9, -⟩ := Vm.findClass_spec hcl; exact ⟨k9, h9⟩) pre x suf hsplit
    (fun z hz => by
      rcases hpass z hz with h | ⟨hz0, nm, hl1, hn1⟩
      · exact Or.inl h
      · obtain ⟨c6, hc6, hcl6⟩ := Cond.classLink_spec hown hl1 e.platform hpl
        obtain ⟨a8, b8, h1, h2, h3⟩ := hn1
        cases Option.some.inj (h1.symm.trans hcl)
        cases Option.some.inj (h2.symm.trans hc6)
        exact Or.inr ⟨hz0, _, hcl6, h3⟩) hx (Or.inr ⟨h0, c4, hcl5, hasg⟩)
  obtain ⟨t, a1, b1⟩ := kk (T.setVm vm') hT X'
  exact ⟨t, st.trans a1, b1⟩
end VXR
section VXE
variable {p : Program} {l : Launch} {e : Env} {R : Room} {s : State} {m : MethodId} {args : Array Value} {below : List Frame} {meth : Method} {c : Code} {H : Heap} {locs : List Loc} {cells slots : Nat} {Q : State → Prop}
variable {mc ms : Nat} {free : Addr → Prop} {A0 A1 : Nat → Prop} {H0 : Heap} {a : Array Value} {ls : Array Slot} {st0 rest : List Value}
variable {Qc : Array Value → State → Outcome → State → Prop} {XC : String → State → State → Prop}
theorem vx_frame {U : State} {k n : Nat} (h : s.sameButNew ({ U with vm := s.vm } : State) locs k n) : s.heap.size ≤ U.heap.size ∧ ∀ q : Nat, q < s.heap.size → (∀ z ∈ locs, z.base ≠ q) → U.heap[q]? = s.heap[q]? := by
  obtain ⟨-, h2, -, -, -, h6⟩ := h
  refine ⟨h2, fun q hq hz => ?_⟩
  obtain ⟨c9, e1, e2, e3, e4⟩ := h6 q _ (Array.getElem?_eq_getElem hq)
  have hs : c9.slots = (s.heap[q]).slots := Array.ext_getElem? fun i => e4 i fun hm => hz _ hm rfl
  have h9 : c9 = s.heap[q] := by
    rw [hs] at e2
    exact e2
  have e5 : U.heap[q]? = some c9 := e1
  rw [e5, h9, Array.getElem?_eq_getElem hq]
def vx_no (w : Cond) : Bool := decide (w ≠ .isRef (.static Bundle.tN "UNASSIGNED_STACK" Bundle.steD)) && decide (w ≠ .isRef (.static Bundle.tN "SUPPRESSED_SENTINEL" Bundle.listD)) && decide (w ≠ .laysStatic Bundle.tN "UNASSIGNED_STACK" Bundle.steD) && decide (w ≠ .laysStatic Bundle.tN "SUPPRESSED_SENTINEL" Bundle.listD)
def vx_at0 (own : String) (ic : Nat) (X : String) (names : List String) : List Cond := (Bundle.ownAtoms0 own ic X names).filter vx_no
theorem vx_own {args : Array Value} {s : State} {L : List Cond} (h1 : ∀ w ∈ L.filter vx_no, w.before args s = true)
    (hU : (Cond.isRef (.static Bundle.tN "UNASSIGNED_STACK" Bundle.steD)).before args s = true) (hN : (Cond.isRef (.static Bundle.tN "SUPPRESSED_SENTINEL" Bundle.listD)).before args s = true)
    (lU : (Cond.laysStatic Bundle.tN "UNASSIGNED_STACK" Bundle.steD).before args s = true) (lN : (Cond.laysStatic Bundle.tN "SUPPRESSED_SENTINEL" Bundle.listD).before args s = true) : ∀ w ∈ L, w.before args s = true := by
  intro w hw
  by_cases e1 : w = .isRef (.static Bundle.tN "UNASSIGNED_STACK" Bundle.steD)
  · rw [e1]; exact hU
  · by_cases e2 : w = .isRef (.static Bundle.tN "SUPPRESSED_SENTINEL" Bundle.listD)
    · rw [e2]; exact hN
    · by_cases e3 : w = .laysStatic Bundle.tN "UNASSIGNED_STACK" Bundle.steD
      · rw [e3]; exact lU
      · by_cases e4 : w = .laysStatic Bundle.tN "SUPPRESSED_SENTINEL" Bundle.listD
        · rw [e4]; exact lN
        · exact h1 w (List.mem_filter.mpr ⟨hw, by unfold vx_no; rw [decide_eq_true e1, decide_eq_true e2, decide_eq_true e3, decide_eq_true e4]; rfl⟩)
def vx_L (C n d : String) (A : Nat → Prop) (U : State) (H : Heap) : Prop := ∃ (c : ClassId) (k : Class) (i : Nat) (f : Field) (a : Nat) (cell : Cell), U.vm.findClass C = some c ∧ U.fieldFound? C n d = some (c, k, i, f) ∧ f.isStatic = true ∧ k.statics = some a ∧ H[a]? = some cell ∧ cell.vm.isStatics = true ∧ cell.cls = c ∧ f.slot < cell.slots.size ∧ k.staticTypes[f.slot]? = some f.type ∧ ¬ A a
theorem vx_L.moved {C n d : String} {A : Nat → Prop} {u U : State} {H : Heap} (hvm : u.vm.Alike U.vm) (h : vx_L C n d A u H) : vx_L C n d A U H := by
  obtain ⟨c, k, i, f, a, cell, h1, h2, h3, h4, h5, h6, h7, h8, h9, h10⟩ := h
  obtain ⟨k', hi', he⟩ := State.fieldFound?_setVm hvm h2
  exact ⟨c, k', i, f, a, cell, by rw [hvm.findClass]; exact h1, hi', h3, by rw [he]; exact h4, h5, h6, h7, h8, by rw [he]; exact h9, h10⟩
theorem vx_L.kept {C n d : String} {A : Nat → Prop} {U : State} {H H1 : Heap} (h : vx_L C n d A U H) (hq : ∀ a : Nat, a < H.size → ¬ A a → H1[a]? = H[a]?) : vx_L C n d A U H1 := by
  obtain ⟨c, k, i, f, a, cell, h1, h2, h3, h4, h5, h6, h7, h8, h9, h10⟩ := h
  exact ⟨c, k, i, f, a, cell, h1, h2, h3, h4, by rw [hq a (Array.getElem?_eq_some_iff.mp h5).1 h10]; exact h5, h6, h7, h8, h9, h10⟩
theorem vx_L.narrow {C n d : String} {A B : Nat → Prop} {U : State} {H : Heap} (h : vx_L C n d A U H) (hAB : ∀ q, B q → A q) : vx_L C n d B U H := by
  obtain ⟨c, k, i, f, a, cell, h1, h2, h3, h4, h5, h6, h7, h8, h9, h10⟩ := h
  exact ⟨c, k, i, f, a, cell, h1, h2, h3, h4, h5, h6, h7, h8, h9, fun z => h10 (hAB _ z)⟩
theorem vx_L.word {C n d : String} {A : Nat → Prop} {s : State} {args : Array Value} (h : vx_L C n d A s s.heap) : (Cond.laysStatic C n d).before args s = true := by
  obtain ⟨c, k, i, f, a, cell, h1, h2, h3, h4, h5, h6, h7, h8, h9, -⟩ := h
  show (Cond.laysStatic C n d).holds args s none s [] = true
  exact Cond.laysStatic_of h1 h2 h3 h4 h5 h6 h7 h8 h9
def vx_Zq (C n d : String) (A : Nat → Prop) (U : State) (H : Heap) : Prop := va_Zq C n d A U H ∧ vx_L C n d A U H
theorem vx_Zq.moved {C n d : String} {A : Nat → Prop} {u U : State} {H : Heap} (hvm : u.vm.Alike U.vm) (h : vx_Zq C n d A u H) : vx_Zq C n d A U H := ⟨va_Zq.moved hvm h.1, vx_L.moved hvm h.2⟩
theorem vx_Zq.kept {C n d : String} {A : Nat → Prop} {U : State} {H H1 : Heap} (h : vx_Zq C n d A U H) (hq : ∀ a : Nat, a < H.size → ¬ A a → H1[a]? = H[a]?) : vx_Zq C n d A U H1 := ⟨va_Zq.kept h.1 hq, vx_L.kept h.2 hq⟩
theorem vx_Zq.narrow {C n d : String} {A B : Nat → Prop} {U : State} {H : Heap} (h : vx_Zq C n d A U H) (hAB : ∀ q, B q → A q) : vx_Zq C n d B U H := ⟨va_Zq.narrow h.1 hAB, vx_L.narrow h.2 hAB⟩
theorem vx_Zqof {args : Array Value} {s : State} {C n d : String} {A : Nat → Prop} (hl : (Cond.laysStatic C n d).before args s = true) (hini : (Cond.initialized C).before args s = true) (h : (Cond.isRef (.static C n d)).before args s = true) (hA : ∀ a : Nat, a < s.heap.size → ¬ A a) : vx_Zq C n d A s s.heap := by
  refine ⟨va_Zqof hl hini h hA, ?_⟩
  obtain ⟨c, k, i, f, a, cell, h1, h2, h3, h4, h5, h6, h7, h8, h9⟩ := Cond.laysStatic_spec hl
  exact ⟨c, k, i, f, a, cell, h1, h2, h3, h4, h5, h6, h7, h8, h9, hA a (Array.getElem?_eq_some_iff.mp h5).1⟩
theorem vx_isRef {C n d : String} {v : Value} {A : Nat → Prop} {s : State} {args : Array Value} (h : va_Z C n d v A s s.heap) (hv : v.isRef = true) : (Cond.isRef (.static C n d)).before args s = true := by
  obtain ⟨cf, kf, fi, f, a, cell, h1, h2, h3, h4, h5, h6, h7, -⟩ := h
  have he : (Term.static C n d).eval args s none [] s = some v := by
    simp [Term.eval, State.fieldNamed?, h1, h2, h4, h5, h6, h7]
  simp only [Cond.before, Cond.holds, Cond.value, he]
  cases v <;> simp_all [Value.isRef]
theorem vx_isRefq {C n d : String} {A : Nat → Prop} {s : State} {args : Array Value} (h : va_Zq C n d A s s.heap) : (Cond.isRef (.static C n d)).before args s = true := by
  rcases h with h | ⟨t, h⟩
  · exact vx_isRef h rfl
  · exact vx_isRef h rfl
theorem vx_rebase {T : State} (X : Stand p l e R s m args below meth c T locs cells slots) {R' : Room} (hf : R'.frames ≤ R.frames) (hl : R'.locals ≤ R.locals) (hc : cells + R'.cells ≤ R.cells) (hs : slots + R'.slots ≤ R.slots) :
    Stand p l e R' ((T.setVm s.vm).setFrames (.invoking m args :: below)) m args below meth c T [] 0 0 := by
  have htop : (T.setVm s.vm).topJava?.isSome := X.here.top
  have hF : ((T.setVm s.vm).setFrames (.invoking m args :: below)).frames = .invoking m args :: below := State.frames_setFrames _ (State.cur_lt_of_top htop)
  obtain ⟨g₀, hg0⟩ := Option.isSome_iff_exists.mp htop
  obtain ⟨r, hr⟩ := State.topJava?_eq_some.mp hg0
  have hl9 : e.platform.stackLimits (T.setVm s.vm).me = e.platform.stackLimits s.me := X.limits
  have hb9 : (T.setVm s.vm).me.stackBytes = s.me.stackBytes := X.bytes
  refine ⟨X.admits, X.cas, X.clock, hF, ?_, X.hears, X.method, X.code, X.here, X.tail, X.warmed, ?_, ?_, ?_⟩
  · have h := X.room
    have hU : ((T.setVm s.vm).setFrames (.invoking m args :: below)).localsInUse = s.localsInUse := by
      rw [State.localsInUse_invoking hF (meth := meth) (c := c) X.method X.code, State.localsInUse_invoking X.frames X.method X.code]
    simp only [State.hasRoom, Bool.and_eq_true, decide_eq_true_eq] at h ⊢
    obtain ⟨⟨⟨⟨h1, h2, h3, h4, h5, h6⟩, h7⟩, h8⟩, h9⟩ := h
    rw [X.frames, List.length_cons] at h2 h3
    have q1 := X.heapSize
    have q2 := X.used
    simp only [hF, hU, List.length_cons, State.stackLimits_setFrames, State.stackBytes_setFrames, hl9, hb9]
    refine ⟨⟨⟨⟨by omega, by omega, by omega, by omega, by omega, h6⟩, ?_⟩, ?_⟩, X.book⟩
    · show T.heap.size + R'.cells ≤ e.platform.maxCells
      omega
    · show T.slotsUsed + R'.slots ≤ e.platform.maxSlots
      omega
  · rw [State.stackLimits_setFrames]; rfl
  · rw [State.stackBytes_setFrames]; rfl
  · refine ⟨?_, Nat.le_refl _, Nat.le_refl _, ?_, ?_, fun a c9 h9 => ⟨c9, h9, rfl, rfl, fun _ _ => rfl⟩⟩
    · obtain ⟨t, ht, -⟩ := State.frames_cons hr
      show T.setVm s.vm = { ((T.setVm s.vm).setFrames (.invoking m args :: below)).setFrames (T.setVm s.vm).frames with heap := T.heap, slotsUsed := T.slotsUsed }
      rw [State.setFrames_setFrames, State.setFrames_self ht]
      rfl
    · show T.slotsUsed = T.slotsUsed + ((T.heap.toList.drop T.heap.size).map (·.slots.size)).sum
      rw [List.drop_eq_nil_of_le (Nat.le_of_eq Array.length_toList)]
      rfl
    · show ((T.heap.toList.drop T.heap.size).map (·.slots.size)).sum ≤ 0
      rw [List.drop_eq_nil_of_le (Nat.le_of_eq Array.length_toList)]
      exact Nat.le_refl _
end VXE
end
section
/-- name, code, locals, answer, handlers -/
abbrev mm_M : Type := MethodName × ByteArray × Nat × Option FieldType × List (Nat × Nat × Nat × Nat)
/-! printed by wip/whole/gen_names.py: classes, fields, methods -/
def mFG : u_T := fun k => match k with
  | 0 => ("CutSheets$Groups", "numbers", "[I", true)
  | _ => ("CutSheets$Groups", "begins", "[I", true)
def mtG : Nat → FieldType := fun k => match k with
  | 0 => .array .int
  | _ => .array .int
theorem mnG : ∀ a, a < 2 → ∀ b, b < 2 → a ≠ b → (mFG a).2.1 ≠ (mFG b).2.1 := by decide +kernel
theorem moG : ∀ k, k < 2 → parseFieldDescriptor (mFG k).2.2.1 = some (mtG k) := by decide +kernel
def mFK : u_T := fun k => match k with
  | 0 => ("CutSheets$Look", "lines", "LCutSheets$Groups;", true)
  | 1 => ("CutSheets$Look", "spots", "LCutSheets$Groups;", true)
  | 2 => ("CutSheets$Look", "cuts", "LCutSheets$Groups;", true)
  | 3 => ("CutSheets$Look", "hookedArea", "[I", true)
  | 4 => ("CutSheets$Look", "signs", "[I", true)
  | 5 => ("CutSheets$Look", "hooks", "[I", true)
  | 6 => ("CutSheets$Look", "thingOf", "[I", true)
  | 7 => ("CutSheets$Look", "things", "I", false)
  | _ => ("CutSheets$Look", "bits", "I", false)
def mtK : Nat → FieldType := fun k => match k with
  | 0 => .object "CutSheets$Groups"
  | 1 => .object "CutSheets$Groups"
  | 2 => .object "CutSheets$Groups"
  | 3 => .array .int
  | 4 => .array .int
  | 5 => .array .int
  | 6 => .array .int
  | 7 => .int
  | _ => .int
theorem mnK : ∀ a, a < 9 → ∀ b, b < 9 → a ≠ b → (mFK a).2.1 ≠ (mFK b).2.1 := by decide +kernel
theorem moK : ∀ k, k < 9 → parseFieldDescriptor (mFK k).2.2.1 = some (mtK k) := by decide +kernel
def mFR : u_T := fun k => match k with
  | 0 => ("CutSheets$Reading", "tokens", "[I", true)
  | 1 => ("CutSheets$Reading", "size", "I", false)
  | 2 => ("CutSheets$Reading", "innerAreas", "I", false)
  | 3 => ("CutSheets$Reading", "orders", "[I", true)
  | _ => ("CutSheets$Reading", "ordered", "I", false)
def mtR : Nat → FieldType := fun k => match k with
  | 0 => .array .int
  | 1 => .int
  | 2 => .int
  | 3 => .array .int
  | _ => .int
theorem mnR : ∀ a, a < 5 → ∀ b, b < 5 → a ≠ b → (mFR a).2.1 ≠ (mFR b).2.1 := by decide +kernel
theorem moR : ∀ k, k < 5 → parseFieldDescriptor (mFR k).2.2.1 = some (mtR k) := by decide +kernel
def mFS : u_T := fun k => match k with
  | 0 => ("CutSheets$Sheet", "spotArea", "[I", true)
  | 1 => ("CutSheets$Sheet", "cutArea", "[I", true)
  | 2 => ("CutSheets$Sheet", "lineArea", "[I", true)
  | 3 => ("CutSheets$Sheet", "spotSign", "[I", true)
  | _ => ("CutSheets$Sheet", "hooks", "[I", true)
def mtS : Nat → FieldType := fun k => match k with
  | 0 => .array .int
  | 1 => .array .int
  | 2 => .array .int
  | 3 => .array .int
  | _ => .array .int
theorem mnS : ∀ a, a < 5 → ∀ b, b < 5 → a ≠ b → (mFS a).2.1 ≠ (mFS b).2.1 := by decide +kernel
theorem moS : ∀ k, k < 5 → parseFieldDescriptor (mFS k).2.2.1 = some (mtS k) := by decide +kernel
def mFC : u_T := fun k => match k with
  | 0 => ("CutSheets", "sheets", "[LCutSheets$Sheet;", true)
  | 1 => ("CutSheets", "lastRead", "LCutSheets$Reading;", true)
  | 2 => ("CutSheets", "partRead", "LCutSheets$Reading;", true)
  | 3 => ("CutSheets", "otherRead", "LCutSheets$Reading;", true)
  | 4 => ("CutSheets", "firstLook", "LCutSheets$Look;", true)
  | 5 => ("CutSheets", "nowLook", "LCutSheets$Look;", true)
  | 6 => ("CutSheets", "standsFor", "[I", true)
  | 7 => ("CutSheets", "drawing", "Z", false)
  | _ => ("CutSheets", "moves", "I", false)
def mtC : Nat → FieldType := fun k => match k with
  | 0 => .array (.object "CutSheets$Sheet")
  | 1 => .object "CutSheets$Reading"
  | 2 => .object "CutSheets$Reading"
  | 3 => .object "CutSheets$Reading"
  | 4 => .object "CutSheets$Look"
  | 5 => .object "CutSheets$Look"
  | 6 => .array .int
  | 7 => .boolean
  | _ => .int
theorem mnC : ∀ a, a < 9 → ∀ b, b < 9 → a ≠ b → (mFC a).2.1 ≠ (mFC b).2.1 := by decide +kernel
theorem moC : ∀ k, k < 9 → parseFieldDescriptor (mFC k).2.2.1 = some (mtC k) := by decide +kernel
def mFM : u_T := fun k => match k with
  | 0 => ("CutSheetsModel", "thrown", "I", false)
  | 1 => ("CutSheetsModel", "started", "Z", false)
  | 2 => ("CutSheetsModel", "moves", "I", false)
  | 3 => ("CutSheetsModel", "sheet", "[I", false)
  | 4 => ("CutSheetsModel", "kept", "[I", false)
  | 5 => ("CutSheetsModel", "reading", "I", false)
  | 6 => ("CutSheetsModel", "tokens", "[I", false)
  | 7 => ("CutSheetsModel", "otherReading", "I", false)
  | 8 => ("CutSheetsModel", "others", "[I", false)
  | 9 => ("CutSheetsModel", "renamed", "[I", false)
  | 10 => ("CutSheetsModel", "open", "I", false)
  | 11 => ("CutSheetsModel", "pile", "[I", false)
  | 12 => ("CutSheetsModel", "reached", "[I", false)
  | 13 => ("CutSheetsModel", "holding", "[Z", false)
  | 14 => ("CutSheetsModel", "newNumber", "[I", false)
  | 15 => ("CutSheetsModel", "newLine", "[I", false)
  | 16 => ("CutSheetsModel", "holdBack", "[I", false)
  | 17 => ("CutSheetsModel", "unitOf", "[I", false)
  | 18 => ("CutSheetsModel", "ownSpots", "[I", false)
  | 19 => ("CutSheetsModel", "ownCuts", "[I", false)
  | _ => ("CutSheetsModel", "firstSheet", "[I", false)
def mtM : Nat → FieldType := fun k => match k with
  | 0 => .int
  | 1 => .boolean
  | 2 => .int
  | 3 => .array .int
  | 4 => .array .int
  | 5 => .int
  | 6 => .array .int
  | 7 => .int
  | 8 => .array .int
  | 9 => .array .int
  | 10 => .int
  | 11 => .array .int
  | 12 => .array .int
  | 13 => .array .boolean
  | 14 => .array .int
  | 15 => .array .int
  | 16 => .array .int
  | 17 => .array .int
  | 18 => .array .int
  | 19 => .array .int
  | _ => .array .int
theorem mnM : ∀ a, a < 21 → ∀ b, b < 21 → a ≠ b → (mFM a).2.1 ≠ (mFM b).2.1 := by decide +kernel
theorem moM : ∀ k, k < 21 → parseFieldDescriptor (mFM k).2.2.1 = some (mtM k) := by decide +kernel
abbrev mm_cl : List vw_C := [("CutSheets$Groups", mFG, 2), ("CutSheets$Look", mFK, 9), ("CutSheets$Reading", mFR, 5), ("CutSheets$Sheet", mFS, 5), ("CutSheets", mFC, 9), ("CutSheetsModel", mFM, 21)]
abbrev mC_init : mm_M := (⟨"CutSheets", "<init>", "()V"⟩, prog_1_method_1_code, 2, none, [])
abbrev mC_cut : mm_M := (⟨"CutSheets", "cut", "(I)I"⟩, prog_1_method_2_code, 2, (some (.int)), [])
abbrev mC_line : mm_M := (⟨"CutSheets", "line", "(I)I"⟩, prog_1_method_3_code, 2, (some (.int)), [])
abbrev mC_spot : mm_M := (⟨"CutSheets", "spot", "(IIII)I"⟩, prog_1_method_4_code, 6, (some (.int)), [])
abbrev mC_start : mm_M := (⟨"CutSheets", "start", "()V"⟩, prog_1_method_5_code, 1, none, [])
abbrev mC_erase : mm_M := (⟨"CutSheets", "erase", "(II)I"⟩, prog_1_method_6_code, 4, (some (.int)), [])
abbrev mC_copy : mm_M := (⟨"CutSheets", "copy", "(III)I"⟩, prog_1_method_7_code, 6, (some (.int)), [])
abbrev mC_uncopy : mm_M := (⟨"CutSheets", "uncopy", "(II)I"⟩, prog_1_method_8_code, 3, (some (.int)), [])
abbrev mC_wrap : mm_M := (⟨"CutSheets", "wrap", "(II)I"⟩, prog_1_method_9_code, 7, (some (.int)), [])
abbrev mC_unwrap : mm_M := (⟨"CutSheets", "unwrap", "(I)I"⟩, prog_1_method_10_code, 2, (some (.int)), [])
abbrev mC_join : mm_M := (⟨"CutSheets", "join", "(II)I"⟩, prog_1_method_11_code, 6, (some (.int)), [])
abbrev mC_sever : mm_M := (⟨"CutSheets", "sever", "(II)I"⟩, prog_1_method_12_code, 6, (some (.int)), [])
abbrev mC_back : mm_M := (⟨"CutSheets", "back", "()I"⟩, prog_1_method_13_code, 1, (some (.int)), [])
abbrev mC_depth : mm_M := (⟨"CutSheets", "depth", "(I)I"⟩, prog_1_method_14_code, 2, (some (.int)), [])
abbrev mC_read : mm_M := (⟨"CutSheets", "read", "(I)I"⟩, prog_1_method_15_code, 2, (some (.int)), [])
abbrev mC_token : mm_M := (⟨"CutSheets", "token", "(I)I"⟩, prog_1_method_16_code, 2, (some (.int)), [])
abbrev mC_holds : mm_M := (⟨"CutSheets", "holds", "(ZII)Z"⟩, prog_1_method_17_code, 4, (some (.boolean)), [])
abbrev mC_refutes : mm_M := (⟨"CutSheets", "refutes", "(I)I"⟩, prog_1_method_18_code, 4, (some (.int)), [])
abbrev mC_count : mm_M := (⟨"CutSheets", "count", "(I)I"⟩, prog_1_method_19_code, 2, (some (.int)), [])
abbrev mC_needArgument : mm_M := (⟨"CutSheets", "needArgument", "(Z)V"⟩, prog_1_method_20_code, 1, none, [])
abbrev mC_needState : mm_M := (⟨"CutSheets", "needState", "(Z)V"⟩, prog_1_method_21_code, 1, none, [])
abbrev mC_needRoom : mm_M := (⟨"CutSheets", "needRoom", "(Z)V"⟩, prog_1_method_22_code, 1, none, [])
abbrev mC_sheet : mm_M := (⟨"CutSheets", "sheet", "()LCutSheets$Sheet;"⟩, prog_1_method_23_code, 1, (some ((.object "CutSheets$Sheet"))), [])
abbrev mC_mayInsert : mm_M := (⟨"CutSheets", "mayInsert", "(I)Z"⟩, prog_1_method_24_code, 2, (some (.boolean)), [])
abbrev mC_mayChange : mm_M := (⟨"CutSheets", "mayChange", "()Z"⟩, prog_1_method_25_code, 1, (some (.boolean)), [])
abbrev mC_changed : mm_M := (⟨"CutSheets", "changed", "()LCutSheets$Sheet;"⟩, prog_1_method_26_code, 1, (some ((.object "CutSheets$Sheet"))), [])
abbrev mC_hasAlike : mm_M := (⟨"CutSheets", "hasAlike", "(II)Z"⟩, prog_1_method_27_code, 6, (some (.boolean)), [])
abbrev mC_placesOf : mm_M := (⟨"CutSheets", "placesOf", "(I)I"⟩, prog_1_method_28_code, 1, (some (.int)), [])
abbrev mC_bitOfOne : mm_M := (⟨"CutSheets", "bitOfOne", "(I)I"⟩, prog_1_method_29_code, 1, (some (.int)), [])
abbrev mC_bitOfTwo : mm_M := (⟨"CutSheets", "bitOfTwo", "(II)I"⟩, prog_1_method_30_code, 2, (some (.int)), [])
abbrev mC_bitsOf : mm_M := (⟨"CutSheets", "bitsOf", "(I)I"⟩, prog_1_method_31_code, 4, (some (.int)), [])
abbrev mC_isAmong : mm_M := (⟨"CutSheets", "isAmong", "(II)Z"⟩, prog_1_method_32_code, 2, (some (.boolean)), [])
abbrev mM_init : mm_M := (⟨"CutSheetsModel", "<init>", "()V"⟩, prog_7_method_1_code, 2, none, [])
abbrev mM_thrown : mm_M := (⟨"CutSheetsModel", "thrown", "()I"⟩, prog_7_method_2_code, 1, (some (.int)), [])
abbrev mM_isArea : mm_M := (⟨"CutSheetsModel", "isArea", "(I)Z"⟩, prog_7_method_3_code, 2, (some (.boolean)), [])
abbrev mM_isCut : mm_M := (⟨"CutSheetsModel", "isCut", "(I)Z"⟩, prog_7_method_4_code, 2, (some (.boolean)), [])
abbrev mM_isLine : mm_M := (⟨"CutSheetsModel", "isLine", "(I)Z"⟩, prog_7_method_5_code, 2, (some (.boolean)), [])
abbrev mM_isSpot : mm_M := (⟨"CutSheetsModel", "isSpot", "(I)Z"⟩, prog_7_method_6_code, 2, (some (.boolean)), [])
abbrev mM_isWithin : mm_M := (⟨"CutSheetsModel", "isWithin", "(II)Z"⟩, prog_7_method_7_code, 4, (some (.boolean)), [])
abbrev mM_depthOf : mm_M := (⟨"CutSheetsModel", "depthOf", "(I)I"⟩, prog_7_method_8_code, 4, (some (.int)), [])
abbrev mM_places : mm_M := (⟨"CutSheetsModel", "places", "(I)I"⟩, prog_7_method_9_code, 2, (some (.int)), [])
abbrev mM_freeCut : mm_M := (⟨"CutSheetsModel", "freeCut", "()I"⟩, prog_7_method_10_code, 2, (some (.int)), [])
abbrev mM_freeLine : mm_M := (⟨"CutSheetsModel", "freeLine", "()I"⟩, prog_7_method_11_code, 2, (some (.int)), [])
abbrev mM_freeSpot : mm_M := (⟨"CutSheetsModel", "freeSpot", "()I"⟩, prog_7_method_12_code, 2, (some (.int)), [])
abbrev mM_amount : mm_M := (⟨"CutSheetsModel", "amount", "(II)I"⟩, prog_7_method_13_code, 5, (some (.int)), [])
abbrev mM_keep : mm_M := (⟨"CutSheetsModel", "keep", "()V"⟩, prog_7_method_14_code, 2, none, [])
abbrev mM_checked : mm_M := (⟨"CutSheetsModel", "checked", "(IZ)I"⟩, prog_7_method_15_code, 3, (some (.int)), [])
abbrev mM_cut : mm_M := (⟨"CutSheetsModel", "cut", "(I)I"⟩, prog_7_method_16_code, 3, (some (.int)), [])
abbrev mM_line : mm_M := (⟨"CutSheetsModel", "line", "(I)I"⟩, prog_7_method_17_code, 3, (some (.int)), [])
abbrev mM_mayHook : mm_M := (⟨"CutSheetsModel", "mayHook", "(II)Z"⟩, prog_7_method_18_code, 3, (some (.boolean)), [])
abbrev mM_spot : mm_M := (⟨"CutSheetsModel", "spot", "(IIII)I"⟩, prog_7_method_19_code, 7, (some (.int)), [])
abbrev mM_start : mm_M := (⟨"CutSheetsModel", "start", "()V"⟩, prog_7_method_20_code, 2, none, [])
abbrev mM_removeSpot : mm_M := (⟨"CutSheetsModel", "removeSpot", "(I)V"⟩, prog_7_method_21_code, 2, none, [])
abbrev mM_removeCut : mm_M := (⟨"CutSheetsModel", "removeCut", "(I)V"⟩, prog_7_method_22_code, 3, none, [])
abbrev mM_isHooked : mm_M := (⟨"CutSheetsModel", "isHooked", "(I)Z"⟩, prog_7_method_23_code, 4, (some (.boolean)), [])
abbrev mM_noPart : mm_M := (⟨"CutSheetsModel", "noPart", "(II)Z"⟩, prog_7_method_24_code, 3, (some (.boolean)), [])
abbrev mM_areaOf : mm_M := (⟨"CutSheetsModel", "areaOf", "(II)I"⟩, prog_7_method_25_code, 3, (some (.int)), [])
abbrev mM_late : mm_M := (⟨"CutSheetsModel", "late", "()I"⟩, prog_7_method_26_code, 1, (some (.int)), [])
abbrev mM_erase : mm_M := (⟨"CutSheetsModel", "erase", "(II)I"⟩, prog_7_method_27_code, 4, (some (.int)), [])
abbrev mM_copySpot : mm_M := (⟨"CutSheetsModel", "copySpot", "(II)V"⟩, prog_7_method_28_code, 6, none, [])
abbrev mM_copyArea : mm_M := (⟨"CutSheetsModel", "copyArea", "(III)V"⟩, prog_7_method_29_code, 5, none, [])
abbrev mM_copyCut : mm_M := (⟨"CutSheetsModel", "copyCut", "(II)I"⟩, prog_7_method_30_code, 8, (some (.int)), [])
abbrev mM_isRoomFor : mm_M := (⟨"CutSheetsModel", "isRoomFor", "(I)Z"⟩, prog_7_method_31_code, 6, (some (.boolean)), [])
abbrev mM_copy : mm_M := (⟨"CutSheetsModel", "copy", "(III)I"⟩, prog_7_method_32_code, 7, (some (.int)), [])
abbrev mM_add : mm_M := (⟨"CutSheetsModel", "add", "(I)V"⟩, prog_7_method_33_code, 2, none, [])
abbrev mM_readOwn : mm_M := (⟨"CutSheetsModel", "readOwn", "(I)V"⟩, prog_7_method_34_code, 3, none, [])
abbrev mM_readSpot : mm_M := (⟨"CutSheetsModel", "readSpot", "(I)V"⟩, prog_7_method_35_code, 4, none, [])
abbrev mM_readArea : mm_M := (⟨"CutSheetsModel", "readArea", "(I)V"⟩, prog_7_method_36_code, 4, none, [])
abbrev mM_readPart : mm_M := (⟨"CutSheetsModel", "readPart", "(II)V"⟩, prog_7_method_37_code, 6, none, [])
abbrev mM_isAlike : mm_M := (⟨"CutSheetsModel", "isAlike", "(II)Z"⟩, prog_7_method_38_code, 5, (some (.boolean)), [])
abbrev mM_hasOther : mm_M := (⟨"CutSheetsModel", "hasOther", "(II)Z"⟩, prog_7_method_39_code, 7, (some (.boolean)), [])
abbrev mM_uncopy : mm_M := (⟨"CutSheetsModel", "uncopy", "(II)I"⟩, prog_7_method_40_code, 6, (some (.int)), [])
abbrev mM_wrap : mm_M := (⟨"CutSheetsModel", "wrap", "(II)I"⟩, prog_7_method_41_code, 6, (some (.int)), [])
abbrev mM_only : mm_M := (⟨"CutSheetsModel", "only", "(I)I"⟩, prog_7_method_42_code, 5, (some (.int)), [])
abbrev mM_unwrap : mm_M := (⟨"CutSheetsModel", "unwrap", "(I)I"⟩, prog_7_method_43_code, 5, (some (.int)), [])
abbrev mM_join : mm_M := (⟨"CutSheetsModel", "join", "(II)I"⟩, prog_7_method_44_code, 5, (some (.int)), [])
abbrev mM_sever : mm_M := (⟨"CutSheetsModel", "sever", "(II)I"⟩, prog_7_method_45_code, 8, (some (.int)), [])
abbrev mM_back : mm_M := (⟨"CutSheetsModel", "back", "()I"⟩, prog_7_method_46_code, 2, (some (.int)), [])
abbrev mM_depth : mm_M := (⟨"CutSheetsModel", "depth", "(I)I"⟩, prog_7_method_47_code, 2, (some (.int)), [])
abbrev mM_read : mm_M := (⟨"CutSheetsModel", "read", "(I)I"⟩, prog_7_method_48_code, 2, (some (.int)), [])
abbrev mM_token : mm_M := (⟨"CutSheetsModel", "token", "(I)I"⟩, prog_7_method_49_code, 2, (some (.int)), [])
abbrev mM_count : mm_M := (⟨"CutSheetsModel", "count", "(I)I"⟩, prog_7_method_50_code, 2, (some (.int)), [])
abbrev mM_thing : mm_M := (⟨"CutSheetsModel", "thing", "(III)I"⟩, prog_7_method_51_code, 4, (some (.int)), [])
abbrev mM_spotHolds : mm_M := (⟨"CutSheetsModel", "spotHolds", "(IIII)Z"⟩, prog_7_method_52_code, 9, (some (.boolean)), [])
abbrev mM_look : mm_M := (⟨"CutSheetsModel", "look", "(IIII)V"⟩, prog_7_method_53_code, 10, none, [])
abbrev mM_any : mm_M := (⟨"CutSheetsModel", "any", "(IIII)V"⟩, prog_7_method_54_code, 8, none, [])
abbrev mM_sheetHolds : mm_M := (⟨"CutSheetsModel", "sheetHolds", "(II)Z"⟩, prog_7_method_55_code, 6, (some (.boolean)), [])
abbrev mM_change : mm_M := (⟨"CutSheetsModel", "change", "()V"⟩, prog_7_method_56_code, 3, none, [])
abbrev mM_firstHolds : mm_M := (⟨"CutSheetsModel", "firstHolds", "(II)Z"⟩, prog_7_method_57_code, 4, (some (.boolean)), [])
abbrev mM_holds : mm_M := (⟨"CutSheetsModel", "holds", "(ZII)Z"⟩, prog_7_method_58_code, 4, (some (.boolean)), [])
abbrev mM_refutes : mm_M := (⟨"CutSheetsModel", "refutes", "(I)I"⟩, prog_7_method_59_code, 4, (some (.int)), [])
abbrev mG_init : mm_M := (⟨"CutSheets$Groups", "<init>", "(I)V"⟩, prog_2_method_1_code, 2, none, [])
abbrev mG_arrange : mm_M := (⟨"CutSheets$Groups", "arrange", "([I)V"⟩, prog_2_method_2_code, 5, none, [])
abbrev mK_init : mm_M := (⟨"CutSheets$Look", "<init>", "()V"⟩, prog_3_method_1_code, 1, none, [])
abbrev mK_arrange : mm_M := (⟨"CutSheets$Look", "arrange", "(LCutSheets$Sheet;)V"⟩, prog_3_method_2_code, 3, none, [])
abbrev mK_isTrueIn : mm_M := (⟨"CutSheets$Look", "isTrueIn", "(II)Z"⟩, prog_3_method_3_code, 3, (some (.boolean)), [])
abbrev mK_isAreaTrue : mm_M := (⟨"CutSheets$Look", "isAreaTrue", "(II)Z"⟩, prog_3_method_4_code, 5, (some (.boolean)), [])
abbrev mK_takeNextThings : mm_M := (⟨"CutSheets$Look", "takeNextThings", "(I)V"⟩, prog_3_method_5_code, 4, none, [])
abbrev mK_areSpotsTrue : mm_M := (⟨"CutSheets$Look", "areSpotsTrue", "(I)Z"⟩, prog_3_method_6_code, 3, (some (.boolean)), [])
abbrev mK_bitOfSpot : mm_M := (⟨"CutSheets$Look", "bitOfSpot", "(I)I"⟩, prog_3_method_7_code, 4, (some (.int)), [])
abbrev mK_thingAt : mm_M := (⟨"CutSheets$Look", "thingAt", "(I)I"⟩, prog_3_method_8_code, 3, (some (.int)), [])
abbrev mK_areCutsFalse : mm_M := (⟨"CutSheets$Look", "areCutsFalse", "(II)Z"⟩, prog_3_method_9_code, 4, (some (.boolean)), [])
abbrev mR_init : mm_M := (⟨"CutSheets$Reading", "<init>", "()V"⟩, prog_4_method_1_code, 1, none, [])
abbrev mR_takeArea : mm_M := (⟨"CutSheets$Reading", "takeArea", "(LCutSheets$Sheet;I)V"⟩, prog_4_method_2_code, 3, none, [])
abbrev mR_takePart : mm_M := (⟨"CutSheets$Reading", "takePart", "(LCutSheets$Sheet;II)V"⟩, prog_4_method_3_code, 4, none, [])
abbrev mR_isSame : mm_M := (⟨"CutSheets$Reading", "isSame", "(LCutSheets$Reading;)Z"⟩, prog_4_method_4_code, 3, (some (.boolean)), [])
abbrev mR_clear : mm_M := (⟨"CutSheets$Reading", "clear", "(I)V"⟩, prog_4_method_5_code, 3, none, [])
abbrev mR_addArea : mm_M := (⟨"CutSheets$Reading", "addArea", "(LCutSheets$Sheet;II)V"⟩, prog_4_method_6_code, 5, none, [])
abbrev mR_addCutsIn : mm_M := (⟨"CutSheets$Reading", "addCutsIn", "(LCutSheets$Sheet;II)V"⟩, prog_4_method_7_code, 5, none, [])
abbrev mR_addSpot : mm_M := (⟨"CutSheets$Reading", "addSpot", "(LCutSheets$Sheet;I)V"⟩, prog_4_method_8_code, 4, none, [])
abbrev mR_addLine : mm_M := (⟨"CutSheets$Reading", "addLine", "(LCutSheets$Sheet;I)V"⟩, prog_4_method_9_code, 4, none, [])
abbrev mR_add : mm_M := (⟨"CutSheets$Reading", "add", "(I)V"⟩, prog_4_method_10_code, 2, none, [])
abbrev mS_init : mm_M := (⟨"CutSheets$Sheet", "<init>", "()V"⟩, prog_5_method_1_code, 2, none, [])
abbrev mS_takeOver : mm_M := (⟨"CutSheets$Sheet", "takeOver", "(LCutSheets$Sheet;)V"⟩, prog_5_method_2_code, 2, none, [])
abbrev mS_areas : mm_M := (⟨"CutSheets$Sheet", "areas", "(I)[I"⟩, prog_5_method_3_code, 2, (some ((.array .int))), [])
abbrev mS_leastNumber : mm_M := (⟨"CutSheets$Sheet", "leastNumber", "(I)I"⟩, prog_5_method_4_code, 2, (some (.int)), [])
abbrev mS_has : mm_M := (⟨"CutSheets$Sheet", "has", "(II)Z"⟩, prog_5_method_5_code, 3, (some (.boolean)), [])
abbrev mS_hasPart : mm_M := (⟨"CutSheets$Sheet", "hasPart", "(II)Z"⟩, prog_5_method_6_code, 3, (some (.boolean)), [])
abbrev mS_hasArea : mm_M := (⟨"CutSheets$Sheet", "hasArea", "(I)Z"⟩, prog_5_method_7_code, 2, (some (.boolean)), [])
abbrev mS_areaOf : mm_M := (⟨"CutSheets$Sheet", "areaOf", "(II)I"⟩, prog_5_method_8_code, 3, (some (.int)), [])
abbrev mS_howMany : mm_M := (⟨"CutSheets$Sheet", "howMany", "(I)I"⟩, prog_5_method_9_code, 2, (some (.int)), [])
abbrev mS_free : mm_M := (⟨"CutSheets$Sheet", "free", "(I)I"⟩, prog_5_method_10_code, 2, (some (.int)), [])
abbrev mS_howManyIn : mm_M := (⟨"CutSheets$Sheet", "howManyIn", "(II)I"⟩, prog_5_method_11_code, 5, (some (.int)), [])
abbrev mS_depthOf : mm_M := (⟨"CutSheets$Sheet", "depthOf", "(I)I"⟩, prog_5_method_12_code, 4, (some (.int)), [])
abbrev mS_isOdd : mm_M := (⟨"CutSheets$Sheet", "isOdd", "(I)Z"⟩, prog_5_method_13_code, 2, (some (.boolean)), [])
abbrev mS_isWithin : mm_M := (⟨"CutSheets$Sheet", "isWithin", "(II)Z"⟩, prog_5_method_14_code, 5, (some (.boolean)), [])
abbrev mS_areasWithin : mm_M := (⟨"CutSheets$Sheet", "areasWithin", "(I)I"⟩, prog_5_method_15_code, 4, (some (.int)), [])
abbrev mS_reaches : mm_M := (⟨"CutSheets$Sheet", "reaches", "(II)Z"⟩, prog_5_method_16_code, 3, (some (.boolean)), [])
abbrev mS_isHooked : mm_M := (⟨"CutSheets$Sheet", "isHooked", "(I)Z"⟩, prog_5_method_17_code, 3, (some (.boolean)), [])
abbrev mS_add : mm_M := (⟨"CutSheets$Sheet", "add", "(II)I"⟩, prog_5_method_18_code, 5, (some (.int)), [])
abbrev mS_addSpot : mm_M := (⟨"CutSheets$Sheet", "addSpot", "(IIII)I"⟩, prog_5_method_19_code, 6, (some (.int)), [])
abbrev mS_put : mm_M := (⟨"CutSheets$Sheet", "put", "(III)V"⟩, prog_5_method_20_code, 4, none, [])
abbrev mS_remove : mm_M := (⟨"CutSheets$Sheet", "remove", "(II)V"⟩, prog_5_method_21_code, 3, none, [])
abbrev mS_putAll : mm_M := (⟨"CutSheets$Sheet", "putAll", "(II)V"⟩, prog_5_method_22_code, 6, none, [])
abbrev mS_rehook : mm_M := (⟨"CutSheets$Sheet", "rehook", "(III)V"⟩, prog_5_method_23_code, 6, none, [])
abbrev mS_holdsOneCutAlone : mm_M := (⟨"CutSheets$Sheet", "holdsOneCutAlone", "(I)Z"⟩, prog_5_method_24_code, 3, (some (.boolean)), [])
abbrev mS_removeDoubleCut : mm_M := (⟨"CutSheets$Sheet", "removeDoubleCut", "(I)V"⟩, prog_5_method_25_code, 4, none, [])
abbrev mS_hasRoomForCopy : mm_M := (⟨"CutSheets$Sheet", "hasRoomForCopy", "(II)Z"⟩, prog_5_method_26_code, 4, (some (.boolean)), [])
abbrev mS_addCopy : mm_M := (⟨"CutSheets$Sheet", "addCopy", "(III[I)I"⟩, prog_5_method_27_code, 5, (some (.int)), [])
abbrev mS_copySpot : mm_M := (⟨"CutSheets$Sheet", "copySpot", "(II[I)I"⟩, prog_5_method_28_code, 6, (some (.int)), [])
abbrev mS_copyCut : mm_M := (⟨"CutSheets$Sheet", "copyCut", "(II[II)I"⟩, prog_5_method_29_code, 7, (some (.int)), [])
abbrev mS_copyCutsIn : mm_M := (⟨"CutSheets$Sheet", "copyCutsIn", "(II[II)V"⟩, prog_5_method_30_code, 6, none, [])
abbrev mL_cut : mm_M := (⟨"CutSheetsLaw", "cut", "(LCutSheets;I[J)I"⟩, method_3_code, 4, (some (.int)), [(0, 9, 12, 13), (0, 9, 15, 15), (0, 9, 18, 17)])
abbrev mL_line : mm_M := (⟨"CutSheetsLaw", "line", "(LCutSheets;I[J)I"⟩, method_4_code, 4, (some (.int)), [(0, 9, 12, 13), (0, 9, 15, 15), (0, 9, 18, 17)])
abbrev mL_spot : mm_M := (⟨"CutSheetsLaw", "spot", "(LCutSheets;IIII[J)I"⟩, method_5_code, 7, (some (.int)), [(0, 14, 17, 13), (0, 14, 21, 15), (0, 14, 25, 17)])
abbrev mL_start : mm_M := (⟨"CutSheetsLaw", "start", "(LCutSheets;)I"⟩, method_6_code, 2, (some (.int)), [(0, 4, 7, 15)])
abbrev mL_erase : mm_M := (⟨"CutSheetsLaw", "erase", "(LCutSheets;II[J)I"⟩, method_7_code, 5, (some (.int)), [(0, 10, 13, 13), (0, 10, 17, 15), (0, 10, 21, 17)])
abbrev mL_copy : mm_M := (⟨"CutSheetsLaw", "copy", "(LCutSheets;III[J)I"⟩, method_8_code, 6, (some (.int)), [(0, 12, 15, 13), (0, 12, 19, 15), (0, 12, 23, 17)])
abbrev mL_uncopy : mm_M := (⟨"CutSheetsLaw", "uncopy", "(LCutSheets;II[J)I"⟩, method_9_code, 5, (some (.int)), [(0, 10, 13, 13), (0, 10, 17, 15), (0, 10, 21, 17)])
abbrev mL_wrap : mm_M := (⟨"CutSheetsLaw", "wrap", "(LCutSheets;II[J)I"⟩, method_10_code, 5, (some (.int)), [(0, 10, 13, 13), (0, 10, 17, 15), (0, 10, 21, 17)])
abbrev mL_unwrap : mm_M := (⟨"CutSheetsLaw", "unwrap", "(LCutSheets;I[J)I"⟩, method_11_code, 4, (some (.int)), [(0, 9, 12, 13), (0, 9, 15, 15), (0, 9, 18, 17)])
abbrev mL_join : mm_M := (⟨"CutSheetsLaw", "join", "(LCutSheets;II[J)I"⟩, method_12_code, 5, (some (.int)), [(0, 10, 13, 13), (0, 10, 17, 15), (0, 10, 21, 17)])
abbrev mL_sever : mm_M := (⟨"CutSheetsLaw", "sever", "(LCutSheets;II[J)I"⟩, method_13_code, 5, (some (.int)), [(0, 10, 13, 13), (0, 10, 17, 15), (0, 10, 21, 17)])
abbrev mL_back : mm_M := (⟨"CutSheetsLaw", "back", "(LCutSheets;[J)I"⟩, method_14_code, 3, (some (.int)), [(0, 8, 11, 15)])
abbrev mL_depth : mm_M := (⟨"CutSheetsLaw", "depth", "(LCutSheets;I[J)I"⟩, method_15_code, 4, (some (.int)), [(0, 9, 12, 13)])
abbrev mL_read : mm_M := (⟨"CutSheetsLaw", "read", "(LCutSheets;I[J)I"⟩, method_16_code, 4, (some (.int)), [(0, 9, 12, 13)])
abbrev mL_token : mm_M := (⟨"CutSheetsLaw", "token", "(LCutSheets;I[J)I"⟩, method_17_code, 4, (some (.int)), [(0, 9, 12, 65)])
abbrev mL_holds : mm_M := (⟨"CutSheetsLaw", "holds", "(LCutSheets;ZII[J)I"⟩, method_18_code, 6, (some (.int)), [(0, 19, 22, 13), (0, 19, 26, 15)])
abbrev mL_refutes : mm_M := (⟨"CutSheetsLaw", "refutes", "(LCutSheets;I[J)I"⟩, method_19_code, 4, (some (.int)), [(0, 9, 12, 13), (0, 9, 15, 15)])
abbrev mL_count : mm_M := (⟨"CutSheetsLaw", "count", "(LCutSheets;I[J)I"⟩, method_20_code, 4, (some (.int)), [(0, 9, 12, 13)])
abbrev mL_law : mm_M := (⟨"CutSheetsLaw", "law", "([I)Z"⟩, code, 7, (some (.boolean)), [])
/-! printed by wip/whole/gen_names.py: nest links, field types -/
def mm_NF : List (String × Nat × String × String × String) := [("CutSheets", 151, "CutSheets$Reading", "size", "I"), ("CutSheets", 157, "CutSheets$Reading", "tokens", "[I"), ("CutSheets$Look", 52, "CutSheets$Sheet", "lineArea", "[I"), ("CutSheets$Look", 59, "CutSheets$Sheet", "spotArea", "[I"), ("CutSheets$Look", 62, "CutSheets$Sheet", "cutArea", "[I"), ("CutSheets$Look", 65, "CutSheets$Sheet", "spotSign", "[I"), ("CutSheets$Look", 74, "CutSheets$Sheet", "hooks", "[I"), ("CutSheets$Look", 79, "CutSheets$Groups", "begins", "[I"), ("CutSheets$Look", 82, "CutSheets$Groups", "numbers", "[I"), ("CutSheets$Reading", 46, "CutSheets$Sheet", "lineArea", "[I"), ("CutSheets$Reading", 52, "CutSheets$Sheet", "spotArea", "[I"), ("CutSheets$Reading", 58, "CutSheets$Sheet", "cutArea", "[I"), ("CutSheets$Reading", 64, "CutSheets$Sheet", "spotSign", "[I"), ("CutSheets$Reading", 70, "CutSheets$Sheet", "hooks", "[I")]
def mm_NM : List (String × Nat × MethodName) := [("CutSheets", 18, ⟨"CutSheets$Reading", "<init>", "()V"⟩), ("CutSheets", 31, ⟨"CutSheets$Look", "<init>", "()V"⟩), ("CutSheets$Look", 101, ⟨"CutSheets", "bitOfOne", "(I)I"⟩), ("CutSheets$Look", 104, ⟨"CutSheets", "bitOfTwo", "(II)I"⟩), ("CutSheets$Reading", 67, ⟨"CutSheets", "placesOf", "(I)I"⟩), ("CutSheets$Reading", 73, ⟨"CutSheets", "isAmong", "(II)Z"⟩), ("CutSheets$Sheet", 52, ⟨"CutSheets", "isAmong", "(II)Z"⟩)]
def mm_NC : List (Nat × Nat) := [(0, 1), (0, 2), (1, 0), (1, 2), (2, 0), (2, 1)]
def mm_fld (ci k : Nat) : String × String × String × Bool := match ci with
  | 0 => mFG k
  | 1 => mFK k
  | 2 => mFR k
  | 3 => mFS k
  | 4 => mFC k
  | _ => mFM k
def mm_ty (ci k : Nat) : FieldType := match ci with
  | 0 => mtG k
  | 1 => mtK k
  | 2 => mtR k
  | 3 => mtS k
  | 4 => mtC k
  | _ => mtM k
theorem mm_fld_eq (ci : Nat) (q : vw_C) (h : mm_cl[ci]? = some q) : ∀ k, mm_fld ci k = q.2.1 k := by
  match ci, h with
  | 0, h => cases h; exact fun _ => rfl
  | 1, h => cases h; exact fun _ => rfl
  | 2, h => cases h; exact fun _ => rfl
  | 3, h => cases h; exact fun _ => rfl
  | 4, h => cases h; exact fun _ => rfl
  | 5, h => cases h; exact fun _ => rfl
  | n + 6, h => exact absurd h (by simp [mm_cl])
theorem mm_tyok (ci : Nat) (q : vw_C) (h : mm_cl[ci]? = some q) : ∀ k, k < q.2.2 → parseFieldDescriptor (q.2.1 k).2.2.1 = some (mm_ty ci k) := by
  match ci, h with
  | 0, h => cases h; exact moG
  | 1, h => cases h; exact moK
  | 2, h => cases h; exact moR
  | 3, h => cases h; exact moS
  | 4, h => cases h; exact moC
  | 5, h => cases h; exact moM
  | n + 6, h => exact absurd h (by simp [mm_cl])
theorem mm_nmok (ci : Nat) (q : vw_C) (h : mm_cl[ci]? = some q) : ∀ a, a < q.2.2 → ∀ b, b < q.2.2 → a ≠ b → (q.2.1 a).2.1 ≠ (q.2.1 b).2.1 := by
  match ci, h with
  | 0, h => cases h; exact mnG
  | 1, h => cases h; exact mnK
  | 2, h => cases h; exact mnR
  | 3, h => cases h; exact mnS
  | 4, h => cases h; exact mnC
  | 5, h => cases h; exact mnM
  | n + 6, h => exact absurd h (by simp [mm_cl])
end
section
/-! The small machine: pictures of the heap, W with its context put away. -/
abbrev mm_E : Type := (Nat × vp_A) ⊕ (Nat × List Value)
abbrev mm_H : Type := Nat × Nat × (Nat → Option mm_E)
abbrev mm_L : Type := List (Option Value)
abbrev mm_O : Type := Option Value ⊕ Nat
abbrev mm_D : Type := mm_O → mm_H → Prop
/-- fixed for a run: classes and slots; array classes; first address that is ours, ends of the room; the script -/
abbrev mm_G : Type := va_G × (Nat → ClassId) × (Nat × Nat × Nat) × (Nat × Nat × (Nat → Int32))
abbrev mm_B (Γ : mm_G) : Nat := Γ.2.2.1.1
abbrev mm_Cm (Γ : mm_G) : Nat := Γ.2.2.1.2.1
abbrev mm_Sm (Γ : mm_G) : Nat := Γ.2.2.1.2.2
def mm_up (h : mm_H) (a : Nat) (x : mm_E) : mm_H := (h.1, h.2.1, fun q => if q = a then some x else h.2.2 q)
def mm_add (h : mm_H) (n : Nat) (x : mm_E) : mm_H := (h.1 + 1, h.2.1 + n, fun q => if q = h.1 then some x else h.2.2 q)
/-- an exception was made: its cell is not in the picture -/
def mm_exn (h : mm_H) : mm_H := (h.1 + 1, h.2.1 + 6, h.2.2)
def mm_exc : Nat → String
  | 0 => "java/lang/IllegalArgumentException"
  | 1 => "java/lang/IllegalStateException"
  | 2 => "java/lang/UnsupportedOperationException"
  | _ => "java/lang/IndexOutOfBoundsException"
/-- the array types: by number -/
def mm_aty : Nat → FieldType
  | 0 => .int
  | 1 => .boolean
  | 2 => .long
  | _ => .object "CutSheets$Sheet"
def mm_tys (Γ : mm_G) : List (ClassId × FieldType) := [(Γ.2.1 0, mm_aty 0), (Γ.2.1 1, mm_aty 1), (Γ.2.1 2, mm_aty 2), (Γ.2.1 3, mm_aty 3)]
/-- the words that move -/
def mm_T : List Cond := lw_tbl.filter goodWord
theorem mm_in (i : Nat) {w : Cond} (h : lw_tbl[i]? = some w) (hg : goodWord w = true) : w ∈ mm_T := List.mem_filter.mpr ⟨List.mem_of_getElem? h, hg⟩
/-- a cell of the picture, in the heap -/
def mm_at (Γ : mm_G) (H : Heap) (a : Nat) : mm_E → Prop
  | .inl x => H[a]? = some (vp_cell (Γ.2.1 x.1) x.2)
  | .inr o => ∃ r : vw_C, mm_cl[o.1]? = some r ∧ t_OB a (Γ.1.1 o.1) r.2.2 (Γ.1.2 o.1) H (vp_V o.2)
/-- the picture, in the heap; with it what is old and read: the script, Throwable's two statics -/
def mm_R (Γ : mm_G) (U : State) (h : mm_H) (H : Heap) : Prop :=
  (H.size = h.1 ∧ h.1 ≤ mm_Cm Γ ∧ h.2.1 ≤ mm_Sm Γ ∧ mm_B Γ ≤ h.1) ∧
  (∀ (a : Nat) (x : mm_E), h.2.2 a = some x → mm_B Γ ≤ a ∧ mm_at Γ H a x) ∧
  (Γ.2.2.2.1 < mm_B Γ ∧ va_X Γ.2.2.2.1 Γ.2.2.2.2.1 Γ.2.2.2.2.2 U H) ∧
  (vx_Zq Bundle.tN "UNASSIGNED_STACK" Bundle.steD (fun q => mm_B Γ ≤ q) U H ∧ vx_Zq Bundle.tN "SUPPRESSED_SENTINEL" Bundle.listD (fun q => mm_B Γ ≤ q) U H)
def mm_Lc (la : Array Slot) (n : Nat) (ls : mm_L) : Prop := la.size = n ∧ lv_wf la ∧ ∀ (i : Nat) (v : Value), ls[i]? = some (some v) → la[i]? = some (.val v) ∧ v.category = 1
/-- what the tables say, at a state -/
def mm_K (Γ : mm_G) (U : State) : Prop := va_K Γ.1 mm_cl (mm_tys Γ) U ∧ (∀ q ∈ mm_NF, va_Nw (.fieldLinkNest q.1 q.2.1 q.2.2.1 q.2.2.2.1 q.2.2.2.2 "CutSheets") U) ∧ (∀ q ∈ mm_NM, va_Nw (.methodLinkNest q.1 q.2.1 q.2.2 "CutSheets") U) ∧ ∀ q ∈ mm_NC, va_Nc (mm_exc q.1) (mm_exc q.2) U
def mm_out (s t : State) (o : Outcome) : mm_O → Prop
  | .inl v => o = .returned v
  | .inr k => ∃ (x : Addr) (ce : Cell), o = .threw x ∧ t.heap[x]? = some ce ∧ ce.vm = .none ∧ s.vm.findClass (mm_exc k) = some ce.cls
/-- the method has ended -/
def mm_Q (Γ : mm_G) (below : List Frame) (D : mm_D) (s : State) (u0 : Nat) (t : State) : Prop :=
  ∃ (o : Outcome) (o' : mm_O) (h' : mm_H) (L : List Loc) (k n : Nat), t.status = .running ∧ Ended t below o ∧ mm_out s t o o' ∧ D o' h' ∧ mm_R Γ t h' t.heap ∧
    s.WarmedH t.vm ∧ s.sameButNew ({ t with vm := s.vm } : State) L k n ∧ (∀ q ∈ L, mm_B Γ ≤ q.base) ∧ h'.1 = s.heap.size + k ∧ h'.2.1 = u0 + n
/-- the context: machine, method, tables, room for depth d -/
def mm_C (Γ : mm_G) (l : Launch) (M : mm_M) (d : Nat) (p : Program) (R : Room) (s : State) (m : MethodId) (args : Array Value) (meth : Method) (c : Code) (u0 : Nat) : Prop :=
  (p.tables.exec = Jvm.exec ∧ c.code = M.2.1 ∧ c.maxLocals = M.2.2.1 ∧ meth.sig.returnType = M.2.2.2.1 ∧ meth.locks = false ∧ s.vm.findClass M.1.cls = some m.cls ∧ meth.name = M.1.name ∧
  c.exceptionTable.toList.map (fun h => (h.startPc, h.endPc, h.handlerPc, h.catchType)) = M.2.2.2.2) ∧
  ((∀ w ∈ mm_T, w.before args s = true) ∧ mm_K Γ s) ∧ (mm_B Γ ≤ s.heap.size ∧ mm_Cm Γ ≤ s.heap.size + R.cells ∧ mm_Sm Γ ≤ u0 + R.slots ∧
  d + 20 ≤ R.frames ∧ 60 * d + 400 ≤ R.locals ∧ l.stackTraces = false)
def mm_W (Γ : mm_G) (l : Launch) (M : mm_M) (d : Nat) (D : mm_D) (pc : Nat) (ls : mm_L) (st : List Value) (h : mm_H) : Prop :=
  ∀ (p : Program) (e : Env) (R : Room) (s : State) (m : MethodId) (args : Array Value) (below : List Frame) (meth : Method) (c : Code) (u0 : Nat), mm_C Γ l M d p R s m args meth c u0 →
  ∀ (H : Heap) (locs : List Loc) (cells slots : Nat) (la : Array Slot), mm_R Γ s h H → mm_Lc la M.2.2.1 ls → (∀ q ∈ locs, mm_B Γ ≤ q.base) → h.1 = s.heap.size + cells → h.2.1 = u0 + slots →
    W p l e R s m args below meth c H locs cells slots (mm_Q Γ below D s u0) (F0 m pc la st)
/-- an exception is under way over the frame at pc -/
def mm_Th (Γ : mm_G) (l : Launch) (M : mm_M) (d : Nat) (D : mm_D) (pc : Nat) (ls : mm_L) (k : Nat) (h : mm_H) : Prop :=
  ∀ (p : Program) (e : Env) (R : Room) (s : State) (m : MethodId) (args : Array Value) (below : List Frame) (meth : Method) (c : Code) (u0 : Nat), mm_C Γ l M d p R s m args meth c u0 →
  ∀ (H : Heap) (locs : List Loc) (cells slots : Nat) (la : Array Slot) (st : List Value) (x : Addr) (ce : Cell), mm_R Γ s h H → mm_Lc la M.2.2.1 ls → (∀ q ∈ locs, mm_B Γ ≤ q.base) → h.1 = s.heap.size + cells → h.2.1 = u0 + slots →
    H[x]? = some ce → ce.vm = .none → s.vm.findClass (mm_exc k) = some ce.cls → vx_W p l e R s m args below meth c H locs cells slots (mm_Q Γ below D s u0) (F0 m pc la st) x
/-- a method's contract at depth d: from its entry -/
def mm_ent (as : List Value) (n : Nat) : mm_L := as.map some ++ List.replicate (n - as.length) none
def mm_Ev (Γ : mm_G) (l : Launch) (d : Nat) (M : mm_M) (as : List Value) (h : mm_H) (D : mm_D) : Prop := mm_W Γ l M d D 0 (mm_ent as M.2.2.1) [] h
/-- a known end -/
def mm_is (o : mm_O) (g : mm_H) : mm_D := fun o' g' => o' = o ∧ g' = g
section MMC
variable {Γ : mm_G} {l : Launch} {M : mm_M} {d : Nat} {p : Program} {R : Room} {s : State} {m : MethodId} {args : Array Value} {meth : Method} {c : Code} {u0 : Nat}
theorem mm_C.x (h : mm_C Γ l M d p R s m args meth c u0) : p.tables.exec = Jvm.exec := h.1.1
theorem mm_C.b (h : mm_C Γ l M d p R s m args meth c u0) : c.code = M.2.1 := h.1.2.1
theorem mm_C.ml (h : mm_C Γ l M d p R s m args meth c u0) : c.maxLocals = M.2.2.1 := h.1.2.2.1
theorem mm_C.ret (h : mm_C Γ l M d p R s m args meth c u0) : meth.sig.returnType = M.2.2.2.1 := h.1.2.2.2.1
theorem mm_C.lk (h : mm_C Γ l M d p R s m args meth c u0) : meth.locks = false := h.1.2.2.2.2.1
theorem mm_C.own (h : mm_C Γ l M d p R s m args meth c u0) : s.vm.findClass M.1.cls = some m.cls := h.1.2.2.2.2.2.1
theorem mm_C.nm (h : mm_C Γ l M d p R s m args meth c u0) : meth.name = M.1.name := h.1.2.2.2.2.2.2.1
theorem mm_C.tab (h : mm_C Γ l M d p R s m args meth c u0) : c.exceptionTable.toList.map (fun h => (h.startPc, h.endPc, h.handlerPc, h.catchType)) = M.2.2.2.2 := h.1.2.2.2.2.2.2.2
theorem mm_C.w (h : mm_C Γ l M d p R s m args meth c u0) : ∀ w ∈ mm_T, w.before args s = true := h.2.1.1
theorem mm_C.k (h : mm_C Γ l M d p R s m args meth c u0) : mm_K Γ s := h.2.1.2
theorem mm_C.rm (h : mm_C Γ l M d p R s m args meth c u0) : mm_B Γ ≤ s.heap.size ∧ mm_Cm Γ ≤ s.heap.size + R.cells ∧ mm_Sm Γ ≤ u0 + R.slots ∧ d + 20 ≤ R.frames ∧ 60 * d + 400 ≤ R.locals ∧ l.stackTraces = false := h.2.2
end MMC
section MMW
variable {p : Program} {l : Launch} {e : Env} {R : Room} {s : State} {m : MethodId} {args : Array Value} {below : List Frame} {meth : Method} {c : Code} {H : Heap} {locs : List Loc} {cells slots : Nat} {Q Q' : State → Prop} {g : JFrame}
theorem mm_mono (h : ∀ t, Q t → Q' t) (w : W p l e R s m args below meth c H locs cells slots Q g) : W p l e R s m args below meth c H locs cells slots Q' g := fun T hT X =>
  (w T hT X).elim fun t q => ⟨t, q.1, h t q.2⟩
theorem mm_monoX {x : Addr} (h : ∀ t, Q t → Q' t) (w : vx_W p l e R s m args below meth c H locs cells slots Q g x) : vx_W p l e R s m args below meth c H locs cells slots Q' g x := fun T hT X =>
  (w T hT X).elim fun t q => ⟨t, q.1, h t q.2⟩
end MMW
theorem mm_weaken {tb : Tables} {e : Env} {mid below : List Frame} {a b : State} (h : Steps tb e (mid ++ below) a b) : Steps tb e below a b := by
  obtain ⟨n, hn, w⟩ := h
  exact ⟨n, hn, fun k hk => (w k hk).weaken⟩
theorem mm_at.kept {Γ : mm_G} {H H1 : Heap} {a : Nat} {x : mm_E} (hq : H1[a]? = H[a]?) (h : mm_at Γ H a x) : mm_at Γ H1 a x := by
  match x, h with
  | .inl _, h => exact hq.trans h
  | .inr _, ⟨r, h1, h2⟩ => exact ⟨r, h1, h2.kept hq⟩
theorem mm_at.lt {Γ : mm_G} {H : Heap} {a : Nat} {x : mm_E} (h : mm_at Γ H a x) : a < H.size := by
  match x, h with
  | .inl _, h => exact (Array.getElem?_eq_some_iff.mp h).1
  | .inr _, ⟨r, h1, c0, h2, _⟩ => exact (Array.getElem?_eq_some_iff.mp h2).1
theorem mm_X.moved {b L : Nat} {xs : Nat → Int32} {u U : State} {H : Heap} (hvm : u.vm.Alike U.vm) (h : va_X b L xs u H) : va_X b L xs U H := by
  obtain ⟨scr, h1, h2, h3⟩ := h
  exact ⟨scr, h1, State.isArrayOf_alike hvm h2, h3⟩
theorem mm_Nc.moved {E nm : String} {u U : State} (hvm : u.vm.Alike U.vm) (h : va_Nc E nm u) : va_Nc E nm U := h.moved hvm
theorem mm_K.moved {Γ : mm_G} {u U : State} (hW : u.WarmedH U.vm) (h : mm_K Γ u) : mm_K Γ U :=
  ⟨h.1.moved hW.alike, fun q hq => (h.2.1 q hq).warmF hW, fun q hq => (h.2.2.1 q hq).warmM hW, fun q hq => mm_Nc.moved hW.alike (h.2.2.2 q hq)⟩
theorem mm_R.moved {Γ : mm_G} {u U : State} {h : mm_H} {H : Heap} (hvm : u.vm.Alike U.vm) (q : mm_R Γ u h H) : mm_R Γ U h H :=
  ⟨q.1, q.2.1, ⟨q.2.2.1.1, mm_X.moved hvm q.2.2.1.2⟩, ⟨q.2.2.2.1.moved hvm, q.2.2.2.2.moved hvm⟩⟩
/-- one of our cells is written -/
theorem mm_R.set {Γ : mm_G} {U : State} {h : mm_H} {H H1 : Heap} {a : Nat} {x x' : mm_E} (q : mm_R Γ U h H) (hx : h.2.2 a = some x) (h1 : mm_at Γ H1 a x') (hz : H1.size = H.size) (ho : ∀ b : Nat, b ≠ a → H1[b]? = H[b]?) : mm_R Γ U (mm_up h a x') H1 := by
  obtain ⟨⟨z, z1, z2, z3⟩, q1, ⟨q2, scr, s1, s2⟩, q3, q4⟩ := q
  have hB : mm_B Γ ≤ a := (q1 a x hx).1
  have hk : ∀ b : Nat, b < H.size → ¬ mm_B Γ ≤ b → H1[b]? = H[b]? := fun b _ hb => ho b (fun hh => hb (by rw [hh]; exact hB))
  refine ⟨⟨by rw [hz]; exact z, z1, z2, z3⟩, fun b y hy => ?_, ⟨q2, scr, by rw [ho _ (by omega)]; exact s1, s2⟩, q3.kept hk, q4.kept hk⟩
  by_cases hb : b = a
  · subst hb
    simp only [mm_up, if_true] at hy
    cases hy
    exact ⟨hB, h1⟩
  · simp only [mm_up, hb, if_false] at hy
    exact ⟨(q1 b y hy).1, (q1 b y hy).2.kept (ho b hb)⟩
/-- a cell comes -/
theorem mm_R.new {Γ : mm_G} {U : State} {h : mm_H} {H H1 : Heap} {n : Nat} {x : mm_E} (q : mm_R Γ U h H) (hn : h.1 + 1 ≤ mm_Cm Γ) (hu : h.2.1 + n ≤ mm_Sm Γ) (h1 : mm_at Γ H1 h.1 x) (hz : H1.size = h.1 + 1) (ho : ∀ b : Nat, b < h.1 → H1[b]? = H[b]?) : mm_R Γ U (mm_add h n x) H1 := by
  obtain ⟨⟨z, z1, z2, z3⟩, q1, ⟨q2, scr, s1, s2⟩, q3, q4⟩ := q
  have hk : ∀ b : Nat, b < H.size → ¬ mm_B Γ ≤ b → H1[b]? = H[b]? := fun b hb _ => ho b (by omega)
  refine ⟨⟨hz, hn, hu, by show mm_B Γ ≤ h.1 + 1; omega⟩, fun b y hy => ?_, ⟨q2, scr, by rw [ho _ (by omega)]; exact s1, s2⟩, q3.kept hk, q4.kept hk⟩
  by_cases hb : b = h.1
  · subst hb
    simp only [mm_add, if_true] at hy
    cases hy
    exact ⟨z3, h1⟩
  · simp only [mm_add, hb, if_false] at hy
    have hlt := (q1 b y hy).2.lt
    exact ⟨(q1 b y hy).1, (q1 b y hy).2.kept (ho b (by omega))⟩
/-- an exception comes -/
theorem mm_R.exn {Γ : mm_G} {U : State} {h : mm_H} {H H1 : Heap} (q : mm_R Γ U h H) (hn : h.1 + 1 ≤ mm_Cm Γ) (hu : h.2.1 + 6 ≤ mm_Sm Γ) (hz : H1.size = h.1 + 1) (ho : ∀ b : Nat, b < H.size → H1[b]? = H[b]?) : mm_R Γ U (mm_exn h) H1 := by
  obtain ⟨⟨z, z1, z2, z3⟩, q1, ⟨q2, scr, s1, s2⟩, q3, q4⟩ := q
  have hk : ∀ b : Nat, b < H.size → ¬ mm_B Γ ≤ b → H1[b]? = H[b]? := fun b hb _ => ho b hb
  refine ⟨⟨hz, hn, hu, by show mm_B Γ ≤ h.1 + 1; omega⟩, fun b y hy => ?_, ⟨q2, scr, by rw [ho _ (by omega)]; exact s1, s2⟩, q3.kept hk, q4.kept hk⟩
  have hy' : h.2.2 b = some y := hy
  have hlt := (q1 b y hy').2.lt
  exact ⟨(q1 b y hy').1, (q1 b y hy').2.kept (ho b hlt)⟩
/-! locals -/
def mm_pairs (ls : mm_L) : List (Nat × Value) := (List.range ls.length).filterMap fun i => match ls[i]? with
  | some (some v) => some (i, v)
  | _ => none
theorem mm_pairs_mem {ls : mm_L} {i : Nat} {v : Value} : (i, v) ∈ mm_pairs ls ↔ ls[i]? = some (some v) := by
  unfold mm_pairs
  rw [List.mem_filterMap]
  constructor
  · rintro ⟨j, -, hj⟩
    cases hx : ls[j]? with
    | none => rw [hx] at hj; simp at hj
    | some o =>
      cases o with
      | none => rw [hx] at hj; simp at hj
      | some w =>
        rw [hx] at hj
        simp at hj
        obtain ⟨rfl, rfl⟩ := hj
        exact hx
  · intro h
    refine ⟨i, List.mem_range.mpr (List.getElem?_eq_some_iff.mp h).1, ?_⟩
    rw [h]
theorem mm_Lc.pairs {la : Array Slot} {n : Nat} {ls : mm_L} (h : mm_Lc la n ls) : lv_has la n (mm_pairs ls) :=
  ⟨h.1, h.2.1, fun q hq => (h.2.2 q.1 q.2 (mm_pairs_mem.mp hq)).1⟩
theorem mm_Lc.at {la : Array Slot} {n : Nat} {ls : mm_L} {i : Nat} {v : Value} (_ : mm_Lc la n ls) (hx : ls[i]? = some (some v)) : ∃ k : Nat, (mm_pairs ls)[k]? = some (i, v) :=
  List.getElem?_of_mem (mm_pairs_mem.mpr hx)
theorem mm_Lc.put {la la' : Array Slot} {n : Nat} {ls ls' : mm_L} {i : Nat} {v : Value} (h : mm_Lc la n ls) (h' : lv_has la' n ((i, v) :: (mm_pairs ls).filter (fun q => !(q.1 == i) && !(q.1 + 1 == i && q.2.category == 2)))) (hv : v.category = 1) (hs : ls.set i (some v) = ls') : mm_Lc la' n ls' := by
  refine ⟨h'.1, h'.2.1, fun j w hj => ?_⟩
  rw [← hs] at hj
  by_cases hji : j = i
  · subst hji
    have hlt : j < ls.length := by
      have := (List.getElem?_eq_some_iff.mp hj).1
      simpa using this
    rw [List.getElem?_set_self hlt] at hj
    cases hj
    exact ⟨h'.2.2 _ List.mem_cons_self, hv⟩
  · rw [List.getElem?_set_ne (fun e => hji e.symm)] at hj
    have hw := (h.2.2 j w hj).2
    refine ⟨h'.2.2 (j, w) (List.mem_cons_of_mem _ (List.mem_filter.mpr ⟨mm_pairs_mem.mpr hj, ?_⟩)), hw⟩
    simp [hji, hw]
theorem mm_entry (as : List Value) {n : Nat} (ha : ∀ v ∈ as, v.category = 1) (hl : as.length ≤ n) : ∃ la : Array Slot, mm_Lc la n (as.map some) ∧ ∀ mk : MethodId, entryFrame mk as.toArray n = F0 mk 0 la [] := by
  have e1 : lg_sl as = as.map Slot.val := by
    clear hl
    induction as with
    | nil => rfl
    | cons v t ih =>
      have hv : ¬ v.category = 2 := by rw [ha v List.mem_cons_self]; decide
      have := ih (fun w hw => ha w (List.mem_cons_of_mem _ hw))
      simp only [lg_sl, List.flatMap_cons, List.map_cons] at this ⊢
      rw [if_neg hv, this]
      rfl
  have hlen : (lg_sl as).length ≤ n := by rw [e1]; simpa using hl
  have hh := lv_entry as hlen
  refine ⟨_, ⟨hh.1, hh.2.1, fun i v hv => ?_⟩, fun mk => lg_entry_eq mk as n⟩
  rw [List.getElem?_map] at hv
  cases hx : as[i]? with
  | none => rw [hx] at hv; simp at hv
  | some w =>
    rw [hx] at hv
    simp at hv
    subst hv
    have hlt : i < as.length := (List.getElem?_eq_some_iff.mp hx).1
    refine ⟨?_, ha w (List.mem_of_getElem? hx)⟩
    rw [e1]
    simp [List.getElem?_append, hlt]
    exact (List.getElem?_eq_some_iff.mp hx).2
theorem mm_Lc.pad {la : Array Slot} {n : Nat} {as : List Value} (h : mm_Lc la n (as.map some)) : mm_Lc la n (mm_ent as n) := by
  refine ⟨h.1, h.2.1, fun i v hv => h.2.2 i v ?_⟩
  unfold mm_ent at hv
  by_cases hi : i < (as.map some).length
  · rw [List.getElem?_append_left hi] at hv
    exact hv
  · rw [List.getElem?_append_right (Nat.le_of_not_lt hi)] at hv
    have hm := List.mem_of_getElem? hv
    have h9 := List.eq_of_mem_replicate hm
    cases h9
end
section
/-! Calls: a callee is walked in place. -/
/-- the method's bytes are in the tables -/
def mm_CW (M : mm_M) : Prop := (M.2.2.2.2 = [] ∧ Cond.code M.1 M.2.1 M.2.2.1 M.2.2.2.1 ∈ mm_T) ∨ Cond.codeWith M.1 M.2.1 M.2.2.1 M.2.2.2.1 M.2.2.2.2 ∈ mm_T
def mm_MB (M : mm_M) (n : Nat) : Prop := mm_CW M ∧ plainName M.1.cls = true ∧ (M.1.cls ≠ "java/lang/invoke/MethodHandle" ∧ M.1.cls ≠ "java/lang/invoke/VarHandle") ∧ (parseMethodDescriptor M.1.desc).map (fun q => q.parameters.length) = some n
def mm_ML (own : String) (idx : Nat) (y : MethodName) : Prop := Cond.methodLink own idx y ∈ mm_T ∨ (own, idx, y) ∈ mm_NM
def mm_MS (own : String) (idx : Nat) (M : mm_M) (n : Nat) : Prop := mm_MB M n ∧ mm_ML own idx M.1 ∧ Cond.static M.1 ∈ mm_T ∧ Cond.initialized M.1.cls ∈ mm_T
def mm_MV (own : String) (idx : Nat) (M : mm_M) (n : Nat) (ci : Nat) : Prop := mm_MB M n ∧ mm_ML own idx M.1 ∧ Cond.instanceMethod M.1 ∈ mm_T ∧ Cond.selects M.1.cls M.1 M.1 ∈ mm_T ∧ ∃ q : vw_C, mm_cl[ci]? = some q ∧ q.1 = M.1.cls
def mm_MI (own : String) (idx : Nat) (M : mm_M) (n : Nat) : Prop := mm_MB M n ∧ mm_ML own idx M.1 ∧ Cond.instanceMethod M.1 ∈ mm_T ∧ M.1.name = "<init>" ∧ Cond.code M.1 M.2.1 M.2.2.1 none ∈ mm_T
theorem mm_CW.spec {M : mm_M} {args : Array Value} {s : State} (h : mm_CW M) (hw : ∀ w ∈ mm_T, w.before args s = true) {mk : MethodId} (hn : s.methodNamed? M.1 = some mk) :
    ∃ (meth : Method) (c : Code), s.vm.method? mk = some meth ∧ meth.code = some c ∧ c.code = M.2.1 ∧ c.maxLocals = M.2.2.1 ∧ c.exceptionTable.toList.map (fun h => (h.startPc, h.endPc, h.handlerPc, h.catchType)) = M.2.2.2.2 ∧ meth.sig.returnType = M.2.2.2.1 ∧ meth.locks = false ∧ parseMethodDescriptor M.1.desc = some meth.sig := by
  rcases h with ⟨h0, h⟩ | h
  · obtain ⟨meth, c, a1, a2, a3, a4, a5, a6, a7, a8⟩ := Cond.code_spec hn (hw _ h)
    refine ⟨meth, c, a1, a2, a3, a4, ?_, a5, a6, a8⟩
    rw [h0]
    have : c.exceptionTable = #[] := Array.isEmpty_iff.mp a7
    rw [this]
    rfl
  · obtain ⟨m', meth, c, a0, a1, a2, a3, a4, a5, a6, a7, a8⟩ := Cond.codeWith_spec (hw _ h)
    cases hn.symm.trans a0
    exact ⟨meth, c, a1, a2, a3, a4, a5, a6, a7, a8⟩
theorem mm_T.good {w : Cond} (h : w ∈ mm_T) : goodWord w = true := (List.mem_filter.mp h).2
set_option maxHeartbeats 1000000 in
theorem mm_enter {Γ : mm_G} {l : Launch} {M : mm_M} {d : Nat} {p : Program} {e : Env} {R : Room} {s : State} {m : MethodId} {args : Array Value} {below : List Frame} {meth : Method} {c : Code} {u0 : Nat} (hC : mm_C Γ l M (d + 1) p R s m args meth c u0)
    {T : State} {locs : List Loc} {cells slots : Nat} (X : Stand p l e R s m args below meth c T locs cells slots) {h : mm_H} (hr : mm_R Γ s h T.heap) (hq : ∀ q ∈ locs, mm_B Γ ≤ q.base) (h1 : h.1 = s.heap.size + cells) (h2 : h.2.1 = u0 + slots)
    {g : JFrame} (hg : g.method = m) (hmr : g.monitorRoom = 0) (hsize : g.locals.size = c.maxLocals) {ig : Instr} {len : Nat} (hdg : decode c.code g.pc = .ok (ig, len))
    {M' : mm_M} {n' : Nat} (hM : mm_MB M' n') {mk : MethodId} (hn : s.methodNamed? M'.1 = some mk)
    {as : List Value} (ha : ∀ v ∈ as, v.category = 1) (hl : as.length ≤ M'.2.2.1) (hw : (g.stack.map fun v => v.category).sum + (M'.2.2.1 + 11) ≤ 60) {D' : mm_D} (hE : mm_Ev Γ l d M' as h D') :
    ∃ (o : mm_O) (h' : mm_H) (T' : State) (L : List Loc) (k n : Nat), D' o h' ∧ Stand p l e R s m args below meth c T' (locs ++ L) (cells + k) (slots + n) ∧ mm_R Γ s h' T'.heap ∧ (∀ q ∈ locs ++ L, mm_B Γ ≤ q.base) ∧ h'.1 = s.heap.size + (cells + k) ∧ h'.2.1 = u0 + (slots + n) ∧
      ((∃ v, o = .inl v ∧ ∀ acts, Steps p.tables e below (doInvoke e (T.setTop g) acts mk as.toArray).1 (T'.setTop { g with pc := g.pc + len, stack := v.toList ++ g.stack })) ∨
       (∃ (j : Nat) (x : Addr) (ce : Cell), o = .inr j ∧ T'.heap[x]? = some ce ∧ ce.vm = .none ∧ s.vm.findClass (mm_exc j) = some ce.cls ∧ ∀ acts, Steps p.tables e below (doInvoke e (T.setTop g) acts mk as.toArray).1 ((T'.setTop g).pushFrame (.throwing x)))) := by
  obtain ⟨hCW, hpl, -, -⟩ := hM
  obtain ⟨methk, ck, hmk, hck, hbk, hlk, htk, hrk, hkk, -⟩ := hCW.spec hC.w hn
  have hW := X.warmed
  have hmT : T.vm.method? mk = some methk := by rw [hW.alike.method?]; exact hmk
  have hnT : T.methodNamed? M'.1 = some mk := X.named hn
  have hpk : T.plainMethod mk := State.plainMethod.of_named (s := T) (plainFor_of_name hpl) hnT hmT
  obtain ⟨hB, hCm, hSm, hfr, hlo, htr⟩ := hC.rm
  have hz := hr.1
  obtain ⟨Y, hdo⟩ := X.into hg hsize hdg as.toArray (R' := { frames := R.frames - 1, locals := R.locals - 60, cells := mm_Cm Γ - h.1, slots := mm_Sm Γ - h.2.1 }) hmT hck hkk hpk (by show R.frames - 1 + 1 ≤ R.frames; omega)
    (by rw [hmr, hlk]; show 2 * 0 + _ + (M'.2.2.1 + 11) + (R.locals - 60) ≤ R.locals; omega) (by show cells + (mm_Cm Γ - h.1) ≤ R.cells; omega) (by show slots + (mm_Sm Γ - h.2.1) ≤ R.slots; omega)
  have hWc : s.WarmedH (T.calling g mk as.toArray).vm := hW
  have hC' : mm_C Γ l M' d p { frames := R.frames - 1, locals := R.locals - 60, cells := mm_Cm Γ - h.1, slots := mm_Sm Γ - h.2.1 } (T.calling g mk as.toArray) mk as.toArray methk ck h.2.1 := by
    refine ⟨⟨hC.x, hbk, hlk, hrk, hkk, ?_, (name_of_methodNamed hn hmk).1, htk⟩, ⟨fun w hw => word_at hWc (good_of_word (mm_T.good hw)) (hC.w w hw), hC.k.moved hWc⟩, ?_, ?_, ?_, ?_, ?_, htr⟩
    · rw [hWc.alike.findClass]; exact findClass_of_methodNamed hn
    · show mm_B Γ ≤ T.heap.size; omega
    · show mm_Cm Γ ≤ T.heap.size + (mm_Cm Γ - h.1); omega
    · show mm_Sm Γ ≤ h.2.1 + (mm_Sm Γ - h.2.1); omega
    · show d + 20 ≤ R.frames - 1; omega
    · show 60 * d + 400 ≤ R.locals - 60; omega
  obtain ⟨la, hla, hent⟩ := mm_entry as ha hl
  have w := hE p e _ (T.calling g mk as.toArray) mk as.toArray (.java g :: below) methk ck h.2.1 hC' T.heap [] 0 0 la (hr.moved hWc.alike) hla.pad (fun q hq => nomatch hq) (by show h.1 = T.heap.size + 0; omega) rfl
  obtain ⟨t, st, o, o', h', L, k, n, hrun, hend, hout, hD, hR', hW', hsame, hL, z1, z2⟩ := w ((T.setTop g).pushFrame (.java (entryFrame mk as.toArray ck.maxLocals))) rfl Y
  have z1' : h'.1 = T.heap.size + k := z1
  have hLs : ∀ q ∈ locs ++ L, mm_B Γ ≤ q.base := fun q hh => (List.mem_append.mp hh).elim (hq q) (hL q)
  have hdo' : ∀ acts, (doInvoke e (T.setTop g) acts mk as.toArray).1 = ((T.setTop g).pushFrame (.java (entryFrame mk as.toArray ck.maxLocals))).setTop (F0 mk 0 la []) := by
    intro acts
    rw [hdo acts, hlk, hent mk]
  match o', hout, hD with
  | .inl v, hout, hD =>
    have ho : o = .returned v := hout
    subst ho
    obtain ⟨T', X', -, -, ht⟩ := X.outOf hg hdg hend hW' hsame
    have hh : t.heap = T'.heap := by rw [ht]; rfl
    have hv : t.vm = T'.vm := by rw [ht]; rfl
    refine ⟨.inl v, h', T', L, k, n, hD, X', ?_, hLs, by omega, by omega, Or.inl ⟨v, rfl, fun acts => ?_⟩⟩
    · rw [← hh]
      refine hR'.moved ?_
      rw [hv]
      exact X'.warmed.alike.symm
    · rw [hdo' acts, ← ht]
      exact mm_weaken (mid := [.java g]) st
  | .inr j, hout, hD =>
    obtain ⟨x, ce, ho, hx, hxv, hxc⟩ := hout
    subst ho
    obtain ⟨T', X', -, -, ht⟩ := X.outOfThrown hg hend hW' hsame
    have hh : t.heap = T'.heap := by rw [ht]; rfl
    have hv : t.vm = T'.vm := by rw [ht]; rfl
    refine ⟨.inr j, h', T', L, k, n, hD, X', ?_, hLs, by omega, by omega, Or.inr ⟨j, x, ce, rfl, by rw [← hh]; exact hx, hxv, ?_, fun acts => ?_⟩⟩
    · rw [← hh]
      refine hR'.moved ?_
      rw [hv]
      exact X'.warmed.alike.symm
    · have hxc' : (T.calling g mk as.toArray).vm.findClass (mm_exc j) = some ce.cls := hxc
      rw [hWc.alike.findClass] at hxc'
      exact hxc'
    · rw [hdo' acts, ← ht]
      exact mm_weaken (mid := [.java g]) st
section MMcall
variable {Γ : mm_G} {l : Launch} {M : mm_M} {d : Nat} {D : mm_D} {pc : Nat} {ls : mm_L} {h : mm_H} {idx : Nat} {M' : mm_M} {n' : Nat} {D' : mm_D} {as rest : List Value}
/-- behind a call: the two ways on -/
theorem mm_after {p : Program} {e : Env} {R : Room} {s : State} {m : MethodId} {args : Array Value} {below : List Frame} {meth : Method} {c : Code} {u0 : Nat} (hC : mm_C Γ l M (d + 1) p R s m args meth c u0)
    {T T1 : State} {la : Array Slot} (hla : mm_Lc la M.2.2.1 ls) {mk : MethodId} {st0 : List Value} {locs : List Loc} {cells slots : Nat}
    (step : ∀ target, (∀ acts, Steps p.tables e below (doInvoke e (T1.setTop { (F0 m pc la st0) with stack := rest }) acts mk as.toArray).1 target) → Steps p.tables e below (T.setTop (F0 m pc la st0)) target)
    (X1 : Stand p l e R s m args below meth c T1 locs cells slots) (hr : mm_R Γ s h T1.heap) (hq : ∀ q ∈ locs, mm_B Γ ≤ q.base) (h1 : h.1 = s.heap.size + cells) (h2 : h.2.1 = u0 + slots) {ig : Instr} (hd : decode M.2.1 pc = .ok (ig, 3))
    (hM : mm_MB M' n') (hn : s.methodNamed? M'.1 = some mk) (ha : ∀ v ∈ as, v.category = 1) (hl : as.length ≤ M'.2.2.1) (hw : (rest.map fun v => v.category).sum + (M'.2.2.1 + 11) ≤ 60) (hE : mm_Ev Γ l d M' as h D')
    (kr : ∀ v h', D' (.inl v) h' → mm_W Γ l M (d + 1) D (pc + 3) ls (v.toList ++ rest) h') (kt : ∀ k h', D' (.inr k) h' → mm_Th Γ l M (d + 1) D pc ls k h') :
    ∃ t, Steps p.tables e below (T.setTop (F0 m pc la st0)) t ∧ mm_Q Γ below D s u0 t := by
  obtain ⟨o, h', T', L, k, n, hD, X', hR', hLs, z1, z2, hcase⟩ := mm_enter hC X1 hr hq h1 h2 (g := { (F0 m pc la st0) with stack := rest }) rfl rfl (by show la.size = _; rw [hC.ml]; exact hla.1) (ig := ig) (len := 3) (by rw [hC.b]; exact hd) hM hn ha hl hw hE
  rcases hcase with ⟨v, rfl, st⟩ | ⟨j, x, ce, rfl, hx, hxv, hxc, st⟩
  · obtain ⟨t, a1, b1⟩ := kr v h' hD p e R s m args below meth c u0 hC T'.heap (locs ++ L) (cells + k) (slots + n) la hR' hla hLs z1 z2 T' rfl X'
    exact ⟨t, step t fun acts => (st acts).trans a1, b1⟩
  · obtain ⟨t, a1, b1⟩ := kt j h' hD p e R s m args below meth c u0 hC T'.heap (locs ++ L) (cells + k) (slots + n) la rest x ce hR' hla hLs z1 z2 hx hxv hxc T' rfl X'
    exact ⟨t, step t fun acts => (st acts).trans a1, b1⟩
theorem mm_lenOf {y : MethodName} {n : Nat} (h : (parseMethodDescriptor y.desc).map (fun q => q.parameters.length) = some n) {sig : _} (hs : parseMethodDescriptor y.desc = some sig) : n = sig.parameters.length := by
  rw [hs] at h
  exact (Option.some.inj h).symm
/-- a static method is called -/
theorem mm_calls (hd : decode M.2.1 pc = .ok (.invokestatic idx, 3)) (hL : mm_MS M.1.cls idx M' n') (hlen : as.length = n') (ha : ∀ v ∈ as, v.category = 1) (hl : as.length ≤ M'.2.2.1) (hw : (rest.map fun v => v.category).sum + (M'.2.2.1 + 11) ≤ 60) (hE : mm_Ev Γ l d M' as h D')
    (kr : ∀ v h', D' (.inl v) h' → mm_W Γ l M (d + 1) D (pc + 3) ls (v.toList ++ rest) h') (kt : ∀ k h', D' (.inr k) h' → mm_Th Γ l M (d + 1) D pc ls k h') : mm_W Γ l M (d + 1) D pc ls (as.reverse ++ rest) h := by
  intro p e R s m args below meth c u0 hC H locs cells slots la hr hla hq h1 h2 T hT X
  subst hT
  obtain ⟨hMB, hlk, hst, hini⟩ := hL
  have hcw := hMB.1
  have hnm : ∃ mk, s.methodNamed? M'.1 = some mk := by
    rcases hcw with ⟨-, hc⟩ | hc
    · exact Cond.code_named (hC.w _ hc)
    · obtain ⟨mk, _, _, a0, -⟩ := Cond.codeWith_spec (hC.w _ hc)
      exact ⟨mk, a0⟩
  obtain ⟨mk, hn⟩ := hnm
  obtain ⟨methk, ck, hmk, -, -, -, -, -, -, hsig⟩ := hcw.spec hC.w hn
  have hstatic : methk.isStatic = true := Cond.static_spec hn hmk (hC.w _ hst)
  obtain ⟨kP, hkP, -⟩ := className_of_methodNamed hn
  have hinitP : kP.init = .initialized := Cond.initialized_spec (findClass_of_methodNamed hn) hkP (hC.w _ hini)
  have hlen' : as.length = methk.sig.parameters.length := hlen.trans (mm_lenOf hMB.2.2.2 hsig)
  rcases hlk with hlk | hlk
  · obtain ⟨vm₁, X₁, step⟩ := X.invokestatic hC.x hC.own (hC.w _ hlk) hn hmk hstatic hkP hinitP hMB.2.2.1 (g := F0 m pc la (as.reverse ++ rest)) rfl (argsL := as) (rest := rest) hlen' rfl (by rw [hC.b]; exact hd)
    exact mm_after hC hla step X₁ hr hq h1 h2 hd hMB hn ha hl hw hE kr kt
  · obtain ⟨vm₁, X₁, step⟩ := X.invokestaticNest hC.x hC.own ((hC.k.2.2.1 _ hlk).use rfl) hn hmk hstatic hkP hinitP hMB.2.2.1 (g := F0 m pc la (as.reverse ++ rest)) rfl (argsL := as) (rest := rest) hlen' rfl (by rw [hC.b]; exact hd)
    exact mm_after hC hla step X₁ hr hq h1 h2 hd hMB hn ha hl hw hE kr kt
/-- a method of an object is called -/
theorem mm_callv {ci b : Nat} {fs : List Value} (hd : decode M.2.1 pc = .ok (.invokevirtual idx, 3)) (hL : mm_MV M.1.cls idx M' n' ci) (hb : h.2.2 b = some (.inr (ci, fs))) (hlen : as.length = n') (ha : ∀ v ∈ as, v.category = 1) (hl : as.length + 1 ≤ M'.2.2.1) (hw : (rest.map fun v => v.category).sum + (M'.2.2.1 + 11) ≤ 60) (hE : mm_Ev Γ l d M' (.ref b :: as) h D')
    (kr : ∀ v h', D' (.inl v) h' → mm_W Γ l M (d + 1) D (pc + 3) ls (v.toList ++ rest) h') (kt : ∀ k h', D' (.inr k) h' → mm_Th Γ l M (d + 1) D pc ls k h') : mm_W Γ l M (d + 1) D pc ls (as.reverse ++ .ref b :: rest) h := by
  intro p e R s m args below meth c u0 hC H locs cells slots la hr hla hq h1 h2 T hT X
  subst hT
  obtain ⟨hMB, hlk, hin, hse, q, hq1, hq2⟩ := hL
  have hcw := hMB.1
  obtain ⟨mk, methM, hn, hmk, hstM, habM⟩ := Cond.instanceMethod_spec (hC.w _ hin)
  obtain ⟨methk, ck, hmk', -, -, -, -, -, -, hsig⟩ := hcw.spec hC.w hn
  cases hmk.symm.trans hmk'
  obtain ⟨r, hr1, cell, hc1, hc2, hc3, -⟩ := (hr.2.1 b _ hb).2
  have hrq : r = q := Option.some.inj (hr1.symm.trans hq1)
  subst hrq
  have hcls : s.vm.findClass M'.1.cls = some cell.cls := by
    rw [← hq2, hc2]
    exact (hC.k.1.1 ci _ hr1).2.1
  obtain ⟨c2, r2, m2, q1, q2, q3, q4, kP, hkP, hkPi⟩ := Cond.selects_spec (hC.w _ hse)
  cases hcls.symm.trans q1
  cases (State.methodFound?_of_named hn hMB.2.2.1).symm.trans q2
  cases hn.symm.trans q3
  have hselP : selectMethod e.platform s.vm cell.cls mk = .method mk := by rw [Launch.admits_selectMethod X.admits]; exact q4
  have hlen' : as.length = methM.sig.parameters.length := hlen.trans (mm_lenOf hMB.2.2.2 hsig)
  have ha' : ∀ v ∈ Value.ref b :: as, v.category = 1 := fun v hv => (List.mem_cons.mp hv).elim (fun e => by rw [e]; rfl) (ha v)
  rcases hlk with hlk | hlk
  · obtain ⟨vm₁, X₁, step⟩ := X.invokevirtual hC.x hC.own (hC.w _ hlk) hn hmk hstM hkP hkPi hMB.2.2.1 (a := b) (cell := cell) hc1 (fun z hz => by rw [hc3] at hz; cases hz) hselP hmk habM hkP hkPi (g := F0 m pc la (as.reverse ++ .ref b :: rest)) rfl (argsL := as) (rest := rest) hlen' rfl (by rw [hC.b]; exact hd)
    exact mm_after hC hla step X₁ hr hq h1 h2 hd hMB hn ha' hl hw hE kr kt
  · obtain ⟨vm₁, X₁, step⟩ := X.invokevirtualNest hC.x hC.own ((hC.k.2.2.1 _ hlk).use rfl) hn hmk hstM hkP hkPi hMB.2.2.1 (a := b) (cell := cell) hc1 (fun z hz => by rw [hc3] at hz; cases hz) hselP hmk habM hkP hkPi (g := F0 m pc la (as.reverse ++ .ref b :: rest)) rfl (argsL := as) (rest := rest) hlen' rfl (by rw [hC.b]; exact hd)
    exact mm_after hC hla step X₁ hr hq h1 h2 hd hMB hn ha' hl hw hE kr kt
/-- a constructor is called -/
theorem mm_calli {b : Nat} (hd : decode M.2.1 pc = .ok (.invokespecial idx, 3)) (hL : mm_MI M.1.cls idx M' n') (hlen : as.length = n') (ha : ∀ v ∈ as, v.category = 1) (hl : as.length + 1 ≤ M'.2.2.1) (hw : (rest.map fun v => v.category).sum + (M'.2.2.1 + 11) ≤ 60) (hE : mm_Ev Γ l d M' (.ref b :: as) h D')
    (kr : ∀ v h', D' (.inl v) h' → mm_W Γ l M (d + 1) D (pc + 3) ls (v.toList ++ rest) h') (kt : ∀ k h', D' (.inr k) h' → mm_Th Γ l M (d + 1) D pc ls k h') : mm_W Γ l M (d + 1) D pc ls (as.reverse ++ .ref b :: rest) h := by
  intro p e R s m args below meth c u0 hC H locs cells slots la hr hla hq h1 h2 T hT X
  subst hT
  obtain ⟨hMB, hlk, hin, hy1, hco⟩ := hL
  have ha' : ∀ v ∈ Value.ref b :: as, v.category = 1 := fun v hv => (List.mem_cons.mp hv).elim (fun e => by rw [e]; rfl) (ha v)
  have hpl : e.platform.magicAccessors = ({} : Platform).magicAccessors := by rw [X.admits.platform]
  rcases hlk with hlk | hlk
  · obtain ⟨mk, methM, cM, kP, vm₁, hn, -, -, -, -, -, -, -, hW₁, step⟩ := Steps.initColdArgs (e := e) X.here hC.x X.warmed hpl hC.own hy1 hMB.2.2.1 (hC.w _ hlk) (hC.w _ hin) (hC.w _ hco) (f := F0 m pc la (as.reverse ++ .ref b :: rest)) rfl (a := b) (argsL := as) (rest := rest) (fun sig hs => hlen.trans (mm_lenOf hMB.2.2.2 hs)) rfl (by rw [hC.b]; exact hd)
    exact mm_after hC hla step (X.noted hW₁) hr hq h1 h2 hd hMB hn ha' hl hw hE kr kt
  · obtain ⟨mk, methM, cM, kP, vm₁, hn, -, -, -, -, -, -, -, hW₁, step⟩ := Steps.initColdArgsNest (e := e) X.here hC.x X.warmed hpl hC.own hy1 hMB.2.2.1 ((hC.k.2.2.1 _ hlk).use rfl) (hC.w _ hin) (hC.w _ hco) (f := F0 m pc la (as.reverse ++ .ref b :: rest)) rfl (a := b) (argsL := as) (rest := rest) (fun sig hs => hlen.trans (mm_lenOf hMB.2.2.2 hs)) rfl (by rw [hC.b]; exact hd)
    exact mm_after hC hla step (X.noted hW₁) hr hq h1 h2 hd hMB hn ha' hl hw hE kr kt
end MMcall
end
section
/-! printed by wip/whole/gen_names.py: one theorem a pool entry -/
theorem mlG_0 : u_lay "CutSheets$Groups" mFG 0 ∈ mm_T := mm_in 161 (by decide +kernel) rfl
theorem mlG_1 : u_lay "CutSheets$Groups" mFG 1 ∈ mm_T := mm_in 163 (by decide +kernel) rfl
theorem mlG : ∀ w ∈ u_ws "CutSheets$Groups" mFG 2, w ∈ mm_T := by
  intro w hw
  obtain ⟨k, hk, rfl⟩ := List.mem_map.mp hw
  have hk := List.mem_range.mp hk
  match k, hk with
  | 0, _ => exact mlG_0
  | 1, _ => exact mlG_1
  | n + 2, h => exact absurd h (by omega)
theorem mlK_0 : u_lay "CutSheets$Look" mFK 0 ∈ mm_T := mm_in 175 (by decide +kernel) rfl
theorem mlK_1 : u_lay "CutSheets$Look" mFK 1 ∈ mm_T := mm_in 177 (by decide +kernel) rfl
theorem mlK_2 : u_lay "CutSheets$Look" mFK 2 ∈ mm_T := mm_in 179 (by decide +kernel) rfl
theorem mlK_3 : u_lay "CutSheets$Look" mFK 3 ∈ mm_T := mm_in 181 (by decide +kernel) rfl
theorem mlK_4 : u_lay "CutSheets$Look" mFK 4 ∈ mm_T := mm_in 183 (by decide +kernel) rfl
theorem mlK_5 : u_lay "CutSheets$Look" mFK 5 ∈ mm_T := mm_in 185 (by decide +kernel) rfl
theorem mlK_6 : u_lay "CutSheets$Look" mFK 6 ∈ mm_T := mm_in 187 (by decide +kernel) rfl
theorem mlK_7 : u_lay "CutSheets$Look" mFK 7 ∈ mm_T := mm_in 189 (by decide +kernel) rfl
theorem mlK_8 : u_lay "CutSheets$Look" mFK 8 ∈ mm_T := mm_in 191 (by decide +kernel) rfl
theorem mlK : ∀ w ∈ u_ws "CutSheets$Look" mFK 9, w ∈ mm_T := by
  intro w hw
  obtain ⟨k, hk, rfl⟩ := List.mem_map.mp hw
  have hk := List.mem_range.mp hk
  match k, hk with
  | 0, _ => exact mlK_0
  | 1, _ => exact mlK_1
  | 2, _ => exact mlK_2
  | 3, _ => exact mlK_3
  | 4, _ => exact mlK_4
  | 5, _ => exact mlK_5
  | 6, _ => exact mlK_6
  | 7, _ => exact mlK_7
  | 8, _ => exact mlK_8
  | n + 9, h => exact absurd h (by omega)
theorem mlR_0 : u_lay "CutSheets$Reading" mFR 0 ∈ mm_T := mm_in 134 (by decide +kernel) rfl
theorem mlR_1 : u_lay "CutSheets$Reading" mFR 1 ∈ mm_T := mm_in 136 (by decide +kernel) rfl
theorem mlR_2 : u_lay "CutSheets$Reading" mFR 2 ∈ mm_T := mm_in 138 (by decide +kernel) rfl
theorem mlR_3 : u_lay "CutSheets$Reading" mFR 3 ∈ mm_T := mm_in 140 (by decide +kernel) rfl
theorem mlR_4 : u_lay "CutSheets$Reading" mFR 4 ∈ mm_T := mm_in 142 (by decide +kernel) rfl
theorem mlR : ∀ w ∈ u_ws "CutSheets$Reading" mFR 5, w ∈ mm_T := by
  intro w hw
  obtain ⟨k, hk, rfl⟩ := List.mem_map.mp hw
  have hk := List.mem_range.mp hk
  match k, hk with
  | 0, _ => exact mlR_0
  | 1, _ => exact mlR_1
  | 2, _ => exact mlR_2
  | 3, _ => exact mlR_3
  | 4, _ => exact mlR_4
  | n + 5, h => exact absurd h (by omega)
theorem mlS_0 : u_lay "CutSheets$Sheet" mFS 0 ∈ mm_T := mm_in 109 (by decide +kernel) rfl
theorem mlS_1 : u_lay "CutSheets$Sheet" mFS 1 ∈ mm_T := mm_in 111 (by decide +kernel) rfl
theorem mlS_2 : u_lay "CutSheets$Sheet" mFS 2 ∈ mm_T := mm_in 113 (by decide +kernel) rfl
theorem mlS_3 : u_lay "CutSheets$Sheet" mFS 3 ∈ mm_T := mm_in 115 (by decide +kernel) rfl
theorem mlS_4 : u_lay "CutSheets$Sheet" mFS 4 ∈ mm_T := mm_in 117 (by decide +kernel) rfl
theorem mlS : ∀ w ∈ u_ws "CutSheets$Sheet" mFS 5, w ∈ mm_T := by
  intro w hw
  obtain ⟨k, hk, rfl⟩ := List.mem_map.mp hw
  have hk := List.mem_range.mp hk
  match k, hk with
  | 0, _ => exact mlS_0
  | 1, _ => exact mlS_1
  | 2, _ => exact mlS_2
  | 3, _ => exact mlS_3
  | 4, _ => exact mlS_4
  | n + 5, h => exact absurd h (by omega)
theorem mlC_0 : u_lay "CutSheets" mFC 0 ∈ mm_T := mm_in 203 (by decide +kernel) rfl
theorem mlC_1 : u_lay "CutSheets" mFC 1 ∈ mm_T := mm_in 205 (by decide +kernel) rfl
theorem mlC_2 : u_lay "CutSheets" mFC 2 ∈ mm_T := mm_in 207 (by decide +kernel) rfl
theorem mlC_3 : u_lay "CutSheets" mFC 3 ∈ mm_T := mm_in 209 (by decide +kernel) rfl
theorem mlC_4 : u_lay "CutSheets" mFC 4 ∈ mm_T := mm_in 211 (by decide +kernel) rfl
theorem mlC_5 : u_lay "CutSheets" mFC 5 ∈ mm_T := mm_in 213 (by decide +kernel) rfl
theorem mlC_6 : u_lay "CutSheets" mFC 6 ∈ mm_T := mm_in 215 (by decide +kernel) rfl
theorem mlC_7 : u_lay "CutSheets" mFC 7 ∈ mm_T := mm_in 217 (by decide +kernel) rfl
theorem mlC_8 : u_lay "CutSheets" mFC 8 ∈ mm_T := mm_in 219 (by decide +kernel) rfl
theorem mlC : ∀ w ∈ u_ws "CutSheets" mFC 9, w ∈ mm_T := by
  intro w hw
  obtain ⟨k, hk, rfl⟩ := List.mem_map.mp hw
  have hk := List.mem_range.mp hk
  match k, hk with
  | 0, _ => exact mlC_0
  | 1, _ => exact mlC_1
  | 2, _ => exact mlC_2
  | 3, _ => exact mlC_3
  | 4, _ => exact mlC_4
  | 5, _ => exact mlC_5
  | 6, _ => exact mlC_6
  | 7, _ => exact mlC_7
  | 8, _ => exact mlC_8
  | n + 9, h => exact absurd h (by omega)
theorem mlM_0 : u_lay "CutSheetsModel" mFM 0 ∈ mm_T := mm_in 740 (by decide +kernel) rfl
theorem mlM_1 : u_lay "CutSheetsModel" mFM 1 ∈ mm_T := mm_in 742 (by decide +kernel) rfl
theorem mlM_2 : u_lay "CutSheetsModel" mFM 2 ∈ mm_T := mm_in 744 (by decide +kernel) rfl
theorem mlM_3 : u_lay "CutSheetsModel" mFM 3 ∈ mm_T := mm_in 746 (by decide +kernel) rfl
theorem mlM_4 : u_lay "CutSheetsModel" mFM 4 ∈ mm_T := mm_in 748 (by decide +kernel) rfl
theorem mlM_5 : u_lay "CutSheetsModel" mFM 5 ∈ mm_T := mm_in 750 (by decide +kernel) rfl
theorem mlM_6 : u_lay "CutSheetsModel" mFM 6 ∈ mm_T := mm_in 752 (by decide +kernel) rfl
theorem mlM_7 : u_lay "CutSheetsModel" mFM 7 ∈ mm_T := mm_in 754 (by decide +kernel) rfl
theorem mlM_8 : u_lay "CutSheetsModel" mFM 8 ∈ mm_T := mm_in 756 (by decide +kernel) rfl
theorem mlM_9 : u_lay "CutSheetsModel" mFM 9 ∈ mm_T := mm_in 758 (by decide +kernel) rfl
theorem mlM_10 : u_lay "CutSheetsModel" mFM 10 ∈ mm_T := mm_in 760 (by decide +kernel) rfl
theorem mlM_11 : u_lay "CutSheetsModel" mFM 11 ∈ mm_T := mm_in 762 (by decide +kernel) rfl
theorem mlM_12 : u_lay "CutSheetsModel" mFM 12 ∈ mm_T := mm_in 764 (by decide +kernel) rfl
theorem mlM_13 : u_lay "CutSheetsModel" mFM 13 ∈ mm_T := mm_in 766 (by decide +kernel) rfl
theorem mlM_14 : u_lay "CutSheetsModel" mFM 14 ∈ mm_T := mm_in 768 (by decide +kernel) rfl
theorem mlM_15 : u_lay "CutSheetsModel" mFM 15 ∈ mm_T := mm_in 770 (by decide +kernel) rfl
theorem mlM_16 : u_lay "CutSheetsModel" mFM 16 ∈ mm_T := mm_in 772 (by decide +kernel) rfl
theorem mlM_17 : u_lay "CutSheetsModel" mFM 17 ∈ mm_T := mm_in 774 (by decide +kernel) rfl
theorem mlM_18 : u_lay "CutSheetsModel" mFM 18 ∈ mm_T := mm_in 776 (by decide +kernel) rfl
theorem mlM_19 : u_lay "CutSheetsModel" mFM 19 ∈ mm_T := mm_in 778 (by decide +kernel) rfl
theorem mlM_20 : u_lay "CutSheetsModel" mFM 20 ∈ mm_T := mm_in 780 (by decide +kernel) rfl
theorem mlM : ∀ w ∈ u_ws "CutSheetsModel" mFM 21, w ∈ mm_T := by
  intro w hw
  obtain ⟨k, hk, rfl⟩ := List.mem_map.mp hw
  have hk := List.mem_range.mp hk
  match k, hk with
  | 0, _ => exact mlM_0
  | 1, _ => exact mlM_1
  | 2, _ => exact mlM_2
  | 3, _ => exact mlM_3
  | 4, _ => exact mlM_4
  | 5, _ => exact mlM_5
  | 6, _ => exact mlM_6
  | 7, _ => exact mlM_7
  | 8, _ => exact mlM_8
  | 9, _ => exact mlM_9
  | 10, _ => exact mlM_10
  | 11, _ => exact mlM_11
  | 12, _ => exact mlM_12
  | 13, _ => exact mlM_13
  | 14, _ => exact mlM_14
  | 15, _ => exact mlM_15
  | 16, _ => exact mlM_16
  | 17, _ => exact mlM_17
  | 18, _ => exact mlM_18
  | 19, _ => exact mlM_19
  | 20, _ => exact mlM_20
  | n + 21, h => exact absurd h (by omega)
theorem mm_lay (ci : Nat) (q : vw_C) (h : mm_cl[ci]? = some q) : ∀ w ∈ u_ws q.1 q.2.1 q.2.2, w ∈ mm_T := by
  match ci, h with
  | 0, h => cases h; exact mlG
  | 1, h => cases h; exact mlK
  | 2, h => cases h; exact mlR
  | 3, h => cases h; exact mlS
  | 4, h => cases h; exact mlC
  | 5, h => cases h; exact mlM
  | n + 6, h => exact absurd h (by simp [mm_cl])
end
section
/-! Rows over the heap, ends, throws. -/
section MMR
variable {Γ : mm_G} {l : Launch} {M : mm_M} {d : Nat} {D : mm_D} {pc : Nat} {ls : mm_L} {st : List Value} {h : mm_H}
theorem mm_ireturn {v : Int32} (hd : decode M.2.1 pc = .ok (.ireturn, 1)) (hM : M.2.2.2.1 = some .int) (hD : D (.inl (some (.int v))) h) : mm_W Γ l M d D pc ls [.int v] h := by
  intro p e R s m args below meth c u0 hC H locs cells slots la hr hl hq h1 h2
  refine mm_mono ?_ (W.iret (Qc := fun _ _ o t => o = .returned (some (.int v)) ∧ mm_R Γ t h t.heap) (free := fun q => mm_B Γ ≤ q) hC.x hC.b (by rw [hC.ret]; exact hM) (fun t ht hW => ⟨rfl, by rw [ht]; exact hr.moved hW.alike⟩) hq hd hC.lk)
  rintro t ⟨o, a1, a2, ⟨rfl, a3⟩, L, ⟨-, a4, a5⟩, a6⟩
  exact ⟨_, .inl (some (.int v)), h, L, cells, slots, a1, a2, rfl, hD, a3, a4, a5, a6, h1, h2⟩
theorem mm_zreturn {v : Int32} (hd : decode M.2.1 pc = .ok (.ireturn, 1)) (hM : M.2.2.2.1 = some .boolean) (hv : narrow .boolean (.int v) = .int v) (hD : D (.inl (some (.int v))) h) : mm_W Γ l M d D pc ls [.int v] h := by
  intro p e R s m args below meth c u0 hC H locs cells slots la hr hl hq h1 h2
  refine mm_mono ?_ (W.zret (ty := .boolean) (Qc := fun _ _ o t => o = .returned (some (.int v)) ∧ mm_R Γ t h t.heap) (free := fun q => mm_B Γ ≤ q) hC.x hC.b (by rw [hC.ret]; exact hM) hv (fun t ht hW => ⟨rfl, by rw [ht]; exact hr.moved hW.alike⟩) hq hd hC.lk)
  rintro t ⟨o, a1, a2, ⟨rfl, a3⟩, L, ⟨-, a4, a5⟩, a6⟩
  exact ⟨_, .inl (some (.int v)), h, L, cells, slots, a1, a2, rfl, hD, a3, a4, a5, a6, h1, h2⟩
theorem mm_return (hd : decode M.2.1 pc = .ok (.return_, 1)) (hM : M.2.2.2.1 = none) (hD : D (.inl none) h) : mm_W Γ l M d D pc ls [] h := by
  intro p e R s m args below meth c u0 hC H locs cells slots la hr hl hq h1 h2
  refine mm_mono ?_ (W.vret (Qc := fun _ _ o t => o = .returned none ∧ mm_R Γ t h t.heap) (free := fun q => mm_B Γ ≤ q) hC.x hC.b (by rw [hC.ret]; exact hM) (fun t ht hW => ⟨rfl, by rw [ht]; exact hr.moved hW.alike⟩) hq hd hC.lk)
  rintro t ⟨o, a1, a2, ⟨rfl, a3⟩, L, ⟨-, a4, a5⟩, a6⟩
  exact ⟨_, .inl none, h, L, cells, slots, a1, a2, rfl, hD, a3, a4, a5, a6, h1, h2⟩
theorem mm_areturn {a : Nat} {rt : FieldType} (hd : decode M.2.1 pc = .ok (.areturn, 1)) (hM : M.2.2.2.1 = some rt) (hrt : (∃ n, rt = .object n) ∨ ∃ t, rt = .array t) (hD : D (.inl (some (.ref a))) h) : mm_W Γ l M d D pc ls [.ref a] h := by
  intro p e R s m args below meth c u0 hC H locs cells slots la hr hl hq h1 h2
  refine mm_mono ?_ (W.aret (v := .ref a) (rt := rt) (Qc := fun _ _ o t => o = .returned (some (.ref a)) ∧ mm_R Γ t h t.heap) (free := fun q => mm_B Γ ≤ q) hC.x hC.b (by rw [hC.ret]; exact hM) hrt (Or.inr ⟨a, rfl⟩) (fun t ht hW => ⟨rfl, by rw [ht]; exact hr.moved hW.alike⟩) hq hd hC.lk)
  rintro t ⟨o, a1, a2, ⟨rfl, a3⟩, L, ⟨-, a4, a5⟩, a6⟩
  exact ⟨_, .inl (some (.ref a)), h, L, cells, slots, a1, a2, rfl, hD, a3, a4, a5, a6, h1, h2⟩
/-- locals may be forgotten -/
theorem mm_sub {ls' : mm_L} (hs : ∀ (i : Nat) (v : Value), ls'[i]? = some (some v) → ls[i]? = some (some v)) (k : mm_W Γ l M d D pc ls' st h) : mm_W Γ l M d D pc ls st h :=
  fun p e R s m args below meth c u0 hC H locs cells slots la hr hl hq h1 h2 => k p e R s m args below meth c u0 hC H locs cells slots la hr ⟨hl.1, hl.2.1, fun i v hv => hl.2.2 i v (hs i v hv)⟩ hq h1 h2
/-- what is weaker at the end -/
theorem mm_post {D1 : mm_D} (hs : ∀ o g, D1 o g → D o g) (k : mm_W Γ l M d D1 pc ls st h) : mm_W Γ l M d D pc ls st h := by
  intro p e R s m args below meth c u0 hC H locs cells slots la hr hl hq h1 h2
  refine mm_mono ?_ (k p e R s m args below meth c u0 hC H locs cells slots la hr hl hq h1 h2)
  rintro t ⟨o, o', h', L, k1, n1, a1, a2, a3, a4, a5⟩
  exact ⟨o, o', h', L, k1, n1, a1, a2, a3, hs _ _ a4, a5⟩
theorem mm_arr {Γ : mm_G} {U : State} (hK : mm_K Γ U) (k : Nat) (hk : k < 4) : ArrOfT U (Γ.2.1 k) (mm_aty k) := by
  match k, hk with
  | 0, _ => exact (hK.1.2 0 _ rfl).1
  | 1, _ => exact (hK.1.2 1 _ rfl).1
  | 2, _ => exact (hK.1.2 2 _ rfl).1
  | 3, _ => exact (hK.1.2 3 _ rfl).1
  | n + 4, h => exact absurd h (by omega)
theorem mm_ix {j n : Nat} (hj : j < n) (hn : n < 2 ^ 31) (cA : ClassId) (f : Nat → Value) : ¬ (nI j < 0 ∨ (arrV cA n f).slots.size ≤ (nI j).toNatClampNeg) := by rw [arrV_size]; exact nI_in hj hn
theorem mm_rd {j n : Nat} (hj : j < n) (hn : n < 2 ^ 31) (cA : ClassId) (f : Nat → Value) : (arrV cA n f).slots[(nI j).toNatClampNeg]? = some (f j) := by rw [nI_clamp (by omega), arrV_read _ _ hj]
/-- an int array is read -/
theorem mm_iaload {a n j : Nat} {f : Nat → Int32} {i : Int32} (hd : decode M.2.1 pc = .ok (.iaload, 1)) (ha : h.2.2 a = some (.inl (0, n, .inl f))) (hi : i = nI j) (hj : j < n) (hn : n < 2 ^ 31) (k : mm_W Γ l M d D (pc + 1) ls (.int (f j) :: st) h) : mm_W Γ l M d D pc ls (.int i :: .ref a :: st) h := by
  intro p e R s m args below meth c u0 hC H locs cells slots la hr hl hq h1 h2
  subst hi
  exact W.iald (v := .int (f j)) hC.x hC.b ((hr.2.1 a _ ha).2) (mm_arr hC.k 0 (by decide) n (fun j => .int (f j))) (fun q => by cases q) (mm_ix hj hn _ _) (mm_rd hj hn _ _) rfl rfl hd (k p e R s m args below meth c u0 hC H locs cells slots la hr hl hq h1 h2)
theorem mm_baload {a n j : Nat} {f : Nat → Int32} {i : Int32} (hd : decode M.2.1 pc = .ok (.baload, 1)) (ha : h.2.2 a = some (.inl (1, n, .inl f))) (hi : i = nI j) (hj : j < n) (hn : n < 2 ^ 31) (k : mm_W Γ l M d D (pc + 1) ls (.int (f j) :: st) h) : mm_W Γ l M d D pc ls (.int i :: .ref a :: st) h := by
  intro p e R s m args below meth c u0 hC H locs cells slots la hr hl hq h1 h2
  subst hi
  exact W.zald (v := .int (f j)) hC.x hC.b ((hr.2.1 a _ ha).2) (mm_arr hC.k 1 (by decide) n (fun j => .int (f j))) (fun q => by cases q) (mm_ix hj hn _ _) (mm_rd hj hn _ _) rfl rfl hd (k p e R s m args below meth c u0 hC H locs cells slots la hr hl hq h1 h2)
theorem mm_laload {a n j : Nat} {f : Nat → Int64} {i : Int32} (hd : decode M.2.1 pc = .ok (.laload, 1)) (ha : h.2.2 a = some (.inl (2, n, .inr (.inl f)))) (hi : i = nI j) (hj : j < n) (hn : n < 2 ^ 31) (k : mm_W Γ l M d D (pc + 1) ls (.long (f j) :: st) h) : mm_W Γ l M d D pc ls (.int i :: .ref a :: st) h := by
  intro p e R s m args below meth c u0 hC H locs cells slots la hr hl hq h1 h2
  subst hi
  exact W.lald (v := .long (f j)) hC.x hC.b ((hr.2.1 a _ ha).2) (mm_arr hC.k 2 (by decide) n (fun j => .long (f j))) (fun q => by cases q) (mm_ix hj hn _ _) (mm_rd hj hn _ _) rfl rfl hd (k p e R s m args below meth c u0 hC H locs cells slots la hr hl hq h1 h2)
theorem mm_aaload {a n j b : Nat} {f : Nat → Option Nat} {i : Int32} (hd : decode M.2.1 pc = .ok (.aaload, 1)) (ha : h.2.2 a = some (.inl (3, n, .inr (.inr (.inr (.inr f)))))) (hi : i = nI j) (hj : j < n) (hn : n < 2 ^ 31) (hf : f j = some b) (k : mm_W Γ l M d D (pc + 1) ls (.ref b :: st) h) : mm_W Γ l M d D pc ls (.int i :: .ref a :: st) h := by
  intro p e R s m args below meth c u0 hC H locs cells slots la hr hl hq h1 h2
  subst hi
  refine W.aald (v := va_rf (f j)) (ty := .object "CutSheets$Sheet") hC.x hC.b ((hr.2.1 a _ ha).2) (mm_arr hC.k 3 (by decide) n (fun j => va_rf (f j))) rfl (fun q => by cases q) (mm_ix hj hn _ _) (mm_rd hj hn _ _) rfl rfl hd ?_
  rw [hf]
  exact k p e R s m args below meth c u0 hC H locs cells slots la hr hl hq h1 h2
/-- the script is read -/
theorem mm_sload {j : Nat} {i : Int32} (hd : decode M.2.1 pc = .ok (.iaload, 1)) (hi : i = nI j) (hj : j < Γ.2.2.2.2.1) (hn : Γ.2.2.2.2.1 < 2 ^ 31) (k : mm_W Γ l M d D (pc + 1) ls (.int (Γ.2.2.2.2.2 j) :: st) h) : mm_W Γ l M d D pc ls (.int i :: .ref Γ.2.2.2.1 :: st) h := by
  intro p e R s m args below meth c u0 hC H locs cells slots la hr hl hq h1 h2
  subst hi
  obtain ⟨scr, s1, s2, s3, s4, s5⟩ := hr.2.2.1.2
  exact W.iald (v := .int (Γ.2.2.2.2.2 j)) hC.x hC.b s1 s2 s3 (by rw [s4]; exact nI_in hj hn) (by rw [nI_clamp (by omega)]; exact s5 j hj) rfl rfl hd (k p e R s m args below meth c u0 hC H locs cells slots la hr hl hq h1 h2)
theorem mm_slen {v : Int32} (hd : decode M.2.1 pc = .ok (.arraylength, 1)) (hv : nI Γ.2.2.2.2.1 = v) (k : mm_W Γ l M d D (pc + 1) ls (.int v :: st) h) : mm_W Γ l M d D pc ls (.ref Γ.2.2.2.1 :: st) h := by
  intro p e R s m args below meth c u0 hC H locs cells slots la hr hl hq h1 h2
  subst hv
  obtain ⟨scr, s1, s2, s3, s4, s5⟩ := hr.2.2.1.2
  exact W.alen (n := nI Γ.2.2.2.2.1) hC.x hC.b s1 s2 (by rw [s4] <;> rfl) rfl rfl hd (k p e R s m args below meth c u0 hC H locs cells slots la hr hl hq h1 h2)
theorem mm_alen {a t n : Nat} {x : _} {v : Int32} (hd : decode M.2.1 pc = .ok (.arraylength, 1)) (ha : h.2.2 a = some (.inl (t, n, x))) (ht : t < 4) (hv : nI n = v) (k : mm_W Γ l M d D (pc + 1) ls (.int v :: st) h) : mm_W Γ l M d D pc ls (.ref a :: st) h := by
  intro p e R s m args below meth c u0 hC H locs cells slots la hr hl hq h1 h2
  subst hv
  have kk := k p e R s m args below meth c u0 hC H locs cells slots la hr hl hq h1 h2
  have hc := (hr.2.1 a _ ha).2
  have hA := mm_arr hC.k t ht n
  match x, hc with
  | .inl f, hc => exact W.alen (n := nI n) hC.x hC.b hc (hA (fun j => .int (f j))) (by rw [vp_cell_i, arrV_size] <;> rfl) rfl rfl hd kk
  | .inr (.inl f), hc => exact W.alen (n := nI n) hC.x hC.b hc (hA (fun j => .long (f j))) (by rw [vp_cell_l, arrV_size] <;> rfl) rfl rfl hd kk
  | .inr (.inr (.inl f)), hc => exact W.alen (n := nI n) hC.x hC.b hc (hA (fun j => .float (f j))) (by rw [vp_cell_f, arrV_size] <;> rfl) rfl rfl hd kk
  | .inr (.inr (.inr (.inl f))), hc => exact W.alen (n := nI n) hC.x hC.b hc (hA (fun j => .double (f j))) (by rw [vp_cell_d, arrV_size] <;> rfl) rfl rfl hd kk
  | .inr (.inr (.inr (.inr f))), hc => exact W.alen (n := nI n) hC.x hC.b hc (hA (fun j => va_rf (f j))) (by rw [vp_cell_q, arrV_size] <;> rfl) rfl rfl hd kk
theorem mm_updi (cA : ClassId) (n j : Nat) (f : Nat → Int32) (x : Int32) : (vp_cell cA (n, .inl f)).setSlot j (.int x) = vp_cell cA (n, .inl (upd f j x)) := by
  rw [vp_cell_i, vp_cell_i, arrV_store]
  congr 1
  funext q
  by_cases hqj : q = j
  · subst hqj; simp [updV, upd]
  · simp [updV, upd, hqj]
theorem mm_updl (cA : ClassId) (n j : Nat) (f : Nat → Int64) (x : Int64) : (vp_cell cA (n, .inr (.inl f))).setSlot j (.long x) = vp_cell cA (n, .inr (.inl (vp_updL f j x))) := by
  rw [vp_cell_l, vp_cell_l, arrV_store]
  congr 1
  funext q
  by_cases hqj : q = j
  · subst hqj; simp [updV, vp_updL]
  · simp [updV, vp_updL, hqj]
theorem mm_updq (cA : ClassId) (n j v : Nat) (f : Nat → Option Nat) : (vp_cell cA (n, .inr (.inr (.inr (.inr f))))).setSlot j (.ref v) = vp_cell cA (n, .inr (.inr (.inr (.inr (va_up f j (some v)))))) := by
  rw [vp_cell_q, vp_cell_q, arrV_store]
  congr 1
  funext q
  by_cases hqj : q = j
  · subst hqj; simp [updV, va_up, va_rf]
  · simp [updV, va_up, hqj]
/-- an int array is written -/
theorem mm_iastore {a n j : Nat} {f : Nat → Int32} {i x : Int32} (hd : decode M.2.1 pc = .ok (.iastore, 1)) (ha : h.2.2 a = some (.inl (0, n, .inl f))) (hi : i = nI j) (hj : j < n) (hn : n < 2 ^ 31) (k : mm_W Γ l M d D (pc + 1) ls st (mm_up h a (.inl (0, n, .inl (upd f j x))))) : mm_W Γ l M d D pc ls (.int x :: .int i :: .ref a :: st) h := by
  intro p e R s m args below meth c u0 hC H locs cells slots la hr hl hq h1 h2
  subst hi
  refine W.iast hC.x hC.b ((hr.2.1 a _ ha).2) (mm_arr hC.k 0 (by decide) n (fun j => .int (f j))) (fun q => by cases q) (mm_ix hj hn _ _) rfl rfl hd fun H1 e1 z oq => ?_
  rw [nI_clamp (by omega)] at e1 ⊢
  refine k p e R s m args below meth c u0 hC H1 _ cells slots la (hr.set ha ?_ z oq) hl (t_lc hq (hr.2.1 a _ ha).1) h1 h2
  show H1[a]? = some (vp_cell _ _)
  rw [e1]
  exact congrArg some (mm_updi _ _ _ _ _)
theorem mm_bastore {a n j : Nat} {f : Nat → Int32} {i x : Int32} (hd : decode M.2.1 pc = .ok (.bastore, 1)) (ha : h.2.2 a = some (.inl (1, n, .inl f))) (hi : i = nI j) (hj : j < n) (hn : n < 2 ^ 31) (hx : narrow .boolean (.int x) = .int x) (k : mm_W Γ l M d D (pc + 1) ls st (mm_up h a (.inl (1, n, .inl (upd f j x))))) : mm_W Γ l M d D pc ls (.int x :: .int i :: .ref a :: st) h := by
  intro p e R s m args below meth c u0 hC H locs cells slots la hr hl hq h1 h2
  subst hi
  refine W.zast hC.x hC.b ((hr.2.1 a _ ha).2) (mm_arr hC.k 1 (by decide) n (fun j => .int (f j))) (fun q => by cases q) (mm_ix hj hn _ _) rfl rfl hd fun H1 e1 z oq => ?_
  rw [nI_clamp (by omega)] at e1 ⊢
  rw [hx] at e1
  refine k p e R s m args below meth c u0 hC H1 _ cells slots la (hr.set ha ?_ z oq) hl (t_lc hq (hr.2.1 a _ ha).1) h1 h2
  show H1[a]? = some (vp_cell _ _)
  rw [e1]
  exact congrArg some (mm_updi _ _ _ _ _)
theorem mm_lastore {a n j : Nat} {f : Nat → Int64} {i : Int32} {x : Int64} (hd : decode M.2.1 pc = .ok (.lastore, 1)) (ha : h.2.2 a = some (.inl (2, n, .inr (.inl f)))) (hi : i = nI j) (hj : j < n) (hn : n < 2 ^ 31) (k : mm_W Γ l M d D (pc + 1) ls st (mm_up h a (.inl (2, n, .inr (.inl (vp_updL f j x)))))) : mm_W Γ l M d D pc ls (.long x :: .int i :: .ref a :: st) h := by
  intro p e R s m args below meth c u0 hC H locs cells slots la hr hl hq h1 h2
  subst hi
  refine W.last hC.x hC.b ((hr.2.1 a _ ha).2) (mm_arr hC.k 2 (by decide) n (fun j => .long (f j))) (fun q => by cases q) (mm_ix hj hn _ _) rfl rfl hd fun H1 e1 z oq => ?_
  rw [nI_clamp (by omega)] at e1 ⊢
  refine k p e R s m args below meth c u0 hC H1 _ cells slots la (hr.set ha ?_ z oq) hl (t_lc hq (hr.2.1 a _ ha).1) h1 h2
  show H1[a]? = some (vp_cell _ _)
  rw [e1]
  exact congrArg some (mm_updl _ _ _ _ _)
/-- a sheet is put into the array of sheets -/
theorem mm_aastore {a n j v : Nat} {f : Nat → Option Nat} {vs : List Value} {i : Int32} (hd : decode M.2.1 pc = .ok (.aastore, 1)) (ha : h.2.2 a = some (.inl (3, n, .inr (.inr (.inr (.inr f)))))) (hb : h.2.2 v = some (.inr (3, vs))) (hi : i = nI j) (hj : j < n) (hn : n < 2 ^ 31) (k : mm_W Γ l M d D (pc + 1) ls st (mm_up h a (.inl (3, n, .inr (.inr (.inr (.inr (va_up f j (some v))))))))) : mm_W Γ l M d D pc ls (.ref v :: .int i :: .ref a :: st) h := by
  intro p e R s m args below meth c u0 hC H locs cells slots la hr hl hq h1 h2
  subst hi
  obtain ⟨r', hr', cellV, g1, g2, g3, -⟩ := (hr.2.1 v _ hb).2
  have hcls := (hC.k.1.1 3 _ rfl).2
  obtain ⟨kA, comp, k1, k2, k3, -⟩ := (hC.k.1.2 3 _ rfl).2
  have hcomp : comp = Γ.1.1 3 := Option.some.inj (k3.symm.trans hcls.1)
  subst hcomp
  obtain ⟨kC, hkC, hkd⟩ := hcls.2
  have hasg : s.vm.assignable (Γ.1.1 3) (Γ.1.1 3) = true := va_assign ⟨hcls.1, kC, hkC, hkd⟩
  refine W.aast hC.x hC.b ((hr.2.1 a _ ha).2) (fun q h => by cases h) (fun h => by cases h) k1 k2 rfl hkC ⟨nI_pos (by omega), by show _ < (arrV _ _ _).slots.size; rw [arrV_size, nI_clamp (by omega)]; exact hj⟩ g1 (fun q h => by rw [g3] at h; cases h) (by rw [g2]; exact hkC) (by rw [g2]; exact hasg) rfl rfl hd fun H1 e1 z oq => ?_
  rw [nI_clamp (by omega)] at e1 ⊢
  refine k p e R s m args below meth c u0 hC H1 _ cells slots la (hr.set ha ?_ z oq) hl (t_lc hq (hr.2.1 a _ ha).1) h1 h2
  show H1[a]? = some (vp_cell _ _)
  rw [e1]
  exact congrArg some (mm_updq _ _ _ _ _)
/-! fields -/
def mm_FL (own : String) (idx ci k : Nat) : Prop := ∃ q : vw_C, mm_cl[ci]? = some q ∧ k < q.2.2 ∧ (Cond.fieldLink own idx (q.2.1 k).1 (q.2.1 k).2.1 (q.2.1 k).2.2.1 ∈ mm_T ∨ (own, idx, (q.2.1 k).1, (q.2.1 k).2.1, (q.2.1 k).2.2.1) ∈ mm_NF)
theorem mm_getf {a idx ci k : Nat} {fs : List Value} {v : Value} (hd : decode M.2.1 pc = .ok (.getfield idx, 3)) (hL : mm_FL M.1.cls idx ci k) (ha : h.2.2 a = some (.inr (ci, fs))) (hv : fs[k]? = some v) (kk : mm_W Γ l M d D (pc + 3) ls (v :: st) h) : mm_W Γ l M d D pc ls (.ref a :: st) h := by
  intro p e R s m args below meth c u0 hC H locs cells slots la hr hl hq h1 h2
  obtain ⟨q, hq1, hk, hlk⟩ := hL
  obtain ⟨r, g1, cell, c1, c2, c3, c4⟩ := (hr.2.1 a _ ha).2
  have hrq : r = q := Option.some.inj (g1.symm.trans hq1)
  subst hrq
  obtain ⟨hS, hfc, kC, hkC, hkind⟩ := hC.k.1.1 ci _ hq1
  obtain ⟨cf, kf, fi, f, hi, hsl⟩ := hS k hk
  have hst := (u_facts hfc hkC (u_lays hC.w (mm_lay ci _ hq1) hk) hi).1
  have hvv : cell.slots[f.slot]? = some v := by
    rw [hsl, c4 k hk]
    simp [vp_V, hv]
  rcases hlk with hlk | hlk
  · exact W.getf hC.x hC.b hC.own (hC.w _ hlk) hi hst c1 (by rw [c3]; exact fun h => by cases h) hvv rfl rfl hd (kk p e R s m args below meth c u0 hC H locs cells slots la hr hl hq h1 h2)
  · exact va_Wgetf hC.x hC.b hC.own ((hC.k.2.1 _ hlk).use rfl) hi hst c1 (by rw [c3]; exact fun h => by cases h) hvv rfl rfl hd (kk p e R s m args below meth c u0 hC H locs cells slots la hr hl hq h1 h2)
theorem mm_apart {Γ : mm_G} {s : State} {args : Array Value} {ci : Nat} {q : vw_C} (hw : ∀ w ∈ mm_T, w.before args s = true) (hK : mm_K Γ s) (hq : mm_cl[ci]? = some q) : ∀ x y, x < q.2.2 → y < q.2.2 → x ≠ y → Γ.1.2 ci x ≠ Γ.1.2 ci y :=
  va_apart (own := "") (D := Γ.1) (cl := mm_cl) (tys := mm_tys Γ) (C := q.1) (T := q.2.1) hw (mm_lay ci q hq) (mm_ty ci) (mm_tyok ci q hq) (mm_nmok ci q hq) hK.1 hq
theorem mm_putf {a idx ci k : Nat} {fs : List Value} {v : Value} {ty : FieldType} (hd : decode M.2.1 pc = .ok (.putfield idx, 3)) (hL : mm_FL M.1.cls idx ci k) (hfin : (mm_fld ci k).2.2.2 = false) (hty : mm_ty ci k = ty) (hn : narrow ty v = v) (hf : fits ty v = true) (ha : h.2.2 a = some (.inr (ci, fs))) (hv : k < fs.length) (kk : mm_W Γ l M d D (pc + 3) ls st (mm_up h a (.inr (ci, fs.set k v)))) : mm_W Γ l M d D pc ls (v :: .ref a :: st) h := by
  intro p e R s m args below meth c u0 hC H locs cells slots la hr hl hq h1 h2
  obtain ⟨q, hq1, hk, hlk⟩ := hL
  obtain ⟨r, g1, cell, c1, c2, c3, c4⟩ := (hr.2.1 a _ ha).2
  have hrq : r = q := Option.some.inj (g1.symm.trans hq1)
  subst hrq
  have hap := mm_apart hC.w hC.k hq1
  obtain ⟨hS, hfc, kC, hkC, hkind⟩ := hC.k.1.1 ci _ hq1
  obtain ⟨cf, kf, fi, f, hi, hsl⟩ := hS k hk
  have hlay := hC.w _ (mm_lay ci _ hq1 _ (u_in_lay hk))
  unfold u_lay at hlay
  rw [mm_fld_eq ci _ hq1] at hfin
  rw [if_neg (by rw [hfin]; decide)] at hlay
  have hst := (u_facts hfc hkC (u_lays hC.w (mm_lay ci _ hq1) hk) hi).1
  have h6 := u_store hfc hkC hkind hlay hi (by rw [mm_tyok ci _ hq1 k hk, hty]) hn hf
  have fin : ∀ H' : Heap, H'[a]? = some (cell.setSlot f.slot v) → H'.size = H.size → (∀ q, q ≠ a → H'[q]? = H[q]?) → W p l e R s m args below meth c H' (locs ++ [⟨a, f.slot⟩]) cells slots (mm_Q Γ below D s u0) (F0 m (pc + 3) la st) := by
    intro H' e1 e2 e3
    refine kk p e R s m args below meth c u0 hC H' _ cells slots la (hr.set ha ?_ e2 e3) hl (t_lc hq (hr.2.1 a _ ha).1) h1 h2
    rw [hsl] at e1
    exact ⟨_, hq1, t_OB.to (V := updV (vp_V fs) k v) ⟨_, e1, c2, c3, t_set c4 hap hk v⟩ (fun j _ => vp_updV_set hv v j)⟩
  rcases hlk with hlk | hlk
  · exact W.putK hC.x hC.b (f := f) ⟨hC.own, hC.w _ hlk, ⟨_, _, _, hi⟩, hst⟩ (by rw [c2]; exact h6) c1 c3 (by rw [hsl]; exact k2_hasslot (c4 k hk)) rfl rfl hd fin
  · exact va_WputK hC.x hC.b (f := f) hC.own ((hC.k.2.1 _ hlk).use rfl) hi hst (by rw [c2]; exact h6) c1 c3 (by rw [hsl]; exact k2_hasslot (c4 k hk)) rfl rfl hd fin
/-- a final field, in its constructor -/
theorem mm_putF {a idx ci k : Nat} {fs : List Value} {v : Value} {ty : FieldType} (hd : decode M.2.1 pc = .ok (.putfield idx, 3)) (hL : mm_FL M.1.cls idx ci k) (hfin : (mm_fld ci k).2.2.2 = true) (hdecl : (mm_fld ci k).1 = M.1.cls) (hin : M.1.name = "<init>") (hty : mm_ty ci k = ty) (hn : narrow ty v = v) (hf : fits ty v = true) (ha : h.2.2 a = some (.inr (ci, fs))) (hv : k < fs.length) (hnest : ∀ x, (M.1.cls, idx, x) ∉ mm_NF) (kk : mm_W Γ l M d D (pc + 3) ls st (mm_up h a (.inr (ci, fs.set k v)))) : mm_W Γ l M d D pc ls (v :: .ref a :: st) h := by
  intro p e R s m args below meth c u0 hC H locs cells slots la hr hl hq h1 h2
  obtain ⟨q, hq1, hk, hlk⟩ := hL
  obtain ⟨r, g1, cell, c1, c2, c3, c4⟩ := (hr.2.1 a _ ha).2
  have hrq : r = q := Option.some.inj (g1.symm.trans hq1)
  subst hrq
  have hap := mm_apart hC.w hC.k hq1
  obtain ⟨hS, hfc, kC, hkC, hkind⟩ := hC.k.1.1 ci _ hq1
  obtain ⟨cf, kf, fi, f, hi, hsl⟩ := hS k hk
  have hlay := hC.w _ (mm_lay ci _ hq1 _ (u_in_lay hk))
  unfold u_lay at hlay
  rw [mm_fld_eq ci _ hq1] at hfin hdecl
  rw [if_pos hfin] at hlay
  have hst := (u_facts hfc hkC (u_lays hC.w (mm_lay ci _ hq1) hk) hi).1
  have hcf : m.cls = cf := by
    obtain ⟨_, _, c', _, _, _, -, -, hf', -, -, -, hown2, -⟩ := Cond.laysFinal_spec hlay
    have e1 : c' = cf := by have := hi.symm.trans hf'; simp at this; exact this.1.symm
    rw [hdecl] at hown2
    rw [← e1]; exact Option.some.inj (hC.own.symm.trans hown2)
  have h6 := u_fits hfc hkC hkind (Or.inr hlay) hi (by rw [mm_tyok ci _ hq1 k hk, hty]) hn hf
  rcases hlk with hlk | hlk
  · refine W.putFinK hC.x hC.b hC.own (hC.w _ hlk) hi hst hcf (by rw [hC.nm]; exact hin) (by rw [c2]; exact h6) c1 c3 (by rw [hsl]; exact k2_hasslot (c4 k hk)) rfl rfl hd fun H' e1 e2 e3 => ?_
    refine kk p e R s m args below meth c u0 hC H' _ cells slots la (hr.set ha ?_ e2 e3) hl (t_lc hq (hr.2.1 a _ ha).1) h1 h2
    rw [hsl] at e1
    exact ⟨_, hq1, t_OB.to (V := updV (vp_V fs) k v) ⟨_, e1, c2, c3, t_set c4 hap hk v⟩ (fun j _ => vp_updV_set hv v j)⟩
  · exact absurd hlk (hnest _)
/-! new -/
def mm_CLk (own : String) (idx ci : Nat) : Prop := ∃ q : vw_C, mm_cl[ci]? = some q ∧ Cond.classLink own idx q.1 ∈ mm_T ∧ Cond.instantiable q.1 q.2.2 ∈ mm_T ∧ Cond.initialized q.1 ∈ mm_T
def mm_num (ci : Nat) : Nat := match mm_cl[ci]? with
  | some q => q.2.2
  | none => 0
def mm_dfl (ci : Nat) : List Value := (List.range (mm_num ci)).map fun k => defaultValue (mm_ty ci k)
theorem mm_new {idx ci n : Nat} {fs : List Value} (hd : decode M.2.1 pc = .ok (.new idx, 3)) (hL : mm_CLk M.1.cls idx ci) (hn : mm_num ci = n) (hfs : mm_dfl ci = fs) (hm : h.1 + 1 ≤ mm_Cm Γ) (hs : h.2.1 + n ≤ mm_Sm Γ) (kk : mm_W Γ l M d D (pc + 3) ls (.ref h.1 :: st) (mm_add h n (.inr (ci, fs)))) : mm_W Γ l M d D pc ls st h := by
  intro p e R s m args below meth c u0 hC H locs cells slots la hr hl hq h1 h2
  obtain ⟨q, hq1, w1, w2, w3⟩ := hL
  have hnq : n = q.2.2 := by rw [← hn]; unfold mm_num; rw [hq1]
  subst hnq
  have hKn := hC.k.1.1 ci _ hq1
  obtain ⟨hB, hCm, hSm, -⟩ := hC.rm
  refine W.newcK hC.x hC.b hC.own (hC.w _ w1) (hC.w _ w2) (hC.w _ w3) rfl hd (by omega) (by omega) hKn.2.1 hr.1.1 fun H1 kC hkC e1 z1 o1 => ?_
  refine kk p e R s m args below meth c u0 hC H1 locs (cells + 1) (slots + q.2.2) la (hr.new hm hs ⟨q, hq1, ?_⟩ z1 o1) hl hq (by show h.1 + 1 = _; omega) (by show h.2.1 + q.2.2 = _; omega)
  refine (u_born (mm_ty ci) hC.w (mm_lay ci _ hq1) hKn hkC e1 (mm_tyok ci _ hq1)).to fun j hj => ?_
  rw [← hfs]
  have hj' : j < mm_num ci := by rw [hn]; exact hj
  simp [vp_V, mm_dfl, List.getD_eq_getElem?_getD, List.getElem?_map, List.getElem?_range hj']
/-- a new array of ints, of booleans, of longs -/
theorem mm_newarr {at' : ArrayType} {t N : Nat} {x : _} {i : Int32} (hd : decode M.2.1 pc = .ok (.newarray at', 2)) (hty : newarray.typeOf at' = mm_aty t) (ht : t < 3) (hW : Cond.arrayClass (mm_aty t) ∈ mm_T) (hx : ∀ cA : ClassId, vp_cell cA (N, x) = arrV cA N (fun _ => defaultValue (mm_aty t))) (hi : i = nI N) (hN : N < 1000000) (hb : componentBytes (mm_aty t) ≤ 8) (hm : h.1 + 1 ≤ mm_Cm Γ) (hs : h.2.1 + N ≤ mm_Sm Γ) (kk : mm_W Γ l M d D (pc + 2) ls (.ref h.1 :: st) (mm_add h N (.inl (t, N, x)))) : mm_W Γ l M d D pc ls (.int i :: st) h := by
  intro p e R s m args below meth c u0 hC H locs cells slots la hr hl hq h1 h2
  subst hi
  obtain ⟨hB, hCm, hSm, -⟩ := hC.rm
  have hbytes : N * componentBytes (newarray.typeOf at') ≤ 536870912 := by
    rw [hty]
    calc N * componentBytes (mm_aty t) ≤ 1000000 * 8 := Nat.mul_le_mul (by omega) hb
      _ ≤ 536870912 := by decide
  refine va_newaK hC.x hC.b (by rw [hty]; exact hC.w _ hW) rfl hd rfl (nI_pos (by omega)) (nI_clamp (by omega)) hbytes (by omega) (by omega) hr.1.1 fun H1 cA e1 z1 o1 hA hF => ?_
  have hcA : cA = Γ.2.1 t := by
    have hR : va_RA s (Γ.2.1 t) (mm_aty t) := by
      match t, ht with
      | 0, _ => exact (hC.k.1.2 0 _ rfl).2
      | 1, _ => exact (hC.k.1.2 1 _ rfl).2
      | 2, _ => exact (hC.k.1.2 2 _ rfl).2
      | n + 3, h => exact absurd h (by omega)
    rw [hty] at hF
    match t, ht, hR, hF with
    | 0, _, hR, hF => exact Option.some.inj (hF.symm.trans hR)
    | 1, _, hR, hF => exact Option.some.inj (hF.symm.trans hR)
    | 2, _, hR, hF => exact Option.some.inj (hF.symm.trans hR)
    | n + 3, h, _, _ => exact absurd h (by omega)
  subst hcA
  refine kk p e R s m args below meth c u0 hC H1 locs (cells + 1) (slots + N) la (hr.new hm hs ?_ z1 o1) hl hq (by show h.1 + 1 = _; omega) (by show h.2.1 + N = _; omega)
  show H1[h.1]? = some (vp_cell _ _)
  rw [hx, e1, hty]
/-- a new array of sheets -/
theorem mm_anew {idx N : Nat} {i : Int32} (hd : decode M.2.1 pc = .ok (.anewarray idx, 3)) (hL : Cond.classLink M.1.cls idx "CutSheets$Sheet" ∈ mm_T) (hO : Cond.arrayOver (.object "CutSheets$Sheet") ∈ mm_T) (hi : i = nI N) (hN : N < 1000000) (hm : h.1 + 1 ≤ mm_Cm Γ) (hs : h.2.1 + N ≤ mm_Sm Γ) (kk : mm_W Γ l M d D (pc + 3) ls (.ref h.1 :: st) (mm_add h N (.inl (3, N, .inr (.inr (.inr (.inr (fun _ => none)))))))) : mm_W Γ l M d D pc ls (.int i :: st) h := by
  intro p e R s m args below meth c u0 hC H locs cells slots la hr hl hq h1 h2
  subst hi
  obtain ⟨hB, hCm, hSm, -⟩ := hC.rm
  have hcl : (nI N).toNatClampNeg = N := nI_clamp (by omega)
  refine W.anew hC.x hC.b hC.own (hC.w _ hL) (hC.w _ hO) rfl hd rfl (nI_pos (by omega)) (by rw [hcl]; omega) (by omega) (by rw [hcl]; omega) fun cA kA comp f1 f2 f3 f4 => ?_
  obtain ⟨kA', comp', k1, k2, k3, k4⟩ := (hC.k.1.2 3 _ rfl).2
  have hcA : cA = Γ.2.1 3 := Option.some.inj (f1.symm.trans k4)
  subst hcA
  rw [hcl, hr.1.1]
  refine kk p e R s m args below meth c u0 hC _ locs (cells + 1) (slots + N) la (hr.new hm hs ?_ ?_ ?_) hl hq (by show h.1 + 1 = _; omega) (by show h.2.1 + N = _; omega)
  · show _ = some (vp_cell _ _)
    rw [vp_cell_q]
    show _ = some (arrV _ _ (fun _ => Value.null))
    rw [← arrV_new, ← hr.1.1]
    simp
  · simp [hr.1.1]
  · intro q hq
    rw [Array.getElem?_push, if_neg (by rw [hr.1.1]; omega)]
theorem mm_objInit {idx a : Nat} (hd : decode M.2.1 pc = .ok (.invokespecial idx, 3)) (hL : Cond.methodLink M.1.cls idx Lib.objectInit ∈ mm_T) (hI : Cond.instanceMethod Lib.objectInit ∈ mm_T) (hc : Cond.code Lib.objectInit ⟨#[0xb1]⟩ 1 none ∈ mm_T) (hw : (st.map fun v => v.category).sum ≤ 60) (kk : mm_W Γ l M d D (pc + 3) ls st h) : mm_W Γ l M d D pc ls (.ref a :: st) h := by
  intro p e R s m args below meth c u0 hC H locs cells slots la hr hl hq h1 h2
  obtain ⟨hB, hCm, hSm, hfr, hlo, -⟩ := hC.rm
  exact W.objInit hC.x hC.b hC.own (hC.w _ hL) (hC.w _ hI) (hC.w _ hc) rfl (by show la.size = _; rw [hC.ml]; exact hl.1) rfl hd (by omega) (by show 2 * 0 + _ + 12 ≤ _; omega) (kk p e R s m args below meth c u0 hC H locs cells slots la hr hl hq h1 h2)
end MMR
end
section
/-! System.arraycopy, throws, exceptions under way. -/
section MMcopy
variable {Γ : mm_G} {l : Launch} {M : mm_M} {d : Nat} {D : mm_D} {pc : Nat} {ls : mm_L} {st : List Value} {h : mm_H}
set_option maxHeartbeats 1000000 in
theorem mm_copyi {idx a0 a n0 n1 N : Nat} {f g : Nat → Int32} (hd : decode M.2.1 pc = .ok (.invokestatic idx, 3)) (hL : Cond.methodLink M.1.cls idx arraycopyName ∈ mm_T) (hnat : Cond.native arraycopyName ∈ mm_T) (hsta : Cond.static arraycopyName ∈ mm_T) (hini : Cond.initialized "java/lang/System" ∈ mm_T)
    (ha0 : h.2.2 a0 = some (.inl (0, n0, .inl f))) (ha1 : h.2.2 a = some (.inl (0, n1, .inl g))) {n : Int32} (hn : n = nI N) (hN : N < 2 ^ 31) (h4 : N ≤ n0) (h5 : N ≤ n1) (hwt : (st.map fun v => v.category).sum + (nativeFrameWords "java/lang/System" "arraycopy" 5 + 11) ≤ 400)
    (kk : mm_W Γ l M d D (pc + 3) ls st (mm_up h a (.inl (0, n1, .inl (va_cpy f g 0 0 N))))) : mm_W Γ l M d D pc ls (.int n :: .int 0 :: .ref a :: .int 0 :: .ref a0 :: st) h := by
  intro p e R s m args below meth c u0 hC H locs cells slots la hr hl hq z1 z2 T hT X
  subst hn
  obtain ⟨hB, hCm, hSm, hfr, hlo, -⟩ := hC.rm
  have hcl : (nI N).toNatClampNeg = N := nI_clamp hN
  have hc0 : H[a0]? = some (vp_cell (Γ.2.1 0) (n0, .inl f)) := (hr.2.1 a0 _ ha0).2
  have hc1 : H[a]? = some (vp_cell (Γ.2.1 0) (n1, .inl g)) := (hr.2.1 a _ ha1).2
  have hA : ArrOfT s (Γ.2.1 0) .int := mm_arr hC.k 0 (by decide)
  obtain ⟨-, k0, hk0, cm0, hkk0⟩ := hA n0 (fun j => .int (f j))
  obtain ⟨-, k1, hk1, cm1, hkk1⟩ := hA n1 (fun j => .int (g j))
  have i0 : (0 : Int32).toInt = 0 := by decide
  have iN : (nI N).toInt = (N : Int) := nI_toInt hN
  obtain ⟨vm', X', step⟩ := X.arraycopy hC.x hC.own (hC.w _ hL) (hC.w _ hnat) (hC.w _ hsta) (hC.w _ hini) (src := a0) (dst := a) (cs := vp_cell (Γ.2.1 0) (n0, .inl f)) (cd := vp_cell (Γ.2.1 0) (n1, .inl g)) (srcPos := 0) (destPos := 0) (n := nI N) (by rw [hT]; exact hc0) (by rw [hT]; exact hc1)
    (fun _ h => by cases h) (fun _ h => by cases h) (fun h => by cases h) (fun h => by cases h) hk0 hk1 hkk0 hkk1 (by simp [refKind]) (by decide) (by decide) (nI_pos hN)
    (by rw [i0, iN]; show ¬ _ > ((arrV _ n0 (fun j => .int (f j))).slots.size : Int); rw [arrV_size]; omega)
    (by rw [i0, iN]; show ¬ _ > ((arrV _ n1 (fun j => .int (g j))).slots.size : Int); rw [arrV_size]; omega)
    (fun vm₁ _ i hi => by
      rw [hcl] at hi
      have e : (vp_cell (Γ.2.1 0) (n0, .inl f)).slots.getD ((0 : Int32).toNatClampNeg + i) .null = .int (f ((0 : Int32).toNatClampNeg + i)) := by
        show (arrV _ n0 (fun j => .int (f j))).slots.getD _ _ = _
        have hz : (0 : Int32).toNatClampNeg = 0 := by decide
        rw [hz, Array.getD_eq_getD_getElem?, arrV_read _ _ (by omega)]
        rfl
      refine ⟨?_, ?_⟩
      · rw [e]
        rfl
      · rw [e]
        exact trivial)
    (g := F0 m pc la (.int (nI N) :: .int 0 :: .ref a :: .int 0 :: .ref a0 :: st)) rfl (by show la.size = _; rw [hC.ml]; exact hl.1) (rest := st) rfl (by rw [hC.b]; exact hd) (by omega) (by show 2 * 0 + _ + _ ≤ _; omega)
  have hz0 : (0 : Int32).toNatClampNeg = 0 := by decide
  have e1 : copied (vp_cell (Γ.2.1 0) (n0, .inl f)) (vp_cell (Γ.2.1 0) (n1, .inl g)) 0 0 (nI N) = vp_cell (Γ.2.1 0) (n1, .inl (va_cpy f g 0 0 N)) := by
    have h9 := va_copied (fun z => Value.int z) (Γ.2.1 0) (Γ.2.1 0) (n0 := n0) (n1 := n1) (sp := 0) (dp := 0) (n := N) f g (by omega)
    show (arrV (Γ.2.1 0) n1 (fun j => .int (g j))).storeRun (0 : Int32).toNatClampNeg ((arrV (Γ.2.1 0) n0 (fun j => .int (f j))).stretch (0 : Int32).toNatClampNeg (nI N).toNatClampNeg) = _
    rw [hcl, hz0]
    exact h9
  rw [e1] at X' step
  have hla : a < H.size := (Array.getElem?_eq_some_iff.mp hc1).1
  have hheap : ((T.setVm vm').setCell a (vp_cell (Γ.2.1 0) (n1, .inl (va_cpy f g 0 0 N)))).heap = H.setIfInBounds a (vp_cell (Γ.2.1 0) (n1, .inl (va_cpy f g 0 0 N))) := by rw [← hT]; rfl
  have oq : ∀ q : Nat, q ≠ a → (H.setIfInBounds a (vp_cell (Γ.2.1 0) (n1, .inl (va_cpy f g 0 0 N))))[q]? = H[q]? := fun q hq => by simp [Array.getElem?_setIfInBounds, Ne.symm hq]
  obtain ⟨t, a1, b1⟩ := kk p e R s m args below meth c u0 hC _ _ cells slots la (hr.set ha1 (show (H.setIfInBounds a _)[a]? = some _ by simp [Array.getElem?_setIfInBounds, hla]) (by simp) oq) hl (fun q hh => by
      rcases List.mem_append.mp hh with hh | hh
      · exact hq q hh
      · obtain ⟨z, -, hz⟩ := List.mem_map.mp hh
        rw [← hz]
        exact (hr.2.1 a _ ha1).1) z1 z2 _ hheap X'
  exact ⟨t, step t a1, b1⟩
/-- an exception leaves a method with no handlers over this place -/
theorem mm_leave {k : Nat} (hout : ∀ x ∈ M.2.2.2.2, ¬ (x.1 ≤ pc ∧ pc < x.2.1)) (hD : D (.inr k) h) : mm_Th Γ l M d D pc ls k h := by
  intro p e R s m args below meth c u0 hC H locs cells slots la st x ce hr hl hq h1 h2 hx hxv hxc T hT X
  have ho : ∀ z ∈ c.exceptionTable.toList, covers z pc = false := by
    intro z hz
    have hm : (z.startPc, z.endPc, z.handlerPc, z.catchType) ∈ M.2.2.2.2 := by
      rw [← hC.tab]
      exact List.mem_map.mpr ⟨z, hz, rfl⟩
    have := hout _ hm
    simp only [covers]
    simp only [Bool.and_eq_false_iff, decide_eq_false_iff_not]
    by_cases h9 : z.startPc ≤ pc
    · exact Or.inr fun h8 => this ⟨h9, h8⟩
    · exact Or.inl h9
  obtain ⟨st1, hrun, hend, hW, hsm⟩ := X.leaveThrown x (g := F0 m pc la st) rfl rfl rfl ho hC.lk
  refine ⟨_, st1, .threw x, .inr k, h, locs, cells, slots, hrun, hend, ⟨x, ce, rfl, ?_, hxv, hxc⟩, hD, ?_, hW, hsm, hq, h1, h2⟩
  · show T.heap[x]? = some ce
    rw [hT]; exact hx
  · show mm_R Γ _ h T.heap
    rw [hT]; exact hr.moved hW.alike
end MMcopy
section MMthrow
variable {Γ : mm_G} {l : Launch} {M : mm_M} {d : Nat} {D : mm_D} {pc : Nat} {ls : mm_L} {st : List Value} {h : mm_H}
/-- the words of 'throw new E()' at a place of a method -/
def mm_TW (own : String) (ik ic k : Nat) (names : List String) : Prop := Bundle.fit (mm_exc k) = true ∧ (∀ n ∈ names, Bundle.fit n = true) ∧ names.length ≤ 8 ∧ Cond.classLink own ik (mm_exc k) ∈ mm_T ∧ Cond.initialized (mm_exc k) ∈ mm_T ∧ ∀ w ∈ vx_at0 own ic (mm_exc k) names, w ∈ mm_T
set_option maxHeartbeats 1000000 in
theorem mm_throw {ik ic k : Nat} {names : List String} (d0 : decode M.2.1 pc = .ok (.new ik, 3)) (d3 : decode M.2.1 (pc + 3) = .ok (.dup, 1)) (d4 : decode M.2.1 (pc + 4) = .ok (.invokespecial ic, 3)) (d7 : decode M.2.1 (pc + 7) = .ok (.athrow, 1)) (hT : mm_TW M.1.cls ik ic k names)
    (hout : M.2.2.2.2 = []) (hwt : (st.map fun v => v.category).sum ≤ 100) (hm : h.1 + 1 ≤ mm_Cm Γ) (hs : h.2.1 + 6 ≤ mm_Sm Γ) (hD : D (.inr k) (mm_exn h)) : mm_W Γ l M d D pc ls st h := by
  intro p e R s m args below meth c u0 hC H locs cells slots la hr hl hq h1 h2
  obtain ⟨t1, t2, t3, t4, t5, t6⟩ := hT
  obtain ⟨hB, hCm, hSm, hfr, hlo, htr⟩ := hC.rm
  have hsz := hr.1.1
  have hemp : c.exceptionTable.toList = [] := by
    have := hC.tab
    rw [hout] at this
    exact List.map_eq_nil_iff.mp this
  intro T hT X
  have htr' : e.platform.stackTraces = false := (show e.platform.stackTraces = l.stackTraces by rw [X.admits.platform]).trans htr
  have Y := vx_rebase X (R' := { frames := R.frames, locals := R.locals, cells := 1, slots := 6 }) (Nat.le_refl _) (Nat.le_refl _) (by show cells + 1 ≤ R.cells; omega) (by show slots + 6 ≤ R.slots; omega)
  obtain ⟨s', hA⟩ : ∃ z, z = (T.setVm s.vm).setFrames (.invoking m args :: below) := ⟨_, rfl⟩
  rw [← hA] at Y
  have hvm : s'.vm = s.vm := by rw [hA]; rfl
  have hhp : s'.heap = H := by rw [hA]; exact hT
  have hW0 : s.WarmedH s'.vm := by rw [hvm]; exact State.WarmedH.refl s
  have mv : ∀ w ∈ mm_T, w.before args s' = true := fun w hw => word_at hW0 (good_of_word (mm_T.good hw)) (hC.w w hw)
  have hU' : vx_Zq Bundle.tN "UNASSIGNED_STACK" Bundle.steD (fun q => mm_B Γ ≤ q) s' s'.heap := by rw [hhp]; exact vx_Zq.moved hW0.alike hr.2.2.2.1
  have hN' : vx_Zq Bundle.tN "SUPPRESSED_SENTINEL" Bundle.listD (fun q => mm_B Γ ≤ q) s' s'.heap := by rw [hhp]; exact vx_Zq.moved hW0.alike hr.2.2.2.2
  have hat : ∀ w ∈ Bundle.ownAtoms0 M.1.cls ic (mm_exc k) names, w.before args s' = true := vx_own (fun w hw => mv w (t6 w hw)) (vx_isRefq hU'.1) (vx_isRefq hN'.1) hU'.2.word hN'.2.word
  have hown' : s'.vm.findClass M.1.cls = some m.cls := by rw [hvm]; exact hC.own
  have hins : (Cond.instantiable (mm_exc k) 6).before args s' = true := hat _ (by simp [Bundle.ownAtoms0])
  obtain ⟨vm₁, cX, kX, hfX, hkX, -, -, X₁, st1⟩ := Y.newCold hC.x (own := M.1.cls) (C := mm_exc k) (index := ik) (n := 6) hown' (mv _ t4) hins (mv _ t5)
    (g := F0 m pc la st) rfl (by rw [hC.b]; exact d0) (Nat.le_refl _) (Nat.le_refl _)
  generalize hT1 : (T.setVm vm₁).pushCell { cls := cX, slots := kX.instanceTypes.map defaultValue, vm := .none } = T1 at X₁ st1
  have hcat : (Value.ref T.heap.size).category = 1 := rfl
  have hcellA : T1.heap[T.heap.size]? = some (freshCell cX kX) := by rw [← hT1]; exact State.heap_pushCell_size _ _
  have d3' : decode c.code (pc + 3) = .ok (.dup, 1) := by rw [hC.b]; exact d3
  obtain ⟨U, hsteps, hrun, hend, hW, hsame, ce, hce, hO⟩ := X₁.ctorThrow0 hC.x htr' (own := M.1.cls) (cls := mm_exc k) (names := names) (ic := ic) hown' t1 t2 hat (fun x hx => nomatch hx) hfX hkX hcellA (by rw [hhp, hT]; exact Nat.le_refl _)
    (g := { method := m, pc := pc + 4, locals := la, stack := .ref T.heap.size :: .ref T.heap.size :: st, locked := none }) rfl (by show la.size = _; rw [hC.ml]; exact hl.1) rfl rfl (rest := st) rfl
    (by rw [hC.b]; exact d4) (by rw [hC.b]; exact d7) (by rw [hemp]; exact fun x hx => nomatch hx) (by show names.length + 3 < R.frames; omega) (by show 2 * 0 + _ + _ ≤ R.locals; simp only [List.map_cons, List.sum_cons, hcat]; omega) hC.lk
  obtain ⟨f1, f2⟩ := vx_frame hsame
  rw [hhp] at f1 f2
  have hWs : s.WarmedH U.vm := State.WarmedH.trans hW0 hW
  have hcl : s.vm.findClass (mm_exc k) = some ce.cls := by
    have h9 := hO.cls
    rw [hvm] at h9
    exact h9
  have hall : s.sameButNew ({ U with vm := s.vm } : State) locs (cells + 1) (slots + 6) := by
    subst hA
    obtain ⟨e1, e2⟩ := hsame
    rw [State.setFrames_setFrames] at e1
    have h2 : (T.setVm s.vm).sameButNew ({ U with vm := s.vm } : State) [] (0 + 1) (0 + 6) := ⟨e1, e2⟩
    have h3 := X.same.trans h2
    rw [List.append_nil] at h3
    exact h3.mono (by omega) (by omega)
  have hlt : T.heap.size < U.heap.size := (Array.getElem?_eq_some_iff.mp hce).1
  have hle : U.heap.size ≤ s.heap.size + (cells + 1) := hall.2.2.1
  have hTs : T.heap.size = h.1 := by rw [hT]; exact hsz
  refine ⟨U, ?_, .threw T.heap.size, .inr k, mm_exn h, locs, cells + 1, slots + 6, hrun, hend, ⟨_, ce, rfl, hce, hO.vm, hcl⟩, hD, ?_, hWs, hall, hq, by show h.1 + 1 = _; omega, by show h.2.1 + 6 = _; omega⟩
  · refine st1 _ ?_
    show Steps p.tables e below (T1.setTop { method := m, pc := pc + 3, locals := la, stack := .ref T.heap.size :: st, locked := none }) _
    jvm_step X₁.here [X₁.here.top, hC.x, d3', Value.category]
    exact hsteps
  · exact (hr.moved hWs.alike).exn hm hs (by omega) (fun b hb => f2 b hb (fun z hz => nomatch hz))
end MMthrow
section MMcatch
variable {Γ : mm_G} {l : Launch} {M : mm_M} {d : Nat} {D : mm_D} {pc : Nat} {ls : mm_L} {h : mm_H}
/-- caught by a handler of this method; the rows ahead don't take it -/
theorem mm_catch {k j s0 e0 hp ct : Nat} {pre suf : List (Nat × Nat × Nat × Nat)} (htab : M.2.2.2.2 = pre ++ (s0, e0, hp, ct) :: suf) (hpass : ∀ z ∈ pre, z.2.2.2 ≠ 0 ∧ ∃ i, Cond.classLink M.1.cls z.2.2.2 (mm_exc i) ∈ mm_T ∧ (k, i) ∈ mm_NC) (hin : s0 ≤ pc ∧ pc < e0) (h0 : ct ≠ 0)
    (hlink : Cond.classLink M.1.cls ct (mm_exc j) ∈ mm_T) (hcast : Cond.castable (mm_exc k) (mm_exc j) ∈ mm_T) (kk : ∀ x : Addr, mm_W Γ l M d D hp ls [.ref x] h) : mm_Th Γ l M d D pc ls k h := by
  intro p e R s m args below meth c u0 hC H locs cells slots la st x ce hr hl hq h1 h2 hx hxv hxc
  have ht := hC.tab
  rw [htab] at ht
  obtain ⟨pr, sf, e1, e2, e3⟩ := List.map_eq_append_iff.mp ht
  obtain ⟨y, su, e4, e5, e6⟩ := List.map_eq_cons_iff.mp e3
  subst e4
  cases e5
  refine vx_catch (own := M.1.cls) (name := mm_exc j) (E := mm_exc k) (ce := ce) hC.own pr y su e1 (fun z hz => ?_) ?_ h0 (hC.w _ hlink) (hC.w _ hcast) hx hxv hxc (kk x p e R s m args below meth c u0 hC H locs cells slots la hr hl hq h1 h2)
  · have hm : (z.startPc, z.endPc, z.handlerPc, z.catchType) ∈ pre := by
      rw [← e2]
      exact List.mem_map.mpr ⟨z, hz, rfl⟩
    obtain ⟨g0, i, g1, g2⟩ := hpass _ hm
    exact Or.inr ⟨g0, mm_exc i, hC.w _ g1, hC.k.2.2.2 _ g2⟩
  · simp only [covers, Bool.and_eq_true, decide_eq_true_eq]
    exact hin
end MMcatch
end
section
/-! plain rows and calls of a known arity, printed by wip/whole/gen_mm.py -/
theorem mm_iconst {Γ : mm_G} {l : Launch} {M : mm_M} {d : Nat} {D : mm_D} {pc : Nat} {ls : mm_L} {st : List Value} {h : mm_H} {n : Int} {v : Int32} (hd : decode M.2.1 pc = .ok (.iconst n, 1)) (hv : Int32.ofInt n = v) (k : mm_W Γ l M d D (pc + 1) ls (.int v :: st) h) : mm_W Γ l M d D (pc) ls (st) h :=
  fun p e R s m args below meth c u0 hC H locs cells slots la hr hl hq h1 h2 => lv_iconst hC.x hC.b hd hv (k p e R s m args below meth c u0 hC H locs cells slots la hr hl hq h1 h2)
theorem mm_bipush {Γ : mm_G} {l : Launch} {M : mm_M} {d : Nat} {D : mm_D} {pc : Nat} {ls : mm_L} {st : List Value} {h : mm_H} {n : Int} {v : Int32} (hd : decode M.2.1 pc = .ok (.bipush n, 2)) (hv : (Int8.ofInt n).toInt32 = v) (k : mm_W Γ l M d D (pc + 2) ls (.int v :: st) h) : mm_W Γ l M d D (pc) ls (st) h :=
  fun p e R s m args below meth c u0 hC H locs cells slots la hr hl hq h1 h2 => lv_bipush hC.x hC.b hd hv (k p e R s m args below meth c u0 hC H locs cells slots la hr hl hq h1 h2)
theorem mm_sipush {Γ : mm_G} {l : Launch} {M : mm_M} {d : Nat} {D : mm_D} {pc : Nat} {ls : mm_L} {st : List Value} {h : mm_H} {n : Int} {v : Int32} (hd : decode M.2.1 pc = .ok (.sipush n, 3)) (hv : (Int16.ofInt n).toInt32 = v) (k : mm_W Γ l M d D (pc + 3) ls (.int v :: st) h) : mm_W Γ l M d D (pc) ls (st) h :=
  fun p e R s m args below meth c u0 hC H locs cells slots la hr hl hq h1 h2 => lv_sipush hC.x hC.b hd hv (k p e R s m args below meth c u0 hC H locs cells slots la hr hl hq h1 h2)
theorem mm_lconst {Γ : mm_G} {l : Launch} {M : mm_M} {d : Nat} {D : mm_D} {pc : Nat} {ls : mm_L} {st : List Value} {h : mm_H} {n : Fin 2} {v : Int64} (hd : decode M.2.1 pc = .ok (.lconst n, 1)) (hv : Int64.ofNat (n : Nat) = v) (k : mm_W Γ l M d D (pc + 1) ls (.long v :: st) h) : mm_W Γ l M d D (pc) ls (st) h :=
  fun p e R s m args below meth c u0 hC H locs cells slots la hr hl hq h1 h2 => lv_lconst hC.x hC.b hd hv (k p e R s m args below meth c u0 hC H locs cells slots la hr hl hq h1 h2)
theorem mm_null {Γ : mm_G} {l : Launch} {M : mm_M} {d : Nat} {D : mm_D} {pc : Nat} {ls : mm_L} {st : List Value} {h : mm_H}  (hd : decode M.2.1 pc = .ok (.aconst_null, 1))  (k : mm_W Γ l M d D (pc + 1) ls (.null :: st) h) : mm_W Γ l M d D (pc) ls (st) h :=
  fun p e R s m args below meth c u0 hC H locs cells slots la hr hl hq h1 h2 => lv_null hC.x hC.b hd  (k p e R s m args below meth c u0 hC H locs cells slots la hr hl hq h1 h2)
theorem mm_ineg {Γ : mm_G} {l : Launch} {M : mm_M} {d : Nat} {D : mm_D} {pc : Nat} {ls : mm_L} {st : List Value} {h : mm_H} {x : Int32} (hd : decode M.2.1 pc = .ok (.ineg, 1))  (k : mm_W Γ l M d D (pc + 1) ls (.int (-x) :: st) h) : mm_W Γ l M d D (pc) ls (.int x :: st) h :=
  fun p e R s m args below meth c u0 hC H locs cells slots la hr hl hq h1 h2 => lv_ineg hC.x hC.b hd  (k p e R s m args below meth c u0 hC H locs cells slots la hr hl hq h1 h2)
theorem mm_i2l {Γ : mm_G} {l : Launch} {M : mm_M} {d : Nat} {D : mm_D} {pc : Nat} {ls : mm_L} {st : List Value} {h : mm_H} {x : Int32} (hd : decode M.2.1 pc = .ok (.i2l, 1))  (k : mm_W Γ l M d D (pc + 1) ls (.long x.toInt64 :: st) h) : mm_W Γ l M d D (pc) ls (.int x :: st) h :=
  fun p e R s m args below meth c u0 hC H locs cells slots la hr hl hq h1 h2 => lv_i2l hC.x hC.b hd rfl (k p e R s m args below meth c u0 hC H locs cells slots la hr hl hq h1 h2)
theorem mm_l2i {Γ : mm_G} {l : Launch} {M : mm_M} {d : Nat} {D : mm_D} {pc : Nat} {ls : mm_L} {st : List Value} {h : mm_H} {x : Int64} (hd : decode M.2.1 pc = .ok (.l2i, 1))  (k : mm_W Γ l M d D (pc + 1) ls (.int x.toInt32 :: st) h) : mm_W Γ l M d D (pc) ls (.long x :: st) h :=
  fun p e R s m args below meth c u0 hC H locs cells slots la hr hl hq h1 h2 => lv_l2i hC.x hC.b hd rfl (k p e R s m args below meth c u0 hC H locs cells slots la hr hl hq h1 h2)
theorem mm_lcmp {Γ : mm_G} {l : Launch} {M : mm_M} {d : Nat} {D : mm_D} {pc : Nat} {ls : mm_L} {st : List Value} {h : mm_H} {x y : Int64} (hd : decode M.2.1 pc = .ok (.lcmp, 1))  (k : mm_W Γ l M d D (pc + 1) ls (.int (lg_cmp x y) :: st) h) : mm_W Γ l M d D (pc) ls (.long y :: .long x :: st) h :=
  fun p e R s m args below meth c u0 hC H locs cells slots la hr hl hq h1 h2 => W.lcmp hC.x hC.b hd  (k p e R s m args below meth c u0 hC H locs cells slots la hr hl hq h1 h2)
theorem mm_iushr {Γ : mm_G} {l : Launch} {M : mm_M} {d : Nat} {D : mm_D} {pc : Nat} {ls : mm_L} {st : List Value} {h : mm_H} {x y : Int32} (hd : decode M.2.1 pc = .ok (.iushr, 1))  (k : mm_W Γ l M d D (pc + 1) ls (.int ((x.toUInt32 >>> (y.toUInt32 &&& Int32.toUInt32 31)).toInt32) :: st) h) : mm_W Γ l M d D (pc) ls (.int y :: .int x :: st) h :=
  fun p e R s m args below meth c u0 hC H locs cells slots la hr hl hq h1 h2 => lv_iushr hC.x hC.b hd rfl (k p e R s m args below meth c u0 hC H locs cells slots la hr hl hq h1 h2)
theorem mm_dup {Γ : mm_G} {l : Launch} {M : mm_M} {d : Nat} {D : mm_D} {pc : Nat} {ls : mm_L} {st : List Value} {h : mm_H} {va : Value} (hd : decode M.2.1 pc = .ok (.dup, 1)) (hva : va.category = 1) (k : mm_W Γ l M d D (pc + 1) ls (va :: va :: st) h) : mm_W Γ l M d D (pc) ls (va :: st) h :=
  fun p e R s m args below meth c u0 hC H locs cells slots la hr hl hq h1 h2 => lv_dup hC.x hC.b hd hva (k p e R s m args below meth c u0 hC H locs cells slots la hr hl hq h1 h2)
theorem mm_pop {Γ : mm_G} {l : Launch} {M : mm_M} {d : Nat} {D : mm_D} {pc : Nat} {ls : mm_L} {st : List Value} {h : mm_H} {va : Value} (hd : decode M.2.1 pc = .ok (.pop, 1)) (hva : va.category = 1) (k : mm_W Γ l M d D (pc + 1) ls (st) h) : mm_W Γ l M d D (pc) ls (va :: st) h :=
  fun p e R s m args below meth c u0 hC H locs cells slots la hr hl hq h1 h2 => lv_pop hC.x hC.b hd hva (k p e R s m args below meth c u0 hC H locs cells slots la hr hl hq h1 h2)
theorem mm_dup_x1 {Γ : mm_G} {l : Launch} {M : mm_M} {d : Nat} {D : mm_D} {pc : Nat} {ls : mm_L} {st : List Value} {h : mm_H} {va vb : Value} (hd : decode M.2.1 pc = .ok (.dup_x1, 1)) (hva : va.category = 1) (hvb : vb.category = 1) (k : mm_W Γ l M d D (pc + 1) ls (va :: vb :: va :: st) h) : mm_W Γ l M d D (pc) ls (va :: vb :: st) h :=
  fun p e R s m args below meth c u0 hC H locs cells slots la hr hl hq h1 h2 => lv_dup_x1 hC.x hC.b hd hva hvb (k p e R s m args below meth c u0 hC H locs cells slots la hr hl hq h1 h2)
theorem mm_dup_x2 {Γ : mm_G} {l : Launch} {M : mm_M} {d : Nat} {D : mm_D} {pc : Nat} {ls : mm_L} {st : List Value} {h : mm_H} {va vb vd : Value} (hd : decode M.2.1 pc = .ok (.dup_x2, 1)) (hva : va.category = 1) (hvb : vb.category = 1) (hvd : vd.category = 1) (k : mm_W Γ l M d D (pc + 1) ls (va :: vb :: vd :: va :: st) h) : mm_W Γ l M d D (pc) ls (va :: vb :: vd :: st) h :=
  fun p e R s m args below meth c u0 hC H locs cells slots la hr hl hq h1 h2 => lv_dup_x2 hC.x hC.b hd hva hvb hvd (k p e R s m args below meth c u0 hC H locs cells slots la hr hl hq h1 h2)
theorem mm_dup2 {Γ : mm_G} {l : Launch} {M : mm_M} {d : Nat} {D : mm_D} {pc : Nat} {ls : mm_L} {st : List Value} {h : mm_H} {va vb : Value} (hd : decode M.2.1 pc = .ok (.dup2, 1)) (hva : va.category = 1) (hvb : vb.category = 1) (k : mm_W Γ l M d D (pc + 1) ls (va :: vb :: va :: vb :: st) h) : mm_W Γ l M d D (pc) ls (va :: vb :: st) h :=
  fun p e R s m args below meth c u0 hC H locs cells slots la hr hl hq h1 h2 => lv_dup2_11 hC.x hC.b hd hva hvb (k p e R s m args below meth c u0 hC H locs cells slots la hr hl hq h1 h2)
theorem mm_iadd {Γ : mm_G} {l : Launch} {M : mm_M} {d : Nat} {D : mm_D} {pc : Nat} {ls : mm_L} {st : List Value} {h : mm_H} {x y : Int32} (hd : decode M.2.1 pc = .ok (.iadd, 1))  (k : mm_W Γ l M d D (pc + 1) ls (.int (x + y) :: st) h) : mm_W Γ l M d D (pc) ls (.int y :: .int x :: st) h :=
  fun p e R s m args below meth c u0 hC H locs cells slots la hr hl hq h1 h2 => lv_iadd hC.x hC.b hd  (k p e R s m args below meth c u0 hC H locs cells slots la hr hl hq h1 h2)
theorem mm_isub {Γ : mm_G} {l : Launch} {M : mm_M} {d : Nat} {D : mm_D} {pc : Nat} {ls : mm_L} {st : List Value} {h : mm_H} {x y : Int32} (hd : decode M.2.1 pc = .ok (.isub, 1))  (k : mm_W Γ l M d D (pc + 1) ls (.int (x - y) :: st) h) : mm_W Γ l M d D (pc) ls (.int y :: .int x :: st) h :=
  fun p e R s m args below meth c u0 hC H locs cells slots la hr hl hq h1 h2 => lv_isub hC.x hC.b hd  (k p e R s m args below meth c u0 hC H locs cells slots la hr hl hq h1 h2)
theorem mm_imul {Γ : mm_G} {l : Launch} {M : mm_M} {d : Nat} {D : mm_D} {pc : Nat} {ls : mm_L} {st : List Value} {h : mm_H} {x y : Int32} (hd : decode M.2.1 pc = .ok (.imul, 1))  (k : mm_W Γ l M d D (pc + 1) ls (.int (x * y) :: st) h) : mm_W Γ l M d D (pc) ls (.int y :: .int x :: st) h :=
  fun p e R s m args below meth c u0 hC H locs cells slots la hr hl hq h1 h2 => lv_imul hC.x hC.b hd  (k p e R s m args below meth c u0 hC H locs cells slots la hr hl hq h1 h2)
theorem mm_iand {Γ : mm_G} {l : Launch} {M : mm_M} {d : Nat} {D : mm_D} {pc : Nat} {ls : mm_L} {st : List Value} {h : mm_H} {x y : Int32} (hd : decode M.2.1 pc = .ok (.iand, 1))  (k : mm_W Γ l M d D (pc + 1) ls (.int (x &&& y) :: st) h) : mm_W Γ l M d D (pc) ls (.int y :: .int x :: st) h :=
  fun p e R s m args below meth c u0 hC H locs cells slots la hr hl hq h1 h2 => lv_iand hC.x hC.b hd  (k p e R s m args below meth c u0 hC H locs cells slots la hr hl hq h1 h2)
theorem mm_ior {Γ : mm_G} {l : Launch} {M : mm_M} {d : Nat} {D : mm_D} {pc : Nat} {ls : mm_L} {st : List Value} {h : mm_H} {x y : Int32} (hd : decode M.2.1 pc = .ok (.ior, 1))  (k : mm_W Γ l M d D (pc + 1) ls (.int (x ||| y) :: st) h) : mm_W Γ l M d D (pc) ls (.int y :: .int x :: st) h :=
  fun p e R s m args below meth c u0 hC H locs cells slots la hr hl hq h1 h2 => lv_ior hC.x hC.b hd  (k p e R s m args below meth c u0 hC H locs cells slots la hr hl hq h1 h2)
theorem mm_ixor {Γ : mm_G} {l : Launch} {M : mm_M} {d : Nat} {D : mm_D} {pc : Nat} {ls : mm_L} {st : List Value} {h : mm_H} {x y : Int32} (hd : decode M.2.1 pc = .ok (.ixor, 1))  (k : mm_W Γ l M d D (pc + 1) ls (.int (x ^^^ y) :: st) h) : mm_W Γ l M d D (pc) ls (.int y :: .int x :: st) h :=
  fun p e R s m args below meth c u0 hC H locs cells slots la hr hl hq h1 h2 => lv_ixor hC.x hC.b hd  (k p e R s m args below meth c u0 hC H locs cells slots la hr hl hq h1 h2)
theorem mm_ishl {Γ : mm_G} {l : Launch} {M : mm_M} {d : Nat} {D : mm_D} {pc : Nat} {ls : mm_L} {st : List Value} {h : mm_H} {x y : Int32} (hd : decode M.2.1 pc = .ok (.ishl, 1))  (k : mm_W Γ l M d D (pc + 1) ls (.int (x <<< (y &&& 31)) :: st) h) : mm_W Γ l M d D (pc) ls (.int y :: .int x :: st) h :=
  fun p e R s m args below meth c u0 hC H locs cells slots la hr hl hq h1 h2 => lv_ishl hC.x hC.b hd  (k p e R s m args below meth c u0 hC H locs cells slots la hr hl hq h1 h2)
theorem mm_ishr {Γ : mm_G} {l : Launch} {M : mm_M} {d : Nat} {D : mm_D} {pc : Nat} {ls : mm_L} {st : List Value} {h : mm_H} {x y : Int32} (hd : decode M.2.1 pc = .ok (.ishr, 1))  (k : mm_W Γ l M d D (pc + 1) ls (.int (x >>> (y &&& 31)) :: st) h) : mm_W Γ l M d D (pc) ls (.int y :: .int x :: st) h :=
  fun p e R s m args below meth c u0 hC H locs cells slots la hr hl hq h1 h2 => lv_ishr hC.x hC.b hd  (k p e R s m args below meth c u0 hC H locs cells slots la hr hl hq h1 h2)
theorem mm_idiv {Γ : mm_G} {l : Launch} {M : mm_M} {d : Nat} {D : mm_D} {pc : Nat} {ls : mm_L} {st : List Value} {h : mm_H} {x y : Int32} (hd : decode M.2.1 pc = .ok (.idiv, 1)) (hne : ¬ y = 0) (k : mm_W Γ l M d D (pc + 1) ls (.int (x / y) :: st) h) : mm_W Γ l M d D (pc) ls (.int y :: .int x :: st) h :=
  fun p e R s m args below meth c u0 hC H locs cells slots la hr hl hq h1 h2 => lv_idiv hC.x hC.b hd hne (k p e R s m args below meth c u0 hC H locs cells slots la hr hl hq h1 h2)
theorem mm_irem {Γ : mm_G} {l : Launch} {M : mm_M} {d : Nat} {D : mm_D} {pc : Nat} {ls : mm_L} {st : List Value} {h : mm_H} {x y : Int32} (hd : decode M.2.1 pc = .ok (.irem, 1)) (hne : ¬ y = 0) (k : mm_W Γ l M d D (pc + 1) ls (.int (x - x / y * y) :: st) h) : mm_W Γ l M d D (pc) ls (.int y :: .int x :: st) h :=
  fun p e R s m args below meth c u0 hC H locs cells slots la hr hl hq h1 h2 => lv_irem hC.x hC.b hd hne (k p e R s m args below meth c u0 hC H locs cells slots la hr hl hq h1 h2)
theorem mm_iload_n {Γ : mm_G} {l : Launch} {M : mm_M} {d : Nat} {D : mm_D} {pc : Nat} {ls : mm_L} {st : List Value} {h : mm_H} {j : Fin 4} {i : Nat} {x : Int32} (hd : decode M.2.1 pc = .ok (.iload_n j, 1)) (hi : (j : Nat) = i) (hx : ls[i]? = some (some (.int x))) (k : mm_W Γ l M d D (pc + 1) ls (.int x :: st) h) : mm_W Γ l M d D (pc) ls (st) h :=
  fun p e R s m args below meth c u0 hC H locs cells slots la hr hl hq h1 h2 => lv_iload_n hC.x hC.b hd hi (hl.2.2 i _ hx).1 (k p e R s m args below meth c u0 hC H locs cells slots la hr hl hq h1 h2)
theorem mm_iload {Γ : mm_G} {l : Launch} {M : mm_M} {d : Nat} {D : mm_D} {pc : Nat} {ls : mm_L} {st : List Value} {h : mm_H} {i : Nat} {x : Int32} (hd : decode M.2.1 pc = .ok (.iload i, 2)) (hx : ls[i]? = some (some (.int x))) (k : mm_W Γ l M d D (pc + 2) ls (.int x :: st) h) : mm_W Γ l M d D (pc) ls (st) h :=
  fun p e R s m args below meth c u0 hC H locs cells slots la hr hl hq h1 h2 => lv_iload hC.x hC.b hd (hl.2.2 i _ hx).1 (k p e R s m args below meth c u0 hC H locs cells slots la hr hl hq h1 h2)
theorem mm_aload_n {Γ : mm_G} {l : Launch} {M : mm_M} {d : Nat} {D : mm_D} {pc : Nat} {ls : mm_L} {st : List Value} {h : mm_H} {j : Fin 4} {i : Nat} {x : Nat} (hd : decode M.2.1 pc = .ok (.aload_n j, 1)) (hi : (j : Nat) = i) (hx : ls[i]? = some (some (.ref x))) (k : mm_W Γ l M d D (pc + 1) ls (.ref x :: st) h) : mm_W Γ l M d D (pc) ls (st) h :=
  fun p e R s m args below meth c u0 hC H locs cells slots la hr hl hq h1 h2 => lv_aload_n hC.x hC.b hd hi (hl.2.2 i _ hx).1 (k p e R s m args below meth c u0 hC H locs cells slots la hr hl hq h1 h2)
theorem mm_aload {Γ : mm_G} {l : Launch} {M : mm_M} {d : Nat} {D : mm_D} {pc : Nat} {ls : mm_L} {st : List Value} {h : mm_H} {i : Nat} {x : Nat} (hd : decode M.2.1 pc = .ok (.aload i, 2)) (hx : ls[i]? = some (some (.ref x))) (k : mm_W Γ l M d D (pc + 2) ls (.ref x :: st) h) : mm_W Γ l M d D (pc) ls (st) h :=
  fun p e R s m args below meth c u0 hC H locs cells slots la hr hl hq h1 h2 => lv_aload hC.x hC.b hd (hl.2.2 i _ hx).1 (k p e R s m args below meth c u0 hC H locs cells slots la hr hl hq h1 h2)
theorem mm_istore_n {Γ : mm_G} {l : Launch} {M : mm_M} {d : Nat} {D : mm_D} {pc : Nat} {ls : mm_L} {st : List Value} {h : mm_H} {j : Fin 4} {i : Nat} {x : Int32} {ls' : mm_L} (hd : decode M.2.1 pc = .ok (.istore_n j, 1)) (hi : (j : Nat) = i) (hn : i < M.2.2.1) (hs : ls.set i (some (.int x)) = ls') (k : mm_W Γ l M d D (pc + 1) ls' (st) h) : mm_W Γ l M d D (pc) ls (.int x :: st) h :=
  fun p e R s m args below meth c u0 hC H locs cells slots la hr hl hq h1 h2 => lv_istore_n hC.x hC.b hd hi (mm_Lc.pairs hl) hn rfl (fun la' hl' => k p e R s m args below meth c u0 hC H locs cells slots la' hr (mm_Lc.put hl hl' rfl hs) hq h1 h2)
theorem mm_istore {Γ : mm_G} {l : Launch} {M : mm_M} {d : Nat} {D : mm_D} {pc : Nat} {ls : mm_L} {st : List Value} {h : mm_H} {i : Nat} {x : Int32} {ls' : mm_L} (hd : decode M.2.1 pc = .ok (.istore i, 2))  (hn : i < M.2.2.1) (hs : ls.set i (some (.int x)) = ls') (k : mm_W Γ l M d D (pc + 2) ls' (st) h) : mm_W Γ l M d D (pc) ls (.int x :: st) h :=
  fun p e R s m args below meth c u0 hC H locs cells slots la hr hl hq h1 h2 => lv_istore hC.x hC.b hd (mm_Lc.pairs hl) hn rfl (fun la' hl' => k p e R s m args below meth c u0 hC H locs cells slots la' hr (mm_Lc.put hl hl' rfl hs) hq h1 h2)
theorem mm_astore_n {Γ : mm_G} {l : Launch} {M : mm_M} {d : Nat} {D : mm_D} {pc : Nat} {ls : mm_L} {st : List Value} {h : mm_H} {j : Fin 4} {i : Nat} {x : Nat} {ls' : mm_L} (hd : decode M.2.1 pc = .ok (.astore_n j, 1)) (hi : (j : Nat) = i) (hn : i < M.2.2.1) (hs : ls.set i (some (.ref x)) = ls') (k : mm_W Γ l M d D (pc + 1) ls' (st) h) : mm_W Γ l M d D (pc) ls (.ref x :: st) h :=
  fun p e R s m args below meth c u0 hC H locs cells slots la hr hl hq h1 h2 => lv_astore_n hC.x hC.b hd hi (mm_Lc.pairs hl) hn rfl (fun la' hl' => k p e R s m args below meth c u0 hC H locs cells slots la' hr (mm_Lc.put hl hl' rfl hs) hq h1 h2)
theorem mm_astore {Γ : mm_G} {l : Launch} {M : mm_M} {d : Nat} {D : mm_D} {pc : Nat} {ls : mm_L} {st : List Value} {h : mm_H} {i : Nat} {x : Nat} {ls' : mm_L} (hd : decode M.2.1 pc = .ok (.astore i, 2))  (hn : i < M.2.2.1) (hs : ls.set i (some (.ref x)) = ls') (k : mm_W Γ l M d D (pc + 2) ls' (st) h) : mm_W Γ l M d D (pc) ls (.ref x :: st) h :=
  fun p e R s m args below meth c u0 hC H locs cells slots la hr hl hq h1 h2 => lv_astore hC.x hC.b hd (mm_Lc.pairs hl) hn rfl (fun la' hl' => k p e R s m args below meth c u0 hC H locs cells slots la' hr (mm_Lc.put hl hl' rfl hs) hq h1 h2)
theorem mm_iinc {Γ : mm_G} {l : Launch} {M : mm_M} {d : Nat} {D : mm_D} {pc : Nat} {ls : mm_L} {st : List Value} {h : mm_H} {i : Nat} {n : Int} {x v : Int32} {ls' : mm_L} (hd : decode M.2.1 pc = .ok (.iinc i n, 3)) (hn : i < M.2.2.1) (hx : ls[i]? = some (some (.int x))) (hv : x + Int32.ofInt n = v) (hs : ls.set i (some (.int v)) = ls') (k : mm_W Γ l M d D (pc + 3) ls' (st) h) : mm_W Γ l M d D (pc) ls (st) h :=
  fun p e R s m args below meth c u0 hC H locs cells slots la hr hl hq h1 h2 => (mm_Lc.at hl hx).elim (fun j hj => lv_iinc hC.x hC.b hd (mm_Lc.pairs hl) hj hv hn rfl (fun la' hl' => k p e R s m args below meth c u0 hC H locs cells slots la' hr (mm_Lc.put hl hl' rfl hs) hq h1 h2))
theorem mm_if_eq {Γ : mm_G} {l : Launch} {M : mm_M} {d : Nat} {D : mm_D} {pc : Nat} {ls : mm_L} {st : List Value} {h : mm_H} {x : Int32} {off : Int} {tgt : Nat} (hd : decode M.2.1 pc = .ok (.ifCond .eq off, 3)) (ht : (pc : Int) + off = (tgt : Int)) (kt : x = 0 → mm_W Γ l M d D (tgt) ls (st) h) (kf : ¬ x = 0 → mm_W Γ l M d D (pc + 3) ls (st) h) : mm_W Γ l M d D (pc) ls (.int x :: st) h :=
  fun p e R s m args below meth c u0 hC H locs cells slots la hr hl hq h1 h2 => lv_if_eq hC.x hC.b hd ht (fun q => kt q p e R s m args below meth c u0 hC H locs cells slots la hr hl hq h1 h2) (fun q => kf q p e R s m args below meth c u0 hC H locs cells slots la hr hl hq h1 h2)
theorem mm_icmp_eq {Γ : mm_G} {l : Launch} {M : mm_M} {d : Nat} {D : mm_D} {pc : Nat} {ls : mm_L} {st : List Value} {h : mm_H} {x y : Int32} {off : Int} {tgt : Nat} (hd : decode M.2.1 pc = .ok (.if_icmp .eq off, 3)) (ht : (pc : Int) + off = (tgt : Int)) (kt : x = y → mm_W Γ l M d D (tgt) ls (st) h) (kf : ¬ x = y → mm_W Γ l M d D (pc + 3) ls (st) h) : mm_W Γ l M d D (pc) ls (.int y :: .int x :: st) h :=
  fun p e R s m args below meth c u0 hC H locs cells slots la hr hl hq h1 h2 => lv_icmp_eq hC.x hC.b hd ht (fun q => kt q p e R s m args below meth c u0 hC H locs cells slots la hr hl hq h1 h2) (fun q => kf q p e R s m args below meth c u0 hC H locs cells slots la hr hl hq h1 h2)
theorem mm_if_ne {Γ : mm_G} {l : Launch} {M : mm_M} {d : Nat} {D : mm_D} {pc : Nat} {ls : mm_L} {st : List Value} {h : mm_H} {x : Int32} {off : Int} {tgt : Nat} (hd : decode M.2.1 pc = .ok (.ifCond .ne off, 3)) (ht : (pc : Int) + off = (tgt : Int)) (kt : ¬ x = 0 → mm_W Γ l M d D (tgt) ls (st) h) (kf : x = 0 → mm_W Γ l M d D (pc + 3) ls (st) h) : mm_W Γ l M d D (pc) ls (.int x :: st) h :=
  fun p e R s m args below meth c u0 hC H locs cells slots la hr hl hq h1 h2 => lv_if_ne hC.x hC.b hd ht (fun q => kt q p e R s m args below meth c u0 hC H locs cells slots la hr hl hq h1 h2) (fun q => kf q p e R s m args below meth c u0 hC H locs cells slots la hr hl hq h1 h2)
theorem mm_icmp_ne {Γ : mm_G} {l : Launch} {M : mm_M} {d : Nat} {D : mm_D} {pc : Nat} {ls : mm_L} {st : List Value} {h : mm_H} {x y : Int32} {off : Int} {tgt : Nat} (hd : decode M.2.1 pc = .ok (.if_icmp .ne off, 3)) (ht : (pc : Int) + off = (tgt : Int)) (kt : ¬ x = y → mm_W Γ l M d D (tgt) ls (st) h) (kf : x = y → mm_W Γ l M d D (pc + 3) ls (st) h) : mm_W Γ l M d D (pc) ls (.int y :: .int x :: st) h :=
  fun p e R s m args below meth c u0 hC H locs cells slots la hr hl hq h1 h2 => lv_icmp_ne hC.x hC.b hd ht (fun q => kt q p e R s m args below meth c u0 hC H locs cells slots la hr hl hq h1 h2) (fun q => kf q p e R s m args below meth c u0 hC H locs cells slots la hr hl hq h1 h2)
theorem mm_if_lt {Γ : mm_G} {l : Launch} {M : mm_M} {d : Nat} {D : mm_D} {pc : Nat} {ls : mm_L} {st : List Value} {h : mm_H} {x : Int32} {off : Int} {tgt : Nat} (hd : decode M.2.1 pc = .ok (.ifCond .lt off, 3)) (ht : (pc : Int) + off = (tgt : Int)) (kt : x < 0 → mm_W Γ l M d D (tgt) ls (st) h) (kf : ¬ x < 0 → mm_W Γ l M d D (pc + 3) ls (st) h) : mm_W Γ l M d D (pc) ls (.int x :: st) h :=
  fun p e R s m args below meth c u0 hC H locs cells slots la hr hl hq h1 h2 => lv_if_lt hC.x hC.b hd ht (fun q => kt q p e R s m args below meth c u0 hC H locs cells slots la hr hl hq h1 h2) (fun q => kf q p e R s m args below meth c u0 hC H locs cells slots la hr hl hq h1 h2)
theorem mm_icmp_lt {Γ : mm_G} {l : Launch} {M : mm_M} {d : Nat} {D : mm_D} {pc : Nat} {ls : mm_L} {st : List Value} {h : mm_H} {x y : Int32} {off : Int} {tgt : Nat} (hd : decode M.2.1 pc = .ok (.if_icmp .lt off, 3)) (ht : (pc : Int) + off = (tgt : Int)) (kt : x < y → mm_W Γ l M d D (tgt) ls (st) h) (kf : ¬ x < y → mm_W Γ l M d D (pc + 3) ls (st) h) : mm_W Γ l M d D (pc) ls (.int y :: .int x :: st) h :=
  fun p e R s m args below meth c u0 hC H locs cells slots la hr hl hq h1 h2 => lv_icmp_lt hC.x hC.b hd ht (fun q => kt q p e R s m args below meth c u0 hC H locs cells slots la hr hl hq h1 h2) (fun q => kf q p e R s m args below meth c u0 hC H locs cells slots la hr hl hq h1 h2)
theorem mm_if_ge {Γ : mm_G} {l : Launch} {M : mm_M} {d : Nat} {D : mm_D} {pc : Nat} {ls : mm_L} {st : List Value} {h : mm_H} {x : Int32} {off : Int} {tgt : Nat} (hd : decode M.2.1 pc = .ok (.ifCond .ge off, 3)) (ht : (pc : Int) + off = (tgt : Int)) (kt : 0 ≤ x → mm_W Γ l M d D (tgt) ls (st) h) (kf : ¬ 0 ≤ x → mm_W Γ l M d D (pc + 3) ls (st) h) : mm_W Γ l M d D (pc) ls (.int x :: st) h :=
  fun p e R s m args below meth c u0 hC H locs cells slots la hr hl hq h1 h2 => lv_if_ge hC.x hC.b hd ht (fun q => kt q p e R s m args below meth c u0 hC H locs cells slots la hr hl hq h1 h2) (fun q => kf q p e R s m args below meth c u0 hC H locs cells slots la hr hl hq h1 h2)
theorem mm_icmp_ge {Γ : mm_G} {l : Launch} {M : mm_M} {d : Nat} {D : mm_D} {pc : Nat} {ls : mm_L} {st : List Value} {h : mm_H} {x y : Int32} {off : Int} {tgt : Nat} (hd : decode M.2.1 pc = .ok (.if_icmp .ge off, 3)) (ht : (pc : Int) + off = (tgt : Int)) (kt : y ≤ x → mm_W Γ l M d D (tgt) ls (st) h) (kf : ¬ y ≤ x → mm_W Γ l M d D (pc + 3) ls (st) h) : mm_W Γ l M d D (pc) ls (.int y :: .int x :: st) h :=
  fun p e R s m args below meth c u0 hC H locs cells slots la hr hl hq h1 h2 => lv_icmp_ge hC.x hC.b hd ht (fun q => kt q p e R s m args below meth c u0 hC H locs cells slots la hr hl hq h1 h2) (fun q => kf q p e R s m args below meth c u0 hC H locs cells slots la hr hl hq h1 h2)
theorem mm_if_gt {Γ : mm_G} {l : Launch} {M : mm_M} {d : Nat} {D : mm_D} {pc : Nat} {ls : mm_L} {st : List Value} {h : mm_H} {x : Int32} {off : Int} {tgt : Nat} (hd : decode M.2.1 pc = .ok (.ifCond .gt off, 3)) (ht : (pc : Int) + off = (tgt : Int)) (kt : 0 < x → mm_W Γ l M d D (tgt) ls (st) h) (kf : ¬ 0 < x → mm_W Γ l M d D (pc + 3) ls (st) h) : mm_W Γ l M d D (pc) ls (.int x :: st) h :=
  fun p e R s m args below meth c u0 hC H locs cells slots la hr hl hq h1 h2 => lv_if_gt hC.x hC.b hd ht (fun q => kt q p e R s m args below meth c u0 hC H locs cells slots la hr hl hq h1 h2) (fun q => kf q p e R s m args below meth c u0 hC H locs cells slots la hr hl hq h1 h2)
theorem mm_icmp_gt {Γ : mm_G} {l : Launch} {M : mm_M} {d : Nat} {D : mm_D} {pc : Nat} {ls : mm_L} {st : List Value} {h : mm_H} {x y : Int32} {off : Int} {tgt : Nat} (hd : decode M.2.1 pc = .ok (.if_icmp .gt off, 3)) (ht : (pc : Int) + off = (tgt : Int)) (kt : y < x → mm_W Γ l M d D (tgt) ls (st) h) (kf : ¬ y < x → mm_W Γ l M d D (pc + 3) ls (st) h) : mm_W Γ l M d D (pc) ls (.int y :: .int x :: st) h :=
  fun p e R s m args below meth c u0 hC H locs cells slots la hr hl hq h1 h2 => lv_icmp_gt hC.x hC.b hd ht (fun q => kt q p e R s m args below meth c u0 hC H locs cells slots la hr hl hq h1 h2) (fun q => kf q p e R s m args below meth c u0 hC H locs cells slots la hr hl hq h1 h2)
theorem mm_if_le {Γ : mm_G} {l : Launch} {M : mm_M} {d : Nat} {D : mm_D} {pc : Nat} {ls : mm_L} {st : List Value} {h : mm_H} {x : Int32} {off : Int} {tgt : Nat} (hd : decode M.2.1 pc = .ok (.ifCond .le off, 3)) (ht : (pc : Int) + off = (tgt : Int)) (kt : x ≤ 0 → mm_W Γ l M d D (tgt) ls (st) h) (kf : ¬ x ≤ 0 → mm_W Γ l M d D (pc + 3) ls (st) h) : mm_W Γ l M d D (pc) ls (.int x :: st) h :=
  fun p e R s m args below meth c u0 hC H locs cells slots la hr hl hq h1 h2 => lv_if_le hC.x hC.b hd ht (fun q => kt q p e R s m args below meth c u0 hC H locs cells slots la hr hl hq h1 h2) (fun q => kf q p e R s m args below meth c u0 hC H locs cells slots la hr hl hq h1 h2)
theorem mm_icmp_le {Γ : mm_G} {l : Launch} {M : mm_M} {d : Nat} {D : mm_D} {pc : Nat} {ls : mm_L} {st : List Value} {h : mm_H} {x y : Int32} {off : Int} {tgt : Nat} (hd : decode M.2.1 pc = .ok (.if_icmp .le off, 3)) (ht : (pc : Int) + off = (tgt : Int)) (kt : x ≤ y → mm_W Γ l M d D (tgt) ls (st) h) (kf : ¬ x ≤ y → mm_W Γ l M d D (pc + 3) ls (st) h) : mm_W Γ l M d D (pc) ls (.int y :: .int x :: st) h :=
  fun p e R s m args below meth c u0 hC H locs cells slots la hr hl hq h1 h2 => lv_icmp_le hC.x hC.b hd ht (fun q => kt q p e R s m args below meth c u0 hC H locs cells slots la hr hl hq h1 h2) (fun q => kf q p e R s m args below meth c u0 hC H locs cells slots la hr hl hq h1 h2)
theorem mm_goto {Γ : mm_G} {l : Launch} {M : mm_M} {d : Nat} {D : mm_D} {pc : Nat} {ls : mm_L} {st : List Value} {h : mm_H} {off : Int} {tgt : Nat} (hd : decode M.2.1 pc = .ok (.goto off, 3)) (ht : (pc : Int) + off = (tgt : Int)) (k : mm_W Γ l M d D (tgt) ls (st) h) : mm_W Γ l M d D (pc) ls (st) h :=
  fun p e R s m args below meth c u0 hC H locs cells slots la hr hl hq h1 h2 => lv_goto hC.x hC.b hd ht (k p e R s m args below meth c u0 hC H locs cells slots la hr hl hq h1 h2)
theorem mm_tableOut {Γ : mm_G} {l : Launch} {M : mm_M} {d : Nat} {D : mm_D} {pc : Nat} {ls : mm_L} {st : List Value} {h : mm_H} {dflt lo hi : Int} {offs : Array Int} {len : Nat} {x : Int32} {tgt : Nat} (hd : decode M.2.1 pc = .ok (.tableswitch dflt lo hi offs, len)) (hx : x.toInt < lo ∨ hi < x.toInt) (ht : (pc : Int) + dflt = (tgt : Int)) (k : mm_W Γ l M d D (tgt) ls (st) h) : mm_W Γ l M d D (pc) ls (.int x :: st) h :=
  fun p e R s m args below meth c u0 hC H locs cells slots la hr hl hq h1 h2 => lv_tableOut hC.x hC.b hd hx ht (k p e R s m args below meth c u0 hC H locs cells slots la hr hl hq h1 h2)
theorem mm_tableIn {Γ : mm_G} {l : Launch} {M : mm_M} {d : Nat} {D : mm_D} {pc : Nat} {ls : mm_L} {st : List Value} {h : mm_H} {dflt lo hi : Int} {offs : Array Int} {len : Nat} {x : Int32} {off : Int} {tgt : Nat} (hd : decode M.2.1 pc = .ok (.tableswitch dflt lo hi offs, len)) (ha : ¬ x.toInt < lo) (hb : ¬ hi < x.toInt) (ho : offs[(x.toInt - lo).toNat]? = some off) (ht : (pc : Int) + off = (tgt : Int)) (k : mm_W Γ l M d D (tgt) ls (st) h) : mm_W Γ l M d D (pc) ls (.int x :: st) h :=
  fun p e R s m args below meth c u0 hC H locs cells slots la hr hl hq h1 h2 => lv_tableIn hC.x hC.b hd ha hb ho ht (k p e R s m args below meth c u0 hC H locs cells slots la hr hl hq h1 h2)
theorem mm_s0 {Γ : mm_G} {l : Launch} {M : mm_M} {d : Nat} {D : mm_D} {pc : Nat} {ls : mm_L} {rest : List Value} {h : mm_H} {idx : Nat} {M' : mm_M} {g : mm_H} {r : Option Value} (hd : decode M.2.1 pc = .ok (.invokestatic idx, 3)) (hL : mm_MS M.1.cls idx M' 0)  (hl : 0 ≤ M'.2.2.1) (hw : (rest.map fun v => v.category).sum + (M'.2.2.1 + 11) ≤ 60) (hE : mm_Ev Γ l d M' [] h (mm_is (.inl r) g)) (k : mm_W Γ l M (d + 1) D (pc + 3) ls (r.toList ++ rest) g) : mm_W Γ l M (d + 1) D pc ls (rest) h :=
  mm_calls (as := []) (rest := rest) hd hL rfl (fun v hv => nomatch hv) hl hw hE (fun _ _ hh => by obtain ⟨h1, h2⟩ := hh; cases h1; cases h2; exact k) (fun _ _ hh => by obtain ⟨h1, h2⟩ := hh; cases h1)
theorem mm_s0t {Γ : mm_G} {l : Launch} {M : mm_M} {d : Nat} {D : mm_D} {pc : Nat} {ls : mm_L} {rest : List Value} {h : mm_H} {idx : Nat} {M' : mm_M} {g : mm_H} {kx : Nat} (hd : decode M.2.1 pc = .ok (.invokestatic idx, 3)) (hL : mm_MS M.1.cls idx M' 0)  (hl : 0 ≤ M'.2.2.1) (hw : (rest.map fun v => v.category).sum + (M'.2.2.1 + 11) ≤ 60) (hE : mm_Ev Γ l d M' [] h (mm_is (.inr kx) g)) (k : mm_Th Γ l M (d + 1) D pc ls kx g) : mm_W Γ l M (d + 1) D pc ls (rest) h :=
  mm_calls (as := []) (rest := rest) hd hL rfl (fun v hv => nomatch hv) hl hw hE (fun _ _ hh => by obtain ⟨h1, h2⟩ := hh; cases h1) (fun _ _ hh => by obtain ⟨h1, h2⟩ := hh; cases h1; cases h2; exact k)
theorem mm_s1 {Γ : mm_G} {l : Launch} {M : mm_M} {d : Nat} {D : mm_D} {pc : Nat} {ls : mm_L} {rest : List Value} {h : mm_H} {idx : Nat} {M' : mm_M} {g : mm_H} {v1 : Value} {r : Option Value} (hd : decode M.2.1 pc = .ok (.invokestatic idx, 3)) (hL : mm_MS M.1.cls idx M' 1) (c1 : v1.category = 1) (hl : 1 ≤ M'.2.2.1) (hw : (rest.map fun v => v.category).sum + (M'.2.2.1 + 11) ≤ 60) (hE : mm_Ev Γ l d M' [v1] h (mm_is (.inl r) g)) (k : mm_W Γ l M (d + 1) D (pc + 3) ls (r.toList ++ rest) g) : mm_W Γ l M (d + 1) D pc ls (v1 :: rest) h :=
  mm_calls (as := [v1]) (rest := rest) hd hL rfl (fun v hv => by simp only [List.mem_cons, List.not_mem_nil, or_false] at hv; rcases hv with rfl <;> assumption) hl hw hE (fun _ _ hh => by obtain ⟨h1, h2⟩ := hh; cases h1; cases h2; exact k) (fun _ _ hh => by obtain ⟨h1, h2⟩ := hh; cases h1)
theorem mm_s1t {Γ : mm_G} {l : Launch} {M : mm_M} {d : Nat} {D : mm_D} {pc : Nat} {ls : mm_L} {rest : List Value} {h : mm_H} {idx : Nat} {M' : mm_M} {g : mm_H} {v1 : Value} {kx : Nat} (hd : decode M.2.1 pc = .ok (.invokestatic idx, 3)) (hL : mm_MS M.1.cls idx M' 1) (c1 : v1.category = 1) (hl : 1 ≤ M'.2.2.1) (hw : (rest.map fun v => v.category).sum + (M'.2.2.1 + 11) ≤ 60) (hE : mm_Ev Γ l d M' [v1] h (mm_is (.inr kx) g)) (k : mm_Th Γ l M (d + 1) D pc ls kx g) : mm_W Γ l M (d + 1) D pc ls (v1 :: rest) h :=
  mm_calls (as := [v1]) (rest := rest) hd hL rfl (fun v hv => by simp only [List.mem_cons, List.not_mem_nil, or_false] at hv; rcases hv with rfl <;> assumption) hl hw hE (fun _ _ hh => by obtain ⟨h1, h2⟩ := hh; cases h1) (fun _ _ hh => by obtain ⟨h1, h2⟩ := hh; cases h1; cases h2; exact k)
theorem mm_s2 {Γ : mm_G} {l : Launch} {M : mm_M} {d : Nat} {D : mm_D} {pc : Nat} {ls : mm_L} {rest : List Value} {h : mm_H} {idx : Nat} {M' : mm_M} {g : mm_H} {v1 v2 : Value} {r : Option Value} (hd : decode M.2.1 pc = .ok (.invokestatic idx, 3)) (hL : mm_MS M.1.cls idx M' 2) (c1 : v1.category = 1) (c2 : v2.category = 1) (hl : 2 ≤ M'.2.2.1) (hw : (rest.map fun v => v.category).sum + (M'.2.2.1 + 11) ≤ 60) (hE : mm_Ev Γ l d M' [v1, v2] h (mm_is (.inl r) g)) (k : mm_W Γ l M (d + 1) D (pc + 3) ls (r.toList ++ rest) g) : mm_W Γ l M (d + 1) D pc ls (v2 :: v1 :: rest) h :=
  mm_calls (as := [v1, v2]) (rest := rest) hd hL rfl (fun v hv => by simp only [List.mem_cons, List.not_mem_nil, or_false] at hv; rcases hv with rfl | rfl <;> assumption) hl hw hE (fun _ _ hh => by obtain ⟨h1, h2⟩ := hh; cases h1; cases h2; exact k) (fun _ _ hh => by obtain ⟨h1, h2⟩ := hh; cases h1)
theorem mm_s2t {Γ : mm_G} {l : Launch} {M : mm_M} {d : Nat} {D : mm_D} {pc : Nat} {ls : mm_L} {rest : List Value} {h : mm_H} {idx : Nat} {M' : mm_M} {g : mm_H} {v1 v2 : Value} {kx : Nat} (hd : decode M.2.1 pc = .ok (.invokestatic idx, 3)) (hL : mm_MS M.1.cls idx M' 2) (c1 : v1.category = 1) (c2 : v2.category = 1) (hl : 2 ≤ M'.2.2.1) (hw : (rest.map fun v => v.category).sum + (M'.2.2.1 + 11) ≤ 60) (hE : mm_Ev Γ l d M' [v1, v2] h (mm_is (.inr kx) g)) (k : mm_Th Γ l M (d + 1) D pc ls kx g) : mm_W Γ l M (d + 1) D pc ls (v2 :: v1 :: rest) h :=
  mm_calls (as := [v1, v2]) (rest := rest) hd hL rfl (fun v hv => by simp only [List.mem_cons, List.not_mem_nil, or_false] at hv; rcases hv with rfl | rfl <;> assumption) hl hw hE (fun _ _ hh => by obtain ⟨h1, h2⟩ := hh; cases h1) (fun _ _ hh => by obtain ⟨h1, h2⟩ := hh; cases h1; cases h2; exact k)
theorem mm_s3 {Γ : mm_G} {l : Launch} {M : mm_M} {d : Nat} {D : mm_D} {pc : Nat} {ls : mm_L} {rest : List Value} {h : mm_H} {idx : Nat} {M' : mm_M} {g : mm_H} {v1 v2 v3 : Value} {r : Option Value} (hd : decode M.2.1 pc = .ok (.invokestatic idx, 3)) (hL : mm_MS M.1.cls idx M' 3) (c1 : v1.category = 1) (c2 : v2.category = 1) (c3 : v3.category = 1) (hl : 3 ≤ M'.2.2.1) (hw : (rest.map fun v => v.category).sum + (M'.2.2.1 + 11) ≤ 60) (hE : mm_Ev Γ l d M' [v1, v2, v3] h (mm_is (.inl r) g)) (k : mm_W Γ l M (d + 1) D (pc + 3) ls (r.toList ++ rest) g) : mm_W Γ l M (d + 1) D pc ls (v3 :: v2 :: v1 :: rest) h :=
  mm_calls (as := [v1, v2, v3]) (rest := rest) hd hL rfl (fun v hv => by simp only [List.mem_cons, List.not_mem_nil, or_false] at hv; rcases hv with rfl | rfl | rfl <;> assumption) hl hw hE (fun _ _ hh => by obtain ⟨h1, h2⟩ := hh; cases h1; cases h2; exact k) (fun _ _ hh => by obtain ⟨h1, h2⟩ := hh; cases h1)
theorem mm_s3t {Γ : mm_G} {l : Launch} {M : mm_M} {d : Nat} {D : mm_D} {pc : Nat} {ls : mm_L} {rest : List Value} {h : mm_H} {idx : Nat} {M' : mm_M} {g : mm_H} {v1 v2 v3 : Value} {kx : Nat} (hd : decode M.2.1 pc = .ok (.invokestatic idx, 3)) (hL : mm_MS M.1.cls idx M' 3) (c1 : v1.category = 1) (c2 : v2.category = 1) (c3 : v3.category = 1) (hl : 3 ≤ M'.2.2.1) (hw : (rest.map fun v => v.category).sum + (M'.2.2.1 + 11) ≤ 60) (hE : mm_Ev Γ l d M' [v1, v2, v3] h (mm_is (.inr kx) g)) (k : mm_Th Γ l M (d + 1) D pc ls kx g) : mm_W Γ l M (d + 1) D pc ls (v3 :: v2 :: v1 :: rest) h :=
  mm_calls (as := [v1, v2, v3]) (rest := rest) hd hL rfl (fun v hv => by simp only [List.mem_cons, List.not_mem_nil, or_false] at hv; rcases hv with rfl | rfl | rfl <;> assumption) hl hw hE (fun _ _ hh => by obtain ⟨h1, h2⟩ := hh; cases h1) (fun _ _ hh => by obtain ⟨h1, h2⟩ := hh; cases h1; cases h2; exact k)
theorem mm_s4 {Γ : mm_G} {l : Launch} {M : mm_M} {d : Nat} {D : mm_D} {pc : Nat} {ls : mm_L} {rest : List Value} {h : mm_H} {idx : Nat} {M' : mm_M} {g : mm_H} {v1 v2 v3 v4 : Value} {r : Option Value} (hd : decode M.2.1 pc = .ok (.invokestatic idx, 3)) (hL : mm_MS M.1.cls idx M' 4) (c1 : v1.category = 1) (c2 : v2.category = 1) (c3 : v3.category = 1) (c4 : v4.category = 1) (hl : 4 ≤ M'.2.2.1) (hw : (rest.map fun v => v.category).sum + (M'.2.2.1 + 11) ≤ 60) (hE : mm_Ev Γ l d M' [v1, v2, v3, v4] h (mm_is (.inl r) g)) (k : mm_W Γ l M (d + 1) D (pc + 3) ls (r.toList ++ rest) g) : mm_W Γ l M (d + 1) D pc ls (v4 :: v3 :: v2 :: v1 :: rest) h :=
  mm_calls (as := [v1, v2, v3, v4]) (rest := rest) hd hL rfl (fun v hv => by simp only [List.mem_cons, List.not_mem_nil, or_false] at hv; rcases hv with rfl | rfl | rfl | rfl <;> assumption) hl hw hE (fun _ _ hh => by obtain ⟨h1, h2⟩ := hh; cases h1; cases h2; exact k) (fun _ _ hh => by obtain ⟨h1, h2⟩ := hh; cases h1)
theorem mm_s4t {Γ : mm_G} {l : Launch} {M : mm_M} {d : Nat} {D : mm_D} {pc : Nat} {ls : mm_L} {rest : List Value} {h : mm_H} {idx : Nat} {M' : mm_M} {g : mm_H} {v1 v2 v3 v4 : Value} {kx : Nat} (hd : decode M.2.1 pc = .ok (.invokestatic idx, 3)) (hL : mm_MS M.1.cls idx M' 4) (c1 : v1.category = 1) (c2 : v2.category = 1) (c3 : v3.category = 1) (c4 : v4.category = 1) (hl : 4 ≤ M'.2.2.1) (hw : (rest.map fun v => v.category).sum + (M'.2.2.1 + 11) ≤ 60) (hE : mm_Ev Γ l d M' [v1, v2, v3, v4] h (mm_is (.inr kx) g)) (k : mm_Th Γ l M (d + 1) D pc ls kx g) : mm_W Γ l M (d + 1) D pc ls (v4 :: v3 :: v2 :: v1 :: rest) h :=
  mm_calls (as := [v1, v2, v3, v4]) (rest := rest) hd hL rfl (fun v hv => by simp only [List.mem_cons, List.not_mem_nil, or_false] at hv; rcases hv with rfl | rfl | rfl | rfl <;> assumption) hl hw hE (fun _ _ hh => by obtain ⟨h1, h2⟩ := hh; cases h1) (fun _ _ hh => by obtain ⟨h1, h2⟩ := hh; cases h1; cases h2; exact k)
theorem mm_s5 {Γ : mm_G} {l : Launch} {M : mm_M} {d : Nat} {D : mm_D} {pc : Nat} {ls : mm_L} {rest : List Value} {h : mm_H} {idx : Nat} {M' : mm_M} {g : mm_H} {v1 v2 v3 v4 v5 : Value} {r : Option Value} (hd : decode M.2.1 pc = .ok (.invokestatic idx, 3)) (hL : mm_MS M.1.cls idx M' 5) (c1 : v1.category = 1) (c2 : v2.category = 1) (c3 : v3.category = 1) (c4 : v4.category = 1) (c5 : v5.category = 1) (hl : 5 ≤ M'.2.2.1) (hw : (rest.map fun v => v.category).sum + (M'.2.2.1 + 11) ≤ 60) (hE : mm_Ev Γ l d M' [v1, v2, v3, v4, v5] h (mm_is (.inl r) g)) (k : mm_W Γ l M (d + 1) D (pc + 3) ls (r.toList ++ rest) g) : mm_W Γ l M (d + 1) D pc ls (v5 :: v4 :: v3 :: v2 :: v1 :: rest) h :=
  mm_calls (as := [v1, v2, v3, v4, v5]) (rest := rest) hd hL rfl (fun v hv => by simp only [List.mem_cons, List.not_mem_nil, or_false] at hv; rcases hv with rfl | rfl | rfl | rfl | rfl <;> assumption) hl hw hE (fun _ _ hh => by obtain ⟨h1, h2⟩ := hh; cases h1; cases h2; exact k) (fun _ _ hh => by obtain ⟨h1, h2⟩ := hh; cases h1)
theorem mm_s5t {Γ : mm_G} {l : Launch} {M : mm_M} {d : Nat} {D : mm_D} {pc : Nat} {ls : mm_L} {rest : List Value} {h : mm_H} {idx : Nat} {M' : mm_M} {g : mm_H} {v1 v2 v3 v4 v5 : Value} {kx : Nat} (hd : decode M.2.1 pc = .ok (.invokestatic idx, 3)) (hL : mm_MS M.1.cls idx M' 5) (c1 : v1.category = 1) (c2 : v2.category = 1) (c3 : v3.category = 1) (c4 : v4.category = 1) (c5 : v5.category = 1) (hl : 5 ≤ M'.2.2.1) (hw : (rest.map fun v => v.category).sum + (M'.2.2.1 + 11) ≤ 60) (hE : mm_Ev Γ l d M' [v1, v2, v3, v4, v5] h (mm_is (.inr kx) g)) (k : mm_Th Γ l M (d + 1) D pc ls kx g) : mm_W Γ l M (d + 1) D pc ls (v5 :: v4 :: v3 :: v2 :: v1 :: rest) h :=
  mm_calls (as := [v1, v2, v3, v4, v5]) (rest := rest) hd hL rfl (fun v hv => by simp only [List.mem_cons, List.not_mem_nil, or_false] at hv; rcases hv with rfl | rfl | rfl | rfl | rfl <;> assumption) hl hw hE (fun _ _ hh => by obtain ⟨h1, h2⟩ := hh; cases h1) (fun _ _ hh => by obtain ⟨h1, h2⟩ := hh; cases h1; cases h2; exact k)
theorem mm_s6 {Γ : mm_G} {l : Launch} {M : mm_M} {d : Nat} {D : mm_D} {pc : Nat} {ls : mm_L} {rest : List Value} {h : mm_H} {idx : Nat} {M' : mm_M} {g : mm_H} {v1 v2 v3 v4 v5 v6 : Value} {r : Option Value} (hd : decode M.2.1 pc = .ok (.invokestatic idx, 3)) (hL : mm_MS M.1.cls idx M' 6) (c1 : v1.category = 1) (c2 : v2.category = 1) (c3 : v3.category = 1) (c4 : v4.category = 1) (c5 : v5.category = 1) (c6 : v6.category = 1) (hl : 6 ≤ M'.2.2.1) (hw : (rest.map fun v => v.category).sum + (M'.2.2.1 + 11) ≤ 60) (hE : mm_Ev Γ l d M' [v1, v2, v3, v4, v5, v6] h (mm_is (.inl r) g)) (k : mm_W Γ l M (d + 1) D (pc + 3) ls (r.toList ++ rest) g) : mm_W Γ l M (d + 1) D pc ls (v6 :: v5 :: v4 :: v3 :: v2 :: v1 :: rest) h :=
  mm_calls (as := [v1, v2, v3, v4, v5, v6]) (rest := rest) hd hL rfl (fun v hv => by simp only [List.mem_cons, List.not_mem_nil, or_false] at hv; rcases hv with rfl | rfl | rfl | rfl | rfl | rfl <;> assumption) hl hw hE (fun _ _ hh => by obtain ⟨h1, h2⟩ := hh; cases h1; cases h2; exact k) (fun _ _ hh => by obtain ⟨h1, h2⟩ := hh; cases h1)
theorem mm_s6t {Γ : mm_G} {l : Launch} {M : mm_M} {d : Nat} {D : mm_D} {pc : Nat} {ls : mm_L} {rest : List Value} {h : mm_H} {idx : Nat} {M' : mm_M} {g : mm_H} {v1 v2 v3 v4 v5 v6 : Value} {kx : Nat} (hd : decode M.2.1 pc = .ok (.invokestatic idx, 3)) (hL : mm_MS M.1.cls idx M' 6) (c1 : v1.category = 1) (c2 : v2.category = 1) (c3 : v3.category = 1) (c4 : v4.category = 1) (c5 : v5.category = 1) (c6 : v6.category = 1) (hl : 6 ≤ M'.2.2.1) (hw : (rest.map fun v => v.category).sum + (M'.2.2.1 + 11) ≤ 60) (hE : mm_Ev Γ l d M' [v1, v2, v3, v4, v5, v6] h (mm_is (.inr kx) g)) (k : mm_Th Γ l M (d + 1) D pc ls kx g) : mm_W Γ l M (d + 1) D pc ls (v6 :: v5 :: v4 :: v3 :: v2 :: v1 :: rest) h :=
  mm_calls (as := [v1, v2, v3, v4, v5, v6]) (rest := rest) hd hL rfl (fun v hv => by simp only [List.mem_cons, List.not_mem_nil, or_false] at hv; rcases hv with rfl | rfl | rfl | rfl | rfl | rfl <;> assumption) hl hw hE (fun _ _ hh => by obtain ⟨h1, h2⟩ := hh; cases h1) (fun _ _ hh => by obtain ⟨h1, h2⟩ := hh; cases h1; cases h2; exact k)
theorem mm_s7 {Γ : mm_G} {l : Launch} {M : mm_M} {d : Nat} {D : mm_D} {pc : Nat} {ls : mm_L} {rest : List Value} {h : mm_H} {idx : Nat} {M' : mm_M} {g : mm_H} {v1 v2 v3 v4 v5 v6 v7 : Value} {r : Option Value} (hd : decode M.2.1 pc = .ok (.invokestatic idx, 3)) (hL : mm_MS M.1.cls idx M' 7) (c1 : v1.category = 1) (c2 : v2.category = 1) (c3 : v3.category = 1) (c4 : v4.category = 1) (c5 : v5.category = 1) (c6 : v6.category = 1) (c7 : v7.category = 1) (hl : 7 ≤ M'.2.2.1) (hw : (rest.map fun v => v.category).sum + (M'.2.2.1 + 11) ≤ 60) (hE : mm_Ev Γ l d M' [v1, v2, v3, v4, v5, v6, v7] h (mm_is (.inl r) g)) (k : mm_W Γ l M (d + 1) D (pc + 3) ls (r.toList ++ rest) g) : mm_W Γ l M (d + 1) D pc ls (v7 :: v6 :: v5 :: v4 :: v3 :: v2 :: v1 :: rest) h :=
  mm_calls (as := [v1, v2, v3, v4, v5, v6, v7]) (rest := rest) hd hL rfl (fun v hv => by simp only [List.mem_cons, List.not_mem_nil, or_false] at hv; rcases hv with rfl | rfl | rfl | rfl | rfl | rfl | rfl <;> assumption) hl hw hE (fun _ _ hh => by obtain ⟨h1, h2⟩ := hh; cases h1; cases h2; exact k) (fun _ _ hh => by obtain ⟨h1, h2⟩ := hh; cases h1)
theorem mm_s7t {Γ : mm_G} {l : Launch} {M : mm_M} {d : Nat} {D : mm_D} {pc : Nat} {ls : mm_L} {rest : List Value} {h : mm_H} {idx : Nat} {M' : mm_M} {g : mm_H} {v1 v2 v3 v4 v5 v6 v7 : Value} {kx : Nat} (hd : decode M.2.1 pc = .ok (.invokestatic idx, 3)) (hL : mm_MS M.1.cls idx M' 7) (c1 : v1.category = 1) (c2 : v2.category = 1) (c3 : v3.category = 1) (c4 : v4.category = 1) (c5 : v5.category = 1) (c6 : v6.category = 1) (c7 : v7.category = 1) (hl : 7 ≤ M'.2.2.1) (hw : (rest.map fun v => v.category).sum + (M'.2.2.1 + 11) ≤ 60) (hE : mm_Ev Γ l d M' [v1, v2, v3, v4, v5, v6, v7] h (mm_is (.inr kx) g)) (k : mm_Th Γ l M (d + 1) D pc ls kx g) : mm_W Γ l M (d + 1) D pc ls (v7 :: v6 :: v5 :: v4 :: v3 :: v2 :: v1 :: rest) h :=
  mm_calls (as := [v1, v2, v3, v4, v5, v6, v7]) (rest := rest) hd hL rfl (fun v hv => by simp only [List.mem_cons, List.not_mem_nil, or_false] at hv; rcases hv with rfl | rfl | rfl | rfl | rfl | rfl | rfl <;> assumption) hl hw hE (fun _ _ hh => by obtain ⟨h1, h2⟩ := hh; cases h1) (fun _ _ hh => by obtain ⟨h1, h2⟩ := hh; cases h1; cases h2; exact k)
theorem mm_v0 {Γ : mm_G} {l : Launch} {M : mm_M} {d : Nat} {D : mm_D} {pc : Nat} {ls : mm_L} {rest : List Value} {h : mm_H} {idx : Nat} {M' : mm_M} {g : mm_H} {a : Nat} {ci : Nat} {fs : List Value} {r : Option Value} (hd : decode M.2.1 pc = .ok (.invokevirtual idx, 3)) (hL : mm_MV M.1.cls idx M' 0 ci) (hb : h.2.2 a = some (.inr (ci, fs)))  (hl : 1 ≤ M'.2.2.1) (hw : (rest.map fun v => v.category).sum + (M'.2.2.1 + 11) ≤ 60) (hE : mm_Ev Γ l d M' [.ref a] h (mm_is (.inl r) g)) (k : mm_W Γ l M (d + 1) D (pc + 3) ls (r.toList ++ rest) g) : mm_W Γ l M (d + 1) D pc ls (.ref a :: rest) h :=
  mm_callv (as := []) (rest := rest) hd hL hb rfl (fun v hv => nomatch hv) hl hw hE (fun _ _ hh => by obtain ⟨h1, h2⟩ := hh; cases h1; cases h2; exact k) (fun _ _ hh => by obtain ⟨h1, h2⟩ := hh; cases h1)
theorem mm_v0t {Γ : mm_G} {l : Launch} {M : mm_M} {d : Nat} {D : mm_D} {pc : Nat} {ls : mm_L} {rest : List Value} {h : mm_H} {idx : Nat} {M' : mm_M} {g : mm_H} {a : Nat} {ci : Nat} {fs : List Value} {kx : Nat} (hd : decode M.2.1 pc = .ok (.invokevirtual idx, 3)) (hL : mm_MV M.1.cls idx M' 0 ci) (hb : h.2.2 a = some (.inr (ci, fs)))  (hl : 1 ≤ M'.2.2.1) (hw : (rest.map fun v => v.category).sum + (M'.2.2.1 + 11) ≤ 60) (hE : mm_Ev Γ l d M' [.ref a] h (mm_is (.inr kx) g)) (k : mm_Th Γ l M (d + 1) D pc ls kx g) : mm_W Γ l M (d + 1) D pc ls (.ref a :: rest) h :=
  mm_callv (as := []) (rest := rest) hd hL hb rfl (fun v hv => nomatch hv) hl hw hE (fun _ _ hh => by obtain ⟨h1, h2⟩ := hh; cases h1) (fun _ _ hh => by obtain ⟨h1, h2⟩ := hh; cases h1; cases h2; exact k)
theorem mm_v1 {Γ : mm_G} {l : Launch} {M : mm_M} {d : Nat} {D : mm_D} {pc : Nat} {ls : mm_L} {rest : List Value} {h : mm_H} {idx : Nat} {M' : mm_M} {g : mm_H} {v1 : Value} {a : Nat} {ci : Nat} {fs : List Value} {r : Option Value} (hd : decode M.2.1 pc = .ok (.invokevirtual idx, 3)) (hL : mm_MV M.1.cls idx M' 1 ci) (hb : h.2.2 a = some (.inr (ci, fs))) (c1 : v1.category = 1) (hl : 2 ≤ M'.2.2.1) (hw : (rest.map fun v => v.category).sum + (M'.2.2.1 + 11) ≤ 60) (hE : mm_Ev Γ l d M' [.ref a, v1] h (mm_is (.inl r) g)) (k : mm_W Γ l M (d + 1) D (pc + 3) ls (r.toList ++ rest) g) : mm_W Γ l M (d + 1) D pc ls (v1 :: .ref a :: rest) h :=
  mm_callv (as := [v1]) (rest := rest) hd hL hb rfl (fun v hv => by simp only [List.mem_cons, List.not_mem_nil, or_false] at hv; rcases hv with rfl <;> assumption) hl hw hE (fun _ _ hh => by obtain ⟨h1, h2⟩ := hh; cases h1; cases h2; exact k) (fun _ _ hh => by obtain ⟨h1, h2⟩ := hh; cases h1)
theorem mm_v1t {Γ : mm_G} {l : Launch} {M : mm_M} {d : Nat} {D : mm_D} {pc : Nat} {ls : mm_L} {rest : List Value} {h : mm_H} {idx : Nat} {M' : mm_M} {g : mm_H} {v1 : Value} {a : Nat} {ci : Nat} {fs : List Value} {kx : Nat} (hd : decode M.2.1 pc = .ok (.invokevirtual idx, 3)) (hL : mm_MV M.1.cls idx M' 1 ci) (hb : h.2.2 a = some (.inr (ci, fs))) (c1 : v1.category = 1) (hl : 2 ≤ M'.2.2.1) (hw : (rest.map fun v => v.category).sum + (M'.2.2.1 + 11) ≤ 60) (hE : mm_Ev Γ l d M' [.ref a, v1] h (mm_is (.inr kx) g)) (k : mm_Th Γ l M (d + 1) D pc ls kx g) : mm_W Γ l M (d + 1) D pc ls (v1 :: .ref a :: rest) h :=
  mm_callv (as := [v1]) (rest := rest) hd hL hb rfl (fun v hv => by simp only [List.mem_cons, List.not_mem_nil, or_false] at hv; rcases hv with rfl <;> assumption) hl hw hE (fun _ _ hh => by obtain ⟨h1, h2⟩ := hh; cases h1) (fun _ _ hh => by obtain ⟨h1, h2⟩ := hh; cases h1; cases h2; exact k)
theorem mm_v2 {Γ : mm_G} {l : Launch} {M : mm_M} {d : Nat} {D : mm_D} {pc : Nat} {ls : mm_L} {rest : List Value} {h : mm_H} {idx : Nat} {M' : mm_M} {g : mm_H} {v1 v2 : Value} {a : Nat} {ci : Nat} {fs : List Value} {r : Option Value} (hd : decode M.2.1 pc = .ok (.invokevirtual idx, 3)) (hL : mm_MV M.1.cls idx M' 2 ci) (hb : h.2.2 a = some (.inr (ci, fs))) (c1 : v1.category = 1) (c2 : v2.category = 1) (hl : 3 ≤ M'.2.2.1) (hw : (rest.map fun v => v.category).sum + (M'.2.2.1 + 11) ≤ 60) (hE : mm_Ev Γ l d M' [.ref a, v1, v2] h (mm_is (.inl r) g)) (k : mm_W Γ l M (d + 1) D (pc + 3) ls (r.toList ++ rest) g) : mm_W Γ l M (d + 1) D pc ls (v2 :: v1 :: .ref a :: rest) h :=
  mm_callv (as := [v1, v2]) (rest := rest) hd hL hb rfl (fun v hv => by simp only [List.mem_cons, List.not_mem_nil, or_false] at hv; rcases hv with rfl | rfl <;> assumption) hl hw hE (fun _ _ hh => by obtain ⟨h1, h2⟩ := hh; cases h1; cases h2; exact k) (fun _ _ hh => by obtain ⟨h1, h2⟩ := hh; cases h1)
theorem mm_v2t {Γ : mm_G} {l : Launch} {M : mm_M} {d : Nat} {D : mm_D} {pc : Nat} {ls : mm_L} {rest : List Value} {h : mm_H} {idx : Nat} {M' : mm_M} {g : mm_H} {v1 v2 : Value} {a : Nat} {ci : Nat} {fs : List Value} {kx : Nat} (hd : decode M.2.1 pc = .ok (.invokevirtual idx, 3)) (hL : mm_MV M.1.cls idx M' 2 ci) (hb : h.2.2 a = some (.inr (ci, fs))) (c1 : v1.category = 1) (c2 : v2.category = 1) (hl : 3 ≤ M'.2.2.1) (hw : (rest.map fun v => v.category).sum + (M'.2.2.1 + 11) ≤ 60) (hE : mm_Ev Γ l d M' [.ref a, v1, v2] h (mm_is (.inr kx) g)) (k : mm_Th Γ l M (d + 1) D pc ls kx g) : mm_W Γ l M (d + 1) D pc ls (v2 :: v1 :: .ref a :: rest) h :=
  mm_callv (as := [v1, v2]) (rest := rest) hd hL hb rfl (fun v hv => by simp only [List.mem_cons, List.not_mem_nil, or_false] at hv; rcases hv with rfl | rfl <;> assumption) hl hw hE (fun _ _ hh => by obtain ⟨h1, h2⟩ := hh; cases h1) (fun _ _ hh => by obtain ⟨h1, h2⟩ := hh; cases h1; cases h2; exact k)
theorem mm_v3 {Γ : mm_G} {l : Launch} {M : mm_M} {d : Nat} {D : mm_D} {pc : Nat} {ls : mm_L} {rest : List Value} {h : mm_H} {idx : Nat} {M' : mm_M} {g : mm_H} {v1 v2 v3 : Value} {a : Nat} {ci : Nat} {fs : List Value} {r : Option Value} (hd : decode M.2.1 pc = .ok (.invokevirtual idx, 3)) (hL : mm_MV M.1.cls idx M' 3 ci) (hb : h.2.2 a = some (.inr (ci, fs))) (c1 : v1.category = 1) (c2 : v2.category = 1) (c3 : v3.category = 1) (hl : 4 ≤ M'.2.2.1) (hw : (rest.map fun v => v.category).sum + (M'.2.2.1 + 11) ≤ 60) (hE : mm_Ev Γ l d M' [.ref a, v1, v2, v3] h (mm_is (.inl r) g)) (k : mm_W Γ l M (d + 1) D (pc + 3) ls (r.toList ++ rest) g) : mm_W Γ l M (d + 1) D pc ls (v3 :: v2 :: v1 :: .ref a :: rest) h :=
  mm_callv (as := [v1, v2, v3]) (rest := rest) hd hL hb rfl (fun v hv => by simp only [List.mem_cons, List.not_mem_nil, or_false] at hv; rcases hv with rfl | rfl | rfl <;> assumption) hl hw hE (fun _ _ hh => by obtain ⟨h1, h2⟩ := hh; cases h1; cases h2; exact k) (fun _ _ hh => by obtain ⟨h1, h2⟩ := hh; cases h1)
theorem mm_v3t {Γ : mm_G} {l : Launch} {M : mm_M} {d : Nat} {D : mm_D} {pc : Nat} {ls : mm_L} {rest : List Value} {h : mm_H} {idx : Nat} {M' : mm_M} {g : mm_H} {v1 v2 v3 : Value} {a : Nat} {ci : Nat} {fs : List Value} {kx : Nat} (hd : decode M.2.1 pc = .ok (.invokevirtual idx, 3)) (hL : mm_MV M.1.cls idx M' 3 ci) (hb : h.2.2 a = some (.inr (ci, fs))) (c1 : v1.category = 1) (c2 : v2.category = 1) (c3 : v3.category = 1) (hl : 4 ≤ M'.2.2.1) (hw : (rest.map fun v => v.category).sum + (M'.2.2.1 + 11) ≤ 60) (hE : mm_Ev Γ l d M' [.ref a, v1, v2, v3] h (mm_is (.inr kx) g)) (k : mm_Th Γ l M (d + 1) D pc ls kx g) : mm_W Γ l M (d + 1) D pc ls (v3 :: v2 :: v1 :: .ref a :: rest) h :=
  mm_callv (as := [v1, v2, v3]) (rest := rest) hd hL hb rfl (fun v hv => by simp only [List.mem_cons, List.not_mem_nil, or_false] at hv; rcases hv with rfl | rfl | rfl <;> assumption) hl hw hE (fun _ _ hh => by obtain ⟨h1, h2⟩ := hh; cases h1) (fun _ _ hh => by obtain ⟨h1, h2⟩ := hh; cases h1; cases h2; exact k)
theorem mm_v4 {Γ : mm_G} {l : Launch} {M : mm_M} {d : Nat} {D : mm_D} {pc : Nat} {ls : mm_L} {rest : List Value} {h : mm_H} {idx : Nat} {M' : mm_M} {g : mm_H} {v1 v2 v3 v4 : Value} {a : Nat} {ci : Nat} {fs : List Value} {r : Option Value} (hd : decode M.2.1 pc = .ok (.invokevirtual idx, 3)) (hL : mm_MV M.1.cls idx M' 4 ci) (hb : h.2.2 a = some (.inr (ci, fs))) (c1 : v1.category = 1) (c2 : v2.category = 1) (c3 : v3.category = 1) (c4 : v4.category = 1) (hl : 5 ≤ M'.2.2.1) (hw : (rest.map fun v => v.category).sum + (M'.2.2.1 + 11) ≤ 60) (hE : mm_Ev Γ l d M' [.ref a, v1, v2, v3, v4] h (mm_is (.inl r) g)) (k : mm_W Γ l M (d + 1) D (pc + 3) ls (r.toList ++ rest) g) : mm_W Γ l M (d + 1) D pc ls (v4 :: v3 :: v2 :: v1 :: .ref a :: rest) h :=
  mm_callv (as := [v1, v2, v3, v4]) (rest := rest) hd hL hb rfl (fun v hv => by simp only [List.mem_cons, List.not_mem_nil, or_false] at hv; rcases hv with rfl | rfl | rfl | rfl <;> assumption) hl hw hE (fun _ _ hh => by obtain ⟨h1, h2⟩ := hh; cases h1; cases h2; exact k) (fun _ _ hh => by obtain ⟨h1, h2⟩ := hh; cases h1)
theorem mm_v4t {Γ : mm_G} {l : Launch} {M : mm_M} {d : Nat} {D : mm_D} {pc : Nat} {ls : mm_L} {rest : List Value} {h : mm_H} {idx : Nat} {M' : mm_M} {g : mm_H} {v1 v2 v3 v4 : Value} {a : Nat} {ci : Nat} {fs : List Value} {kx : Nat} (hd : decode M.2.1 pc = .ok (.invokevirtual idx, 3)) (hL : mm_MV M.1.cls idx M' 4 ci) (hb : h.2.2 a = some (.inr (ci, fs))) (c1 : v1.category = 1) (c2 : v2.category = 1) (c3 : v3.category = 1) (c4 : v4.category = 1) (hl : 5 ≤ M'.2.2.1) (hw : (rest.map fun v => v.category).sum + (M'.2.2.1 + 11) ≤ 60) (hE : mm_Ev Γ l d M' [.ref a, v1, v2, v3, v4] h (mm_is (.inr kx) g)) (k : mm_Th Γ l M (d + 1) D pc ls kx g) : mm_W Γ l M (d + 1) D pc ls (v4 :: v3 :: v2 :: v1 :: .ref a :: rest) h :=
  mm_callv (as := [v1, v2, v3, v4]) (rest := rest) hd hL hb rfl (fun v hv => by simp only [List.mem_cons, List.not_mem_nil, or_false] at hv; rcases hv with rfl | rfl | rfl | rfl <;> assumption) hl hw hE (fun _ _ hh => by obtain ⟨h1, h2⟩ := hh; cases h1) (fun _ _ hh => by obtain ⟨h1, h2⟩ := hh; cases h1; cases h2; exact k)
theorem mm_v5 {Γ : mm_G} {l : Launch} {M : mm_M} {d : Nat} {D : mm_D} {pc : Nat} {ls : mm_L} {rest : List Value} {h : mm_H} {idx : Nat} {M' : mm_M} {g : mm_H} {v1 v2 v3 v4 v5 : Value} {a : Nat} {ci : Nat} {fs : List Value} {r : Option Value} (hd : decode M.2.1 pc = .ok (.invokevirtual idx, 3)) (hL : mm_MV M.1.cls idx M' 5 ci) (hb : h.2.2 a = some (.inr (ci, fs))) (c1 : v1.category = 1) (c2 : v2.category = 1) (c3 : v3.category = 1) (c4 : v4.category = 1) (c5 : v5.category = 1) (hl : 6 ≤ M'.2.2.1) (hw : (rest.map fun v => v.category).sum + (M'.2.2.1 + 11) ≤ 60) (hE : mm_Ev Γ l d M' [.ref a, v1, v2, v3, v4, v5] h (mm_is (.inl r) g)) (k : mm_W Γ l M (d + 1) D (pc + 3) ls (r.toList ++ rest) g) : mm_W Γ l M (d + 1) D pc ls (v5 :: v4 :: v3 :: v2 :: v1 :: .ref a :: rest) h :=
  mm_callv (as := [v1, v2, v3, v4, v5]) (rest := rest) hd hL hb rfl (fun v hv => by simp only [List.mem_cons, List.not_mem_nil, or_false] at hv; rcases hv with rfl | rfl | rfl | rfl | rfl <;> assumption) hl hw hE (fun _ _ hh => by obtain ⟨h1, h2⟩ := hh; cases h1; cases h2; exact k) (fun _ _ hh => by obtain ⟨h1, h2⟩ := hh; cases h1)
theorem mm_v5t {Γ : mm_G} {l : Launch} {M : mm_M} {d : Nat} {D : mm_D} {pc : Nat} {ls : mm_L} {rest : List Value} {h : mm_H} {idx : Nat} {M' : mm_M} {g : mm_H} {v1 v2 v3 v4 v5 : Value} {a : Nat} {ci : Nat} {fs : List Value} {kx : Nat} (hd : decode M.2.1 pc = .ok (.invokevirtual idx, 3)) (hL : mm_MV M.1.cls idx M' 5 ci) (hb : h.2.2 a = some (.inr (ci, fs))) (c1 : v1.category = 1) (c2 : v2.category = 1) (c3 : v3.category = 1) (c4 : v4.category = 1) (c5 : v5.category = 1) (hl : 6 ≤ M'.2.2.1) (hw : (rest.map fun v => v.category).sum + (M'.2.2.1 + 11) ≤ 60) (hE : mm_Ev Γ l d M' [.ref a, v1, v2, v3, v4, v5] h (mm_is (.inr kx) g)) (k : mm_Th Γ l M (d + 1) D pc ls kx g) : mm_W Γ l M (d + 1) D pc ls (v5 :: v4 :: v3 :: v2 :: v1 :: .ref a :: rest) h :=
  mm_callv (as := [v1, v2, v3, v4, v5]) (rest := rest) hd hL hb rfl (fun v hv => by simp only [List.mem_cons, List.not_mem_nil, or_false] at hv; rcases hv with rfl | rfl | rfl | rfl | rfl <;> assumption) hl hw hE (fun _ _ hh => by obtain ⟨h1, h2⟩ := hh; cases h1) (fun _ _ hh => by obtain ⟨h1, h2⟩ := hh; cases h1; cases h2; exact k)
theorem mm_v6 {Γ : mm_G} {l : Launch} {M : mm_M} {d : Nat} {D : mm_D} {pc : Nat} {ls : mm_L} {rest : List Value} {h : mm_H} {idx : Nat} {M' : mm_M} {g : mm_H} {v1 v2 v3 v4 v5 v6 : Value} {a : Nat} {ci : Nat} {fs : List Value} {r : Option Value} (hd : decode M.2.1 pc = .ok (.invokevirtual idx, 3)) (hL : mm_MV M.1.cls idx M' 6 ci) (hb : h.2.2 a = some (.inr (ci, fs))) (c1 : v1.category = 1) (c2 : v2.category = 1) (c3 : v3.category = 1) (c4 : v4.category = 1) (c5 : v5.category = 1) (c6 : v6.category = 1) (hl : 7 ≤ M'.2.2.1) (hw : (rest.map fun v => v.category).sum + (M'.2.2.1 + 11) ≤ 60) (hE : mm_Ev Γ l d M' [.ref a, v1, v2, v3, v4, v5, v6] h (mm_is (.inl r) g)) (k : mm_W Γ l M (d + 1) D (pc + 3) ls (r.toList ++ rest) g) : mm_W Γ l M (d + 1) D pc ls (v6 :: v5 :: v4 :: v3 :: v2 :: v1 :: .ref a :: rest) h :=
  mm_callv (as := [v1, v2, v3, v4, v5, v6]) (rest := rest) hd hL hb rfl (fun v hv => by simp only [List.mem_cons, List.not_mem_nil, or_false] at hv; rcases hv with rfl | rfl | rfl | rfl | rfl | rfl <;> assumption) hl hw hE (fun _ _ hh => by obtain ⟨h1, h2⟩ := hh; cases h1; cases h2; exact k) (fun _ _ hh => by obtain ⟨h1, h2⟩ := hh; cases h1)
theorem mm_v6t {Γ : mm_G} {l : Launch} {M : mm_M} {d : Nat} {D : mm_D} {pc : Nat} {ls : mm_L} {rest : List Value} {h : mm_H} {idx : Nat} {M' : mm_M} {g : mm_H} {v1 v2 v3 v4 v5 v6 : Value} {a : Nat} {ci : Nat} {fs : List Value} {kx : Nat} (hd : decode M.2.1 pc = .ok (.invokevirtual idx, 3)) (hL : mm_MV M.1.cls idx M' 6 ci) (hb : h.2.2 a = some (.inr (ci, fs))) (c1 : v1.category = 1) (c2 : v2.category = 1) (c3 : v3.category = 1) (c4 : v4.category = 1) (c5 : v5.category = 1) (c6 : v6.category = 1) (hl : 7 ≤ M'.2.2.1) (hw : (rest.map fun v => v.category).sum + (M'.2.2.1 + 11) ≤ 60) (hE : mm_Ev Γ l d M' [.ref a, v1, v2, v3, v4, v5, v6] h (mm_is (.inr kx) g)) (k : mm_Th Γ l M (d + 1) D pc ls kx g) : mm_W Γ l M (d + 1) D pc ls (v6 :: v5 :: v4 :: v3 :: v2 :: v1 :: .ref a :: rest) h :=
  mm_callv (as := [v1, v2, v3, v4, v5, v6]) (rest := rest) hd hL hb rfl (fun v hv => by simp only [List.mem_cons, List.not_mem_nil, or_false] at hv; rcases hv with rfl | rfl | rfl | rfl | rfl | rfl <;> assumption) hl hw hE (fun _ _ hh => by obtain ⟨h1, h2⟩ := hh; cases h1) (fun _ _ hh => by obtain ⟨h1, h2⟩ := hh; cases h1; cases h2; exact k)
theorem mm_v7 {Γ : mm_G} {l : Launch} {M : mm_M} {d : Nat} {D : mm_D} {pc : Nat} {ls : mm_L} {rest : List Value} {h : mm_H} {idx : Nat} {M' : mm_M} {g : mm_H} {v1 v2 v3 v4 v5 v6 v7 : Value} {a : Nat} {ci : Nat} {fs : List Value} {r : Option Value} (hd : decode M.2.1 pc = .ok (.invokevirtual idx, 3)) (hL : mm_MV M.1.cls idx M' 7 ci) (hb : h.2.2 a = some (.inr (ci, fs))) (c1 : v1.category = 1) (c2 : v2.category = 1) (c3 : v3.category = 1) (c4 : v4.category = 1) (c5 : v5.category = 1) (c6 : v6.category = 1) (c7 : v7.category = 1) (hl : 8 ≤ M'.2.2.1) (hw : (rest.map fun v => v.category).sum + (M'.2.2.1 + 11) ≤ 60) (hE : mm_Ev Γ l d M' [.ref a, v1, v2, v3, v4, v5, v6, v7] h (mm_is (.inl r) g)) (k : mm_W Γ l M (d + 1) D (pc + 3) ls (r.toList ++ rest) g) : mm_W Γ l M (d + 1) D pc ls (v7 :: v6 :: v5 :: v4 :: v3 :: v2 :: v1 :: .ref a :: rest) h :=
  mm_callv (as := [v1, v2, v3, v4, v5, v6, v7]) (rest := rest) hd hL hb rfl (fun v hv => by simp only [List.mem_cons, List.not_mem_nil, or_false] at hv; rcases hv with rfl | rfl | rfl | rfl | rfl | rfl | rfl <;> assumption) hl hw hE (fun _ _ hh => by obtain ⟨h1, h2⟩ := hh; cases h1; cases h2; exact k) (fun _ _ hh => by obtain ⟨h1, h2⟩ := hh; cases h1)
theorem mm_v7t {Γ : mm_G} {l : Launch} {M : mm_M} {d : Nat} {D : mm_D} {pc : Nat} {ls : mm_L} {rest : List Value} {h : mm_H} {idx : Nat} {M' : mm_M} {g : mm_H} {v1 v2 v3 v4 v5 v6 v7 : Value} {a : Nat} {ci : Nat} {fs : List Value} {kx : Nat} (hd : decode M.2.1 pc = .ok (.invokevirtual idx, 3)) (hL : mm_MV M.1.cls idx M' 7 ci) (hb : h.2.2 a = some (.inr (ci, fs))) (c1 : v1.category = 1) (c2 : v2.category = 1) (c3 : v3.category = 1) (c4 : v4.category = 1) (c5 : v5.category = 1) (c6 : v6.category = 1) (c7 : v7.category = 1) (hl : 8 ≤ M'.2.2.1) (hw : (rest.map fun v => v.category).sum + (M'.2.2.1 + 11) ≤ 60) (hE : mm_Ev Γ l d M' [.ref a, v1, v2, v3, v4, v5, v6, v7] h (mm_is (.inr kx) g)) (k : mm_Th Γ l M (d + 1) D pc ls kx g) : mm_W Γ l M (d + 1) D pc ls (v7 :: v6 :: v5 :: v4 :: v3 :: v2 :: v1 :: .ref a :: rest) h :=
  mm_callv (as := [v1, v2, v3, v4, v5, v6, v7]) (rest := rest) hd hL hb rfl (fun v hv => by simp only [List.mem_cons, List.not_mem_nil, or_false] at hv; rcases hv with rfl | rfl | rfl | rfl | rfl | rfl | rfl <;> assumption) hl hw hE (fun _ _ hh => by obtain ⟨h1, h2⟩ := hh; cases h1) (fun _ _ hh => by obtain ⟨h1, h2⟩ := hh; cases h1; cases h2; exact k)
theorem mm_i0 {Γ : mm_G} {l : Launch} {M : mm_M} {d : Nat} {D : mm_D} {pc : Nat} {ls : mm_L} {rest : List Value} {h : mm_H} {idx : Nat} {M' : mm_M} {g : mm_H} {a : Nat} {r : Option Value} (hd : decode M.2.1 pc = .ok (.invokespecial idx, 3)) (hL : mm_MI M.1.cls idx M' 0)  (hl : 1 ≤ M'.2.2.1) (hw : (rest.map fun v => v.category).sum + (M'.2.2.1 + 11) ≤ 60) (hE : mm_Ev Γ l d M' [.ref a] h (mm_is (.inl r) g)) (k : mm_W Γ l M (d + 1) D (pc + 3) ls (r.toList ++ rest) g) : mm_W Γ l M (d + 1) D pc ls (.ref a :: rest) h :=
  mm_calli (as := []) (rest := rest) hd hL rfl (fun v hv => nomatch hv) hl hw hE (fun _ _ hh => by obtain ⟨h1, h2⟩ := hh; cases h1; cases h2; exact k) (fun _ _ hh => by obtain ⟨h1, h2⟩ := hh; cases h1)
theorem mm_i0t {Γ : mm_G} {l : Launch} {M : mm_M} {d : Nat} {D : mm_D} {pc : Nat} {ls : mm_L} {rest : List Value} {h : mm_H} {idx : Nat} {M' : mm_M} {g : mm_H} {a : Nat} {kx : Nat} (hd : decode M.2.1 pc = .ok (.invokespecial idx, 3)) (hL : mm_MI M.1.cls idx M' 0)  (hl : 1 ≤ M'.2.2.1) (hw : (rest.map fun v => v.category).sum + (M'.2.2.1 + 11) ≤ 60) (hE : mm_Ev Γ l d M' [.ref a] h (mm_is (.inr kx) g)) (k : mm_Th Γ l M (d + 1) D pc ls kx g) : mm_W Γ l M (d + 1) D pc ls (.ref a :: rest) h :=
  mm_calli (as := []) (rest := rest) hd hL rfl (fun v hv => nomatch hv) hl hw hE (fun _ _ hh => by obtain ⟨h1, h2⟩ := hh; cases h1) (fun _ _ hh => by obtain ⟨h1, h2⟩ := hh; cases h1; cases h2; exact k)
theorem mm_i1 {Γ : mm_G} {l : Launch} {M : mm_M} {d : Nat} {D : mm_D} {pc : Nat} {ls : mm_L} {rest : List Value} {h : mm_H} {idx : Nat} {M' : mm_M} {g : mm_H} {v1 : Value} {a : Nat} {r : Option Value} (hd : decode M.2.1 pc = .ok (.invokespecial idx, 3)) (hL : mm_MI M.1.cls idx M' 1) (c1 : v1.category = 1) (hl : 2 ≤ M'.2.2.1) (hw : (rest.map fun v => v.category).sum + (M'.2.2.1 + 11) ≤ 60) (hE : mm_Ev Γ l d M' [.ref a, v1] h (mm_is (.inl r) g)) (k : mm_W Γ l M (d + 1) D (pc + 3) ls (r.toList ++ rest) g) : mm_W Γ l M (d + 1) D pc ls (v1 :: .ref a :: rest) h :=
  mm_calli (as := [v1]) (rest := rest) hd hL rfl (fun v hv => by simp only [List.mem_cons, List.not_mem_nil, or_false] at hv; rcases hv with rfl <;> assumption) hl hw hE (fun _ _ hh => by obtain ⟨h1, h2⟩ := hh; cases h1; cases h2; exact k) (fun _ _ hh => by obtain ⟨h1, h2⟩ := hh; cases h1)
theorem mm_i1t {Γ : mm_G} {l : Launch} {M : mm_M} {d : Nat} {D : mm_D} {pc : Nat} {ls : mm_L} {rest : List Value} {h : mm_H} {idx : Nat} {M' : mm_M} {g : mm_H} {v1 : Value} {a : Nat} {kx : Nat} (hd : decode M.2.1 pc = .ok (.invokespecial idx, 3)) (hL : mm_MI M.1.cls idx M' 1) (c1 : v1.category = 1) (hl : 2 ≤ M'.2.2.1) (hw : (rest.map fun v => v.category).sum + (M'.2.2.1 + 11) ≤ 60) (hE : mm_Ev Γ l d M' [.ref a, v1] h (mm_is (.inr kx) g)) (k : mm_Th Γ l M (d + 1) D pc ls kx g) : mm_W Γ l M (d + 1) D pc ls (v1 :: .ref a :: rest) h :=
  mm_calli (as := [v1]) (rest := rest) hd hL rfl (fun v hv => by simp only [List.mem_cons, List.not_mem_nil, or_false] at hv; rcases hv with rfl <;> assumption) hl hw hE (fun _ _ hh => by obtain ⟨h1, h2⟩ := hh; cases h1) (fun _ _ hh => by obtain ⟨h1, h2⟩ := hh; cases h1; cases h2; exact k)
theorem mm_i2 {Γ : mm_G} {l : Launch} {M : mm_M} {d : Nat} {D : mm_D} {pc : Nat} {ls : mm_L} {rest : List Value} {h : mm_H} {idx : Nat} {M' : mm_M} {g : mm_H} {v1 v2 : Value} {a : Nat} {r : Option Value} (hd : decode M.2.1 pc = .ok (.invokespecial idx, 3)) (hL : mm_MI M.1.cls idx M' 2) (c1 : v1.category = 1) (c2 : v2.category = 1) (hl : 3 ≤ M'.2.2.1) (hw : (rest.map fun v => v.category).sum + (M'.2.2.1 + 11) ≤ 60) (hE : mm_Ev Γ l d M' [.ref a, v1, v2] h (mm_is (.inl r) g)) (k : mm_W Γ l M (d + 1) D (pc + 3) ls (r.toList ++ rest) g) : mm_W Γ l M (d + 1) D pc ls (v2 :: v1 :: .ref a :: rest) h :=
  mm_calli (as := [v1, v2]) (rest := rest) hd hL rfl (fun v hv => by simp only [List.mem_cons, List.not_mem_nil, or_false] at hv; rcases hv with rfl | rfl <;> assumption) hl hw hE (fun _ _ hh => by obtain ⟨h1, h2⟩ := hh; cases h1; cases h2; exact k) (fun _ _ hh => by obtain ⟨h1, h2⟩ := hh; cases h1)
theorem mm_i2t {Γ : mm_G} {l : Launch} {M : mm_M} {d : Nat} {D : mm_D} {pc : Nat} {ls : mm_L} {rest : List Value} {h : mm_H} {idx : Nat} {M' : mm_M} {g : mm_H} {v1 v2 : Value} {a : Nat} {kx : Nat} (hd : decode M.2.1 pc = .ok (.invokespecial idx, 3)) (hL : mm_MI M.1.cls idx M' 2) (c1 : v1.category = 1) (c2 : v2.category = 1) (hl : 3 ≤ M'.2.2.1) (hw : (rest.map fun v => v.category).sum + (M'.2.2.1 + 11) ≤ 60) (hE : mm_Ev Γ l d M' [.ref a, v1, v2] h (mm_is (.inr kx) g)) (k : mm_Th Γ l M (d + 1) D pc ls kx g) : mm_W Γ l M (d + 1) D pc ls (v2 :: v1 :: .ref a :: rest) h :=
  mm_calli (as := [v1, v2]) (rest := rest) hd hL rfl (fun v hv => by simp only [List.mem_cons, List.not_mem_nil, or_false] at hv; rcases hv with rfl | rfl <;> assumption) hl hw hE (fun _ _ hh => by obtain ⟨h1, h2⟩ := hh; cases h1) (fun _ _ hh => by obtain ⟨h1, h2⟩ := hh; cases h1; cases h2; exact k)
theorem mm_i3 {Γ : mm_G} {l : Launch} {M : mm_M} {d : Nat} {D : mm_D} {pc : Nat} {ls : mm_L} {rest : List Value} {h : mm_H} {idx : Nat} {M' : mm_M} {g : mm_H} {v1 v2 v3 : Value} {a : Nat} {r : Option Value} (hd : decode M.2.1 pc = .ok (.invokespecial idx, 3)) (hL : mm_MI M.1.cls idx M' 3) (c1 : v1.category = 1) (c2 : v2.category = 1) (c3 : v3.category = 1) (hl : 4 ≤ M'.2.2.1) (hw : (rest.map fun v => v.category).sum + (M'.2.2.1 + 11) ≤ 60) (hE : mm_Ev Γ l d M' [.ref a, v1, v2, v3] h (mm_is (.inl r) g)) (k : mm_W Γ l M (d + 1) D (pc + 3) ls (r.toList ++ rest) g) : mm_W Γ l M (d + 1) D pc ls (v3 :: v2 :: v1 :: .ref a :: rest) h :=
  mm_calli (as := [v1, v2, v3]) (rest := rest) hd hL rfl (fun v hv => by simp only [List.mem_cons, List.not_mem_nil, or_false] at hv; rcases hv with rfl | rfl | rfl <;> assumption) hl hw hE (fun _ _ hh => by obtain ⟨h1, h2⟩ := hh; cases h1; cases h2; exact k) (fun _ _ hh => by obtain ⟨h1, h2⟩ := hh; cases h1)
theorem mm_i3t {Γ : mm_G} {l : Launch} {M : mm_M} {d : Nat} {D : mm_D} {pc : Nat} {ls : mm_L} {rest : List Value} {h : mm_H} {idx : Nat} {M' : mm_M} {g : mm_H} {v1 v2 v3 : Value} {a : Nat} {kx : Nat} (hd : decode M.2.1 pc = .ok (.invokespecial idx, 3)) (hL : mm_MI M.1.cls idx M' 3) (c1 : v1.category = 1) (c2 : v2.category = 1) (c3 : v3.category = 1) (hl : 4 ≤ M'.2.2.1) (hw : (rest.map fun v => v.category).sum + (M'.2.2.1 + 11) ≤ 60) (hE : mm_Ev Γ l d M' [.ref a, v1, v2, v3] h (mm_is (.inr kx) g)) (k : mm_Th Γ l M (d + 1) D pc ls kx g) : mm_W Γ l M (d + 1) D pc ls (v3 :: v2 :: v1 :: .ref a :: rest) h :=
  mm_calli (as := [v1, v2, v3]) (rest := rest) hd hL rfl (fun v hv => by simp only [List.mem_cons, List.not_mem_nil, or_false] at hv; rcases hv with rfl | rfl | rfl <;> assumption) hl hw hE (fun _ _ hh => by obtain ⟨h1, h2⟩ := hh; cases h1) (fun _ _ hh => by obtain ⟨h1, h2⟩ := hh; cases h1; cases h2; exact k)
theorem mm_i4 {Γ : mm_G} {l : Launch} {M : mm_M} {d : Nat} {D : mm_D} {pc : Nat} {ls : mm_L} {rest : List Value} {h : mm_H} {idx : Nat} {M' : mm_M} {g : mm_H} {v1 v2 v3 v4 : Value} {a : Nat} {r : Option Value} (hd : decode M.2.1 pc = .ok (.invokespecial idx, 3)) (hL : mm_MI M.1.cls idx M' 4) (c1 : v1.category = 1) (c2 : v2.category = 1) (c3 : v3.category = 1) (c4 : v4.category = 1) (hl : 5 ≤ M'.2.2.1) (hw : (rest.map fun v => v.category).sum + (M'.2.2.1 + 11) ≤ 60) (hE : mm_Ev Γ l d M' [.ref a, v1, v2, v3, v4] h (mm_is (.inl r) g)) (k : mm_W Γ l M (d + 1) D (pc + 3) ls (r.toList ++ rest) g) : mm_W Γ l M (d + 1) D pc ls (v4 :: v3 :: v2 :: v1 :: .ref a :: rest) h :=
  mm_calli (as := [v1, v2, v3, v4]) (rest := rest) hd hL rfl (fun v hv => by simp only [List.mem_cons, List.not_mem_nil, or_false] at hv; rcases hv with rfl | rfl | rfl | rfl <;> assumption) hl hw hE (fun _ _ hh => by obtain ⟨h1, h2⟩ := hh; cases h1; cases h2; exact k) (fun _ _ hh => by obtain ⟨h1, h2⟩ := hh; cases h1)
theorem mm_i4t {Γ : mm_G} {l : Launch} {M : mm_M} {d : Nat} {D : mm_D} {pc : Nat} {ls : mm_L} {rest : List Value} {h : mm_H} {idx : Nat} {M' : mm_M} {g : mm_H} {v1 v2 v3 v4 : Value} {a : Nat} {kx : Nat} (hd : decode M.2.1 pc = .ok (.invokespecial idx, 3)) (hL : mm_MI M.1.cls idx M' 4) (c1 : v1.category = 1) (c2 : v2.category = 1) (c3 : v3.category = 1) (c4 : v4.category = 1) (hl : 5 ≤ M'.2.2.1) (hw : (rest.map fun v => v.category).sum + (M'.2.2.1 + 11) ≤ 60) (hE : mm_Ev Γ l d M' [.ref a, v1, v2, v3, v4] h (mm_is (.inr kx) g)) (k : mm_Th Γ l M (d + 1) D pc ls kx g) : mm_W Γ l M (d + 1) D pc ls (v4 :: v3 :: v2 :: v1 :: .ref a :: rest) h :=
  mm_calli (as := [v1, v2, v3, v4]) (rest := rest) hd hL rfl (fun v hv => by simp only [List.mem_cons, List.not_mem_nil, or_false] at hv; rcases hv with rfl | rfl | rfl | rfl <;> assumption) hl hw hE (fun _ _ hh => by obtain ⟨h1, h2⟩ := hh; cases h1) (fun _ _ hh => by obtain ⟨h1, h2⟩ := hh; cases h1; cases h2; exact k)
theorem mm_i5 {Γ : mm_G} {l : Launch} {M : mm_M} {d : Nat} {D : mm_D} {pc : Nat} {ls : mm_L} {rest : List Value} {h : mm_H} {idx : Nat} {M' : mm_M} {g : mm_H} {v1 v2 v3 v4 v5 : Value} {a : Nat} {r : Option Value} (hd : decode M.2.1 pc = .ok (.invokespecial idx, 3)) (hL : mm_MI M.1.cls idx M' 5) (c1 : v1.category = 1) (c2 : v2.category = 1) (c3 : v3.category = 1) (c4 : v4.category = 1) (c5 : v5.category = 1) (hl : 6 ≤ M'.2.2.1) (hw : (rest.map fun v => v.category).sum + (M'.2.2.1 + 11) ≤ 60) (hE : mm_Ev Γ l d M' [.ref a, v1, v2, v3, v4, v5] h (mm_is (.inl r) g)) (k : mm_W Γ l M (d + 1) D (pc + 3) ls (r.toList ++ rest) g) : mm_W Γ l M (d + 1) D pc ls (v5 :: v4 :: v3 :: v2 :: v1 :: .ref a :: rest) h :=
  mm_calli (as := [v1, v2, v3, v4, v5]) (rest := rest) hd hL rfl (fun v hv => by simp only [List.mem_cons, List.not_mem_nil, or_false] at hv; rcases hv with rfl | rfl | rfl | rfl | rfl <;> assumption) hl hw hE (fun _ _ hh => by obtain ⟨h1, h2⟩ := hh; cases h1; cases h2; exact k) (fun _ _ hh => by obtain ⟨h1, h2⟩ := hh; cases h1)
theorem mm_i5t {Γ : mm_G} {l : Launch} {M : mm_M} {d : Nat} {D : mm_D} {pc : Nat} {ls : mm_L} {rest : List Value} {h : mm_H} {idx : Nat} {M' : mm_M} {g : mm_H} {v1 v2 v3 v4 v5 : Value} {a : Nat} {kx : Nat} (hd : decode M.2.1 pc = .ok (.invokespecial idx, 3)) (hL : mm_MI M.1.cls idx M' 5) (c1 : v1.category = 1) (c2 : v2.category = 1) (c3 : v3.category = 1) (c4 : v4.category = 1) (c5 : v5.category = 1) (hl : 6 ≤ M'.2.2.1) (hw : (rest.map fun v => v.category).sum + (M'.2.2.1 + 11) ≤ 60) (hE : mm_Ev Γ l d M' [.ref a, v1, v2, v3, v4, v5] h (mm_is (.inr kx) g)) (k : mm_Th Γ l M (d + 1) D pc ls kx g) : mm_W Γ l M (d + 1) D pc ls (v5 :: v4 :: v3 :: v2 :: v1 :: .ref a :: rest) h :=
  mm_calli (as := [v1, v2, v3, v4, v5]) (rest := rest) hd hL rfl (fun v hv => by simp only [List.mem_cons, List.not_mem_nil, or_false] at hv; rcases hv with rfl | rfl | rfl | rfl | rfl <;> assumption) hl hw hE (fun _ _ hh => by obtain ⟨h1, h2⟩ := hh; cases h1) (fun _ _ hh => by obtain ⟨h1, h2⟩ := hh; cases h1; cases h2; exact k)
theorem mm_i6 {Γ : mm_G} {l : Launch} {M : mm_M} {d : Nat} {D : mm_D} {pc : Nat} {ls : mm_L} {rest : List Value} {h : mm_H} {idx : Nat} {M' : mm_M} {g : mm_H} {v1 v2 v3 v4 v5 v6 : Value} {a : Nat} {r : Option Value} (hd : decode M.2.1 pc = .ok (.invokespecial idx, 3)) (hL : mm_MI M.1.cls idx M' 6) (c1 : v1.category = 1) (c2 : v2.category = 1) (c3 : v3.category = 1) (c4 : v4.category = 1) (c5 : v5.category = 1) (c6 : v6.category = 1) (hl : 7 ≤ M'.2.2.1) (hw : (rest.map fun v => v.category).sum + (M'.2.2.1 + 11) ≤ 60) (hE : mm_Ev Γ l d M' [.ref a, v1, v2, v3, v4, v5, v6] h (mm_is (.inl r) g)) (k : mm_W Γ l M (d + 1) D (pc + 3) ls (r.toList ++ rest) g) : mm_W Γ l M (d + 1) D pc ls (v6 :: v5 :: v4 :: v3 :: v2 :: v1 :: .ref a :: rest) h :=
  mm_calli (as := [v1, v2, v3, v4, v5, v6]) (rest := rest) hd hL rfl (fun v hv => by simp only [List.mem_cons, List.not_mem_nil, or_false] at hv; rcases hv with rfl | rfl | rfl | rfl | rfl | rfl <;> assumption) hl hw hE (fun _ _ hh => by obtain ⟨h1, h2⟩ := hh; cases h1; cases h2; exact k) (fun _ _ hh => by obtain ⟨h1, h2⟩ := hh; cases h1)
theorem mm_i6t {Γ : mm_G} {l : Launch} {M : mm_M} {d : Nat} {D : mm_D} {pc : Nat} {ls : mm_L} {rest : List Value} {h : mm_H} {idx : Nat} {M' : mm_M} {g : mm_H} {v1 v2 v3 v4 v5 v6 : Value} {a : Nat} {kx : Nat} (hd : decode M.2.1 pc = .ok (.invokespecial idx, 3)) (hL : mm_MI M.1.cls idx M' 6) (c1 : v1.category = 1) (c2 : v2.category = 1) (c3 : v3.category = 1) (c4 : v4.category = 1) (c5 : v5.category = 1) (c6 : v6.category = 1) (hl : 7 ≤ M'.2.2.1) (hw : (rest.map fun v => v.category).sum + (M'.2.2.1 + 11) ≤ 60) (hE : mm_Ev Γ l d M' [.ref a, v1, v2, v3, v4, v5, v6] h (mm_is (.inr kx) g)) (k : mm_Th Γ l M (d + 1) D pc ls kx g) : mm_W Γ l M (d + 1) D pc ls (v6 :: v5 :: v4 :: v3 :: v2 :: v1 :: .ref a :: rest) h :=
  mm_calli (as := [v1, v2, v3, v4, v5, v6]) (rest := rest) hd hL rfl (fun v hv => by simp only [List.mem_cons, List.not_mem_nil, or_false] at hv; rcases hv with rfl | rfl | rfl | rfl | rfl | rfl <;> assumption) hl hw hE (fun _ _ hh => by obtain ⟨h1, h2⟩ := hh; cases h1) (fun _ _ hh => by obtain ⟨h1, h2⟩ := hh; cases h1; cases h2; exact k)
theorem mm_i7 {Γ : mm_G} {l : Launch} {M : mm_M} {d : Nat} {D : mm_D} {pc : Nat} {ls : mm_L} {rest : List Value} {h : mm_H} {idx : Nat} {M' : mm_M} {g : mm_H} {v1 v2 v3 v4 v5 v6 v7 : Value} {a : Nat} {r : Option Value} (hd : decode M.2.1 pc = .ok (.invokespecial idx, 3)) (hL : mm_MI M.1.cls idx M' 7) (c1 : v1.category = 1) (c2 : v2.category = 1) (c3 : v3.category = 1) (c4 : v4.category = 1) (c5 : v5.category = 1) (c6 : v6.category = 1) (c7 : v7.category = 1) (hl : 8 ≤ M'.2.2.1) (hw : (rest.map fun v => v.category).sum + (M'.2.2.1 + 11) ≤ 60) (hE : mm_Ev Γ l d M' [.ref a, v1, v2, v3, v4, v5, v6, v7] h (mm_is (.inl r) g)) (k : mm_W Γ l M (d + 1) D (pc + 3) ls (r.toList ++ rest) g) : mm_W Γ l M (d + 1) D pc ls (v7 :: v6 :: v5 :: v4 :: v3 :: v2 :: v1 :: .ref a :: rest) h :=
  mm_calli (as := [v1, v2, v3, v4, v5, v6, v7]) (rest := rest) hd hL rfl (fun v hv => by simp only [List.mem_cons, List.not_mem_nil, or_false] at hv; rcases hv with rfl | rfl | rfl | rfl | rfl | rfl | rfl <;> assumption) hl hw hE (fun _ _ hh => by obtain ⟨h1, h2⟩ := hh; cases h1; cases h2; exact k) (fun _ _ hh => by obtain ⟨h1, h2⟩ := hh; cases h1)
theorem mm_i7t {Γ : mm_G} {l : Launch} {M : mm_M} {d : Nat} {D : mm_D} {pc : Nat} {ls : mm_L} {rest : List Value} {h : mm_H} {idx : Nat} {M' : mm_M} {g : mm_H} {v1 v2 v3 v4 v5 v6 v7 : Value} {a : Nat} {kx : Nat} (hd : decode M.2.1 pc = .ok (.invokespecial idx, 3)) (hL : mm_MI M.1.cls idx M' 7) (c1 : v1.category = 1) (c2 : v2.category = 1) (c3 : v3.category = 1) (c4 : v4.category = 1) (c5 : v5.category = 1) (c6 : v6.category = 1) (c7 : v7.category = 1) (hl : 8 ≤ M'.2.2.1) (hw : (rest.map fun v => v.category).sum + (M'.2.2.1 + 11) ≤ 60) (hE : mm_Ev Γ l d M' [.ref a, v1, v2, v3, v4, v5, v6, v7] h (mm_is (.inr kx) g)) (k : mm_Th Γ l M (d + 1) D pc ls kx g) : mm_W Γ l M (d + 1) D pc ls (v7 :: v6 :: v5 :: v4 :: v3 :: v2 :: v1 :: .ref a :: rest) h :=
  mm_calli (as := [v1, v2, v3, v4, v5, v6, v7]) (rest := rest) hd hL rfl (fun v hv => by simp only [List.mem_cons, List.not_mem_nil, or_false] at hv; rcases hv with rfl | rfl | rfl | rfl | rfl | rfl | rfl <;> assumption) hl hw hE (fun _ _ hh => by obtain ⟨h1, h2⟩ := hh; cases h1) (fun _ _ hh => by obtain ⟨h1, h2⟩ := hh; cases h1; cases h2; exact k)
end
section
/-! Branch rows over numbers, printed by wip/whole/gen_nat.py -/
/-- a number or none -/
def mm_enc (o : Option Nat) : Int32 := match o with
  | none => -1
  | some n => nI n
def mm_bI (b : Bool) : Int32 := if b then 1 else 0
def mm_sm (o : Option Nat) : Prop := ∀ n, o = some n → n < 2 ^ 31
theorem mm_sm_none : mm_sm none := fun n h => nomatch h
theorem mm_sm_some {k : Nat} (h : k < 2 ^ 31) : mm_sm (some k) := fun n e => by cases e; exact h
theorem mm_neg_ne {n : Nat} (h : n < 2 ^ 31) : ¬ nI n = -1 := by
  intro e
  have h1 := congrArg Int32.toInt e
  rw [nI_toInt h] at h1
  have h2 : (-1 : Int32).toInt = -1 := by decide
  omega
theorem mm_enc_none {o : Option Nat} (hs : mm_sm o) : mm_enc o = -1 ↔ o = none := by
  cases o with
  | none => exact ⟨fun _ => rfl, fun _ => rfl⟩
  | some n => exact ⟨fun e => absurd e (mm_neg_ne (hs n rfl)), fun e => nomatch e⟩
theorem mm_enc_some {o : Option Nat} {k : Nat} (hs : mm_sm o) (hk : k < 2 ^ 31) : mm_enc o = nI k ↔ o = some k := by
  cases o with
  | none => exact ⟨fun e => absurd e.symm (mm_neg_ne hk), fun e => nomatch e⟩
  | some n => exact ⟨fun e => by rw [(nI_eq (hs n rfl) hk).mp e], fun e => by cases e; rfl⟩
theorem mm_enc_eq {o o' : Option Nat} (hs : mm_sm o) (hs' : mm_sm o') : mm_enc o = mm_enc o' ↔ o = o' := by
  cases o' with
  | none => exact mm_enc_none hs
  | some k => exact mm_enc_some hs (hs' k rfl)
theorem mm_bI_0 {b : Bool} : mm_bI b = 0 ↔ b = false := by cases b <;> decide
theorem mm_bI_narrow (b : Bool) : narrow .boolean (.int (mm_bI b)) = .int (mm_bI b) := by cases b <;> rfl
theorem mm_nI0 {a : Nat} (h : a < 2 ^ 31) : nI a = 0 ↔ a = 0 := nI_eq (b := 0) h (by decide)
theorem mm_icmp_eq_n {Γ : mm_G} {l : Launch} {M : mm_M} {d : Nat} {D : mm_D} {pc : Nat} {ls : mm_L} {st : List Value} {h : mm_H} {off : Int} {tgt : Nat} {a b : Nat} (hd : decode M.2.1 pc = .ok (.if_icmp .eq off, 3)) (ht : (pc : Int) + off = (tgt : Int)) (ha : a < 2 ^ 31) (hb : b < 2 ^ 31) (kt : a = b → mm_W Γ l M d D (tgt) ls (st) h) (kf : ¬ a = b → mm_W Γ l M d D (pc + 3) ls (st) h) : mm_W Γ l M d D (pc) ls (.int (nI b) :: .int (nI a) :: st) h :=
  mm_icmp_eq hd ht (fun q => kt ((nI_eq ha hb).mp q)) (fun q => kf (fun w => q ((nI_eq ha hb).mpr w)))
theorem mm_icmp_ne_n {Γ : mm_G} {l : Launch} {M : mm_M} {d : Nat} {D : mm_D} {pc : Nat} {ls : mm_L} {st : List Value} {h : mm_H} {off : Int} {tgt : Nat} {a b : Nat} (hd : decode M.2.1 pc = .ok (.if_icmp .ne off, 3)) (ht : (pc : Int) + off = (tgt : Int)) (ha : a < 2 ^ 31) (hb : b < 2 ^ 31) (kt : ¬ a = b → mm_W Γ l M d D (tgt) ls (st) h) (kf : a = b → mm_W Γ l M d D (pc + 3) ls (st) h) : mm_W Γ l M d D (pc) ls (.int (nI b) :: .int (nI a) :: st) h :=
  mm_icmp_ne hd ht (fun q => kt (fun w => q ((nI_eq ha hb).mpr w))) (fun q => kf ((nI_eq ha hb).mp q))
theorem mm_icmp_lt_n {Γ : mm_G} {l : Launch} {M : mm_M} {d : Nat} {D : mm_D} {pc : Nat} {ls : mm_L} {st : List Value} {h : mm_H} {off : Int} {tgt : Nat} {a b : Nat} (hd : decode M.2.1 pc = .ok (.if_icmp .lt off, 3)) (ht : (pc : Int) + off = (tgt : Int)) (ha : a < 2 ^ 31) (hb : b < 2 ^ 31) (kt : a < b → mm_W Γ l M d D (tgt) ls (st) h) (kf : b ≤ a → mm_W Γ l M d D (pc + 3) ls (st) h) : mm_W Γ l M d D (pc) ls (.int (nI b) :: .int (nI a) :: st) h :=
  mm_icmp_lt hd ht (fun q => kt ((nI_ltI ha hb).mp q)) (fun q => kf (Nat.le_of_not_lt fun w => q ((nI_ltI ha hb).mpr w)))
theorem mm_icmp_ge_n {Γ : mm_G} {l : Launch} {M : mm_M} {d : Nat} {D : mm_D} {pc : Nat} {ls : mm_L} {st : List Value} {h : mm_H} {off : Int} {tgt : Nat} {a b : Nat} (hd : decode M.2.1 pc = .ok (.if_icmp .ge off, 3)) (ht : (pc : Int) + off = (tgt : Int)) (ha : a < 2 ^ 31) (hb : b < 2 ^ 31) (kt : b ≤ a → mm_W Γ l M d D (tgt) ls (st) h) (kf : a < b → mm_W Γ l M d D (pc + 3) ls (st) h) : mm_W Γ l M d D (pc) ls (.int (nI b) :: .int (nI a) :: st) h :=
  mm_icmp_ge hd ht (fun q => kt ((nI_leI hb ha).mp q)) (fun q => kf (Nat.lt_of_not_le fun w => q ((nI_leI hb ha).mpr w)))
theorem mm_icmp_gt_n {Γ : mm_G} {l : Launch} {M : mm_M} {d : Nat} {D : mm_D} {pc : Nat} {ls : mm_L} {st : List Value} {h : mm_H} {off : Int} {tgt : Nat} {a b : Nat} (hd : decode M.2.1 pc = .ok (.if_icmp .gt off, 3)) (ht : (pc : Int) + off = (tgt : Int)) (ha : a < 2 ^ 31) (hb : b < 2 ^ 31) (kt : b < a → mm_W Γ l M d D (tgt) ls (st) h) (kf : a ≤ b → mm_W Γ l M d D (pc + 3) ls (st) h) : mm_W Γ l M d D (pc) ls (.int (nI b) :: .int (nI a) :: st) h :=
  mm_icmp_gt hd ht (fun q => kt ((nI_ltI hb ha).mp q)) (fun q => kf (Nat.le_of_not_lt fun w => q ((nI_ltI hb ha).mpr w)))
theorem mm_icmp_le_n {Γ : mm_G} {l : Launch} {M : mm_M} {d : Nat} {D : mm_D} {pc : Nat} {ls : mm_L} {st : List Value} {h : mm_H} {off : Int} {tgt : Nat} {a b : Nat} (hd : decode M.2.1 pc = .ok (.if_icmp .le off, 3)) (ht : (pc : Int) + off = (tgt : Int)) (ha : a < 2 ^ 31) (hb : b < 2 ^ 31) (kt : a ≤ b → mm_W Γ l M d D (tgt) ls (st) h) (kf : b < a → mm_W Γ l M d D (pc + 3) ls (st) h) : mm_W Γ l M d D (pc) ls (.int (nI b) :: .int (nI a) :: st) h :=
  mm_icmp_le hd ht (fun q => kt ((nI_leI ha hb).mp q)) (fun q => kf (Nat.lt_of_not_le fun w => q ((nI_leI ha hb).mpr w)))
theorem mm_if_eq_n {Γ : mm_G} {l : Launch} {M : mm_M} {d : Nat} {D : mm_D} {pc : Nat} {ls : mm_L} {st : List Value} {h : mm_H} {off : Int} {tgt : Nat} {a : Nat} (hd : decode M.2.1 pc = .ok (.ifCond .eq off, 3)) (ht : (pc : Int) + off = (tgt : Int)) (ha : a < 2 ^ 31) (kt : a = 0 → mm_W Γ l M d D (tgt) ls (st) h) (kf : ¬ a = 0 → mm_W Γ l M d D (pc + 3) ls (st) h) : mm_W Γ l M d D (pc) ls (.int (nI a) :: st) h :=
  mm_if_eq hd ht (fun q => kt ((mm_nI0 ha).mp q)) (fun q => kf (fun w => q ((mm_nI0 ha).mpr w)))
theorem mm_if_ne_n {Γ : mm_G} {l : Launch} {M : mm_M} {d : Nat} {D : mm_D} {pc : Nat} {ls : mm_L} {st : List Value} {h : mm_H} {off : Int} {tgt : Nat} {a : Nat} (hd : decode M.2.1 pc = .ok (.ifCond .ne off, 3)) (ht : (pc : Int) + off = (tgt : Int)) (ha : a < 2 ^ 31) (kt : ¬ a = 0 → mm_W Γ l M d D (tgt) ls (st) h) (kf : a = 0 → mm_W Γ l M d D (pc + 3) ls (st) h) : mm_W Γ l M d D (pc) ls (.int (nI a) :: st) h :=
  mm_if_ne hd ht (fun q => kt (fun w => q ((mm_nI0 ha).mpr w))) (fun q => kf ((mm_nI0 ha).mp q))
theorem mm_if_gt_n {Γ : mm_G} {l : Launch} {M : mm_M} {d : Nat} {D : mm_D} {pc : Nat} {ls : mm_L} {st : List Value} {h : mm_H} {off : Int} {tgt : Nat} {a : Nat} (hd : decode M.2.1 pc = .ok (.ifCond .gt off, 3)) (ht : (pc : Int) + off = (tgt : Int)) (ha : a < 2 ^ 31) (kt : 0 < a → mm_W Γ l M d D (tgt) ls (st) h) (kf : a = 0 → mm_W Γ l M d D (pc + 3) ls (st) h) : mm_W Γ l M d D (pc) ls (.int (nI a) :: st) h :=
  mm_if_gt hd ht (fun q => kt ((nI_ltI (a := 0) (by decide) ha).mp q)) (fun q => kf (Nat.le_zero.mp (Nat.le_of_not_lt fun w => q ((nI_ltI (a := 0) (by decide) ha).mpr w))))
theorem mm_if_le_n {Γ : mm_G} {l : Launch} {M : mm_M} {d : Nat} {D : mm_D} {pc : Nat} {ls : mm_L} {st : List Value} {h : mm_H} {off : Int} {tgt : Nat} {a : Nat} (hd : decode M.2.1 pc = .ok (.ifCond .le off, 3)) (ht : (pc : Int) + off = (tgt : Int)) (ha : a < 2 ^ 31) (kt : a = 0 → mm_W Γ l M d D (tgt) ls (st) h) (kf : 0 < a → mm_W Γ l M d D (pc + 3) ls (st) h) : mm_W Γ l M d D (pc) ls (.int (nI a) :: st) h :=
  mm_if_le hd ht (fun q => kt (Nat.le_zero.mp ((nI_leI (b := 0) ha (by decide)).mp q))) (fun q => kf (Nat.lt_of_not_le fun w => q ((nI_leI (b := 0) ha (by decide)).mpr w)))
theorem mm_if_eq_b {Γ : mm_G} {l : Launch} {M : mm_M} {d : Nat} {D : mm_D} {pc : Nat} {ls : mm_L} {st : List Value} {h : mm_H} {off : Int} {tgt : Nat} {b : Bool} (hd : decode M.2.1 pc = .ok (.ifCond .eq off, 3)) (ht : (pc : Int) + off = (tgt : Int))  (kt : b = false → mm_W Γ l M d D (tgt) ls (st) h) (kf : b = true → mm_W Γ l M d D (pc + 3) ls (st) h) : mm_W Γ l M d D (pc) ls (.int (mm_bI b) :: st) h :=
  mm_if_eq hd ht (fun q => kt (mm_bI_0.mp q)) (fun q => kf ((by cases b with | true => rfl | false => exact absurd rfl q)))
theorem mm_if_ne_b {Γ : mm_G} {l : Launch} {M : mm_M} {d : Nat} {D : mm_D} {pc : Nat} {ls : mm_L} {st : List Value} {h : mm_H} {off : Int} {tgt : Nat} {b : Bool} (hd : decode M.2.1 pc = .ok (.ifCond .ne off, 3)) (ht : (pc : Int) + off = (tgt : Int))  (kt : b = true → mm_W Γ l M d D (tgt) ls (st) h) (kf : b = false → mm_W Γ l M d D (pc + 3) ls (st) h) : mm_W Γ l M d D (pc) ls (.int (mm_bI b) :: st) h :=
  mm_if_ne hd ht (fun q => kt ((by cases b with | true => rfl | false => exact absurd rfl q))) (fun q => kf (mm_bI_0.mp q))
theorem mm_icmp_eq_o {Γ : mm_G} {l : Launch} {M : mm_M} {d : Nat} {D : mm_D} {pc : Nat} {ls : mm_L} {st : List Value} {h : mm_H} {off : Int} {tgt : Nat} {o : Option Nat} (hd : decode M.2.1 pc = .ok (.if_icmp .eq off, 3)) (ht : (pc : Int) + off = (tgt : Int)) (hs : mm_sm o) (kt : o = none → mm_W Γ l M d D (tgt) ls (st) h) (kf : ¬ o = none → mm_W Γ l M d D (pc + 3) ls (st) h) : mm_W Γ l M d D (pc) ls (.int (-1) :: .int (mm_enc o) :: st) h :=
  mm_icmp_eq hd ht (fun q => kt ((mm_enc_none hs).mp q)) (fun q => kf (fun w => q ((mm_enc_none hs).mpr w)))
theorem mm_icmp_eq_k {Γ : mm_G} {l : Launch} {M : mm_M} {d : Nat} {D : mm_D} {pc : Nat} {ls : mm_L} {st : List Value} {h : mm_H} {off : Int} {tgt : Nat} {o : Option Nat} {k : Nat} (hd : decode M.2.1 pc = .ok (.if_icmp .eq off, 3)) (ht : (pc : Int) + off = (tgt : Int)) (hs : mm_sm o) (hk : k < 2 ^ 31) (kt : o = some k → mm_W Γ l M d D (tgt) ls (st) h) (kf : ¬ o = some k → mm_W Γ l M d D (pc + 3) ls (st) h) : mm_W Γ l M d D (pc) ls (.int (nI k) :: .int (mm_enc o) :: st) h :=
  mm_icmp_eq hd ht (fun q => kt ((mm_enc_some hs hk).mp q)) (fun q => kf (fun w => q ((mm_enc_some hs hk).mpr w)))
theorem mm_icmp_eq_e {Γ : mm_G} {l : Launch} {M : mm_M} {d : Nat} {D : mm_D} {pc : Nat} {ls : mm_L} {st : List Value} {h : mm_H} {off : Int} {tgt : Nat} {o o' : Option Nat} (hd : decode M.2.1 pc = .ok (.if_icmp .eq off, 3)) (ht : (pc : Int) + off = (tgt : Int)) (hs : mm_sm o) (hs' : mm_sm o') (kt : o = o' → mm_W Γ l M d D (tgt) ls (st) h) (kf : ¬ o = o' → mm_W Γ l M d D (pc + 3) ls (st) h) : mm_W Γ l M d D (pc) ls (.int (mm_enc o') :: .int (mm_enc o) :: st) h :=
  mm_icmp_eq hd ht (fun q => kt ((mm_enc_eq hs hs').mp q)) (fun q => kf (fun w => q ((mm_enc_eq hs hs').mpr w)))
theorem mm_icmp_eq_r {Γ : mm_G} {l : Launch} {M : mm_M} {d : Nat} {D : mm_D} {pc : Nat} {ls : mm_L} {st : List Value} {h : mm_H} {off : Int} {tgt : Nat} {o : Option Nat} {k : Nat} (hd : decode M.2.1 pc = .ok (.if_icmp .eq off, 3)) (ht : (pc : Int) + off = (tgt : Int)) (hs : mm_sm o) (hk : k < 2 ^ 31) (kt : o = some k → mm_W Γ l M d D (tgt) ls (st) h) (kf : ¬ o = some k → mm_W Γ l M d D (pc + 3) ls (st) h) : mm_W Γ l M d D (pc) ls (.int (mm_enc o) :: .int (nI k) :: st) h :=
  mm_icmp_eq hd ht (fun q => kt ((mm_enc_some hs hk).mp q.symm)) (fun q => kf (fun w => q ((mm_enc_some hs hk).mpr w).symm))
theorem mm_icmp_ne_o {Γ : mm_G} {l : Launch} {M : mm_M} {d : Nat} {D : mm_D} {pc : Nat} {ls : mm_L} {st : List Value} {h : mm_H} {off : Int} {tgt : Nat} {o : Option Nat} (hd : decode M.2.1 pc = .ok (.if_icmp .ne off, 3)) (ht : (pc : Int) + off = (tgt : Int)) (hs : mm_sm o) (kt : ¬ o = none → mm_W Γ l M d D (tgt) ls (st) h) (kf : o = none → mm_W Γ l M d D (pc + 3) ls (st) h) : mm_W Γ l M d D (pc) ls (.int (-1) :: .int (mm_enc o) :: st) h :=
  mm_icmp_ne hd ht (fun q => kt (fun w => q ((mm_enc_none hs).mpr w))) (fun q => kf ((mm_enc_none hs).mp q))
theorem mm_icmp_ne_k {Γ : mm_G} {l : Launch} {M : mm_M} {d : Nat} {D : mm_D} {pc : Nat} {ls : mm_L} {st : List Value} {h : mm_H} {off : Int} {tgt : Nat} {o : Option Nat} {k : Nat} (hd : decode M.2.1 pc = .ok (.if_icmp .ne off, 3)) (ht : (pc : Int) + off = (tgt : Int)) (hs : mm_sm o) (hk : k < 2 ^ 31) (kt : ¬ o = some k → mm_W Γ l M d D (tgt) ls (st) h) (kf : o = some k → mm_W Γ l M d D (pc + 3) ls (st) h) : mm_W Γ l M d D (pc) ls (.int (nI k) :: .int (mm_enc o) :: st) h :=
  mm_icmp_ne hd ht (fun q => kt (fun w => q ((mm_enc_some hs hk).mpr w))) (fun q => kf ((mm_enc_some hs hk).mp q))
theorem mm_icmp_ne_e {Γ : mm_G} {l : Launch} {M : mm_M} {d : Nat} {D : mm_D} {pc : Nat} {ls : mm_L} {st : List Value} {h : mm_H} {off : Int} {tgt : Nat} {o o' : Option Nat} (hd : decode M.2.1 pc = .ok (.if_icmp .ne off, 3)) (ht : (pc : Int) + off = (tgt : Int)) (hs : mm_sm o) (hs' : mm_sm o') (kt : ¬ o = o' → mm_W Γ l M d D (tgt) ls (st) h) (kf : o = o' → mm_W Γ l M d D (pc + 3) ls (st) h) : mm_W Γ l M d D (pc) ls (.int (mm_enc o') :: .int (mm_enc o) :: st) h :=
  mm_icmp_ne hd ht (fun q => kt (fun w => q ((mm_enc_eq hs hs').mpr w))) (fun q => kf ((mm_enc_eq hs hs').mp q))
theorem mm_icmp_ne_r {Γ : mm_G} {l : Launch} {M : mm_M} {d : Nat} {D : mm_D} {pc : Nat} {ls : mm_L} {st : List Value} {h : mm_H} {off : Int} {tgt : Nat} {o : Option Nat} {k : Nat} (hd : decode M.2.1 pc = .ok (.if_icmp .ne off, 3)) (ht : (pc : Int) + off = (tgt : Int)) (hs : mm_sm o) (hk : k < 2 ^ 31) (kt : ¬ o = some k → mm_W Γ l M d D (tgt) ls (st) h) (kf : o = some k → mm_W Γ l M d D (pc + 3) ls (st) h) : mm_W Γ l M d D (pc) ls (.int (mm_enc o) :: .int (nI k) :: st) h :=
  mm_icmp_ne hd ht (fun q => kt (fun w => q ((mm_enc_some hs hk).mpr w).symm)) (fun q => kf ((mm_enc_some hs hk).mp q.symm))
section MMcong
variable {Γ : mm_G} {l : Launch} {M : mm_M} {d : Nat} {D : mm_D} {pc : Nat} {ls : mm_L} {st : List Value} {h : mm_H}
theorem mm_arr_eq (cA : ClassId) {n : Nat} {f g : Nat → Value} (hf : ∀ i, i < n → f i = g i) : arrV cA n f = arrV cA n g := by
  unfold arrV
  congr 1
  exact congrArg Array.ofFn (funext fun i => hf i.1 i.2)
/-- an array's picture matters within its length alone -/
theorem mm_cong {a t n : Nat} {f g : Nat → Int32} (ha : h.2.2 a = some (.inl (t, n, .inl f))) (hf : ∀ i, i < n → f i = g i) (k : mm_W Γ l M d D pc ls st (mm_up h a (.inl (t, n, .inl g)))) : mm_W Γ l M d D pc ls st h := by
  intro p e R s m args below meth c u0 hC H locs cells slots la hr hl hq h1 h2
  refine k p e R s m args below meth c u0 hC H locs cells slots la (hr.set ha ?_ rfl (fun _ _ => rfl)) hl hq h1 h2
  have h9 := (hr.2.1 a _ ha).2
  show H[a]? = some (vp_cell _ _)
  rw [vp_cell_i]
  have h8 : H[a]? = some (arrV (Γ.2.1 t) n (fun j => .int (f j))) := h9
  rw [h8, mm_arr_eq (Γ.2.1 t) (f := fun j => .int (f j)) (g := fun j => .int (g j)) (fun i hi => by rw [hf i hi])]
/-- the same picture, spelled otherwise -/
theorem mm_eqh {h' : mm_H} (e : h' = h) (k : mm_W Γ l M d D pc ls st h') : mm_W Γ l M d D pc ls st h := e ▸ k
/-- the value on top, spelled otherwise -/
theorem mm_top {v v' : Value} (e : v = v') (k : mm_W Γ l M d D pc ls (v' :: st) h) : mm_W Γ l M d D pc ls (v :: st) h := by rw [e]; exact k
end MMcong
theorem mm_up_up (h : mm_H) (a : Nat) (x y : mm_E) : mm_up (mm_up h a x) a y = mm_up h a y := by
  unfold mm_up
  refine Prod.ext rfl (Prod.ext rfl (funext fun q => ?_))
  by_cases hq : q = a <;> simp [hq]
theorem mm_up_comm (h : mm_H) {a b : Nat} (x y : mm_E) (hab : a ≠ b) : mm_up (mm_up h a x) b y = mm_up (mm_up h b y) a x := by
  unfold mm_up
  refine Prod.ext rfl (Prod.ext rfl (funext fun q => ?_))
  by_cases h1 : q = a
  · by_cases h2 : q = b
    · exact absurd (h1.symm.trans h2) hab
    · simp [h1, hab]
  · by_cases h2 : q = b
    · have h3 : ¬ b = a := fun e => hab e.symm
      simp [h2, h3]
    · simp [h1, h2]
theorem mm_up_same (h : mm_H) {a : Nat} {x : mm_E} (hx : h.2.2 a = some x) : mm_up h a x = h := by
  unfold mm_up
  refine Prod.ext rfl (Prod.ext rfl (funext fun q => ?_))
  by_cases hq : q = a
  · simp [hq, hx]
  · simp [hq]
theorem mm_up_at (h : mm_H) (a : Nat) (x : mm_E) : (mm_up h a x).2.2 a = some x := by simp [mm_up]
theorem mm_up_ne (h : mm_H) {a b : Nat} (x : mm_E) (hab : b ≠ a) : (mm_up h a x).2.2 b = h.2.2 b := by simp [mm_up, hab]
end
section
/-! Bits and sets of areas. -/
theorem kb_and (a b : Nat) : nI a &&& nI b = nI (a &&& b) := by
  apply Int32.toBitVec_inj.1
  show BitVec.ofNat 32 a &&& BitVec.ofNat 32 b = BitVec.ofNat 32 (a &&& b)
  apply BitVec.eq_of_getLsbD_eq
  intro i hi
  simp [hi]
theorem kb_or (a b : Nat) : nI a ||| nI b = nI (a ||| b) := by
  apply Int32.toBitVec_inj.1
  show BitVec.ofNat 32 a ||| BitVec.ofNat 32 b = BitVec.ofNat 32 (a ||| b)
  apply BitVec.eq_of_getLsbD_eq
  intro i hi
  simp [hi]
theorem kb_sl : ∀ n, n < 32 → ((nI n &&& 31).toBitVec.smod 32).toNat = n := by decide +kernel
theorem kb_shl {n a : Nat} (ha : a < 32) (h : n * 2 ^ a < 2 ^ 32) : nI n <<< (nI a &&& 31) = nI (n * 2 ^ a) := pk_shlN (nI a &&& 31) a (kb_sl a ha) h
theorem kb_shr {n a : Nat} (hn : n < 2 ^ 31) (ha : a < 32) : nI n >>> (nI a &&& 31) = nI (n / 2 ^ a) := pk_shrN hn (nI a &&& 31) a (kb_sl a ha)
theorem kb_one {n a : Nat} (hn : n < 2 ^ 31) (ha : a < 32) : (nI n >>> (nI a &&& 31)) &&& nI 1 = nI (if n.testBit a then 1 else 0) := by
  rw [kb_shr hn ha, kb_and]
  congr 1
  rw [Nat.and_one_is_mod]
  unfold Nat.testBit
  rw [Nat.shiftRight_eq_div_pow, Nat.and_comm, Nat.and_one_is_mod]
  by_cases h : n / 2 ^ a % 2 = 0
  · simp [h]
  · have : n / 2 ^ a % 2 = 1 := by omega
    simp [this]
/-- a set of the numbers below n, as a number -/
def kb_mask (p : Nat → Bool) : Nat → Nat
  | 0 => 0
  | n + 1 => if p n then kb_mask p n ||| 2 ^ n else kb_mask p n
theorem kb_mask_bit (p : Nat → Bool) (n a : Nat) : (kb_mask p n).testBit a = (decide (a < n) && p a) := by
  induction n with
  | zero => simp [kb_mask]
  | succ n ih =>
    simp only [kb_mask]
    by_cases hp : p n = true
    · rw [if_pos hp, Nat.testBit_or, ih, Nat.testBit_two_pow]
      by_cases h1 : a = n
      · subst h1
        simp [hp]
      · have h2 : ¬ n = a := fun e => h1 e.symm
        by_cases h3 : a < n
        · simp [h3, h2, Nat.lt_succ_of_lt h3]
        · have h4 : ¬ a < n + 1 := by omega
          simp [h3, h4, h2]
    · have hp' : p n = false := by cases h : p n with | true => exact absurd h hp | false => rfl
      rw [if_neg hp, ih]
      by_cases h1 : a = n
      · subst h1
        simp [hp']
      · by_cases h3 : a < n
        · simp [h3, Nat.lt_succ_of_lt h3]
        · have h4 : ¬ a < n + 1 := by omega
          simp [h3, h4]
theorem kb_mask_lt (p : Nat → Bool) (n : Nat) : kb_mask p n < 2 ^ n := by
  induction n with
  | zero => simp [kb_mask]
  | succ n ih =>
    simp only [kb_mask]
    have h2 : 2 ^ (n + 1) = 2 ^ n + 2 ^ n := by rw [Nat.pow_succ]; omega
    by_cases hp : p n = true
    · rw [if_pos hp]
      exact Nat.or_lt_two_pow (by omega) (Nat.pow_lt_pow_right (by decide) (Nat.lt_succ_self n))
    · rw [if_neg hp]
      omega
end
section
/-! printed by wip/whole/gen_names.py: one theorem a pool entry -/
theorem bC_init : mm_MB mC_init 0 := ⟨Or.inl ⟨rfl, mm_in 83 (by decide +kernel) rfl⟩, by decide +kernel, ⟨by decide, by decide⟩, by decide +kernel⟩
theorem bC_cut : mm_MB mC_cut 1 := ⟨Or.inl ⟨rfl, mm_in 231 (by decide +kernel) rfl⟩, by decide +kernel, ⟨by decide, by decide⟩, by decide +kernel⟩
theorem bC_line : mm_MB mC_line 1 := ⟨Or.inl ⟨rfl, mm_in 411 (by decide +kernel) rfl⟩, by decide +kernel, ⟨by decide, by decide⟩, by decide +kernel⟩
theorem bC_spot : mm_MB mC_spot 4 := ⟨Or.inl ⟨rfl, mm_in 418 (by decide +kernel) rfl⟩, by decide +kernel, ⟨by decide, by decide⟩, by decide +kernel⟩
theorem bC_start : mm_MB mC_start 0 := ⟨Or.inl ⟨rfl, mm_in 441 (by decide +kernel) rfl⟩, by decide +kernel, ⟨by decide, by decide⟩, by decide +kernel⟩
theorem bC_erase : mm_MB mC_erase 2 := ⟨Or.inl ⟨rfl, mm_in 448 (by decide +kernel) rfl⟩, by decide +kernel, ⟨by decide, by decide⟩, by decide +kernel⟩
theorem bC_copy : mm_MB mC_copy 3 := ⟨Or.inl ⟨rfl, mm_in 478 (by decide +kernel) rfl⟩, by decide +kernel, ⟨by decide, by decide⟩, by decide +kernel⟩
theorem bC_uncopy : mm_MB mC_uncopy 2 := ⟨Or.inl ⟨rfl, mm_in 512 (by decide +kernel) rfl⟩, by decide +kernel, ⟨by decide, by decide⟩, by decide +kernel⟩
theorem bC_wrap : mm_MB mC_wrap 2 := ⟨Or.inl ⟨rfl, mm_in 558 (by decide +kernel) rfl⟩, by decide +kernel, ⟨by decide, by decide⟩, by decide +kernel⟩
theorem bC_unwrap : mm_MB mC_unwrap 1 := ⟨Or.inl ⟨rfl, mm_in 566 (by decide +kernel) rfl⟩, by decide +kernel, ⟨by decide, by decide⟩, by decide +kernel⟩
theorem bC_join : mm_MB mC_join 2 := ⟨Or.inl ⟨rfl, mm_in 581 (by decide +kernel) rfl⟩, by decide +kernel, ⟨by decide, by decide⟩, by decide +kernel⟩
theorem bC_sever : mm_MB mC_sever 2 := ⟨Or.inl ⟨rfl, mm_in 592 (by decide +kernel) rfl⟩, by decide +kernel, ⟨by decide, by decide⟩, by decide +kernel⟩
theorem bC_back : mm_MB mC_back 0 := ⟨Or.inl ⟨rfl, mm_in 599 (by decide +kernel) rfl⟩, by decide +kernel, ⟨by decide, by decide⟩, by decide +kernel⟩
theorem bC_depth : mm_MB mC_depth 1 := ⟨Or.inl ⟨rfl, mm_in 606 (by decide +kernel) rfl⟩, by decide +kernel, ⟨by decide, by decide⟩, by decide +kernel⟩
theorem bC_read : mm_MB mC_read 1 := ⟨Or.inl ⟨rfl, mm_in 614 (by decide +kernel) rfl⟩, by decide +kernel, ⟨by decide, by decide⟩, by decide +kernel⟩
theorem bC_token : mm_MB mC_token 1 := ⟨Or.inl ⟨rfl, mm_in 626 (by decide +kernel) rfl⟩, by decide +kernel, ⟨by decide, by decide⟩, by decide +kernel⟩
theorem bC_holds : mm_MB mC_holds 3 := ⟨Or.inl ⟨rfl, mm_in 648 (by decide +kernel) rfl⟩, by decide +kernel, ⟨by decide, by decide⟩, by decide +kernel⟩
theorem bC_refutes : mm_MB mC_refutes 1 := ⟨Or.inl ⟨rfl, mm_in 699 (by decide +kernel) rfl⟩, by decide +kernel, ⟨by decide, by decide⟩, by decide +kernel⟩
theorem bC_count : mm_MB mC_count 1 := ⟨Or.inl ⟨rfl, mm_in 711 (by decide +kernel) rfl⟩, by decide +kernel, ⟨by decide, by decide⟩, by decide +kernel⟩
theorem bC_needArgument : mm_MB mC_needArgument 1 := ⟨Or.inl ⟨rfl, mm_in 250 (by decide +kernel) rfl⟩, by decide +kernel, ⟨by decide, by decide⟩, by decide +kernel⟩
theorem bC_needState : mm_MB mC_needState 1 := ⟨Or.inl ⟨rfl, mm_in 333 (by decide +kernel) rfl⟩, by decide +kernel, ⟨by decide, by decide⟩, by decide +kernel⟩
theorem bC_needRoom : mm_MB mC_needRoom 1 := ⟨Or.inl ⟨rfl, mm_in 374 (by decide +kernel) rfl⟩, by decide +kernel, ⟨by decide, by decide⟩, by decide +kernel⟩
theorem bC_sheet : mm_MB mC_sheet 0 := ⟨Or.inl ⟨rfl, mm_in 235 (by decide +kernel) rfl⟩, by decide +kernel, ⟨by decide, by decide⟩, by decide +kernel⟩
theorem bC_mayInsert : mm_MB mC_mayInsert 1 := ⟨Or.inl ⟨rfl, mm_in 318 (by decide +kernel) rfl⟩, by decide +kernel, ⟨by decide, by decide⟩, by decide +kernel⟩
theorem bC_mayChange : mm_MB mC_mayChange 0 := ⟨Or.inl ⟨rfl, mm_in 352 (by decide +kernel) rfl⟩, by decide +kernel, ⟨by decide, by decide⟩, by decide +kernel⟩
theorem bC_changed : mm_MB mC_changed 0 := ⟨Or.inl ⟨rfl, mm_in 393 (by decide +kernel) rfl⟩, by decide +kernel, ⟨by decide, by decide⟩, by decide +kernel⟩
theorem bC_hasAlike : mm_MB mC_hasAlike 2 := ⟨Or.inl ⟨rfl, mm_in 516 (by decide +kernel) rfl⟩, by decide +kernel, ⟨by decide, by decide⟩, by decide +kernel⟩
theorem bC_placesOf : mm_MB mC_placesOf 1 := ⟨Or.inl ⟨rfl, mm_in 421 (by decide +kernel) rfl⟩, by decide +kernel, ⟨by decide, by decide⟩, by decide +kernel⟩
theorem bC_bitOfOne : mm_MB mC_bitOfOne 1 := ⟨Or.inl ⟨rfl, mm_in 681 (by decide +kernel) rfl⟩, by decide +kernel, ⟨by decide, by decide⟩, by decide +kernel⟩
theorem bC_bitOfTwo : mm_MB mC_bitOfTwo 2 := ⟨Or.inl ⟨rfl, mm_in 684 (by decide +kernel) rfl⟩, by decide +kernel, ⟨by decide, by decide⟩, by decide +kernel⟩
theorem bC_bitsOf : mm_MB mC_bitsOf 1 := ⟨Or.inl ⟨rfl, mm_in 702 (by decide +kernel) rfl⟩, by decide +kernel, ⟨by decide, by decide⟩, by decide +kernel⟩
theorem bC_isAmong : mm_MB mC_isAmong 2 := ⟨Or.inl ⟨rfl, mm_in 371 (by decide +kernel) rfl⟩, by decide +kernel, ⟨by decide, by decide⟩, by decide +kernel⟩
theorem bM_init : mm_MB mM_init 0 := ⟨Or.inl ⟨rfl, mm_in 717 (by decide +kernel) rfl⟩, by decide +kernel, ⟨by decide, by decide⟩, by decide +kernel⟩
theorem bM_thrown : mm_MB mM_thrown 0 := ⟨Or.inl ⟨rfl, mm_in 787 (by decide +kernel) rfl⟩, by decide +kernel, ⟨by decide, by decide⟩, by decide +kernel⟩
theorem bM_isArea : mm_MB mM_isArea 1 := ⟨Or.inl ⟨rfl, mm_in 795 (by decide +kernel) rfl⟩, by decide +kernel, ⟨by decide, by decide⟩, by decide +kernel⟩
theorem bM_isCut : mm_MB mM_isCut 1 := ⟨Or.inl ⟨rfl, mm_in 863 (by decide +kernel) rfl⟩, by decide +kernel, ⟨by decide, by decide⟩, by decide +kernel⟩
theorem bM_isLine : mm_MB mM_isLine 1 := ⟨Or.inl ⟨rfl, mm_in 835 (by decide +kernel) rfl⟩, by decide +kernel, ⟨by decide, by decide⟩, by decide +kernel⟩
theorem bM_isSpot : mm_MB mM_isSpot 1 := ⟨Or.inl ⟨rfl, mm_in 859 (by decide +kernel) rfl⟩, by decide +kernel, ⟨by decide, by decide⟩, by decide +kernel⟩
theorem bM_isWithin : mm_MB mM_isWithin 2 := ⟨Or.inl ⟨rfl, mm_in 839 (by decide +kernel) rfl⟩, by decide +kernel, ⟨by decide, by decide⟩, by decide +kernel⟩
theorem bM_depthOf : mm_MB mM_depthOf 1 := ⟨Or.inl ⟨rfl, mm_in 807 (by decide +kernel) rfl⟩, by decide +kernel, ⟨by decide, by decide⟩, by decide +kernel⟩
theorem bM_places : mm_MB mM_places 1 := ⟨Or.inl ⟨rfl, mm_in 827 (by decide +kernel) rfl⟩, by decide +kernel, ⟨by decide, by decide⟩, by decide +kernel⟩
theorem bM_freeCut : mm_MB mM_freeCut 0 := ⟨Or.inl ⟨rfl, mm_in 799 (by decide +kernel) rfl⟩, by decide +kernel, ⟨by decide, by decide⟩, by decide +kernel⟩
theorem bM_freeLine : mm_MB mM_freeLine 0 := ⟨Or.inl ⟨rfl, mm_in 819 (by decide +kernel) rfl⟩, by decide +kernel, ⟨by decide, by decide⟩, by decide +kernel⟩
theorem bM_freeSpot : mm_MB mM_freeSpot 0 := ⟨Or.inl ⟨rfl, mm_in 843 (by decide +kernel) rfl⟩, by decide +kernel, ⟨by decide, by decide⟩, by decide +kernel⟩
theorem bM_amount : mm_MB mM_amount 2 := ⟨Or.inl ⟨rfl, mm_in 895 (by decide +kernel) rfl⟩, by decide +kernel, ⟨by decide, by decide⟩, by decide +kernel⟩
theorem bM_keep : mm_MB mM_keep 0 := ⟨Or.inl ⟨rfl, mm_in 811 (by decide +kernel) rfl⟩, by decide +kernel, ⟨by decide, by decide⟩, by decide +kernel⟩
theorem bM_checked : mm_MB mM_checked 2 := ⟨Or.inl ⟨rfl, mm_in 803 (by decide +kernel) rfl⟩, by decide +kernel, ⟨by decide, by decide⟩, by decide +kernel⟩
theorem bM_cut : mm_MB mM_cut 1 := ⟨Or.inl ⟨rfl, mm_in 791 (by decide +kernel) rfl⟩, by decide +kernel, ⟨by decide, by decide⟩, by decide +kernel⟩
theorem bM_line : mm_MB mM_line 1 := ⟨Or.inl ⟨rfl, mm_in 815 (by decide +kernel) rfl⟩, by decide +kernel, ⟨by decide, by decide⟩, by decide +kernel⟩
theorem bM_mayHook : mm_MB mM_mayHook 2 := ⟨Or.inl ⟨rfl, mm_in 831 (by decide +kernel) rfl⟩, by decide +kernel, ⟨by decide, by decide⟩, by decide +kernel⟩
theorem bM_spot : mm_MB mM_spot 4 := ⟨Or.inl ⟨rfl, mm_in 823 (by decide +kernel) rfl⟩, by decide +kernel, ⟨by decide, by decide⟩, by decide +kernel⟩
theorem bM_start : mm_MB mM_start 0 := ⟨Or.inl ⟨rfl, mm_in 847 (by decide +kernel) rfl⟩, by decide +kernel, ⟨by decide, by decide⟩, by decide +kernel⟩
theorem bM_removeSpot : mm_MB mM_removeSpot 1 := ⟨Or.inl ⟨rfl, mm_in 879 (by decide +kernel) rfl⟩, by decide +kernel, ⟨by decide, by decide⟩, by decide +kernel⟩
theorem bM_removeCut : mm_MB mM_removeCut 1 := ⟨Or.inl ⟨rfl, mm_in 883 (by decide +kernel) rfl⟩, by decide +kernel, ⟨by decide, by decide⟩, by decide +kernel⟩
theorem bM_isHooked : mm_MB mM_isHooked 1 := ⟨Or.inl ⟨rfl, mm_in 871 (by decide +kernel) rfl⟩, by decide +kernel, ⟨by decide, by decide⟩, by decide +kernel⟩
theorem bM_noPart : mm_MB mM_noPart 2 := ⟨Or.inl ⟨rfl, mm_in 855 (by decide +kernel) rfl⟩, by decide +kernel, ⟨by decide, by decide⟩, by decide +kernel⟩
theorem bM_areaOf : mm_MB mM_areaOf 2 := ⟨Or.inl ⟨rfl, mm_in 867 (by decide +kernel) rfl⟩, by decide +kernel, ⟨by decide, by decide⟩, by decide +kernel⟩
theorem bM_late : mm_MB mM_late 0 := ⟨Or.inl ⟨rfl, mm_in 875 (by decide +kernel) rfl⟩, by decide +kernel, ⟨by decide, by decide⟩, by decide +kernel⟩
theorem bM_erase : mm_MB mM_erase 2 := ⟨Or.inl ⟨rfl, mm_in 851 (by decide +kernel) rfl⟩, by decide +kernel, ⟨by decide, by decide⟩, by decide +kernel⟩
theorem bM_copySpot : mm_MB mM_copySpot 2 := ⟨Or.inl ⟨rfl, mm_in 907 (by decide +kernel) rfl⟩, by decide +kernel, ⟨by decide, by decide⟩, by decide +kernel⟩
theorem bM_copyArea : mm_MB mM_copyArea 3 := ⟨Or.inl ⟨rfl, mm_in 903 (by decide +kernel) rfl⟩, by decide +kernel, ⟨by decide, by decide⟩, by decide +kernel⟩
theorem bM_copyCut : mm_MB mM_copyCut 2 := ⟨Or.inl ⟨rfl, mm_in 899 (by decide +kernel) rfl⟩, by decide +kernel, ⟨by decide, by decide⟩, by decide +kernel⟩
theorem bM_isRoomFor : mm_MB mM_isRoomFor 1 := ⟨Or.inl ⟨rfl, mm_in 891 (by decide +kernel) rfl⟩, by decide +kernel, ⟨by decide, by decide⟩, by decide +kernel⟩
theorem bM_copy : mm_MB mM_copy 3 := ⟨Or.inl ⟨rfl, mm_in 887 (by decide +kernel) rfl⟩, by decide +kernel, ⟨by decide, by decide⟩, by decide +kernel⟩
theorem bM_add : mm_MB mM_add 1 := ⟨Or.inl ⟨rfl, mm_in 927 (by decide +kernel) rfl⟩, by decide +kernel, ⟨by decide, by decide⟩, by decide +kernel⟩
theorem bM_readOwn : mm_MB mM_readOwn 1 := ⟨Or.inl ⟨rfl, mm_in 935 (by decide +kernel) rfl⟩, by decide +kernel, ⟨by decide, by decide⟩, by decide +kernel⟩
theorem bM_readSpot : mm_MB mM_readSpot 1 := ⟨Or.inl ⟨rfl, mm_in 923 (by decide +kernel) rfl⟩, by decide +kernel, ⟨by decide, by decide⟩, by decide +kernel⟩
theorem bM_readArea : mm_MB mM_readArea 1 := ⟨Or.inl ⟨rfl, mm_in 931 (by decide +kernel) rfl⟩, by decide +kernel, ⟨by decide, by decide⟩, by decide +kernel⟩
theorem bM_readPart : mm_MB mM_readPart 2 := ⟨Or.inl ⟨rfl, mm_in 919 (by decide +kernel) rfl⟩, by decide +kernel, ⟨by decide, by decide⟩, by decide +kernel⟩
theorem bM_isAlike : mm_MB mM_isAlike 2 := ⟨Or.inl ⟨rfl, mm_in 939 (by decide +kernel) rfl⟩, by decide +kernel, ⟨by decide, by decide⟩, by decide +kernel⟩
theorem bM_hasOther : mm_MB mM_hasOther 2 := ⟨Or.inl ⟨rfl, mm_in 915 (by decide +kernel) rfl⟩, by decide +kernel, ⟨by decide, by decide⟩, by decide +kernel⟩
theorem bM_uncopy : mm_MB mM_uncopy 2 := ⟨Or.inl ⟨rfl, mm_in 911 (by decide +kernel) rfl⟩, by decide +kernel, ⟨by decide, by decide⟩, by decide +kernel⟩
theorem bM_wrap : mm_MB mM_wrap 2 := ⟨Or.inl ⟨rfl, mm_in 943 (by decide +kernel) rfl⟩, by decide +kernel, ⟨by decide, by decide⟩, by decide +kernel⟩
theorem bM_only : mm_MB mM_only 1 := ⟨Or.inl ⟨rfl, mm_in 951 (by decide +kernel) rfl⟩, by decide +kernel, ⟨by decide, by decide⟩, by decide +kernel⟩
theorem bM_unwrap : mm_MB mM_unwrap 1 := ⟨Or.inl ⟨rfl, mm_in 947 (by decide +kernel) rfl⟩, by decide +kernel, ⟨by decide, by decide⟩, by decide +kernel⟩
theorem bM_join : mm_MB mM_join 2 := ⟨Or.inl ⟨rfl, mm_in 955 (by decide +kernel) rfl⟩, by decide +kernel, ⟨by decide, by decide⟩, by decide +kernel⟩
theorem bM_sever : mm_MB mM_sever 2 := ⟨Or.inl ⟨rfl, mm_in 959 (by decide +kernel) rfl⟩, by decide +kernel, ⟨by decide, by decide⟩, by decide +kernel⟩
theorem bM_back : mm_MB mM_back 0 := ⟨Or.inl ⟨rfl, mm_in 963 (by decide +kernel) rfl⟩, by decide +kernel, ⟨by decide, by decide⟩, by decide +kernel⟩
theorem bM_depth : mm_MB mM_depth 1 := ⟨Or.inl ⟨rfl, mm_in 967 (by decide +kernel) rfl⟩, by decide +kernel, ⟨by decide, by decide⟩, by decide +kernel⟩
theorem bM_read : mm_MB mM_read 1 := ⟨Or.inl ⟨rfl, mm_in 971 (by decide +kernel) rfl⟩, by decide +kernel, ⟨by decide, by decide⟩, by decide +kernel⟩
theorem bM_token : mm_MB mM_token 1 := ⟨Or.inl ⟨rfl, mm_in 975 (by decide +kernel) rfl⟩, by decide +kernel, ⟨by decide, by decide⟩, by decide +kernel⟩
theorem bM_count : mm_MB mM_count 1 := ⟨Or.inl ⟨rfl, mm_in 979 (by decide +kernel) rfl⟩, by decide +kernel, ⟨by decide, by decide⟩, by decide +kernel⟩
theorem bM_thing : mm_MB mM_thing 3 := ⟨Or.inl ⟨rfl, mm_in 1007 (by decide +kernel) rfl⟩, by decide +kernel, ⟨by decide, by decide⟩, by decide +kernel⟩
theorem bM_spotHolds : mm_MB mM_spotHolds 4 := ⟨Or.inl ⟨rfl, mm_in 1003 (by decide +kernel) rfl⟩, by decide +kernel, ⟨by decide, by decide⟩, by decide +kernel⟩
theorem bM_look : mm_MB mM_look 4 := ⟨Or.inl ⟨rfl, mm_in 999 (by decide +kernel) rfl⟩, by decide +kernel, ⟨by decide, by decide⟩, by decide +kernel⟩
theorem bM_any : mm_MB mM_any 4 := ⟨Or.inl ⟨rfl, mm_in 1011 (by decide +kernel) rfl⟩, by decide +kernel, ⟨by decide, by decide⟩, by decide +kernel⟩
theorem bM_sheetHolds : mm_MB mM_sheetHolds 2 := ⟨Or.inl ⟨rfl, mm_in 995 (by decide +kernel) rfl⟩, by decide +kernel, ⟨by decide, by decide⟩, by decide +kernel⟩
theorem bM_change : mm_MB mM_change 0 := ⟨Or.inl ⟨rfl, mm_in 991 (by decide +kernel) rfl⟩, by decide +kernel, ⟨by decide, by decide⟩, by decide +kernel⟩
theorem bM_firstHolds : mm_MB mM_firstHolds 2 := ⟨Or.inl ⟨rfl, mm_in 987 (by decide +kernel) rfl⟩, by decide +kernel, ⟨by decide, by decide⟩, by decide +kernel⟩
theorem bM_holds : mm_MB mM_holds 3 := ⟨Or.inl ⟨rfl, mm_in 983 (by decide +kernel) rfl⟩, by decide +kernel, ⟨by decide, by decide⟩, by decide +kernel⟩
theorem bM_refutes : mm_MB mM_refutes 1 := ⟨Or.inl ⟨rfl, mm_in 1015 (by decide +kernel) rfl⟩, by decide +kernel, ⟨by decide, by decide⟩, by decide +kernel⟩
theorem bG_init : mm_MB mG_init 1 := ⟨Or.inl ⟨rfl, mm_in 155 (by decide +kernel) rfl⟩, by decide +kernel, ⟨by decide, by decide⟩, by decide +kernel⟩
theorem bG_arrange : mm_MB mG_arrange 1 := ⟨Or.inl ⟨rfl, mm_in 657 (by decide +kernel) rfl⟩, by decide +kernel, ⟨by decide, by decide⟩, by decide +kernel⟩
theorem bK_init : mm_MB mK_init 0 := ⟨Or.inl ⟨rfl, mm_in 149 (by decide +kernel) rfl⟩, by decide +kernel, ⟨by decide, by decide⟩, by decide +kernel⟩
theorem bK_arrange : mm_MB mK_arrange 1 := ⟨Or.inl ⟨rfl, mm_in 652 (by decide +kernel) rfl⟩, by decide +kernel, ⟨by decide, by decide⟩, by decide +kernel⟩
theorem bK_isTrueIn : mm_MB mK_isTrueIn 2 := ⟨Or.inl ⟨rfl, mm_in 662 (by decide +kernel) rfl⟩, by decide +kernel, ⟨by decide, by decide⟩, by decide +kernel⟩
theorem bK_isAreaTrue : mm_MB mK_isAreaTrue 2 := ⟨Or.inl ⟨rfl, mm_in 666 (by decide +kernel) rfl⟩, by decide +kernel, ⟨by decide, by decide⟩, by decide +kernel⟩
theorem bK_takeNextThings : mm_MB mK_takeNextThings 1 := ⟨Or.inl ⟨rfl, mm_in 692 (by decide +kernel) rfl⟩, by decide +kernel, ⟨by decide, by decide⟩, by decide +kernel⟩
theorem bK_areSpotsTrue : mm_MB mK_areSpotsTrue 1 := ⟨Or.inl ⟨rfl, mm_in 670 (by decide +kernel) rfl⟩, by decide +kernel, ⟨by decide, by decide⟩, by decide +kernel⟩
theorem bK_bitOfSpot : mm_MB mK_bitOfSpot 1 := ⟨Or.inl ⟨rfl, mm_in 674 (by decide +kernel) rfl⟩, by decide +kernel, ⟨by decide, by decide⟩, by decide +kernel⟩
theorem bK_thingAt : mm_MB mK_thingAt 1 := ⟨Or.inl ⟨rfl, mm_in 678 (by decide +kernel) rfl⟩, by decide +kernel, ⟨by decide, by decide⟩, by decide +kernel⟩
theorem bK_areCutsFalse : mm_MB mK_areCutsFalse 2 := ⟨Or.inl ⟨rfl, mm_in 688 (by decide +kernel) rfl⟩, by decide +kernel, ⟨by decide, by decide⟩, by decide +kernel⟩
theorem bR_init : mm_MB mR_init 0 := ⟨Or.inl ⟨rfl, mm_in 125 (by decide +kernel) rfl⟩, by decide +kernel, ⟨by decide, by decide⟩, by decide +kernel⟩
theorem bR_takeArea : mm_MB mR_takeArea 2 := ⟨Or.inl ⟨rfl, mm_in 618 (by decide +kernel) rfl⟩, by decide +kernel, ⟨by decide, by decide⟩, by decide +kernel⟩
theorem bR_takePart : mm_MB mR_takePart 3 := ⟨Or.inl ⟨rfl, mm_in 520 (by decide +kernel) rfl⟩, by decide +kernel, ⟨by decide, by decide⟩, by decide +kernel⟩
theorem bR_isSame : mm_MB mR_isSame 1 := ⟨Or.inl ⟨rfl, mm_in 551 (by decide +kernel) rfl⟩, by decide +kernel, ⟨by decide, by decide⟩, by decide +kernel⟩
theorem bR_clear : mm_MB mR_clear 1 := ⟨Or.inl ⟨rfl, mm_in 524 (by decide +kernel) rfl⟩, by decide +kernel, ⟨by decide, by decide⟩, by decide +kernel⟩
theorem bR_addArea : mm_MB mR_addArea 3 := ⟨Or.inl ⟨rfl, mm_in 543 (by decide +kernel) rfl⟩, by decide +kernel, ⟨by decide, by decide⟩, by decide +kernel⟩
theorem bR_addCutsIn : mm_MB mR_addCutsIn 3 := ⟨Or.inl ⟨rfl, mm_in 547 (by decide +kernel) rfl⟩, by decide +kernel, ⟨by decide, by decide⟩, by decide +kernel⟩
theorem bR_addSpot : mm_MB mR_addSpot 2 := ⟨Or.inl ⟨rfl, mm_in 528 (by decide +kernel) rfl⟩, by decide +kernel, ⟨by decide, by decide⟩, by decide +kernel⟩
theorem bR_addLine : mm_MB mR_addLine 2 := ⟨Or.inl ⟨rfl, mm_in 537 (by decide +kernel) rfl⟩, by decide +kernel, ⟨by decide, by decide⟩, by decide +kernel⟩
theorem bR_add : mm_MB mR_add 1 := ⟨Or.inl ⟨rfl, mm_in 532 (by decide +kernel) rfl⟩, by decide +kernel, ⟨by decide, by decide⟩, by decide +kernel⟩
theorem bS_init : mm_MB mS_init 0 := ⟨Or.inl ⟨rfl, mm_in 92 (by decide +kernel) rfl⟩, by decide +kernel, ⟨by decide, by decide⟩, by decide +kernel⟩
theorem bS_takeOver : mm_MB mS_takeOver 1 := ⟨Or.inl ⟨rfl, mm_in 397 (by decide +kernel) rfl⟩, by decide +kernel, ⟨by decide, by decide⟩, by decide +kernel⟩
theorem bS_areas : mm_MB mS_areas 1 := ⟨Or.inl ⟨rfl, mm_in 247 (by decide +kernel) rfl⟩, by decide +kernel, ⟨by decide, by decide⟩, by decide +kernel⟩
theorem bS_leastNumber : mm_MB mS_leastNumber 1 := ⟨Or.inl ⟨rfl, mm_in 360 (by decide +kernel) rfl⟩, by decide +kernel, ⟨by decide, by decide⟩, by decide +kernel⟩
theorem bS_has : mm_MB mS_has 2 := ⟨Or.inl ⟨rfl, mm_in 243 (by decide +kernel) rfl⟩, by decide +kernel, ⟨by decide, by decide⟩, by decide +kernel⟩
theorem bS_hasPart : mm_MB mS_hasPart 2 := ⟨Or.inl ⟨rfl, mm_in 482 (by decide +kernel) rfl⟩, by decide +kernel, ⟨by decide, by decide⟩, by decide +kernel⟩
theorem bS_hasArea : mm_MB mS_hasArea 1 := ⟨Or.inl ⟨rfl, mm_in 239 (by decide +kernel) rfl⟩, by decide +kernel, ⟨by decide, by decide⟩, by decide +kernel⟩
theorem bS_areaOf : mm_MB mS_areaOf 2 := ⟨Or.inl ⟨rfl, mm_in 330 (by decide +kernel) rfl⟩, by decide +kernel, ⟨by decide, by decide⟩, by decide +kernel⟩
theorem bS_howMany : mm_MB mS_howMany 1 := ⟨Or.inl ⟨rfl, mm_in 364 (by decide +kernel) rfl⟩, by decide +kernel, ⟨by decide, by decide⟩, by decide +kernel⟩
theorem bS_free : mm_MB mS_free 1 := ⟨Or.inl ⟨rfl, mm_in 356 (by decide +kernel) rfl⟩, by decide +kernel, ⟨by decide, by decide⟩, by decide +kernel⟩
theorem bS_howManyIn : mm_MB mS_howManyIn 2 := ⟨Or.inl ⟨rfl, mm_in 368 (by decide +kernel) rfl⟩, by decide +kernel, ⟨by decide, by decide⟩, by decide +kernel⟩
theorem bS_depthOf : mm_MB mS_depthOf 1 := ⟨Or.inl ⟨rfl, mm_in 326 (by decide +kernel) rfl⟩, by decide +kernel, ⟨by decide, by decide⟩, by decide +kernel⟩
theorem bS_isOdd : mm_MB mS_isOdd 1 := ⟨Or.inl ⟨rfl, mm_in 322 (by decide +kernel) rfl⟩, by decide +kernel, ⟨by decide, by decide⟩, by decide +kernel⟩
theorem bS_isWithin : mm_MB mS_isWithin 2 := ⟨Or.inl ⟨rfl, mm_in 429 (by decide +kernel) rfl⟩, by decide +kernel, ⟨by decide, by decide⟩, by decide +kernel⟩
theorem bS_areasWithin : mm_MB mS_areasWithin 1 := ⟨Or.inl ⟨rfl, mm_in 462 (by decide +kernel) rfl⟩, by decide +kernel, ⟨by decide, by decide⟩, by decide +kernel⟩
theorem bS_reaches : mm_MB mS_reaches 2 := ⟨Or.inl ⟨rfl, mm_in 425 (by decide +kernel) rfl⟩, by decide +kernel, ⟨by decide, by decide⟩, by decide +kernel⟩
theorem bS_isHooked : mm_MB mS_isHooked 1 := ⟨Or.inl ⟨rfl, mm_in 454 (by decide +kernel) rfl⟩, by decide +kernel, ⟨by decide, by decide⟩, by decide +kernel⟩
theorem bS_add : mm_MB mS_add 2 := ⟨Or.inl ⟨rfl, mm_in 404 (by decide +kernel) rfl⟩, by decide +kernel, ⟨by decide, by decide⟩, by decide +kernel⟩
theorem bS_addSpot : mm_MB mS_addSpot 4 := ⟨Or.inl ⟨rfl, mm_in 433 (by decide +kernel) rfl⟩, by decide +kernel, ⟨by decide, by decide⟩, by decide +kernel⟩
theorem bS_put : mm_MB mS_put 3 := ⟨Or.inl ⟨rfl, mm_in 471 (by decide +kernel) rfl⟩, by decide +kernel, ⟨by decide, by decide⟩, by decide +kernel⟩
theorem bS_remove : mm_MB mS_remove 2 := ⟨Or.inl ⟨rfl, mm_in 458 (by decide +kernel) rfl⟩, by decide +kernel, ⟨by decide, by decide⟩, by decide +kernel⟩
theorem bS_putAll : mm_MB mS_putAll 2 := ⟨Or.inl ⟨rfl, mm_in 467 (by decide +kernel) rfl⟩, by decide +kernel, ⟨by decide, by decide⟩, by decide +kernel⟩
theorem bS_rehook : mm_MB mS_rehook 3 := ⟨Or.inl ⟨rfl, mm_in 585 (by decide +kernel) rfl⟩, by decide +kernel, ⟨by decide, by decide⟩, by decide +kernel⟩
theorem bS_holdsOneCutAlone : mm_MB mS_holdsOneCutAlone 1 := ⟨Or.inl ⟨rfl, mm_in 570 (by decide +kernel) rfl⟩, by decide +kernel, ⟨by decide, by decide⟩, by decide +kernel⟩
theorem bS_removeDoubleCut : mm_MB mS_removeDoubleCut 1 := ⟨Or.inl ⟨rfl, mm_in 574 (by decide +kernel) rfl⟩, by decide +kernel, ⟨by decide, by decide⟩, by decide +kernel⟩
theorem bS_hasRoomForCopy : mm_MB mS_hasRoomForCopy 2 := ⟨Or.inl ⟨rfl, mm_in 487 (by decide +kernel) rfl⟩, by decide +kernel, ⟨by decide, by decide⟩, by decide +kernel⟩
theorem bS_addCopy : mm_MB mS_addCopy 4 := ⟨Or.inl ⟨rfl, mm_in 492 (by decide +kernel) rfl⟩, by decide +kernel, ⟨by decide, by decide⟩, by decide +kernel⟩
theorem bS_copySpot : mm_MB mS_copySpot 3 := ⟨Or.inl ⟨rfl, mm_in 496 (by decide +kernel) rfl⟩, by decide +kernel, ⟨by decide, by decide⟩, by decide +kernel⟩
theorem bS_copyCut : mm_MB mS_copyCut 4 := ⟨Or.inl ⟨rfl, mm_in 501 (by decide +kernel) rfl⟩, by decide +kernel, ⟨by decide, by decide⟩, by decide +kernel⟩
theorem bS_copyCutsIn : mm_MB mS_copyCutsIn 4 := ⟨Or.inl ⟨rfl, mm_in 505 (by decide +kernel) rfl⟩, by decide +kernel, ⟨by decide, by decide⟩, by decide +kernel⟩
theorem bL_cut : mm_MB mL_cut 3 := ⟨Or.inr (mm_in 224 (by decide +kernel) rfl), by decide +kernel, ⟨by decide, by decide⟩, by decide +kernel⟩
theorem bL_line : mm_MB mL_line 3 := ⟨Or.inr (mm_in 407 (by decide +kernel) rfl), by decide +kernel, ⟨by decide, by decide⟩, by decide +kernel⟩
theorem bL_spot : mm_MB mL_spot 6 := ⟨Or.inr (mm_in 414 (by decide +kernel) rfl), by decide +kernel, ⟨by decide, by decide⟩, by decide +kernel⟩
theorem bL_start : mm_MB mL_start 1 := ⟨Or.inr (mm_in 437 (by decide +kernel) rfl), by decide +kernel, ⟨by decide, by decide⟩, by decide +kernel⟩
theorem bL_erase : mm_MB mL_erase 4 := ⟨Or.inr (mm_in 444 (by decide +kernel) rfl), by decide +kernel, ⟨by decide, by decide⟩, by decide +kernel⟩
theorem bL_copy : mm_MB mL_copy 5 := ⟨Or.inr (mm_in 474 (by decide +kernel) rfl), by decide +kernel, ⟨by decide, by decide⟩, by decide +kernel⟩
theorem bL_uncopy : mm_MB mL_uncopy 4 := ⟨Or.inr (mm_in 508 (by decide +kernel) rfl), by decide +kernel, ⟨by decide, by decide⟩, by decide +kernel⟩
theorem bL_wrap : mm_MB mL_wrap 4 := ⟨Or.inr (mm_in 554 (by decide +kernel) rfl), by decide +kernel, ⟨by decide, by decide⟩, by decide +kernel⟩
theorem bL_unwrap : mm_MB mL_unwrap 3 := ⟨Or.inr (mm_in 562 (by decide +kernel) rfl), by decide +kernel, ⟨by decide, by decide⟩, by decide +kernel⟩
theorem bL_join : mm_MB mL_join 4 := ⟨Or.inr (mm_in 577 (by decide +kernel) rfl), by decide +kernel, ⟨by decide, by decide⟩, by decide +kernel⟩
theorem bL_sever : mm_MB mL_sever 4 := ⟨Or.inr (mm_in 588 (by decide +kernel) rfl), by decide +kernel, ⟨by decide, by decide⟩, by decide +kernel⟩
theorem bL_back : mm_MB mL_back 2 := ⟨Or.inr (mm_in 595 (by decide +kernel) rfl), by decide +kernel, ⟨by decide, by decide⟩, by decide +kernel⟩
theorem bL_depth : mm_MB mL_depth 3 := ⟨Or.inr (mm_in 602 (by decide +kernel) rfl), by decide +kernel, ⟨by decide, by decide⟩, by decide +kernel⟩
theorem bL_read : mm_MB mL_read 3 := ⟨Or.inr (mm_in 610 (by decide +kernel) rfl), by decide +kernel, ⟨by decide, by decide⟩, by decide +kernel⟩
theorem bL_token : mm_MB mL_token 3 := ⟨Or.inr (mm_in 621 (by decide +kernel) rfl), by decide +kernel, ⟨by decide, by decide⟩, by decide +kernel⟩
theorem bL_holds : mm_MB mL_holds 5 := ⟨Or.inr (mm_in 644 (by decide +kernel) rfl), by decide +kernel, ⟨by decide, by decide⟩, by decide +kernel⟩
theorem bL_refutes : mm_MB mL_refutes 3 := ⟨Or.inr (mm_in 695 (by decide +kernel) rfl), by decide +kernel, ⟨by decide, by decide⟩, by decide +kernel⟩
theorem bL_count : mm_MB mL_count 3 := ⟨Or.inr (mm_in 707 (by decide +kernel) rfl), by decide +kernel, ⟨by decide, by decide⟩, by decide +kernel⟩
theorem lC_3 : Cond.methodLink "CutSheets" 3 Lib.objectInit ∈ mm_T := mm_in 84 (by decide +kernel) rfl
theorem cC_9 : mm_CLk "CutSheets" 9 3 := ⟨_, rfl, mm_in 87 (by decide +kernel) rfl, mm_in 89 (by decide +kernel) rfl, mm_in 66 (by decide +kernel) rfl⟩
theorem fC_11 : mm_FL "CutSheets" 11 4 0 := ⟨_, rfl, by decide, Or.inl (mm_in 194 (by decide +kernel) rfl)⟩
theorem lC_15 : mm_MI "CutSheets" 15 mS_init 0 := ⟨bS_init, Or.inl (mm_in 90 (by decide +kernel) rfl), mm_in 91 (by decide +kernel) rfl, rfl, mm_in 92 (by decide +kernel) rfl⟩
theorem cC_16 : mm_CLk "CutSheets" 16 2 := ⟨_, rfl, mm_in 121 (by decide +kernel) rfl, mm_in 122 (by decide +kernel) rfl, mm_in 67 (by decide +kernel) rfl⟩
theorem lC_18 : mm_MI "CutSheets" 18 mR_init 0 := ⟨bR_init, Or.inr (List.mem_of_getElem? (i := 0) rfl), mm_in 124 (by decide +kernel) rfl, rfl, mm_in 125 (by decide +kernel) rfl⟩
theorem fC_19 : mm_FL "CutSheets" 19 4 1 := ⟨_, rfl, by decide, Or.inl (mm_in 195 (by decide +kernel) rfl)⟩
theorem fC_23 : mm_FL "CutSheets" 23 4 2 := ⟨_, rfl, by decide, Or.inl (mm_in 196 (by decide +kernel) rfl)⟩
theorem fC_26 : mm_FL "CutSheets" 26 4 3 := ⟨_, rfl, by decide, Or.inl (mm_in 197 (by decide +kernel) rfl)⟩
theorem cC_29 : mm_CLk "CutSheets" 29 1 := ⟨_, rfl, mm_in 145 (by decide +kernel) rfl, mm_in 146 (by decide +kernel) rfl, mm_in 68 (by decide +kernel) rfl⟩
theorem lC_31 : mm_MI "CutSheets" 31 mK_init 0 := ⟨bK_init, Or.inr (List.mem_of_getElem? (i := 1) rfl), mm_in 148 (by decide +kernel) rfl, rfl, mm_in 149 (by decide +kernel) rfl⟩
theorem fC_32 : mm_FL "CutSheets" 32 4 4 := ⟨_, rfl, by decide, Or.inl (mm_in 198 (by decide +kernel) rfl)⟩
theorem fC_36 : mm_FL "CutSheets" 36 4 5 := ⟨_, rfl, by decide, Or.inl (mm_in 199 (by decide +kernel) rfl)⟩
theorem fC_39 : mm_FL "CutSheets" 39 4 6 := ⟨_, rfl, by decide, Or.inl (mm_in 200 (by decide +kernel) rfl)⟩
theorem fC_43 : mm_FL "CutSheets" 43 4 7 := ⟨_, rfl, by decide, Or.inl (mm_in 201 (by decide +kernel) rfl)⟩
theorem fC_47 : mm_FL "CutSheets" 47 4 8 := ⟨_, rfl, by decide, Or.inl (mm_in 202 (by decide +kernel) rfl)⟩
theorem lC_51 : mm_MV "CutSheets" 51 mC_sheet 0 4 := ⟨bC_sheet, Or.inl (mm_in 232 (by decide +kernel) rfl), mm_in 234 (by decide +kernel) rfl, mm_in 0 (by decide +kernel) rfl, ⟨_, rfl, rfl⟩⟩
theorem lC_55 : mm_MV "CutSheets" 55 mS_hasArea 1 3 := ⟨bS_hasArea, Or.inl (mm_in 236 (by decide +kernel) rfl), mm_in 237 (by decide +kernel) rfl, mm_in 238 (by decide +kernel) rfl, ⟨_, rfl, rfl⟩⟩
theorem lC_59 : mm_MS "CutSheets" 59 mC_needArgument 1 := ⟨bC_needArgument, Or.inl (mm_in 248 (by decide +kernel) rfl), mm_in 249 (by decide +kernel) rfl, mm_in 65 (by decide +kernel) rfl⟩
theorem lC_63 : mm_MV "CutSheets" 63 mC_mayInsert 1 4 := ⟨bC_mayInsert, Or.inl (mm_in 315 (by decide +kernel) rfl), mm_in 317 (by decide +kernel) rfl, mm_in 3 (by decide +kernel) rfl, ⟨_, rfl, rfl⟩⟩
theorem lC_66 : mm_MS "CutSheets" 66 mC_needState 1 := ⟨bC_needState, Or.inl (mm_in 331 (by decide +kernel) rfl), mm_in 332 (by decide +kernel) rfl, mm_in 65 (by decide +kernel) rfl⟩
theorem lC_69 : mm_MV "CutSheets" 69 mC_mayChange 0 4 := ⟨bC_mayChange, Or.inl (mm_in 349 (by decide +kernel) rfl), mm_in 351 (by decide +kernel) rfl, mm_in 4 (by decide +kernel) rfl, ⟨_, rfl, rfl⟩⟩
theorem lC_73 : mm_MV "CutSheets" 73 mS_free 1 3 := ⟨bS_free, Or.inl (mm_in 353 (by decide +kernel) rfl), mm_in 354 (by decide +kernel) rfl, mm_in 355 (by decide +kernel) rfl, ⟨_, rfl, rfl⟩⟩
theorem lC_77 : mm_MS "CutSheets" 77 mC_needRoom 1 := ⟨bC_needRoom, Or.inl (mm_in 372 (by decide +kernel) rfl), mm_in 373 (by decide +kernel) rfl, mm_in 65 (by decide +kernel) rfl⟩
theorem lC_80 : mm_MV "CutSheets" 80 mC_changed 0 4 := ⟨bC_changed, Or.inl (mm_in 390 (by decide +kernel) rfl), mm_in 392 (by decide +kernel) rfl, mm_in 7 (by decide +kernel) rfl, ⟨_, rfl, rfl⟩⟩
theorem lC_83 : mm_MV "CutSheets" 83 mS_add 2 3 := ⟨bS_add, Or.inl (mm_in 401 (by decide +kernel) rfl), mm_in 402 (by decide +kernel) rfl, mm_in 403 (by decide +kernel) rfl, ⟨_, rfl, rfl⟩⟩
theorem lC_87 : mm_MS "CutSheets" 87 mC_placesOf 1 := ⟨bC_placesOf, Or.inl (mm_in 419 (by decide +kernel) rfl), mm_in 420 (by decide +kernel) rfl, mm_in 65 (by decide +kernel) rfl⟩
theorem lC_90 : mm_MV "CutSheets" 90 mS_reaches 2 3 := ⟨bS_reaches, Or.inl (mm_in 422 (by decide +kernel) rfl), mm_in 423 (by decide +kernel) rfl, mm_in 424 (by decide +kernel) rfl, ⟨_, rfl, rfl⟩⟩
theorem lC_94 : mm_MV "CutSheets" 94 mS_addSpot 4 3 := ⟨bS_addSpot, Or.inl (mm_in 430 (by decide +kernel) rfl), mm_in 431 (by decide +kernel) rfl, mm_in 432 (by decide +kernel) rfl, ⟨_, rfl, rfl⟩⟩
theorem lC_98 : mm_MV "CutSheets" 98 mS_has 2 3 := ⟨bS_has, Or.inl (mm_in 449 (by decide +kernel) rfl), mm_in 241 (by decide +kernel) rfl, mm_in 242 (by decide +kernel) rfl, ⟨_, rfl, rfl⟩⟩
theorem lC_101 : mm_MV "CutSheets" 101 mS_areaOf 2 3 := ⟨bS_areaOf, Or.inl (mm_in 450 (by decide +kernel) rfl), mm_in 328 (by decide +kernel) rfl, mm_in 329 (by decide +kernel) rfl, ⟨_, rfl, rfl⟩⟩
theorem lC_104 : mm_MV "CutSheets" 104 mS_isOdd 1 3 := ⟨bS_isOdd, Or.inl (mm_in 319 (by decide +kernel) rfl), mm_in 320 (by decide +kernel) rfl, mm_in 321 (by decide +kernel) rfl, ⟨_, rfl, rfl⟩⟩
theorem lC_107 : mm_MV "CutSheets" 107 mS_isHooked 1 3 := ⟨bS_isHooked, Or.inl (mm_in 451 (by decide +kernel) rfl), mm_in 452 (by decide +kernel) rfl, mm_in 453 (by decide +kernel) rfl, ⟨_, rfl, rfl⟩⟩
theorem lC_110 : mm_MV "CutSheets" 110 mS_remove 2 3 := ⟨bS_remove, Or.inl (mm_in 455 (by decide +kernel) rfl), mm_in 456 (by decide +kernel) rfl, mm_in 457 (by decide +kernel) rfl, ⟨_, rfl, rfl⟩⟩
theorem lC_114 : mm_MV "CutSheets" 114 mS_hasPart 2 3 := ⟨bS_hasPart, Or.inl (mm_in 479 (by decide +kernel) rfl), mm_in 480 (by decide +kernel) rfl, mm_in 481 (by decide +kernel) rfl, ⟨_, rfl, rfl⟩⟩
theorem lC_117 : mm_MV "CutSheets" 117 mS_isWithin 2 3 := ⟨bS_isWithin, Or.inl (mm_in 483 (by decide +kernel) rfl), mm_in 427 (by decide +kernel) rfl, mm_in 428 (by decide +kernel) rfl, ⟨_, rfl, rfl⟩⟩
theorem lC_120 : mm_MV "CutSheets" 120 mS_hasRoomForCopy 2 3 := ⟨bS_hasRoomForCopy, Or.inl (mm_in 484 (by decide +kernel) rfl), mm_in 485 (by decide +kernel) rfl, mm_in 486 (by decide +kernel) rfl, ⟨_, rfl, rfl⟩⟩
theorem lC_123 : mm_MV "CutSheets" 123 mS_addCopy 4 3 := ⟨bS_addCopy, Or.inl (mm_in 489 (by decide +kernel) rfl), mm_in 490 (by decide +kernel) rfl, mm_in 491 (by decide +kernel) rfl, ⟨_, rfl, rfl⟩⟩
theorem lC_127 : mm_MV "CutSheets" 127 mC_hasAlike 2 4 := ⟨bC_hasAlike, Or.inl (mm_in 513 (by decide +kernel) rfl), mm_in 515 (by decide +kernel) rfl, mm_in 12 (by decide +kernel) rfl, ⟨_, rfl, rfl⟩⟩
theorem lC_130 : mm_MV "CutSheets" 130 mS_put 3 3 := ⟨bS_put, Or.inl (mm_in 559 (by decide +kernel) rfl), mm_in 469 (by decide +kernel) rfl, mm_in 470 (by decide +kernel) rfl, ⟨_, rfl, rfl⟩⟩
theorem lC_134 : mm_MV "CutSheets" 134 mS_holdsOneCutAlone 1 3 := ⟨bS_holdsOneCutAlone, Or.inl (mm_in 567 (by decide +kernel) rfl), mm_in 568 (by decide +kernel) rfl, mm_in 569 (by decide +kernel) rfl, ⟨_, rfl, rfl⟩⟩
theorem lC_137 : mm_MV "CutSheets" 137 mS_removeDoubleCut 1 3 := ⟨bS_removeDoubleCut, Or.inl (mm_in 571 (by decide +kernel) rfl), mm_in 572 (by decide +kernel) rfl, mm_in 573 (by decide +kernel) rfl, ⟨_, rfl, rfl⟩⟩
theorem lC_141 : mm_MV "CutSheets" 141 mS_rehook 3 3 := ⟨bS_rehook, Or.inl (mm_in 582 (by decide +kernel) rfl), mm_in 583 (by decide +kernel) rfl, mm_in 584 (by decide +kernel) rfl, ⟨_, rfl, rfl⟩⟩
theorem lC_144 : mm_MV "CutSheets" 144 mS_depthOf 1 3 := ⟨bS_depthOf, Or.inl (mm_in 607 (by decide +kernel) rfl), mm_in 324 (by decide +kernel) rfl, mm_in 325 (by decide +kernel) rfl, ⟨_, rfl, rfl⟩⟩
theorem lC_147 : mm_MV "CutSheets" 147 mR_takeArea 2 2 := ⟨bR_takeArea, Or.inl (mm_in 615 (by decide +kernel) rfl), mm_in 616 (by decide +kernel) rfl, mm_in 617 (by decide +kernel) rfl, ⟨_, rfl, rfl⟩⟩
theorem fC_151 : mm_FL "CutSheets" 151 2 1 := ⟨_, rfl, by decide, Or.inr (List.mem_of_getElem? (i := 0) rfl)⟩
theorem xC_154 : Cond.classLink "CutSheets" 154 (mm_exc 3) ∈ mm_T := mm_in 627 (by decide +kernel) rfl
theorem fC_157 : mm_FL "CutSheets" 157 2 0 := ⟨_, rfl, by decide, Or.inr (List.mem_of_getElem? (i := 1) rfl)⟩
theorem lC_160 : mm_MV "CutSheets" 160 mK_arrange 1 1 := ⟨bK_arrange, Or.inl (mm_in 649 (by decide +kernel) rfl), mm_in 650 (by decide +kernel) rfl, mm_in 651 (by decide +kernel) rfl, ⟨_, rfl, rfl⟩⟩
theorem lC_164 : mm_MV "CutSheets" 164 mK_isTrueIn 2 1 := ⟨bK_isTrueIn, Or.inl (mm_in 659 (by decide +kernel) rfl), mm_in 660 (by decide +kernel) rfl, mm_in 661 (by decide +kernel) rfl, ⟨_, rfl, rfl⟩⟩
theorem lC_167 : mm_MS "CutSheets" 167 mC_bitsOf 1 := ⟨bC_bitsOf, Or.inl (mm_in 700 (by decide +kernel) rfl), mm_in 701 (by decide +kernel) rfl, mm_in 65 (by decide +kernel) rfl⟩
theorem lC_170 : mm_MV "CutSheets" 170 mS_howMany 1 3 := ⟨bS_howMany, Or.inl (mm_in 712 (by decide +kernel) rfl), mm_in 362 (by decide +kernel) rfl, mm_in 363 (by decide +kernel) rfl, ⟨_, rfl, rfl⟩⟩
theorem xC_173 : Cond.classLink "CutSheets" 173 (mm_exc 0) ∈ mm_T := mm_in 251 (by decide +kernel) rfl
theorem xC_176 : Cond.classLink "CutSheets" 176 (mm_exc 1) ∈ mm_T := mm_in 334 (by decide +kernel) rfl
theorem xC_179 : Cond.classLink "CutSheets" 179 (mm_exc 2) ∈ mm_T := mm_in 375 (by decide +kernel) rfl
theorem lC_182 : mm_MV "CutSheets" 182 mS_takeOver 1 3 := ⟨bS_takeOver, Or.inl (mm_in 394 (by decide +kernel) rfl), mm_in 395 (by decide +kernel) rfl, mm_in 396 (by decide +kernel) rfl, ⟨_, rfl, rfl⟩⟩
theorem lC_185 : mm_MV "CutSheets" 185 mR_takePart 3 2 := ⟨bR_takePart, Or.inl (mm_in 517 (by decide +kernel) rfl), mm_in 518 (by decide +kernel) rfl, mm_in 519 (by decide +kernel) rfl, ⟨_, rfl, rfl⟩⟩
theorem lC_189 : mm_MV "CutSheets" 189 mR_isSame 1 2 := ⟨bR_isSame, Or.inl (mm_in 548 (by decide +kernel) rfl), mm_in 549 (by decide +kernel) rfl, mm_in 550 (by decide +kernel) rfl, ⟨_, rfl, rfl⟩⟩
theorem lC_193 : mm_MS "CutSheets" 193 mC_bitOfOne 1 := ⟨bC_bitOfOne, Or.inl (mm_in 703 (by decide +kernel) rfl), mm_in 680 (by decide +kernel) rfl, mm_in 65 (by decide +kernel) rfl⟩
theorem lC_196 : mm_MS "CutSheets" 196 mC_bitOfTwo 2 := ⟨bC_bitOfTwo, Or.inl (mm_in 704 (by decide +kernel) rfl), mm_in 683 (by decide +kernel) rfl, mm_in 65 (by decide +kernel) rfl⟩
theorem lM_1 : Cond.methodLink "CutSheetsModel" 1 Lib.objectInit ∈ mm_T := mm_in 718 (by decide +kernel) rfl
theorem fM_7 : mm_FL "CutSheetsModel" 7 5 3 := ⟨_, rfl, by decide, Or.inl (mm_in 722 (by decide +kernel) rfl)⟩
theorem fM_13 : mm_FL "CutSheetsModel" 13 5 4 := ⟨_, rfl, by decide, Or.inl (mm_in 723 (by decide +kernel) rfl)⟩
theorem fM_16 : mm_FL "CutSheetsModel" 16 5 6 := ⟨_, rfl, by decide, Or.inl (mm_in 725 (by decide +kernel) rfl)⟩
theorem fM_19 : mm_FL "CutSheetsModel" 19 5 8 := ⟨_, rfl, by decide, Or.inl (mm_in 727 (by decide +kernel) rfl)⟩
theorem fM_22 : mm_FL "CutSheetsModel" 22 5 9 := ⟨_, rfl, by decide, Or.inl (mm_in 728 (by decide +kernel) rfl)⟩
theorem fM_25 : mm_FL "CutSheetsModel" 25 5 11 := ⟨_, rfl, by decide, Or.inl (mm_in 730 (by decide +kernel) rfl)⟩
theorem fM_28 : mm_FL "CutSheetsModel" 28 5 12 := ⟨_, rfl, by decide, Or.inl (mm_in 731 (by decide +kernel) rfl)⟩
theorem fM_31 : mm_FL "CutSheetsModel" 31 5 13 := ⟨_, rfl, by decide, Or.inl (mm_in 732 (by decide +kernel) rfl)⟩
theorem fM_35 : mm_FL "CutSheetsModel" 35 5 14 := ⟨_, rfl, by decide, Or.inl (mm_in 733 (by decide +kernel) rfl)⟩
theorem fM_38 : mm_FL "CutSheetsModel" 38 5 15 := ⟨_, rfl, by decide, Or.inl (mm_in 734 (by decide +kernel) rfl)⟩
theorem fM_41 : mm_FL "CutSheetsModel" 41 5 16 := ⟨_, rfl, by decide, Or.inl (mm_in 735 (by decide +kernel) rfl)⟩
theorem fM_44 : mm_FL "CutSheetsModel" 44 5 17 := ⟨_, rfl, by decide, Or.inl (mm_in 736 (by decide +kernel) rfl)⟩
theorem fM_47 : mm_FL "CutSheetsModel" 47 5 18 := ⟨_, rfl, by decide, Or.inl (mm_in 737 (by decide +kernel) rfl)⟩
theorem fM_50 : mm_FL "CutSheetsModel" 50 5 19 := ⟨_, rfl, by decide, Or.inl (mm_in 738 (by decide +kernel) rfl)⟩
theorem fM_53 : mm_FL "CutSheetsModel" 53 5 20 := ⟨_, rfl, by decide, Or.inl (mm_in 739 (by decide +kernel) rfl)⟩
theorem fM_56 : mm_FL "CutSheetsModel" 56 5 0 := ⟨_, rfl, by decide, Or.inl (mm_in 719 (by decide +kernel) rfl)⟩
theorem lM_60 : mm_MV "CutSheetsModel" 60 mM_isArea 1 5 := ⟨bM_isArea, Or.inl (mm_in 792 (by decide +kernel) rfl), mm_in 794 (by decide +kernel) rfl, mm_in 25 (by decide +kernel) rfl, ⟨_, rfl, rfl⟩⟩
theorem fM_64 : mm_FL "CutSheetsModel" 64 5 1 := ⟨_, rfl, by decide, Or.inl (mm_in 720 (by decide +kernel) rfl)⟩
theorem fM_68 : mm_FL "CutSheetsModel" 68 5 2 := ⟨_, rfl, by decide, Or.inl (mm_in 721 (by decide +kernel) rfl)⟩
theorem lM_71 : mm_MV "CutSheetsModel" 71 mM_depthOf 1 5 := ⟨bM_depthOf, Or.inl (mm_in 804 (by decide +kernel) rfl), mm_in 806 (by decide +kernel) rfl, mm_in 28 (by decide +kernel) rfl, ⟨_, rfl, rfl⟩⟩
theorem lM_75 : mm_MV "CutSheetsModel" 75 mM_freeCut 0 5 := ⟨bM_freeCut, Or.inl (mm_in 796 (by decide +kernel) rfl), mm_in 798 (by decide +kernel) rfl, mm_in 26 (by decide +kernel) rfl, ⟨_, rfl, rfl⟩⟩
theorem lM_79 : mm_MV "CutSheetsModel" 79 mM_checked 2 5 := ⟨bM_checked, Or.inl (mm_in 800 (by decide +kernel) rfl), mm_in 802 (by decide +kernel) rfl, mm_in 27 (by decide +kernel) rfl, ⟨_, rfl, rfl⟩⟩
theorem lM_83 : mm_MV "CutSheetsModel" 83 mM_keep 0 5 := ⟨bM_keep, Or.inl (mm_in 808 (by decide +kernel) rfl), mm_in 810 (by decide +kernel) rfl, mm_in 29 (by decide +kernel) rfl, ⟨_, rfl, rfl⟩⟩
theorem lM_86 : mm_MV "CutSheetsModel" 86 mM_freeLine 0 5 := ⟨bM_freeLine, Or.inl (mm_in 816 (by decide +kernel) rfl), mm_in 818 (by decide +kernel) rfl, mm_in 30 (by decide +kernel) rfl, ⟨_, rfl, rfl⟩⟩
theorem lM_89 : mm_MV "CutSheetsModel" 89 mM_isLine 1 5 := ⟨bM_isLine, Or.inl (mm_in 832 (by decide +kernel) rfl), mm_in 834 (by decide +kernel) rfl, mm_in 33 (by decide +kernel) rfl, ⟨_, rfl, rfl⟩⟩
theorem lM_92 : mm_MV "CutSheetsModel" 92 mM_isWithin 2 5 := ⟨bM_isWithin, Or.inl (mm_in 836 (by decide +kernel) rfl), mm_in 838 (by decide +kernel) rfl, mm_in 34 (by decide +kernel) rfl, ⟨_, rfl, rfl⟩⟩
theorem lM_96 : mm_MV "CutSheetsModel" 96 mM_places 1 5 := ⟨bM_places, Or.inl (mm_in 824 (by decide +kernel) rfl), mm_in 826 (by decide +kernel) rfl, mm_in 31 (by decide +kernel) rfl, ⟨_, rfl, rfl⟩⟩
theorem lM_99 : mm_MV "CutSheetsModel" 99 mM_mayHook 2 5 := ⟨bM_mayHook, Or.inl (mm_in 828 (by decide +kernel) rfl), mm_in 830 (by decide +kernel) rfl, mm_in 32 (by decide +kernel) rfl, ⟨_, rfl, rfl⟩⟩
theorem lM_102 : mm_MV "CutSheetsModel" 102 mM_freeSpot 0 5 := ⟨bM_freeSpot, Or.inl (mm_in 840 (by decide +kernel) rfl), mm_in 842 (by decide +kernel) rfl, mm_in 35 (by decide +kernel) rfl, ⟨_, rfl, rfl⟩⟩
theorem lM_105 : mm_MV "CutSheetsModel" 105 mM_isSpot 1 5 := ⟨bM_isSpot, Or.inl (mm_in 856 (by decide +kernel) rfl), mm_in 858 (by decide +kernel) rfl, mm_in 37 (by decide +kernel) rfl, ⟨_, rfl, rfl⟩⟩
theorem lM_108 : mm_MV "CutSheetsModel" 108 mM_removeSpot 1 5 := ⟨bM_removeSpot, Or.inl (mm_in 876 (by decide +kernel) rfl), mm_in 878 (by decide +kernel) rfl, mm_in 42 (by decide +kernel) rfl, ⟨_, rfl, rfl⟩⟩
theorem lM_112 : mm_MV "CutSheetsModel" 112 mM_isCut 1 5 := ⟨bM_isCut, Or.inl (mm_in 860 (by decide +kernel) rfl), mm_in 862 (by decide +kernel) rfl, mm_in 38 (by decide +kernel) rfl, ⟨_, rfl, rfl⟩⟩
theorem lM_115 : mm_MV "CutSheetsModel" 115 mM_noPart 2 5 := ⟨bM_noPart, Or.inl (mm_in 852 (by decide +kernel) rfl), mm_in 854 (by decide +kernel) rfl, mm_in 36 (by decide +kernel) rfl, ⟨_, rfl, rfl⟩⟩
theorem lM_118 : mm_MV "CutSheetsModel" 118 mM_areaOf 2 5 := ⟨bM_areaOf, Or.inl (mm_in 864 (by decide +kernel) rfl), mm_in 866 (by decide +kernel) rfl, mm_in 39 (by decide +kernel) rfl, ⟨_, rfl, rfl⟩⟩
theorem lM_122 : mm_MV "CutSheetsModel" 122 mM_isHooked 1 5 := ⟨bM_isHooked, Or.inl (mm_in 868 (by decide +kernel) rfl), mm_in 870 (by decide +kernel) rfl, mm_in 40 (by decide +kernel) rfl, ⟨_, rfl, rfl⟩⟩
theorem lM_125 : mm_MV "CutSheetsModel" 125 mM_late 0 5 := ⟨bM_late, Or.inl (mm_in 872 (by decide +kernel) rfl), mm_in 874 (by decide +kernel) rfl, mm_in 41 (by decide +kernel) rfl, ⟨_, rfl, rfl⟩⟩
theorem lM_128 : mm_MV "CutSheetsModel" 128 mM_removeCut 1 5 := ⟨bM_removeCut, Or.inl (mm_in 880 (by decide +kernel) rfl), mm_in 882 (by decide +kernel) rfl, mm_in 43 (by decide +kernel) rfl, ⟨_, rfl, rfl⟩⟩
theorem lM_131 : mm_MV "CutSheetsModel" 131 mM_copySpot 2 5 := ⟨bM_copySpot, Or.inl (mm_in 904 (by decide +kernel) rfl), mm_in 906 (by decide +kernel) rfl, mm_in 48 (by decide +kernel) rfl, ⟨_, rfl, rfl⟩⟩
theorem lM_135 : mm_MV "CutSheetsModel" 135 mM_copyArea 3 5 := ⟨bM_copyArea, Or.inl (mm_in 900 (by decide +kernel) rfl), mm_in 902 (by decide +kernel) rfl, mm_in 47 (by decide +kernel) rfl, ⟨_, rfl, rfl⟩⟩
theorem fM_139 : mm_FL "CutSheetsModel" 139 5 10 := ⟨_, rfl, by decide, Or.inl (mm_in 729 (by decide +kernel) rfl)⟩
theorem lM_142 : mm_MV "CutSheetsModel" 142 mM_amount 2 5 := ⟨bM_amount, Or.inl (mm_in 892 (by decide +kernel) rfl), mm_in 894 (by decide +kernel) rfl, mm_in 45 (by decide +kernel) rfl, ⟨_, rfl, rfl⟩⟩
theorem lM_145 : mm_MV "CutSheetsModel" 145 mM_isRoomFor 1 5 := ⟨bM_isRoomFor, Or.inl (mm_in 888 (by decide +kernel) rfl), mm_in 890 (by decide +kernel) rfl, mm_in 44 (by decide +kernel) rfl, ⟨_, rfl, rfl⟩⟩
theorem lM_148 : mm_MV "CutSheetsModel" 148 mM_copyCut 2 5 := ⟨bM_copyCut, Or.inl (mm_in 896 (by decide +kernel) rfl), mm_in 898 (by decide +kernel) rfl, mm_in 46 (by decide +kernel) rfl, ⟨_, rfl, rfl⟩⟩
theorem fM_151 : mm_FL "CutSheetsModel" 151 5 5 := ⟨_, rfl, by decide, Or.inl (mm_in 724 (by decide +kernel) rfl)⟩
theorem lM_154 : mm_MV "CutSheetsModel" 154 mM_add 1 5 := ⟨bM_add, Or.inl (mm_in 924 (by decide +kernel) rfl), mm_in 926 (by decide +kernel) rfl, mm_in 52 (by decide +kernel) rfl, ⟨_, rfl, rfl⟩⟩
theorem lM_157 : mm_MV "CutSheetsModel" 157 mM_readSpot 1 5 := ⟨bM_readSpot, Or.inl (mm_in 920 (by decide +kernel) rfl), mm_in 922 (by decide +kernel) rfl, mm_in 51 (by decide +kernel) rfl, ⟨_, rfl, rfl⟩⟩
theorem lM_160 : mm_MV "CutSheetsModel" 160 mM_readOwn 1 5 := ⟨bM_readOwn, Or.inl (mm_in 932 (by decide +kernel) rfl), mm_in 934 (by decide +kernel) rfl, mm_in 54 (by decide +kernel) rfl, ⟨_, rfl, rfl⟩⟩
theorem lM_163 : mm_MV "CutSheetsModel" 163 mM_readArea 1 5 := ⟨bM_readArea, Or.inl (mm_in 928 (by decide +kernel) rfl), mm_in 930 (by decide +kernel) rfl, mm_in 53 (by decide +kernel) rfl, ⟨_, rfl, rfl⟩⟩
theorem lM_166 : mm_MV "CutSheetsModel" 166 mM_readPart 2 5 := ⟨bM_readPart, Or.inl (mm_in 916 (by decide +kernel) rfl), mm_in 918 (by decide +kernel) rfl, mm_in 50 (by decide +kernel) rfl, ⟨_, rfl, rfl⟩⟩
theorem fM_169 : mm_FL "CutSheetsModel" 169 5 7 := ⟨_, rfl, by decide, Or.inl (mm_in 726 (by decide +kernel) rfl)⟩
theorem lM_172 : mm_MV "CutSheetsModel" 172 mM_isAlike 2 5 := ⟨bM_isAlike, Or.inl (mm_in 936 (by decide +kernel) rfl), mm_in 938 (by decide +kernel) rfl, mm_in 55 (by decide +kernel) rfl, ⟨_, rfl, rfl⟩⟩
theorem lM_175 : mm_MV "CutSheetsModel" 175 mM_hasOther 2 5 := ⟨bM_hasOther, Or.inl (mm_in 912 (by decide +kernel) rfl), mm_in 914 (by decide +kernel) rfl, mm_in 49 (by decide +kernel) rfl, ⟨_, rfl, rfl⟩⟩
theorem lM_178 : mm_MV "CutSheetsModel" 178 mM_only 1 5 := ⟨bM_only, Or.inl (mm_in 948 (by decide +kernel) rfl), mm_in 950 (by decide +kernel) rfl, mm_in 56 (by decide +kernel) rfl, ⟨_, rfl, rfl⟩⟩
theorem lM_181 : mm_MV "CutSheetsModel" 181 mM_thing 3 5 := ⟨bM_thing, Or.inl (mm_in 1004 (by decide +kernel) rfl), mm_in 1006 (by decide +kernel) rfl, mm_in 62 (by decide +kernel) rfl, ⟨_, rfl, rfl⟩⟩
theorem lM_185 : mm_MV "CutSheetsModel" 185 mM_spotHolds 4 5 := ⟨bM_spotHolds, Or.inl (mm_in 1000 (by decide +kernel) rfl), mm_in 1002 (by decide +kernel) rfl, mm_in 61 (by decide +kernel) rfl, ⟨_, rfl, rfl⟩⟩
theorem lM_189 : mm_MV "CutSheetsModel" 189 mM_any 4 5 := ⟨bM_any, Or.inl (mm_in 1008 (by decide +kernel) rfl), mm_in 1010 (by decide +kernel) rfl, mm_in 63 (by decide +kernel) rfl, ⟨_, rfl, rfl⟩⟩
theorem lM_193 : mm_MV "CutSheetsModel" 193 mM_look 4 5 := ⟨bM_look, Or.inl (mm_in 996 (by decide +kernel) rfl), mm_in 998 (by decide +kernel) rfl, mm_in 60 (by decide +kernel) rfl, ⟨_, rfl, rfl⟩⟩
theorem lM_196 : mm_MV "CutSheetsModel" 196 mM_change 0 5 := ⟨bM_change, Or.inl (mm_in 988 (by decide +kernel) rfl), mm_in 990 (by decide +kernel) rfl, mm_in 58 (by decide +kernel) rfl, ⟨_, rfl, rfl⟩⟩
theorem lM_199 : mm_MV "CutSheetsModel" 199 mM_sheetHolds 2 5 := ⟨bM_sheetHolds, Or.inl (mm_in 992 (by decide +kernel) rfl), mm_in 994 (by decide +kernel) rfl, mm_in 59 (by decide +kernel) rfl, ⟨_, rfl, rfl⟩⟩
theorem lM_202 : mm_MV "CutSheetsModel" 202 mM_firstHolds 2 5 := ⟨bM_firstHolds, Or.inl (mm_in 984 (by decide +kernel) rfl), mm_in 986 (by decide +kernel) rfl, mm_in 57 (by decide +kernel) rfl, ⟨_, rfl, rfl⟩⟩
theorem lG_3 : Cond.methodLink "CutSheets$Groups" 3 Lib.objectInit ∈ mm_T := mm_in 156 (by decide +kernel) rfl
theorem fG_9 : mm_FL "CutSheets$Groups" 9 0 1 := ⟨_, rfl, by decide, Or.inl (mm_in 159 (by decide +kernel) rfl)⟩
theorem fG_15 : mm_FL "CutSheets$Groups" 15 0 0 := ⟨_, rfl, by decide, Or.inl (mm_in 157 (by decide +kernel) rfl)⟩
theorem lK_3 : Cond.methodLink "CutSheets$Look" 3 Lib.objectInit ∈ mm_T := mm_in 150 (by decide +kernel) rfl
theorem cK_9 : mm_CLk "CutSheets$Look" 9 0 := ⟨_, rfl, mm_in 151 (by decide +kernel) rfl, mm_in 152 (by decide +kernel) rfl, mm_in 69 (by decide +kernel) rfl⟩
theorem lK_11 : mm_MI "CutSheets$Look" 11 mG_init 1 := ⟨bG_init, Or.inl (mm_in 153 (by decide +kernel) rfl), mm_in 154 (by decide +kernel) rfl, rfl, mm_in 155 (by decide +kernel) rfl⟩
theorem fK_14 : mm_FL "CutSheets$Look" 14 1 0 := ⟨_, rfl, by decide, Or.inl (mm_in 166 (by decide +kernel) rfl)⟩
theorem fK_20 : mm_FL "CutSheets$Look" 20 1 1 := ⟨_, rfl, by decide, Or.inl (mm_in 167 (by decide +kernel) rfl)⟩
theorem fK_23 : mm_FL "CutSheets$Look" 23 1 2 := ⟨_, rfl, by decide, Or.inl (mm_in 168 (by decide +kernel) rfl)⟩
theorem fK_26 : mm_FL "CutSheets$Look" 26 1 3 := ⟨_, rfl, by decide, Or.inl (mm_in 169 (by decide +kernel) rfl)⟩
theorem fK_30 : mm_FL "CutSheets$Look" 30 1 4 := ⟨_, rfl, by decide, Or.inl (mm_in 170 (by decide +kernel) rfl)⟩
theorem fK_33 : mm_FL "CutSheets$Look" 33 1 5 := ⟨_, rfl, by decide, Or.inl (mm_in 171 (by decide +kernel) rfl)⟩
theorem fK_36 : mm_FL "CutSheets$Look" 36 1 6 := ⟨_, rfl, by decide, Or.inl (mm_in 172 (by decide +kernel) rfl)⟩
theorem fK_39 : mm_FL "CutSheets$Look" 39 1 7 := ⟨_, rfl, by decide, Or.inl (mm_in 173 (by decide +kernel) rfl)⟩
theorem fK_43 : mm_FL "CutSheets$Look" 43 1 8 := ⟨_, rfl, by decide, Or.inl (mm_in 174 (by decide +kernel) rfl)⟩
theorem lK_46 : mm_MV "CutSheets$Look" 46 mS_isHooked 1 3 := ⟨bS_isHooked, Or.inl (mm_in 653 (by decide +kernel) rfl), mm_in 452 (by decide +kernel) rfl, mm_in 453 (by decide +kernel) rfl, ⟨_, rfl, rfl⟩⟩
theorem fK_52 : mm_FL "CutSheets$Look" 52 3 2 := ⟨_, rfl, by decide, Or.inr (List.mem_of_getElem? (i := 2) rfl)⟩
theorem lK_55 : mm_MV "CutSheets$Look" 55 mG_arrange 1 0 := ⟨bG_arrange, Or.inl (mm_in 654 (by decide +kernel) rfl), mm_in 655 (by decide +kernel) rfl, mm_in 656 (by decide +kernel) rfl, ⟨_, rfl, rfl⟩⟩
theorem fK_59 : mm_FL "CutSheets$Look" 59 3 0 := ⟨_, rfl, by decide, Or.inr (List.mem_of_getElem? (i := 3) rfl)⟩
theorem fK_62 : mm_FL "CutSheets$Look" 62 3 1 := ⟨_, rfl, by decide, Or.inr (List.mem_of_getElem? (i := 4) rfl)⟩
theorem fK_65 : mm_FL "CutSheets$Look" 65 3 3 := ⟨_, rfl, by decide, Or.inr (List.mem_of_getElem? (i := 5) rfl)⟩
theorem lK_68 : Cond.methodLink "CutSheets$Look" 68 arraycopyName ∈ mm_T := mm_in 658 (by decide +kernel) rfl
theorem fK_74 : mm_FL "CutSheets$Look" 74 3 4 := ⟨_, rfl, by decide, Or.inr (List.mem_of_getElem? (i := 6) rfl)⟩
theorem lK_75 : mm_MV "CutSheets$Look" 75 mK_isAreaTrue 2 1 := ⟨bK_isAreaTrue, Or.inl (mm_in 663 (by decide +kernel) rfl), mm_in 665 (by decide +kernel) rfl, mm_in 19 (by decide +kernel) rfl, ⟨_, rfl, rfl⟩⟩
theorem fK_79 : mm_FL "CutSheets$Look" 79 0 1 := ⟨_, rfl, by decide, Or.inr (List.mem_of_getElem? (i := 7) rfl)⟩
theorem fK_82 : mm_FL "CutSheets$Look" 82 0 0 := ⟨_, rfl, by decide, Or.inr (List.mem_of_getElem? (i := 8) rfl)⟩
theorem lK_85 : mm_MV "CutSheets$Look" 85 mK_areSpotsTrue 1 1 := ⟨bK_areSpotsTrue, Or.inl (mm_in 667 (by decide +kernel) rfl), mm_in 669 (by decide +kernel) rfl, mm_in 20 (by decide +kernel) rfl, ⟨_, rfl, rfl⟩⟩
theorem lK_88 : mm_MV "CutSheets$Look" 88 mK_areCutsFalse 2 1 := ⟨bK_areCutsFalse, Or.inl (mm_in 685 (by decide +kernel) rfl), mm_in 687 (by decide +kernel) rfl, mm_in 23 (by decide +kernel) rfl, ⟨_, rfl, rfl⟩⟩
theorem lK_91 : mm_MV "CutSheets$Look" 91 mK_takeNextThings 1 1 := ⟨bK_takeNextThings, Or.inl (mm_in 689 (by decide +kernel) rfl), mm_in 691 (by decide +kernel) rfl, mm_in 24 (by decide +kernel) rfl, ⟨_, rfl, rfl⟩⟩
theorem lK_94 : mm_MV "CutSheets$Look" 94 mK_bitOfSpot 1 1 := ⟨bK_bitOfSpot, Or.inl (mm_in 671 (by decide +kernel) rfl), mm_in 673 (by decide +kernel) rfl, mm_in 21 (by decide +kernel) rfl, ⟨_, rfl, rfl⟩⟩
theorem lK_98 : mm_MV "CutSheets$Look" 98 mK_thingAt 1 1 := ⟨bK_thingAt, Or.inl (mm_in 675 (by decide +kernel) rfl), mm_in 677 (by decide +kernel) rfl, mm_in 22 (by decide +kernel) rfl, ⟨_, rfl, rfl⟩⟩
theorem lK_101 : mm_MS "CutSheets$Look" 101 mC_bitOfOne 1 := ⟨bC_bitOfOne, Or.inr (List.mem_of_getElem? (i := 2) rfl), mm_in 680 (by decide +kernel) rfl, mm_in 65 (by decide +kernel) rfl⟩
theorem lK_104 : mm_MS "CutSheets$Look" 104 mC_bitOfTwo 2 := ⟨bC_bitOfTwo, Or.inr (List.mem_of_getElem? (i := 3) rfl), mm_in 683 (by decide +kernel) rfl, mm_in 65 (by decide +kernel) rfl⟩
theorem lR_3 : Cond.methodLink "CutSheets$Reading" 3 Lib.objectInit ∈ mm_T := mm_in 126 (by decide +kernel) rfl
theorem fR_9 : mm_FL "CutSheets$Reading" 9 2 0 := ⟨_, rfl, by decide, Or.inl (mm_in 127 (by decide +kernel) rfl)⟩
theorem fR_15 : mm_FL "CutSheets$Reading" 15 2 1 := ⟨_, rfl, by decide, Or.inl (mm_in 129 (by decide +kernel) rfl)⟩
theorem fR_19 : mm_FL "CutSheets$Reading" 19 2 2 := ⟨_, rfl, by decide, Or.inl (mm_in 131 (by decide +kernel) rfl)⟩
theorem fR_22 : mm_FL "CutSheets$Reading" 22 2 3 := ⟨_, rfl, by decide, Or.inl (mm_in 132 (by decide +kernel) rfl)⟩
theorem fR_25 : mm_FL "CutSheets$Reading" 25 2 4 := ⟨_, rfl, by decide, Or.inl (mm_in 133 (by decide +kernel) rfl)⟩
theorem lR_28 : mm_MV "CutSheets$Reading" 28 mR_clear 1 2 := ⟨bR_clear, Or.inl (mm_in 521 (by decide +kernel) rfl), mm_in 523 (by decide +kernel) rfl, mm_in 13 (by decide +kernel) rfl, ⟨_, rfl, rfl⟩⟩
theorem lR_32 : mm_MV "CutSheets$Reading" 32 mR_addArea 3 2 := ⟨bR_addArea, Or.inl (mm_in 540 (by decide +kernel) rfl), mm_in 542 (by decide +kernel) rfl, mm_in 17 (by decide +kernel) rfl, ⟨_, rfl, rfl⟩⟩
theorem lR_36 : mm_MV "CutSheets$Reading" 36 mR_addSpot 2 2 := ⟨bR_addSpot, Or.inl (mm_in 525 (by decide +kernel) rfl), mm_in 527 (by decide +kernel) rfl, mm_in 14 (by decide +kernel) rfl, ⟨_, rfl, rfl⟩⟩
theorem lR_40 : mm_MV "CutSheets$Reading" 40 mS_areasWithin 1 3 := ⟨bS_areasWithin, Or.inl (mm_in 539 (by decide +kernel) rfl), mm_in 460 (by decide +kernel) rfl, mm_in 461 (by decide +kernel) rfl, ⟨_, rfl, rfl⟩⟩
theorem fR_46 : mm_FL "CutSheets$Reading" 46 3 2 := ⟨_, rfl, by decide, Or.inr (List.mem_of_getElem? (i := 9) rfl)⟩
theorem lR_49 : mm_MV "CutSheets$Reading" 49 mR_addLine 2 2 := ⟨bR_addLine, Or.inl (mm_in 534 (by decide +kernel) rfl), mm_in 536 (by decide +kernel) rfl, mm_in 16 (by decide +kernel) rfl, ⟨_, rfl, rfl⟩⟩
theorem fR_52 : mm_FL "CutSheets$Reading" 52 3 0 := ⟨_, rfl, by decide, Or.inr (List.mem_of_getElem? (i := 10) rfl)⟩
theorem lR_55 : mm_MV "CutSheets$Reading" 55 mR_addCutsIn 3 2 := ⟨bR_addCutsIn, Or.inl (mm_in 544 (by decide +kernel) rfl), mm_in 546 (by decide +kernel) rfl, mm_in 18 (by decide +kernel) rfl, ⟨_, rfl, rfl⟩⟩
theorem fR_58 : mm_FL "CutSheets$Reading" 58 3 1 := ⟨_, rfl, by decide, Or.inr (List.mem_of_getElem? (i := 11) rfl)⟩
theorem lR_61 : mm_MV "CutSheets$Reading" 61 mR_add 1 2 := ⟨bR_add, Or.inl (mm_in 529 (by decide +kernel) rfl), mm_in 531 (by decide +kernel) rfl, mm_in 15 (by decide +kernel) rfl, ⟨_, rfl, rfl⟩⟩
theorem fR_64 : mm_FL "CutSheets$Reading" 64 3 3 := ⟨_, rfl, by decide, Or.inr (List.mem_of_getElem? (i := 12) rfl)⟩
theorem lR_67 : mm_MS "CutSheets$Reading" 67 mC_placesOf 1 := ⟨bC_placesOf, Or.inr (List.mem_of_getElem? (i := 4) rfl), mm_in 420 (by decide +kernel) rfl, mm_in 65 (by decide +kernel) rfl⟩
theorem fR_70 : mm_FL "CutSheets$Reading" 70 3 4 := ⟨_, rfl, by decide, Or.inr (List.mem_of_getElem? (i := 13) rfl)⟩
theorem lR_73 : mm_MS "CutSheets$Reading" 73 mC_isAmong 2 := ⟨bC_isAmong, Or.inr (List.mem_of_getElem? (i := 5) rfl), mm_in 370 (by decide +kernel) rfl, mm_in 65 (by decide +kernel) rfl⟩
theorem lS_3 : Cond.methodLink "CutSheets$Sheet" 3 Lib.objectInit ∈ mm_T := mm_in 93 (by decide +kernel) rfl
theorem fS_9 : mm_FL "CutSheets$Sheet" 9 3 0 := ⟨_, rfl, by decide, Or.inl (mm_in 94 (by decide +kernel) rfl)⟩
theorem fS_15 : mm_FL "CutSheets$Sheet" 15 3 1 := ⟨_, rfl, by decide, Or.inl (mm_in 97 (by decide +kernel) rfl)⟩
theorem fS_18 : mm_FL "CutSheets$Sheet" 18 3 2 := ⟨_, rfl, by decide, Or.inl (mm_in 100 (by decide +kernel) rfl)⟩
theorem fS_21 : mm_FL "CutSheets$Sheet" 21 3 3 := ⟨_, rfl, by decide, Or.inl (mm_in 103 (by decide +kernel) rfl)⟩
theorem fS_24 : mm_FL "CutSheets$Sheet" 24 3 4 := ⟨_, rfl, by decide, Or.inl (mm_in 106 (by decide +kernel) rfl)⟩
theorem lS_27 : Cond.methodLink "CutSheets$Sheet" 27 arraycopyName ∈ mm_T := mm_in 398 (by decide +kernel) rfl
theorem lS_33 : mm_MV "CutSheets$Sheet" 33 mS_areas 1 3 := ⟨bS_areas, Or.inl (mm_in 244 (by decide +kernel) rfl), mm_in 246 (by decide +kernel) rfl, mm_in 1 (by decide +kernel) rfl, ⟨_, rfl, rfl⟩⟩
theorem lS_37 : mm_MV "CutSheets$Sheet" 37 mS_has 2 3 := ⟨bS_has, Or.inl (mm_in 240 (by decide +kernel) rfl), mm_in 241 (by decide +kernel) rfl, mm_in 242 (by decide +kernel) rfl, ⟨_, rfl, rfl⟩⟩
theorem lS_41 : mm_MV "CutSheets$Sheet" 41 mS_howManyIn 2 3 := ⟨bS_howManyIn, Or.inl (mm_in 365 (by decide +kernel) rfl), mm_in 367 (by decide +kernel) rfl, mm_in 6 (by decide +kernel) rfl, ⟨_, rfl, rfl⟩⟩
theorem lS_45 : mm_MV "CutSheets$Sheet" 45 mS_leastNumber 1 3 := ⟨bS_leastNumber, Or.inl (mm_in 357 (by decide +kernel) rfl), mm_in 359 (by decide +kernel) rfl, mm_in 5 (by decide +kernel) rfl, ⟨_, rfl, rfl⟩⟩
theorem lS_49 : mm_MV "CutSheets$Sheet" 49 mS_howMany 1 3 := ⟨bS_howMany, Or.inl (mm_in 361 (by decide +kernel) rfl), mm_in 362 (by decide +kernel) rfl, mm_in 363 (by decide +kernel) rfl, ⟨_, rfl, rfl⟩⟩
theorem lS_52 : mm_MS "CutSheets$Sheet" 52 mC_isAmong 2 := ⟨bC_isAmong, Or.inr (List.mem_of_getElem? (i := 6) rfl), mm_in 370 (by decide +kernel) rfl, mm_in 65 (by decide +kernel) rfl⟩
theorem lS_55 : mm_MV "CutSheets$Sheet" 55 mS_areaOf 2 3 := ⟨bS_areaOf, Or.inl (mm_in 327 (by decide +kernel) rfl), mm_in 328 (by decide +kernel) rfl, mm_in 329 (by decide +kernel) rfl, ⟨_, rfl, rfl⟩⟩
theorem lS_58 : mm_MV "CutSheets$Sheet" 58 mS_depthOf 1 3 := ⟨bS_depthOf, Or.inl (mm_in 323 (by decide +kernel) rfl), mm_in 324 (by decide +kernel) rfl, mm_in 325 (by decide +kernel) rfl, ⟨_, rfl, rfl⟩⟩
theorem lS_61 : mm_MV "CutSheets$Sheet" 61 mS_hasArea 1 3 := ⟨bS_hasArea, Or.inl (mm_in 463 (by decide +kernel) rfl), mm_in 237 (by decide +kernel) rfl, mm_in 238 (by decide +kernel) rfl, ⟨_, rfl, rfl⟩⟩
theorem lS_65 : mm_MV "CutSheets$Sheet" 65 mS_isWithin 2 3 := ⟨bS_isWithin, Or.inl (mm_in 426 (by decide +kernel) rfl), mm_in 427 (by decide +kernel) rfl, mm_in 428 (by decide +kernel) rfl, ⟨_, rfl, rfl⟩⟩
theorem lS_68 : mm_MV "CutSheets$Sheet" 68 mS_add 2 3 := ⟨bS_add, Or.inl (mm_in 434 (by decide +kernel) rfl), mm_in 402 (by decide +kernel) rfl, mm_in 403 (by decide +kernel) rfl, ⟨_, rfl, rfl⟩⟩
theorem lS_71 : mm_MV "CutSheets$Sheet" 71 mS_areasWithin 1 3 := ⟨bS_areasWithin, Or.inl (mm_in 459 (by decide +kernel) rfl), mm_in 460 (by decide +kernel) rfl, mm_in 461 (by decide +kernel) rfl, ⟨_, rfl, rfl⟩⟩
theorem lS_74 : mm_MV "CutSheets$Sheet" 74 mS_putAll 2 3 := ⟨bS_putAll, Or.inl (mm_in 464 (by decide +kernel) rfl), mm_in 466 (by decide +kernel) rfl, mm_in 8 (by decide +kernel) rfl, ⟨_, rfl, rfl⟩⟩
theorem lS_78 : mm_MV "CutSheets$Sheet" 78 mS_put 3 3 := ⟨bS_put, Or.inl (mm_in 468 (by decide +kernel) rfl), mm_in 469 (by decide +kernel) rfl, mm_in 470 (by decide +kernel) rfl, ⟨_, rfl, rfl⟩⟩
theorem lS_82 : mm_MV "CutSheets$Sheet" 82 mS_free 1 3 := ⟨bS_free, Or.inl (mm_in 488 (by decide +kernel) rfl), mm_in 354 (by decide +kernel) rfl, mm_in 355 (by decide +kernel) rfl, ⟨_, rfl, rfl⟩⟩
theorem lS_85 : mm_MV "CutSheets$Sheet" 85 mS_copySpot 3 3 := ⟨bS_copySpot, Or.inl (mm_in 493 (by decide +kernel) rfl), mm_in 495 (by decide +kernel) rfl, mm_in 9 (by decide +kernel) rfl, ⟨_, rfl, rfl⟩⟩
theorem lS_89 : mm_MV "CutSheets$Sheet" 89 mS_copyCut 4 3 := ⟨bS_copyCut, Or.inl (mm_in 498 (by decide +kernel) rfl), mm_in 500 (by decide +kernel) rfl, mm_in 10 (by decide +kernel) rfl, ⟨_, rfl, rfl⟩⟩
theorem lS_93 : mm_MV "CutSheets$Sheet" 93 mS_addSpot 4 3 := ⟨bS_addSpot, Or.inl (mm_in 497 (by decide +kernel) rfl), mm_in 431 (by decide +kernel) rfl, mm_in 432 (by decide +kernel) rfl, ⟨_, rfl, rfl⟩⟩
theorem lS_97 : mm_MV "CutSheets$Sheet" 97 mS_copyCutsIn 4 3 := ⟨bS_copyCutsIn, Or.inl (mm_in 502 (by decide +kernel) rfl), mm_in 504 (by decide +kernel) rfl, mm_in 11 (by decide +kernel) rfl, ⟨_, rfl, rfl⟩⟩
theorem lL_7 : mm_MV "CutSheetsLaw" 7 mC_cut 1 4 := ⟨bC_cut, Or.inl (mm_in 228 (by decide +kernel) rfl), mm_in 229 (by decide +kernel) rfl, mm_in 230 (by decide +kernel) rfl, ⟨_, rfl, rfl⟩⟩
theorem lL_19 : mm_MV "CutSheetsLaw" 19 mC_line 1 4 := ⟨bC_line, Or.inl (mm_in 408 (by decide +kernel) rfl), mm_in 409 (by decide +kernel) rfl, mm_in 410 (by decide +kernel) rfl, ⟨_, rfl, rfl⟩⟩
theorem lL_22 : mm_MV "CutSheetsLaw" 22 mC_spot 4 4 := ⟨bC_spot, Or.inl (mm_in 415 (by decide +kernel) rfl), mm_in 416 (by decide +kernel) rfl, mm_in 417 (by decide +kernel) rfl, ⟨_, rfl, rfl⟩⟩
theorem lL_26 : mm_MV "CutSheetsLaw" 26 mC_start 0 4 := ⟨bC_start, Or.inl (mm_in 438 (by decide +kernel) rfl), mm_in 439 (by decide +kernel) rfl, mm_in 440 (by decide +kernel) rfl, ⟨_, rfl, rfl⟩⟩
theorem lL_29 : mm_MV "CutSheetsLaw" 29 mC_erase 2 4 := ⟨bC_erase, Or.inl (mm_in 445 (by decide +kernel) rfl), mm_in 446 (by decide +kernel) rfl, mm_in 447 (by decide +kernel) rfl, ⟨_, rfl, rfl⟩⟩
theorem lL_33 : mm_MV "CutSheetsLaw" 33 mC_copy 3 4 := ⟨bC_copy, Or.inl (mm_in 475 (by decide +kernel) rfl), mm_in 476 (by decide +kernel) rfl, mm_in 477 (by decide +kernel) rfl, ⟨_, rfl, rfl⟩⟩
theorem lL_37 : mm_MV "CutSheetsLaw" 37 mC_uncopy 2 4 := ⟨bC_uncopy, Or.inl (mm_in 509 (by decide +kernel) rfl), mm_in 510 (by decide +kernel) rfl, mm_in 511 (by decide +kernel) rfl, ⟨_, rfl, rfl⟩⟩
theorem lL_40 : mm_MV "CutSheetsLaw" 40 mC_wrap 2 4 := ⟨bC_wrap, Or.inl (mm_in 555 (by decide +kernel) rfl), mm_in 556 (by decide +kernel) rfl, mm_in 557 (by decide +kernel) rfl, ⟨_, rfl, rfl⟩⟩
theorem lL_43 : mm_MV "CutSheetsLaw" 43 mC_unwrap 1 4 := ⟨bC_unwrap, Or.inl (mm_in 563 (by decide +kernel) rfl), mm_in 564 (by decide +kernel) rfl, mm_in 565 (by decide +kernel) rfl, ⟨_, rfl, rfl⟩⟩
theorem lL_46 : mm_MV "CutSheetsLaw" 46 mC_join 2 4 := ⟨bC_join, Or.inl (mm_in 578 (by decide +kernel) rfl), mm_in 579 (by decide +kernel) rfl, mm_in 580 (by decide +kernel) rfl, ⟨_, rfl, rfl⟩⟩
theorem lL_49 : mm_MV "CutSheetsLaw" 49 mC_sever 2 4 := ⟨bC_sever, Or.inl (mm_in 589 (by decide +kernel) rfl), mm_in 590 (by decide +kernel) rfl, mm_in 591 (by decide +kernel) rfl, ⟨_, rfl, rfl⟩⟩
theorem lL_52 : mm_MV "CutSheetsLaw" 52 mC_back 0 4 := ⟨bC_back, Or.inl (mm_in 596 (by decide +kernel) rfl), mm_in 597 (by decide +kernel) rfl, mm_in 598 (by decide +kernel) rfl, ⟨_, rfl, rfl⟩⟩
theorem lL_56 : mm_MV "CutSheetsLaw" 56 mC_depth 1 4 := ⟨bC_depth, Or.inl (mm_in 603 (by decide +kernel) rfl), mm_in 604 (by decide +kernel) rfl, mm_in 605 (by decide +kernel) rfl, ⟨_, rfl, rfl⟩⟩
theorem lL_59 : mm_MV "CutSheetsLaw" 59 mC_read 1 4 := ⟨bC_read, Or.inl (mm_in 611 (by decide +kernel) rfl), mm_in 612 (by decide +kernel) rfl, mm_in 613 (by decide +kernel) rfl, ⟨_, rfl, rfl⟩⟩
theorem lL_62 : mm_MV "CutSheetsLaw" 62 mC_token 1 4 := ⟨bC_token, Or.inl (mm_in 623 (by decide +kernel) rfl), mm_in 624 (by decide +kernel) rfl, mm_in 625 (by decide +kernel) rfl, ⟨_, rfl, rfl⟩⟩
theorem lL_67 : mm_MV "CutSheetsLaw" 67 mC_holds 3 4 := ⟨bC_holds, Or.inl (mm_in 645 (by decide +kernel) rfl), mm_in 646 (by decide +kernel) rfl, mm_in 647 (by decide +kernel) rfl, ⟨_, rfl, rfl⟩⟩
theorem lL_71 : mm_MV "CutSheetsLaw" 71 mC_refutes 1 4 := ⟨bC_refutes, Or.inl (mm_in 696 (by decide +kernel) rfl), mm_in 697 (by decide +kernel) rfl, mm_in 698 (by decide +kernel) rfl, ⟨_, rfl, rfl⟩⟩
theorem lL_74 : mm_MV "CutSheetsLaw" 74 mC_count 1 4 := ⟨bC_count, Or.inl (mm_in 708 (by decide +kernel) rfl), mm_in 709 (by decide +kernel) rfl, mm_in 710 (by decide +kernel) rfl, ⟨_, rfl, rfl⟩⟩
theorem cL_8 : mm_CLk "CutSheetsLaw" 8 4 := ⟨_, rfl, mm_in 79 (by decide +kernel) rfl, mm_in 80 (by decide +kernel) rfl, mm_in 65 (by decide +kernel) rfl⟩
theorem lL_77 : mm_MI "CutSheetsLaw" 77 mC_init 0 := ⟨bC_init, Or.inl (mm_in 81 (by decide +kernel) rfl), mm_in 82 (by decide +kernel) rfl, rfl, mm_in 83 (by decide +kernel) rfl⟩
theorem cL_78 : mm_CLk "CutSheetsLaw" 78 5 := ⟨_, rfl, mm_in 713 (by decide +kernel) rfl, mm_in 714 (by decide +kernel) rfl, mm_in 70 (by decide +kernel) rfl⟩
theorem lL_80 : mm_MI "CutSheetsLaw" 80 mM_init 0 := ⟨bM_init, Or.inl (mm_in 715 (by decide +kernel) rfl), mm_in 716 (by decide +kernel) rfl, rfl, mm_in 717 (by decide +kernel) rfl⟩
theorem lL_81 : mm_MS "CutSheetsLaw" 81 mL_cut 3 := ⟨bL_cut, Or.inl (mm_in 222 (by decide +kernel) rfl), mm_in 223 (by decide +kernel) rfl, mm_in 64 (by decide +kernel) rfl⟩
theorem lL_86 : mm_MV "CutSheetsLaw" 86 mM_cut 1 5 := ⟨bM_cut, Or.inl (mm_in 788 (by decide +kernel) rfl), mm_in 789 (by decide +kernel) rfl, mm_in 790 (by decide +kernel) rfl, ⟨_, rfl, rfl⟩⟩
theorem lL_87 : mm_MV "CutSheetsLaw" 87 mM_thrown 0 5 := ⟨bM_thrown, Or.inl (mm_in 784 (by decide +kernel) rfl), mm_in 785 (by decide +kernel) rfl, mm_in 786 (by decide +kernel) rfl, ⟨_, rfl, rfl⟩⟩
theorem lL_90 : mm_MS "CutSheetsLaw" 90 mL_line 3 := ⟨bL_line, Or.inl (mm_in 405 (by decide +kernel) rfl), mm_in 406 (by decide +kernel) rfl, mm_in 64 (by decide +kernel) rfl⟩
theorem lL_92 : mm_MV "CutSheetsLaw" 92 mM_line 1 5 := ⟨bM_line, Or.inl (mm_in 812 (by decide +kernel) rfl), mm_in 813 (by decide +kernel) rfl, mm_in 814 (by decide +kernel) rfl, ⟨_, rfl, rfl⟩⟩
theorem lL_93 : mm_MS "CutSheetsLaw" 93 mL_spot 6 := ⟨bL_spot, Or.inl (mm_in 412 (by decide +kernel) rfl), mm_in 413 (by decide +kernel) rfl, mm_in 64 (by decide +kernel) rfl⟩
theorem lL_96 : mm_MV "CutSheetsLaw" 96 mM_spot 4 5 := ⟨bM_spot, Or.inl (mm_in 820 (by decide +kernel) rfl), mm_in 821 (by decide +kernel) rfl, mm_in 822 (by decide +kernel) rfl, ⟨_, rfl, rfl⟩⟩
theorem lL_97 : mm_MS "CutSheetsLaw" 97 mL_start 1 := ⟨bL_start, Or.inl (mm_in 435 (by decide +kernel) rfl), mm_in 436 (by decide +kernel) rfl, mm_in 64 (by decide +kernel) rfl⟩
theorem lL_100 : mm_MV "CutSheetsLaw" 100 mM_start 0 5 := ⟨bM_start, Or.inl (mm_in 844 (by decide +kernel) rfl), mm_in 845 (by decide +kernel) rfl, mm_in 846 (by decide +kernel) rfl, ⟨_, rfl, rfl⟩⟩
theorem lL_101 : mm_MS "CutSheetsLaw" 101 mL_erase 4 := ⟨bL_erase, Or.inl (mm_in 442 (by decide +kernel) rfl), mm_in 443 (by decide +kernel) rfl, mm_in 64 (by decide +kernel) rfl⟩
theorem lL_104 : mm_MV "CutSheetsLaw" 104 mM_erase 2 5 := ⟨bM_erase, Or.inl (mm_in 848 (by decide +kernel) rfl), mm_in 849 (by decide +kernel) rfl, mm_in 850 (by decide +kernel) rfl, ⟨_, rfl, rfl⟩⟩
theorem lL_105 : mm_MS "CutSheetsLaw" 105 mL_copy 5 := ⟨bL_copy, Or.inl (mm_in 472 (by decide +kernel) rfl), mm_in 473 (by decide +kernel) rfl, mm_in 64 (by decide +kernel) rfl⟩
theorem lL_108 : mm_MV "CutSheetsLaw" 108 mM_copy 3 5 := ⟨bM_copy, Or.inl (mm_in 884 (by decide +kernel) rfl), mm_in 885 (by decide +kernel) rfl, mm_in 886 (by decide +kernel) rfl, ⟨_, rfl, rfl⟩⟩
theorem lL_109 : mm_MS "CutSheetsLaw" 109 mL_uncopy 4 := ⟨bL_uncopy, Or.inl (mm_in 506 (by decide +kernel) rfl), mm_in 507 (by decide +kernel) rfl, mm_in 64 (by decide +kernel) rfl⟩
theorem lL_111 : mm_MV "CutSheetsLaw" 111 mM_uncopy 2 5 := ⟨bM_uncopy, Or.inl (mm_in 908 (by decide +kernel) rfl), mm_in 909 (by decide +kernel) rfl, mm_in 910 (by decide +kernel) rfl, ⟨_, rfl, rfl⟩⟩
theorem lL_112 : mm_MS "CutSheetsLaw" 112 mL_wrap 4 := ⟨bL_wrap, Or.inl (mm_in 552 (by decide +kernel) rfl), mm_in 553 (by decide +kernel) rfl, mm_in 64 (by decide +kernel) rfl⟩
theorem lL_114 : mm_MV "CutSheetsLaw" 114 mM_wrap 2 5 := ⟨bM_wrap, Or.inl (mm_in 940 (by decide +kernel) rfl), mm_in 941 (by decide +kernel) rfl, mm_in 942 (by decide +kernel) rfl, ⟨_, rfl, rfl⟩⟩
theorem lL_115 : mm_MS "CutSheetsLaw" 115 mL_unwrap 3 := ⟨bL_unwrap, Or.inl (mm_in 560 (by decide +kernel) rfl), mm_in 561 (by decide +kernel) rfl, mm_in 64 (by decide +kernel) rfl⟩
theorem lL_117 : mm_MV "CutSheetsLaw" 117 mM_unwrap 1 5 := ⟨bM_unwrap, Or.inl (mm_in 944 (by decide +kernel) rfl), mm_in 945 (by decide +kernel) rfl, mm_in 946 (by decide +kernel) rfl, ⟨_, rfl, rfl⟩⟩
theorem lL_118 : mm_MS "CutSheetsLaw" 118 mL_join 4 := ⟨bL_join, Or.inl (mm_in 575 (by decide +kernel) rfl), mm_in 576 (by decide +kernel) rfl, mm_in 64 (by decide +kernel) rfl⟩
theorem lL_120 : mm_MV "CutSheetsLaw" 120 mM_join 2 5 := ⟨bM_join, Or.inl (mm_in 952 (by decide +kernel) rfl), mm_in 953 (by decide +kernel) rfl, mm_in 954 (by decide +kernel) rfl, ⟨_, rfl, rfl⟩⟩
theorem lL_121 : mm_MS "CutSheetsLaw" 121 mL_sever 4 := ⟨bL_sever, Or.inl (mm_in 586 (by decide +kernel) rfl), mm_in 587 (by decide +kernel) rfl, mm_in 64 (by decide +kernel) rfl⟩
theorem lL_123 : mm_MV "CutSheetsLaw" 123 mM_sever 2 5 := ⟨bM_sever, Or.inl (mm_in 956 (by decide +kernel) rfl), mm_in 957 (by decide +kernel) rfl, mm_in 958 (by decide +kernel) rfl, ⟨_, rfl, rfl⟩⟩
theorem lL_124 : mm_MS "CutSheetsLaw" 124 mL_back 2 := ⟨bL_back, Or.inl (mm_in 593 (by decide +kernel) rfl), mm_in 594 (by decide +kernel) rfl, mm_in 64 (by decide +kernel) rfl⟩
theorem lL_127 : mm_MV "CutSheetsLaw" 127 mM_back 0 5 := ⟨bM_back, Or.inl (mm_in 960 (by decide +kernel) rfl), mm_in 961 (by decide +kernel) rfl, mm_in 962 (by decide +kernel) rfl, ⟨_, rfl, rfl⟩⟩
theorem lL_128 : mm_MS "CutSheetsLaw" 128 mL_depth 3 := ⟨bL_depth, Or.inl (mm_in 600 (by decide +kernel) rfl), mm_in 601 (by decide +kernel) rfl, mm_in 64 (by decide +kernel) rfl⟩
theorem lL_130 : mm_MV "CutSheetsLaw" 130 mM_depth 1 5 := ⟨bM_depth, Or.inl (mm_in 964 (by decide +kernel) rfl), mm_in 965 (by decide +kernel) rfl, mm_in 966 (by decide +kernel) rfl, ⟨_, rfl, rfl⟩⟩
theorem lL_131 : mm_MS "CutSheetsLaw" 131 mL_read 3 := ⟨bL_read, Or.inl (mm_in 608 (by decide +kernel) rfl), mm_in 609 (by decide +kernel) rfl, mm_in 64 (by decide +kernel) rfl⟩
theorem lL_133 : mm_MV "CutSheetsLaw" 133 mM_read 1 5 := ⟨bM_read, Or.inl (mm_in 968 (by decide +kernel) rfl), mm_in 969 (by decide +kernel) rfl, mm_in 970 (by decide +kernel) rfl, ⟨_, rfl, rfl⟩⟩
theorem lL_134 : mm_MS "CutSheetsLaw" 134 mL_token 3 := ⟨bL_token, Or.inl (mm_in 619 (by decide +kernel) rfl), mm_in 620 (by decide +kernel) rfl, mm_in 64 (by decide +kernel) rfl⟩
theorem lL_136 : mm_MV "CutSheetsLaw" 136 mM_token 1 5 := ⟨bM_token, Or.inl (mm_in 972 (by decide +kernel) rfl), mm_in 973 (by decide +kernel) rfl, mm_in 974 (by decide +kernel) rfl, ⟨_, rfl, rfl⟩⟩
theorem lL_137 : mm_MS "CutSheetsLaw" 137 mL_holds 5 := ⟨bL_holds, Or.inl (mm_in 642 (by decide +kernel) rfl), mm_in 643 (by decide +kernel) rfl, mm_in 64 (by decide +kernel) rfl⟩
theorem lL_140 : mm_MV "CutSheetsLaw" 140 mM_holds 3 5 := ⟨bM_holds, Or.inl (mm_in 980 (by decide +kernel) rfl), mm_in 981 (by decide +kernel) rfl, mm_in 982 (by decide +kernel) rfl, ⟨_, rfl, rfl⟩⟩
theorem lL_141 : mm_MS "CutSheetsLaw" 141 mL_refutes 3 := ⟨bL_refutes, Or.inl (mm_in 693 (by decide +kernel) rfl), mm_in 694 (by decide +kernel) rfl, mm_in 64 (by decide +kernel) rfl⟩
theorem lL_143 : mm_MV "CutSheetsLaw" 143 mM_refutes 1 5 := ⟨bM_refutes, Or.inl (mm_in 1012 (by decide +kernel) rfl), mm_in 1013 (by decide +kernel) rfl, mm_in 1014 (by decide +kernel) rfl, ⟨_, rfl, rfl⟩⟩
theorem lL_144 : mm_MS "CutSheetsLaw" 144 mL_count 3 := ⟨bL_count, Or.inl (mm_in 705 (by decide +kernel) rfl), mm_in 706 (by decide +kernel) rfl, mm_in 64 (by decide +kernel) rfl⟩
theorem lL_146 : mm_MV "CutSheetsLaw" 146 mM_count 1 5 := ⟨bM_count, Or.inl (mm_in 976 (by decide +kernel) rfl), mm_in 977 (by decide +kernel) rfl, mm_in 978 (by decide +kernel) rfl, ⟨_, rfl, rfl⟩⟩
end
section
/-! printed by wip/whole/gen_names.py: decode rows -/
theorem dC_init_0 : decode prog_1_method_1_code 0 = .ok (.aload_n 0, 1) := by decide +kernel
theorem dC_init_1 : decode prog_1_method_1_code 1 = .ok (.invokespecial 3, 3) := by decide +kernel
theorem dC_init_4 : decode prog_1_method_1_code 4 = .ok (.aload_n 0, 1) := by decide +kernel
theorem dC_init_5 : decode prog_1_method_1_code 5 = .ok (.bipush 21, 2) := by decide +kernel
theorem dC_init_7 : decode prog_1_method_1_code 7 = .ok (.anewarray 9, 3) := by decide +kernel
theorem dC_init_10 : decode prog_1_method_1_code 10 = .ok (.putfield 11, 3) := by decide +kernel
theorem dC_init_13 : decode prog_1_method_1_code 13 = .ok (.iconst 0, 1) := by decide +kernel
theorem dC_init_14 : decode prog_1_method_1_code 14 = .ok (.istore_n 1, 1) := by decide +kernel
theorem dC_init_15 : decode prog_1_method_1_code 15 = .ok (.iload_n 1, 1) := by decide +kernel
theorem dC_init_16 : decode prog_1_method_1_code 16 = .ok (.bipush 20, 2) := by decide +kernel
theorem dC_init_18 : decode prog_1_method_1_code 18 = .ok (.if_icmp .gt 22, 3) := by decide +kernel
theorem dC_init_21 : decode prog_1_method_1_code 21 = .ok (.aload_n 0, 1) := by decide +kernel
theorem dC_init_22 : decode prog_1_method_1_code 22 = .ok (.getfield 11, 3) := by decide +kernel
theorem dC_init_25 : decode prog_1_method_1_code 25 = .ok (.iload_n 1, 1) := by decide +kernel
theorem dC_init_26 : decode prog_1_method_1_code 26 = .ok (.new 9, 3) := by decide +kernel
theorem dC_init_29 : decode prog_1_method_1_code 29 = .ok (.dup, 1) := by decide +kernel
theorem dC_init_30 : decode prog_1_method_1_code 30 = .ok (.invokespecial 15, 3) := by decide +kernel
theorem dC_init_33 : decode prog_1_method_1_code 33 = .ok (.aastore, 1) := by decide +kernel
theorem dC_init_34 : decode prog_1_method_1_code 34 = .ok (.iinc 1 1, 3) := by decide +kernel
theorem dC_init_37 : decode prog_1_method_1_code 37 = .ok (.goto (-22), 3) := by decide +kernel
theorem dC_init_40 : decode prog_1_method_1_code 40 = .ok (.aload_n 0, 1) := by decide +kernel
theorem dC_init_41 : decode prog_1_method_1_code 41 = .ok (.new 16, 3) := by decide +kernel
theorem dC_init_44 : decode prog_1_method_1_code 44 = .ok (.dup, 1) := by decide +kernel
theorem dC_init_45 : decode prog_1_method_1_code 45 = .ok (.invokespecial 18, 3) := by decide +kernel
theorem dC_init_48 : decode prog_1_method_1_code 48 = .ok (.putfield 19, 3) := by decide +kernel
theorem dC_init_51 : decode prog_1_method_1_code 51 = .ok (.aload_n 0, 1) := by decide +kernel
theorem dC_init_52 : decode prog_1_method_1_code 52 = .ok (.new 16, 3) := by decide +kernel
theorem dC_init_55 : decode prog_1_method_1_code 55 = .ok (.dup, 1) := by decide +kernel
theorem dC_init_56 : decode prog_1_method_1_code 56 = .ok (.invokespecial 18, 3) := by decide +kernel
theorem dC_init_59 : decode prog_1_method_1_code 59 = .ok (.putfield 23, 3) := by decide +kernel
theorem dC_init_62 : decode prog_1_method_1_code 62 = .ok (.aload_n 0, 1) := by decide +kernel
theorem dC_init_63 : decode prog_1_method_1_code 63 = .ok (.new 16, 3) := by decide +kernel
theorem dC_init_66 : decode prog_1_method_1_code 66 = .ok (.dup, 1) := by decide +kernel
theorem dC_init_67 : decode prog_1_method_1_code 67 = .ok (.invokespecial 18, 3) := by decide +kernel
theorem dC_init_70 : decode prog_1_method_1_code 70 = .ok (.putfield 26, 3) := by decide +kernel
theorem dC_init_73 : decode prog_1_method_1_code 73 = .ok (.aload_n 0, 1) := by decide +kernel
theorem dC_init_74 : decode prog_1_method_1_code 74 = .ok (.new 29, 3) := by decide +kernel
theorem dC_init_77 : decode prog_1_method_1_code 77 = .ok (.dup, 1) := by decide +kernel
theorem dC_init_78 : decode prog_1_method_1_code 78 = .ok (.invokespecial 31, 3) := by decide +kernel
theorem dC_init_81 : decode prog_1_method_1_code 81 = .ok (.putfield 32, 3) := by decide +kernel
theorem dC_init_84 : decode prog_1_method_1_code 84 = .ok (.aload_n 0, 1) := by decide +kernel
theorem dC_init_85 : decode prog_1_method_1_code 85 = .ok (.new 29, 3) := by decide +kernel
theorem dC_init_88 : decode prog_1_method_1_code 88 = .ok (.dup, 1) := by decide +kernel
theorem dC_init_89 : decode prog_1_method_1_code 89 = .ok (.invokespecial 31, 3) := by decide +kernel
theorem dC_init_92 : decode prog_1_method_1_code 92 = .ok (.putfield 36, 3) := by decide +kernel
theorem dC_init_95 : decode prog_1_method_1_code 95 = .ok (.aload_n 0, 1) := by decide +kernel
theorem dC_init_96 : decode prog_1_method_1_code 96 = .ok (.bipush 6, 2) := by decide +kernel
theorem dC_init_98 : decode prog_1_method_1_code 98 = .ok (.newarray .int, 2) := by decide +kernel
theorem dC_init_100 : decode prog_1_method_1_code 100 = .ok (.putfield 39, 3) := by decide +kernel
theorem dC_init_103 : decode prog_1_method_1_code 103 = .ok (.aload_n 0, 1) := by decide +kernel
theorem dC_init_104 : decode prog_1_method_1_code 104 = .ok (.iconst 1, 1) := by decide +kernel
theorem dC_init_105 : decode prog_1_method_1_code 105 = .ok (.putfield 43, 3) := by decide +kernel
theorem dC_init_108 : decode prog_1_method_1_code 108 = .ok (.aload_n 0, 1) := by decide +kernel
theorem dC_init_109 : decode prog_1_method_1_code 109 = .ok (.iconst 0, 1) := by decide +kernel
theorem dC_init_110 : decode prog_1_method_1_code 110 = .ok (.putfield 47, 3) := by decide +kernel
theorem dC_init_113 : decode prog_1_method_1_code 113 = .ok (.return_, 1) := by decide +kernel
theorem dC_cut_0 : decode prog_1_method_2_code 0 = .ok (.aload_n 0, 1) := by decide +kernel
theorem dC_cut_1 : decode prog_1_method_2_code 1 = .ok (.invokevirtual 51, 3) := by decide +kernel
theorem dC_cut_4 : decode prog_1_method_2_code 4 = .ok (.iload_n 1, 1) := by decide +kernel
theorem dC_cut_5 : decode prog_1_method_2_code 5 = .ok (.invokevirtual 55, 3) := by decide +kernel
theorem dC_cut_8 : decode prog_1_method_2_code 8 = .ok (.invokestatic 59, 3) := by decide +kernel
theorem dC_cut_11 : decode prog_1_method_2_code 11 = .ok (.aload_n 0, 1) := by decide +kernel
theorem dC_cut_12 : decode prog_1_method_2_code 12 = .ok (.iload_n 1, 1) := by decide +kernel
theorem dC_cut_13 : decode prog_1_method_2_code 13 = .ok (.invokevirtual 63, 3) := by decide +kernel
theorem dC_cut_16 : decode prog_1_method_2_code 16 = .ok (.invokestatic 66, 3) := by decide +kernel
theorem dC_cut_19 : decode prog_1_method_2_code 19 = .ok (.aload_n 0, 1) := by decide +kernel
theorem dC_cut_20 : decode prog_1_method_2_code 20 = .ok (.invokevirtual 69, 3) := by decide +kernel
theorem dC_cut_23 : decode prog_1_method_2_code 23 = .ok (.ifCond .eq 18, 3) := by decide +kernel
theorem dC_cut_26 : decode prog_1_method_2_code 26 = .ok (.aload_n 0, 1) := by decide +kernel
theorem dC_cut_27 : decode prog_1_method_2_code 27 = .ok (.invokevirtual 51, 3) := by decide +kernel
theorem dC_cut_30 : decode prog_1_method_2_code 30 = .ok (.iconst 1, 1) := by decide +kernel
theorem dC_cut_31 : decode prog_1_method_2_code 31 = .ok (.invokevirtual 73, 3) := by decide +kernel
theorem dC_cut_34 : decode prog_1_method_2_code 34 = .ok (.ifCond .le 7, 3) := by decide +kernel
theorem dC_cut_37 : decode prog_1_method_2_code 37 = .ok (.iconst 1, 1) := by decide +kernel
theorem dC_cut_38 : decode prog_1_method_2_code 38 = .ok (.goto 4, 3) := by decide +kernel
theorem dC_cut_41 : decode prog_1_method_2_code 41 = .ok (.iconst 0, 1) := by decide +kernel
theorem dC_cut_42 : decode prog_1_method_2_code 42 = .ok (.invokestatic 77, 3) := by decide +kernel
theorem dC_cut_45 : decode prog_1_method_2_code 45 = .ok (.aload_n 0, 1) := by decide +kernel
theorem dC_cut_46 : decode prog_1_method_2_code 46 = .ok (.invokevirtual 80, 3) := by decide +kernel
theorem dC_cut_49 : decode prog_1_method_2_code 49 = .ok (.iconst 1, 1) := by decide +kernel
theorem dC_cut_50 : decode prog_1_method_2_code 50 = .ok (.iload_n 1, 1) := by decide +kernel
theorem dC_cut_51 : decode prog_1_method_2_code 51 = .ok (.invokevirtual 83, 3) := by decide +kernel
theorem dC_cut_54 : decode prog_1_method_2_code 54 = .ok (.ireturn, 1) := by decide +kernel
theorem dC_line_0 : decode prog_1_method_3_code 0 = .ok (.aload_n 0, 1) := by decide +kernel
theorem dC_line_1 : decode prog_1_method_3_code 1 = .ok (.invokevirtual 51, 3) := by decide +kernel
theorem dC_line_4 : decode prog_1_method_3_code 4 = .ok (.iload_n 1, 1) := by decide +kernel
theorem dC_line_5 : decode prog_1_method_3_code 5 = .ok (.invokevirtual 55, 3) := by decide +kernel
theorem dC_line_8 : decode prog_1_method_3_code 8 = .ok (.invokestatic 59, 3) := by decide +kernel
theorem dC_line_11 : decode prog_1_method_3_code 11 = .ok (.aload_n 0, 1) := by decide +kernel
theorem dC_line_12 : decode prog_1_method_3_code 12 = .ok (.iload_n 1, 1) := by decide +kernel
theorem dC_line_13 : decode prog_1_method_3_code 13 = .ok (.invokevirtual 63, 3) := by decide +kernel
theorem dC_line_16 : decode prog_1_method_3_code 16 = .ok (.invokestatic 66, 3) := by decide +kernel
theorem dC_line_19 : decode prog_1_method_3_code 19 = .ok (.aload_n 0, 1) := by decide +kernel
theorem dC_line_20 : decode prog_1_method_3_code 20 = .ok (.invokevirtual 69, 3) := by decide +kernel
theorem dC_line_23 : decode prog_1_method_3_code 23 = .ok (.ifCond .eq 18, 3) := by decide +kernel
theorem dC_line_26 : decode prog_1_method_3_code 26 = .ok (.aload_n 0, 1) := by decide +kernel
theorem dC_line_27 : decode prog_1_method_3_code 27 = .ok (.invokevirtual 51, 3) := by decide +kernel
theorem dC_line_30 : decode prog_1_method_3_code 30 = .ok (.iconst 2, 1) := by decide +kernel
theorem dC_line_31 : decode prog_1_method_3_code 31 = .ok (.invokevirtual 73, 3) := by decide +kernel
theorem dC_line_34 : decode prog_1_method_3_code 34 = .ok (.ifCond .le 7, 3) := by decide +kernel
theorem dC_line_37 : decode prog_1_method_3_code 37 = .ok (.iconst 1, 1) := by decide +kernel
theorem dC_line_38 : decode prog_1_method_3_code 38 = .ok (.goto 4, 3) := by decide +kernel
theorem dC_line_41 : decode prog_1_method_3_code 41 = .ok (.iconst 0, 1) := by decide +kernel
theorem dC_line_42 : decode prog_1_method_3_code 42 = .ok (.invokestatic 77, 3) := by decide +kernel
theorem dC_line_45 : decode prog_1_method_3_code 45 = .ok (.aload_n 0, 1) := by decide +kernel
theorem dC_line_46 : decode prog_1_method_3_code 46 = .ok (.invokevirtual 80, 3) := by decide +kernel
theorem dC_line_49 : decode prog_1_method_3_code 49 = .ok (.iconst 2, 1) := by decide +kernel
theorem dC_line_50 : decode prog_1_method_3_code 50 = .ok (.iload_n 1, 1) := by decide +kernel
theorem dC_line_51 : decode prog_1_method_3_code 51 = .ok (.invokevirtual 83, 3) := by decide +kernel
theorem dC_line_54 : decode prog_1_method_3_code 54 = .ok (.ireturn, 1) := by decide +kernel
theorem dC_spot_0 : decode prog_1_method_4_code 0 = .ok (.aload_n 0, 1) := by decide +kernel
theorem dC_spot_1 : decode prog_1_method_4_code 1 = .ok (.invokevirtual 51, 3) := by decide +kernel
theorem dC_spot_4 : decode prog_1_method_4_code 4 = .ok (.iload_n 1, 1) := by decide +kernel
theorem dC_spot_5 : decode prog_1_method_4_code 5 = .ok (.invokevirtual 55, 3) := by decide +kernel
theorem dC_spot_8 : decode prog_1_method_4_code 8 = .ok (.ifCond .eq 16, 3) := by decide +kernel
theorem dC_spot_11 : decode prog_1_method_4_code 11 = .ok (.iload_n 2, 1) := by decide +kernel
theorem dC_spot_12 : decode prog_1_method_4_code 12 = .ok (.ifCond .lt 12, 3) := by decide +kernel
theorem dC_spot_15 : decode prog_1_method_4_code 15 = .ok (.iload_n 2, 1) := by decide +kernel
theorem dC_spot_16 : decode prog_1_method_4_code 16 = .ok (.iconst 4, 1) := by decide +kernel
theorem dC_spot_17 : decode prog_1_method_4_code 17 = .ok (.if_icmp .ge 7, 3) := by decide +kernel
theorem dC_spot_20 : decode prog_1_method_4_code 20 = .ok (.iconst 1, 1) := by decide +kernel
theorem dC_spot_21 : decode prog_1_method_4_code 21 = .ok (.goto 4, 3) := by decide +kernel
theorem dC_spot_24 : decode prog_1_method_4_code 24 = .ok (.iconst 0, 1) := by decide +kernel
theorem dC_spot_25 : decode prog_1_method_4_code 25 = .ok (.invokestatic 59, 3) := by decide +kernel
theorem dC_spot_28 : decode prog_1_method_4_code 28 = .ok (.iload_n 2, 1) := by decide +kernel
theorem dC_spot_29 : decode prog_1_method_4_code 29 = .ok (.invokestatic 87, 3) := by decide +kernel
theorem dC_spot_32 : decode prog_1_method_4_code 32 = .ok (.istore 5, 2) := by decide +kernel
theorem dC_spot_34 : decode prog_1_method_4_code 34 = .ok (.iload 5, 2) := by decide +kernel
theorem dC_spot_36 : decode prog_1_method_4_code 36 = .ok (.iconst 1, 1) := by decide +kernel
theorem dC_spot_37 : decode prog_1_method_4_code 37 = .ok (.if_icmp .lt 15, 3) := by decide +kernel
theorem dC_spot_40 : decode prog_1_method_4_code 40 = .ok (.aload_n 0, 1) := by decide +kernel
theorem dC_spot_41 : decode prog_1_method_4_code 41 = .ok (.invokevirtual 51, 3) := by decide +kernel
theorem dC_spot_44 : decode prog_1_method_4_code 44 = .ok (.iload_n 3, 1) := by decide +kernel
theorem dC_spot_45 : decode prog_1_method_4_code 45 = .ok (.iload_n 1, 1) := by decide +kernel
theorem dC_spot_46 : decode prog_1_method_4_code 46 = .ok (.invokevirtual 90, 3) := by decide +kernel
theorem dC_spot_49 : decode prog_1_method_4_code 49 = .ok (.ifCond .eq 7, 3) := by decide +kernel
theorem dC_spot_52 : decode prog_1_method_4_code 52 = .ok (.iconst 1, 1) := by decide +kernel
theorem dC_spot_53 : decode prog_1_method_4_code 53 = .ok (.goto 4, 3) := by decide +kernel
theorem dC_spot_56 : decode prog_1_method_4_code 56 = .ok (.iconst 0, 1) := by decide +kernel
theorem dC_spot_57 : decode prog_1_method_4_code 57 = .ok (.invokestatic 59, 3) := by decide +kernel
theorem dC_spot_60 : decode prog_1_method_4_code 60 = .ok (.iload 5, 2) := by decide +kernel
theorem dC_spot_62 : decode prog_1_method_4_code 62 = .ok (.iconst 2, 1) := by decide +kernel
theorem dC_spot_63 : decode prog_1_method_4_code 63 = .ok (.if_icmp .lt 16, 3) := by decide +kernel
theorem dC_spot_66 : decode prog_1_method_4_code 66 = .ok (.aload_n 0, 1) := by decide +kernel
theorem dC_spot_67 : decode prog_1_method_4_code 67 = .ok (.invokevirtual 51, 3) := by decide +kernel
theorem dC_spot_70 : decode prog_1_method_4_code 70 = .ok (.iload 4, 2) := by decide +kernel
theorem dC_spot_72 : decode prog_1_method_4_code 72 = .ok (.iload_n 1, 1) := by decide +kernel
theorem dC_spot_73 : decode prog_1_method_4_code 73 = .ok (.invokevirtual 90, 3) := by decide +kernel
theorem dC_spot_76 : decode prog_1_method_4_code 76 = .ok (.ifCond .eq 7, 3) := by decide +kernel
theorem dC_spot_79 : decode prog_1_method_4_code 79 = .ok (.iconst 1, 1) := by decide +kernel
theorem dC_spot_80 : decode prog_1_method_4_code 80 = .ok (.goto 4, 3) := by decide +kernel
theorem dC_spot_83 : decode prog_1_method_4_code 83 = .ok (.iconst 0, 1) := by decide +kernel
theorem dC_spot_84 : decode prog_1_method_4_code 84 = .ok (.invokestatic 59, 3) := by decide +kernel
theorem dC_spot_87 : decode prog_1_method_4_code 87 = .ok (.aload_n 0, 1) := by decide +kernel
theorem dC_spot_88 : decode prog_1_method_4_code 88 = .ok (.iload_n 1, 1) := by decide +kernel
theorem dC_spot_89 : decode prog_1_method_4_code 89 = .ok (.invokevirtual 63, 3) := by decide +kernel
theorem dC_spot_92 : decode prog_1_method_4_code 92 = .ok (.invokestatic 66, 3) := by decide +kernel
theorem dC_spot_95 : decode prog_1_method_4_code 95 = .ok (.aload_n 0, 1) := by decide +kernel
theorem dC_spot_96 : decode prog_1_method_4_code 96 = .ok (.invokevirtual 69, 3) := by decide +kernel
theorem dC_spot_99 : decode prog_1_method_4_code 99 = .ok (.ifCond .eq 18, 3) := by decide +kernel
theorem dC_spot_102 : decode prog_1_method_4_code 102 = .ok (.aload_n 0, 1) := by decide +kernel
theorem dC_spot_103 : decode prog_1_method_4_code 103 = .ok (.invokevirtual 51, 3) := by decide +kernel
theorem dC_spot_106 : decode prog_1_method_4_code 106 = .ok (.iconst 0, 1) := by decide +kernel
theorem dC_spot_107 : decode prog_1_method_4_code 107 = .ok (.invokevirtual 73, 3) := by decide +kernel
theorem dC_spot_110 : decode prog_1_method_4_code 110 = .ok (.ifCond .le 7, 3) := by decide +kernel
theorem dC_spot_113 : decode prog_1_method_4_code 113 = .ok (.iconst 1, 1) := by decide +kernel
theorem dC_spot_114 : decode prog_1_method_4_code 114 = .ok (.goto 4, 3) := by decide +kernel
theorem dC_spot_117 : decode prog_1_method_4_code 117 = .ok (.iconst 0, 1) := by decide +kernel
theorem dC_spot_118 : decode prog_1_method_4_code 118 = .ok (.invokestatic 77, 3) := by decide +kernel
theorem dC_spot_121 : decode prog_1_method_4_code 121 = .ok (.aload_n 0, 1) := by decide +kernel
theorem dC_spot_122 : decode prog_1_method_4_code 122 = .ok (.invokevirtual 80, 3) := by decide +kernel
theorem dC_spot_125 : decode prog_1_method_4_code 125 = .ok (.iload_n 1, 1) := by decide +kernel
theorem dC_spot_126 : decode prog_1_method_4_code 126 = .ok (.iload_n 2, 1) := by decide +kernel
theorem dC_spot_127 : decode prog_1_method_4_code 127 = .ok (.iload 5, 2) := by decide +kernel
theorem dC_spot_129 : decode prog_1_method_4_code 129 = .ok (.iconst 1, 1) := by decide +kernel
theorem dC_spot_130 : decode prog_1_method_4_code 130 = .ok (.if_icmp .ge 7, 3) := by decide +kernel
theorem dC_spot_133 : decode prog_1_method_4_code 133 = .ok (.iconst (-1), 1) := by decide +kernel
theorem dC_spot_134 : decode prog_1_method_4_code 134 = .ok (.goto 4, 3) := by decide +kernel
theorem dC_spot_137 : decode prog_1_method_4_code 137 = .ok (.iload_n 3, 1) := by decide +kernel
theorem dC_spot_138 : decode prog_1_method_4_code 138 = .ok (.iload 5, 2) := by decide +kernel
theorem dC_spot_140 : decode prog_1_method_4_code 140 = .ok (.iconst 2, 1) := by decide +kernel
theorem dC_spot_141 : decode prog_1_method_4_code 141 = .ok (.if_icmp .ge 7, 3) := by decide +kernel
theorem dC_spot_144 : decode prog_1_method_4_code 144 = .ok (.iconst (-1), 1) := by decide +kernel
theorem dC_spot_145 : decode prog_1_method_4_code 145 = .ok (.goto 5, 3) := by decide +kernel
theorem dC_spot_148 : decode prog_1_method_4_code 148 = .ok (.iload 4, 2) := by decide +kernel
theorem dC_spot_150 : decode prog_1_method_4_code 150 = .ok (.invokevirtual 94, 3) := by decide +kernel
theorem dC_spot_153 : decode prog_1_method_4_code 153 = .ok (.ireturn, 1) := by decide +kernel
theorem dC_start_0 : decode prog_1_method_5_code 0 = .ok (.aload_n 0, 1) := by decide +kernel
theorem dC_start_1 : decode prog_1_method_5_code 1 = .ok (.getfield 43, 3) := by decide +kernel
theorem dC_start_4 : decode prog_1_method_5_code 4 = .ok (.invokestatic 66, 3) := by decide +kernel
theorem dC_start_7 : decode prog_1_method_5_code 7 = .ok (.aload_n 0, 1) := by decide +kernel
theorem dC_start_8 : decode prog_1_method_5_code 8 = .ok (.iconst 0, 1) := by decide +kernel
theorem dC_start_9 : decode prog_1_method_5_code 9 = .ok (.putfield 43, 3) := by decide +kernel
theorem dC_start_12 : decode prog_1_method_5_code 12 = .ok (.return_, 1) := by decide +kernel
theorem dC_erase_0 : decode prog_1_method_6_code 0 = .ok (.aload_n 0, 1) := by decide +kernel
theorem dC_erase_1 : decode prog_1_method_6_code 1 = .ok (.invokevirtual 51, 3) := by decide +kernel
theorem dC_erase_4 : decode prog_1_method_6_code 4 = .ok (.astore_n 3, 1) := by decide +kernel
theorem dC_erase_5 : decode prog_1_method_6_code 5 = .ok (.aload_n 3, 1) := by decide +kernel
theorem dC_erase_6 : decode prog_1_method_6_code 6 = .ok (.iload_n 1, 1) := by decide +kernel
theorem dC_erase_7 : decode prog_1_method_6_code 7 = .ok (.iload_n 2, 1) := by decide +kernel
theorem dC_erase_8 : decode prog_1_method_6_code 8 = .ok (.invokevirtual 98, 3) := by decide +kernel
theorem dC_erase_11 : decode prog_1_method_6_code 11 = .ok (.invokestatic 59, 3) := by decide +kernel
theorem dC_erase_14 : decode prog_1_method_6_code 14 = .ok (.aload_n 0, 1) := by decide +kernel
theorem dC_erase_15 : decode prog_1_method_6_code 15 = .ok (.getfield 43, 3) := by decide +kernel
theorem dC_erase_18 : decode prog_1_method_6_code 18 = .ok (.ifCond .ne 20, 3) := by decide +kernel
theorem dC_erase_21 : decode prog_1_method_6_code 21 = .ok (.aload_n 3, 1) := by decide +kernel
theorem dC_erase_22 : decode prog_1_method_6_code 22 = .ok (.aload_n 3, 1) := by decide +kernel
theorem dC_erase_23 : decode prog_1_method_6_code 23 = .ok (.iload_n 1, 1) := by decide +kernel
theorem dC_erase_24 : decode prog_1_method_6_code 24 = .ok (.iload_n 2, 1) := by decide +kernel
theorem dC_erase_25 : decode prog_1_method_6_code 25 = .ok (.invokevirtual 101, 3) := by decide +kernel
theorem dC_erase_28 : decode prog_1_method_6_code 28 = .ok (.invokevirtual 104, 3) := by decide +kernel
theorem dC_erase_31 : decode prog_1_method_6_code 31 = .ok (.ifCond .ne 7, 3) := by decide +kernel
theorem dC_erase_34 : decode prog_1_method_6_code 34 = .ok (.iconst 1, 1) := by decide +kernel
theorem dC_erase_35 : decode prog_1_method_6_code 35 = .ok (.goto 4, 3) := by decide +kernel
theorem dC_erase_38 : decode prog_1_method_6_code 38 = .ok (.iconst 0, 1) := by decide +kernel
theorem dC_erase_39 : decode prog_1_method_6_code 39 = .ok (.invokestatic 66, 3) := by decide +kernel
theorem dC_erase_42 : decode prog_1_method_6_code 42 = .ok (.iload_n 1, 1) := by decide +kernel
theorem dC_erase_43 : decode prog_1_method_6_code 43 = .ok (.iconst 2, 1) := by decide +kernel
theorem dC_erase_44 : decode prog_1_method_6_code 44 = .ok (.if_icmp .ne 11, 3) := by decide +kernel
theorem dC_erase_47 : decode prog_1_method_6_code 47 = .ok (.aload_n 3, 1) := by decide +kernel
theorem dC_erase_48 : decode prog_1_method_6_code 48 = .ok (.iload_n 2, 1) := by decide +kernel
theorem dC_erase_49 : decode prog_1_method_6_code 49 = .ok (.invokevirtual 107, 3) := by decide +kernel
theorem dC_erase_52 : decode prog_1_method_6_code 52 = .ok (.ifCond .ne 7, 3) := by decide +kernel
theorem dC_erase_55 : decode prog_1_method_6_code 55 = .ok (.iconst 1, 1) := by decide +kernel
theorem dC_erase_56 : decode prog_1_method_6_code 56 = .ok (.goto 4, 3) := by decide +kernel
theorem dC_erase_59 : decode prog_1_method_6_code 59 = .ok (.iconst 0, 1) := by decide +kernel
theorem dC_erase_60 : decode prog_1_method_6_code 60 = .ok (.invokestatic 66, 3) := by decide +kernel
theorem dC_erase_63 : decode prog_1_method_6_code 63 = .ok (.aload_n 0, 1) := by decide +kernel
theorem dC_erase_64 : decode prog_1_method_6_code 64 = .ok (.invokevirtual 69, 3) := by decide +kernel
theorem dC_erase_67 : decode prog_1_method_6_code 67 = .ok (.invokestatic 77, 3) := by decide +kernel
theorem dC_erase_70 : decode prog_1_method_6_code 70 = .ok (.aload_n 0, 1) := by decide +kernel
theorem dC_erase_71 : decode prog_1_method_6_code 71 = .ok (.invokevirtual 80, 3) := by decide +kernel
theorem dC_erase_74 : decode prog_1_method_6_code 74 = .ok (.iload_n 1, 1) := by decide +kernel
theorem dC_erase_75 : decode prog_1_method_6_code 75 = .ok (.iload_n 2, 1) := by decide +kernel
theorem dC_erase_76 : decode prog_1_method_6_code 76 = .ok (.invokevirtual 110, 3) := by decide +kernel
theorem dC_erase_79 : decode prog_1_method_6_code 79 = .ok (.aload_n 0, 1) := by decide +kernel
theorem dC_erase_80 : decode prog_1_method_6_code 80 = .ok (.getfield 47, 3) := by decide +kernel
theorem dC_erase_83 : decode prog_1_method_6_code 83 = .ok (.ireturn, 1) := by decide +kernel
theorem dC_copy_0 : decode prog_1_method_7_code 0 = .ok (.aload_n 0, 1) := by decide +kernel
theorem dC_copy_1 : decode prog_1_method_7_code 1 = .ok (.invokevirtual 51, 3) := by decide +kernel
theorem dC_copy_4 : decode prog_1_method_7_code 4 = .ok (.astore 4, 2) := by decide +kernel
theorem dC_copy_6 : decode prog_1_method_7_code 6 = .ok (.aload 4, 2) := by decide +kernel
theorem dC_copy_8 : decode prog_1_method_7_code 8 = .ok (.iload_n 1, 1) := by decide +kernel
theorem dC_copy_9 : decode prog_1_method_7_code 9 = .ok (.iload_n 2, 1) := by decide +kernel
theorem dC_copy_10 : decode prog_1_method_7_code 10 = .ok (.invokevirtual 114, 3) := by decide +kernel
theorem dC_copy_13 : decode prog_1_method_7_code 13 = .ok (.ifCond .eq 16, 3) := by decide +kernel
theorem dC_copy_16 : decode prog_1_method_7_code 16 = .ok (.aload 4, 2) := by decide +kernel
theorem dC_copy_18 : decode prog_1_method_7_code 18 = .ok (.iload_n 3, 1) := by decide +kernel
theorem dC_copy_19 : decode prog_1_method_7_code 19 = .ok (.invokevirtual 55, 3) := by decide +kernel
theorem dC_copy_22 : decode prog_1_method_7_code 22 = .ok (.ifCond .eq 7, 3) := by decide +kernel
theorem dC_copy_25 : decode prog_1_method_7_code 25 = .ok (.iconst 1, 1) := by decide +kernel
theorem dC_copy_26 : decode prog_1_method_7_code 26 = .ok (.goto 4, 3) := by decide +kernel
theorem dC_copy_29 : decode prog_1_method_7_code 29 = .ok (.iconst 0, 1) := by decide +kernel
theorem dC_copy_30 : decode prog_1_method_7_code 30 = .ok (.invokestatic 59, 3) := by decide +kernel
theorem dC_copy_33 : decode prog_1_method_7_code 33 = .ok (.aload_n 0, 1) := by decide +kernel
theorem dC_copy_34 : decode prog_1_method_7_code 34 = .ok (.getfield 43, 3) := by decide +kernel
theorem dC_copy_37 : decode prog_1_method_7_code 37 = .ok (.ifCond .ne 23, 3) := by decide +kernel
theorem dC_copy_40 : decode prog_1_method_7_code 40 = .ok (.aload 4, 2) := by decide +kernel
theorem dC_copy_42 : decode prog_1_method_7_code 42 = .ok (.iload_n 3, 1) := by decide +kernel
theorem dC_copy_43 : decode prog_1_method_7_code 43 = .ok (.aload 4, 2) := by decide +kernel
theorem dC_copy_45 : decode prog_1_method_7_code 45 = .ok (.iload_n 1, 1) := by decide +kernel
theorem dC_copy_46 : decode prog_1_method_7_code 46 = .ok (.iload_n 2, 1) := by decide +kernel
theorem dC_copy_47 : decode prog_1_method_7_code 47 = .ok (.invokevirtual 101, 3) := by decide +kernel
theorem dC_copy_50 : decode prog_1_method_7_code 50 = .ok (.invokevirtual 117, 3) := by decide +kernel
theorem dC_copy_53 : decode prog_1_method_7_code 53 = .ok (.ifCond .eq 7, 3) := by decide +kernel
theorem dC_copy_56 : decode prog_1_method_7_code 56 = .ok (.iconst 1, 1) := by decide +kernel
theorem dC_copy_57 : decode prog_1_method_7_code 57 = .ok (.goto 4, 3) := by decide +kernel
theorem dC_copy_60 : decode prog_1_method_7_code 60 = .ok (.iconst 0, 1) := by decide +kernel
theorem dC_copy_61 : decode prog_1_method_7_code 61 = .ok (.invokestatic 66, 3) := by decide +kernel
theorem dC_copy_64 : decode prog_1_method_7_code 64 = .ok (.iload_n 1, 1) := by decide +kernel
theorem dC_copy_65 : decode prog_1_method_7_code 65 = .ok (.iconst 1, 1) := by decide +kernel
theorem dC_copy_66 : decode prog_1_method_7_code 66 = .ok (.if_icmp .ne 13, 3) := by decide +kernel
theorem dC_copy_69 : decode prog_1_method_7_code 69 = .ok (.aload 4, 2) := by decide +kernel
theorem dC_copy_71 : decode prog_1_method_7_code 71 = .ok (.iload_n 3, 1) := by decide +kernel
theorem dC_copy_72 : decode prog_1_method_7_code 72 = .ok (.iload_n 2, 1) := by decide +kernel
theorem dC_copy_73 : decode prog_1_method_7_code 73 = .ok (.invokevirtual 117, 3) := by decide +kernel
theorem dC_copy_76 : decode prog_1_method_7_code 76 = .ok (.ifCond .ne 7, 3) := by decide +kernel
theorem dC_copy_79 : decode prog_1_method_7_code 79 = .ok (.iconst 1, 1) := by decide +kernel
theorem dC_copy_80 : decode prog_1_method_7_code 80 = .ok (.goto 4, 3) := by decide +kernel
theorem dC_copy_83 : decode prog_1_method_7_code 83 = .ok (.iconst 0, 1) := by decide +kernel
theorem dC_copy_84 : decode prog_1_method_7_code 84 = .ok (.invokestatic 66, 3) := by decide +kernel
theorem dC_copy_87 : decode prog_1_method_7_code 87 = .ok (.aload_n 0, 1) := by decide +kernel
theorem dC_copy_88 : decode prog_1_method_7_code 88 = .ok (.invokevirtual 69, 3) := by decide +kernel
theorem dC_copy_91 : decode prog_1_method_7_code 91 = .ok (.ifCond .eq 17, 3) := by decide +kernel
theorem dC_copy_94 : decode prog_1_method_7_code 94 = .ok (.aload 4, 2) := by decide +kernel
theorem dC_copy_96 : decode prog_1_method_7_code 96 = .ok (.iload_n 1, 1) := by decide +kernel
theorem dC_copy_97 : decode prog_1_method_7_code 97 = .ok (.iload_n 2, 1) := by decide +kernel
theorem dC_copy_98 : decode prog_1_method_7_code 98 = .ok (.invokevirtual 120, 3) := by decide +kernel
theorem dC_copy_101 : decode prog_1_method_7_code 101 = .ok (.ifCond .eq 7, 3) := by decide +kernel
theorem dC_copy_104 : decode prog_1_method_7_code 104 = .ok (.iconst 1, 1) := by decide +kernel
theorem dC_copy_105 : decode prog_1_method_7_code 105 = .ok (.goto 4, 3) := by decide +kernel
theorem dC_copy_108 : decode prog_1_method_7_code 108 = .ok (.iconst 0, 1) := by decide +kernel
theorem dC_copy_109 : decode prog_1_method_7_code 109 = .ok (.invokestatic 77, 3) := by decide +kernel
theorem dC_copy_112 : decode prog_1_method_7_code 112 = .ok (.iconst 0, 1) := by decide +kernel
theorem dC_copy_113 : decode prog_1_method_7_code 113 = .ok (.istore 5, 2) := by decide +kernel
theorem dC_copy_115 : decode prog_1_method_7_code 115 = .ok (.iload 5, 2) := by decide +kernel
theorem dC_copy_117 : decode prog_1_method_7_code 117 = .ok (.bipush 6, 2) := by decide +kernel
theorem dC_copy_119 : decode prog_1_method_7_code 119 = .ok (.if_icmp .ge 18, 3) := by decide +kernel
theorem dC_copy_122 : decode prog_1_method_7_code 122 = .ok (.aload_n 0, 1) := by decide +kernel
theorem dC_copy_123 : decode prog_1_method_7_code 123 = .ok (.getfield 39, 3) := by decide +kernel
theorem dC_copy_126 : decode prog_1_method_7_code 126 = .ok (.iload 5, 2) := by decide +kernel
theorem dC_copy_128 : decode prog_1_method_7_code 128 = .ok (.iload 5, 2) := by decide +kernel
theorem dC_copy_130 : decode prog_1_method_7_code 130 = .ok (.iastore, 1) := by decide +kernel
theorem dC_copy_131 : decode prog_1_method_7_code 131 = .ok (.iinc 5 1, 3) := by decide +kernel
theorem dC_copy_134 : decode prog_1_method_7_code 134 = .ok (.goto (-19), 3) := by decide +kernel
theorem dC_copy_137 : decode prog_1_method_7_code 137 = .ok (.aload_n 0, 1) := by decide +kernel
theorem dC_copy_138 : decode prog_1_method_7_code 138 = .ok (.invokevirtual 80, 3) := by decide +kernel
theorem dC_copy_141 : decode prog_1_method_7_code 141 = .ok (.iload_n 1, 1) := by decide +kernel
theorem dC_copy_142 : decode prog_1_method_7_code 142 = .ok (.iload_n 2, 1) := by decide +kernel
theorem dC_copy_143 : decode prog_1_method_7_code 143 = .ok (.iload_n 3, 1) := by decide +kernel
theorem dC_copy_144 : decode prog_1_method_7_code 144 = .ok (.aload_n 0, 1) := by decide +kernel
theorem dC_copy_145 : decode prog_1_method_7_code 145 = .ok (.getfield 39, 3) := by decide +kernel
theorem dC_copy_148 : decode prog_1_method_7_code 148 = .ok (.invokevirtual 123, 3) := by decide +kernel
theorem dC_copy_151 : decode prog_1_method_7_code 151 = .ok (.ireturn, 1) := by decide +kernel
theorem dC_uncopy_0 : decode prog_1_method_8_code 0 = .ok (.aload_n 0, 1) := by decide +kernel
theorem dC_uncopy_1 : decode prog_1_method_8_code 1 = .ok (.invokevirtual 51, 3) := by decide +kernel
theorem dC_uncopy_4 : decode prog_1_method_8_code 4 = .ok (.iload_n 1, 1) := by decide +kernel
theorem dC_uncopy_5 : decode prog_1_method_8_code 5 = .ok (.iload_n 2, 1) := by decide +kernel
theorem dC_uncopy_6 : decode prog_1_method_8_code 6 = .ok (.invokevirtual 114, 3) := by decide +kernel
theorem dC_uncopy_9 : decode prog_1_method_8_code 9 = .ok (.invokestatic 59, 3) := by decide +kernel
theorem dC_uncopy_12 : decode prog_1_method_8_code 12 = .ok (.aload_n 0, 1) := by decide +kernel
theorem dC_uncopy_13 : decode prog_1_method_8_code 13 = .ok (.getfield 43, 3) := by decide +kernel
theorem dC_uncopy_16 : decode prog_1_method_8_code 16 = .ok (.ifCond .ne 16, 3) := by decide +kernel
theorem dC_uncopy_19 : decode prog_1_method_8_code 19 = .ok (.aload_n 0, 1) := by decide +kernel
theorem dC_uncopy_20 : decode prog_1_method_8_code 20 = .ok (.iload_n 1, 1) := by decide +kernel
theorem dC_uncopy_21 : decode prog_1_method_8_code 21 = .ok (.iload_n 2, 1) := by decide +kernel
theorem dC_uncopy_22 : decode prog_1_method_8_code 22 = .ok (.invokevirtual 127, 3) := by decide +kernel
theorem dC_uncopy_25 : decode prog_1_method_8_code 25 = .ok (.ifCond .eq 7, 3) := by decide +kernel
theorem dC_uncopy_28 : decode prog_1_method_8_code 28 = .ok (.iconst 1, 1) := by decide +kernel
theorem dC_uncopy_29 : decode prog_1_method_8_code 29 = .ok (.goto 4, 3) := by decide +kernel
theorem dC_uncopy_32 : decode prog_1_method_8_code 32 = .ok (.iconst 0, 1) := by decide +kernel
theorem dC_uncopy_33 : decode prog_1_method_8_code 33 = .ok (.invokestatic 66, 3) := by decide +kernel
theorem dC_uncopy_36 : decode prog_1_method_8_code 36 = .ok (.aload_n 0, 1) := by decide +kernel
theorem dC_uncopy_37 : decode prog_1_method_8_code 37 = .ok (.invokevirtual 69, 3) := by decide +kernel
theorem dC_uncopy_40 : decode prog_1_method_8_code 40 = .ok (.invokestatic 77, 3) := by decide +kernel
theorem dC_uncopy_43 : decode prog_1_method_8_code 43 = .ok (.aload_n 0, 1) := by decide +kernel
theorem dC_uncopy_44 : decode prog_1_method_8_code 44 = .ok (.invokevirtual 80, 3) := by decide +kernel
theorem dC_uncopy_47 : decode prog_1_method_8_code 47 = .ok (.iload_n 1, 1) := by decide +kernel
theorem dC_uncopy_48 : decode prog_1_method_8_code 48 = .ok (.iload_n 2, 1) := by decide +kernel
theorem dC_uncopy_49 : decode prog_1_method_8_code 49 = .ok (.invokevirtual 110, 3) := by decide +kernel
theorem dC_uncopy_52 : decode prog_1_method_8_code 52 = .ok (.aload_n 0, 1) := by decide +kernel
theorem dC_uncopy_53 : decode prog_1_method_8_code 53 = .ok (.getfield 47, 3) := by decide +kernel
theorem dC_uncopy_56 : decode prog_1_method_8_code 56 = .ok (.ireturn, 1) := by decide +kernel
theorem dC_wrap_0 : decode prog_1_method_9_code 0 = .ok (.aload_n 0, 1) := by decide +kernel
theorem dC_wrap_1 : decode prog_1_method_9_code 1 = .ok (.invokevirtual 51, 3) := by decide +kernel
theorem dC_wrap_4 : decode prog_1_method_9_code 4 = .ok (.astore_n 3, 1) := by decide +kernel
theorem dC_wrap_5 : decode prog_1_method_9_code 5 = .ok (.iload_n 1, 1) := by decide +kernel
theorem dC_wrap_6 : decode prog_1_method_9_code 6 = .ok (.iconst 2, 1) := by decide +kernel
theorem dC_wrap_7 : decode prog_1_method_9_code 7 = .ok (.if_icmp .ne 11, 3) := by decide +kernel
theorem dC_wrap_10 : decode prog_1_method_9_code 10 = .ok (.aload_n 3, 1) := by decide +kernel
theorem dC_wrap_11 : decode prog_1_method_9_code 11 = .ok (.iload_n 2, 1) := by decide +kernel
theorem dC_wrap_12 : decode prog_1_method_9_code 12 = .ok (.invokevirtual 55, 3) := by decide +kernel
theorem dC_wrap_15 : decode prog_1_method_9_code 15 = .ok (.goto 9, 3) := by decide +kernel
theorem dC_wrap_18 : decode prog_1_method_9_code 18 = .ok (.aload_n 3, 1) := by decide +kernel
theorem dC_wrap_19 : decode prog_1_method_9_code 19 = .ok (.iload_n 1, 1) := by decide +kernel
theorem dC_wrap_20 : decode prog_1_method_9_code 20 = .ok (.iload_n 2, 1) := by decide +kernel
theorem dC_wrap_21 : decode prog_1_method_9_code 21 = .ok (.invokevirtual 114, 3) := by decide +kernel
theorem dC_wrap_24 : decode prog_1_method_9_code 24 = .ok (.invokestatic 59, 3) := by decide +kernel
theorem dC_wrap_27 : decode prog_1_method_9_code 27 = .ok (.aload_n 0, 1) := by decide +kernel
theorem dC_wrap_28 : decode prog_1_method_9_code 28 = .ok (.getfield 43, 3) := by decide +kernel
theorem dC_wrap_31 : decode prog_1_method_9_code 31 = .ok (.ifCond .ne 7, 3) := by decide +kernel
theorem dC_wrap_34 : decode prog_1_method_9_code 34 = .ok (.iconst 1, 1) := by decide +kernel
theorem dC_wrap_35 : decode prog_1_method_9_code 35 = .ok (.goto 4, 3) := by decide +kernel
theorem dC_wrap_38 : decode prog_1_method_9_code 38 = .ok (.iconst 0, 1) := by decide +kernel
theorem dC_wrap_39 : decode prog_1_method_9_code 39 = .ok (.invokestatic 66, 3) := by decide +kernel
theorem dC_wrap_42 : decode prog_1_method_9_code 42 = .ok (.aload_n 0, 1) := by decide +kernel
theorem dC_wrap_43 : decode prog_1_method_9_code 43 = .ok (.invokevirtual 69, 3) := by decide +kernel
theorem dC_wrap_46 : decode prog_1_method_9_code 46 = .ok (.ifCond .eq 16, 3) := by decide +kernel
theorem dC_wrap_49 : decode prog_1_method_9_code 49 = .ok (.aload_n 3, 1) := by decide +kernel
theorem dC_wrap_50 : decode prog_1_method_9_code 50 = .ok (.iconst 1, 1) := by decide +kernel
theorem dC_wrap_51 : decode prog_1_method_9_code 51 = .ok (.invokevirtual 73, 3) := by decide +kernel
theorem dC_wrap_54 : decode prog_1_method_9_code 54 = .ok (.iconst 2, 1) := by decide +kernel
theorem dC_wrap_55 : decode prog_1_method_9_code 55 = .ok (.if_icmp .lt 7, 3) := by decide +kernel
theorem dC_wrap_58 : decode prog_1_method_9_code 58 = .ok (.iconst 1, 1) := by decide +kernel
theorem dC_wrap_59 : decode prog_1_method_9_code 59 = .ok (.goto 4, 3) := by decide +kernel
theorem dC_wrap_62 : decode prog_1_method_9_code 62 = .ok (.iconst 0, 1) := by decide +kernel
theorem dC_wrap_63 : decode prog_1_method_9_code 63 = .ok (.invokestatic 77, 3) := by decide +kernel
theorem dC_wrap_66 : decode prog_1_method_9_code 66 = .ok (.aload_n 0, 1) := by decide +kernel
theorem dC_wrap_67 : decode prog_1_method_9_code 67 = .ok (.invokevirtual 80, 3) := by decide +kernel
theorem dC_wrap_70 : decode prog_1_method_9_code 70 = .ok (.astore 4, 2) := by decide +kernel
theorem dC_wrap_72 : decode prog_1_method_9_code 72 = .ok (.aload 4, 2) := by decide +kernel
theorem dC_wrap_74 : decode prog_1_method_9_code 74 = .ok (.iconst 1, 1) := by decide +kernel
theorem dC_wrap_75 : decode prog_1_method_9_code 75 = .ok (.iload_n 1, 1) := by decide +kernel
theorem dC_wrap_76 : decode prog_1_method_9_code 76 = .ok (.iconst 2, 1) := by decide +kernel
theorem dC_wrap_77 : decode prog_1_method_9_code 77 = .ok (.if_icmp .ne 7, 3) := by decide +kernel
theorem dC_wrap_80 : decode prog_1_method_9_code 80 = .ok (.iload_n 2, 1) := by decide +kernel
theorem dC_wrap_81 : decode prog_1_method_9_code 81 = .ok (.goto 10, 3) := by decide +kernel
theorem dC_wrap_84 : decode prog_1_method_9_code 84 = .ok (.aload 4, 2) := by decide +kernel
theorem dC_wrap_86 : decode prog_1_method_9_code 86 = .ok (.iload_n 1, 1) := by decide +kernel
theorem dC_wrap_87 : decode prog_1_method_9_code 87 = .ok (.iload_n 2, 1) := by decide +kernel
theorem dC_wrap_88 : decode prog_1_method_9_code 88 = .ok (.invokevirtual 101, 3) := by decide +kernel
theorem dC_wrap_91 : decode prog_1_method_9_code 91 = .ok (.invokevirtual 83, 3) := by decide +kernel
theorem dC_wrap_94 : decode prog_1_method_9_code 94 = .ok (.istore 5, 2) := by decide +kernel
theorem dC_wrap_96 : decode prog_1_method_9_code 96 = .ok (.aload 4, 2) := by decide +kernel
theorem dC_wrap_98 : decode prog_1_method_9_code 98 = .ok (.iconst 1, 1) := by decide +kernel
theorem dC_wrap_99 : decode prog_1_method_9_code 99 = .ok (.iload 5, 2) := by decide +kernel
theorem dC_wrap_101 : decode prog_1_method_9_code 101 = .ok (.invokevirtual 83, 3) := by decide +kernel
theorem dC_wrap_104 : decode prog_1_method_9_code 104 = .ok (.istore 6, 2) := by decide +kernel
theorem dC_wrap_106 : decode prog_1_method_9_code 106 = .ok (.iload_n 1, 1) := by decide +kernel
theorem dC_wrap_107 : decode prog_1_method_9_code 107 = .ok (.iconst 2, 1) := by decide +kernel
theorem dC_wrap_108 : decode prog_1_method_9_code 108 = .ok (.if_icmp .eq 12, 3) := by decide +kernel
theorem dC_wrap_111 : decode prog_1_method_9_code 111 = .ok (.aload 4, 2) := by decide +kernel
theorem dC_wrap_113 : decode prog_1_method_9_code 113 = .ok (.iload_n 1, 1) := by decide +kernel
theorem dC_wrap_114 : decode prog_1_method_9_code 114 = .ok (.iload_n 2, 1) := by decide +kernel
theorem dC_wrap_115 : decode prog_1_method_9_code 115 = .ok (.iload 6, 2) := by decide +kernel
theorem dC_wrap_117 : decode prog_1_method_9_code 117 = .ok (.invokevirtual 130, 3) := by decide +kernel
theorem dC_wrap_120 : decode prog_1_method_9_code 120 = .ok (.iload 5, 2) := by decide +kernel
theorem dC_wrap_122 : decode prog_1_method_9_code 122 = .ok (.ireturn, 1) := by decide +kernel
theorem dC_unwrap_0 : decode prog_1_method_10_code 0 = .ok (.aload_n 0, 1) := by decide +kernel
theorem dC_unwrap_1 : decode prog_1_method_10_code 1 = .ok (.invokevirtual 51, 3) := by decide +kernel
theorem dC_unwrap_4 : decode prog_1_method_10_code 4 = .ok (.iconst 1, 1) := by decide +kernel
theorem dC_unwrap_5 : decode prog_1_method_10_code 5 = .ok (.iload_n 1, 1) := by decide +kernel
theorem dC_unwrap_6 : decode prog_1_method_10_code 6 = .ok (.invokevirtual 98, 3) := by decide +kernel
theorem dC_unwrap_9 : decode prog_1_method_10_code 9 = .ok (.invokestatic 59, 3) := by decide +kernel
theorem dC_unwrap_12 : decode prog_1_method_10_code 12 = .ok (.aload_n 0, 1) := by decide +kernel
theorem dC_unwrap_13 : decode prog_1_method_10_code 13 = .ok (.getfield 43, 3) := by decide +kernel
theorem dC_unwrap_16 : decode prog_1_method_10_code 16 = .ok (.ifCond .ne 18, 3) := by decide +kernel
theorem dC_unwrap_19 : decode prog_1_method_10_code 19 = .ok (.aload_n 0, 1) := by decide +kernel
theorem dC_unwrap_20 : decode prog_1_method_10_code 20 = .ok (.invokevirtual 51, 3) := by decide +kernel
theorem dC_unwrap_23 : decode prog_1_method_10_code 23 = .ok (.iload_n 1, 1) := by decide +kernel
theorem dC_unwrap_24 : decode prog_1_method_10_code 24 = .ok (.invokevirtual 134, 3) := by decide +kernel
theorem dC_unwrap_27 : decode prog_1_method_10_code 27 = .ok (.ifCond .eq 7, 3) := by decide +kernel
theorem dC_unwrap_30 : decode prog_1_method_10_code 30 = .ok (.iconst 1, 1) := by decide +kernel
theorem dC_unwrap_31 : decode prog_1_method_10_code 31 = .ok (.goto 4, 3) := by decide +kernel
theorem dC_unwrap_34 : decode prog_1_method_10_code 34 = .ok (.iconst 0, 1) := by decide +kernel
theorem dC_unwrap_35 : decode prog_1_method_10_code 35 = .ok (.invokestatic 66, 3) := by decide +kernel
theorem dC_unwrap_38 : decode prog_1_method_10_code 38 = .ok (.aload_n 0, 1) := by decide +kernel
theorem dC_unwrap_39 : decode prog_1_method_10_code 39 = .ok (.invokevirtual 69, 3) := by decide +kernel
theorem dC_unwrap_42 : decode prog_1_method_10_code 42 = .ok (.invokestatic 77, 3) := by decide +kernel
theorem dC_unwrap_45 : decode prog_1_method_10_code 45 = .ok (.aload_n 0, 1) := by decide +kernel
theorem dC_unwrap_46 : decode prog_1_method_10_code 46 = .ok (.invokevirtual 80, 3) := by decide +kernel
theorem dC_unwrap_49 : decode prog_1_method_10_code 49 = .ok (.iload_n 1, 1) := by decide +kernel
theorem dC_unwrap_50 : decode prog_1_method_10_code 50 = .ok (.invokevirtual 137, 3) := by decide +kernel
theorem dC_unwrap_53 : decode prog_1_method_10_code 53 = .ok (.aload_n 0, 1) := by decide +kernel
theorem dC_unwrap_54 : decode prog_1_method_10_code 54 = .ok (.getfield 47, 3) := by decide +kernel
theorem dC_unwrap_57 : decode prog_1_method_10_code 57 = .ok (.ireturn, 1) := by decide +kernel
theorem dC_join_0 : decode prog_1_method_11_code 0 = .ok (.aload_n 0, 1) := by decide +kernel
theorem dC_join_1 : decode prog_1_method_11_code 1 = .ok (.invokevirtual 51, 3) := by decide +kernel
theorem dC_join_4 : decode prog_1_method_11_code 4 = .ok (.astore_n 3, 1) := by decide +kernel
theorem dC_join_5 : decode prog_1_method_11_code 5 = .ok (.aload_n 3, 1) := by decide +kernel
theorem dC_join_6 : decode prog_1_method_11_code 6 = .ok (.iconst 2, 1) := by decide +kernel
theorem dC_join_7 : decode prog_1_method_11_code 7 = .ok (.iload_n 1, 1) := by decide +kernel
theorem dC_join_8 : decode prog_1_method_11_code 8 = .ok (.invokevirtual 98, 3) := by decide +kernel
theorem dC_join_11 : decode prog_1_method_11_code 11 = .ok (.ifCond .eq 21, 3) := by decide +kernel
theorem dC_join_14 : decode prog_1_method_11_code 14 = .ok (.aload_n 3, 1) := by decide +kernel
theorem dC_join_15 : decode prog_1_method_11_code 15 = .ok (.iconst 2, 1) := by decide +kernel
theorem dC_join_16 : decode prog_1_method_11_code 16 = .ok (.iload_n 2, 1) := by decide +kernel
theorem dC_join_17 : decode prog_1_method_11_code 17 = .ok (.invokevirtual 98, 3) := by decide +kernel
theorem dC_join_20 : decode prog_1_method_11_code 20 = .ok (.ifCond .eq 12, 3) := by decide +kernel
theorem dC_join_23 : decode prog_1_method_11_code 23 = .ok (.iload_n 1, 1) := by decide +kernel
theorem dC_join_24 : decode prog_1_method_11_code 24 = .ok (.iload_n 2, 1) := by decide +kernel
theorem dC_join_25 : decode prog_1_method_11_code 25 = .ok (.if_icmp .eq 7, 3) := by decide +kernel
theorem dC_join_28 : decode prog_1_method_11_code 28 = .ok (.iconst 1, 1) := by decide +kernel
theorem dC_join_29 : decode prog_1_method_11_code 29 = .ok (.goto 4, 3) := by decide +kernel
theorem dC_join_32 : decode prog_1_method_11_code 32 = .ok (.iconst 0, 1) := by decide +kernel
theorem dC_join_33 : decode prog_1_method_11_code 33 = .ok (.invokestatic 59, 3) := by decide +kernel
theorem dC_join_36 : decode prog_1_method_11_code 36 = .ok (.aload_n 3, 1) := by decide +kernel
theorem dC_join_37 : decode prog_1_method_11_code 37 = .ok (.iconst 2, 1) := by decide +kernel
theorem dC_join_38 : decode prog_1_method_11_code 38 = .ok (.iload_n 1, 1) := by decide +kernel
theorem dC_join_39 : decode prog_1_method_11_code 39 = .ok (.invokevirtual 101, 3) := by decide +kernel
theorem dC_join_42 : decode prog_1_method_11_code 42 = .ok (.istore 4, 2) := by decide +kernel
theorem dC_join_44 : decode prog_1_method_11_code 44 = .ok (.aload_n 0, 1) := by decide +kernel
theorem dC_join_45 : decode prog_1_method_11_code 45 = .ok (.getfield 43, 3) := by decide +kernel
theorem dC_join_48 : decode prog_1_method_11_code 48 = .ok (.ifCond .ne 26, 3) := by decide +kernel
theorem dC_join_51 : decode prog_1_method_11_code 51 = .ok (.aload_n 3, 1) := by decide +kernel
theorem dC_join_52 : decode prog_1_method_11_code 52 = .ok (.iload 4, 2) := by decide +kernel
theorem dC_join_54 : decode prog_1_method_11_code 54 = .ok (.invokevirtual 104, 3) := by decide +kernel
theorem dC_join_57 : decode prog_1_method_11_code 57 = .ok (.ifCond .eq 17, 3) := by decide +kernel
theorem dC_join_60 : decode prog_1_method_11_code 60 = .ok (.aload_n 3, 1) := by decide +kernel
theorem dC_join_61 : decode prog_1_method_11_code 61 = .ok (.iload_n 2, 1) := by decide +kernel
theorem dC_join_62 : decode prog_1_method_11_code 62 = .ok (.iload 4, 2) := by decide +kernel
theorem dC_join_64 : decode prog_1_method_11_code 64 = .ok (.invokevirtual 90, 3) := by decide +kernel
theorem dC_join_67 : decode prog_1_method_11_code 67 = .ok (.ifCond .eq 7, 3) := by decide +kernel
theorem dC_join_70 : decode prog_1_method_11_code 70 = .ok (.iconst 1, 1) := by decide +kernel
theorem dC_join_71 : decode prog_1_method_11_code 71 = .ok (.goto 4, 3) := by decide +kernel
theorem dC_join_74 : decode prog_1_method_11_code 74 = .ok (.iconst 0, 1) := by decide +kernel
theorem dC_join_75 : decode prog_1_method_11_code 75 = .ok (.invokestatic 66, 3) := by decide +kernel
theorem dC_join_78 : decode prog_1_method_11_code 78 = .ok (.aload_n 0, 1) := by decide +kernel
theorem dC_join_79 : decode prog_1_method_11_code 79 = .ok (.invokevirtual 69, 3) := by decide +kernel
theorem dC_join_82 : decode prog_1_method_11_code 82 = .ok (.invokestatic 77, 3) := by decide +kernel
theorem dC_join_85 : decode prog_1_method_11_code 85 = .ok (.aload_n 0, 1) := by decide +kernel
theorem dC_join_86 : decode prog_1_method_11_code 86 = .ok (.invokevirtual 80, 3) := by decide +kernel
theorem dC_join_89 : decode prog_1_method_11_code 89 = .ok (.astore 5, 2) := by decide +kernel
theorem dC_join_91 : decode prog_1_method_11_code 91 = .ok (.aload 5, 2) := by decide +kernel
theorem dC_join_93 : decode prog_1_method_11_code 93 = .ok (.iload_n 1, 1) := by decide +kernel
theorem dC_join_94 : decode prog_1_method_11_code 94 = .ok (.iload_n 2, 1) := by decide +kernel
theorem dC_join_95 : decode prog_1_method_11_code 95 = .ok (.iload 4, 2) := by decide +kernel
theorem dC_join_97 : decode prog_1_method_11_code 97 = .ok (.invokevirtual 141, 3) := by decide +kernel
theorem dC_join_100 : decode prog_1_method_11_code 100 = .ok (.aload 5, 2) := by decide +kernel
theorem dC_join_102 : decode prog_1_method_11_code 102 = .ok (.iconst 2, 1) := by decide +kernel
theorem dC_join_103 : decode prog_1_method_11_code 103 = .ok (.iload_n 1, 1) := by decide +kernel
theorem dC_join_104 : decode prog_1_method_11_code 104 = .ok (.invokevirtual 110, 3) := by decide +kernel
theorem dC_join_107 : decode prog_1_method_11_code 107 = .ok (.aload_n 0, 1) := by decide +kernel
theorem dC_join_108 : decode prog_1_method_11_code 108 = .ok (.getfield 47, 3) := by decide +kernel
theorem dC_join_111 : decode prog_1_method_11_code 111 = .ok (.ireturn, 1) := by decide +kernel
theorem dC_sever_0 : decode prog_1_method_12_code 0 = .ok (.aload_n 0, 1) := by decide +kernel
theorem dC_sever_1 : decode prog_1_method_12_code 1 = .ok (.invokevirtual 51, 3) := by decide +kernel
theorem dC_sever_4 : decode prog_1_method_12_code 4 = .ok (.astore_n 3, 1) := by decide +kernel
theorem dC_sever_5 : decode prog_1_method_12_code 5 = .ok (.aload_n 3, 1) := by decide +kernel
theorem dC_sever_6 : decode prog_1_method_12_code 6 = .ok (.iconst 2, 1) := by decide +kernel
theorem dC_sever_7 : decode prog_1_method_12_code 7 = .ok (.iload_n 1, 1) := by decide +kernel
theorem dC_sever_8 : decode prog_1_method_12_code 8 = .ok (.invokevirtual 98, 3) := by decide +kernel
theorem dC_sever_11 : decode prog_1_method_12_code 11 = .ok (.ifCond .eq 15, 3) := by decide +kernel
theorem dC_sever_14 : decode prog_1_method_12_code 14 = .ok (.aload_n 3, 1) := by decide +kernel
theorem dC_sever_15 : decode prog_1_method_12_code 15 = .ok (.iload_n 2, 1) := by decide +kernel
theorem dC_sever_16 : decode prog_1_method_12_code 16 = .ok (.invokevirtual 55, 3) := by decide +kernel
theorem dC_sever_19 : decode prog_1_method_12_code 19 = .ok (.ifCond .eq 7, 3) := by decide +kernel
theorem dC_sever_22 : decode prog_1_method_12_code 22 = .ok (.iconst 1, 1) := by decide +kernel
theorem dC_sever_23 : decode prog_1_method_12_code 23 = .ok (.goto 4, 3) := by decide +kernel
theorem dC_sever_26 : decode prog_1_method_12_code 26 = .ok (.iconst 0, 1) := by decide +kernel
theorem dC_sever_27 : decode prog_1_method_12_code 27 = .ok (.invokestatic 59, 3) := by decide +kernel
theorem dC_sever_30 : decode prog_1_method_12_code 30 = .ok (.aload_n 0, 1) := by decide +kernel
theorem dC_sever_31 : decode prog_1_method_12_code 31 = .ok (.getfield 43, 3) := by decide +kernel
theorem dC_sever_34 : decode prog_1_method_12_code 34 = .ok (.ifCond .ne 24, 3) := by decide +kernel
theorem dC_sever_37 : decode prog_1_method_12_code 37 = .ok (.aload_n 3, 1) := by decide +kernel
theorem dC_sever_38 : decode prog_1_method_12_code 38 = .ok (.iload_n 2, 1) := by decide +kernel
theorem dC_sever_39 : decode prog_1_method_12_code 39 = .ok (.invokevirtual 104, 3) := by decide +kernel
theorem dC_sever_42 : decode prog_1_method_12_code 42 = .ok (.ifCond .ne 16, 3) := by decide +kernel
theorem dC_sever_45 : decode prog_1_method_12_code 45 = .ok (.aload_n 3, 1) := by decide +kernel
theorem dC_sever_46 : decode prog_1_method_12_code 46 = .ok (.iload_n 1, 1) := by decide +kernel
theorem dC_sever_47 : decode prog_1_method_12_code 47 = .ok (.iload_n 2, 1) := by decide +kernel
theorem dC_sever_48 : decode prog_1_method_12_code 48 = .ok (.invokevirtual 90, 3) := by decide +kernel
theorem dC_sever_51 : decode prog_1_method_12_code 51 = .ok (.ifCond .eq 7, 3) := by decide +kernel
theorem dC_sever_54 : decode prog_1_method_12_code 54 = .ok (.iconst 1, 1) := by decide +kernel
theorem dC_sever_55 : decode prog_1_method_12_code 55 = .ok (.goto 4, 3) := by decide +kernel
theorem dC_sever_58 : decode prog_1_method_12_code 58 = .ok (.iconst 0, 1) := by decide +kernel
theorem dC_sever_59 : decode prog_1_method_12_code 59 = .ok (.invokestatic 66, 3) := by decide +kernel
theorem dC_sever_62 : decode prog_1_method_12_code 62 = .ok (.aload_n 0, 1) := by decide +kernel
theorem dC_sever_63 : decode prog_1_method_12_code 63 = .ok (.invokevirtual 69, 3) := by decide +kernel
theorem dC_sever_66 : decode prog_1_method_12_code 66 = .ok (.ifCond .eq 15, 3) := by decide +kernel
theorem dC_sever_69 : decode prog_1_method_12_code 69 = .ok (.aload_n 3, 1) := by decide +kernel
theorem dC_sever_70 : decode prog_1_method_12_code 70 = .ok (.iconst 2, 1) := by decide +kernel
theorem dC_sever_71 : decode prog_1_method_12_code 71 = .ok (.invokevirtual 73, 3) := by decide +kernel
theorem dC_sever_74 : decode prog_1_method_12_code 74 = .ok (.ifCond .le 7, 3) := by decide +kernel
theorem dC_sever_77 : decode prog_1_method_12_code 77 = .ok (.iconst 1, 1) := by decide +kernel
theorem dC_sever_78 : decode prog_1_method_12_code 78 = .ok (.goto 4, 3) := by decide +kernel
theorem dC_sever_81 : decode prog_1_method_12_code 81 = .ok (.iconst 0, 1) := by decide +kernel
theorem dC_sever_82 : decode prog_1_method_12_code 82 = .ok (.invokestatic 77, 3) := by decide +kernel
theorem dC_sever_85 : decode prog_1_method_12_code 85 = .ok (.aload_n 0, 1) := by decide +kernel
theorem dC_sever_86 : decode prog_1_method_12_code 86 = .ok (.invokevirtual 80, 3) := by decide +kernel
theorem dC_sever_89 : decode prog_1_method_12_code 89 = .ok (.astore 4, 2) := by decide +kernel
theorem dC_sever_91 : decode prog_1_method_12_code 91 = .ok (.aload 4, 2) := by decide +kernel
theorem dC_sever_93 : decode prog_1_method_12_code 93 = .ok (.iconst 2, 1) := by decide +kernel
theorem dC_sever_94 : decode prog_1_method_12_code 94 = .ok (.iload_n 2, 1) := by decide +kernel
theorem dC_sever_95 : decode prog_1_method_12_code 95 = .ok (.invokevirtual 83, 3) := by decide +kernel
theorem dC_sever_98 : decode prog_1_method_12_code 98 = .ok (.istore 5, 2) := by decide +kernel
theorem dC_sever_100 : decode prog_1_method_12_code 100 = .ok (.aload 4, 2) := by decide +kernel
theorem dC_sever_102 : decode prog_1_method_12_code 102 = .ok (.iload_n 1, 1) := by decide +kernel
theorem dC_sever_103 : decode prog_1_method_12_code 103 = .ok (.iload 5, 2) := by decide +kernel
theorem dC_sever_105 : decode prog_1_method_12_code 105 = .ok (.iload_n 2, 1) := by decide +kernel
theorem dC_sever_106 : decode prog_1_method_12_code 106 = .ok (.invokevirtual 141, 3) := by decide +kernel
theorem dC_sever_109 : decode prog_1_method_12_code 109 = .ok (.iload 5, 2) := by decide +kernel
theorem dC_sever_111 : decode prog_1_method_12_code 111 = .ok (.ireturn, 1) := by decide +kernel
theorem dC_back_0 : decode prog_1_method_13_code 0 = .ok (.aload_n 0, 1) := by decide +kernel
theorem dC_back_1 : decode prog_1_method_13_code 1 = .ok (.getfield 47, 3) := by decide +kernel
theorem dC_back_4 : decode prog_1_method_13_code 4 = .ok (.ifCond .le 7, 3) := by decide +kernel
theorem dC_back_7 : decode prog_1_method_13_code 7 = .ok (.iconst 1, 1) := by decide +kernel
theorem dC_back_8 : decode prog_1_method_13_code 8 = .ok (.goto 4, 3) := by decide +kernel
theorem dC_back_11 : decode prog_1_method_13_code 11 = .ok (.iconst 0, 1) := by decide +kernel
theorem dC_back_12 : decode prog_1_method_13_code 12 = .ok (.invokestatic 66, 3) := by decide +kernel
theorem dC_back_15 : decode prog_1_method_13_code 15 = .ok (.aload_n 0, 1) := by decide +kernel
theorem dC_back_16 : decode prog_1_method_13_code 16 = .ok (.dup, 1) := by decide +kernel
theorem dC_back_17 : decode prog_1_method_13_code 17 = .ok (.getfield 47, 3) := by decide +kernel
theorem dC_back_20 : decode prog_1_method_13_code 20 = .ok (.iconst 1, 1) := by decide +kernel
theorem dC_back_21 : decode prog_1_method_13_code 21 = .ok (.isub, 1) := by decide +kernel
theorem dC_back_22 : decode prog_1_method_13_code 22 = .ok (.putfield 47, 3) := by decide +kernel
theorem dC_back_25 : decode prog_1_method_13_code 25 = .ok (.aload_n 0, 1) := by decide +kernel
theorem dC_back_26 : decode prog_1_method_13_code 26 = .ok (.getfield 47, 3) := by decide +kernel
theorem dC_back_29 : decode prog_1_method_13_code 29 = .ok (.ireturn, 1) := by decide +kernel
theorem dC_depth_0 : decode prog_1_method_14_code 0 = .ok (.aload_n 0, 1) := by decide +kernel
theorem dC_depth_1 : decode prog_1_method_14_code 1 = .ok (.invokevirtual 51, 3) := by decide +kernel
theorem dC_depth_4 : decode prog_1_method_14_code 4 = .ok (.iload_n 1, 1) := by decide +kernel
theorem dC_depth_5 : decode prog_1_method_14_code 5 = .ok (.invokevirtual 55, 3) := by decide +kernel
theorem dC_depth_8 : decode prog_1_method_14_code 8 = .ok (.invokestatic 59, 3) := by decide +kernel
theorem dC_depth_11 : decode prog_1_method_14_code 11 = .ok (.aload_n 0, 1) := by decide +kernel
theorem dC_depth_12 : decode prog_1_method_14_code 12 = .ok (.invokevirtual 51, 3) := by decide +kernel
theorem dC_depth_15 : decode prog_1_method_14_code 15 = .ok (.iload_n 1, 1) := by decide +kernel
theorem dC_depth_16 : decode prog_1_method_14_code 16 = .ok (.invokevirtual 144, 3) := by decide +kernel
theorem dC_depth_19 : decode prog_1_method_14_code 19 = .ok (.ireturn, 1) := by decide +kernel
theorem dC_read_0 : decode prog_1_method_15_code 0 = .ok (.aload_n 0, 1) := by decide +kernel
theorem dC_read_1 : decode prog_1_method_15_code 1 = .ok (.invokevirtual 51, 3) := by decide +kernel
theorem dC_read_4 : decode prog_1_method_15_code 4 = .ok (.iload_n 1, 1) := by decide +kernel
theorem dC_read_5 : decode prog_1_method_15_code 5 = .ok (.invokevirtual 55, 3) := by decide +kernel
theorem dC_read_8 : decode prog_1_method_15_code 8 = .ok (.invokestatic 59, 3) := by decide +kernel
theorem dC_read_11 : decode prog_1_method_15_code 11 = .ok (.aload_n 0, 1) := by decide +kernel
theorem dC_read_12 : decode prog_1_method_15_code 12 = .ok (.getfield 19, 3) := by decide +kernel
theorem dC_read_15 : decode prog_1_method_15_code 15 = .ok (.aload_n 0, 1) := by decide +kernel
theorem dC_read_16 : decode prog_1_method_15_code 16 = .ok (.invokevirtual 51, 3) := by decide +kernel
theorem dC_read_19 : decode prog_1_method_15_code 19 = .ok (.iload_n 1, 1) := by decide +kernel
theorem dC_read_20 : decode prog_1_method_15_code 20 = .ok (.invokevirtual 147, 3) := by decide +kernel
theorem dC_read_23 : decode prog_1_method_15_code 23 = .ok (.aload_n 0, 1) := by decide +kernel
theorem dC_read_24 : decode prog_1_method_15_code 24 = .ok (.getfield 19, 3) := by decide +kernel
theorem dC_read_27 : decode prog_1_method_15_code 27 = .ok (.getfield 151, 3) := by decide +kernel
theorem dC_read_30 : decode prog_1_method_15_code 30 = .ok (.ireturn, 1) := by decide +kernel
theorem dC_token_0 : decode prog_1_method_16_code 0 = .ok (.iload_n 1, 1) := by decide +kernel
theorem dC_token_1 : decode prog_1_method_16_code 1 = .ok (.ifCond .lt 14, 3) := by decide +kernel
theorem dC_token_4 : decode prog_1_method_16_code 4 = .ok (.iload_n 1, 1) := by decide +kernel
theorem dC_token_5 : decode prog_1_method_16_code 5 = .ok (.aload_n 0, 1) := by decide +kernel
theorem dC_token_6 : decode prog_1_method_16_code 6 = .ok (.getfield 19, 3) := by decide +kernel
theorem dC_token_9 : decode prog_1_method_16_code 9 = .ok (.getfield 151, 3) := by decide +kernel
theorem dC_token_12 : decode prog_1_method_16_code 12 = .ok (.if_icmp .lt 11, 3) := by decide +kernel
theorem dC_token_15 : decode prog_1_method_16_code 15 = .ok (.new 154, 3) := by decide +kernel
theorem dC_token_18 : decode prog_1_method_16_code 18 = .ok (.dup, 1) := by decide +kernel
theorem dC_token_19 : decode prog_1_method_16_code 19 = .ok (.invokespecial 156, 3) := by decide +kernel
theorem dC_token_22 : decode prog_1_method_16_code 22 = .ok (.athrow, 1) := by decide +kernel
theorem dC_token_23 : decode prog_1_method_16_code 23 = .ok (.aload_n 0, 1) := by decide +kernel
theorem dC_token_24 : decode prog_1_method_16_code 24 = .ok (.getfield 19, 3) := by decide +kernel
theorem dC_token_27 : decode prog_1_method_16_code 27 = .ok (.getfield 157, 3) := by decide +kernel
theorem dC_token_30 : decode prog_1_method_16_code 30 = .ok (.iload_n 1, 1) := by decide +kernel
theorem dC_token_31 : decode prog_1_method_16_code 31 = .ok (.iaload, 1) := by decide +kernel
theorem dC_token_32 : decode prog_1_method_16_code 32 = .ok (.ireturn, 1) := by decide +kernel
theorem dC_holds_0 : decode prog_1_method_17_code 0 = .ok (.iload_n 2, 1) := by decide +kernel
theorem dC_holds_1 : decode prog_1_method_17_code 1 = .ok (.iconst 1, 1) := by decide +kernel
theorem dC_holds_2 : decode prog_1_method_17_code 2 = .ok (.if_icmp .lt 23, 3) := by decide +kernel
theorem dC_holds_5 : decode prog_1_method_17_code 5 = .ok (.iload_n 2, 1) := by decide +kernel
theorem dC_holds_6 : decode prog_1_method_17_code 6 = .ok (.iconst 3, 1) := by decide +kernel
theorem dC_holds_7 : decode prog_1_method_17_code 7 = .ok (.if_icmp .gt 18, 3) := by decide +kernel
theorem dC_holds_10 : decode prog_1_method_17_code 10 = .ok (.iload_n 3, 1) := by decide +kernel
theorem dC_holds_11 : decode prog_1_method_17_code 11 = .ok (.ifCond .lt 14, 3) := by decide +kernel
theorem dC_holds_14 : decode prog_1_method_17_code 14 = .ok (.iload_n 3, 1) := by decide +kernel
theorem dC_holds_15 : decode prog_1_method_17_code 15 = .ok (.sipush 16384, 3) := by decide +kernel
theorem dC_holds_18 : decode prog_1_method_17_code 18 = .ok (.if_icmp .ge 7, 3) := by decide +kernel
theorem dC_holds_21 : decode prog_1_method_17_code 21 = .ok (.iconst 1, 1) := by decide +kernel
theorem dC_holds_22 : decode prog_1_method_17_code 22 = .ok (.goto 4, 3) := by decide +kernel
theorem dC_holds_25 : decode prog_1_method_17_code 25 = .ok (.iconst 0, 1) := by decide +kernel
theorem dC_holds_26 : decode prog_1_method_17_code 26 = .ok (.invokestatic 59, 3) := by decide +kernel
theorem dC_holds_29 : decode prog_1_method_17_code 29 = .ok (.iload_n 1, 1) := by decide +kernel
theorem dC_holds_30 : decode prog_1_method_17_code 30 = .ok (.ifCond .eq 10, 3) := by decide +kernel
theorem dC_holds_33 : decode prog_1_method_17_code 33 = .ok (.aload_n 0, 1) := by decide +kernel
theorem dC_holds_34 : decode prog_1_method_17_code 34 = .ok (.getfield 43, 3) := by decide +kernel
theorem dC_holds_37 : decode prog_1_method_17_code 37 = .ok (.ifCond .ne 7, 3) := by decide +kernel
theorem dC_holds_40 : decode prog_1_method_17_code 40 = .ok (.iconst 1, 1) := by decide +kernel
theorem dC_holds_41 : decode prog_1_method_17_code 41 = .ok (.goto 4, 3) := by decide +kernel
theorem dC_holds_44 : decode prog_1_method_17_code 44 = .ok (.iconst 0, 1) := by decide +kernel
theorem dC_holds_45 : decode prog_1_method_17_code 45 = .ok (.invokestatic 66, 3) := by decide +kernel
theorem dC_holds_48 : decode prog_1_method_17_code 48 = .ok (.aload_n 0, 1) := by decide +kernel
theorem dC_holds_49 : decode prog_1_method_17_code 49 = .ok (.getfield 36, 3) := by decide +kernel
theorem dC_holds_52 : decode prog_1_method_17_code 52 = .ok (.iload_n 1, 1) := by decide +kernel
theorem dC_holds_53 : decode prog_1_method_17_code 53 = .ok (.ifCond .eq 12, 3) := by decide +kernel
theorem dC_holds_56 : decode prog_1_method_17_code 56 = .ok (.aload_n 0, 1) := by decide +kernel
theorem dC_holds_57 : decode prog_1_method_17_code 57 = .ok (.getfield 11, 3) := by decide +kernel
theorem dC_holds_60 : decode prog_1_method_17_code 60 = .ok (.iconst 0, 1) := by decide +kernel
theorem dC_holds_61 : decode prog_1_method_17_code 61 = .ok (.aaload, 1) := by decide +kernel
theorem dC_holds_62 : decode prog_1_method_17_code 62 = .ok (.goto 7, 3) := by decide +kernel
theorem dC_holds_65 : decode prog_1_method_17_code 65 = .ok (.aload_n 0, 1) := by decide +kernel
theorem dC_holds_66 : decode prog_1_method_17_code 66 = .ok (.invokevirtual 51, 3) := by decide +kernel
theorem dC_holds_69 : decode prog_1_method_17_code 69 = .ok (.invokevirtual 160, 3) := by decide +kernel
theorem dC_holds_72 : decode prog_1_method_17_code 72 = .ok (.aload_n 0, 1) := by decide +kernel
theorem dC_holds_73 : decode prog_1_method_17_code 73 = .ok (.getfield 36, 3) := by decide +kernel
theorem dC_holds_76 : decode prog_1_method_17_code 76 = .ok (.iload_n 2, 1) := by decide +kernel
theorem dC_holds_77 : decode prog_1_method_17_code 77 = .ok (.iload_n 3, 1) := by decide +kernel
theorem dC_holds_78 : decode prog_1_method_17_code 78 = .ok (.invokevirtual 164, 3) := by decide +kernel
theorem dC_holds_81 : decode prog_1_method_17_code 81 = .ok (.ireturn, 1) := by decide +kernel
theorem dC_refutes_0 : decode prog_1_method_18_code 0 = .ok (.iload_n 1, 1) := by decide +kernel
theorem dC_refutes_1 : decode prog_1_method_18_code 1 = .ok (.iconst 1, 1) := by decide +kernel
theorem dC_refutes_2 : decode prog_1_method_18_code 2 = .ok (.if_icmp .eq 8, 3) := by decide +kernel
theorem dC_refutes_5 : decode prog_1_method_18_code 5 = .ok (.iload_n 1, 1) := by decide +kernel
theorem dC_refutes_6 : decode prog_1_method_18_code 6 = .ok (.iconst 2, 1) := by decide +kernel
theorem dC_refutes_7 : decode prog_1_method_18_code 7 = .ok (.if_icmp .ne 7, 3) := by decide +kernel
theorem dC_refutes_10 : decode prog_1_method_18_code 10 = .ok (.iconst 1, 1) := by decide +kernel
theorem dC_refutes_11 : decode prog_1_method_18_code 11 = .ok (.goto 4, 3) := by decide +kernel
theorem dC_refutes_14 : decode prog_1_method_18_code 14 = .ok (.iconst 0, 1) := by decide +kernel
theorem dC_refutes_15 : decode prog_1_method_18_code 15 = .ok (.invokestatic 59, 3) := by decide +kernel
theorem dC_refutes_18 : decode prog_1_method_18_code 18 = .ok (.aload_n 0, 1) := by decide +kernel
theorem dC_refutes_19 : decode prog_1_method_18_code 19 = .ok (.getfield 43, 3) := by decide +kernel
theorem dC_refutes_22 : decode prog_1_method_18_code 22 = .ok (.ifCond .ne 7, 3) := by decide +kernel
theorem dC_refutes_25 : decode prog_1_method_18_code 25 = .ok (.iconst 1, 1) := by decide +kernel
theorem dC_refutes_26 : decode prog_1_method_18_code 26 = .ok (.goto 4, 3) := by decide +kernel
theorem dC_refutes_29 : decode prog_1_method_18_code 29 = .ok (.iconst 0, 1) := by decide +kernel
theorem dC_refutes_30 : decode prog_1_method_18_code 30 = .ok (.invokestatic 66, 3) := by decide +kernel
theorem dC_refutes_33 : decode prog_1_method_18_code 33 = .ok (.aload_n 0, 1) := by decide +kernel
theorem dC_refutes_34 : decode prog_1_method_18_code 34 = .ok (.getfield 32, 3) := by decide +kernel
theorem dC_refutes_37 : decode prog_1_method_18_code 37 = .ok (.aload_n 0, 1) := by decide +kernel
theorem dC_refutes_38 : decode prog_1_method_18_code 38 = .ok (.getfield 11, 3) := by decide +kernel
theorem dC_refutes_41 : decode prog_1_method_18_code 41 = .ok (.iconst 0, 1) := by decide +kernel
theorem dC_refutes_42 : decode prog_1_method_18_code 42 = .ok (.aaload, 1) := by decide +kernel
theorem dC_refutes_43 : decode prog_1_method_18_code 43 = .ok (.invokevirtual 160, 3) := by decide +kernel
theorem dC_refutes_46 : decode prog_1_method_18_code 46 = .ok (.aload_n 0, 1) := by decide +kernel
theorem dC_refutes_47 : decode prog_1_method_18_code 47 = .ok (.getfield 36, 3) := by decide +kernel
theorem dC_refutes_50 : decode prog_1_method_18_code 50 = .ok (.aload_n 0, 1) := by decide +kernel
theorem dC_refutes_51 : decode prog_1_method_18_code 51 = .ok (.invokevirtual 51, 3) := by decide +kernel
theorem dC_refutes_54 : decode prog_1_method_18_code 54 = .ok (.invokevirtual 160, 3) := by decide +kernel
theorem dC_refutes_57 : decode prog_1_method_18_code 57 = .ok (.iload_n 1, 1) := by decide +kernel
theorem dC_refutes_58 : decode prog_1_method_18_code 58 = .ok (.invokestatic 167, 3) := by decide +kernel
theorem dC_refutes_61 : decode prog_1_method_18_code 61 = .ok (.istore_n 2, 1) := by decide +kernel
theorem dC_refutes_62 : decode prog_1_method_18_code 62 = .ok (.iconst 0, 1) := by decide +kernel
theorem dC_refutes_63 : decode prog_1_method_18_code 63 = .ok (.istore_n 3, 1) := by decide +kernel
theorem dC_refutes_64 : decode prog_1_method_18_code 64 = .ok (.iload_n 3, 1) := by decide +kernel
theorem dC_refutes_65 : decode prog_1_method_18_code 65 = .ok (.iload_n 2, 1) := by decide +kernel
theorem dC_refutes_66 : decode prog_1_method_18_code 66 = .ok (.if_icmp .gt 43, 3) := by decide +kernel
theorem dC_refutes_69 : decode prog_1_method_18_code 69 = .ok (.iload_n 3, 1) := by decide +kernel
theorem dC_refutes_70 : decode prog_1_method_18_code 70 = .ok (.iload_n 2, 1) := by decide +kernel
theorem dC_refutes_71 : decode prog_1_method_18_code 71 = .ok (.iconst (-1), 1) := by decide +kernel
theorem dC_refutes_72 : decode prog_1_method_18_code 72 = .ok (.ixor, 1) := by decide +kernel
theorem dC_refutes_73 : decode prog_1_method_18_code 73 = .ok (.iand, 1) := by decide +kernel
theorem dC_refutes_74 : decode prog_1_method_18_code 74 = .ok (.ifCond .ne 29, 3) := by decide +kernel
theorem dC_refutes_77 : decode prog_1_method_18_code 77 = .ok (.aload_n 0, 1) := by decide +kernel
theorem dC_refutes_78 : decode prog_1_method_18_code 78 = .ok (.getfield 32, 3) := by decide +kernel
theorem dC_refutes_81 : decode prog_1_method_18_code 81 = .ok (.iload_n 1, 1) := by decide +kernel
theorem dC_refutes_82 : decode prog_1_method_18_code 82 = .ok (.iload_n 3, 1) := by decide +kernel
end
section
/-! printed by wip/whole/gen_names.py: decode rows -/
theorem dC_refutes_83 : decode prog_1_method_18_code 83 = .ok (.invokevirtual 164, 3) := by decide +kernel
theorem dC_refutes_86 : decode prog_1_method_18_code 86 = .ok (.ifCond .eq 17, 3) := by decide +kernel
theorem dC_refutes_89 : decode prog_1_method_18_code 89 = .ok (.aload_n 0, 1) := by decide +kernel
theorem dC_refutes_90 : decode prog_1_method_18_code 90 = .ok (.getfield 36, 3) := by decide +kernel
theorem dC_refutes_93 : decode prog_1_method_18_code 93 = .ok (.iload_n 1, 1) := by decide +kernel
theorem dC_refutes_94 : decode prog_1_method_18_code 94 = .ok (.iload_n 3, 1) := by decide +kernel
theorem dC_refutes_95 : decode prog_1_method_18_code 95 = .ok (.invokevirtual 164, 3) := by decide +kernel
theorem dC_refutes_98 : decode prog_1_method_18_code 98 = .ok (.ifCond .ne 5, 3) := by decide +kernel
theorem dC_refutes_101 : decode prog_1_method_18_code 101 = .ok (.iload_n 3, 1) := by decide +kernel
theorem dC_refutes_102 : decode prog_1_method_18_code 102 = .ok (.ireturn, 1) := by decide +kernel
theorem dC_refutes_103 : decode prog_1_method_18_code 103 = .ok (.iinc 3 1, 3) := by decide +kernel
theorem dC_refutes_106 : decode prog_1_method_18_code 106 = .ok (.goto (-42), 3) := by decide +kernel
theorem dC_refutes_109 : decode prog_1_method_18_code 109 = .ok (.iconst (-1), 1) := by decide +kernel
theorem dC_refutes_110 : decode prog_1_method_18_code 110 = .ok (.ireturn, 1) := by decide +kernel
theorem dC_count_0 : decode prog_1_method_19_code 0 = .ok (.iload_n 1, 1) := by decide +kernel
theorem dC_count_1 : decode prog_1_method_19_code 1 = .ok (.ifCond .lt 12, 3) := by decide +kernel
theorem dC_count_4 : decode prog_1_method_19_code 4 = .ok (.iload_n 1, 1) := by decide +kernel
theorem dC_count_5 : decode prog_1_method_19_code 5 = .ok (.iconst 3, 1) := by decide +kernel
theorem dC_count_6 : decode prog_1_method_19_code 6 = .ok (.if_icmp .gt 7, 3) := by decide +kernel
theorem dC_count_9 : decode prog_1_method_19_code 9 = .ok (.iconst 1, 1) := by decide +kernel
theorem dC_count_10 : decode prog_1_method_19_code 10 = .ok (.goto 4, 3) := by decide +kernel
theorem dC_count_13 : decode prog_1_method_19_code 13 = .ok (.iconst 0, 1) := by decide +kernel
theorem dC_count_14 : decode prog_1_method_19_code 14 = .ok (.invokestatic 59, 3) := by decide +kernel
theorem dC_count_17 : decode prog_1_method_19_code 17 = .ok (.iload_n 1, 1) := by decide +kernel
theorem dC_count_18 : decode prog_1_method_19_code 18 = .ok (.tableswitch 53 0 2 #[26, 35, 44], 26) := by decide +kernel
theorem dC_count_44 : decode prog_1_method_19_code 44 = .ok (.aload_n 0, 1) := by decide +kernel
theorem dC_count_45 : decode prog_1_method_19_code 45 = .ok (.invokevirtual 51, 3) := by decide +kernel
theorem dC_count_48 : decode prog_1_method_19_code 48 = .ok (.iconst 1, 1) := by decide +kernel
theorem dC_count_49 : decode prog_1_method_19_code 49 = .ok (.invokevirtual 170, 3) := by decide +kernel
theorem dC_count_52 : decode prog_1_method_19_code 52 = .ok (.ireturn, 1) := by decide +kernel
theorem dC_count_53 : decode prog_1_method_19_code 53 = .ok (.aload_n 0, 1) := by decide +kernel
theorem dC_count_54 : decode prog_1_method_19_code 54 = .ok (.invokevirtual 51, 3) := by decide +kernel
theorem dC_count_57 : decode prog_1_method_19_code 57 = .ok (.iconst 0, 1) := by decide +kernel
theorem dC_count_58 : decode prog_1_method_19_code 58 = .ok (.invokevirtual 170, 3) := by decide +kernel
theorem dC_count_61 : decode prog_1_method_19_code 61 = .ok (.ireturn, 1) := by decide +kernel
theorem dC_count_62 : decode prog_1_method_19_code 62 = .ok (.aload_n 0, 1) := by decide +kernel
theorem dC_count_63 : decode prog_1_method_19_code 63 = .ok (.invokevirtual 51, 3) := by decide +kernel
theorem dC_count_66 : decode prog_1_method_19_code 66 = .ok (.iconst 2, 1) := by decide +kernel
theorem dC_count_67 : decode prog_1_method_19_code 67 = .ok (.invokevirtual 170, 3) := by decide +kernel
theorem dC_count_70 : decode prog_1_method_19_code 70 = .ok (.ireturn, 1) := by decide +kernel
theorem dC_count_71 : decode prog_1_method_19_code 71 = .ok (.aload_n 0, 1) := by decide +kernel
theorem dC_count_72 : decode prog_1_method_19_code 72 = .ok (.getfield 47, 3) := by decide +kernel
theorem dC_count_75 : decode prog_1_method_19_code 75 = .ok (.ireturn, 1) := by decide +kernel
theorem dC_needArgument_0 : decode prog_1_method_20_code 0 = .ok (.iload_n 0, 1) := by decide +kernel
theorem dC_needArgument_1 : decode prog_1_method_20_code 1 = .ok (.ifCond .ne 11, 3) := by decide +kernel
theorem dC_needArgument_4 : decode prog_1_method_20_code 4 = .ok (.new 173, 3) := by decide +kernel
theorem dC_needArgument_7 : decode prog_1_method_20_code 7 = .ok (.dup, 1) := by decide +kernel
theorem dC_needArgument_8 : decode prog_1_method_20_code 8 = .ok (.invokespecial 175, 3) := by decide +kernel
theorem dC_needArgument_11 : decode prog_1_method_20_code 11 = .ok (.athrow, 1) := by decide +kernel
theorem dC_needArgument_12 : decode prog_1_method_20_code 12 = .ok (.return_, 1) := by decide +kernel
theorem dC_needState_0 : decode prog_1_method_21_code 0 = .ok (.iload_n 0, 1) := by decide +kernel
theorem dC_needState_1 : decode prog_1_method_21_code 1 = .ok (.ifCond .ne 11, 3) := by decide +kernel
theorem dC_needState_4 : decode prog_1_method_21_code 4 = .ok (.new 176, 3) := by decide +kernel
theorem dC_needState_7 : decode prog_1_method_21_code 7 = .ok (.dup, 1) := by decide +kernel
theorem dC_needState_8 : decode prog_1_method_21_code 8 = .ok (.invokespecial 178, 3) := by decide +kernel
theorem dC_needState_11 : decode prog_1_method_21_code 11 = .ok (.athrow, 1) := by decide +kernel
theorem dC_needState_12 : decode prog_1_method_21_code 12 = .ok (.return_, 1) := by decide +kernel
theorem dC_needRoom_0 : decode prog_1_method_22_code 0 = .ok (.iload_n 0, 1) := by decide +kernel
theorem dC_needRoom_1 : decode prog_1_method_22_code 1 = .ok (.ifCond .ne 11, 3) := by decide +kernel
theorem dC_needRoom_4 : decode prog_1_method_22_code 4 = .ok (.new 179, 3) := by decide +kernel
theorem dC_needRoom_7 : decode prog_1_method_22_code 7 = .ok (.dup, 1) := by decide +kernel
theorem dC_needRoom_8 : decode prog_1_method_22_code 8 = .ok (.invokespecial 181, 3) := by decide +kernel
theorem dC_needRoom_11 : decode prog_1_method_22_code 11 = .ok (.athrow, 1) := by decide +kernel
theorem dC_needRoom_12 : decode prog_1_method_22_code 12 = .ok (.return_, 1) := by decide +kernel
theorem dC_sheet_0 : decode prog_1_method_23_code 0 = .ok (.aload_n 0, 1) := by decide +kernel
theorem dC_sheet_1 : decode prog_1_method_23_code 1 = .ok (.getfield 11, 3) := by decide +kernel
theorem dC_sheet_4 : decode prog_1_method_23_code 4 = .ok (.aload_n 0, 1) := by decide +kernel
theorem dC_sheet_5 : decode prog_1_method_23_code 5 = .ok (.getfield 47, 3) := by decide +kernel
theorem dC_sheet_8 : decode prog_1_method_23_code 8 = .ok (.aaload, 1) := by decide +kernel
theorem dC_sheet_9 : decode prog_1_method_23_code 9 = .ok (.areturn, 1) := by decide +kernel
theorem dC_mayInsert_0 : decode prog_1_method_24_code 0 = .ok (.aload_n 0, 1) := by decide +kernel
theorem dC_mayInsert_1 : decode prog_1_method_24_code 1 = .ok (.getfield 43, 3) := by decide +kernel
theorem dC_mayInsert_4 : decode prog_1_method_24_code 4 = .ok (.ifCond .ne 14, 3) := by decide +kernel
theorem dC_mayInsert_7 : decode prog_1_method_24_code 7 = .ok (.aload_n 0, 1) := by decide +kernel
theorem dC_mayInsert_8 : decode prog_1_method_24_code 8 = .ok (.invokevirtual 51, 3) := by decide +kernel
theorem dC_mayInsert_11 : decode prog_1_method_24_code 11 = .ok (.iload_n 1, 1) := by decide +kernel
theorem dC_mayInsert_12 : decode prog_1_method_24_code 12 = .ok (.invokevirtual 104, 3) := by decide +kernel
theorem dC_mayInsert_15 : decode prog_1_method_24_code 15 = .ok (.ifCond .eq 7, 3) := by decide +kernel
theorem dC_mayInsert_18 : decode prog_1_method_24_code 18 = .ok (.iconst 1, 1) := by decide +kernel
theorem dC_mayInsert_19 : decode prog_1_method_24_code 19 = .ok (.goto 4, 3) := by decide +kernel
theorem dC_mayInsert_22 : decode prog_1_method_24_code 22 = .ok (.iconst 0, 1) := by decide +kernel
theorem dC_mayInsert_23 : decode prog_1_method_24_code 23 = .ok (.ireturn, 1) := by decide +kernel
theorem dC_mayChange_0 : decode prog_1_method_25_code 0 = .ok (.aload_n 0, 1) := by decide +kernel
theorem dC_mayChange_1 : decode prog_1_method_25_code 1 = .ok (.getfield 43, 3) := by decide +kernel
theorem dC_mayChange_4 : decode prog_1_method_25_code 4 = .ok (.ifCond .ne 12, 3) := by decide +kernel
theorem dC_mayChange_7 : decode prog_1_method_25_code 7 = .ok (.aload_n 0, 1) := by decide +kernel
theorem dC_mayChange_8 : decode prog_1_method_25_code 8 = .ok (.getfield 47, 3) := by decide +kernel
theorem dC_mayChange_11 : decode prog_1_method_25_code 11 = .ok (.bipush 20, 2) := by decide +kernel
theorem dC_mayChange_13 : decode prog_1_method_25_code 13 = .ok (.if_icmp .ge 7, 3) := by decide +kernel
theorem dC_mayChange_16 : decode prog_1_method_25_code 16 = .ok (.iconst 1, 1) := by decide +kernel
theorem dC_mayChange_17 : decode prog_1_method_25_code 17 = .ok (.goto 4, 3) := by decide +kernel
theorem dC_mayChange_20 : decode prog_1_method_25_code 20 = .ok (.iconst 0, 1) := by decide +kernel
theorem dC_mayChange_21 : decode prog_1_method_25_code 21 = .ok (.ireturn, 1) := by decide +kernel
theorem dC_changed_0 : decode prog_1_method_26_code 0 = .ok (.aload_n 0, 1) := by decide +kernel
theorem dC_changed_1 : decode prog_1_method_26_code 1 = .ok (.getfield 43, 3) := by decide +kernel
theorem dC_changed_4 : decode prog_1_method_26_code 4 = .ok (.ifCond .ne 45, 3) := by decide +kernel
theorem dC_changed_7 : decode prog_1_method_26_code 7 = .ok (.aload_n 0, 1) := by decide +kernel
theorem dC_changed_8 : decode prog_1_method_26_code 8 = .ok (.getfield 47, 3) := by decide +kernel
theorem dC_changed_11 : decode prog_1_method_26_code 11 = .ok (.bipush 20, 2) := by decide +kernel
theorem dC_changed_13 : decode prog_1_method_26_code 13 = .ok (.if_icmp .ge 36, 3) := by decide +kernel
theorem dC_changed_16 : decode prog_1_method_26_code 16 = .ok (.aload_n 0, 1) := by decide +kernel
theorem dC_changed_17 : decode prog_1_method_26_code 17 = .ok (.getfield 11, 3) := by decide +kernel
theorem dC_changed_20 : decode prog_1_method_26_code 20 = .ok (.aload_n 0, 1) := by decide +kernel
theorem dC_changed_21 : decode prog_1_method_26_code 21 = .ok (.getfield 47, 3) := by decide +kernel
theorem dC_changed_24 : decode prog_1_method_26_code 24 = .ok (.iconst 1, 1) := by decide +kernel
theorem dC_changed_25 : decode prog_1_method_26_code 25 = .ok (.iadd, 1) := by decide +kernel
theorem dC_changed_26 : decode prog_1_method_26_code 26 = .ok (.aaload, 1) := by decide +kernel
theorem dC_changed_27 : decode prog_1_method_26_code 27 = .ok (.aload_n 0, 1) := by decide +kernel
theorem dC_changed_28 : decode prog_1_method_26_code 28 = .ok (.getfield 11, 3) := by decide +kernel
theorem dC_changed_31 : decode prog_1_method_26_code 31 = .ok (.aload_n 0, 1) := by decide +kernel
theorem dC_changed_32 : decode prog_1_method_26_code 32 = .ok (.getfield 47, 3) := by decide +kernel
theorem dC_changed_35 : decode prog_1_method_26_code 35 = .ok (.aaload, 1) := by decide +kernel
theorem dC_changed_36 : decode prog_1_method_26_code 36 = .ok (.invokevirtual 182, 3) := by decide +kernel
theorem dC_changed_39 : decode prog_1_method_26_code 39 = .ok (.aload_n 0, 1) := by decide +kernel
theorem dC_changed_40 : decode prog_1_method_26_code 40 = .ok (.dup, 1) := by decide +kernel
theorem dC_changed_41 : decode prog_1_method_26_code 41 = .ok (.getfield 47, 3) := by decide +kernel
theorem dC_changed_44 : decode prog_1_method_26_code 44 = .ok (.iconst 1, 1) := by decide +kernel
theorem dC_changed_45 : decode prog_1_method_26_code 45 = .ok (.iadd, 1) := by decide +kernel
theorem dC_changed_46 : decode prog_1_method_26_code 46 = .ok (.putfield 47, 3) := by decide +kernel
theorem dC_changed_49 : decode prog_1_method_26_code 49 = .ok (.aload_n 0, 1) := by decide +kernel
theorem dC_changed_50 : decode prog_1_method_26_code 50 = .ok (.getfield 11, 3) := by decide +kernel
theorem dC_changed_53 : decode prog_1_method_26_code 53 = .ok (.aload_n 0, 1) := by decide +kernel
theorem dC_changed_54 : decode prog_1_method_26_code 54 = .ok (.getfield 47, 3) := by decide +kernel
theorem dC_changed_57 : decode prog_1_method_26_code 57 = .ok (.aaload, 1) := by decide +kernel
theorem dC_changed_58 : decode prog_1_method_26_code 58 = .ok (.areturn, 1) := by decide +kernel
theorem dC_hasAlike_0 : decode prog_1_method_27_code 0 = .ok (.aload_n 0, 1) := by decide +kernel
theorem dC_hasAlike_1 : decode prog_1_method_27_code 1 = .ok (.invokevirtual 51, 3) := by decide +kernel
theorem dC_hasAlike_4 : decode prog_1_method_27_code 4 = .ok (.astore_n 3, 1) := by decide +kernel
theorem dC_hasAlike_5 : decode prog_1_method_27_code 5 = .ok (.aload_n 3, 1) := by decide +kernel
theorem dC_hasAlike_6 : decode prog_1_method_27_code 6 = .ok (.iload_n 1, 1) := by decide +kernel
theorem dC_hasAlike_7 : decode prog_1_method_27_code 7 = .ok (.iload_n 2, 1) := by decide +kernel
theorem dC_hasAlike_8 : decode prog_1_method_27_code 8 = .ok (.invokevirtual 101, 3) := by decide +kernel
theorem dC_hasAlike_11 : decode prog_1_method_27_code 11 = .ok (.istore 4, 2) := by decide +kernel
theorem dC_hasAlike_13 : decode prog_1_method_27_code 13 = .ok (.aload_n 0, 1) := by decide +kernel
theorem dC_hasAlike_14 : decode prog_1_method_27_code 14 = .ok (.getfield 23, 3) := by decide +kernel
theorem dC_hasAlike_17 : decode prog_1_method_27_code 17 = .ok (.aload_n 3, 1) := by decide +kernel
theorem dC_hasAlike_18 : decode prog_1_method_27_code 18 = .ok (.iload_n 1, 1) := by decide +kernel
theorem dC_hasAlike_19 : decode prog_1_method_27_code 19 = .ok (.iload_n 2, 1) := by decide +kernel
theorem dC_hasAlike_20 : decode prog_1_method_27_code 20 = .ok (.invokevirtual 185, 3) := by decide +kernel
theorem dC_hasAlike_23 : decode prog_1_method_27_code 23 = .ok (.iconst 0, 1) := by decide +kernel
theorem dC_hasAlike_24 : decode prog_1_method_27_code 24 = .ok (.istore 5, 2) := by decide +kernel
theorem dC_hasAlike_26 : decode prog_1_method_27_code 26 = .ok (.iload 5, 2) := by decide +kernel
theorem dC_hasAlike_28 : decode prog_1_method_27_code 28 = .ok (.bipush 13, 2) := by decide +kernel
theorem dC_hasAlike_30 : decode prog_1_method_27_code 30 = .ok (.if_icmp .ge 68, 3) := by decide +kernel
theorem dC_hasAlike_33 : decode prog_1_method_27_code 33 = .ok (.iload 5, 2) := by decide +kernel
theorem dC_hasAlike_35 : decode prog_1_method_27_code 35 = .ok (.iload_n 2, 1) := by decide +kernel
theorem dC_hasAlike_36 : decode prog_1_method_27_code 36 = .ok (.if_icmp .eq 56, 3) := by decide +kernel
theorem dC_hasAlike_39 : decode prog_1_method_27_code 39 = .ok (.aload_n 3, 1) := by decide +kernel
theorem dC_hasAlike_40 : decode prog_1_method_27_code 40 = .ok (.iload_n 1, 1) := by decide +kernel
theorem dC_hasAlike_41 : decode prog_1_method_27_code 41 = .ok (.iload 5, 2) := by decide +kernel
theorem dC_hasAlike_43 : decode prog_1_method_27_code 43 = .ok (.invokevirtual 114, 3) := by decide +kernel
theorem dC_hasAlike_46 : decode prog_1_method_27_code 46 = .ok (.ifCond .eq 46, 3) := by decide +kernel
theorem dC_hasAlike_49 : decode prog_1_method_27_code 49 = .ok (.aload_n 3, 1) := by decide +kernel
theorem dC_hasAlike_50 : decode prog_1_method_27_code 50 = .ok (.iload 4, 2) := by decide +kernel
theorem dC_hasAlike_52 : decode prog_1_method_27_code 52 = .ok (.aload_n 3, 1) := by decide +kernel
theorem dC_hasAlike_53 : decode prog_1_method_27_code 53 = .ok (.iload_n 1, 1) := by decide +kernel
theorem dC_hasAlike_54 : decode prog_1_method_27_code 54 = .ok (.iload 5, 2) := by decide +kernel
theorem dC_hasAlike_56 : decode prog_1_method_27_code 56 = .ok (.invokevirtual 101, 3) := by decide +kernel
theorem dC_hasAlike_59 : decode prog_1_method_27_code 59 = .ok (.invokevirtual 117, 3) := by decide +kernel
theorem dC_hasAlike_62 : decode prog_1_method_27_code 62 = .ok (.ifCond .eq 30, 3) := by decide +kernel
theorem dC_hasAlike_65 : decode prog_1_method_27_code 65 = .ok (.aload_n 0, 1) := by decide +kernel
theorem dC_hasAlike_66 : decode prog_1_method_27_code 66 = .ok (.getfield 26, 3) := by decide +kernel
theorem dC_hasAlike_69 : decode prog_1_method_27_code 69 = .ok (.aload_n 3, 1) := by decide +kernel
theorem dC_hasAlike_70 : decode prog_1_method_27_code 70 = .ok (.iload_n 1, 1) := by decide +kernel
theorem dC_hasAlike_71 : decode prog_1_method_27_code 71 = .ok (.iload 5, 2) := by decide +kernel
theorem dC_hasAlike_73 : decode prog_1_method_27_code 73 = .ok (.invokevirtual 185, 3) := by decide +kernel
theorem dC_hasAlike_76 : decode prog_1_method_27_code 76 = .ok (.aload_n 0, 1) := by decide +kernel
theorem dC_hasAlike_77 : decode prog_1_method_27_code 77 = .ok (.getfield 23, 3) := by decide +kernel
theorem dC_hasAlike_80 : decode prog_1_method_27_code 80 = .ok (.aload_n 0, 1) := by decide +kernel
theorem dC_hasAlike_81 : decode prog_1_method_27_code 81 = .ok (.getfield 26, 3) := by decide +kernel
theorem dC_hasAlike_84 : decode prog_1_method_27_code 84 = .ok (.invokevirtual 189, 3) := by decide +kernel
theorem dC_hasAlike_87 : decode prog_1_method_27_code 87 = .ok (.ifCond .eq 5, 3) := by decide +kernel
theorem dC_hasAlike_90 : decode prog_1_method_27_code 90 = .ok (.iconst 1, 1) := by decide +kernel
theorem dC_hasAlike_91 : decode prog_1_method_27_code 91 = .ok (.ireturn, 1) := by decide +kernel
theorem dC_hasAlike_92 : decode prog_1_method_27_code 92 = .ok (.iinc 5 1, 3) := by decide +kernel
theorem dC_hasAlike_95 : decode prog_1_method_27_code 95 = .ok (.goto (-69), 3) := by decide +kernel
theorem dC_hasAlike_98 : decode prog_1_method_27_code 98 = .ok (.iconst 0, 1) := by decide +kernel
theorem dC_hasAlike_99 : decode prog_1_method_27_code 99 = .ok (.ireturn, 1) := by decide +kernel
theorem dC_placesOf_0 : decode prog_1_method_28_code 0 = .ok (.iload_n 0, 1) := by decide +kernel
theorem dC_placesOf_1 : decode prog_1_method_28_code 1 = .ok (.iconst 2, 1) := by decide +kernel
theorem dC_placesOf_2 : decode prog_1_method_28_code 2 = .ok (.if_icmp .ge 7, 3) := by decide +kernel
theorem dC_placesOf_5 : decode prog_1_method_28_code 5 = .ok (.iconst 0, 1) := by decide +kernel
theorem dC_placesOf_6 : decode prog_1_method_28_code 6 = .ok (.goto 6, 3) := by decide +kernel
theorem dC_placesOf_9 : decode prog_1_method_28_code 9 = .ok (.iload_n 0, 1) := by decide +kernel
theorem dC_placesOf_10 : decode prog_1_method_28_code 10 = .ok (.iconst 1, 1) := by decide +kernel
theorem dC_placesOf_11 : decode prog_1_method_28_code 11 = .ok (.isub, 1) := by decide +kernel
theorem dC_placesOf_12 : decode prog_1_method_28_code 12 = .ok (.ireturn, 1) := by decide +kernel
theorem dC_bitOfOne_0 : decode prog_1_method_29_code 0 = .ok (.iconst 2, 1) := by decide +kernel
theorem dC_bitOfOne_1 : decode prog_1_method_29_code 1 = .ok (.iload_n 0, 1) := by decide +kernel
theorem dC_bitOfOne_2 : decode prog_1_method_29_code 2 = .ok (.iadd, 1) := by decide +kernel
theorem dC_bitOfOne_3 : decode prog_1_method_29_code 3 = .ok (.ireturn, 1) := by decide +kernel
theorem dC_bitOfTwo_0 : decode prog_1_method_30_code 0 = .ok (.iconst 5, 1) := by decide +kernel
theorem dC_bitOfTwo_1 : decode prog_1_method_30_code 1 = .ok (.iconst 3, 1) := by decide +kernel
theorem dC_bitOfTwo_2 : decode prog_1_method_30_code 2 = .ok (.iload_n 0, 1) := by decide +kernel
theorem dC_bitOfTwo_3 : decode prog_1_method_30_code 3 = .ok (.imul, 1) := by decide +kernel
theorem dC_bitOfTwo_4 : decode prog_1_method_30_code 4 = .ok (.iadd, 1) := by decide +kernel
theorem dC_bitOfTwo_5 : decode prog_1_method_30_code 5 = .ok (.iload_n 1, 1) := by decide +kernel
theorem dC_bitOfTwo_6 : decode prog_1_method_30_code 6 = .ok (.iadd, 1) := by decide +kernel
theorem dC_bitOfTwo_7 : decode prog_1_method_30_code 7 = .ok (.ireturn, 1) := by decide +kernel
theorem dC_bitsOf_0 : decode prog_1_method_31_code 0 = .ok (.iconst 3, 1) := by decide +kernel
theorem dC_bitsOf_1 : decode prog_1_method_31_code 1 = .ok (.istore_n 1, 1) := by decide +kernel
theorem dC_bitsOf_2 : decode prog_1_method_31_code 2 = .ok (.iconst 0, 1) := by decide +kernel
theorem dC_bitsOf_3 : decode prog_1_method_31_code 3 = .ok (.istore_n 2, 1) := by decide +kernel
theorem dC_bitsOf_4 : decode prog_1_method_31_code 4 = .ok (.iload_n 2, 1) := by decide +kernel
theorem dC_bitsOf_5 : decode prog_1_method_31_code 5 = .ok (.iload_n 0, 1) := by decide +kernel
theorem dC_bitsOf_6 : decode prog_1_method_31_code 6 = .ok (.if_icmp .ge 41, 3) := by decide +kernel
theorem dC_bitsOf_9 : decode prog_1_method_31_code 9 = .ok (.iload_n 1, 1) := by decide +kernel
theorem dC_bitsOf_10 : decode prog_1_method_31_code 10 = .ok (.iconst 1, 1) := by decide +kernel
theorem dC_bitsOf_11 : decode prog_1_method_31_code 11 = .ok (.iload_n 2, 1) := by decide +kernel
theorem dC_bitsOf_12 : decode prog_1_method_31_code 12 = .ok (.invokestatic 193, 3) := by decide +kernel
theorem dC_bitsOf_15 : decode prog_1_method_31_code 15 = .ok (.ishl, 1) := by decide +kernel
theorem dC_bitsOf_16 : decode prog_1_method_31_code 16 = .ok (.ior, 1) := by decide +kernel
theorem dC_bitsOf_17 : decode prog_1_method_31_code 17 = .ok (.istore_n 1, 1) := by decide +kernel
theorem dC_bitsOf_18 : decode prog_1_method_31_code 18 = .ok (.iconst 0, 1) := by decide +kernel
theorem dC_bitsOf_19 : decode prog_1_method_31_code 19 = .ok (.istore_n 3, 1) := by decide +kernel
theorem dC_bitsOf_20 : decode prog_1_method_31_code 20 = .ok (.iload_n 3, 1) := by decide +kernel
theorem dC_bitsOf_21 : decode prog_1_method_31_code 21 = .ok (.iload_n 0, 1) := by decide +kernel
theorem dC_bitsOf_22 : decode prog_1_method_31_code 22 = .ok (.if_icmp .ge 19, 3) := by decide +kernel
theorem dC_bitsOf_25 : decode prog_1_method_31_code 25 = .ok (.iload_n 1, 1) := by decide +kernel
theorem dC_bitsOf_26 : decode prog_1_method_31_code 26 = .ok (.iconst 1, 1) := by decide +kernel
theorem dC_bitsOf_27 : decode prog_1_method_31_code 27 = .ok (.iload_n 2, 1) := by decide +kernel
theorem dC_bitsOf_28 : decode prog_1_method_31_code 28 = .ok (.iload_n 3, 1) := by decide +kernel
theorem dC_bitsOf_29 : decode prog_1_method_31_code 29 = .ok (.invokestatic 196, 3) := by decide +kernel
theorem dC_bitsOf_32 : decode prog_1_method_31_code 32 = .ok (.ishl, 1) := by decide +kernel
theorem dC_bitsOf_33 : decode prog_1_method_31_code 33 = .ok (.ior, 1) := by decide +kernel
theorem dC_bitsOf_34 : decode prog_1_method_31_code 34 = .ok (.istore_n 1, 1) := by decide +kernel
theorem dC_bitsOf_35 : decode prog_1_method_31_code 35 = .ok (.iinc 3 1, 3) := by decide +kernel
theorem dC_bitsOf_38 : decode prog_1_method_31_code 38 = .ok (.goto (-18), 3) := by decide +kernel
theorem dC_bitsOf_41 : decode prog_1_method_31_code 41 = .ok (.iinc 2 1, 3) := by decide +kernel
theorem dC_bitsOf_44 : decode prog_1_method_31_code 44 = .ok (.goto (-40), 3) := by decide +kernel
theorem dC_bitsOf_47 : decode prog_1_method_31_code 47 = .ok (.iload_n 1, 1) := by decide +kernel
theorem dC_bitsOf_48 : decode prog_1_method_31_code 48 = .ok (.ireturn, 1) := by decide +kernel
theorem dC_isAmong_0 : decode prog_1_method_32_code 0 = .ok (.iload_n 1, 1) := by decide +kernel
theorem dC_isAmong_1 : decode prog_1_method_32_code 1 = .ok (.iconst (-1), 1) := by decide +kernel
theorem dC_isAmong_2 : decode prog_1_method_32_code 2 = .ok (.if_icmp .eq 16, 3) := by decide +kernel
theorem dC_isAmong_5 : decode prog_1_method_32_code 5 = .ok (.iload_n 0, 1) := by decide +kernel
theorem dC_isAmong_6 : decode prog_1_method_32_code 6 = .ok (.iload_n 1, 1) := by decide +kernel
theorem dC_isAmong_7 : decode prog_1_method_32_code 7 = .ok (.ishr, 1) := by decide +kernel
theorem dC_isAmong_8 : decode prog_1_method_32_code 8 = .ok (.iconst 1, 1) := by decide +kernel
theorem dC_isAmong_9 : decode prog_1_method_32_code 9 = .ok (.iand, 1) := by decide +kernel
theorem dC_isAmong_10 : decode prog_1_method_32_code 10 = .ok (.iconst 1, 1) := by decide +kernel
theorem dC_isAmong_11 : decode prog_1_method_32_code 11 = .ok (.if_icmp .ne 7, 3) := by decide +kernel
theorem dC_isAmong_14 : decode prog_1_method_32_code 14 = .ok (.iconst 1, 1) := by decide +kernel
theorem dC_isAmong_15 : decode prog_1_method_32_code 15 = .ok (.goto 4, 3) := by decide +kernel
theorem dC_isAmong_18 : decode prog_1_method_32_code 18 = .ok (.iconst 0, 1) := by decide +kernel
theorem dC_isAmong_19 : decode prog_1_method_32_code 19 = .ok (.ireturn, 1) := by decide +kernel
end
section
/-! printed by wip/whole/gen_names.py: decode rows -/
theorem dG_init_0 : decode prog_2_method_1_code 0 = .ok (.aload_n 0, 1) := by decide +kernel
theorem dG_init_1 : decode prog_2_method_1_code 1 = .ok (.invokespecial 3, 3) := by decide +kernel
theorem dG_init_4 : decode prog_2_method_1_code 4 = .ok (.aload_n 0, 1) := by decide +kernel
theorem dG_init_5 : decode prog_2_method_1_code 5 = .ok (.bipush 14, 2) := by decide +kernel
theorem dG_init_7 : decode prog_2_method_1_code 7 = .ok (.newarray .int, 2) := by decide +kernel
theorem dG_init_9 : decode prog_2_method_1_code 9 = .ok (.putfield 9, 3) := by decide +kernel
theorem dG_init_12 : decode prog_2_method_1_code 12 = .ok (.aload_n 0, 1) := by decide +kernel
theorem dG_init_13 : decode prog_2_method_1_code 13 = .ok (.iload_n 1, 1) := by decide +kernel
theorem dG_init_14 : decode prog_2_method_1_code 14 = .ok (.newarray .int, 2) := by decide +kernel
theorem dG_init_16 : decode prog_2_method_1_code 16 = .ok (.putfield 15, 3) := by decide +kernel
theorem dG_init_19 : decode prog_2_method_1_code 19 = .ok (.return_, 1) := by decide +kernel
theorem dG_arrange_0 : decode prog_2_method_2_code 0 = .ok (.iconst 0, 1) := by decide +kernel
theorem dG_arrange_1 : decode prog_2_method_2_code 1 = .ok (.istore_n 2, 1) := by decide +kernel
theorem dG_arrange_2 : decode prog_2_method_2_code 2 = .ok (.iconst 0, 1) := by decide +kernel
theorem dG_arrange_3 : decode prog_2_method_2_code 3 = .ok (.istore_n 3, 1) := by decide +kernel
theorem dG_arrange_4 : decode prog_2_method_2_code 4 = .ok (.iload_n 3, 1) := by decide +kernel
theorem dG_arrange_5 : decode prog_2_method_2_code 5 = .ok (.bipush 13, 2) := by decide +kernel
theorem dG_arrange_7 : decode prog_2_method_2_code 7 = .ok (.if_icmp .ge 60, 3) := by decide +kernel
theorem dG_arrange_10 : decode prog_2_method_2_code 10 = .ok (.aload_n 0, 1) := by decide +kernel
theorem dG_arrange_11 : decode prog_2_method_2_code 11 = .ok (.getfield 9, 3) := by decide +kernel
theorem dG_arrange_14 : decode prog_2_method_2_code 14 = .ok (.iload_n 3, 1) := by decide +kernel
theorem dG_arrange_15 : decode prog_2_method_2_code 15 = .ok (.iload_n 2, 1) := by decide +kernel
theorem dG_arrange_16 : decode prog_2_method_2_code 16 = .ok (.iastore, 1) := by decide +kernel
theorem dG_arrange_17 : decode prog_2_method_2_code 17 = .ok (.iconst 0, 1) := by decide +kernel
theorem dG_arrange_18 : decode prog_2_method_2_code 18 = .ok (.istore 4, 2) := by decide +kernel
theorem dG_arrange_20 : decode prog_2_method_2_code 20 = .ok (.iload 4, 2) := by decide +kernel
theorem dG_arrange_22 : decode prog_2_method_2_code 22 = .ok (.aload_n 1, 1) := by decide +kernel
theorem dG_arrange_23 : decode prog_2_method_2_code 23 = .ok (.arraylength, 1) := by decide +kernel
theorem dG_arrange_24 : decode prog_2_method_2_code 24 = .ok (.if_icmp .ge 37, 3) := by decide +kernel
theorem dG_arrange_27 : decode prog_2_method_2_code 27 = .ok (.aload_n 1, 1) := by decide +kernel
theorem dG_arrange_28 : decode prog_2_method_2_code 28 = .ok (.iload 4, 2) := by decide +kernel
theorem dG_arrange_30 : decode prog_2_method_2_code 30 = .ok (.iaload, 1) := by decide +kernel
theorem dG_arrange_31 : decode prog_2_method_2_code 31 = .ok (.iload_n 3, 1) := by decide +kernel
theorem dG_arrange_32 : decode prog_2_method_2_code 32 = .ok (.if_icmp .ne 23, 3) := by decide +kernel
theorem dG_arrange_35 : decode prog_2_method_2_code 35 = .ok (.iload_n 2, 1) := by decide +kernel
theorem dG_arrange_36 : decode prog_2_method_2_code 36 = .ok (.aload_n 0, 1) := by decide +kernel
theorem dG_arrange_37 : decode prog_2_method_2_code 37 = .ok (.getfield 15, 3) := by decide +kernel
theorem dG_arrange_40 : decode prog_2_method_2_code 40 = .ok (.arraylength, 1) := by decide +kernel
theorem dG_arrange_41 : decode prog_2_method_2_code 41 = .ok (.if_icmp .ge 14, 3) := by decide +kernel
theorem dG_arrange_44 : decode prog_2_method_2_code 44 = .ok (.aload_n 0, 1) := by decide +kernel
theorem dG_arrange_45 : decode prog_2_method_2_code 45 = .ok (.getfield 15, 3) := by decide +kernel
theorem dG_arrange_48 : decode prog_2_method_2_code 48 = .ok (.iload_n 2, 1) := by decide +kernel
theorem dG_arrange_49 : decode prog_2_method_2_code 49 = .ok (.iload 4, 2) := by decide +kernel
theorem dG_arrange_51 : decode prog_2_method_2_code 51 = .ok (.iastore, 1) := by decide +kernel
theorem dG_arrange_52 : decode prog_2_method_2_code 52 = .ok (.iinc 2 1, 3) := by decide +kernel
theorem dG_arrange_55 : decode prog_2_method_2_code 55 = .ok (.iinc 4 1, 3) := by decide +kernel
theorem dG_arrange_58 : decode prog_2_method_2_code 58 = .ok (.goto (-38), 3) := by decide +kernel
theorem dG_arrange_61 : decode prog_2_method_2_code 61 = .ok (.iinc 3 1, 3) := by decide +kernel
theorem dG_arrange_64 : decode prog_2_method_2_code 64 = .ok (.goto (-60), 3) := by decide +kernel
theorem dG_arrange_67 : decode prog_2_method_2_code 67 = .ok (.aload_n 0, 1) := by decide +kernel
theorem dG_arrange_68 : decode prog_2_method_2_code 68 = .ok (.getfield 9, 3) := by decide +kernel
theorem dG_arrange_71 : decode prog_2_method_2_code 71 = .ok (.bipush 13, 2) := by decide +kernel
theorem dG_arrange_73 : decode prog_2_method_2_code 73 = .ok (.iload_n 2, 1) := by decide +kernel
theorem dG_arrange_74 : decode prog_2_method_2_code 74 = .ok (.iastore, 1) := by decide +kernel
theorem dG_arrange_75 : decode prog_2_method_2_code 75 = .ok (.return_, 1) := by decide +kernel
end
section
/-! printed by wip/whole/gen_names.py: decode rows -/
theorem dK_init_0 : decode prog_3_method_1_code 0 = .ok (.aload_n 0, 1) := by decide +kernel
theorem dK_init_1 : decode prog_3_method_1_code 1 = .ok (.invokespecial 3, 3) := by decide +kernel
theorem dK_init_4 : decode prog_3_method_1_code 4 = .ok (.aload_n 0, 1) := by decide +kernel
theorem dK_init_5 : decode prog_3_method_1_code 5 = .ok (.new 9, 3) := by decide +kernel
theorem dK_init_8 : decode prog_3_method_1_code 8 = .ok (.dup, 1) := by decide +kernel
theorem dK_init_9 : decode prog_3_method_1_code 9 = .ok (.bipush 6, 2) := by decide +kernel
theorem dK_init_11 : decode prog_3_method_1_code 11 = .ok (.invokespecial 11, 3) := by decide +kernel
theorem dK_init_14 : decode prog_3_method_1_code 14 = .ok (.putfield 14, 3) := by decide +kernel
theorem dK_init_17 : decode prog_3_method_1_code 17 = .ok (.aload_n 0, 1) := by decide +kernel
theorem dK_init_18 : decode prog_3_method_1_code 18 = .ok (.new 9, 3) := by decide +kernel
theorem dK_init_21 : decode prog_3_method_1_code 21 = .ok (.dup, 1) := by decide +kernel
theorem dK_init_22 : decode prog_3_method_1_code 22 = .ok (.bipush 12, 2) := by decide +kernel
theorem dK_init_24 : decode prog_3_method_1_code 24 = .ok (.invokespecial 11, 3) := by decide +kernel
theorem dK_init_27 : decode prog_3_method_1_code 27 = .ok (.putfield 20, 3) := by decide +kernel
theorem dK_init_30 : decode prog_3_method_1_code 30 = .ok (.aload_n 0, 1) := by decide +kernel
theorem dK_init_31 : decode prog_3_method_1_code 31 = .ok (.new 9, 3) := by decide +kernel
theorem dK_init_34 : decode prog_3_method_1_code 34 = .ok (.dup, 1) := by decide +kernel
theorem dK_init_35 : decode prog_3_method_1_code 35 = .ok (.bipush 12, 2) := by decide +kernel
theorem dK_init_37 : decode prog_3_method_1_code 37 = .ok (.invokespecial 11, 3) := by decide +kernel
theorem dK_init_40 : decode prog_3_method_1_code 40 = .ok (.putfield 23, 3) := by decide +kernel
theorem dK_init_43 : decode prog_3_method_1_code 43 = .ok (.aload_n 0, 1) := by decide +kernel
theorem dK_init_44 : decode prog_3_method_1_code 44 = .ok (.bipush 6, 2) := by decide +kernel
theorem dK_init_46 : decode prog_3_method_1_code 46 = .ok (.newarray .int, 2) := by decide +kernel
theorem dK_init_48 : decode prog_3_method_1_code 48 = .ok (.putfield 26, 3) := by decide +kernel
theorem dK_init_51 : decode prog_3_method_1_code 51 = .ok (.aload_n 0, 1) := by decide +kernel
theorem dK_init_52 : decode prog_3_method_1_code 52 = .ok (.bipush 12, 2) := by decide +kernel
theorem dK_init_54 : decode prog_3_method_1_code 54 = .ok (.newarray .int, 2) := by decide +kernel
theorem dK_init_56 : decode prog_3_method_1_code 56 = .ok (.putfield 30, 3) := by decide +kernel
theorem dK_init_59 : decode prog_3_method_1_code 59 = .ok (.aload_n 0, 1) := by decide +kernel
theorem dK_init_60 : decode prog_3_method_1_code 60 = .ok (.bipush 24, 2) := by decide +kernel
theorem dK_init_62 : decode prog_3_method_1_code 62 = .ok (.newarray .int, 2) := by decide +kernel
theorem dK_init_64 : decode prog_3_method_1_code 64 = .ok (.putfield 33, 3) := by decide +kernel
theorem dK_init_67 : decode prog_3_method_1_code 67 = .ok (.aload_n 0, 1) := by decide +kernel
theorem dK_init_68 : decode prog_3_method_1_code 68 = .ok (.bipush 6, 2) := by decide +kernel
theorem dK_init_70 : decode prog_3_method_1_code 70 = .ok (.newarray .int, 2) := by decide +kernel
theorem dK_init_72 : decode prog_3_method_1_code 72 = .ok (.putfield 36, 3) := by decide +kernel
theorem dK_init_75 : decode prog_3_method_1_code 75 = .ok (.aload_n 0, 1) := by decide +kernel
theorem dK_init_76 : decode prog_3_method_1_code 76 = .ok (.iconst 1, 1) := by decide +kernel
theorem dK_init_77 : decode prog_3_method_1_code 77 = .ok (.putfield 39, 3) := by decide +kernel
theorem dK_init_80 : decode prog_3_method_1_code 80 = .ok (.aload_n 0, 1) := by decide +kernel
theorem dK_init_81 : decode prog_3_method_1_code 81 = .ok (.iconst 0, 1) := by decide +kernel
theorem dK_init_82 : decode prog_3_method_1_code 82 = .ok (.putfield 43, 3) := by decide +kernel
theorem dK_init_85 : decode prog_3_method_1_code 85 = .ok (.return_, 1) := by decide +kernel
theorem dK_arrange_0 : decode prog_3_method_2_code 0 = .ok (.iconst 0, 1) := by decide +kernel
theorem dK_arrange_1 : decode prog_3_method_2_code 1 = .ok (.istore_n 2, 1) := by decide +kernel
theorem dK_arrange_2 : decode prog_3_method_2_code 2 = .ok (.iload_n 2, 1) := by decide +kernel
theorem dK_arrange_3 : decode prog_3_method_2_code 3 = .ok (.bipush 6, 2) := by decide +kernel
theorem dK_arrange_5 : decode prog_3_method_2_code 5 = .ok (.if_icmp .ge 33, 3) := by decide +kernel
theorem dK_arrange_8 : decode prog_3_method_2_code 8 = .ok (.aload_n 0, 1) := by decide +kernel
theorem dK_arrange_9 : decode prog_3_method_2_code 9 = .ok (.getfield 26, 3) := by decide +kernel
theorem dK_arrange_12 : decode prog_3_method_2_code 12 = .ok (.iload_n 2, 1) := by decide +kernel
theorem dK_arrange_13 : decode prog_3_method_2_code 13 = .ok (.aload_n 1, 1) := by decide +kernel
theorem dK_arrange_14 : decode prog_3_method_2_code 14 = .ok (.iload_n 2, 1) := by decide +kernel
theorem dK_arrange_15 : decode prog_3_method_2_code 15 = .ok (.invokevirtual 46, 3) := by decide +kernel
theorem dK_arrange_18 : decode prog_3_method_2_code 18 = .ok (.ifCond .eq 12, 3) := by decide +kernel
theorem dK_arrange_21 : decode prog_3_method_2_code 21 = .ok (.aload_n 1, 1) := by decide +kernel
theorem dK_arrange_22 : decode prog_3_method_2_code 22 = .ok (.getfield 52, 3) := by decide +kernel
theorem dK_arrange_25 : decode prog_3_method_2_code 25 = .ok (.iload_n 2, 1) := by decide +kernel
theorem dK_arrange_26 : decode prog_3_method_2_code 26 = .ok (.iaload, 1) := by decide +kernel
theorem dK_arrange_27 : decode prog_3_method_2_code 27 = .ok (.goto 4, 3) := by decide +kernel
theorem dK_arrange_30 : decode prog_3_method_2_code 30 = .ok (.iconst (-1), 1) := by decide +kernel
theorem dK_arrange_31 : decode prog_3_method_2_code 31 = .ok (.iastore, 1) := by decide +kernel
theorem dK_arrange_32 : decode prog_3_method_2_code 32 = .ok (.iinc 2 1, 3) := by decide +kernel
theorem dK_arrange_35 : decode prog_3_method_2_code 35 = .ok (.goto (-33), 3) := by decide +kernel
theorem dK_arrange_38 : decode prog_3_method_2_code 38 = .ok (.aload_n 0, 1) := by decide +kernel
theorem dK_arrange_39 : decode prog_3_method_2_code 39 = .ok (.getfield 14, 3) := by decide +kernel
theorem dK_arrange_42 : decode prog_3_method_2_code 42 = .ok (.aload_n 0, 1) := by decide +kernel
theorem dK_arrange_43 : decode prog_3_method_2_code 43 = .ok (.getfield 26, 3) := by decide +kernel
theorem dK_arrange_46 : decode prog_3_method_2_code 46 = .ok (.invokevirtual 55, 3) := by decide +kernel
theorem dK_arrange_49 : decode prog_3_method_2_code 49 = .ok (.aload_n 0, 1) := by decide +kernel
theorem dK_arrange_50 : decode prog_3_method_2_code 50 = .ok (.getfield 20, 3) := by decide +kernel
theorem dK_arrange_53 : decode prog_3_method_2_code 53 = .ok (.aload_n 1, 1) := by decide +kernel
theorem dK_arrange_54 : decode prog_3_method_2_code 54 = .ok (.getfield 59, 3) := by decide +kernel
theorem dK_arrange_57 : decode prog_3_method_2_code 57 = .ok (.invokevirtual 55, 3) := by decide +kernel
theorem dK_arrange_60 : decode prog_3_method_2_code 60 = .ok (.aload_n 0, 1) := by decide +kernel
theorem dK_arrange_61 : decode prog_3_method_2_code 61 = .ok (.getfield 23, 3) := by decide +kernel
theorem dK_arrange_64 : decode prog_3_method_2_code 64 = .ok (.aload_n 1, 1) := by decide +kernel
theorem dK_arrange_65 : decode prog_3_method_2_code 65 = .ok (.getfield 62, 3) := by decide +kernel
theorem dK_arrange_68 : decode prog_3_method_2_code 68 = .ok (.invokevirtual 55, 3) := by decide +kernel
theorem dK_arrange_71 : decode prog_3_method_2_code 71 = .ok (.aload_n 1, 1) := by decide +kernel
theorem dK_arrange_72 : decode prog_3_method_2_code 72 = .ok (.getfield 65, 3) := by decide +kernel
theorem dK_arrange_75 : decode prog_3_method_2_code 75 = .ok (.iconst 0, 1) := by decide +kernel
theorem dK_arrange_76 : decode prog_3_method_2_code 76 = .ok (.aload_n 0, 1) := by decide +kernel
theorem dK_arrange_77 : decode prog_3_method_2_code 77 = .ok (.getfield 30, 3) := by decide +kernel
theorem dK_arrange_80 : decode prog_3_method_2_code 80 = .ok (.iconst 0, 1) := by decide +kernel
theorem dK_arrange_81 : decode prog_3_method_2_code 81 = .ok (.bipush 12, 2) := by decide +kernel
theorem dK_arrange_83 : decode prog_3_method_2_code 83 = .ok (.invokestatic 68, 3) := by decide +kernel
theorem dK_arrange_86 : decode prog_3_method_2_code 86 = .ok (.aload_n 1, 1) := by decide +kernel
theorem dK_arrange_87 : decode prog_3_method_2_code 87 = .ok (.getfield 74, 3) := by decide +kernel
theorem dK_arrange_90 : decode prog_3_method_2_code 90 = .ok (.iconst 0, 1) := by decide +kernel
theorem dK_arrange_91 : decode prog_3_method_2_code 91 = .ok (.aload_n 0, 1) := by decide +kernel
theorem dK_arrange_92 : decode prog_3_method_2_code 92 = .ok (.getfield 33, 3) := by decide +kernel
theorem dK_arrange_95 : decode prog_3_method_2_code 95 = .ok (.iconst 0, 1) := by decide +kernel
theorem dK_arrange_96 : decode prog_3_method_2_code 96 = .ok (.bipush 24, 2) := by decide +kernel
theorem dK_arrange_98 : decode prog_3_method_2_code 98 = .ok (.invokestatic 68, 3) := by decide +kernel
theorem dK_arrange_101 : decode prog_3_method_2_code 101 = .ok (.return_, 1) := by decide +kernel
theorem dK_isTrueIn_0 : decode prog_3_method_3_code 0 = .ok (.aload_n 0, 1) := by decide +kernel
theorem dK_isTrueIn_1 : decode prog_3_method_3_code 1 = .ok (.iload_n 1, 1) := by decide +kernel
theorem dK_isTrueIn_2 : decode prog_3_method_3_code 2 = .ok (.putfield 39, 3) := by decide +kernel
theorem dK_isTrueIn_5 : decode prog_3_method_3_code 5 = .ok (.aload_n 0, 1) := by decide +kernel
theorem dK_isTrueIn_6 : decode prog_3_method_3_code 6 = .ok (.iload_n 2, 1) := by decide +kernel
theorem dK_isTrueIn_7 : decode prog_3_method_3_code 7 = .ok (.putfield 43, 3) := by decide +kernel
theorem dK_isTrueIn_10 : decode prog_3_method_3_code 10 = .ok (.aload_n 0, 1) := by decide +kernel
theorem dK_isTrueIn_11 : decode prog_3_method_3_code 11 = .ok (.iconst 0, 1) := by decide +kernel
theorem dK_isTrueIn_12 : decode prog_3_method_3_code 12 = .ok (.iconst 0, 1) := by decide +kernel
theorem dK_isTrueIn_13 : decode prog_3_method_3_code 13 = .ok (.invokevirtual 75, 3) := by decide +kernel
theorem dK_isTrueIn_16 : decode prog_3_method_3_code 16 = .ok (.ireturn, 1) := by decide +kernel
theorem dK_isAreaTrue_0 : decode prog_3_method_4_code 0 = .ok (.iload_n 2, 1) := by decide +kernel
theorem dK_isAreaTrue_1 : decode prog_3_method_4_code 1 = .ok (.bipush 12, 2) := by decide +kernel
theorem dK_isAreaTrue_3 : decode prog_3_method_4_code 3 = .ok (.if_icmp .le 5, 3) := by decide +kernel
theorem dK_isAreaTrue_6 : decode prog_3_method_4_code 6 = .ok (.iconst 0, 1) := by decide +kernel
theorem dK_isAreaTrue_7 : decode prog_3_method_4_code 7 = .ok (.ireturn, 1) := by decide +kernel
theorem dK_isAreaTrue_8 : decode prog_3_method_4_code 8 = .ok (.iconst 1, 1) := by decide +kernel
theorem dK_isAreaTrue_9 : decode prog_3_method_4_code 9 = .ok (.istore_n 3, 1) := by decide +kernel
theorem dK_isAreaTrue_10 : decode prog_3_method_4_code 10 = .ok (.aload_n 0, 1) := by decide +kernel
theorem dK_isAreaTrue_11 : decode prog_3_method_4_code 11 = .ok (.getfield 14, 3) := by decide +kernel
theorem dK_isAreaTrue_14 : decode prog_3_method_4_code 14 = .ok (.getfield 79, 3) := by decide +kernel
theorem dK_isAreaTrue_17 : decode prog_3_method_4_code 17 = .ok (.iload_n 1, 1) := by decide +kernel
theorem dK_isAreaTrue_18 : decode prog_3_method_4_code 18 = .ok (.iaload, 1) := by decide +kernel
theorem dK_isAreaTrue_19 : decode prog_3_method_4_code 19 = .ok (.istore 4, 2) := by decide +kernel
theorem dK_isAreaTrue_21 : decode prog_3_method_4_code 21 = .ok (.iload 4, 2) := by decide +kernel
theorem dK_isAreaTrue_23 : decode prog_3_method_4_code 23 = .ok (.aload_n 0, 1) := by decide +kernel
theorem dK_isAreaTrue_24 : decode prog_3_method_4_code 24 = .ok (.getfield 14, 3) := by decide +kernel
theorem dK_isAreaTrue_27 : decode prog_3_method_4_code 27 = .ok (.getfield 79, 3) := by decide +kernel
theorem dK_isAreaTrue_30 : decode prog_3_method_4_code 30 = .ok (.iload_n 1, 1) := by decide +kernel
theorem dK_isAreaTrue_31 : decode prog_3_method_4_code 31 = .ok (.iconst 1, 1) := by decide +kernel
theorem dK_isAreaTrue_32 : decode prog_3_method_4_code 32 = .ok (.iadd, 1) := by decide +kernel
theorem dK_isAreaTrue_33 : decode prog_3_method_4_code 33 = .ok (.iaload, 1) := by decide +kernel
theorem dK_isAreaTrue_34 : decode prog_3_method_4_code 34 = .ok (.if_icmp .ge 32, 3) := by decide +kernel
theorem dK_isAreaTrue_37 : decode prog_3_method_4_code 37 = .ok (.aload_n 0, 1) := by decide +kernel
theorem dK_isAreaTrue_38 : decode prog_3_method_4_code 38 = .ok (.getfield 36, 3) := by decide +kernel
theorem dK_isAreaTrue_41 : decode prog_3_method_4_code 41 = .ok (.aload_n 0, 1) := by decide +kernel
theorem dK_isAreaTrue_42 : decode prog_3_method_4_code 42 = .ok (.getfield 14, 3) := by decide +kernel
theorem dK_isAreaTrue_45 : decode prog_3_method_4_code 45 = .ok (.getfield 82, 3) := by decide +kernel
theorem dK_isAreaTrue_48 : decode prog_3_method_4_code 48 = .ok (.iload 4, 2) := by decide +kernel
theorem dK_isAreaTrue_50 : decode prog_3_method_4_code 50 = .ok (.iaload, 1) := by decide +kernel
theorem dK_isAreaTrue_51 : decode prog_3_method_4_code 51 = .ok (.iconst 0, 1) := by decide +kernel
theorem dK_isAreaTrue_52 : decode prog_3_method_4_code 52 = .ok (.iastore, 1) := by decide +kernel
theorem dK_isAreaTrue_53 : decode prog_3_method_4_code 53 = .ok (.iload_n 3, 1) := by decide +kernel
theorem dK_isAreaTrue_54 : decode prog_3_method_4_code 54 = .ok (.aload_n 0, 1) := by decide +kernel
theorem dK_isAreaTrue_55 : decode prog_3_method_4_code 55 = .ok (.getfield 39, 3) := by decide +kernel
theorem dK_isAreaTrue_58 : decode prog_3_method_4_code 58 = .ok (.imul, 1) := by decide +kernel
theorem dK_isAreaTrue_59 : decode prog_3_method_4_code 59 = .ok (.istore_n 3, 1) := by decide +kernel
theorem dK_isAreaTrue_60 : decode prog_3_method_4_code 60 = .ok (.iinc 4 1, 3) := by decide +kernel
theorem dK_isAreaTrue_63 : decode prog_3_method_4_code 63 = .ok (.goto (-42), 3) := by decide +kernel
theorem dK_isAreaTrue_66 : decode prog_3_method_4_code 66 = .ok (.iconst 0, 1) := by decide +kernel
theorem dK_isAreaTrue_67 : decode prog_3_method_4_code 67 = .ok (.istore 4, 2) := by decide +kernel
theorem dK_isAreaTrue_69 : decode prog_3_method_4_code 69 = .ok (.iload 4, 2) := by decide +kernel
theorem dK_isAreaTrue_71 : decode prog_3_method_4_code 71 = .ok (.iload_n 3, 1) := by decide +kernel
theorem dK_isAreaTrue_72 : decode prog_3_method_4_code 72 = .ok (.if_icmp .ge 33, 3) := by decide +kernel
theorem dK_isAreaTrue_75 : decode prog_3_method_4_code 75 = .ok (.aload_n 0, 1) := by decide +kernel
theorem dK_isAreaTrue_76 : decode prog_3_method_4_code 76 = .ok (.iload_n 1, 1) := by decide +kernel
theorem dK_isAreaTrue_77 : decode prog_3_method_4_code 77 = .ok (.invokevirtual 85, 3) := by decide +kernel
theorem dK_isAreaTrue_80 : decode prog_3_method_4_code 80 = .ok (.ifCond .eq 14, 3) := by decide +kernel
theorem dK_isAreaTrue_83 : decode prog_3_method_4_code 83 = .ok (.aload_n 0, 1) := by decide +kernel
theorem dK_isAreaTrue_84 : decode prog_3_method_4_code 84 = .ok (.iload_n 1, 1) := by decide +kernel
theorem dK_isAreaTrue_85 : decode prog_3_method_4_code 85 = .ok (.iload_n 2, 1) := by decide +kernel
theorem dK_isAreaTrue_86 : decode prog_3_method_4_code 86 = .ok (.invokevirtual 88, 3) := by decide +kernel
theorem dK_isAreaTrue_89 : decode prog_3_method_4_code 89 = .ok (.ifCond .eq 5, 3) := by decide +kernel
theorem dK_isAreaTrue_92 : decode prog_3_method_4_code 92 = .ok (.iconst 1, 1) := by decide +kernel
theorem dK_isAreaTrue_93 : decode prog_3_method_4_code 93 = .ok (.ireturn, 1) := by decide +kernel
theorem dK_isAreaTrue_94 : decode prog_3_method_4_code 94 = .ok (.aload_n 0, 1) := by decide +kernel
theorem dK_isAreaTrue_95 : decode prog_3_method_4_code 95 = .ok (.iload_n 1, 1) := by decide +kernel
theorem dK_isAreaTrue_96 : decode prog_3_method_4_code 96 = .ok (.invokevirtual 91, 3) := by decide +kernel
theorem dK_isAreaTrue_99 : decode prog_3_method_4_code 99 = .ok (.iinc 4 1, 3) := by decide +kernel
theorem dK_isAreaTrue_102 : decode prog_3_method_4_code 102 = .ok (.goto (-33), 3) := by decide +kernel
theorem dK_isAreaTrue_105 : decode prog_3_method_4_code 105 = .ok (.iconst 0, 1) := by decide +kernel
theorem dK_isAreaTrue_106 : decode prog_3_method_4_code 106 = .ok (.ireturn, 1) := by decide +kernel
theorem dK_takeNextThings_0 : decode prog_3_method_5_code 0 = .ok (.aload_n 0, 1) := by decide +kernel
theorem dK_takeNextThings_1 : decode prog_3_method_5_code 1 = .ok (.getfield 14, 3) := by decide +kernel
theorem dK_takeNextThings_4 : decode prog_3_method_5_code 4 = .ok (.getfield 79, 3) := by decide +kernel
theorem dK_takeNextThings_7 : decode prog_3_method_5_code 7 = .ok (.iload_n 1, 1) := by decide +kernel
theorem dK_takeNextThings_8 : decode prog_3_method_5_code 8 = .ok (.iaload, 1) := by decide +kernel
theorem dK_takeNextThings_9 : decode prog_3_method_5_code 9 = .ok (.istore_n 2, 1) := by decide +kernel
theorem dK_takeNextThings_10 : decode prog_3_method_5_code 10 = .ok (.iload_n 2, 1) := by decide +kernel
theorem dK_takeNextThings_11 : decode prog_3_method_5_code 11 = .ok (.aload_n 0, 1) := by decide +kernel
theorem dK_takeNextThings_12 : decode prog_3_method_5_code 12 = .ok (.getfield 14, 3) := by decide +kernel
theorem dK_takeNextThings_15 : decode prog_3_method_5_code 15 = .ok (.getfield 79, 3) := by decide +kernel
theorem dK_takeNextThings_18 : decode prog_3_method_5_code 18 = .ok (.iload_n 1, 1) := by decide +kernel
theorem dK_takeNextThings_19 : decode prog_3_method_5_code 19 = .ok (.iconst 1, 1) := by decide +kernel
theorem dK_takeNextThings_20 : decode prog_3_method_5_code 20 = .ok (.iadd, 1) := by decide +kernel
theorem dK_takeNextThings_21 : decode prog_3_method_5_code 21 = .ok (.iaload, 1) := by decide +kernel
theorem dK_takeNextThings_22 : decode prog_3_method_5_code 22 = .ok (.if_icmp .ge 50, 3) := by decide +kernel
theorem dK_takeNextThings_25 : decode prog_3_method_5_code 25 = .ok (.aload_n 0, 1) := by decide +kernel
theorem dK_takeNextThings_26 : decode prog_3_method_5_code 26 = .ok (.getfield 14, 3) := by decide +kernel
theorem dK_takeNextThings_29 : decode prog_3_method_5_code 29 = .ok (.getfield 82, 3) := by decide +kernel
theorem dK_takeNextThings_32 : decode prog_3_method_5_code 32 = .ok (.iload_n 2, 1) := by decide +kernel
theorem dK_takeNextThings_33 : decode prog_3_method_5_code 33 = .ok (.iaload, 1) := by decide +kernel
theorem dK_takeNextThings_34 : decode prog_3_method_5_code 34 = .ok (.istore_n 3, 1) := by decide +kernel
theorem dK_takeNextThings_35 : decode prog_3_method_5_code 35 = .ok (.aload_n 0, 1) := by decide +kernel
theorem dK_takeNextThings_36 : decode prog_3_method_5_code 36 = .ok (.getfield 36, 3) := by decide +kernel
theorem dK_takeNextThings_39 : decode prog_3_method_5_code 39 = .ok (.iload_n 3, 1) := by decide +kernel
theorem dK_takeNextThings_40 : decode prog_3_method_5_code 40 = .ok (.dup2, 1) := by decide +kernel
theorem dK_takeNextThings_41 : decode prog_3_method_5_code 41 = .ok (.iaload, 1) := by decide +kernel
theorem dK_takeNextThings_42 : decode prog_3_method_5_code 42 = .ok (.iconst 1, 1) := by decide +kernel
theorem dK_takeNextThings_43 : decode prog_3_method_5_code 43 = .ok (.iadd, 1) := by decide +kernel
theorem dK_takeNextThings_44 : decode prog_3_method_5_code 44 = .ok (.iastore, 1) := by decide +kernel
theorem dK_takeNextThings_45 : decode prog_3_method_5_code 45 = .ok (.aload_n 0, 1) := by decide +kernel
theorem dK_takeNextThings_46 : decode prog_3_method_5_code 46 = .ok (.getfield 36, 3) := by decide +kernel
theorem dK_takeNextThings_49 : decode prog_3_method_5_code 49 = .ok (.iload_n 3, 1) := by decide +kernel
theorem dK_takeNextThings_50 : decode prog_3_method_5_code 50 = .ok (.iaload, 1) := by decide +kernel
theorem dK_takeNextThings_51 : decode prog_3_method_5_code 51 = .ok (.aload_n 0, 1) := by decide +kernel
theorem dK_takeNextThings_52 : decode prog_3_method_5_code 52 = .ok (.getfield 39, 3) := by decide +kernel
theorem dK_takeNextThings_55 : decode prog_3_method_5_code 55 = .ok (.if_icmp .ge 4, 3) := by decide +kernel
theorem dK_takeNextThings_58 : decode prog_3_method_5_code 58 = .ok (.return_, 1) := by decide +kernel
theorem dK_takeNextThings_59 : decode prog_3_method_5_code 59 = .ok (.aload_n 0, 1) := by decide +kernel
theorem dK_takeNextThings_60 : decode prog_3_method_5_code 60 = .ok (.getfield 36, 3) := by decide +kernel
theorem dK_takeNextThings_63 : decode prog_3_method_5_code 63 = .ok (.iload_n 3, 1) := by decide +kernel
theorem dK_takeNextThings_64 : decode prog_3_method_5_code 64 = .ok (.iconst 0, 1) := by decide +kernel
theorem dK_takeNextThings_65 : decode prog_3_method_5_code 65 = .ok (.iastore, 1) := by decide +kernel
theorem dK_takeNextThings_66 : decode prog_3_method_5_code 66 = .ok (.iinc 2 1, 3) := by decide +kernel
theorem dK_takeNextThings_69 : decode prog_3_method_5_code 69 = .ok (.goto (-59), 3) := by decide +kernel
theorem dK_takeNextThings_72 : decode prog_3_method_5_code 72 = .ok (.return_, 1) := by decide +kernel
theorem dK_areSpotsTrue_0 : decode prog_3_method_6_code 0 = .ok (.aload_n 0, 1) := by decide +kernel
theorem dK_areSpotsTrue_1 : decode prog_3_method_6_code 1 = .ok (.getfield 20, 3) := by decide +kernel
theorem dK_areSpotsTrue_4 : decode prog_3_method_6_code 4 = .ok (.getfield 79, 3) := by decide +kernel
theorem dK_areSpotsTrue_7 : decode prog_3_method_6_code 7 = .ok (.iload_n 1, 1) := by decide +kernel
theorem dK_areSpotsTrue_8 : decode prog_3_method_6_code 8 = .ok (.iaload, 1) := by decide +kernel
theorem dK_areSpotsTrue_9 : decode prog_3_method_6_code 9 = .ok (.istore_n 2, 1) := by decide +kernel
theorem dK_areSpotsTrue_10 : decode prog_3_method_6_code 10 = .ok (.iload_n 2, 1) := by decide +kernel
theorem dK_areSpotsTrue_11 : decode prog_3_method_6_code 11 = .ok (.aload_n 0, 1) := by decide +kernel
theorem dK_areSpotsTrue_12 : decode prog_3_method_6_code 12 = .ok (.getfield 20, 3) := by decide +kernel
theorem dK_areSpotsTrue_15 : decode prog_3_method_6_code 15 = .ok (.getfield 79, 3) := by decide +kernel
theorem dK_areSpotsTrue_18 : decode prog_3_method_6_code 18 = .ok (.iload_n 1, 1) := by decide +kernel
theorem dK_areSpotsTrue_19 : decode prog_3_method_6_code 19 = .ok (.iconst 1, 1) := by decide +kernel
theorem dK_areSpotsTrue_20 : decode prog_3_method_6_code 20 = .ok (.iadd, 1) := by decide +kernel
theorem dK_areSpotsTrue_21 : decode prog_3_method_6_code 21 = .ok (.iaload, 1) := by decide +kernel
theorem dK_areSpotsTrue_22 : decode prog_3_method_6_code 22 = .ok (.if_icmp .ge 34, 3) := by decide +kernel
theorem dK_areSpotsTrue_25 : decode prog_3_method_6_code 25 = .ok (.aload_n 0, 1) := by decide +kernel
theorem dK_areSpotsTrue_26 : decode prog_3_method_6_code 26 = .ok (.getfield 43, 3) := by decide +kernel
theorem dK_areSpotsTrue_29 : decode prog_3_method_6_code 29 = .ok (.aload_n 0, 1) := by decide +kernel
theorem dK_areSpotsTrue_30 : decode prog_3_method_6_code 30 = .ok (.aload_n 0, 1) := by decide +kernel
theorem dK_areSpotsTrue_31 : decode prog_3_method_6_code 31 = .ok (.getfield 20, 3) := by decide +kernel
theorem dK_areSpotsTrue_34 : decode prog_3_method_6_code 34 = .ok (.getfield 82, 3) := by decide +kernel
theorem dK_areSpotsTrue_37 : decode prog_3_method_6_code 37 = .ok (.iload_n 2, 1) := by decide +kernel
theorem dK_areSpotsTrue_38 : decode prog_3_method_6_code 38 = .ok (.iaload, 1) := by decide +kernel
theorem dK_areSpotsTrue_39 : decode prog_3_method_6_code 39 = .ok (.invokevirtual 94, 3) := by decide +kernel
theorem dK_areSpotsTrue_42 : decode prog_3_method_6_code 42 = .ok (.ishr, 1) := by decide +kernel
theorem dK_areSpotsTrue_43 : decode prog_3_method_6_code 43 = .ok (.iconst 1, 1) := by decide +kernel
theorem dK_areSpotsTrue_44 : decode prog_3_method_6_code 44 = .ok (.iand, 1) := by decide +kernel
theorem dK_areSpotsTrue_45 : decode prog_3_method_6_code 45 = .ok (.ifCond .ne 5, 3) := by decide +kernel
theorem dK_areSpotsTrue_48 : decode prog_3_method_6_code 48 = .ok (.iconst 0, 1) := by decide +kernel
theorem dK_areSpotsTrue_49 : decode prog_3_method_6_code 49 = .ok (.ireturn, 1) := by decide +kernel
theorem dK_areSpotsTrue_50 : decode prog_3_method_6_code 50 = .ok (.iinc 2 1, 3) := by decide +kernel
theorem dK_areSpotsTrue_53 : decode prog_3_method_6_code 53 = .ok (.goto (-43), 3) := by decide +kernel
theorem dK_areSpotsTrue_56 : decode prog_3_method_6_code 56 = .ok (.iconst 1, 1) := by decide +kernel
theorem dK_areSpotsTrue_57 : decode prog_3_method_6_code 57 = .ok (.ireturn, 1) := by decide +kernel
theorem dK_bitOfSpot_0 : decode prog_3_method_7_code 0 = .ok (.aload_n 0, 1) := by decide +kernel
theorem dK_bitOfSpot_1 : decode prog_3_method_7_code 1 = .ok (.getfield 30, 3) := by decide +kernel
theorem dK_bitOfSpot_4 : decode prog_3_method_7_code 4 = .ok (.iload_n 1, 1) := by decide +kernel
theorem dK_bitOfSpot_5 : decode prog_3_method_7_code 5 = .ok (.iaload, 1) := by decide +kernel
theorem dK_bitOfSpot_6 : decode prog_3_method_7_code 6 = .ok (.istore_n 2, 1) := by decide +kernel
theorem dK_bitOfSpot_7 : decode prog_3_method_7_code 7 = .ok (.iload_n 2, 1) := by decide +kernel
theorem dK_bitOfSpot_8 : decode prog_3_method_7_code 8 = .ok (.iconst 2, 1) := by decide +kernel
theorem dK_bitOfSpot_9 : decode prog_3_method_7_code 9 = .ok (.if_icmp .ge 5, 3) := by decide +kernel
theorem dK_bitOfSpot_12 : decode prog_3_method_7_code 12 = .ok (.iload_n 2, 1) := by decide +kernel
theorem dK_bitOfSpot_13 : decode prog_3_method_7_code 13 = .ok (.ireturn, 1) := by decide +kernel
theorem dK_bitOfSpot_14 : decode prog_3_method_7_code 14 = .ok (.aload_n 0, 1) := by decide +kernel
theorem dK_bitOfSpot_15 : decode prog_3_method_7_code 15 = .ok (.iconst 2, 1) := by decide +kernel
theorem dK_bitOfSpot_16 : decode prog_3_method_7_code 16 = .ok (.iload_n 1, 1) := by decide +kernel
theorem dK_bitOfSpot_17 : decode prog_3_method_7_code 17 = .ok (.imul, 1) := by decide +kernel
theorem dK_bitOfSpot_18 : decode prog_3_method_7_code 18 = .ok (.invokevirtual 98, 3) := by decide +kernel
theorem dK_bitOfSpot_21 : decode prog_3_method_7_code 21 = .ok (.istore_n 3, 1) := by decide +kernel
theorem dK_bitOfSpot_22 : decode prog_3_method_7_code 22 = .ok (.iload_n 2, 1) := by decide +kernel
theorem dK_bitOfSpot_23 : decode prog_3_method_7_code 23 = .ok (.iconst 2, 1) := by decide +kernel
theorem dK_bitOfSpot_24 : decode prog_3_method_7_code 24 = .ok (.if_icmp .ne 10, 3) := by decide +kernel
theorem dK_bitOfSpot_27 : decode prog_3_method_7_code 27 = .ok (.iload_n 3, 1) := by decide +kernel
theorem dK_bitOfSpot_28 : decode prog_3_method_7_code 28 = .ok (.invokestatic 101, 3) := by decide +kernel
theorem dK_bitOfSpot_31 : decode prog_3_method_7_code 31 = .ok (.goto 16, 3) := by decide +kernel
theorem dK_bitOfSpot_34 : decode prog_3_method_7_code 34 = .ok (.iload_n 3, 1) := by decide +kernel
theorem dK_bitOfSpot_35 : decode prog_3_method_7_code 35 = .ok (.aload_n 0, 1) := by decide +kernel
theorem dK_bitOfSpot_36 : decode prog_3_method_7_code 36 = .ok (.iconst 2, 1) := by decide +kernel
theorem dK_bitOfSpot_37 : decode prog_3_method_7_code 37 = .ok (.iload_n 1, 1) := by decide +kernel
theorem dK_bitOfSpot_38 : decode prog_3_method_7_code 38 = .ok (.imul, 1) := by decide +kernel
theorem dK_bitOfSpot_39 : decode prog_3_method_7_code 39 = .ok (.iconst 1, 1) := by decide +kernel
theorem dK_bitOfSpot_40 : decode prog_3_method_7_code 40 = .ok (.iadd, 1) := by decide +kernel
theorem dK_bitOfSpot_41 : decode prog_3_method_7_code 41 = .ok (.invokevirtual 98, 3) := by decide +kernel
theorem dK_bitOfSpot_44 : decode prog_3_method_7_code 44 = .ok (.invokestatic 104, 3) := by decide +kernel
theorem dK_bitOfSpot_47 : decode prog_3_method_7_code 47 = .ok (.ireturn, 1) := by decide +kernel
theorem dK_thingAt_0 : decode prog_3_method_8_code 0 = .ok (.aload_n 0, 1) := by decide +kernel
theorem dK_thingAt_1 : decode prog_3_method_8_code 1 = .ok (.getfield 33, 3) := by decide +kernel
theorem dK_thingAt_4 : decode prog_3_method_8_code 4 = .ok (.iload_n 1, 1) := by decide +kernel
theorem dK_thingAt_5 : decode prog_3_method_8_code 5 = .ok (.iaload, 1) := by decide +kernel
theorem dK_thingAt_6 : decode prog_3_method_8_code 6 = .ok (.istore_n 2, 1) := by decide +kernel
theorem dK_thingAt_7 : decode prog_3_method_8_code 7 = .ok (.iload_n 2, 1) := by decide +kernel
theorem dK_thingAt_8 : decode prog_3_method_8_code 8 = .ok (.iconst (-1), 1) := by decide +kernel
theorem dK_thingAt_9 : decode prog_3_method_8_code 9 = .ok (.if_icmp .ne 7, 3) := by decide +kernel
theorem dK_thingAt_12 : decode prog_3_method_8_code 12 = .ok (.iconst 0, 1) := by decide +kernel
theorem dK_thingAt_13 : decode prog_3_method_8_code 13 = .ok (.goto 9, 3) := by decide +kernel
theorem dK_thingAt_16 : decode prog_3_method_8_code 16 = .ok (.aload_n 0, 1) := by decide +kernel
theorem dK_thingAt_17 : decode prog_3_method_8_code 17 = .ok (.getfield 36, 3) := by decide +kernel
theorem dK_thingAt_20 : decode prog_3_method_8_code 20 = .ok (.iload_n 2, 1) := by decide +kernel
theorem dK_thingAt_21 : decode prog_3_method_8_code 21 = .ok (.iaload, 1) := by decide +kernel
theorem dK_thingAt_22 : decode prog_3_method_8_code 22 = .ok (.ireturn, 1) := by decide +kernel
theorem dK_areCutsFalse_0 : decode prog_3_method_9_code 0 = .ok (.aload_n 0, 1) := by decide +kernel
theorem dK_areCutsFalse_1 : decode prog_3_method_9_code 1 = .ok (.getfield 23, 3) := by decide +kernel
theorem dK_areCutsFalse_4 : decode prog_3_method_9_code 4 = .ok (.getfield 79, 3) := by decide +kernel
theorem dK_areCutsFalse_7 : decode prog_3_method_9_code 7 = .ok (.iload_n 1, 1) := by decide +kernel
theorem dK_areCutsFalse_8 : decode prog_3_method_9_code 8 = .ok (.iaload, 1) := by decide +kernel
theorem dK_areCutsFalse_9 : decode prog_3_method_9_code 9 = .ok (.istore_n 3, 1) := by decide +kernel
theorem dK_areCutsFalse_10 : decode prog_3_method_9_code 10 = .ok (.iload_n 3, 1) := by decide +kernel
theorem dK_areCutsFalse_11 : decode prog_3_method_9_code 11 = .ok (.aload_n 0, 1) := by decide +kernel
theorem dK_areCutsFalse_12 : decode prog_3_method_9_code 12 = .ok (.getfield 23, 3) := by decide +kernel
theorem dK_areCutsFalse_15 : decode prog_3_method_9_code 15 = .ok (.getfield 79, 3) := by decide +kernel
theorem dK_areCutsFalse_18 : decode prog_3_method_9_code 18 = .ok (.iload_n 1, 1) := by decide +kernel
theorem dK_areCutsFalse_19 : decode prog_3_method_9_code 19 = .ok (.iconst 1, 1) := by decide +kernel
theorem dK_areCutsFalse_20 : decode prog_3_method_9_code 20 = .ok (.iadd, 1) := by decide +kernel
theorem dK_areCutsFalse_21 : decode prog_3_method_9_code 21 = .ok (.iaload, 1) := by decide +kernel
theorem dK_areCutsFalse_22 : decode prog_3_method_9_code 22 = .ok (.if_icmp .ge 30, 3) := by decide +kernel
theorem dK_areCutsFalse_25 : decode prog_3_method_9_code 25 = .ok (.aload_n 0, 1) := by decide +kernel
theorem dK_areCutsFalse_26 : decode prog_3_method_9_code 26 = .ok (.aload_n 0, 1) := by decide +kernel
theorem dK_areCutsFalse_27 : decode prog_3_method_9_code 27 = .ok (.getfield 23, 3) := by decide +kernel
theorem dK_areCutsFalse_30 : decode prog_3_method_9_code 30 = .ok (.getfield 82, 3) := by decide +kernel
theorem dK_areCutsFalse_33 : decode prog_3_method_9_code 33 = .ok (.iload_n 3, 1) := by decide +kernel
theorem dK_areCutsFalse_34 : decode prog_3_method_9_code 34 = .ok (.iaload, 1) := by decide +kernel
theorem dK_areCutsFalse_35 : decode prog_3_method_9_code 35 = .ok (.iload_n 2, 1) := by decide +kernel
theorem dK_areCutsFalse_36 : decode prog_3_method_9_code 36 = .ok (.iconst 1, 1) := by decide +kernel
theorem dK_areCutsFalse_37 : decode prog_3_method_9_code 37 = .ok (.iadd, 1) := by decide +kernel
theorem dK_areCutsFalse_38 : decode prog_3_method_9_code 38 = .ok (.invokevirtual 75, 3) := by decide +kernel
theorem dK_areCutsFalse_41 : decode prog_3_method_9_code 41 = .ok (.ifCond .eq 5, 3) := by decide +kernel
theorem dK_areCutsFalse_44 : decode prog_3_method_9_code 44 = .ok (.iconst 0, 1) := by decide +kernel
theorem dK_areCutsFalse_45 : decode prog_3_method_9_code 45 = .ok (.ireturn, 1) := by decide +kernel
theorem dK_areCutsFalse_46 : decode prog_3_method_9_code 46 = .ok (.iinc 3 1, 3) := by decide +kernel
theorem dK_areCutsFalse_49 : decode prog_3_method_9_code 49 = .ok (.goto (-39), 3) := by decide +kernel
theorem dK_areCutsFalse_52 : decode prog_3_method_9_code 52 = .ok (.iconst 1, 1) := by decide +kernel
theorem dK_areCutsFalse_53 : decode prog_3_method_9_code 53 = .ok (.ireturn, 1) := by decide +kernel
end
section
/-! printed by wip/whole/gen_names.py: decode rows -/
theorem dL_cut_0 : decode method_3_code 0 = .ok (.aload_n 2, 1) := by decide +kernel
theorem dL_cut_1 : decode method_3_code 1 = .ok (.iconst 0, 1) := by decide +kernel
theorem dL_cut_2 : decode method_3_code 2 = .ok (.aload_n 0, 1) := by decide +kernel
theorem dL_cut_3 : decode method_3_code 3 = .ok (.iload_n 1, 1) := by decide +kernel
theorem dL_cut_4 : decode method_3_code 4 = .ok (.invokevirtual 7, 3) := by decide +kernel
theorem dL_cut_7 : decode method_3_code 7 = .ok (.i2l, 1) := by decide +kernel
theorem dL_cut_8 : decode method_3_code 8 = .ok (.lastore, 1) := by decide +kernel
theorem dL_cut_9 : decode method_3_code 9 = .ok (.goto 12, 3) := by decide +kernel
theorem dL_cut_12 : decode method_3_code 12 = .ok (.astore_n 3, 1) := by decide +kernel
theorem dL_cut_13 : decode method_3_code 13 = .ok (.iconst 1, 1) := by decide +kernel
theorem dL_cut_14 : decode method_3_code 14 = .ok (.ireturn, 1) := by decide +kernel
theorem dL_cut_15 : decode method_3_code 15 = .ok (.astore_n 3, 1) := by decide +kernel
theorem dL_cut_16 : decode method_3_code 16 = .ok (.iconst 2, 1) := by decide +kernel
theorem dL_cut_17 : decode method_3_code 17 = .ok (.ireturn, 1) := by decide +kernel
theorem dL_cut_18 : decode method_3_code 18 = .ok (.astore_n 3, 1) := by decide +kernel
theorem dL_cut_19 : decode method_3_code 19 = .ok (.iconst 3, 1) := by decide +kernel
theorem dL_cut_20 : decode method_3_code 20 = .ok (.ireturn, 1) := by decide +kernel
theorem dL_cut_21 : decode method_3_code 21 = .ok (.iconst 0, 1) := by decide +kernel
theorem dL_cut_22 : decode method_3_code 22 = .ok (.ireturn, 1) := by decide +kernel
theorem dL_line_0 : decode method_4_code 0 = .ok (.aload_n 2, 1) := by decide +kernel
theorem dL_line_1 : decode method_4_code 1 = .ok (.iconst 0, 1) := by decide +kernel
theorem dL_line_2 : decode method_4_code 2 = .ok (.aload_n 0, 1) := by decide +kernel
theorem dL_line_3 : decode method_4_code 3 = .ok (.iload_n 1, 1) := by decide +kernel
theorem dL_line_4 : decode method_4_code 4 = .ok (.invokevirtual 19, 3) := by decide +kernel
theorem dL_line_7 : decode method_4_code 7 = .ok (.i2l, 1) := by decide +kernel
theorem dL_line_8 : decode method_4_code 8 = .ok (.lastore, 1) := by decide +kernel
theorem dL_line_9 : decode method_4_code 9 = .ok (.goto 12, 3) := by decide +kernel
theorem dL_line_12 : decode method_4_code 12 = .ok (.astore_n 3, 1) := by decide +kernel
theorem dL_line_13 : decode method_4_code 13 = .ok (.iconst 1, 1) := by decide +kernel
theorem dL_line_14 : decode method_4_code 14 = .ok (.ireturn, 1) := by decide +kernel
theorem dL_line_15 : decode method_4_code 15 = .ok (.astore_n 3, 1) := by decide +kernel
theorem dL_line_16 : decode method_4_code 16 = .ok (.iconst 2, 1) := by decide +kernel
theorem dL_line_17 : decode method_4_code 17 = .ok (.ireturn, 1) := by decide +kernel
theorem dL_line_18 : decode method_4_code 18 = .ok (.astore_n 3, 1) := by decide +kernel
theorem dL_line_19 : decode method_4_code 19 = .ok (.iconst 3, 1) := by decide +kernel
theorem dL_line_20 : decode method_4_code 20 = .ok (.ireturn, 1) := by decide +kernel
theorem dL_line_21 : decode method_4_code 21 = .ok (.iconst 0, 1) := by decide +kernel
theorem dL_line_22 : decode method_4_code 22 = .ok (.ireturn, 1) := by decide +kernel
theorem dL_spot_0 : decode method_5_code 0 = .ok (.aload 5, 2) := by decide +kernel
theorem dL_spot_2 : decode method_5_code 2 = .ok (.iconst 0, 1) := by decide +kernel
theorem dL_spot_3 : decode method_5_code 3 = .ok (.aload_n 0, 1) := by decide +kernel
theorem dL_spot_4 : decode method_5_code 4 = .ok (.iload_n 1, 1) := by decide +kernel
theorem dL_spot_5 : decode method_5_code 5 = .ok (.iload_n 2, 1) := by decide +kernel
theorem dL_spot_6 : decode method_5_code 6 = .ok (.iload_n 3, 1) := by decide +kernel
theorem dL_spot_7 : decode method_5_code 7 = .ok (.iload 4, 2) := by decide +kernel
theorem dL_spot_9 : decode method_5_code 9 = .ok (.invokevirtual 22, 3) := by decide +kernel
theorem dL_spot_12 : decode method_5_code 12 = .ok (.i2l, 1) := by decide +kernel
theorem dL_spot_13 : decode method_5_code 13 = .ok (.lastore, 1) := by decide +kernel
theorem dL_spot_14 : decode method_5_code 14 = .ok (.goto 15, 3) := by decide +kernel
theorem dL_spot_17 : decode method_5_code 17 = .ok (.astore 6, 2) := by decide +kernel
theorem dL_spot_19 : decode method_5_code 19 = .ok (.iconst 1, 1) := by decide +kernel
theorem dL_spot_20 : decode method_5_code 20 = .ok (.ireturn, 1) := by decide +kernel
theorem dL_spot_21 : decode method_5_code 21 = .ok (.astore 6, 2) := by decide +kernel
theorem dL_spot_23 : decode method_5_code 23 = .ok (.iconst 2, 1) := by decide +kernel
theorem dL_spot_24 : decode method_5_code 24 = .ok (.ireturn, 1) := by decide +kernel
theorem dL_spot_25 : decode method_5_code 25 = .ok (.astore 6, 2) := by decide +kernel
theorem dL_spot_27 : decode method_5_code 27 = .ok (.iconst 3, 1) := by decide +kernel
theorem dL_spot_28 : decode method_5_code 28 = .ok (.ireturn, 1) := by decide +kernel
theorem dL_spot_29 : decode method_5_code 29 = .ok (.iconst 0, 1) := by decide +kernel
theorem dL_spot_30 : decode method_5_code 30 = .ok (.ireturn, 1) := by decide +kernel
theorem dL_start_0 : decode method_6_code 0 = .ok (.aload_n 0, 1) := by decide +kernel
theorem dL_start_1 : decode method_6_code 1 = .ok (.invokevirtual 26, 3) := by decide +kernel
theorem dL_start_4 : decode method_6_code 4 = .ok (.goto 6, 3) := by decide +kernel
theorem dL_start_7 : decode method_6_code 7 = .ok (.astore_n 1, 1) := by decide +kernel
theorem dL_start_8 : decode method_6_code 8 = .ok (.iconst 1, 1) := by decide +kernel
theorem dL_start_9 : decode method_6_code 9 = .ok (.ireturn, 1) := by decide +kernel
theorem dL_start_10 : decode method_6_code 10 = .ok (.iconst 0, 1) := by decide +kernel
theorem dL_start_11 : decode method_6_code 11 = .ok (.ireturn, 1) := by decide +kernel
theorem dL_erase_0 : decode method_7_code 0 = .ok (.aload_n 3, 1) := by decide +kernel
theorem dL_erase_1 : decode method_7_code 1 = .ok (.iconst 0, 1) := by decide +kernel
theorem dL_erase_2 : decode method_7_code 2 = .ok (.aload_n 0, 1) := by decide +kernel
theorem dL_erase_3 : decode method_7_code 3 = .ok (.iload_n 1, 1) := by decide +kernel
theorem dL_erase_4 : decode method_7_code 4 = .ok (.iload_n 2, 1) := by decide +kernel
theorem dL_erase_5 : decode method_7_code 5 = .ok (.invokevirtual 29, 3) := by decide +kernel
theorem dL_erase_8 : decode method_7_code 8 = .ok (.i2l, 1) := by decide +kernel
theorem dL_erase_9 : decode method_7_code 9 = .ok (.lastore, 1) := by decide +kernel
theorem dL_erase_10 : decode method_7_code 10 = .ok (.goto 15, 3) := by decide +kernel
theorem dL_erase_13 : decode method_7_code 13 = .ok (.astore 4, 2) := by decide +kernel
theorem dL_erase_15 : decode method_7_code 15 = .ok (.iconst 1, 1) := by decide +kernel
theorem dL_erase_16 : decode method_7_code 16 = .ok (.ireturn, 1) := by decide +kernel
theorem dL_erase_17 : decode method_7_code 17 = .ok (.astore 4, 2) := by decide +kernel
theorem dL_erase_19 : decode method_7_code 19 = .ok (.iconst 2, 1) := by decide +kernel
theorem dL_erase_20 : decode method_7_code 20 = .ok (.ireturn, 1) := by decide +kernel
theorem dL_erase_21 : decode method_7_code 21 = .ok (.astore 4, 2) := by decide +kernel
theorem dL_erase_23 : decode method_7_code 23 = .ok (.iconst 3, 1) := by decide +kernel
theorem dL_erase_24 : decode method_7_code 24 = .ok (.ireturn, 1) := by decide +kernel
theorem dL_erase_25 : decode method_7_code 25 = .ok (.iconst 0, 1) := by decide +kernel
theorem dL_erase_26 : decode method_7_code 26 = .ok (.ireturn, 1) := by decide +kernel
theorem dL_copy_0 : decode method_8_code 0 = .ok (.aload 4, 2) := by decide +kernel
theorem dL_copy_2 : decode method_8_code 2 = .ok (.iconst 0, 1) := by decide +kernel
theorem dL_copy_3 : decode method_8_code 3 = .ok (.aload_n 0, 1) := by decide +kernel
theorem dL_copy_4 : decode method_8_code 4 = .ok (.iload_n 1, 1) := by decide +kernel
theorem dL_copy_5 : decode method_8_code 5 = .ok (.iload_n 2, 1) := by decide +kernel
theorem dL_copy_6 : decode method_8_code 6 = .ok (.iload_n 3, 1) := by decide +kernel
theorem dL_copy_7 : decode method_8_code 7 = .ok (.invokevirtual 33, 3) := by decide +kernel
theorem dL_copy_10 : decode method_8_code 10 = .ok (.i2l, 1) := by decide +kernel
theorem dL_copy_11 : decode method_8_code 11 = .ok (.lastore, 1) := by decide +kernel
theorem dL_copy_12 : decode method_8_code 12 = .ok (.goto 15, 3) := by decide +kernel
theorem dL_copy_15 : decode method_8_code 15 = .ok (.astore 5, 2) := by decide +kernel
theorem dL_copy_17 : decode method_8_code 17 = .ok (.iconst 1, 1) := by decide +kernel
theorem dL_copy_18 : decode method_8_code 18 = .ok (.ireturn, 1) := by decide +kernel
theorem dL_copy_19 : decode method_8_code 19 = .ok (.astore 5, 2) := by decide +kernel
theorem dL_copy_21 : decode method_8_code 21 = .ok (.iconst 2, 1) := by decide +kernel
theorem dL_copy_22 : decode method_8_code 22 = .ok (.ireturn, 1) := by decide +kernel
theorem dL_copy_23 : decode method_8_code 23 = .ok (.astore 5, 2) := by decide +kernel
theorem dL_copy_25 : decode method_8_code 25 = .ok (.iconst 3, 1) := by decide +kernel
theorem dL_copy_26 : decode method_8_code 26 = .ok (.ireturn, 1) := by decide +kernel
theorem dL_copy_27 : decode method_8_code 27 = .ok (.iconst 0, 1) := by decide +kernel
theorem dL_copy_28 : decode method_8_code 28 = .ok (.ireturn, 1) := by decide +kernel
theorem dL_uncopy_0 : decode method_9_code 0 = .ok (.aload_n 3, 1) := by decide +kernel
theorem dL_uncopy_1 : decode method_9_code 1 = .ok (.iconst 0, 1) := by decide +kernel
theorem dL_uncopy_2 : decode method_9_code 2 = .ok (.aload_n 0, 1) := by decide +kernel
theorem dL_uncopy_3 : decode method_9_code 3 = .ok (.iload_n 1, 1) := by decide +kernel
theorem dL_uncopy_4 : decode method_9_code 4 = .ok (.iload_n 2, 1) := by decide +kernel
theorem dL_uncopy_5 : decode method_9_code 5 = .ok (.invokevirtual 37, 3) := by decide +kernel
theorem dL_uncopy_8 : decode method_9_code 8 = .ok (.i2l, 1) := by decide +kernel
theorem dL_uncopy_9 : decode method_9_code 9 = .ok (.lastore, 1) := by decide +kernel
theorem dL_uncopy_10 : decode method_9_code 10 = .ok (.goto 15, 3) := by decide +kernel
theorem dL_uncopy_13 : decode method_9_code 13 = .ok (.astore 4, 2) := by decide +kernel
theorem dL_uncopy_15 : decode method_9_code 15 = .ok (.iconst 1, 1) := by decide +kernel
theorem dL_uncopy_16 : decode method_9_code 16 = .ok (.ireturn, 1) := by decide +kernel
theorem dL_uncopy_17 : decode method_9_code 17 = .ok (.astore 4, 2) := by decide +kernel
theorem dL_uncopy_19 : decode method_9_code 19 = .ok (.iconst 2, 1) := by decide +kernel
theorem dL_uncopy_20 : decode method_9_code 20 = .ok (.ireturn, 1) := by decide +kernel
theorem dL_uncopy_21 : decode method_9_code 21 = .ok (.astore 4, 2) := by decide +kernel
theorem dL_uncopy_23 : decode method_9_code 23 = .ok (.iconst 3, 1) := by decide +kernel
theorem dL_uncopy_24 : decode method_9_code 24 = .ok (.ireturn, 1) := by decide +kernel
theorem dL_uncopy_25 : decode method_9_code 25 = .ok (.iconst 0, 1) := by decide +kernel
theorem dL_uncopy_26 : decode method_9_code 26 = .ok (.ireturn, 1) := by decide +kernel
theorem dL_wrap_0 : decode method_10_code 0 = .ok (.aload_n 3, 1) := by decide +kernel
theorem dL_wrap_1 : decode method_10_code 1 = .ok (.iconst 0, 1) := by decide +kernel
theorem dL_wrap_2 : decode method_10_code 2 = .ok (.aload_n 0, 1) := by decide +kernel
theorem dL_wrap_3 : decode method_10_code 3 = .ok (.iload_n 1, 1) := by decide +kernel
theorem dL_wrap_4 : decode method_10_code 4 = .ok (.iload_n 2, 1) := by decide +kernel
theorem dL_wrap_5 : decode method_10_code 5 = .ok (.invokevirtual 40, 3) := by decide +kernel
theorem dL_wrap_8 : decode method_10_code 8 = .ok (.i2l, 1) := by decide +kernel
theorem dL_wrap_9 : decode method_10_code 9 = .ok (.lastore, 1) := by decide +kernel
theorem dL_wrap_10 : decode method_10_code 10 = .ok (.goto 15, 3) := by decide +kernel
theorem dL_wrap_13 : decode method_10_code 13 = .ok (.astore 4, 2) := by decide +kernel
theorem dL_wrap_15 : decode method_10_code 15 = .ok (.iconst 1, 1) := by decide +kernel
theorem dL_wrap_16 : decode method_10_code 16 = .ok (.ireturn, 1) := by decide +kernel
theorem dL_wrap_17 : decode method_10_code 17 = .ok (.astore 4, 2) := by decide +kernel
theorem dL_wrap_19 : decode method_10_code 19 = .ok (.iconst 2, 1) := by decide +kernel
theorem dL_wrap_20 : decode method_10_code 20 = .ok (.ireturn, 1) := by decide +kernel
theorem dL_wrap_21 : decode method_10_code 21 = .ok (.astore 4, 2) := by decide +kernel
theorem dL_wrap_23 : decode method_10_code 23 = .ok (.iconst 3, 1) := by decide +kernel
theorem dL_wrap_24 : decode method_10_code 24 = .ok (.ireturn, 1) := by decide +kernel
theorem dL_wrap_25 : decode method_10_code 25 = .ok (.iconst 0, 1) := by decide +kernel
theorem dL_wrap_26 : decode method_10_code 26 = .ok (.ireturn, 1) := by decide +kernel
theorem dL_unwrap_0 : decode method_11_code 0 = .ok (.aload_n 2, 1) := by decide +kernel
theorem dL_unwrap_1 : decode method_11_code 1 = .ok (.iconst 0, 1) := by decide +kernel
theorem dL_unwrap_2 : decode method_11_code 2 = .ok (.aload_n 0, 1) := by decide +kernel
theorem dL_unwrap_3 : decode method_11_code 3 = .ok (.iload_n 1, 1) := by decide +kernel
theorem dL_unwrap_4 : decode method_11_code 4 = .ok (.invokevirtual 43, 3) := by decide +kernel
theorem dL_unwrap_7 : decode method_11_code 7 = .ok (.i2l, 1) := by decide +kernel
theorem dL_unwrap_8 : decode method_11_code 8 = .ok (.lastore, 1) := by decide +kernel
theorem dL_unwrap_9 : decode method_11_code 9 = .ok (.goto 12, 3) := by decide +kernel
theorem dL_unwrap_12 : decode method_11_code 12 = .ok (.astore_n 3, 1) := by decide +kernel
theorem dL_unwrap_13 : decode method_11_code 13 = .ok (.iconst 1, 1) := by decide +kernel
theorem dL_unwrap_14 : decode method_11_code 14 = .ok (.ireturn, 1) := by decide +kernel
theorem dL_unwrap_15 : decode method_11_code 15 = .ok (.astore_n 3, 1) := by decide +kernel
theorem dL_unwrap_16 : decode method_11_code 16 = .ok (.iconst 2, 1) := by decide +kernel
theorem dL_unwrap_17 : decode method_11_code 17 = .ok (.ireturn, 1) := by decide +kernel
theorem dL_unwrap_18 : decode method_11_code 18 = .ok (.astore_n 3, 1) := by decide +kernel
theorem dL_unwrap_19 : decode method_11_code 19 = .ok (.iconst 3, 1) := by decide +kernel
theorem dL_unwrap_20 : decode method_11_code 20 = .ok (.ireturn, 1) := by decide +kernel
theorem dL_unwrap_21 : decode method_11_code 21 = .ok (.iconst 0, 1) := by decide +kernel
theorem dL_unwrap_22 : decode method_11_code 22 = .ok (.ireturn, 1) := by decide +kernel
theorem dL_join_0 : decode method_12_code 0 = .ok (.aload_n 3, 1) := by decide +kernel
theorem dL_join_1 : decode method_12_code 1 = .ok (.iconst 0, 1) := by decide +kernel
theorem dL_join_2 : decode method_12_code 2 = .ok (.aload_n 0, 1) := by decide +kernel
theorem dL_join_3 : decode method_12_code 3 = .ok (.iload_n 1, 1) := by decide +kernel
theorem dL_join_4 : decode method_12_code 4 = .ok (.iload_n 2, 1) := by decide +kernel
theorem dL_join_5 : decode method_12_code 5 = .ok (.invokevirtual 46, 3) := by decide +kernel
theorem dL_join_8 : decode method_12_code 8 = .ok (.i2l, 1) := by decide +kernel
theorem dL_join_9 : decode method_12_code 9 = .ok (.lastore, 1) := by decide +kernel
theorem dL_join_10 : decode method_12_code 10 = .ok (.goto 15, 3) := by decide +kernel
theorem dL_join_13 : decode method_12_code 13 = .ok (.astore 4, 2) := by decide +kernel
theorem dL_join_15 : decode method_12_code 15 = .ok (.iconst 1, 1) := by decide +kernel
theorem dL_join_16 : decode method_12_code 16 = .ok (.ireturn, 1) := by decide +kernel
theorem dL_join_17 : decode method_12_code 17 = .ok (.astore 4, 2) := by decide +kernel
theorem dL_join_19 : decode method_12_code 19 = .ok (.iconst 2, 1) := by decide +kernel
theorem dL_join_20 : decode method_12_code 20 = .ok (.ireturn, 1) := by decide +kernel
theorem dL_join_21 : decode method_12_code 21 = .ok (.astore 4, 2) := by decide +kernel
theorem dL_join_23 : decode method_12_code 23 = .ok (.iconst 3, 1) := by decide +kernel
theorem dL_join_24 : decode method_12_code 24 = .ok (.ireturn, 1) := by decide +kernel
theorem dL_join_25 : decode method_12_code 25 = .ok (.iconst 0, 1) := by decide +kernel
theorem dL_join_26 : decode method_12_code 26 = .ok (.ireturn, 1) := by decide +kernel
theorem dL_sever_0 : decode method_13_code 0 = .ok (.aload_n 3, 1) := by decide +kernel
theorem dL_sever_1 : decode method_13_code 1 = .ok (.iconst 0, 1) := by decide +kernel
theorem dL_sever_2 : decode method_13_code 2 = .ok (.aload_n 0, 1) := by decide +kernel
theorem dL_sever_3 : decode method_13_code 3 = .ok (.iload_n 1, 1) := by decide +kernel
theorem dL_sever_4 : decode method_13_code 4 = .ok (.iload_n 2, 1) := by decide +kernel
theorem dL_sever_5 : decode method_13_code 5 = .ok (.invokevirtual 49, 3) := by decide +kernel
theorem dL_sever_8 : decode method_13_code 8 = .ok (.i2l, 1) := by decide +kernel
theorem dL_sever_9 : decode method_13_code 9 = .ok (.lastore, 1) := by decide +kernel
theorem dL_sever_10 : decode method_13_code 10 = .ok (.goto 15, 3) := by decide +kernel
theorem dL_sever_13 : decode method_13_code 13 = .ok (.astore 4, 2) := by decide +kernel
theorem dL_sever_15 : decode method_13_code 15 = .ok (.iconst 1, 1) := by decide +kernel
theorem dL_sever_16 : decode method_13_code 16 = .ok (.ireturn, 1) := by decide +kernel
theorem dL_sever_17 : decode method_13_code 17 = .ok (.astore 4, 2) := by decide +kernel
theorem dL_sever_19 : decode method_13_code 19 = .ok (.iconst 2, 1) := by decide +kernel
theorem dL_sever_20 : decode method_13_code 20 = .ok (.ireturn, 1) := by decide +kernel
theorem dL_sever_21 : decode method_13_code 21 = .ok (.astore 4, 2) := by decide +kernel
theorem dL_sever_23 : decode method_13_code 23 = .ok (.iconst 3, 1) := by decide +kernel
theorem dL_sever_24 : decode method_13_code 24 = .ok (.ireturn, 1) := by decide +kernel
theorem dL_sever_25 : decode method_13_code 25 = .ok (.iconst 0, 1) := by decide +kernel
theorem dL_sever_26 : decode method_13_code 26 = .ok (.ireturn, 1) := by decide +kernel
theorem dL_back_0 : decode method_14_code 0 = .ok (.aload_n 1, 1) := by decide +kernel
theorem dL_back_1 : decode method_14_code 1 = .ok (.iconst 0, 1) := by decide +kernel
theorem dL_back_2 : decode method_14_code 2 = .ok (.aload_n 0, 1) := by decide +kernel
theorem dL_back_3 : decode method_14_code 3 = .ok (.invokevirtual 52, 3) := by decide +kernel
theorem dL_back_6 : decode method_14_code 6 = .ok (.i2l, 1) := by decide +kernel
theorem dL_back_7 : decode method_14_code 7 = .ok (.lastore, 1) := by decide +kernel
theorem dL_back_8 : decode method_14_code 8 = .ok (.goto 6, 3) := by decide +kernel
theorem dL_back_11 : decode method_14_code 11 = .ok (.astore_n 2, 1) := by decide +kernel
theorem dL_back_12 : decode method_14_code 12 = .ok (.iconst 1, 1) := by decide +kernel
theorem dL_back_13 : decode method_14_code 13 = .ok (.ireturn, 1) := by decide +kernel
theorem dL_back_14 : decode method_14_code 14 = .ok (.iconst 0, 1) := by decide +kernel
theorem dL_back_15 : decode method_14_code 15 = .ok (.ireturn, 1) := by decide +kernel
theorem dL_depth_0 : decode method_15_code 0 = .ok (.aload_n 2, 1) := by decide +kernel
theorem dL_depth_1 : decode method_15_code 1 = .ok (.iconst 0, 1) := by decide +kernel
theorem dL_depth_2 : decode method_15_code 2 = .ok (.aload_n 0, 1) := by decide +kernel
theorem dL_depth_3 : decode method_15_code 3 = .ok (.iload_n 1, 1) := by decide +kernel
theorem dL_depth_4 : decode method_15_code 4 = .ok (.invokevirtual 56, 3) := by decide +kernel
theorem dL_depth_7 : decode method_15_code 7 = .ok (.i2l, 1) := by decide +kernel
theorem dL_depth_8 : decode method_15_code 8 = .ok (.lastore, 1) := by decide +kernel
theorem dL_depth_9 : decode method_15_code 9 = .ok (.goto 6, 3) := by decide +kernel
theorem dL_depth_12 : decode method_15_code 12 = .ok (.astore_n 3, 1) := by decide +kernel
theorem dL_depth_13 : decode method_15_code 13 = .ok (.iconst 1, 1) := by decide +kernel
theorem dL_depth_14 : decode method_15_code 14 = .ok (.ireturn, 1) := by decide +kernel
theorem dL_depth_15 : decode method_15_code 15 = .ok (.iconst 0, 1) := by decide +kernel
theorem dL_depth_16 : decode method_15_code 16 = .ok (.ireturn, 1) := by decide +kernel
theorem dL_read_0 : decode method_16_code 0 = .ok (.aload_n 2, 1) := by decide +kernel
theorem dL_read_1 : decode method_16_code 1 = .ok (.iconst 0, 1) := by decide +kernel
theorem dL_read_2 : decode method_16_code 2 = .ok (.aload_n 0, 1) := by decide +kernel
theorem dL_read_3 : decode method_16_code 3 = .ok (.iload_n 1, 1) := by decide +kernel
theorem dL_read_4 : decode method_16_code 4 = .ok (.invokevirtual 59, 3) := by decide +kernel
theorem dL_read_7 : decode method_16_code 7 = .ok (.i2l, 1) := by decide +kernel
theorem dL_read_8 : decode method_16_code 8 = .ok (.lastore, 1) := by decide +kernel
theorem dL_read_9 : decode method_16_code 9 = .ok (.goto 6, 3) := by decide +kernel
theorem dL_read_12 : decode method_16_code 12 = .ok (.astore_n 3, 1) := by decide +kernel
theorem dL_read_13 : decode method_16_code 13 = .ok (.iconst 1, 1) := by decide +kernel
theorem dL_read_14 : decode method_16_code 14 = .ok (.ireturn, 1) := by decide +kernel
theorem dL_read_15 : decode method_16_code 15 = .ok (.iconst 0, 1) := by decide +kernel
theorem dL_read_16 : decode method_16_code 16 = .ok (.ireturn, 1) := by decide +kernel
theorem dL_token_0 : decode method_17_code 0 = .ok (.aload_n 2, 1) := by decide +kernel
theorem dL_token_1 : decode method_17_code 1 = .ok (.iconst 0, 1) := by decide +kernel
theorem dL_token_2 : decode method_17_code 2 = .ok (.aload_n 0, 1) := by decide +kernel
theorem dL_token_3 : decode method_17_code 3 = .ok (.iload_n 1, 1) := by decide +kernel
theorem dL_token_4 : decode method_17_code 4 = .ok (.invokevirtual 62, 3) := by decide +kernel
theorem dL_token_7 : decode method_17_code 7 = .ok (.i2l, 1) := by decide +kernel
theorem dL_token_8 : decode method_17_code 8 = .ok (.lastore, 1) := by decide +kernel
theorem dL_token_9 : decode method_17_code 9 = .ok (.goto 6, 3) := by decide +kernel
theorem dL_token_12 : decode method_17_code 12 = .ok (.astore_n 3, 1) := by decide +kernel
theorem dL_token_13 : decode method_17_code 13 = .ok (.iconst 1, 1) := by decide +kernel
theorem dL_token_14 : decode method_17_code 14 = .ok (.ireturn, 1) := by decide +kernel
theorem dL_token_15 : decode method_17_code 15 = .ok (.iconst 0, 1) := by decide +kernel
theorem dL_token_16 : decode method_17_code 16 = .ok (.ireturn, 1) := by decide +kernel
theorem dL_holds_0 : decode method_18_code 0 = .ok (.aload 4, 2) := by decide +kernel
theorem dL_holds_2 : decode method_18_code 2 = .ok (.iconst 0, 1) := by decide +kernel
theorem dL_holds_3 : decode method_18_code 3 = .ok (.aload_n 0, 1) := by decide +kernel
theorem dL_holds_4 : decode method_18_code 4 = .ok (.iload_n 1, 1) := by decide +kernel
theorem dL_holds_5 : decode method_18_code 5 = .ok (.iload_n 2, 1) := by decide +kernel
theorem dL_holds_6 : decode method_18_code 6 = .ok (.iload_n 3, 1) := by decide +kernel
theorem dL_holds_7 : decode method_18_code 7 = .ok (.invokevirtual 67, 3) := by decide +kernel
theorem dL_holds_10 : decode method_18_code 10 = .ok (.ifCond .eq 7, 3) := by decide +kernel
theorem dL_holds_13 : decode method_18_code 13 = .ok (.lconst 1, 1) := by decide +kernel
theorem dL_holds_14 : decode method_18_code 14 = .ok (.goto 4, 3) := by decide +kernel
theorem dL_holds_17 : decode method_18_code 17 = .ok (.lconst 0, 1) := by decide +kernel
theorem dL_holds_18 : decode method_18_code 18 = .ok (.lastore, 1) := by decide +kernel
theorem dL_holds_19 : decode method_18_code 19 = .ok (.goto 11, 3) := by decide +kernel
theorem dL_holds_22 : decode method_18_code 22 = .ok (.astore 5, 2) := by decide +kernel
theorem dL_holds_24 : decode method_18_code 24 = .ok (.iconst 1, 1) := by decide +kernel
theorem dL_holds_25 : decode method_18_code 25 = .ok (.ireturn, 1) := by decide +kernel
theorem dL_holds_26 : decode method_18_code 26 = .ok (.astore 5, 2) := by decide +kernel
theorem dL_holds_28 : decode method_18_code 28 = .ok (.iconst 2, 1) := by decide +kernel
theorem dL_holds_29 : decode method_18_code 29 = .ok (.ireturn, 1) := by decide +kernel
theorem dL_holds_30 : decode method_18_code 30 = .ok (.iconst 0, 1) := by decide +kernel
theorem dL_holds_31 : decode method_18_code 31 = .ok (.ireturn, 1) := by decide +kernel
theorem dL_refutes_0 : decode method_19_code 0 = .ok (.aload_n 2, 1) := by decide +kernel
theorem dL_refutes_1 : decode method_19_code 1 = .ok (.iconst 0, 1) := by decide +kernel
theorem dL_refutes_2 : decode method_19_code 2 = .ok (.aload_n 0, 1) := by decide +kernel
theorem dL_refutes_3 : decode method_19_code 3 = .ok (.iload_n 1, 1) := by decide +kernel
theorem dL_refutes_4 : decode method_19_code 4 = .ok (.invokevirtual 71, 3) := by decide +kernel
theorem dL_refutes_7 : decode method_19_code 7 = .ok (.i2l, 1) := by decide +kernel
theorem dL_refutes_8 : decode method_19_code 8 = .ok (.lastore, 1) := by decide +kernel
theorem dL_refutes_9 : decode method_19_code 9 = .ok (.goto 9, 3) := by decide +kernel
theorem dL_refutes_12 : decode method_19_code 12 = .ok (.astore_n 3, 1) := by decide +kernel
theorem dL_refutes_13 : decode method_19_code 13 = .ok (.iconst 1, 1) := by decide +kernel
theorem dL_refutes_14 : decode method_19_code 14 = .ok (.ireturn, 1) := by decide +kernel
theorem dL_refutes_15 : decode method_19_code 15 = .ok (.astore_n 3, 1) := by decide +kernel
theorem dL_refutes_16 : decode method_19_code 16 = .ok (.iconst 2, 1) := by decide +kernel
theorem dL_refutes_17 : decode method_19_code 17 = .ok (.ireturn, 1) := by decide +kernel
theorem dL_refutes_18 : decode method_19_code 18 = .ok (.iconst 0, 1) := by decide +kernel
theorem dL_refutes_19 : decode method_19_code 19 = .ok (.ireturn, 1) := by decide +kernel
theorem dL_count_0 : decode method_20_code 0 = .ok (.aload_n 2, 1) := by decide +kernel
theorem dL_count_1 : decode method_20_code 1 = .ok (.iconst 0, 1) := by decide +kernel
theorem dL_count_2 : decode method_20_code 2 = .ok (.aload_n 0, 1) := by decide +kernel
theorem dL_count_3 : decode method_20_code 3 = .ok (.iload_n 1, 1) := by decide +kernel
theorem dL_count_4 : decode method_20_code 4 = .ok (.invokevirtual 74, 3) := by decide +kernel
theorem dL_count_7 : decode method_20_code 7 = .ok (.i2l, 1) := by decide +kernel
theorem dL_count_8 : decode method_20_code 8 = .ok (.lastore, 1) := by decide +kernel
theorem dL_count_9 : decode method_20_code 9 = .ok (.goto 6, 3) := by decide +kernel
theorem dL_count_12 : decode method_20_code 12 = .ok (.astore_n 3, 1) := by decide +kernel
theorem dL_count_13 : decode method_20_code 13 = .ok (.iconst 1, 1) := by decide +kernel
theorem dL_count_14 : decode method_20_code 14 = .ok (.ireturn, 1) := by decide +kernel
theorem dL_count_15 : decode method_20_code 15 = .ok (.iconst 0, 1) := by decide +kernel
theorem dL_count_16 : decode method_20_code 16 = .ok (.ireturn, 1) := by decide +kernel
theorem dL_law_0 : decode code 0 = .ok (.new 8, 3) := by decide +kernel
theorem dL_law_3 : decode code 3 = .ok (.dup, 1) := by decide +kernel
theorem dL_law_4 : decode code 4 = .ok (.invokespecial 77, 3) := by decide +kernel
theorem dL_law_7 : decode code 7 = .ok (.astore_n 1, 1) := by decide +kernel
theorem dL_law_8 : decode code 8 = .ok (.new 78, 3) := by decide +kernel
theorem dL_law_11 : decode code 11 = .ok (.dup, 1) := by decide +kernel
theorem dL_law_12 : decode code 12 = .ok (.invokespecial 80, 3) := by decide +kernel
theorem dL_law_15 : decode code 15 = .ok (.astore_n 2, 1) := by decide +kernel
theorem dL_law_16 : decode code 16 = .ok (.iconst 1, 1) := by decide +kernel
theorem dL_law_17 : decode code 17 = .ok (.newarray .long, 2) := by decide +kernel
theorem dL_law_19 : decode code 19 = .ok (.astore_n 3, 1) := by decide +kernel
theorem dL_law_20 : decode code 20 = .ok (.iconst 0, 1) := by decide +kernel
theorem dL_law_21 : decode code 21 = .ok (.istore 4, 2) := by decide +kernel
theorem dL_law_23 : decode code 23 = .ok (.iload 4, 2) := by decide +kernel
theorem dL_law_25 : decode code 25 = .ok (.aload_n 0, 1) := by decide +kernel
theorem dL_law_26 : decode code 26 = .ok (.arraylength, 1) := by decide +kernel
theorem dL_law_27 : decode code 27 = .ok (.iconst 5, 1) := by decide +kernel
theorem dL_law_28 : decode code 28 = .ok (.isub, 1) := by decide +kernel
theorem dL_law_29 : decode code 29 = .ok (.if_icmp .gt 1232, 3) := by decide +kernel
theorem dL_law_32 : decode code 32 = .ok (.aload_n 0, 1) := by decide +kernel
theorem dL_law_33 : decode code 33 = .ok (.iload 4, 2) := by decide +kernel
theorem dL_law_35 : decode code 35 = .ok (.iaload, 1) := by decide +kernel
theorem dL_law_36 : decode code 36 = .ok (.bipush 31, 2) := by decide +kernel
theorem dL_law_38 : decode code 38 = .ok (.iand, 1) := by decide +kernel
theorem dL_law_39 : decode code 39 = .ok (.tableswitch 1216 0 17 #[85, 141, 197, 289, 313, 381, 461, 529, 597, 653, 721, 789, 833, 889, 945, 1001, 1104, 1160], 85) := by decide +kernel
theorem dL_law_124 : decode code 124 = .ok (.aload_n 1, 1) := by decide +kernel
theorem dL_law_125 : decode code 125 = .ok (.aload_n 0, 1) := by decide +kernel
theorem dL_law_126 : decode code 126 = .ok (.iload 4, 2) := by decide +kernel
theorem dL_law_128 : decode code 128 = .ok (.iconst 1, 1) := by decide +kernel
theorem dL_law_129 : decode code 129 = .ok (.iadd, 1) := by decide +kernel
theorem dL_law_130 : decode code 130 = .ok (.iaload, 1) := by decide +kernel
theorem dL_law_131 : decode code 131 = .ok (.aload_n 3, 1) := by decide +kernel
theorem dL_law_132 : decode code 132 = .ok (.invokestatic 81, 3) := by decide +kernel
theorem dL_law_135 : decode code 135 = .ok (.istore 5, 2) := by decide +kernel
theorem dL_law_137 : decode code 137 = .ok (.aload_n 2, 1) := by decide +kernel
theorem dL_law_138 : decode code 138 = .ok (.aload_n 0, 1) := by decide +kernel
theorem dL_law_139 : decode code 139 = .ok (.iload 4, 2) := by decide +kernel
theorem dL_law_141 : decode code 141 = .ok (.iconst 1, 1) := by decide +kernel
theorem dL_law_142 : decode code 142 = .ok (.iadd, 1) := by decide +kernel
theorem dL_law_143 : decode code 143 = .ok (.iaload, 1) := by decide +kernel
theorem dL_law_144 : decode code 144 = .ok (.invokevirtual 86, 3) := by decide +kernel
theorem dL_law_147 : decode code 147 = .ok (.istore 6, 2) := by decide +kernel
theorem dL_law_149 : decode code 149 = .ok (.aload_n 2, 1) := by decide +kernel
theorem dL_law_150 : decode code 150 = .ok (.invokevirtual 87, 3) := by decide +kernel
theorem dL_law_153 : decode code 153 = .ok (.iload 5, 2) := by decide +kernel
theorem dL_law_155 : decode code 155 = .ok (.if_icmp .eq 5, 3) := by decide +kernel
theorem dL_law_158 : decode code 158 = .ok (.iconst 0, 1) := by decide +kernel
theorem dL_law_159 : decode code 159 = .ok (.ireturn, 1) := by decide +kernel
theorem dL_law_160 : decode code 160 = .ok (.iload 5, 2) := by decide +kernel
theorem dL_law_162 : decode code 162 = .ok (.ifCond .ne 15, 3) := by decide +kernel
theorem dL_law_165 : decode code 165 = .ok (.aload_n 3, 1) := by decide +kernel
theorem dL_law_166 : decode code 166 = .ok (.iconst 0, 1) := by decide +kernel
theorem dL_law_167 : decode code 167 = .ok (.laload, 1) := by decide +kernel
theorem dL_law_168 : decode code 168 = .ok (.iload 6, 2) := by decide +kernel
theorem dL_law_170 : decode code 170 = .ok (.i2l, 1) := by decide +kernel
theorem dL_law_171 : decode code 171 = .ok (.lcmp, 1) := by decide +kernel
theorem dL_law_172 : decode code 172 = .ok (.ifCond .eq 5, 3) := by decide +kernel
theorem dL_law_175 : decode code 175 = .ok (.iconst 0, 1) := by decide +kernel
theorem dL_law_176 : decode code 176 = .ok (.ireturn, 1) := by decide +kernel
theorem dL_law_177 : decode code 177 = .ok (.goto 1078, 3) := by decide +kernel
theorem dL_law_180 : decode code 180 = .ok (.aload_n 1, 1) := by decide +kernel
theorem dL_law_181 : decode code 181 = .ok (.aload_n 0, 1) := by decide +kernel
theorem dL_law_182 : decode code 182 = .ok (.iload 4, 2) := by decide +kernel
theorem dL_law_184 : decode code 184 = .ok (.iconst 1, 1) := by decide +kernel
theorem dL_law_185 : decode code 185 = .ok (.iadd, 1) := by decide +kernel
theorem dL_law_186 : decode code 186 = .ok (.iaload, 1) := by decide +kernel
theorem dL_law_187 : decode code 187 = .ok (.aload_n 3, 1) := by decide +kernel
theorem dL_law_188 : decode code 188 = .ok (.invokestatic 90, 3) := by decide +kernel
theorem dL_law_191 : decode code 191 = .ok (.istore 5, 2) := by decide +kernel
theorem dL_law_193 : decode code 193 = .ok (.aload_n 2, 1) := by decide +kernel
theorem dL_law_194 : decode code 194 = .ok (.aload_n 0, 1) := by decide +kernel
theorem dL_law_195 : decode code 195 = .ok (.iload 4, 2) := by decide +kernel
theorem dL_law_197 : decode code 197 = .ok (.iconst 1, 1) := by decide +kernel
theorem dL_law_198 : decode code 198 = .ok (.iadd, 1) := by decide +kernel
theorem dL_law_199 : decode code 199 = .ok (.iaload, 1) := by decide +kernel
theorem dL_law_200 : decode code 200 = .ok (.invokevirtual 92, 3) := by decide +kernel
theorem dL_law_203 : decode code 203 = .ok (.istore 6, 2) := by decide +kernel
theorem dL_law_205 : decode code 205 = .ok (.aload_n 2, 1) := by decide +kernel
theorem dL_law_206 : decode code 206 = .ok (.invokevirtual 87, 3) := by decide +kernel
theorem dL_law_209 : decode code 209 = .ok (.iload 5, 2) := by decide +kernel
theorem dL_law_211 : decode code 211 = .ok (.if_icmp .eq 5, 3) := by decide +kernel
theorem dL_law_214 : decode code 214 = .ok (.iconst 0, 1) := by decide +kernel
theorem dL_law_215 : decode code 215 = .ok (.ireturn, 1) := by decide +kernel
theorem dL_law_216 : decode code 216 = .ok (.iload 5, 2) := by decide +kernel
theorem dL_law_218 : decode code 218 = .ok (.ifCond .ne 15, 3) := by decide +kernel
theorem dL_law_221 : decode code 221 = .ok (.aload_n 3, 1) := by decide +kernel
theorem dL_law_222 : decode code 222 = .ok (.iconst 0, 1) := by decide +kernel
theorem dL_law_223 : decode code 223 = .ok (.laload, 1) := by decide +kernel
theorem dL_law_224 : decode code 224 = .ok (.iload 6, 2) := by decide +kernel
theorem dL_law_226 : decode code 226 = .ok (.i2l, 1) := by decide +kernel
theorem dL_law_227 : decode code 227 = .ok (.lcmp, 1) := by decide +kernel
theorem dL_law_228 : decode code 228 = .ok (.ifCond .eq 5, 3) := by decide +kernel
theorem dL_law_231 : decode code 231 = .ok (.iconst 0, 1) := by decide +kernel
theorem dL_law_232 : decode code 232 = .ok (.ireturn, 1) := by decide +kernel
theorem dL_law_233 : decode code 233 = .ok (.goto 1022, 3) := by decide +kernel
theorem dL_law_236 : decode code 236 = .ok (.aload_n 1, 1) := by decide +kernel
theorem dL_law_237 : decode code 237 = .ok (.aload_n 0, 1) := by decide +kernel
theorem dL_law_238 : decode code 238 = .ok (.iload 4, 2) := by decide +kernel
theorem dL_law_240 : decode code 240 = .ok (.iconst 1, 1) := by decide +kernel
theorem dL_law_241 : decode code 241 = .ok (.iadd, 1) := by decide +kernel
theorem dL_law_242 : decode code 242 = .ok (.iaload, 1) := by decide +kernel
theorem dL_law_243 : decode code 243 = .ok (.aload_n 0, 1) := by decide +kernel
theorem dL_law_244 : decode code 244 = .ok (.iload 4, 2) := by decide +kernel
theorem dL_law_246 : decode code 246 = .ok (.iconst 2, 1) := by decide +kernel
theorem dL_law_247 : decode code 247 = .ok (.iadd, 1) := by decide +kernel
theorem dL_law_248 : decode code 248 = .ok (.iaload, 1) := by decide +kernel
theorem dL_law_249 : decode code 249 = .ok (.aload_n 0, 1) := by decide +kernel
theorem dL_law_250 : decode code 250 = .ok (.iload 4, 2) := by decide +kernel
theorem dL_law_252 : decode code 252 = .ok (.iconst 3, 1) := by decide +kernel
theorem dL_law_253 : decode code 253 = .ok (.iadd, 1) := by decide +kernel
theorem dL_law_254 : decode code 254 = .ok (.iaload, 1) := by decide +kernel
theorem dL_law_255 : decode code 255 = .ok (.aload_n 0, 1) := by decide +kernel
theorem dL_law_256 : decode code 256 = .ok (.iload 4, 2) := by decide +kernel
theorem dL_law_258 : decode code 258 = .ok (.iconst 4, 1) := by decide +kernel
theorem dL_law_259 : decode code 259 = .ok (.iadd, 1) := by decide +kernel
theorem dL_law_260 : decode code 260 = .ok (.iaload, 1) := by decide +kernel
theorem dL_law_261 : decode code 261 = .ok (.aload_n 3, 1) := by decide +kernel
theorem dL_law_262 : decode code 262 = .ok (.invokestatic 93, 3) := by decide +kernel
theorem dL_law_265 : decode code 265 = .ok (.istore 5, 2) := by decide +kernel
theorem dL_law_267 : decode code 267 = .ok (.aload_n 2, 1) := by decide +kernel
theorem dL_law_268 : decode code 268 = .ok (.aload_n 0, 1) := by decide +kernel
theorem dL_law_269 : decode code 269 = .ok (.iload 4, 2) := by decide +kernel
theorem dL_law_271 : decode code 271 = .ok (.iconst 1, 1) := by decide +kernel
theorem dL_law_272 : decode code 272 = .ok (.iadd, 1) := by decide +kernel
theorem dL_law_273 : decode code 273 = .ok (.iaload, 1) := by decide +kernel
theorem dL_law_274 : decode code 274 = .ok (.aload_n 0, 1) := by decide +kernel
theorem dL_law_275 : decode code 275 = .ok (.iload 4, 2) := by decide +kernel
theorem dL_law_277 : decode code 277 = .ok (.iconst 2, 1) := by decide +kernel
theorem dL_law_278 : decode code 278 = .ok (.iadd, 1) := by decide +kernel
theorem dL_law_279 : decode code 279 = .ok (.iaload, 1) := by decide +kernel
theorem dL_law_280 : decode code 280 = .ok (.aload_n 0, 1) := by decide +kernel
theorem dL_law_281 : decode code 281 = .ok (.iload 4, 2) := by decide +kernel
theorem dL_law_283 : decode code 283 = .ok (.iconst 3, 1) := by decide +kernel
theorem dL_law_284 : decode code 284 = .ok (.iadd, 1) := by decide +kernel
theorem dL_law_285 : decode code 285 = .ok (.iaload, 1) := by decide +kernel
theorem dL_law_286 : decode code 286 = .ok (.aload_n 0, 1) := by decide +kernel
theorem dL_law_287 : decode code 287 = .ok (.iload 4, 2) := by decide +kernel
theorem dL_law_289 : decode code 289 = .ok (.iconst 4, 1) := by decide +kernel
theorem dL_law_290 : decode code 290 = .ok (.iadd, 1) := by decide +kernel
theorem dL_law_291 : decode code 291 = .ok (.iaload, 1) := by decide +kernel
theorem dL_law_292 : decode code 292 = .ok (.invokevirtual 96, 3) := by decide +kernel
theorem dL_law_295 : decode code 295 = .ok (.istore 6, 2) := by decide +kernel
theorem dL_law_297 : decode code 297 = .ok (.aload_n 2, 1) := by decide +kernel
theorem dL_law_298 : decode code 298 = .ok (.invokevirtual 87, 3) := by decide +kernel
theorem dL_law_301 : decode code 301 = .ok (.iload 5, 2) := by decide +kernel
theorem dL_law_303 : decode code 303 = .ok (.if_icmp .eq 5, 3) := by decide +kernel
theorem dL_law_306 : decode code 306 = .ok (.iconst 0, 1) := by decide +kernel
theorem dL_law_307 : decode code 307 = .ok (.ireturn, 1) := by decide +kernel
theorem dL_law_308 : decode code 308 = .ok (.iload 5, 2) := by decide +kernel
theorem dL_law_310 : decode code 310 = .ok (.ifCond .ne 15, 3) := by decide +kernel
theorem dL_law_313 : decode code 313 = .ok (.aload_n 3, 1) := by decide +kernel
theorem dL_law_314 : decode code 314 = .ok (.iconst 0, 1) := by decide +kernel
theorem dL_law_315 : decode code 315 = .ok (.laload, 1) := by decide +kernel
theorem dL_law_316 : decode code 316 = .ok (.iload 6, 2) := by decide +kernel
theorem dL_law_318 : decode code 318 = .ok (.i2l, 1) := by decide +kernel
theorem dL_law_319 : decode code 319 = .ok (.lcmp, 1) := by decide +kernel
theorem dL_law_320 : decode code 320 = .ok (.ifCond .eq 5, 3) := by decide +kernel
theorem dL_law_323 : decode code 323 = .ok (.iconst 0, 1) := by decide +kernel
theorem dL_law_324 : decode code 324 = .ok (.ireturn, 1) := by decide +kernel
theorem dL_law_325 : decode code 325 = .ok (.goto 930, 3) := by decide +kernel
theorem dL_law_328 : decode code 328 = .ok (.aload_n 1, 1) := by decide +kernel
theorem dL_law_329 : decode code 329 = .ok (.invokestatic 97, 3) := by decide +kernel
theorem dL_law_332 : decode code 332 = .ok (.istore 5, 2) := by decide +kernel
theorem dL_law_334 : decode code 334 = .ok (.aload_n 2, 1) := by decide +kernel
theorem dL_law_335 : decode code 335 = .ok (.invokevirtual 100, 3) := by decide +kernel
theorem dL_law_338 : decode code 338 = .ok (.aload_n 2, 1) := by decide +kernel
theorem dL_law_339 : decode code 339 = .ok (.invokevirtual 87, 3) := by decide +kernel
theorem dL_law_342 : decode code 342 = .ok (.iload 5, 2) := by decide +kernel
theorem dL_law_344 : decode code 344 = .ok (.if_icmp .eq 5, 3) := by decide +kernel
theorem dL_law_347 : decode code 347 = .ok (.iconst 0, 1) := by decide +kernel
theorem dL_law_348 : decode code 348 = .ok (.ireturn, 1) := by decide +kernel
theorem dL_law_349 : decode code 349 = .ok (.goto 906, 3) := by decide +kernel
theorem dL_law_352 : decode code 352 = .ok (.aload_n 1, 1) := by decide +kernel
theorem dL_law_353 : decode code 353 = .ok (.aload_n 0, 1) := by decide +kernel
theorem dL_law_354 : decode code 354 = .ok (.iload 4, 2) := by decide +kernel
theorem dL_law_356 : decode code 356 = .ok (.iconst 1, 1) := by decide +kernel
theorem dL_law_357 : decode code 357 = .ok (.iadd, 1) := by decide +kernel
theorem dL_law_358 : decode code 358 = .ok (.iaload, 1) := by decide +kernel
theorem dL_law_359 : decode code 359 = .ok (.aload_n 0, 1) := by decide +kernel
theorem dL_law_360 : decode code 360 = .ok (.iload 4, 2) := by decide +kernel
theorem dL_law_362 : decode code 362 = .ok (.iconst 2, 1) := by decide +kernel
theorem dL_law_363 : decode code 363 = .ok (.iadd, 1) := by decide +kernel
theorem dL_law_364 : decode code 364 = .ok (.iaload, 1) := by decide +kernel
theorem dL_law_365 : decode code 365 = .ok (.aload_n 3, 1) := by decide +kernel
theorem dL_law_366 : decode code 366 = .ok (.invokestatic 101, 3) := by decide +kernel
theorem dL_law_369 : decode code 369 = .ok (.istore 5, 2) := by decide +kernel
theorem dL_law_371 : decode code 371 = .ok (.aload_n 2, 1) := by decide +kernel
theorem dL_law_372 : decode code 372 = .ok (.aload_n 0, 1) := by decide +kernel
theorem dL_law_373 : decode code 373 = .ok (.iload 4, 2) := by decide +kernel
theorem dL_law_375 : decode code 375 = .ok (.iconst 1, 1) := by decide +kernel
theorem dL_law_376 : decode code 376 = .ok (.iadd, 1) := by decide +kernel
theorem dL_law_377 : decode code 377 = .ok (.iaload, 1) := by decide +kernel
theorem dL_law_378 : decode code 378 = .ok (.aload_n 0, 1) := by decide +kernel
theorem dL_law_379 : decode code 379 = .ok (.iload 4, 2) := by decide +kernel
theorem dL_law_381 : decode code 381 = .ok (.iconst 2, 1) := by decide +kernel
theorem dL_law_382 : decode code 382 = .ok (.iadd, 1) := by decide +kernel
theorem dL_law_383 : decode code 383 = .ok (.iaload, 1) := by decide +kernel
theorem dL_law_384 : decode code 384 = .ok (.invokevirtual 104, 3) := by decide +kernel
theorem dL_law_387 : decode code 387 = .ok (.istore 6, 2) := by decide +kernel
theorem dL_law_389 : decode code 389 = .ok (.aload_n 2, 1) := by decide +kernel
theorem dL_law_390 : decode code 390 = .ok (.invokevirtual 87, 3) := by decide +kernel
theorem dL_law_393 : decode code 393 = .ok (.iload 5, 2) := by decide +kernel
theorem dL_law_395 : decode code 395 = .ok (.if_icmp .eq 5, 3) := by decide +kernel
theorem dL_law_398 : decode code 398 = .ok (.iconst 0, 1) := by decide +kernel
theorem dL_law_399 : decode code 399 = .ok (.ireturn, 1) := by decide +kernel
theorem dL_law_400 : decode code 400 = .ok (.iload 5, 2) := by decide +kernel
theorem dL_law_402 : decode code 402 = .ok (.ifCond .ne 15, 3) := by decide +kernel
theorem dL_law_405 : decode code 405 = .ok (.aload_n 3, 1) := by decide +kernel
theorem dL_law_406 : decode code 406 = .ok (.iconst 0, 1) := by decide +kernel
theorem dL_law_407 : decode code 407 = .ok (.laload, 1) := by decide +kernel
theorem dL_law_408 : decode code 408 = .ok (.iload 6, 2) := by decide +kernel
theorem dL_law_410 : decode code 410 = .ok (.i2l, 1) := by decide +kernel
theorem dL_law_411 : decode code 411 = .ok (.lcmp, 1) := by decide +kernel
theorem dL_law_412 : decode code 412 = .ok (.ifCond .eq 5, 3) := by decide +kernel
theorem dL_law_415 : decode code 415 = .ok (.iconst 0, 1) := by decide +kernel
theorem dL_law_416 : decode code 416 = .ok (.ireturn, 1) := by decide +kernel
theorem dL_law_417 : decode code 417 = .ok (.goto 838, 3) := by decide +kernel
theorem dL_law_420 : decode code 420 = .ok (.aload_n 1, 1) := by decide +kernel
theorem dL_law_421 : decode code 421 = .ok (.aload_n 0, 1) := by decide +kernel
theorem dL_law_422 : decode code 422 = .ok (.iload 4, 2) := by decide +kernel
theorem dL_law_424 : decode code 424 = .ok (.iconst 1, 1) := by decide +kernel
theorem dL_law_425 : decode code 425 = .ok (.iadd, 1) := by decide +kernel
theorem dL_law_426 : decode code 426 = .ok (.iaload, 1) := by decide +kernel
theorem dL_law_427 : decode code 427 = .ok (.aload_n 0, 1) := by decide +kernel
theorem dL_law_428 : decode code 428 = .ok (.iload 4, 2) := by decide +kernel
theorem dL_law_430 : decode code 430 = .ok (.iconst 2, 1) := by decide +kernel
theorem dL_law_431 : decode code 431 = .ok (.iadd, 1) := by decide +kernel
theorem dL_law_432 : decode code 432 = .ok (.iaload, 1) := by decide +kernel
theorem dL_law_433 : decode code 433 = .ok (.aload_n 0, 1) := by decide +kernel
theorem dL_law_434 : decode code 434 = .ok (.iload 4, 2) := by decide +kernel
theorem dL_law_436 : decode code 436 = .ok (.iconst 3, 1) := by decide +kernel
theorem dL_law_437 : decode code 437 = .ok (.iadd, 1) := by decide +kernel
theorem dL_law_438 : decode code 438 = .ok (.iaload, 1) := by decide +kernel
theorem dL_law_439 : decode code 439 = .ok (.aload_n 3, 1) := by decide +kernel
theorem dL_law_440 : decode code 440 = .ok (.invokestatic 105, 3) := by decide +kernel
theorem dL_law_443 : decode code 443 = .ok (.istore 5, 2) := by decide +kernel
theorem dL_law_445 : decode code 445 = .ok (.aload_n 2, 1) := by decide +kernel
theorem dL_law_446 : decode code 446 = .ok (.aload_n 0, 1) := by decide +kernel
theorem dL_law_447 : decode code 447 = .ok (.iload 4, 2) := by decide +kernel
theorem dL_law_449 : decode code 449 = .ok (.iconst 1, 1) := by decide +kernel
theorem dL_law_450 : decode code 450 = .ok (.iadd, 1) := by decide +kernel
theorem dL_law_451 : decode code 451 = .ok (.iaload, 1) := by decide +kernel
theorem dL_law_452 : decode code 452 = .ok (.aload_n 0, 1) := by decide +kernel
theorem dL_law_453 : decode code 453 = .ok (.iload 4, 2) := by decide +kernel
theorem dL_law_455 : decode code 455 = .ok (.iconst 2, 1) := by decide +kernel
theorem dL_law_456 : decode code 456 = .ok (.iadd, 1) := by decide +kernel
theorem dL_law_457 : decode code 457 = .ok (.iaload, 1) := by decide +kernel
theorem dL_law_458 : decode code 458 = .ok (.aload_n 0, 1) := by decide +kernel
theorem dL_law_459 : decode code 459 = .ok (.iload 4, 2) := by decide +kernel
theorem dL_law_461 : decode code 461 = .ok (.iconst 3, 1) := by decide +kernel
theorem dL_law_462 : decode code 462 = .ok (.iadd, 1) := by decide +kernel
theorem dL_law_463 : decode code 463 = .ok (.iaload, 1) := by decide +kernel
theorem dL_law_464 : decode code 464 = .ok (.invokevirtual 108, 3) := by decide +kernel
theorem dL_law_467 : decode code 467 = .ok (.istore 6, 2) := by decide +kernel
theorem dL_law_469 : decode code 469 = .ok (.aload_n 2, 1) := by decide +kernel
theorem dL_law_470 : decode code 470 = .ok (.invokevirtual 87, 3) := by decide +kernel
theorem dL_law_473 : decode code 473 = .ok (.iload 5, 2) := by decide +kernel
theorem dL_law_475 : decode code 475 = .ok (.if_icmp .eq 5, 3) := by decide +kernel
theorem dL_law_478 : decode code 478 = .ok (.iconst 0, 1) := by decide +kernel
theorem dL_law_479 : decode code 479 = .ok (.ireturn, 1) := by decide +kernel
theorem dL_law_480 : decode code 480 = .ok (.iload 5, 2) := by decide +kernel
theorem dL_law_482 : decode code 482 = .ok (.ifCond .ne 15, 3) := by decide +kernel
theorem dL_law_485 : decode code 485 = .ok (.aload_n 3, 1) := by decide +kernel
theorem dL_law_486 : decode code 486 = .ok (.iconst 0, 1) := by decide +kernel
theorem dL_law_487 : decode code 487 = .ok (.laload, 1) := by decide +kernel
theorem dL_law_488 : decode code 488 = .ok (.iload 6, 2) := by decide +kernel
theorem dL_law_490 : decode code 490 = .ok (.i2l, 1) := by decide +kernel
theorem dL_law_491 : decode code 491 = .ok (.lcmp, 1) := by decide +kernel
theorem dL_law_492 : decode code 492 = .ok (.ifCond .eq 5, 3) := by decide +kernel
theorem dL_law_495 : decode code 495 = .ok (.iconst 0, 1) := by decide +kernel
theorem dL_law_496 : decode code 496 = .ok (.ireturn, 1) := by decide +kernel
theorem dL_law_497 : decode code 497 = .ok (.goto 758, 3) := by decide +kernel
theorem dL_law_500 : decode code 500 = .ok (.aload_n 1, 1) := by decide +kernel
theorem dL_law_501 : decode code 501 = .ok (.aload_n 0, 1) := by decide +kernel
theorem dL_law_502 : decode code 502 = .ok (.iload 4, 2) := by decide +kernel
theorem dL_law_504 : decode code 504 = .ok (.iconst 1, 1) := by decide +kernel
theorem dL_law_505 : decode code 505 = .ok (.iadd, 1) := by decide +kernel
theorem dL_law_506 : decode code 506 = .ok (.iaload, 1) := by decide +kernel
theorem dL_law_507 : decode code 507 = .ok (.aload_n 0, 1) := by decide +kernel
theorem dL_law_508 : decode code 508 = .ok (.iload 4, 2) := by decide +kernel
theorem dL_law_510 : decode code 510 = .ok (.iconst 2, 1) := by decide +kernel
theorem dL_law_511 : decode code 511 = .ok (.iadd, 1) := by decide +kernel
theorem dL_law_512 : decode code 512 = .ok (.iaload, 1) := by decide +kernel
theorem dL_law_513 : decode code 513 = .ok (.aload_n 3, 1) := by decide +kernel
theorem dL_law_514 : decode code 514 = .ok (.invokestatic 109, 3) := by decide +kernel
theorem dL_law_517 : decode code 517 = .ok (.istore 5, 2) := by decide +kernel
theorem dL_law_519 : decode code 519 = .ok (.aload_n 2, 1) := by decide +kernel
theorem dL_law_520 : decode code 520 = .ok (.aload_n 0, 1) := by decide +kernel
theorem dL_law_521 : decode code 521 = .ok (.iload 4, 2) := by decide +kernel
theorem dL_law_523 : decode code 523 = .ok (.iconst 1, 1) := by decide +kernel
theorem dL_law_524 : decode code 524 = .ok (.iadd, 1) := by decide +kernel
theorem dL_law_525 : decode code 525 = .ok (.iaload, 1) := by decide +kernel
theorem dL_law_526 : decode code 526 = .ok (.aload_n 0, 1) := by decide +kernel
theorem dL_law_527 : decode code 527 = .ok (.iload 4, 2) := by decide +kernel
theorem dL_law_529 : decode code 529 = .ok (.iconst 2, 1) := by decide +kernel
theorem dL_law_530 : decode code 530 = .ok (.iadd, 1) := by decide +kernel
theorem dL_law_531 : decode code 531 = .ok (.iaload, 1) := by decide +kernel
theorem dL_law_532 : decode code 532 = .ok (.invokevirtual 111, 3) := by decide +kernel
theorem dL_law_535 : decode code 535 = .ok (.istore 6, 2) := by decide +kernel
theorem dL_law_537 : decode code 537 = .ok (.aload_n 2, 1) := by decide +kernel
theorem dL_law_538 : decode code 538 = .ok (.invokevirtual 87, 3) := by decide +kernel
theorem dL_law_541 : decode code 541 = .ok (.iload 5, 2) := by decide +kernel
theorem dL_law_543 : decode code 543 = .ok (.if_icmp .eq 5, 3) := by decide +kernel
theorem dL_law_546 : decode code 546 = .ok (.iconst 0, 1) := by decide +kernel
theorem dL_law_547 : decode code 547 = .ok (.ireturn, 1) := by decide +kernel
theorem dL_law_548 : decode code 548 = .ok (.iload 5, 2) := by decide +kernel
theorem dL_law_550 : decode code 550 = .ok (.ifCond .ne 15, 3) := by decide +kernel
theorem dL_law_553 : decode code 553 = .ok (.aload_n 3, 1) := by decide +kernel
theorem dL_law_554 : decode code 554 = .ok (.iconst 0, 1) := by decide +kernel
theorem dL_law_555 : decode code 555 = .ok (.laload, 1) := by decide +kernel
theorem dL_law_556 : decode code 556 = .ok (.iload 6, 2) := by decide +kernel
theorem dL_law_558 : decode code 558 = .ok (.i2l, 1) := by decide +kernel
theorem dL_law_559 : decode code 559 = .ok (.lcmp, 1) := by decide +kernel
theorem dL_law_560 : decode code 560 = .ok (.ifCond .eq 5, 3) := by decide +kernel
theorem dL_law_563 : decode code 563 = .ok (.iconst 0, 1) := by decide +kernel
theorem dL_law_564 : decode code 564 = .ok (.ireturn, 1) := by decide +kernel
theorem dL_law_565 : decode code 565 = .ok (.goto 690, 3) := by decide +kernel
theorem dL_law_568 : decode code 568 = .ok (.aload_n 1, 1) := by decide +kernel
theorem dL_law_569 : decode code 569 = .ok (.aload_n 0, 1) := by decide +kernel
theorem dL_law_570 : decode code 570 = .ok (.iload 4, 2) := by decide +kernel
theorem dL_law_572 : decode code 572 = .ok (.iconst 1, 1) := by decide +kernel
theorem dL_law_573 : decode code 573 = .ok (.iadd, 1) := by decide +kernel
theorem dL_law_574 : decode code 574 = .ok (.iaload, 1) := by decide +kernel
theorem dL_law_575 : decode code 575 = .ok (.aload_n 0, 1) := by decide +kernel
theorem dL_law_576 : decode code 576 = .ok (.iload 4, 2) := by decide +kernel
theorem dL_law_578 : decode code 578 = .ok (.iconst 2, 1) := by decide +kernel
theorem dL_law_579 : decode code 579 = .ok (.iadd, 1) := by decide +kernel
theorem dL_law_580 : decode code 580 = .ok (.iaload, 1) := by decide +kernel
theorem dL_law_581 : decode code 581 = .ok (.aload_n 3, 1) := by decide +kernel
theorem dL_law_582 : decode code 582 = .ok (.invokestatic 112, 3) := by decide +kernel
theorem dL_law_585 : decode code 585 = .ok (.istore 5, 2) := by decide +kernel
theorem dL_law_587 : decode code 587 = .ok (.aload_n 2, 1) := by decide +kernel
theorem dL_law_588 : decode code 588 = .ok (.aload_n 0, 1) := by decide +kernel
theorem dL_law_589 : decode code 589 = .ok (.iload 4, 2) := by decide +kernel
theorem dL_law_591 : decode code 591 = .ok (.iconst 1, 1) := by decide +kernel
theorem dL_law_592 : decode code 592 = .ok (.iadd, 1) := by decide +kernel
theorem dL_law_593 : decode code 593 = .ok (.iaload, 1) := by decide +kernel
theorem dL_law_594 : decode code 594 = .ok (.aload_n 0, 1) := by decide +kernel
theorem dL_law_595 : decode code 595 = .ok (.iload 4, 2) := by decide +kernel
theorem dL_law_597 : decode code 597 = .ok (.iconst 2, 1) := by decide +kernel
theorem dL_law_598 : decode code 598 = .ok (.iadd, 1) := by decide +kernel
theorem dL_law_599 : decode code 599 = .ok (.iaload, 1) := by decide +kernel
theorem dL_law_600 : decode code 600 = .ok (.invokevirtual 114, 3) := by decide +kernel
theorem dL_law_603 : decode code 603 = .ok (.istore 6, 2) := by decide +kernel
theorem dL_law_605 : decode code 605 = .ok (.aload_n 2, 1) := by decide +kernel
theorem dL_law_606 : decode code 606 = .ok (.invokevirtual 87, 3) := by decide +kernel
theorem dL_law_609 : decode code 609 = .ok (.iload 5, 2) := by decide +kernel
theorem dL_law_611 : decode code 611 = .ok (.if_icmp .eq 5, 3) := by decide +kernel
theorem dL_law_614 : decode code 614 = .ok (.iconst 0, 1) := by decide +kernel
theorem dL_law_615 : decode code 615 = .ok (.ireturn, 1) := by decide +kernel
theorem dL_law_616 : decode code 616 = .ok (.iload 5, 2) := by decide +kernel
theorem dL_law_618 : decode code 618 = .ok (.ifCond .ne 15, 3) := by decide +kernel
theorem dL_law_621 : decode code 621 = .ok (.aload_n 3, 1) := by decide +kernel
theorem dL_law_622 : decode code 622 = .ok (.iconst 0, 1) := by decide +kernel
theorem dL_law_623 : decode code 623 = .ok (.laload, 1) := by decide +kernel
theorem dL_law_624 : decode code 624 = .ok (.iload 6, 2) := by decide +kernel
theorem dL_law_626 : decode code 626 = .ok (.i2l, 1) := by decide +kernel
theorem dL_law_627 : decode code 627 = .ok (.lcmp, 1) := by decide +kernel
theorem dL_law_628 : decode code 628 = .ok (.ifCond .eq 5, 3) := by decide +kernel
theorem dL_law_631 : decode code 631 = .ok (.iconst 0, 1) := by decide +kernel
theorem dL_law_632 : decode code 632 = .ok (.ireturn, 1) := by decide +kernel
theorem dL_law_633 : decode code 633 = .ok (.goto 622, 3) := by decide +kernel
theorem dL_law_636 : decode code 636 = .ok (.aload_n 1, 1) := by decide +kernel
theorem dL_law_637 : decode code 637 = .ok (.aload_n 0, 1) := by decide +kernel
theorem dL_law_638 : decode code 638 = .ok (.iload 4, 2) := by decide +kernel
theorem dL_law_640 : decode code 640 = .ok (.iconst 1, 1) := by decide +kernel
theorem dL_law_641 : decode code 641 = .ok (.iadd, 1) := by decide +kernel
theorem dL_law_642 : decode code 642 = .ok (.iaload, 1) := by decide +kernel
theorem dL_law_643 : decode code 643 = .ok (.aload_n 3, 1) := by decide +kernel
theorem dL_law_644 : decode code 644 = .ok (.invokestatic 115, 3) := by decide +kernel
theorem dL_law_647 : decode code 647 = .ok (.istore 5, 2) := by decide +kernel
theorem dL_law_649 : decode code 649 = .ok (.aload_n 2, 1) := by decide +kernel
theorem dL_law_650 : decode code 650 = .ok (.aload_n 0, 1) := by decide +kernel
theorem dL_law_651 : decode code 651 = .ok (.iload 4, 2) := by decide +kernel
theorem dL_law_653 : decode code 653 = .ok (.iconst 1, 1) := by decide +kernel
theorem dL_law_654 : decode code 654 = .ok (.iadd, 1) := by decide +kernel
theorem dL_law_655 : decode code 655 = .ok (.iaload, 1) := by decide +kernel
theorem dL_law_656 : decode code 656 = .ok (.invokevirtual 117, 3) := by decide +kernel
theorem dL_law_659 : decode code 659 = .ok (.istore 6, 2) := by decide +kernel
theorem dL_law_661 : decode code 661 = .ok (.aload_n 2, 1) := by decide +kernel
theorem dL_law_662 : decode code 662 = .ok (.invokevirtual 87, 3) := by decide +kernel
theorem dL_law_665 : decode code 665 = .ok (.iload 5, 2) := by decide +kernel
theorem dL_law_667 : decode code 667 = .ok (.if_icmp .eq 5, 3) := by decide +kernel
theorem dL_law_670 : decode code 670 = .ok (.iconst 0, 1) := by decide +kernel
theorem dL_law_671 : decode code 671 = .ok (.ireturn, 1) := by decide +kernel
theorem dL_law_672 : decode code 672 = .ok (.iload 5, 2) := by decide +kernel
theorem dL_law_674 : decode code 674 = .ok (.ifCond .ne 15, 3) := by decide +kernel
theorem dL_law_677 : decode code 677 = .ok (.aload_n 3, 1) := by decide +kernel
theorem dL_law_678 : decode code 678 = .ok (.iconst 0, 1) := by decide +kernel
theorem dL_law_679 : decode code 679 = .ok (.laload, 1) := by decide +kernel
theorem dL_law_680 : decode code 680 = .ok (.iload 6, 2) := by decide +kernel
end
section
/-! printed by wip/whole/gen_names.py: decode rows -/
theorem dL_law_682 : decode code 682 = .ok (.i2l, 1) := by decide +kernel
theorem dL_law_683 : decode code 683 = .ok (.lcmp, 1) := by decide +kernel
theorem dL_law_684 : decode code 684 = .ok (.ifCond .eq 5, 3) := by decide +kernel
theorem dL_law_687 : decode code 687 = .ok (.iconst 0, 1) := by decide +kernel
theorem dL_law_688 : decode code 688 = .ok (.ireturn, 1) := by decide +kernel
theorem dL_law_689 : decode code 689 = .ok (.goto 566, 3) := by decide +kernel
theorem dL_law_692 : decode code 692 = .ok (.aload_n 1, 1) := by decide +kernel
theorem dL_law_693 : decode code 693 = .ok (.aload_n 0, 1) := by decide +kernel
theorem dL_law_694 : decode code 694 = .ok (.iload 4, 2) := by decide +kernel
theorem dL_law_696 : decode code 696 = .ok (.iconst 1, 1) := by decide +kernel
theorem dL_law_697 : decode code 697 = .ok (.iadd, 1) := by decide +kernel
theorem dL_law_698 : decode code 698 = .ok (.iaload, 1) := by decide +kernel
theorem dL_law_699 : decode code 699 = .ok (.aload_n 0, 1) := by decide +kernel
theorem dL_law_700 : decode code 700 = .ok (.iload 4, 2) := by decide +kernel
theorem dL_law_702 : decode code 702 = .ok (.iconst 2, 1) := by decide +kernel
theorem dL_law_703 : decode code 703 = .ok (.iadd, 1) := by decide +kernel
theorem dL_law_704 : decode code 704 = .ok (.iaload, 1) := by decide +kernel
theorem dL_law_705 : decode code 705 = .ok (.aload_n 3, 1) := by decide +kernel
theorem dL_law_706 : decode code 706 = .ok (.invokestatic 118, 3) := by decide +kernel
theorem dL_law_709 : decode code 709 = .ok (.istore 5, 2) := by decide +kernel
theorem dL_law_711 : decode code 711 = .ok (.aload_n 2, 1) := by decide +kernel
theorem dL_law_712 : decode code 712 = .ok (.aload_n 0, 1) := by decide +kernel
theorem dL_law_713 : decode code 713 = .ok (.iload 4, 2) := by decide +kernel
theorem dL_law_715 : decode code 715 = .ok (.iconst 1, 1) := by decide +kernel
theorem dL_law_716 : decode code 716 = .ok (.iadd, 1) := by decide +kernel
theorem dL_law_717 : decode code 717 = .ok (.iaload, 1) := by decide +kernel
theorem dL_law_718 : decode code 718 = .ok (.aload_n 0, 1) := by decide +kernel
theorem dL_law_719 : decode code 719 = .ok (.iload 4, 2) := by decide +kernel
theorem dL_law_721 : decode code 721 = .ok (.iconst 2, 1) := by decide +kernel
theorem dL_law_722 : decode code 722 = .ok (.iadd, 1) := by decide +kernel
theorem dL_law_723 : decode code 723 = .ok (.iaload, 1) := by decide +kernel
theorem dL_law_724 : decode code 724 = .ok (.invokevirtual 120, 3) := by decide +kernel
theorem dL_law_727 : decode code 727 = .ok (.istore 6, 2) := by decide +kernel
theorem dL_law_729 : decode code 729 = .ok (.aload_n 2, 1) := by decide +kernel
theorem dL_law_730 : decode code 730 = .ok (.invokevirtual 87, 3) := by decide +kernel
theorem dL_law_733 : decode code 733 = .ok (.iload 5, 2) := by decide +kernel
theorem dL_law_735 : decode code 735 = .ok (.if_icmp .eq 5, 3) := by decide +kernel
theorem dL_law_738 : decode code 738 = .ok (.iconst 0, 1) := by decide +kernel
theorem dL_law_739 : decode code 739 = .ok (.ireturn, 1) := by decide +kernel
theorem dL_law_740 : decode code 740 = .ok (.iload 5, 2) := by decide +kernel
theorem dL_law_742 : decode code 742 = .ok (.ifCond .ne 15, 3) := by decide +kernel
theorem dL_law_745 : decode code 745 = .ok (.aload_n 3, 1) := by decide +kernel
theorem dL_law_746 : decode code 746 = .ok (.iconst 0, 1) := by decide +kernel
theorem dL_law_747 : decode code 747 = .ok (.laload, 1) := by decide +kernel
theorem dL_law_748 : decode code 748 = .ok (.iload 6, 2) := by decide +kernel
theorem dL_law_750 : decode code 750 = .ok (.i2l, 1) := by decide +kernel
theorem dL_law_751 : decode code 751 = .ok (.lcmp, 1) := by decide +kernel
theorem dL_law_752 : decode code 752 = .ok (.ifCond .eq 5, 3) := by decide +kernel
theorem dL_law_755 : decode code 755 = .ok (.iconst 0, 1) := by decide +kernel
theorem dL_law_756 : decode code 756 = .ok (.ireturn, 1) := by decide +kernel
theorem dL_law_757 : decode code 757 = .ok (.goto 498, 3) := by decide +kernel
theorem dL_law_760 : decode code 760 = .ok (.aload_n 1, 1) := by decide +kernel
theorem dL_law_761 : decode code 761 = .ok (.aload_n 0, 1) := by decide +kernel
theorem dL_law_762 : decode code 762 = .ok (.iload 4, 2) := by decide +kernel
theorem dL_law_764 : decode code 764 = .ok (.iconst 1, 1) := by decide +kernel
theorem dL_law_765 : decode code 765 = .ok (.iadd, 1) := by decide +kernel
theorem dL_law_766 : decode code 766 = .ok (.iaload, 1) := by decide +kernel
theorem dL_law_767 : decode code 767 = .ok (.aload_n 0, 1) := by decide +kernel
theorem dL_law_768 : decode code 768 = .ok (.iload 4, 2) := by decide +kernel
theorem dL_law_770 : decode code 770 = .ok (.iconst 2, 1) := by decide +kernel
theorem dL_law_771 : decode code 771 = .ok (.iadd, 1) := by decide +kernel
theorem dL_law_772 : decode code 772 = .ok (.iaload, 1) := by decide +kernel
theorem dL_law_773 : decode code 773 = .ok (.aload_n 3, 1) := by decide +kernel
theorem dL_law_774 : decode code 774 = .ok (.invokestatic 121, 3) := by decide +kernel
theorem dL_law_777 : decode code 777 = .ok (.istore 5, 2) := by decide +kernel
theorem dL_law_779 : decode code 779 = .ok (.aload_n 2, 1) := by decide +kernel
theorem dL_law_780 : decode code 780 = .ok (.aload_n 0, 1) := by decide +kernel
theorem dL_law_781 : decode code 781 = .ok (.iload 4, 2) := by decide +kernel
theorem dL_law_783 : decode code 783 = .ok (.iconst 1, 1) := by decide +kernel
theorem dL_law_784 : decode code 784 = .ok (.iadd, 1) := by decide +kernel
theorem dL_law_785 : decode code 785 = .ok (.iaload, 1) := by decide +kernel
theorem dL_law_786 : decode code 786 = .ok (.aload_n 0, 1) := by decide +kernel
theorem dL_law_787 : decode code 787 = .ok (.iload 4, 2) := by decide +kernel
theorem dL_law_789 : decode code 789 = .ok (.iconst 2, 1) := by decide +kernel
theorem dL_law_790 : decode code 790 = .ok (.iadd, 1) := by decide +kernel
theorem dL_law_791 : decode code 791 = .ok (.iaload, 1) := by decide +kernel
theorem dL_law_792 : decode code 792 = .ok (.invokevirtual 123, 3) := by decide +kernel
theorem dL_law_795 : decode code 795 = .ok (.istore 6, 2) := by decide +kernel
theorem dL_law_797 : decode code 797 = .ok (.aload_n 2, 1) := by decide +kernel
theorem dL_law_798 : decode code 798 = .ok (.invokevirtual 87, 3) := by decide +kernel
theorem dL_law_801 : decode code 801 = .ok (.iload 5, 2) := by decide +kernel
theorem dL_law_803 : decode code 803 = .ok (.if_icmp .eq 5, 3) := by decide +kernel
theorem dL_law_806 : decode code 806 = .ok (.iconst 0, 1) := by decide +kernel
theorem dL_law_807 : decode code 807 = .ok (.ireturn, 1) := by decide +kernel
theorem dL_law_808 : decode code 808 = .ok (.iload 5, 2) := by decide +kernel
theorem dL_law_810 : decode code 810 = .ok (.ifCond .ne 15, 3) := by decide +kernel
theorem dL_law_813 : decode code 813 = .ok (.aload_n 3, 1) := by decide +kernel
theorem dL_law_814 : decode code 814 = .ok (.iconst 0, 1) := by decide +kernel
theorem dL_law_815 : decode code 815 = .ok (.laload, 1) := by decide +kernel
theorem dL_law_816 : decode code 816 = .ok (.iload 6, 2) := by decide +kernel
theorem dL_law_818 : decode code 818 = .ok (.i2l, 1) := by decide +kernel
theorem dL_law_819 : decode code 819 = .ok (.lcmp, 1) := by decide +kernel
theorem dL_law_820 : decode code 820 = .ok (.ifCond .eq 5, 3) := by decide +kernel
theorem dL_law_823 : decode code 823 = .ok (.iconst 0, 1) := by decide +kernel
theorem dL_law_824 : decode code 824 = .ok (.ireturn, 1) := by decide +kernel
theorem dL_law_825 : decode code 825 = .ok (.goto 430, 3) := by decide +kernel
theorem dL_law_828 : decode code 828 = .ok (.aload_n 1, 1) := by decide +kernel
theorem dL_law_829 : decode code 829 = .ok (.aload_n 3, 1) := by decide +kernel
theorem dL_law_830 : decode code 830 = .ok (.invokestatic 124, 3) := by decide +kernel
theorem dL_law_833 : decode code 833 = .ok (.istore 5, 2) := by decide +kernel
theorem dL_law_835 : decode code 835 = .ok (.aload_n 2, 1) := by decide +kernel
theorem dL_law_836 : decode code 836 = .ok (.invokevirtual 127, 3) := by decide +kernel
theorem dL_law_839 : decode code 839 = .ok (.istore 6, 2) := by decide +kernel
theorem dL_law_841 : decode code 841 = .ok (.aload_n 2, 1) := by decide +kernel
theorem dL_law_842 : decode code 842 = .ok (.invokevirtual 87, 3) := by decide +kernel
theorem dL_law_845 : decode code 845 = .ok (.iload 5, 2) := by decide +kernel
theorem dL_law_847 : decode code 847 = .ok (.if_icmp .eq 5, 3) := by decide +kernel
theorem dL_law_850 : decode code 850 = .ok (.iconst 0, 1) := by decide +kernel
theorem dL_law_851 : decode code 851 = .ok (.ireturn, 1) := by decide +kernel
theorem dL_law_852 : decode code 852 = .ok (.iload 5, 2) := by decide +kernel
theorem dL_law_854 : decode code 854 = .ok (.ifCond .ne 15, 3) := by decide +kernel
theorem dL_law_857 : decode code 857 = .ok (.aload_n 3, 1) := by decide +kernel
theorem dL_law_858 : decode code 858 = .ok (.iconst 0, 1) := by decide +kernel
theorem dL_law_859 : decode code 859 = .ok (.laload, 1) := by decide +kernel
theorem dL_law_860 : decode code 860 = .ok (.iload 6, 2) := by decide +kernel
theorem dL_law_862 : decode code 862 = .ok (.i2l, 1) := by decide +kernel
theorem dL_law_863 : decode code 863 = .ok (.lcmp, 1) := by decide +kernel
theorem dL_law_864 : decode code 864 = .ok (.ifCond .eq 5, 3) := by decide +kernel
theorem dL_law_867 : decode code 867 = .ok (.iconst 0, 1) := by decide +kernel
theorem dL_law_868 : decode code 868 = .ok (.ireturn, 1) := by decide +kernel
theorem dL_law_869 : decode code 869 = .ok (.goto 386, 3) := by decide +kernel
theorem dL_law_872 : decode code 872 = .ok (.aload_n 1, 1) := by decide +kernel
theorem dL_law_873 : decode code 873 = .ok (.aload_n 0, 1) := by decide +kernel
theorem dL_law_874 : decode code 874 = .ok (.iload 4, 2) := by decide +kernel
theorem dL_law_876 : decode code 876 = .ok (.iconst 1, 1) := by decide +kernel
theorem dL_law_877 : decode code 877 = .ok (.iadd, 1) := by decide +kernel
theorem dL_law_878 : decode code 878 = .ok (.iaload, 1) := by decide +kernel
theorem dL_law_879 : decode code 879 = .ok (.aload_n 3, 1) := by decide +kernel
theorem dL_law_880 : decode code 880 = .ok (.invokestatic 128, 3) := by decide +kernel
theorem dL_law_883 : decode code 883 = .ok (.istore 5, 2) := by decide +kernel
theorem dL_law_885 : decode code 885 = .ok (.aload_n 2, 1) := by decide +kernel
theorem dL_law_886 : decode code 886 = .ok (.aload_n 0, 1) := by decide +kernel
theorem dL_law_887 : decode code 887 = .ok (.iload 4, 2) := by decide +kernel
theorem dL_law_889 : decode code 889 = .ok (.iconst 1, 1) := by decide +kernel
theorem dL_law_890 : decode code 890 = .ok (.iadd, 1) := by decide +kernel
theorem dL_law_891 : decode code 891 = .ok (.iaload, 1) := by decide +kernel
theorem dL_law_892 : decode code 892 = .ok (.invokevirtual 130, 3) := by decide +kernel
theorem dL_law_895 : decode code 895 = .ok (.istore 6, 2) := by decide +kernel
theorem dL_law_897 : decode code 897 = .ok (.aload_n 2, 1) := by decide +kernel
theorem dL_law_898 : decode code 898 = .ok (.invokevirtual 87, 3) := by decide +kernel
theorem dL_law_901 : decode code 901 = .ok (.iload 5, 2) := by decide +kernel
theorem dL_law_903 : decode code 903 = .ok (.if_icmp .eq 5, 3) := by decide +kernel
theorem dL_law_906 : decode code 906 = .ok (.iconst 0, 1) := by decide +kernel
theorem dL_law_907 : decode code 907 = .ok (.ireturn, 1) := by decide +kernel
theorem dL_law_908 : decode code 908 = .ok (.iload 5, 2) := by decide +kernel
theorem dL_law_910 : decode code 910 = .ok (.ifCond .ne 15, 3) := by decide +kernel
theorem dL_law_913 : decode code 913 = .ok (.aload_n 3, 1) := by decide +kernel
theorem dL_law_914 : decode code 914 = .ok (.iconst 0, 1) := by decide +kernel
theorem dL_law_915 : decode code 915 = .ok (.laload, 1) := by decide +kernel
theorem dL_law_916 : decode code 916 = .ok (.iload 6, 2) := by decide +kernel
theorem dL_law_918 : decode code 918 = .ok (.i2l, 1) := by decide +kernel
theorem dL_law_919 : decode code 919 = .ok (.lcmp, 1) := by decide +kernel
theorem dL_law_920 : decode code 920 = .ok (.ifCond .eq 5, 3) := by decide +kernel
theorem dL_law_923 : decode code 923 = .ok (.iconst 0, 1) := by decide +kernel
theorem dL_law_924 : decode code 924 = .ok (.ireturn, 1) := by decide +kernel
theorem dL_law_925 : decode code 925 = .ok (.goto 330, 3) := by decide +kernel
theorem dL_law_928 : decode code 928 = .ok (.aload_n 1, 1) := by decide +kernel
theorem dL_law_929 : decode code 929 = .ok (.aload_n 0, 1) := by decide +kernel
theorem dL_law_930 : decode code 930 = .ok (.iload 4, 2) := by decide +kernel
theorem dL_law_932 : decode code 932 = .ok (.iconst 1, 1) := by decide +kernel
theorem dL_law_933 : decode code 933 = .ok (.iadd, 1) := by decide +kernel
theorem dL_law_934 : decode code 934 = .ok (.iaload, 1) := by decide +kernel
theorem dL_law_935 : decode code 935 = .ok (.aload_n 3, 1) := by decide +kernel
theorem dL_law_936 : decode code 936 = .ok (.invokestatic 131, 3) := by decide +kernel
theorem dL_law_939 : decode code 939 = .ok (.istore 5, 2) := by decide +kernel
theorem dL_law_941 : decode code 941 = .ok (.aload_n 2, 1) := by decide +kernel
theorem dL_law_942 : decode code 942 = .ok (.aload_n 0, 1) := by decide +kernel
theorem dL_law_943 : decode code 943 = .ok (.iload 4, 2) := by decide +kernel
theorem dL_law_945 : decode code 945 = .ok (.iconst 1, 1) := by decide +kernel
theorem dL_law_946 : decode code 946 = .ok (.iadd, 1) := by decide +kernel
theorem dL_law_947 : decode code 947 = .ok (.iaload, 1) := by decide +kernel
theorem dL_law_948 : decode code 948 = .ok (.invokevirtual 133, 3) := by decide +kernel
theorem dL_law_951 : decode code 951 = .ok (.istore 6, 2) := by decide +kernel
theorem dL_law_953 : decode code 953 = .ok (.aload_n 2, 1) := by decide +kernel
theorem dL_law_954 : decode code 954 = .ok (.invokevirtual 87, 3) := by decide +kernel
theorem dL_law_957 : decode code 957 = .ok (.iload 5, 2) := by decide +kernel
theorem dL_law_959 : decode code 959 = .ok (.if_icmp .eq 5, 3) := by decide +kernel
theorem dL_law_962 : decode code 962 = .ok (.iconst 0, 1) := by decide +kernel
theorem dL_law_963 : decode code 963 = .ok (.ireturn, 1) := by decide +kernel
theorem dL_law_964 : decode code 964 = .ok (.iload 5, 2) := by decide +kernel
theorem dL_law_966 : decode code 966 = .ok (.ifCond .ne 15, 3) := by decide +kernel
theorem dL_law_969 : decode code 969 = .ok (.aload_n 3, 1) := by decide +kernel
theorem dL_law_970 : decode code 970 = .ok (.iconst 0, 1) := by decide +kernel
theorem dL_law_971 : decode code 971 = .ok (.laload, 1) := by decide +kernel
theorem dL_law_972 : decode code 972 = .ok (.iload 6, 2) := by decide +kernel
theorem dL_law_974 : decode code 974 = .ok (.i2l, 1) := by decide +kernel
theorem dL_law_975 : decode code 975 = .ok (.lcmp, 1) := by decide +kernel
theorem dL_law_976 : decode code 976 = .ok (.ifCond .eq 5, 3) := by decide +kernel
theorem dL_law_979 : decode code 979 = .ok (.iconst 0, 1) := by decide +kernel
theorem dL_law_980 : decode code 980 = .ok (.ireturn, 1) := by decide +kernel
theorem dL_law_981 : decode code 981 = .ok (.goto 274, 3) := by decide +kernel
theorem dL_law_984 : decode code 984 = .ok (.aload_n 1, 1) := by decide +kernel
theorem dL_law_985 : decode code 985 = .ok (.aload_n 0, 1) := by decide +kernel
theorem dL_law_986 : decode code 986 = .ok (.iload 4, 2) := by decide +kernel
theorem dL_law_988 : decode code 988 = .ok (.iconst 1, 1) := by decide +kernel
theorem dL_law_989 : decode code 989 = .ok (.iadd, 1) := by decide +kernel
theorem dL_law_990 : decode code 990 = .ok (.iaload, 1) := by decide +kernel
theorem dL_law_991 : decode code 991 = .ok (.aload_n 3, 1) := by decide +kernel
theorem dL_law_992 : decode code 992 = .ok (.invokestatic 134, 3) := by decide +kernel
theorem dL_law_995 : decode code 995 = .ok (.istore 5, 2) := by decide +kernel
theorem dL_law_997 : decode code 997 = .ok (.aload_n 2, 1) := by decide +kernel
theorem dL_law_998 : decode code 998 = .ok (.aload_n 0, 1) := by decide +kernel
theorem dL_law_999 : decode code 999 = .ok (.iload 4, 2) := by decide +kernel
theorem dL_law_1001 : decode code 1001 = .ok (.iconst 1, 1) := by decide +kernel
theorem dL_law_1002 : decode code 1002 = .ok (.iadd, 1) := by decide +kernel
theorem dL_law_1003 : decode code 1003 = .ok (.iaload, 1) := by decide +kernel
theorem dL_law_1004 : decode code 1004 = .ok (.invokevirtual 136, 3) := by decide +kernel
theorem dL_law_1007 : decode code 1007 = .ok (.istore 6, 2) := by decide +kernel
theorem dL_law_1009 : decode code 1009 = .ok (.aload_n 2, 1) := by decide +kernel
theorem dL_law_1010 : decode code 1010 = .ok (.invokevirtual 87, 3) := by decide +kernel
theorem dL_law_1013 : decode code 1013 = .ok (.iload 5, 2) := by decide +kernel
theorem dL_law_1015 : decode code 1015 = .ok (.if_icmp .eq 5, 3) := by decide +kernel
theorem dL_law_1018 : decode code 1018 = .ok (.iconst 0, 1) := by decide +kernel
theorem dL_law_1019 : decode code 1019 = .ok (.ireturn, 1) := by decide +kernel
theorem dL_law_1020 : decode code 1020 = .ok (.iload 5, 2) := by decide +kernel
theorem dL_law_1022 : decode code 1022 = .ok (.ifCond .ne 15, 3) := by decide +kernel
theorem dL_law_1025 : decode code 1025 = .ok (.aload_n 3, 1) := by decide +kernel
theorem dL_law_1026 : decode code 1026 = .ok (.iconst 0, 1) := by decide +kernel
theorem dL_law_1027 : decode code 1027 = .ok (.laload, 1) := by decide +kernel
theorem dL_law_1028 : decode code 1028 = .ok (.iload 6, 2) := by decide +kernel
theorem dL_law_1030 : decode code 1030 = .ok (.i2l, 1) := by decide +kernel
theorem dL_law_1031 : decode code 1031 = .ok (.lcmp, 1) := by decide +kernel
theorem dL_law_1032 : decode code 1032 = .ok (.ifCond .eq 5, 3) := by decide +kernel
theorem dL_law_1035 : decode code 1035 = .ok (.iconst 0, 1) := by decide +kernel
theorem dL_law_1036 : decode code 1036 = .ok (.ireturn, 1) := by decide +kernel
theorem dL_law_1037 : decode code 1037 = .ok (.goto 218, 3) := by decide +kernel
theorem dL_law_1040 : decode code 1040 = .ok (.aload_n 1, 1) := by decide +kernel
theorem dL_law_1041 : decode code 1041 = .ok (.aload_n 0, 1) := by decide +kernel
theorem dL_law_1042 : decode code 1042 = .ok (.iload 4, 2) := by decide +kernel
theorem dL_law_1044 : decode code 1044 = .ok (.iconst 1, 1) := by decide +kernel
theorem dL_law_1045 : decode code 1045 = .ok (.iadd, 1) := by decide +kernel
theorem dL_law_1046 : decode code 1046 = .ok (.iaload, 1) := by decide +kernel
theorem dL_law_1047 : decode code 1047 = .ok (.ifCond .eq 7, 3) := by decide +kernel
theorem dL_law_1050 : decode code 1050 = .ok (.iconst 1, 1) := by decide +kernel
theorem dL_law_1051 : decode code 1051 = .ok (.goto 4, 3) := by decide +kernel
theorem dL_law_1054 : decode code 1054 = .ok (.iconst 0, 1) := by decide +kernel
theorem dL_law_1055 : decode code 1055 = .ok (.aload_n 0, 1) := by decide +kernel
theorem dL_law_1056 : decode code 1056 = .ok (.iload 4, 2) := by decide +kernel
theorem dL_law_1058 : decode code 1058 = .ok (.iconst 2, 1) := by decide +kernel
theorem dL_law_1059 : decode code 1059 = .ok (.iadd, 1) := by decide +kernel
theorem dL_law_1060 : decode code 1060 = .ok (.iaload, 1) := by decide +kernel
theorem dL_law_1061 : decode code 1061 = .ok (.aload_n 0, 1) := by decide +kernel
theorem dL_law_1062 : decode code 1062 = .ok (.iload 4, 2) := by decide +kernel
theorem dL_law_1064 : decode code 1064 = .ok (.iconst 3, 1) := by decide +kernel
theorem dL_law_1065 : decode code 1065 = .ok (.iadd, 1) := by decide +kernel
theorem dL_law_1066 : decode code 1066 = .ok (.iaload, 1) := by decide +kernel
theorem dL_law_1067 : decode code 1067 = .ok (.aload_n 3, 1) := by decide +kernel
theorem dL_law_1068 : decode code 1068 = .ok (.invokestatic 137, 3) := by decide +kernel
theorem dL_law_1071 : decode code 1071 = .ok (.istore 5, 2) := by decide +kernel
theorem dL_law_1073 : decode code 1073 = .ok (.aload_n 2, 1) := by decide +kernel
theorem dL_law_1074 : decode code 1074 = .ok (.aload_n 0, 1) := by decide +kernel
theorem dL_law_1075 : decode code 1075 = .ok (.iload 4, 2) := by decide +kernel
theorem dL_law_1077 : decode code 1077 = .ok (.iconst 1, 1) := by decide +kernel
theorem dL_law_1078 : decode code 1078 = .ok (.iadd, 1) := by decide +kernel
theorem dL_law_1079 : decode code 1079 = .ok (.iaload, 1) := by decide +kernel
theorem dL_law_1080 : decode code 1080 = .ok (.ifCond .eq 7, 3) := by decide +kernel
theorem dL_law_1083 : decode code 1083 = .ok (.iconst 1, 1) := by decide +kernel
theorem dL_law_1084 : decode code 1084 = .ok (.goto 4, 3) := by decide +kernel
theorem dL_law_1087 : decode code 1087 = .ok (.iconst 0, 1) := by decide +kernel
theorem dL_law_1088 : decode code 1088 = .ok (.aload_n 0, 1) := by decide +kernel
theorem dL_law_1089 : decode code 1089 = .ok (.iload 4, 2) := by decide +kernel
theorem dL_law_1091 : decode code 1091 = .ok (.iconst 2, 1) := by decide +kernel
theorem dL_law_1092 : decode code 1092 = .ok (.iadd, 1) := by decide +kernel
theorem dL_law_1093 : decode code 1093 = .ok (.iaload, 1) := by decide +kernel
theorem dL_law_1094 : decode code 1094 = .ok (.aload_n 0, 1) := by decide +kernel
theorem dL_law_1095 : decode code 1095 = .ok (.iload 4, 2) := by decide +kernel
theorem dL_law_1097 : decode code 1097 = .ok (.iconst 3, 1) := by decide +kernel
theorem dL_law_1098 : decode code 1098 = .ok (.iadd, 1) := by decide +kernel
theorem dL_law_1099 : decode code 1099 = .ok (.iaload, 1) := by decide +kernel
theorem dL_law_1100 : decode code 1100 = .ok (.invokevirtual 140, 3) := by decide +kernel
theorem dL_law_1103 : decode code 1103 = .ok (.istore 6, 2) := by decide +kernel
theorem dL_law_1105 : decode code 1105 = .ok (.aload_n 2, 1) := by decide +kernel
theorem dL_law_1106 : decode code 1106 = .ok (.invokevirtual 87, 3) := by decide +kernel
theorem dL_law_1109 : decode code 1109 = .ok (.iload 5, 2) := by decide +kernel
theorem dL_law_1111 : decode code 1111 = .ok (.if_icmp .eq 5, 3) := by decide +kernel
theorem dL_law_1114 : decode code 1114 = .ok (.iconst 0, 1) := by decide +kernel
theorem dL_law_1115 : decode code 1115 = .ok (.ireturn, 1) := by decide +kernel
theorem dL_law_1116 : decode code 1116 = .ok (.iload 5, 2) := by decide +kernel
theorem dL_law_1118 : decode code 1118 = .ok (.ifCond .ne 22, 3) := by decide +kernel
theorem dL_law_1121 : decode code 1121 = .ok (.aload_n 3, 1) := by decide +kernel
theorem dL_law_1122 : decode code 1122 = .ok (.iconst 0, 1) := by decide +kernel
theorem dL_law_1123 : decode code 1123 = .ok (.laload, 1) := by decide +kernel
theorem dL_law_1124 : decode code 1124 = .ok (.iload 6, 2) := by decide +kernel
theorem dL_law_1126 : decode code 1126 = .ok (.ifCond .eq 7, 3) := by decide +kernel
theorem dL_law_1129 : decode code 1129 = .ok (.lconst 1, 1) := by decide +kernel
theorem dL_law_1130 : decode code 1130 = .ok (.goto 4, 3) := by decide +kernel
theorem dL_law_1133 : decode code 1133 = .ok (.lconst 0, 1) := by decide +kernel
theorem dL_law_1134 : decode code 1134 = .ok (.lcmp, 1) := by decide +kernel
theorem dL_law_1135 : decode code 1135 = .ok (.ifCond .eq 5, 3) := by decide +kernel
theorem dL_law_1138 : decode code 1138 = .ok (.iconst 0, 1) := by decide +kernel
theorem dL_law_1139 : decode code 1139 = .ok (.ireturn, 1) := by decide +kernel
theorem dL_law_1140 : decode code 1140 = .ok (.goto 115, 3) := by decide +kernel
theorem dL_law_1143 : decode code 1143 = .ok (.aload_n 1, 1) := by decide +kernel
theorem dL_law_1144 : decode code 1144 = .ok (.aload_n 0, 1) := by decide +kernel
theorem dL_law_1145 : decode code 1145 = .ok (.iload 4, 2) := by decide +kernel
theorem dL_law_1147 : decode code 1147 = .ok (.iconst 1, 1) := by decide +kernel
theorem dL_law_1148 : decode code 1148 = .ok (.iadd, 1) := by decide +kernel
theorem dL_law_1149 : decode code 1149 = .ok (.iaload, 1) := by decide +kernel
theorem dL_law_1150 : decode code 1150 = .ok (.aload_n 3, 1) := by decide +kernel
theorem dL_law_1151 : decode code 1151 = .ok (.invokestatic 141, 3) := by decide +kernel
theorem dL_law_1154 : decode code 1154 = .ok (.istore 5, 2) := by decide +kernel
theorem dL_law_1156 : decode code 1156 = .ok (.aload_n 2, 1) := by decide +kernel
theorem dL_law_1157 : decode code 1157 = .ok (.aload_n 0, 1) := by decide +kernel
theorem dL_law_1158 : decode code 1158 = .ok (.iload 4, 2) := by decide +kernel
theorem dL_law_1160 : decode code 1160 = .ok (.iconst 1, 1) := by decide +kernel
theorem dL_law_1161 : decode code 1161 = .ok (.iadd, 1) := by decide +kernel
theorem dL_law_1162 : decode code 1162 = .ok (.iaload, 1) := by decide +kernel
theorem dL_law_1163 : decode code 1163 = .ok (.invokevirtual 143, 3) := by decide +kernel
theorem dL_law_1166 : decode code 1166 = .ok (.istore 6, 2) := by decide +kernel
theorem dL_law_1168 : decode code 1168 = .ok (.aload_n 2, 1) := by decide +kernel
theorem dL_law_1169 : decode code 1169 = .ok (.invokevirtual 87, 3) := by decide +kernel
theorem dL_law_1172 : decode code 1172 = .ok (.iload 5, 2) := by decide +kernel
theorem dL_law_1174 : decode code 1174 = .ok (.if_icmp .eq 5, 3) := by decide +kernel
theorem dL_law_1177 : decode code 1177 = .ok (.iconst 0, 1) := by decide +kernel
theorem dL_law_1178 : decode code 1178 = .ok (.ireturn, 1) := by decide +kernel
theorem dL_law_1179 : decode code 1179 = .ok (.iload 5, 2) := by decide +kernel
theorem dL_law_1181 : decode code 1181 = .ok (.ifCond .ne 15, 3) := by decide +kernel
theorem dL_law_1184 : decode code 1184 = .ok (.aload_n 3, 1) := by decide +kernel
theorem dL_law_1185 : decode code 1185 = .ok (.iconst 0, 1) := by decide +kernel
theorem dL_law_1186 : decode code 1186 = .ok (.laload, 1) := by decide +kernel
theorem dL_law_1187 : decode code 1187 = .ok (.iload 6, 2) := by decide +kernel
theorem dL_law_1189 : decode code 1189 = .ok (.i2l, 1) := by decide +kernel
theorem dL_law_1190 : decode code 1190 = .ok (.lcmp, 1) := by decide +kernel
theorem dL_law_1191 : decode code 1191 = .ok (.ifCond .eq 5, 3) := by decide +kernel
theorem dL_law_1194 : decode code 1194 = .ok (.iconst 0, 1) := by decide +kernel
theorem dL_law_1195 : decode code 1195 = .ok (.ireturn, 1) := by decide +kernel
theorem dL_law_1196 : decode code 1196 = .ok (.goto 59, 3) := by decide +kernel
theorem dL_law_1199 : decode code 1199 = .ok (.aload_n 1, 1) := by decide +kernel
theorem dL_law_1200 : decode code 1200 = .ok (.aload_n 0, 1) := by decide +kernel
theorem dL_law_1201 : decode code 1201 = .ok (.iload 4, 2) := by decide +kernel
theorem dL_law_1203 : decode code 1203 = .ok (.iconst 1, 1) := by decide +kernel
theorem dL_law_1204 : decode code 1204 = .ok (.iadd, 1) := by decide +kernel
theorem dL_law_1205 : decode code 1205 = .ok (.iaload, 1) := by decide +kernel
theorem dL_law_1206 : decode code 1206 = .ok (.aload_n 3, 1) := by decide +kernel
theorem dL_law_1207 : decode code 1207 = .ok (.invokestatic 144, 3) := by decide +kernel
theorem dL_law_1210 : decode code 1210 = .ok (.istore 5, 2) := by decide +kernel
theorem dL_law_1212 : decode code 1212 = .ok (.aload_n 2, 1) := by decide +kernel
theorem dL_law_1213 : decode code 1213 = .ok (.aload_n 0, 1) := by decide +kernel
theorem dL_law_1214 : decode code 1214 = .ok (.iload 4, 2) := by decide +kernel
theorem dL_law_1216 : decode code 1216 = .ok (.iconst 1, 1) := by decide +kernel
theorem dL_law_1217 : decode code 1217 = .ok (.iadd, 1) := by decide +kernel
theorem dL_law_1218 : decode code 1218 = .ok (.iaload, 1) := by decide +kernel
theorem dL_law_1219 : decode code 1219 = .ok (.invokevirtual 146, 3) := by decide +kernel
theorem dL_law_1222 : decode code 1222 = .ok (.istore 6, 2) := by decide +kernel
theorem dL_law_1224 : decode code 1224 = .ok (.aload_n 2, 1) := by decide +kernel
theorem dL_law_1225 : decode code 1225 = .ok (.invokevirtual 87, 3) := by decide +kernel
theorem dL_law_1228 : decode code 1228 = .ok (.iload 5, 2) := by decide +kernel
theorem dL_law_1230 : decode code 1230 = .ok (.if_icmp .eq 5, 3) := by decide +kernel
theorem dL_law_1233 : decode code 1233 = .ok (.iconst 0, 1) := by decide +kernel
theorem dL_law_1234 : decode code 1234 = .ok (.ireturn, 1) := by decide +kernel
theorem dL_law_1235 : decode code 1235 = .ok (.iload 5, 2) := by decide +kernel
theorem dL_law_1237 : decode code 1237 = .ok (.ifCond .ne 15, 3) := by decide +kernel
theorem dL_law_1240 : decode code 1240 = .ok (.aload_n 3, 1) := by decide +kernel
theorem dL_law_1241 : decode code 1241 = .ok (.iconst 0, 1) := by decide +kernel
theorem dL_law_1242 : decode code 1242 = .ok (.laload, 1) := by decide +kernel
theorem dL_law_1243 : decode code 1243 = .ok (.iload 6, 2) := by decide +kernel
theorem dL_law_1245 : decode code 1245 = .ok (.i2l, 1) := by decide +kernel
theorem dL_law_1246 : decode code 1246 = .ok (.lcmp, 1) := by decide +kernel
theorem dL_law_1247 : decode code 1247 = .ok (.ifCond .eq 5, 3) := by decide +kernel
theorem dL_law_1250 : decode code 1250 = .ok (.iconst 0, 1) := by decide +kernel
theorem dL_law_1251 : decode code 1251 = .ok (.ireturn, 1) := by decide +kernel
theorem dL_law_1252 : decode code 1252 = .ok (.goto 3, 3) := by decide +kernel
theorem dL_law_1255 : decode code 1255 = .ok (.iinc 4 5, 3) := by decide +kernel
theorem dL_law_1258 : decode code 1258 = .ok (.goto (-1235), 3) := by decide +kernel
theorem dL_law_1261 : decode code 1261 = .ok (.iconst 1, 1) := by decide +kernel
theorem dL_law_1262 : decode code 1262 = .ok (.ireturn, 1) := by decide +kernel
end
section
/-! printed by wip/whole/gen_names.py: decode rows -/
theorem dM_init_0 : decode prog_7_method_1_code 0 = .ok (.aload_n 0, 1) := by decide +kernel
theorem dM_init_1 : decode prog_7_method_1_code 1 = .ok (.invokespecial 1, 3) := by decide +kernel
theorem dM_init_4 : decode prog_7_method_1_code 4 = .ok (.aload_n 0, 1) := by decide +kernel
theorem dM_init_5 : decode prog_7_method_1_code 5 = .ok (.bipush 67, 2) := by decide +kernel
theorem dM_init_7 : decode prog_7_method_1_code 7 = .ok (.newarray .int, 2) := by decide +kernel
theorem dM_init_9 : decode prog_7_method_1_code 9 = .ok (.putfield 7, 3) := by decide +kernel
theorem dM_init_12 : decode prog_7_method_1_code 12 = .ok (.aload_n 0, 1) := by decide +kernel
theorem dM_init_13 : decode prog_7_method_1_code 13 = .ok (.sipush 1407, 3) := by decide +kernel
theorem dM_init_16 : decode prog_7_method_1_code 16 = .ok (.newarray .int, 2) := by decide +kernel
theorem dM_init_18 : decode prog_7_method_1_code 18 = .ok (.putfield 13, 3) := by decide +kernel
theorem dM_init_21 : decode prog_7_method_1_code 21 = .ok (.aload_n 0, 1) := by decide +kernel
theorem dM_init_22 : decode prog_7_method_1_code 22 = .ok (.bipush 70, 2) := by decide +kernel
theorem dM_init_24 : decode prog_7_method_1_code 24 = .ok (.newarray .int, 2) := by decide +kernel
theorem dM_init_26 : decode prog_7_method_1_code 26 = .ok (.putfield 16, 3) := by decide +kernel
theorem dM_init_29 : decode prog_7_method_1_code 29 = .ok (.aload_n 0, 1) := by decide +kernel
theorem dM_init_30 : decode prog_7_method_1_code 30 = .ok (.bipush 70, 2) := by decide +kernel
theorem dM_init_32 : decode prog_7_method_1_code 32 = .ok (.newarray .int, 2) := by decide +kernel
theorem dM_init_34 : decode prog_7_method_1_code 34 = .ok (.putfield 19, 3) := by decide +kernel
theorem dM_init_37 : decode prog_7_method_1_code 37 = .ok (.aload_n 0, 1) := by decide +kernel
theorem dM_init_38 : decode prog_7_method_1_code 38 = .ok (.bipush 6, 2) := by decide +kernel
theorem dM_init_40 : decode prog_7_method_1_code 40 = .ok (.newarray .int, 2) := by decide +kernel
theorem dM_init_42 : decode prog_7_method_1_code 42 = .ok (.putfield 22, 3) := by decide +kernel
theorem dM_init_45 : decode prog_7_method_1_code 45 = .ok (.aload_n 0, 1) := by decide +kernel
theorem dM_init_46 : decode prog_7_method_1_code 46 = .ok (.bipush 14, 2) := by decide +kernel
theorem dM_init_48 : decode prog_7_method_1_code 48 = .ok (.newarray .int, 2) := by decide +kernel
theorem dM_init_50 : decode prog_7_method_1_code 50 = .ok (.putfield 25, 3) := by decide +kernel
theorem dM_init_53 : decode prog_7_method_1_code 53 = .ok (.aload_n 0, 1) := by decide +kernel
theorem dM_init_54 : decode prog_7_method_1_code 54 = .ok (.bipush 14, 2) := by decide +kernel
theorem dM_init_56 : decode prog_7_method_1_code 56 = .ok (.newarray .int, 2) := by decide +kernel
theorem dM_init_58 : decode prog_7_method_1_code 58 = .ok (.putfield 28, 3) := by decide +kernel
theorem dM_init_61 : decode prog_7_method_1_code 61 = .ok (.aload_n 0, 1) := by decide +kernel
theorem dM_init_62 : decode prog_7_method_1_code 62 = .ok (.sipush 9477, 3) := by decide +kernel
theorem dM_init_65 : decode prog_7_method_1_code 65 = .ok (.newarray .boolean, 2) := by decide +kernel
theorem dM_init_67 : decode prog_7_method_1_code 67 = .ok (.putfield 31, 3) := by decide +kernel
theorem dM_init_70 : decode prog_7_method_1_code 70 = .ok (.aload_n 0, 1) := by decide +kernel
theorem dM_init_71 : decode prog_7_method_1_code 71 = .ok (.bipush 13, 2) := by decide +kernel
theorem dM_init_73 : decode prog_7_method_1_code 73 = .ok (.newarray .int, 2) := by decide +kernel
theorem dM_init_75 : decode prog_7_method_1_code 75 = .ok (.putfield 35, 3) := by decide +kernel
theorem dM_init_78 : decode prog_7_method_1_code 78 = .ok (.aload_n 0, 1) := by decide +kernel
theorem dM_init_79 : decode prog_7_method_1_code 79 = .ok (.bipush 6, 2) := by decide +kernel
theorem dM_init_81 : decode prog_7_method_1_code 81 = .ok (.newarray .int, 2) := by decide +kernel
theorem dM_init_83 : decode prog_7_method_1_code 83 = .ok (.putfield 38, 3) := by decide +kernel
theorem dM_init_86 : decode prog_7_method_1_code 86 = .ok (.aload_n 0, 1) := by decide +kernel
theorem dM_init_87 : decode prog_7_method_1_code 87 = .ok (.bipush 70, 2) := by decide +kernel
theorem dM_init_89 : decode prog_7_method_1_code 89 = .ok (.newarray .int, 2) := by decide +kernel
theorem dM_init_91 : decode prog_7_method_1_code 91 = .ok (.putfield 41, 3) := by decide +kernel
theorem dM_init_94 : decode prog_7_method_1_code 94 = .ok (.aload_n 0, 1) := by decide +kernel
theorem dM_init_95 : decode prog_7_method_1_code 95 = .ok (.bipush 6, 2) := by decide +kernel
theorem dM_init_97 : decode prog_7_method_1_code 97 = .ok (.newarray .int, 2) := by decide +kernel
theorem dM_init_99 : decode prog_7_method_1_code 99 = .ok (.putfield 44, 3) := by decide +kernel
theorem dM_init_102 : decode prog_7_method_1_code 102 = .ok (.aload_n 0, 1) := by decide +kernel
theorem dM_init_103 : decode prog_7_method_1_code 103 = .ok (.bipush 12, 2) := by decide +kernel
theorem dM_init_105 : decode prog_7_method_1_code 105 = .ok (.newarray .int, 2) := by decide +kernel
theorem dM_init_107 : decode prog_7_method_1_code 107 = .ok (.putfield 47, 3) := by decide +kernel
theorem dM_init_110 : decode prog_7_method_1_code 110 = .ok (.aload_n 0, 1) := by decide +kernel
theorem dM_init_111 : decode prog_7_method_1_code 111 = .ok (.bipush 12, 2) := by decide +kernel
theorem dM_init_113 : decode prog_7_method_1_code 113 = .ok (.newarray .int, 2) := by decide +kernel
theorem dM_init_115 : decode prog_7_method_1_code 115 = .ok (.putfield 50, 3) := by decide +kernel
theorem dM_init_118 : decode prog_7_method_1_code 118 = .ok (.aload_n 0, 1) := by decide +kernel
theorem dM_init_119 : decode prog_7_method_1_code 119 = .ok (.bipush 67, 2) := by decide +kernel
theorem dM_init_121 : decode prog_7_method_1_code 121 = .ok (.newarray .int, 2) := by decide +kernel
theorem dM_init_123 : decode prog_7_method_1_code 123 = .ok (.putfield 53, 3) := by decide +kernel
theorem dM_init_126 : decode prog_7_method_1_code 126 = .ok (.iconst 0, 1) := by decide +kernel
theorem dM_init_127 : decode prog_7_method_1_code 127 = .ok (.istore_n 1, 1) := by decide +kernel
theorem dM_init_128 : decode prog_7_method_1_code 128 = .ok (.iload_n 1, 1) := by decide +kernel
theorem dM_init_129 : decode prog_7_method_1_code 129 = .ok (.bipush 67, 2) := by decide +kernel
theorem dM_init_131 : decode prog_7_method_1_code 131 = .ok (.if_icmp .ge 16, 3) := by decide +kernel
theorem dM_init_134 : decode prog_7_method_1_code 134 = .ok (.aload_n 0, 1) := by decide +kernel
theorem dM_init_135 : decode prog_7_method_1_code 135 = .ok (.getfield 7, 3) := by decide +kernel
theorem dM_init_138 : decode prog_7_method_1_code 138 = .ok (.iload_n 1, 1) := by decide +kernel
theorem dM_init_139 : decode prog_7_method_1_code 139 = .ok (.iconst (-1), 1) := by decide +kernel
theorem dM_init_140 : decode prog_7_method_1_code 140 = .ok (.iastore, 1) := by decide +kernel
theorem dM_init_141 : decode prog_7_method_1_code 141 = .ok (.iinc 1 1, 3) := by decide +kernel
theorem dM_init_144 : decode prog_7_method_1_code 144 = .ok (.goto (-16), 3) := by decide +kernel
theorem dM_init_147 : decode prog_7_method_1_code 147 = .ok (.return_, 1) := by decide +kernel
theorem dM_thrown_0 : decode prog_7_method_2_code 0 = .ok (.aload_n 0, 1) := by decide +kernel
theorem dM_thrown_1 : decode prog_7_method_2_code 1 = .ok (.getfield 56, 3) := by decide +kernel
theorem dM_thrown_4 : decode prog_7_method_2_code 4 = .ok (.ireturn, 1) := by decide +kernel
theorem dM_isArea_0 : decode prog_7_method_3_code 0 = .ok (.iload_n 1, 1) := by decide +kernel
theorem dM_isArea_1 : decode prog_7_method_3_code 1 = .ok (.ifCond .eq 23, 3) := by decide +kernel
theorem dM_isArea_4 : decode prog_7_method_3_code 4 = .ok (.iload_n 1, 1) := by decide +kernel
theorem dM_isArea_5 : decode prog_7_method_3_code 5 = .ok (.ifCond .le 23, 3) := by decide +kernel
theorem dM_isArea_8 : decode prog_7_method_3_code 8 = .ok (.iload_n 1, 1) := by decide +kernel
theorem dM_isArea_9 : decode prog_7_method_3_code 9 = .ok (.bipush 13, 2) := by decide +kernel
theorem dM_isArea_11 : decode prog_7_method_3_code 11 = .ok (.if_icmp .ge 17, 3) := by decide +kernel
theorem dM_isArea_14 : decode prog_7_method_3_code 14 = .ok (.aload_n 0, 1) := by decide +kernel
theorem dM_isArea_15 : decode prog_7_method_3_code 15 = .ok (.getfield 7, 3) := by decide +kernel
theorem dM_isArea_18 : decode prog_7_method_3_code 18 = .ok (.iload_n 1, 1) := by decide +kernel
theorem dM_isArea_19 : decode prog_7_method_3_code 19 = .ok (.iaload, 1) := by decide +kernel
theorem dM_isArea_20 : decode prog_7_method_3_code 20 = .ok (.iconst (-1), 1) := by decide +kernel
theorem dM_isArea_21 : decode prog_7_method_3_code 21 = .ok (.if_icmp .eq 7, 3) := by decide +kernel
theorem dM_isArea_24 : decode prog_7_method_3_code 24 = .ok (.iconst 1, 1) := by decide +kernel
theorem dM_isArea_25 : decode prog_7_method_3_code 25 = .ok (.goto 4, 3) := by decide +kernel
theorem dM_isArea_28 : decode prog_7_method_3_code 28 = .ok (.iconst 0, 1) := by decide +kernel
theorem dM_isArea_29 : decode prog_7_method_3_code 29 = .ok (.ireturn, 1) := by decide +kernel
theorem dM_isCut_0 : decode prog_7_method_4_code 0 = .ok (.iload_n 1, 1) := by decide +kernel
theorem dM_isCut_1 : decode prog_7_method_4_code 1 = .ok (.ifCond .le 15, 3) := by decide +kernel
theorem dM_isCut_4 : decode prog_7_method_4_code 4 = .ok (.aload_n 0, 1) := by decide +kernel
theorem dM_isCut_5 : decode prog_7_method_4_code 5 = .ok (.iload_n 1, 1) := by decide +kernel
theorem dM_isCut_6 : decode prog_7_method_4_code 6 = .ok (.invokevirtual 60, 3) := by decide +kernel
theorem dM_isCut_9 : decode prog_7_method_4_code 9 = .ok (.ifCond .eq 7, 3) := by decide +kernel
theorem dM_isCut_12 : decode prog_7_method_4_code 12 = .ok (.iconst 1, 1) := by decide +kernel
theorem dM_isCut_13 : decode prog_7_method_4_code 13 = .ok (.goto 4, 3) := by decide +kernel
theorem dM_isCut_16 : decode prog_7_method_4_code 16 = .ok (.iconst 0, 1) := by decide +kernel
theorem dM_isCut_17 : decode prog_7_method_4_code 17 = .ok (.ireturn, 1) := by decide +kernel
theorem dM_isLine_0 : decode prog_7_method_5_code 0 = .ok (.iload_n 1, 1) := by decide +kernel
theorem dM_isLine_1 : decode prog_7_method_5_code 1 = .ok (.ifCond .lt 26, 3) := by decide +kernel
theorem dM_isLine_4 : decode prog_7_method_5_code 4 = .ok (.iload_n 1, 1) := by decide +kernel
theorem dM_isLine_5 : decode prog_7_method_5_code 5 = .ok (.bipush 6, 2) := by decide +kernel
theorem dM_isLine_7 : decode prog_7_method_5_code 7 = .ok (.if_icmp .ge 20, 3) := by decide +kernel
theorem dM_isLine_10 : decode prog_7_method_5_code 10 = .ok (.aload_n 0, 1) := by decide +kernel
theorem dM_isLine_11 : decode prog_7_method_5_code 11 = .ok (.getfield 7, 3) := by decide +kernel
theorem dM_isLine_14 : decode prog_7_method_5_code 14 = .ok (.bipush 13, 2) := by decide +kernel
theorem dM_isLine_16 : decode prog_7_method_5_code 16 = .ok (.iload_n 1, 1) := by decide +kernel
theorem dM_isLine_17 : decode prog_7_method_5_code 17 = .ok (.iadd, 1) := by decide +kernel
theorem dM_isLine_18 : decode prog_7_method_5_code 18 = .ok (.iaload, 1) := by decide +kernel
theorem dM_isLine_19 : decode prog_7_method_5_code 19 = .ok (.iconst (-1), 1) := by decide +kernel
theorem dM_isLine_20 : decode prog_7_method_5_code 20 = .ok (.if_icmp .eq 7, 3) := by decide +kernel
theorem dM_isLine_23 : decode prog_7_method_5_code 23 = .ok (.iconst 1, 1) := by decide +kernel
theorem dM_isLine_24 : decode prog_7_method_5_code 24 = .ok (.goto 4, 3) := by decide +kernel
theorem dM_isLine_27 : decode prog_7_method_5_code 27 = .ok (.iconst 0, 1) := by decide +kernel
theorem dM_isLine_28 : decode prog_7_method_5_code 28 = .ok (.ireturn, 1) := by decide +kernel
theorem dM_isSpot_0 : decode prog_7_method_6_code 0 = .ok (.iload_n 1, 1) := by decide +kernel
theorem dM_isSpot_1 : decode prog_7_method_6_code 1 = .ok (.ifCond .lt 26, 3) := by decide +kernel
theorem dM_isSpot_4 : decode prog_7_method_6_code 4 = .ok (.iload_n 1, 1) := by decide +kernel
theorem dM_isSpot_5 : decode prog_7_method_6_code 5 = .ok (.bipush 12, 2) := by decide +kernel
theorem dM_isSpot_7 : decode prog_7_method_6_code 7 = .ok (.if_icmp .ge 20, 3) := by decide +kernel
theorem dM_isSpot_10 : decode prog_7_method_6_code 10 = .ok (.aload_n 0, 1) := by decide +kernel
theorem dM_isSpot_11 : decode prog_7_method_6_code 11 = .ok (.getfield 7, 3) := by decide +kernel
theorem dM_isSpot_14 : decode prog_7_method_6_code 14 = .ok (.bipush 19, 2) := by decide +kernel
theorem dM_isSpot_16 : decode prog_7_method_6_code 16 = .ok (.iload_n 1, 1) := by decide +kernel
theorem dM_isSpot_17 : decode prog_7_method_6_code 17 = .ok (.iadd, 1) := by decide +kernel
theorem dM_isSpot_18 : decode prog_7_method_6_code 18 = .ok (.iaload, 1) := by decide +kernel
theorem dM_isSpot_19 : decode prog_7_method_6_code 19 = .ok (.iconst (-1), 1) := by decide +kernel
theorem dM_isSpot_20 : decode prog_7_method_6_code 20 = .ok (.if_icmp .eq 7, 3) := by decide +kernel
theorem dM_isSpot_23 : decode prog_7_method_6_code 23 = .ok (.iconst 1, 1) := by decide +kernel
theorem dM_isSpot_24 : decode prog_7_method_6_code 24 = .ok (.goto 4, 3) := by decide +kernel
theorem dM_isSpot_27 : decode prog_7_method_6_code 27 = .ok (.iconst 0, 1) := by decide +kernel
theorem dM_isSpot_28 : decode prog_7_method_6_code 28 = .ok (.ireturn, 1) := by decide +kernel
theorem dM_isWithin_0 : decode prog_7_method_7_code 0 = .ok (.iload_n 1, 1) := by decide +kernel
theorem dM_isWithin_1 : decode prog_7_method_7_code 1 = .ok (.istore_n 3, 1) := by decide +kernel
theorem dM_isWithin_2 : decode prog_7_method_7_code 2 = .ok (.iload_n 3, 1) := by decide +kernel
theorem dM_isWithin_3 : decode prog_7_method_7_code 3 = .ok (.iload_n 2, 1) := by decide +kernel
theorem dM_isWithin_4 : decode prog_7_method_7_code 4 = .ok (.if_icmp .eq 17, 3) := by decide +kernel
theorem dM_isWithin_7 : decode prog_7_method_7_code 7 = .ok (.iload_n 3, 1) := by decide +kernel
theorem dM_isWithin_8 : decode prog_7_method_7_code 8 = .ok (.ifCond .eq 13, 3) := by decide +kernel
theorem dM_isWithin_11 : decode prog_7_method_7_code 11 = .ok (.aload_n 0, 1) := by decide +kernel
theorem dM_isWithin_12 : decode prog_7_method_7_code 12 = .ok (.getfield 7, 3) := by decide +kernel
theorem dM_isWithin_15 : decode prog_7_method_7_code 15 = .ok (.iload_n 3, 1) := by decide +kernel
theorem dM_isWithin_16 : decode prog_7_method_7_code 16 = .ok (.iaload, 1) := by decide +kernel
theorem dM_isWithin_17 : decode prog_7_method_7_code 17 = .ok (.istore_n 3, 1) := by decide +kernel
theorem dM_isWithin_18 : decode prog_7_method_7_code 18 = .ok (.goto (-16), 3) := by decide +kernel
theorem dM_isWithin_21 : decode prog_7_method_7_code 21 = .ok (.iload_n 3, 1) := by decide +kernel
theorem dM_isWithin_22 : decode prog_7_method_7_code 22 = .ok (.iload_n 2, 1) := by decide +kernel
theorem dM_isWithin_23 : decode prog_7_method_7_code 23 = .ok (.if_icmp .ne 7, 3) := by decide +kernel
theorem dM_isWithin_26 : decode prog_7_method_7_code 26 = .ok (.iconst 1, 1) := by decide +kernel
theorem dM_isWithin_27 : decode prog_7_method_7_code 27 = .ok (.goto 4, 3) := by decide +kernel
theorem dM_isWithin_30 : decode prog_7_method_7_code 30 = .ok (.iconst 0, 1) := by decide +kernel
theorem dM_isWithin_31 : decode prog_7_method_7_code 31 = .ok (.ireturn, 1) := by decide +kernel
theorem dM_depthOf_0 : decode prog_7_method_8_code 0 = .ok (.iconst 0, 1) := by decide +kernel
theorem dM_depthOf_1 : decode prog_7_method_8_code 1 = .ok (.istore_n 2, 1) := by decide +kernel
theorem dM_depthOf_2 : decode prog_7_method_8_code 2 = .ok (.iload_n 1, 1) := by decide +kernel
theorem dM_depthOf_3 : decode prog_7_method_8_code 3 = .ok (.istore_n 3, 1) := by decide +kernel
theorem dM_depthOf_4 : decode prog_7_method_8_code 4 = .ok (.iload_n 3, 1) := by decide +kernel
theorem dM_depthOf_5 : decode prog_7_method_8_code 5 = .ok (.ifCond .eq 16, 3) := by decide +kernel
theorem dM_depthOf_8 : decode prog_7_method_8_code 8 = .ok (.iinc 2 1, 3) := by decide +kernel
theorem dM_depthOf_11 : decode prog_7_method_8_code 11 = .ok (.aload_n 0, 1) := by decide +kernel
theorem dM_depthOf_12 : decode prog_7_method_8_code 12 = .ok (.getfield 7, 3) := by decide +kernel
theorem dM_depthOf_15 : decode prog_7_method_8_code 15 = .ok (.iload_n 3, 1) := by decide +kernel
theorem dM_depthOf_16 : decode prog_7_method_8_code 16 = .ok (.iaload, 1) := by decide +kernel
theorem dM_depthOf_17 : decode prog_7_method_8_code 17 = .ok (.istore_n 3, 1) := by decide +kernel
theorem dM_depthOf_18 : decode prog_7_method_8_code 18 = .ok (.goto (-14), 3) := by decide +kernel
theorem dM_depthOf_21 : decode prog_7_method_8_code 21 = .ok (.iload_n 2, 1) := by decide +kernel
theorem dM_depthOf_22 : decode prog_7_method_8_code 22 = .ok (.ireturn, 1) := by decide +kernel
theorem dM_places_0 : decode prog_7_method_9_code 0 = .ok (.iload_n 1, 1) := by decide +kernel
theorem dM_places_1 : decode prog_7_method_9_code 1 = .ok (.iconst 2, 1) := by decide +kernel
theorem dM_places_2 : decode prog_7_method_9_code 2 = .ok (.if_icmp .ge 7, 3) := by decide +kernel
theorem dM_places_5 : decode prog_7_method_9_code 5 = .ok (.iconst 0, 1) := by decide +kernel
theorem dM_places_6 : decode prog_7_method_9_code 6 = .ok (.goto 6, 3) := by decide +kernel
theorem dM_places_9 : decode prog_7_method_9_code 9 = .ok (.iload_n 1, 1) := by decide +kernel
theorem dM_places_10 : decode prog_7_method_9_code 10 = .ok (.iconst 1, 1) := by decide +kernel
theorem dM_places_11 : decode prog_7_method_9_code 11 = .ok (.isub, 1) := by decide +kernel
theorem dM_places_12 : decode prog_7_method_9_code 12 = .ok (.ireturn, 1) := by decide +kernel
theorem dM_freeCut_0 : decode prog_7_method_10_code 0 = .ok (.iconst 1, 1) := by decide +kernel
theorem dM_freeCut_1 : decode prog_7_method_10_code 1 = .ok (.istore_n 1, 1) := by decide +kernel
theorem dM_freeCut_2 : decode prog_7_method_10_code 2 = .ok (.iload_n 1, 1) := by decide +kernel
theorem dM_freeCut_3 : decode prog_7_method_10_code 3 = .ok (.bipush 13, 2) := by decide +kernel
theorem dM_freeCut_5 : decode prog_7_method_10_code 5 = .ok (.if_icmp .ge 19, 3) := by decide +kernel
theorem dM_freeCut_8 : decode prog_7_method_10_code 8 = .ok (.aload_n 0, 1) := by decide +kernel
theorem dM_freeCut_9 : decode prog_7_method_10_code 9 = .ok (.getfield 7, 3) := by decide +kernel
theorem dM_freeCut_12 : decode prog_7_method_10_code 12 = .ok (.iload_n 1, 1) := by decide +kernel
theorem dM_freeCut_13 : decode prog_7_method_10_code 13 = .ok (.iaload, 1) := by decide +kernel
theorem dM_freeCut_14 : decode prog_7_method_10_code 14 = .ok (.iconst (-1), 1) := by decide +kernel
theorem dM_freeCut_15 : decode prog_7_method_10_code 15 = .ok (.if_icmp .eq 9, 3) := by decide +kernel
theorem dM_freeCut_18 : decode prog_7_method_10_code 18 = .ok (.iinc 1 1, 3) := by decide +kernel
theorem dM_freeCut_21 : decode prog_7_method_10_code 21 = .ok (.goto (-19), 3) := by decide +kernel
theorem dM_freeCut_24 : decode prog_7_method_10_code 24 = .ok (.iload_n 1, 1) := by decide +kernel
theorem dM_freeCut_25 : decode prog_7_method_10_code 25 = .ok (.ireturn, 1) := by decide +kernel
theorem dM_freeLine_0 : decode prog_7_method_11_code 0 = .ok (.iconst 0, 1) := by decide +kernel
theorem dM_freeLine_1 : decode prog_7_method_11_code 1 = .ok (.istore_n 1, 1) := by decide +kernel
theorem dM_freeLine_2 : decode prog_7_method_11_code 2 = .ok (.iload_n 1, 1) := by decide +kernel
theorem dM_freeLine_3 : decode prog_7_method_11_code 3 = .ok (.bipush 6, 2) := by decide +kernel
theorem dM_freeLine_5 : decode prog_7_method_11_code 5 = .ok (.if_icmp .ge 22, 3) := by decide +kernel
theorem dM_freeLine_8 : decode prog_7_method_11_code 8 = .ok (.aload_n 0, 1) := by decide +kernel
theorem dM_freeLine_9 : decode prog_7_method_11_code 9 = .ok (.getfield 7, 3) := by decide +kernel
theorem dM_freeLine_12 : decode prog_7_method_11_code 12 = .ok (.bipush 13, 2) := by decide +kernel
theorem dM_freeLine_14 : decode prog_7_method_11_code 14 = .ok (.iload_n 1, 1) := by decide +kernel
theorem dM_freeLine_15 : decode prog_7_method_11_code 15 = .ok (.iadd, 1) := by decide +kernel
theorem dM_freeLine_16 : decode prog_7_method_11_code 16 = .ok (.iaload, 1) := by decide +kernel
theorem dM_freeLine_17 : decode prog_7_method_11_code 17 = .ok (.iconst (-1), 1) := by decide +kernel
theorem dM_freeLine_18 : decode prog_7_method_11_code 18 = .ok (.if_icmp .eq 9, 3) := by decide +kernel
theorem dM_freeLine_21 : decode prog_7_method_11_code 21 = .ok (.iinc 1 1, 3) := by decide +kernel
theorem dM_freeLine_24 : decode prog_7_method_11_code 24 = .ok (.goto (-22), 3) := by decide +kernel
theorem dM_freeLine_27 : decode prog_7_method_11_code 27 = .ok (.iload_n 1, 1) := by decide +kernel
theorem dM_freeLine_28 : decode prog_7_method_11_code 28 = .ok (.ireturn, 1) := by decide +kernel
theorem dM_freeSpot_0 : decode prog_7_method_12_code 0 = .ok (.iconst 0, 1) := by decide +kernel
theorem dM_freeSpot_1 : decode prog_7_method_12_code 1 = .ok (.istore_n 1, 1) := by decide +kernel
theorem dM_freeSpot_2 : decode prog_7_method_12_code 2 = .ok (.iload_n 1, 1) := by decide +kernel
theorem dM_freeSpot_3 : decode prog_7_method_12_code 3 = .ok (.bipush 12, 2) := by decide +kernel
theorem dM_freeSpot_5 : decode prog_7_method_12_code 5 = .ok (.if_icmp .ge 22, 3) := by decide +kernel
theorem dM_freeSpot_8 : decode prog_7_method_12_code 8 = .ok (.aload_n 0, 1) := by decide +kernel
theorem dM_freeSpot_9 : decode prog_7_method_12_code 9 = .ok (.getfield 7, 3) := by decide +kernel
theorem dM_freeSpot_12 : decode prog_7_method_12_code 12 = .ok (.bipush 19, 2) := by decide +kernel
theorem dM_freeSpot_14 : decode prog_7_method_12_code 14 = .ok (.iload_n 1, 1) := by decide +kernel
theorem dM_freeSpot_15 : decode prog_7_method_12_code 15 = .ok (.iadd, 1) := by decide +kernel
theorem dM_freeSpot_16 : decode prog_7_method_12_code 16 = .ok (.iaload, 1) := by decide +kernel
theorem dM_freeSpot_17 : decode prog_7_method_12_code 17 = .ok (.iconst (-1), 1) := by decide +kernel
theorem dM_freeSpot_18 : decode prog_7_method_12_code 18 = .ok (.if_icmp .eq 9, 3) := by decide +kernel
theorem dM_freeSpot_21 : decode prog_7_method_12_code 21 = .ok (.iinc 1 1, 3) := by decide +kernel
theorem dM_freeSpot_24 : decode prog_7_method_12_code 24 = .ok (.goto (-22), 3) := by decide +kernel
theorem dM_freeSpot_27 : decode prog_7_method_12_code 27 = .ok (.iload_n 1, 1) := by decide +kernel
theorem dM_freeSpot_28 : decode prog_7_method_12_code 28 = .ok (.ireturn, 1) := by decide +kernel
theorem dM_amount_0 : decode prog_7_method_13_code 0 = .ok (.iconst 0, 1) := by decide +kernel
theorem dM_amount_1 : decode prog_7_method_13_code 1 = .ok (.istore_n 3, 1) := by decide +kernel
theorem dM_amount_2 : decode prog_7_method_13_code 2 = .ok (.iload_n 1, 1) := by decide +kernel
theorem dM_amount_3 : decode prog_7_method_13_code 3 = .ok (.istore 4, 2) := by decide +kernel
theorem dM_amount_5 : decode prog_7_method_13_code 5 = .ok (.iload 4, 2) := by decide +kernel
theorem dM_amount_7 : decode prog_7_method_13_code 7 = .ok (.iload_n 2, 1) := by decide +kernel
theorem dM_amount_8 : decode prog_7_method_13_code 8 = .ok (.if_icmp .ge 28, 3) := by decide +kernel
theorem dM_amount_11 : decode prog_7_method_13_code 11 = .ok (.iload_n 3, 1) := by decide +kernel
theorem dM_amount_12 : decode prog_7_method_13_code 12 = .ok (.aload_n 0, 1) := by decide +kernel
theorem dM_amount_13 : decode prog_7_method_13_code 13 = .ok (.getfield 7, 3) := by decide +kernel
theorem dM_amount_16 : decode prog_7_method_13_code 16 = .ok (.iload 4, 2) := by decide +kernel
theorem dM_amount_18 : decode prog_7_method_13_code 18 = .ok (.iaload, 1) := by decide +kernel
theorem dM_amount_19 : decode prog_7_method_13_code 19 = .ok (.iconst (-1), 1) := by decide +kernel
theorem dM_amount_20 : decode prog_7_method_13_code 20 = .ok (.if_icmp .eq 7, 3) := by decide +kernel
theorem dM_amount_23 : decode prog_7_method_13_code 23 = .ok (.iconst 1, 1) := by decide +kernel
theorem dM_amount_24 : decode prog_7_method_13_code 24 = .ok (.goto 4, 3) := by decide +kernel
theorem dM_amount_27 : decode prog_7_method_13_code 27 = .ok (.iconst 0, 1) := by decide +kernel
theorem dM_amount_28 : decode prog_7_method_13_code 28 = .ok (.iadd, 1) := by decide +kernel
theorem dM_amount_29 : decode prog_7_method_13_code 29 = .ok (.istore_n 3, 1) := by decide +kernel
theorem dM_amount_30 : decode prog_7_method_13_code 30 = .ok (.iinc 4 1, 3) := by decide +kernel
theorem dM_amount_33 : decode prog_7_method_13_code 33 = .ok (.goto (-28), 3) := by decide +kernel
theorem dM_amount_36 : decode prog_7_method_13_code 36 = .ok (.iload_n 3, 1) := by decide +kernel
theorem dM_amount_37 : decode prog_7_method_13_code 37 = .ok (.ireturn, 1) := by decide +kernel
theorem dM_keep_0 : decode prog_7_method_14_code 0 = .ok (.aload_n 0, 1) := by decide +kernel
theorem dM_keep_1 : decode prog_7_method_14_code 1 = .ok (.getfield 64, 3) := by decide +kernel
theorem dM_keep_4 : decode prog_7_method_14_code 4 = .ok (.ifCond .eq 47, 3) := by decide +kernel
theorem dM_keep_7 : decode prog_7_method_14_code 7 = .ok (.iconst 0, 1) := by decide +kernel
theorem dM_keep_8 : decode prog_7_method_14_code 8 = .ok (.istore_n 1, 1) := by decide +kernel
theorem dM_keep_9 : decode prog_7_method_14_code 9 = .ok (.iload_n 1, 1) := by decide +kernel
theorem dM_keep_10 : decode prog_7_method_14_code 10 = .ok (.bipush 67, 2) := by decide +kernel
theorem dM_keep_12 : decode prog_7_method_14_code 12 = .ok (.if_icmp .ge 29, 3) := by decide +kernel
theorem dM_keep_15 : decode prog_7_method_14_code 15 = .ok (.aload_n 0, 1) := by decide +kernel
theorem dM_keep_16 : decode prog_7_method_14_code 16 = .ok (.getfield 13, 3) := by decide +kernel
theorem dM_keep_19 : decode prog_7_method_14_code 19 = .ok (.bipush 67, 2) := by decide +kernel
theorem dM_keep_21 : decode prog_7_method_14_code 21 = .ok (.aload_n 0, 1) := by decide +kernel
theorem dM_keep_22 : decode prog_7_method_14_code 22 = .ok (.getfield 68, 3) := by decide +kernel
theorem dM_keep_25 : decode prog_7_method_14_code 25 = .ok (.imul, 1) := by decide +kernel
theorem dM_keep_26 : decode prog_7_method_14_code 26 = .ok (.iload_n 1, 1) := by decide +kernel
theorem dM_keep_27 : decode prog_7_method_14_code 27 = .ok (.iadd, 1) := by decide +kernel
theorem dM_keep_28 : decode prog_7_method_14_code 28 = .ok (.aload_n 0, 1) := by decide +kernel
theorem dM_keep_29 : decode prog_7_method_14_code 29 = .ok (.getfield 7, 3) := by decide +kernel
theorem dM_keep_32 : decode prog_7_method_14_code 32 = .ok (.iload_n 1, 1) := by decide +kernel
theorem dM_keep_33 : decode prog_7_method_14_code 33 = .ok (.iaload, 1) := by decide +kernel
theorem dM_keep_34 : decode prog_7_method_14_code 34 = .ok (.iastore, 1) := by decide +kernel
theorem dM_keep_35 : decode prog_7_method_14_code 35 = .ok (.iinc 1 1, 3) := by decide +kernel
theorem dM_keep_38 : decode prog_7_method_14_code 38 = .ok (.goto (-29), 3) := by decide +kernel
theorem dM_keep_41 : decode prog_7_method_14_code 41 = .ok (.aload_n 0, 1) := by decide +kernel
theorem dM_keep_42 : decode prog_7_method_14_code 42 = .ok (.dup, 1) := by decide +kernel
theorem dM_keep_43 : decode prog_7_method_14_code 43 = .ok (.getfield 68, 3) := by decide +kernel
theorem dM_keep_46 : decode prog_7_method_14_code 46 = .ok (.iconst 1, 1) := by decide +kernel
theorem dM_keep_47 : decode prog_7_method_14_code 47 = .ok (.iadd, 1) := by decide +kernel
theorem dM_keep_48 : decode prog_7_method_14_code 48 = .ok (.putfield 68, 3) := by decide +kernel
theorem dM_keep_51 : decode prog_7_method_14_code 51 = .ok (.return_, 1) := by decide +kernel
theorem dM_checked_0 : decode prog_7_method_15_code 0 = .ok (.aload_n 0, 1) := by decide +kernel
theorem dM_checked_1 : decode prog_7_method_15_code 1 = .ok (.getfield 64, 3) := by decide +kernel
theorem dM_checked_4 : decode prog_7_method_15_code 4 = .ok (.ifCond .eq 17, 3) := by decide +kernel
theorem dM_checked_7 : decode prog_7_method_15_code 7 = .ok (.aload_n 0, 1) := by decide +kernel
theorem dM_checked_8 : decode prog_7_method_15_code 8 = .ok (.iload_n 1, 1) := by decide +kernel
theorem dM_checked_9 : decode prog_7_method_15_code 9 = .ok (.invokevirtual 71, 3) := by decide +kernel
theorem dM_checked_12 : decode prog_7_method_15_code 12 = .ok (.iconst 2, 1) := by decide +kernel
theorem dM_checked_13 : decode prog_7_method_15_code 13 = .ok (.irem, 1) := by decide +kernel
theorem dM_checked_14 : decode prog_7_method_15_code 14 = .ok (.ifCond .ne 7, 3) := by decide +kernel
theorem dM_checked_17 : decode prog_7_method_15_code 17 = .ok (.iconst 2, 1) := by decide +kernel
theorem dM_checked_18 : decode prog_7_method_15_code 18 = .ok (.goto 28, 3) := by decide +kernel
theorem dM_checked_21 : decode prog_7_method_15_code 21 = .ok (.iload_n 2, 1) := by decide +kernel
theorem dM_checked_22 : decode prog_7_method_15_code 22 = .ok (.ifCond .ne 19, 3) := by decide +kernel
theorem dM_checked_25 : decode prog_7_method_15_code 25 = .ok (.aload_n 0, 1) := by decide +kernel
theorem dM_checked_26 : decode prog_7_method_15_code 26 = .ok (.getfield 64, 3) := by decide +kernel
theorem dM_checked_29 : decode prog_7_method_15_code 29 = .ok (.ifCond .eq 16, 3) := by decide +kernel
theorem dM_checked_32 : decode prog_7_method_15_code 32 = .ok (.aload_n 0, 1) := by decide +kernel
theorem dM_checked_33 : decode prog_7_method_15_code 33 = .ok (.getfield 68, 3) := by decide +kernel
theorem dM_checked_36 : decode prog_7_method_15_code 36 = .ok (.bipush 20, 2) := by decide +kernel
theorem dM_checked_38 : decode prog_7_method_15_code 38 = .ok (.if_icmp .ne 7, 3) := by decide +kernel
theorem dM_checked_41 : decode prog_7_method_15_code 41 = .ok (.iconst 3, 1) := by decide +kernel
theorem dM_checked_42 : decode prog_7_method_15_code 42 = .ok (.goto 4, 3) := by decide +kernel
theorem dM_checked_45 : decode prog_7_method_15_code 45 = .ok (.iconst 0, 1) := by decide +kernel
theorem dM_checked_46 : decode prog_7_method_15_code 46 = .ok (.ireturn, 1) := by decide +kernel
theorem dM_cut_0 : decode prog_7_method_16_code 0 = .ok (.aload_n 0, 1) := by decide +kernel
theorem dM_cut_1 : decode prog_7_method_16_code 1 = .ok (.aload_n 0, 1) := by decide +kernel
theorem dM_cut_2 : decode prog_7_method_16_code 2 = .ok (.iload_n 1, 1) := by decide +kernel
theorem dM_cut_3 : decode prog_7_method_16_code 3 = .ok (.invokevirtual 60, 3) := by decide +kernel
theorem dM_cut_6 : decode prog_7_method_16_code 6 = .ok (.ifCond .ne 7, 3) := by decide +kernel
theorem dM_cut_9 : decode prog_7_method_16_code 9 = .ok (.iconst 1, 1) := by decide +kernel
theorem dM_cut_10 : decode prog_7_method_16_code 10 = .ok (.goto 22, 3) := by decide +kernel
theorem dM_cut_13 : decode prog_7_method_16_code 13 = .ok (.aload_n 0, 1) := by decide +kernel
theorem dM_cut_14 : decode prog_7_method_16_code 14 = .ok (.iload_n 1, 1) := by decide +kernel
theorem dM_cut_15 : decode prog_7_method_16_code 15 = .ok (.aload_n 0, 1) := by decide +kernel
theorem dM_cut_16 : decode prog_7_method_16_code 16 = .ok (.invokevirtual 75, 3) := by decide +kernel
theorem dM_cut_19 : decode prog_7_method_16_code 19 = .ok (.bipush 13, 2) := by decide +kernel
theorem dM_cut_21 : decode prog_7_method_16_code 21 = .ok (.if_icmp .ne 7, 3) := by decide +kernel
theorem dM_cut_24 : decode prog_7_method_16_code 24 = .ok (.iconst 1, 1) := by decide +kernel
theorem dM_cut_25 : decode prog_7_method_16_code 25 = .ok (.goto 4, 3) := by decide +kernel
theorem dM_cut_28 : decode prog_7_method_16_code 28 = .ok (.iconst 0, 1) := by decide +kernel
theorem dM_cut_29 : decode prog_7_method_16_code 29 = .ok (.invokevirtual 79, 3) := by decide +kernel
theorem dM_cut_32 : decode prog_7_method_16_code 32 = .ok (.putfield 56, 3) := by decide +kernel
theorem dM_cut_35 : decode prog_7_method_16_code 35 = .ok (.aload_n 0, 1) := by decide +kernel
theorem dM_cut_36 : decode prog_7_method_16_code 36 = .ok (.getfield 56, 3) := by decide +kernel
theorem dM_cut_39 : decode prog_7_method_16_code 39 = .ok (.ifCond .eq 5, 3) := by decide +kernel
theorem dM_cut_42 : decode prog_7_method_16_code 42 = .ok (.iconst 0, 1) := by decide +kernel
theorem dM_cut_43 : decode prog_7_method_16_code 43 = .ok (.ireturn, 1) := by decide +kernel
theorem dM_cut_44 : decode prog_7_method_16_code 44 = .ok (.aload_n 0, 1) := by decide +kernel
theorem dM_cut_45 : decode prog_7_method_16_code 45 = .ok (.invokevirtual 83, 3) := by decide +kernel
theorem dM_cut_48 : decode prog_7_method_16_code 48 = .ok (.aload_n 0, 1) := by decide +kernel
theorem dM_cut_49 : decode prog_7_method_16_code 49 = .ok (.invokevirtual 75, 3) := by decide +kernel
theorem dM_cut_52 : decode prog_7_method_16_code 52 = .ok (.istore_n 2, 1) := by decide +kernel
theorem dM_cut_53 : decode prog_7_method_16_code 53 = .ok (.aload_n 0, 1) := by decide +kernel
theorem dM_cut_54 : decode prog_7_method_16_code 54 = .ok (.getfield 7, 3) := by decide +kernel
theorem dM_cut_57 : decode prog_7_method_16_code 57 = .ok (.iload_n 2, 1) := by decide +kernel
theorem dM_cut_58 : decode prog_7_method_16_code 58 = .ok (.iload_n 1, 1) := by decide +kernel
theorem dM_cut_59 : decode prog_7_method_16_code 59 = .ok (.iastore, 1) := by decide +kernel
theorem dM_cut_60 : decode prog_7_method_16_code 60 = .ok (.iload_n 2, 1) := by decide +kernel
theorem dM_cut_61 : decode prog_7_method_16_code 61 = .ok (.ireturn, 1) := by decide +kernel
theorem dM_line_0 : decode prog_7_method_17_code 0 = .ok (.aload_n 0, 1) := by decide +kernel
theorem dM_line_1 : decode prog_7_method_17_code 1 = .ok (.aload_n 0, 1) := by decide +kernel
theorem dM_line_2 : decode prog_7_method_17_code 2 = .ok (.iload_n 1, 1) := by decide +kernel
theorem dM_line_3 : decode prog_7_method_17_code 3 = .ok (.invokevirtual 60, 3) := by decide +kernel
theorem dM_line_6 : decode prog_7_method_17_code 6 = .ok (.ifCond .ne 7, 3) := by decide +kernel
theorem dM_line_9 : decode prog_7_method_17_code 9 = .ok (.iconst 1, 1) := by decide +kernel
theorem dM_line_10 : decode prog_7_method_17_code 10 = .ok (.goto 22, 3) := by decide +kernel
theorem dM_line_13 : decode prog_7_method_17_code 13 = .ok (.aload_n 0, 1) := by decide +kernel
theorem dM_line_14 : decode prog_7_method_17_code 14 = .ok (.iload_n 1, 1) := by decide +kernel
theorem dM_line_15 : decode prog_7_method_17_code 15 = .ok (.aload_n 0, 1) := by decide +kernel
theorem dM_line_16 : decode prog_7_method_17_code 16 = .ok (.invokevirtual 86, 3) := by decide +kernel
theorem dM_line_19 : decode prog_7_method_17_code 19 = .ok (.bipush 6, 2) := by decide +kernel
theorem dM_line_21 : decode prog_7_method_17_code 21 = .ok (.if_icmp .ne 7, 3) := by decide +kernel
theorem dM_line_24 : decode prog_7_method_17_code 24 = .ok (.iconst 1, 1) := by decide +kernel
theorem dM_line_25 : decode prog_7_method_17_code 25 = .ok (.goto 4, 3) := by decide +kernel
theorem dM_line_28 : decode prog_7_method_17_code 28 = .ok (.iconst 0, 1) := by decide +kernel
theorem dM_line_29 : decode prog_7_method_17_code 29 = .ok (.invokevirtual 79, 3) := by decide +kernel
theorem dM_line_32 : decode prog_7_method_17_code 32 = .ok (.putfield 56, 3) := by decide +kernel
theorem dM_line_35 : decode prog_7_method_17_code 35 = .ok (.aload_n 0, 1) := by decide +kernel
theorem dM_line_36 : decode prog_7_method_17_code 36 = .ok (.getfield 56, 3) := by decide +kernel
theorem dM_line_39 : decode prog_7_method_17_code 39 = .ok (.ifCond .eq 5, 3) := by decide +kernel
theorem dM_line_42 : decode prog_7_method_17_code 42 = .ok (.iconst 0, 1) := by decide +kernel
theorem dM_line_43 : decode prog_7_method_17_code 43 = .ok (.ireturn, 1) := by decide +kernel
theorem dM_line_44 : decode prog_7_method_17_code 44 = .ok (.aload_n 0, 1) := by decide +kernel
theorem dM_line_45 : decode prog_7_method_17_code 45 = .ok (.invokevirtual 83, 3) := by decide +kernel
theorem dM_line_48 : decode prog_7_method_17_code 48 = .ok (.aload_n 0, 1) := by decide +kernel
theorem dM_line_49 : decode prog_7_method_17_code 49 = .ok (.invokevirtual 86, 3) := by decide +kernel
theorem dM_line_52 : decode prog_7_method_17_code 52 = .ok (.istore_n 2, 1) := by decide +kernel
theorem dM_line_53 : decode prog_7_method_17_code 53 = .ok (.aload_n 0, 1) := by decide +kernel
theorem dM_line_54 : decode prog_7_method_17_code 54 = .ok (.getfield 7, 3) := by decide +kernel
theorem dM_line_57 : decode prog_7_method_17_code 57 = .ok (.bipush 13, 2) := by decide +kernel
theorem dM_line_59 : decode prog_7_method_17_code 59 = .ok (.iload_n 2, 1) := by decide +kernel
theorem dM_line_60 : decode prog_7_method_17_code 60 = .ok (.iadd, 1) := by decide +kernel
theorem dM_line_61 : decode prog_7_method_17_code 61 = .ok (.iload_n 1, 1) := by decide +kernel
theorem dM_line_62 : decode prog_7_method_17_code 62 = .ok (.iastore, 1) := by decide +kernel
theorem dM_line_63 : decode prog_7_method_17_code 63 = .ok (.iload_n 2, 1) := by decide +kernel
theorem dM_line_64 : decode prog_7_method_17_code 64 = .ok (.ireturn, 1) := by decide +kernel
theorem dM_mayHook_0 : decode prog_7_method_18_code 0 = .ok (.aload_n 0, 1) := by decide +kernel
theorem dM_mayHook_1 : decode prog_7_method_18_code 1 = .ok (.iload_n 2, 1) := by decide +kernel
theorem dM_mayHook_2 : decode prog_7_method_18_code 2 = .ok (.invokevirtual 89, 3) := by decide +kernel
theorem dM_mayHook_5 : decode prog_7_method_18_code 5 = .ok (.ifCond .eq 24, 3) := by decide +kernel
theorem dM_mayHook_8 : decode prog_7_method_18_code 8 = .ok (.aload_n 0, 1) := by decide +kernel
theorem dM_mayHook_9 : decode prog_7_method_18_code 9 = .ok (.iload_n 1, 1) := by decide +kernel
theorem dM_mayHook_10 : decode prog_7_method_18_code 10 = .ok (.aload_n 0, 1) := by decide +kernel
theorem dM_mayHook_11 : decode prog_7_method_18_code 11 = .ok (.getfield 7, 3) := by decide +kernel
theorem dM_mayHook_14 : decode prog_7_method_18_code 14 = .ok (.bipush 13, 2) := by decide +kernel
theorem dM_mayHook_16 : decode prog_7_method_18_code 16 = .ok (.iload_n 2, 1) := by decide +kernel
theorem dM_mayHook_17 : decode prog_7_method_18_code 17 = .ok (.iadd, 1) := by decide +kernel
theorem dM_mayHook_18 : decode prog_7_method_18_code 18 = .ok (.iaload, 1) := by decide +kernel
theorem dM_mayHook_19 : decode prog_7_method_18_code 19 = .ok (.invokevirtual 92, 3) := by decide +kernel
theorem dM_mayHook_22 : decode prog_7_method_18_code 22 = .ok (.ifCond .eq 7, 3) := by decide +kernel
theorem dM_mayHook_25 : decode prog_7_method_18_code 25 = .ok (.iconst 1, 1) := by decide +kernel
theorem dM_mayHook_26 : decode prog_7_method_18_code 26 = .ok (.goto 4, 3) := by decide +kernel
theorem dM_mayHook_29 : decode prog_7_method_18_code 29 = .ok (.iconst 0, 1) := by decide +kernel
theorem dM_mayHook_30 : decode prog_7_method_18_code 30 = .ok (.ireturn, 1) := by decide +kernel
theorem dM_spot_0 : decode prog_7_method_19_code 0 = .ok (.aload_n 0, 1) := by decide +kernel
theorem dM_spot_1 : decode prog_7_method_19_code 1 = .ok (.iload_n 1, 1) := by decide +kernel
theorem dM_spot_2 : decode prog_7_method_19_code 2 = .ok (.invokevirtual 60, 3) := by decide +kernel
theorem dM_spot_5 : decode prog_7_method_19_code 5 = .ok (.ifCond .eq 12, 3) := by decide +kernel
theorem dM_spot_8 : decode prog_7_method_19_code 8 = .ok (.iload_n 2, 1) := by decide +kernel
theorem dM_spot_9 : decode prog_7_method_19_code 9 = .ok (.ifCond .lt 8, 3) := by decide +kernel
theorem dM_spot_12 : decode prog_7_method_19_code 12 = .ok (.iload_n 2, 1) := by decide +kernel
theorem dM_spot_13 : decode prog_7_method_19_code 13 = .ok (.iconst 3, 1) := by decide +kernel
theorem dM_spot_14 : decode prog_7_method_19_code 14 = .ok (.if_icmp .le 7, 3) := by decide +kernel
theorem dM_spot_17 : decode prog_7_method_19_code 17 = .ok (.iconst 1, 1) := by decide +kernel
theorem dM_spot_18 : decode prog_7_method_19_code 18 = .ok (.goto 4, 3) := by decide +kernel
theorem dM_spot_21 : decode prog_7_method_19_code 21 = .ok (.iconst 0, 1) := by decide +kernel
theorem dM_spot_22 : decode prog_7_method_19_code 22 = .ok (.istore 5, 2) := by decide +kernel
theorem dM_spot_24 : decode prog_7_method_19_code 24 = .ok (.iload 5, 2) := by decide +kernel
theorem dM_spot_26 : decode prog_7_method_19_code 26 = .ok (.ifCond .ne 39, 3) := by decide +kernel
theorem dM_spot_29 : decode prog_7_method_19_code 29 = .ok (.aload_n 0, 1) := by decide +kernel
theorem dM_spot_30 : decode prog_7_method_19_code 30 = .ok (.iload_n 2, 1) := by decide +kernel
theorem dM_spot_31 : decode prog_7_method_19_code 31 = .ok (.invokevirtual 96, 3) := by decide +kernel
theorem dM_spot_34 : decode prog_7_method_19_code 34 = .ok (.ifCond .le 12, 3) := by decide +kernel
theorem dM_spot_37 : decode prog_7_method_19_code 37 = .ok (.aload_n 0, 1) := by decide +kernel
theorem dM_spot_38 : decode prog_7_method_19_code 38 = .ok (.iload_n 1, 1) := by decide +kernel
theorem dM_spot_39 : decode prog_7_method_19_code 39 = .ok (.iload_n 3, 1) := by decide +kernel
theorem dM_spot_40 : decode prog_7_method_19_code 40 = .ok (.invokevirtual 99, 3) := by decide +kernel
theorem dM_spot_43 : decode prog_7_method_19_code 43 = .ok (.ifCond .eq 22, 3) := by decide +kernel
theorem dM_spot_46 : decode prog_7_method_19_code 46 = .ok (.aload_n 0, 1) := by decide +kernel
theorem dM_spot_47 : decode prog_7_method_19_code 47 = .ok (.iload_n 2, 1) := by decide +kernel
theorem dM_spot_48 : decode prog_7_method_19_code 48 = .ok (.invokevirtual 96, 3) := by decide +kernel
theorem dM_spot_51 : decode prog_7_method_19_code 51 = .ok (.iconst 1, 1) := by decide +kernel
theorem dM_spot_52 : decode prog_7_method_19_code 52 = .ok (.if_icmp .le 17, 3) := by decide +kernel
theorem dM_spot_55 : decode prog_7_method_19_code 55 = .ok (.aload_n 0, 1) := by decide +kernel
theorem dM_spot_56 : decode prog_7_method_19_code 56 = .ok (.iload_n 1, 1) := by decide +kernel
theorem dM_spot_57 : decode prog_7_method_19_code 57 = .ok (.iload 4, 2) := by decide +kernel
theorem dM_spot_59 : decode prog_7_method_19_code 59 = .ok (.invokevirtual 99, 3) := by decide +kernel
theorem dM_spot_62 : decode prog_7_method_19_code 62 = .ok (.ifCond .ne 7, 3) := by decide +kernel
theorem dM_spot_65 : decode prog_7_method_19_code 65 = .ok (.iconst 1, 1) := by decide +kernel
theorem dM_spot_66 : decode prog_7_method_19_code 66 = .ok (.goto 4, 3) := by decide +kernel
theorem dM_spot_69 : decode prog_7_method_19_code 69 = .ok (.iconst 0, 1) := by decide +kernel
theorem dM_spot_70 : decode prog_7_method_19_code 70 = .ok (.istore 5, 2) := by decide +kernel
theorem dM_spot_72 : decode prog_7_method_19_code 72 = .ok (.aload_n 0, 1) := by decide +kernel
theorem dM_spot_73 : decode prog_7_method_19_code 73 = .ok (.iload 5, 2) := by decide +kernel
theorem dM_spot_75 : decode prog_7_method_19_code 75 = .ok (.ifCond .eq 7, 3) := by decide +kernel
theorem dM_spot_78 : decode prog_7_method_19_code 78 = .ok (.iconst 1, 1) := by decide +kernel
theorem dM_spot_79 : decode prog_7_method_19_code 79 = .ok (.goto 22, 3) := by decide +kernel
theorem dM_spot_82 : decode prog_7_method_19_code 82 = .ok (.aload_n 0, 1) := by decide +kernel
theorem dM_spot_83 : decode prog_7_method_19_code 83 = .ok (.iload_n 1, 1) := by decide +kernel
theorem dM_spot_84 : decode prog_7_method_19_code 84 = .ok (.aload_n 0, 1) := by decide +kernel
theorem dM_spot_85 : decode prog_7_method_19_code 85 = .ok (.invokevirtual 102, 3) := by decide +kernel
theorem dM_spot_88 : decode prog_7_method_19_code 88 = .ok (.bipush 12, 2) := by decide +kernel
theorem dM_spot_90 : decode prog_7_method_19_code 90 = .ok (.if_icmp .ne 7, 3) := by decide +kernel
theorem dM_spot_93 : decode prog_7_method_19_code 93 = .ok (.iconst 1, 1) := by decide +kernel
theorem dM_spot_94 : decode prog_7_method_19_code 94 = .ok (.goto 4, 3) := by decide +kernel
theorem dM_spot_97 : decode prog_7_method_19_code 97 = .ok (.iconst 0, 1) := by decide +kernel
theorem dM_spot_98 : decode prog_7_method_19_code 98 = .ok (.invokevirtual 79, 3) := by decide +kernel
theorem dM_spot_101 : decode prog_7_method_19_code 101 = .ok (.putfield 56, 3) := by decide +kernel
theorem dM_spot_104 : decode prog_7_method_19_code 104 = .ok (.aload_n 0, 1) := by decide +kernel
theorem dM_spot_105 : decode prog_7_method_19_code 105 = .ok (.getfield 56, 3) := by decide +kernel
theorem dM_spot_108 : decode prog_7_method_19_code 108 = .ok (.ifCond .eq 5, 3) := by decide +kernel
theorem dM_spot_111 : decode prog_7_method_19_code 111 = .ok (.iconst 0, 1) := by decide +kernel
theorem dM_spot_112 : decode prog_7_method_19_code 112 = .ok (.ireturn, 1) := by decide +kernel
theorem dM_spot_113 : decode prog_7_method_19_code 113 = .ok (.aload_n 0, 1) := by decide +kernel
theorem dM_spot_114 : decode prog_7_method_19_code 114 = .ok (.invokevirtual 83, 3) := by decide +kernel
theorem dM_spot_117 : decode prog_7_method_19_code 117 = .ok (.aload_n 0, 1) := by decide +kernel
theorem dM_spot_118 : decode prog_7_method_19_code 118 = .ok (.invokevirtual 102, 3) := by decide +kernel
theorem dM_spot_121 : decode prog_7_method_19_code 121 = .ok (.istore 6, 2) := by decide +kernel
theorem dM_spot_123 : decode prog_7_method_19_code 123 = .ok (.aload_n 0, 1) := by decide +kernel
theorem dM_spot_124 : decode prog_7_method_19_code 124 = .ok (.getfield 7, 3) := by decide +kernel
theorem dM_spot_127 : decode prog_7_method_19_code 127 = .ok (.bipush 19, 2) := by decide +kernel
theorem dM_spot_129 : decode prog_7_method_19_code 129 = .ok (.iload 6, 2) := by decide +kernel
theorem dM_spot_131 : decode prog_7_method_19_code 131 = .ok (.iadd, 1) := by decide +kernel
theorem dM_spot_132 : decode prog_7_method_19_code 132 = .ok (.iload_n 1, 1) := by decide +kernel
theorem dM_spot_133 : decode prog_7_method_19_code 133 = .ok (.iastore, 1) := by decide +kernel
theorem dM_spot_134 : decode prog_7_method_19_code 134 = .ok (.aload_n 0, 1) := by decide +kernel
theorem dM_spot_135 : decode prog_7_method_19_code 135 = .ok (.getfield 7, 3) := by decide +kernel
theorem dM_spot_138 : decode prog_7_method_19_code 138 = .ok (.bipush 31, 2) := by decide +kernel
theorem dM_spot_140 : decode prog_7_method_19_code 140 = .ok (.iload 6, 2) := by decide +kernel
theorem dM_spot_142 : decode prog_7_method_19_code 142 = .ok (.iadd, 1) := by decide +kernel
theorem dM_spot_143 : decode prog_7_method_19_code 143 = .ok (.iload_n 2, 1) := by decide +kernel
theorem dM_spot_144 : decode prog_7_method_19_code 144 = .ok (.iastore, 1) := by decide +kernel
theorem dM_spot_145 : decode prog_7_method_19_code 145 = .ok (.aload_n 0, 1) := by decide +kernel
theorem dM_spot_146 : decode prog_7_method_19_code 146 = .ok (.getfield 7, 3) := by decide +kernel
theorem dM_spot_149 : decode prog_7_method_19_code 149 = .ok (.bipush 43, 2) := by decide +kernel
theorem dM_spot_151 : decode prog_7_method_19_code 151 = .ok (.iconst 2, 1) := by decide +kernel
theorem dM_spot_152 : decode prog_7_method_19_code 152 = .ok (.iload 6, 2) := by decide +kernel
theorem dM_spot_154 : decode prog_7_method_19_code 154 = .ok (.imul, 1) := by decide +kernel
theorem dM_spot_155 : decode prog_7_method_19_code 155 = .ok (.iadd, 1) := by decide +kernel
theorem dM_spot_156 : decode prog_7_method_19_code 156 = .ok (.aload_n 0, 1) := by decide +kernel
theorem dM_spot_157 : decode prog_7_method_19_code 157 = .ok (.iload_n 2, 1) := by decide +kernel
theorem dM_spot_158 : decode prog_7_method_19_code 158 = .ok (.invokevirtual 96, 3) := by decide +kernel
theorem dM_spot_161 : decode prog_7_method_19_code 161 = .ok (.ifCond .le 7, 3) := by decide +kernel
theorem dM_spot_164 : decode prog_7_method_19_code 164 = .ok (.iload_n 3, 1) := by decide +kernel
theorem dM_spot_165 : decode prog_7_method_19_code 165 = .ok (.goto 4, 3) := by decide +kernel
theorem dM_spot_168 : decode prog_7_method_19_code 168 = .ok (.iconst (-1), 1) := by decide +kernel
theorem dM_spot_169 : decode prog_7_method_19_code 169 = .ok (.iastore, 1) := by decide +kernel
theorem dM_spot_170 : decode prog_7_method_19_code 170 = .ok (.aload_n 0, 1) := by decide +kernel
theorem dM_spot_171 : decode prog_7_method_19_code 171 = .ok (.getfield 7, 3) := by decide +kernel
theorem dM_spot_174 : decode prog_7_method_19_code 174 = .ok (.bipush 43, 2) := by decide +kernel
theorem dM_spot_176 : decode prog_7_method_19_code 176 = .ok (.iconst 2, 1) := by decide +kernel
theorem dM_spot_177 : decode prog_7_method_19_code 177 = .ok (.iload 6, 2) := by decide +kernel
theorem dM_spot_179 : decode prog_7_method_19_code 179 = .ok (.imul, 1) := by decide +kernel
theorem dM_spot_180 : decode prog_7_method_19_code 180 = .ok (.iadd, 1) := by decide +kernel
theorem dM_spot_181 : decode prog_7_method_19_code 181 = .ok (.iconst 1, 1) := by decide +kernel
theorem dM_spot_182 : decode prog_7_method_19_code 182 = .ok (.iadd, 1) := by decide +kernel
theorem dM_spot_183 : decode prog_7_method_19_code 183 = .ok (.aload_n 0, 1) := by decide +kernel
theorem dM_spot_184 : decode prog_7_method_19_code 184 = .ok (.iload_n 2, 1) := by decide +kernel
theorem dM_spot_185 : decode prog_7_method_19_code 185 = .ok (.invokevirtual 96, 3) := by decide +kernel
theorem dM_spot_188 : decode prog_7_method_19_code 188 = .ok (.iconst 1, 1) := by decide +kernel
theorem dM_spot_189 : decode prog_7_method_19_code 189 = .ok (.if_icmp .le 8, 3) := by decide +kernel
theorem dM_spot_192 : decode prog_7_method_19_code 192 = .ok (.iload 4, 2) := by decide +kernel
theorem dM_spot_194 : decode prog_7_method_19_code 194 = .ok (.goto 4, 3) := by decide +kernel
theorem dM_spot_197 : decode prog_7_method_19_code 197 = .ok (.iconst (-1), 1) := by decide +kernel
theorem dM_spot_198 : decode prog_7_method_19_code 198 = .ok (.iastore, 1) := by decide +kernel
theorem dM_spot_199 : decode prog_7_method_19_code 199 = .ok (.iload 6, 2) := by decide +kernel
theorem dM_spot_201 : decode prog_7_method_19_code 201 = .ok (.ireturn, 1) := by decide +kernel
theorem dM_start_0 : decode prog_7_method_20_code 0 = .ok (.aload_n 0, 1) := by decide +kernel
theorem dM_start_1 : decode prog_7_method_20_code 1 = .ok (.aload_n 0, 1) := by decide +kernel
theorem dM_start_2 : decode prog_7_method_20_code 2 = .ok (.getfield 64, 3) := by decide +kernel
theorem dM_start_5 : decode prog_7_method_20_code 5 = .ok (.ifCond .eq 7, 3) := by decide +kernel
theorem dM_start_8 : decode prog_7_method_20_code 8 = .ok (.iconst 1, 1) := by decide +kernel
theorem dM_start_9 : decode prog_7_method_20_code 9 = .ok (.goto 4, 3) := by decide +kernel
theorem dM_start_12 : decode prog_7_method_20_code 12 = .ok (.iconst 0, 1) := by decide +kernel
theorem dM_start_13 : decode prog_7_method_20_code 13 = .ok (.putfield 56, 3) := by decide +kernel
theorem dM_start_16 : decode prog_7_method_20_code 16 = .ok (.aload_n 0, 1) := by decide +kernel
theorem dM_start_17 : decode prog_7_method_20_code 17 = .ok (.getfield 56, 3) := by decide +kernel
theorem dM_start_20 : decode prog_7_method_20_code 20 = .ok (.ifCond .ne 34, 3) := by decide +kernel
theorem dM_start_23 : decode prog_7_method_20_code 23 = .ok (.aload_n 0, 1) := by decide +kernel
theorem dM_start_24 : decode prog_7_method_20_code 24 = .ok (.iconst 1, 1) := by decide +kernel
theorem dM_start_25 : decode prog_7_method_20_code 25 = .ok (.putfield 64, 3) := by decide +kernel
theorem dM_start_28 : decode prog_7_method_20_code 28 = .ok (.iconst 0, 1) := by decide +kernel
theorem dM_start_29 : decode prog_7_method_20_code 29 = .ok (.istore_n 1, 1) := by decide +kernel
theorem dM_start_30 : decode prog_7_method_20_code 30 = .ok (.iload_n 1, 1) := by decide +kernel
theorem dM_start_31 : decode prog_7_method_20_code 31 = .ok (.bipush 67, 2) := by decide +kernel
theorem dM_start_33 : decode prog_7_method_20_code 33 = .ok (.if_icmp .ge 21, 3) := by decide +kernel
theorem dM_start_36 : decode prog_7_method_20_code 36 = .ok (.aload_n 0, 1) := by decide +kernel
theorem dM_start_37 : decode prog_7_method_20_code 37 = .ok (.getfield 13, 3) := by decide +kernel
theorem dM_start_40 : decode prog_7_method_20_code 40 = .ok (.iload_n 1, 1) := by decide +kernel
theorem dM_start_41 : decode prog_7_method_20_code 41 = .ok (.aload_n 0, 1) := by decide +kernel
theorem dM_start_42 : decode prog_7_method_20_code 42 = .ok (.getfield 7, 3) := by decide +kernel
theorem dM_start_45 : decode prog_7_method_20_code 45 = .ok (.iload_n 1, 1) := by decide +kernel
theorem dM_start_46 : decode prog_7_method_20_code 46 = .ok (.iaload, 1) := by decide +kernel
theorem dM_start_47 : decode prog_7_method_20_code 47 = .ok (.iastore, 1) := by decide +kernel
theorem dM_start_48 : decode prog_7_method_20_code 48 = .ok (.iinc 1 1, 3) := by decide +kernel
theorem dM_start_51 : decode prog_7_method_20_code 51 = .ok (.goto (-21), 3) := by decide +kernel
theorem dM_start_54 : decode prog_7_method_20_code 54 = .ok (.return_, 1) := by decide +kernel
theorem dM_removeSpot_0 : decode prog_7_method_21_code 0 = .ok (.aload_n 0, 1) := by decide +kernel
theorem dM_removeSpot_1 : decode prog_7_method_21_code 1 = .ok (.getfield 7, 3) := by decide +kernel
theorem dM_removeSpot_4 : decode prog_7_method_21_code 4 = .ok (.bipush 19, 2) := by decide +kernel
theorem dM_removeSpot_6 : decode prog_7_method_21_code 6 = .ok (.iload_n 1, 1) := by decide +kernel
theorem dM_removeSpot_7 : decode prog_7_method_21_code 7 = .ok (.iadd, 1) := by decide +kernel
theorem dM_removeSpot_8 : decode prog_7_method_21_code 8 = .ok (.iconst (-1), 1) := by decide +kernel
theorem dM_removeSpot_9 : decode prog_7_method_21_code 9 = .ok (.iastore, 1) := by decide +kernel
theorem dM_removeSpot_10 : decode prog_7_method_21_code 10 = .ok (.aload_n 0, 1) := by decide +kernel
theorem dM_removeSpot_11 : decode prog_7_method_21_code 11 = .ok (.getfield 7, 3) := by decide +kernel
theorem dM_removeSpot_14 : decode prog_7_method_21_code 14 = .ok (.bipush 31, 2) := by decide +kernel
theorem dM_removeSpot_16 : decode prog_7_method_21_code 16 = .ok (.iload_n 1, 1) := by decide +kernel
theorem dM_removeSpot_17 : decode prog_7_method_21_code 17 = .ok (.iadd, 1) := by decide +kernel
theorem dM_removeSpot_18 : decode prog_7_method_21_code 18 = .ok (.iconst (-1), 1) := by decide +kernel
theorem dM_removeSpot_19 : decode prog_7_method_21_code 19 = .ok (.iastore, 1) := by decide +kernel
theorem dM_removeSpot_20 : decode prog_7_method_21_code 20 = .ok (.aload_n 0, 1) := by decide +kernel
theorem dM_removeSpot_21 : decode prog_7_method_21_code 21 = .ok (.getfield 7, 3) := by decide +kernel
theorem dM_removeSpot_24 : decode prog_7_method_21_code 24 = .ok (.bipush 43, 2) := by decide +kernel
theorem dM_removeSpot_26 : decode prog_7_method_21_code 26 = .ok (.iconst 2, 1) := by decide +kernel
theorem dM_removeSpot_27 : decode prog_7_method_21_code 27 = .ok (.iload_n 1, 1) := by decide +kernel
theorem dM_removeSpot_28 : decode prog_7_method_21_code 28 = .ok (.imul, 1) := by decide +kernel
theorem dM_removeSpot_29 : decode prog_7_method_21_code 29 = .ok (.iadd, 1) := by decide +kernel
theorem dM_removeSpot_30 : decode prog_7_method_21_code 30 = .ok (.iconst (-1), 1) := by decide +kernel
theorem dM_removeSpot_31 : decode prog_7_method_21_code 31 = .ok (.iastore, 1) := by decide +kernel
theorem dM_removeSpot_32 : decode prog_7_method_21_code 32 = .ok (.aload_n 0, 1) := by decide +kernel
theorem dM_removeSpot_33 : decode prog_7_method_21_code 33 = .ok (.getfield 7, 3) := by decide +kernel
theorem dM_removeSpot_36 : decode prog_7_method_21_code 36 = .ok (.bipush 43, 2) := by decide +kernel
theorem dM_removeSpot_38 : decode prog_7_method_21_code 38 = .ok (.iconst 2, 1) := by decide +kernel
theorem dM_removeSpot_39 : decode prog_7_method_21_code 39 = .ok (.iload_n 1, 1) := by decide +kernel
theorem dM_removeSpot_40 : decode prog_7_method_21_code 40 = .ok (.imul, 1) := by decide +kernel
theorem dM_removeSpot_41 : decode prog_7_method_21_code 41 = .ok (.iadd, 1) := by decide +kernel
theorem dM_removeSpot_42 : decode prog_7_method_21_code 42 = .ok (.iconst 1, 1) := by decide +kernel
theorem dM_removeSpot_43 : decode prog_7_method_21_code 43 = .ok (.iadd, 1) := by decide +kernel
theorem dM_removeSpot_44 : decode prog_7_method_21_code 44 = .ok (.iconst (-1), 1) := by decide +kernel
theorem dM_removeSpot_45 : decode prog_7_method_21_code 45 = .ok (.iastore, 1) := by decide +kernel
theorem dM_removeSpot_46 : decode prog_7_method_21_code 46 = .ok (.return_, 1) := by decide +kernel
theorem dM_removeCut_0 : decode prog_7_method_22_code 0 = .ok (.iconst 0, 1) := by decide +kernel
theorem dM_removeCut_1 : decode prog_7_method_22_code 1 = .ok (.istore_n 2, 1) := by decide +kernel
theorem dM_removeCut_2 : decode prog_7_method_22_code 2 = .ok (.iload_n 2, 1) := by decide +kernel
theorem dM_removeCut_3 : decode prog_7_method_22_code 3 = .ok (.bipush 12, 2) := by decide +kernel
theorem dM_removeCut_5 : decode prog_7_method_22_code 5 = .ok (.if_icmp .ge 39, 3) := by decide +kernel
theorem dM_removeCut_8 : decode prog_7_method_22_code 8 = .ok (.aload_n 0, 1) := by decide +kernel
theorem dM_removeCut_9 : decode prog_7_method_22_code 9 = .ok (.iload_n 2, 1) := by decide +kernel
theorem dM_removeCut_10 : decode prog_7_method_22_code 10 = .ok (.invokevirtual 105, 3) := by decide +kernel
theorem dM_removeCut_13 : decode prog_7_method_22_code 13 = .ok (.ifCond .eq 25, 3) := by decide +kernel
theorem dM_removeCut_16 : decode prog_7_method_22_code 16 = .ok (.aload_n 0, 1) := by decide +kernel
theorem dM_removeCut_17 : decode prog_7_method_22_code 17 = .ok (.aload_n 0, 1) := by decide +kernel
theorem dM_removeCut_18 : decode prog_7_method_22_code 18 = .ok (.getfield 7, 3) := by decide +kernel
theorem dM_removeCut_21 : decode prog_7_method_22_code 21 = .ok (.bipush 19, 2) := by decide +kernel
theorem dM_removeCut_23 : decode prog_7_method_22_code 23 = .ok (.iload_n 2, 1) := by decide +kernel
theorem dM_removeCut_24 : decode prog_7_method_22_code 24 = .ok (.iadd, 1) := by decide +kernel
theorem dM_removeCut_25 : decode prog_7_method_22_code 25 = .ok (.iaload, 1) := by decide +kernel
theorem dM_removeCut_26 : decode prog_7_method_22_code 26 = .ok (.iload_n 1, 1) := by decide +kernel
theorem dM_removeCut_27 : decode prog_7_method_22_code 27 = .ok (.invokevirtual 92, 3) := by decide +kernel
theorem dM_removeCut_30 : decode prog_7_method_22_code 30 = .ok (.ifCond .eq 8, 3) := by decide +kernel
theorem dM_removeCut_33 : decode prog_7_method_22_code 33 = .ok (.aload_n 0, 1) := by decide +kernel
theorem dM_removeCut_34 : decode prog_7_method_22_code 34 = .ok (.iload_n 2, 1) := by decide +kernel
theorem dM_removeCut_35 : decode prog_7_method_22_code 35 = .ok (.invokevirtual 108, 3) := by decide +kernel
theorem dM_removeCut_38 : decode prog_7_method_22_code 38 = .ok (.iinc 2 1, 3) := by decide +kernel
theorem dM_removeCut_41 : decode prog_7_method_22_code 41 = .ok (.goto (-39), 3) := by decide +kernel
theorem dM_removeCut_44 : decode prog_7_method_22_code 44 = .ok (.iconst 0, 1) := by decide +kernel
theorem dM_removeCut_45 : decode prog_7_method_22_code 45 = .ok (.istore_n 2, 1) := by decide +kernel
theorem dM_removeCut_46 : decode prog_7_method_22_code 46 = .ok (.iload_n 2, 1) := by decide +kernel
theorem dM_removeCut_47 : decode prog_7_method_22_code 47 = .ok (.bipush 6, 2) := by decide +kernel
theorem dM_removeCut_49 : decode prog_7_method_22_code 49 = .ok (.if_icmp .ge 44, 3) := by decide +kernel
theorem dM_removeCut_52 : decode prog_7_method_22_code 52 = .ok (.aload_n 0, 1) := by decide +kernel
theorem dM_removeCut_53 : decode prog_7_method_22_code 53 = .ok (.iload_n 2, 1) := by decide +kernel
theorem dM_removeCut_54 : decode prog_7_method_22_code 54 = .ok (.invokevirtual 89, 3) := by decide +kernel
theorem dM_removeCut_57 : decode prog_7_method_22_code 57 = .ok (.ifCond .eq 30, 3) := by decide +kernel
theorem dM_removeCut_60 : decode prog_7_method_22_code 60 = .ok (.aload_n 0, 1) := by decide +kernel
theorem dM_removeCut_61 : decode prog_7_method_22_code 61 = .ok (.aload_n 0, 1) := by decide +kernel
theorem dM_removeCut_62 : decode prog_7_method_22_code 62 = .ok (.getfield 7, 3) := by decide +kernel
theorem dM_removeCut_65 : decode prog_7_method_22_code 65 = .ok (.bipush 13, 2) := by decide +kernel
theorem dM_removeCut_67 : decode prog_7_method_22_code 67 = .ok (.iload_n 2, 1) := by decide +kernel
theorem dM_removeCut_68 : decode prog_7_method_22_code 68 = .ok (.iadd, 1) := by decide +kernel
theorem dM_removeCut_69 : decode prog_7_method_22_code 69 = .ok (.iaload, 1) := by decide +kernel
theorem dM_removeCut_70 : decode prog_7_method_22_code 70 = .ok (.iload_n 1, 1) := by decide +kernel
theorem dM_removeCut_71 : decode prog_7_method_22_code 71 = .ok (.invokevirtual 92, 3) := by decide +kernel
theorem dM_removeCut_74 : decode prog_7_method_22_code 74 = .ok (.ifCond .eq 13, 3) := by decide +kernel
theorem dM_removeCut_77 : decode prog_7_method_22_code 77 = .ok (.aload_n 0, 1) := by decide +kernel
theorem dM_removeCut_78 : decode prog_7_method_22_code 78 = .ok (.getfield 7, 3) := by decide +kernel
theorem dM_removeCut_81 : decode prog_7_method_22_code 81 = .ok (.bipush 13, 2) := by decide +kernel
theorem dM_removeCut_83 : decode prog_7_method_22_code 83 = .ok (.iload_n 2, 1) := by decide +kernel
theorem dM_removeCut_84 : decode prog_7_method_22_code 84 = .ok (.iadd, 1) := by decide +kernel
theorem dM_removeCut_85 : decode prog_7_method_22_code 85 = .ok (.iconst (-1), 1) := by decide +kernel
theorem dM_removeCut_86 : decode prog_7_method_22_code 86 = .ok (.iastore, 1) := by decide +kernel
theorem dM_removeCut_87 : decode prog_7_method_22_code 87 = .ok (.iinc 2 1, 3) := by decide +kernel
theorem dM_removeCut_90 : decode prog_7_method_22_code 90 = .ok (.goto (-44), 3) := by decide +kernel
theorem dM_removeCut_93 : decode prog_7_method_22_code 93 = .ok (.iconst 1, 1) := by decide +kernel
theorem dM_removeCut_94 : decode prog_7_method_22_code 94 = .ok (.istore_n 2, 1) := by decide +kernel
theorem dM_removeCut_95 : decode prog_7_method_22_code 95 = .ok (.iload_n 2, 1) := by decide +kernel
theorem dM_removeCut_96 : decode prog_7_method_22_code 96 = .ok (.bipush 13, 2) := by decide +kernel
theorem dM_removeCut_98 : decode prog_7_method_22_code 98 = .ok (.if_icmp .ge 37, 3) := by decide +kernel
theorem dM_removeCut_101 : decode prog_7_method_22_code 101 = .ok (.aload_n 0, 1) := by decide +kernel
theorem dM_removeCut_102 : decode prog_7_method_22_code 102 = .ok (.getfield 35, 3) := by decide +kernel
theorem dM_removeCut_105 : decode prog_7_method_22_code 105 = .ok (.iload_n 2, 1) := by decide +kernel
theorem dM_removeCut_106 : decode prog_7_method_22_code 106 = .ok (.aload_n 0, 1) := by decide +kernel
theorem dM_removeCut_107 : decode prog_7_method_22_code 107 = .ok (.iload_n 2, 1) := by decide +kernel
theorem dM_removeCut_108 : decode prog_7_method_22_code 108 = .ok (.invokevirtual 112, 3) := by decide +kernel
theorem dM_removeCut_111 : decode prog_7_method_22_code 111 = .ok (.ifCond .eq 16, 3) := by decide +kernel
theorem dM_removeCut_114 : decode prog_7_method_22_code 114 = .ok (.aload_n 0, 1) := by decide +kernel
theorem dM_removeCut_115 : decode prog_7_method_22_code 115 = .ok (.iload_n 2, 1) := by decide +kernel
theorem dM_removeCut_116 : decode prog_7_method_22_code 116 = .ok (.iload_n 1, 1) := by decide +kernel
theorem dM_removeCut_117 : decode prog_7_method_22_code 117 = .ok (.invokevirtual 92, 3) := by decide +kernel
theorem dM_removeCut_120 : decode prog_7_method_22_code 120 = .ok (.ifCond .eq 7, 3) := by decide +kernel
theorem dM_removeCut_123 : decode prog_7_method_22_code 123 = .ok (.iconst 1, 1) := by decide +kernel
theorem dM_removeCut_124 : decode prog_7_method_22_code 124 = .ok (.goto 4, 3) := by decide +kernel
theorem dM_removeCut_127 : decode prog_7_method_22_code 127 = .ok (.iconst 0, 1) := by decide +kernel
theorem dM_removeCut_128 : decode prog_7_method_22_code 128 = .ok (.iastore, 1) := by decide +kernel
theorem dM_removeCut_129 : decode prog_7_method_22_code 129 = .ok (.iinc 2 1, 3) := by decide +kernel
theorem dM_removeCut_132 : decode prog_7_method_22_code 132 = .ok (.goto (-37), 3) := by decide +kernel
theorem dM_removeCut_135 : decode prog_7_method_22_code 135 = .ok (.iconst 1, 1) := by decide +kernel
theorem dM_removeCut_136 : decode prog_7_method_22_code 136 = .ok (.istore_n 2, 1) := by decide +kernel
theorem dM_removeCut_137 : decode prog_7_method_22_code 137 = .ok (.iload_n 2, 1) := by decide +kernel
theorem dM_removeCut_138 : decode prog_7_method_22_code 138 = .ok (.bipush 13, 2) := by decide +kernel
theorem dM_removeCut_140 : decode prog_7_method_22_code 140 = .ok (.if_icmp .ge 35, 3) := by decide +kernel
theorem dM_removeCut_143 : decode prog_7_method_22_code 143 = .ok (.aload_n 0, 1) := by decide +kernel
theorem dM_removeCut_144 : decode prog_7_method_22_code 144 = .ok (.getfield 7, 3) := by decide +kernel
theorem dM_removeCut_147 : decode prog_7_method_22_code 147 = .ok (.iload_n 2, 1) := by decide +kernel
theorem dM_removeCut_148 : decode prog_7_method_22_code 148 = .ok (.aload_n 0, 1) := by decide +kernel
theorem dM_removeCut_149 : decode prog_7_method_22_code 149 = .ok (.getfield 35, 3) := by decide +kernel
theorem dM_removeCut_152 : decode prog_7_method_22_code 152 = .ok (.iload_n 2, 1) := by decide +kernel
theorem dM_removeCut_153 : decode prog_7_method_22_code 153 = .ok (.iaload, 1) := by decide +kernel
theorem dM_removeCut_154 : decode prog_7_method_22_code 154 = .ok (.iconst 1, 1) := by decide +kernel
theorem dM_removeCut_155 : decode prog_7_method_22_code 155 = .ok (.if_icmp .ne 7, 3) := by decide +kernel
theorem dM_removeCut_158 : decode prog_7_method_22_code 158 = .ok (.iconst (-1), 1) := by decide +kernel
theorem dM_removeCut_159 : decode prog_7_method_22_code 159 = .ok (.goto 9, 3) := by decide +kernel
theorem dM_removeCut_162 : decode prog_7_method_22_code 162 = .ok (.aload_n 0, 1) := by decide +kernel
theorem dM_removeCut_163 : decode prog_7_method_22_code 163 = .ok (.getfield 7, 3) := by decide +kernel
theorem dM_removeCut_166 : decode prog_7_method_22_code 166 = .ok (.iload_n 2, 1) := by decide +kernel
theorem dM_removeCut_167 : decode prog_7_method_22_code 167 = .ok (.iaload, 1) := by decide +kernel
theorem dM_removeCut_168 : decode prog_7_method_22_code 168 = .ok (.iastore, 1) := by decide +kernel
theorem dM_removeCut_169 : decode prog_7_method_22_code 169 = .ok (.iinc 2 1, 3) := by decide +kernel
theorem dM_removeCut_172 : decode prog_7_method_22_code 172 = .ok (.goto (-35), 3) := by decide +kernel
theorem dM_removeCut_175 : decode prog_7_method_22_code 175 = .ok (.return_, 1) := by decide +kernel
theorem dM_isHooked_0 : decode prog_7_method_23_code 0 = .ok (.iconst 0, 1) := by decide +kernel
theorem dM_isHooked_1 : decode prog_7_method_23_code 1 = .ok (.istore_n 2, 1) := by decide +kernel
theorem dM_isHooked_2 : decode prog_7_method_23_code 2 = .ok (.bipush 43, 2) := by decide +kernel
theorem dM_isHooked_4 : decode prog_7_method_23_code 4 = .ok (.istore_n 3, 1) := by decide +kernel
theorem dM_isHooked_5 : decode prog_7_method_23_code 5 = .ok (.iload_n 3, 1) := by decide +kernel
theorem dM_isHooked_6 : decode prog_7_method_23_code 6 = .ok (.bipush 67, 2) := by decide +kernel
theorem dM_isHooked_8 : decode prog_7_method_23_code 8 = .ok (.if_icmp .ge 29, 3) := by decide +kernel
theorem dM_isHooked_11 : decode prog_7_method_23_code 11 = .ok (.iload_n 2, 1) := by decide +kernel
theorem dM_isHooked_12 : decode prog_7_method_23_code 12 = .ok (.ifCond .ne 13, 3) := by decide +kernel
theorem dM_isHooked_15 : decode prog_7_method_23_code 15 = .ok (.aload_n 0, 1) := by decide +kernel
theorem dM_isHooked_16 : decode prog_7_method_23_code 16 = .ok (.getfield 7, 3) := by decide +kernel
theorem dM_isHooked_19 : decode prog_7_method_23_code 19 = .ok (.iload_n 3, 1) := by decide +kernel
theorem dM_isHooked_20 : decode prog_7_method_23_code 20 = .ok (.iaload, 1) := by decide +kernel
theorem dM_isHooked_21 : decode prog_7_method_23_code 21 = .ok (.iload_n 1, 1) := by decide +kernel
theorem dM_isHooked_22 : decode prog_7_method_23_code 22 = .ok (.if_icmp .ne 7, 3) := by decide +kernel
theorem dM_isHooked_25 : decode prog_7_method_23_code 25 = .ok (.iconst 1, 1) := by decide +kernel
theorem dM_isHooked_26 : decode prog_7_method_23_code 26 = .ok (.goto 4, 3) := by decide +kernel
theorem dM_isHooked_29 : decode prog_7_method_23_code 29 = .ok (.iconst 0, 1) := by decide +kernel
theorem dM_isHooked_30 : decode prog_7_method_23_code 30 = .ok (.istore_n 2, 1) := by decide +kernel
theorem dM_isHooked_31 : decode prog_7_method_23_code 31 = .ok (.iinc 3 1, 3) := by decide +kernel
theorem dM_isHooked_34 : decode prog_7_method_23_code 34 = .ok (.goto (-29), 3) := by decide +kernel
theorem dM_isHooked_37 : decode prog_7_method_23_code 37 = .ok (.iload_n 2, 1) := by decide +kernel
theorem dM_isHooked_38 : decode prog_7_method_23_code 38 = .ok (.ireturn, 1) := by decide +kernel
theorem dM_noPart_0 : decode prog_7_method_24_code 0 = .ok (.iload_n 1, 1) := by decide +kernel
end
section
/-! printed by wip/whole/gen_names.py: decode rows -/
theorem dM_noPart_1 : decode prog_7_method_24_code 1 = .ok (.ifCond .ne 19, 3) := by decide +kernel
theorem dM_noPart_4 : decode prog_7_method_24_code 4 = .ok (.aload_n 0, 1) := by decide +kernel
theorem dM_noPart_5 : decode prog_7_method_24_code 5 = .ok (.iload_n 2, 1) := by decide +kernel
theorem dM_noPart_6 : decode prog_7_method_24_code 6 = .ok (.invokevirtual 105, 3) := by decide +kernel
theorem dM_noPart_9 : decode prog_7_method_24_code 9 = .ok (.ifCond .ne 7, 3) := by decide +kernel
theorem dM_noPart_12 : decode prog_7_method_24_code 12 = .ok (.iconst 1, 1) := by decide +kernel
theorem dM_noPart_13 : decode prog_7_method_24_code 13 = .ok (.goto 25, 3) := by decide +kernel
theorem dM_noPart_16 : decode prog_7_method_24_code 16 = .ok (.iconst 0, 1) := by decide +kernel
theorem dM_noPart_17 : decode prog_7_method_24_code 17 = .ok (.goto 21, 3) := by decide +kernel
theorem dM_noPart_20 : decode prog_7_method_24_code 20 = .ok (.iload_n 1, 1) := by decide +kernel
theorem dM_noPart_21 : decode prog_7_method_24_code 21 = .ok (.iconst 1, 1) := by decide +kernel
theorem dM_noPart_22 : decode prog_7_method_24_code 22 = .ok (.if_icmp .ne 11, 3) := by decide +kernel
theorem dM_noPart_25 : decode prog_7_method_24_code 25 = .ok (.aload_n 0, 1) := by decide +kernel
theorem dM_noPart_26 : decode prog_7_method_24_code 26 = .ok (.iload_n 2, 1) := by decide +kernel
theorem dM_noPart_27 : decode prog_7_method_24_code 27 = .ok (.invokevirtual 112, 3) := by decide +kernel
theorem dM_noPart_30 : decode prog_7_method_24_code 30 = .ok (.ifCond .ne 7, 3) := by decide +kernel
theorem dM_noPart_33 : decode prog_7_method_24_code 33 = .ok (.iconst 1, 1) := by decide +kernel
theorem dM_noPart_34 : decode prog_7_method_24_code 34 = .ok (.goto 4, 3) := by decide +kernel
theorem dM_noPart_37 : decode prog_7_method_24_code 37 = .ok (.iconst 0, 1) := by decide +kernel
theorem dM_noPart_38 : decode prog_7_method_24_code 38 = .ok (.ireturn, 1) := by decide +kernel
theorem dM_areaOf_0 : decode prog_7_method_25_code 0 = .ok (.iload_n 1, 1) := by decide +kernel
theorem dM_areaOf_1 : decode prog_7_method_25_code 1 = .ok (.ifCond .ne 15, 3) := by decide +kernel
theorem dM_areaOf_4 : decode prog_7_method_25_code 4 = .ok (.aload_n 0, 1) := by decide +kernel
theorem dM_areaOf_5 : decode prog_7_method_25_code 5 = .ok (.getfield 7, 3) := by decide +kernel
theorem dM_areaOf_8 : decode prog_7_method_25_code 8 = .ok (.bipush 19, 2) := by decide +kernel
theorem dM_areaOf_10 : decode prog_7_method_25_code 10 = .ok (.iload_n 2, 1) := by decide +kernel
theorem dM_areaOf_11 : decode prog_7_method_25_code 11 = .ok (.iadd, 1) := by decide +kernel
theorem dM_areaOf_12 : decode prog_7_method_25_code 12 = .ok (.iaload, 1) := by decide +kernel
theorem dM_areaOf_13 : decode prog_7_method_25_code 13 = .ok (.goto 26, 3) := by decide +kernel
theorem dM_areaOf_16 : decode prog_7_method_25_code 16 = .ok (.iload_n 1, 1) := by decide +kernel
theorem dM_areaOf_17 : decode prog_7_method_25_code 17 = .ok (.iconst 1, 1) := by decide +kernel
theorem dM_areaOf_18 : decode prog_7_method_25_code 18 = .ok (.if_icmp .ne 12, 3) := by decide +kernel
theorem dM_areaOf_21 : decode prog_7_method_25_code 21 = .ok (.aload_n 0, 1) := by decide +kernel
theorem dM_areaOf_22 : decode prog_7_method_25_code 22 = .ok (.getfield 7, 3) := by decide +kernel
theorem dM_areaOf_25 : decode prog_7_method_25_code 25 = .ok (.iload_n 2, 1) := by decide +kernel
theorem dM_areaOf_26 : decode prog_7_method_25_code 26 = .ok (.iaload, 1) := by decide +kernel
theorem dM_areaOf_27 : decode prog_7_method_25_code 27 = .ok (.goto 12, 3) := by decide +kernel
theorem dM_areaOf_30 : decode prog_7_method_25_code 30 = .ok (.aload_n 0, 1) := by decide +kernel
theorem dM_areaOf_31 : decode prog_7_method_25_code 31 = .ok (.getfield 7, 3) := by decide +kernel
theorem dM_areaOf_34 : decode prog_7_method_25_code 34 = .ok (.bipush 13, 2) := by decide +kernel
theorem dM_areaOf_36 : decode prog_7_method_25_code 36 = .ok (.iload_n 2, 1) := by decide +kernel
theorem dM_areaOf_37 : decode prog_7_method_25_code 37 = .ok (.iadd, 1) := by decide +kernel
theorem dM_areaOf_38 : decode prog_7_method_25_code 38 = .ok (.iaload, 1) := by decide +kernel
theorem dM_areaOf_39 : decode prog_7_method_25_code 39 = .ok (.ireturn, 1) := by decide +kernel
theorem dM_late_0 : decode prog_7_method_26_code 0 = .ok (.aload_n 0, 1) := by decide +kernel
theorem dM_late_1 : decode prog_7_method_26_code 1 = .ok (.getfield 68, 3) := by decide +kernel
theorem dM_late_4 : decode prog_7_method_26_code 4 = .ok (.bipush 20, 2) := by decide +kernel
theorem dM_late_6 : decode prog_7_method_26_code 6 = .ok (.if_icmp .ne 7, 3) := by decide +kernel
theorem dM_late_9 : decode prog_7_method_26_code 9 = .ok (.iconst 3, 1) := by decide +kernel
theorem dM_late_10 : decode prog_7_method_26_code 10 = .ok (.goto 4, 3) := by decide +kernel
theorem dM_late_13 : decode prog_7_method_26_code 13 = .ok (.iconst 0, 1) := by decide +kernel
theorem dM_late_14 : decode prog_7_method_26_code 14 = .ok (.ireturn, 1) := by decide +kernel
theorem dM_erase_0 : decode prog_7_method_27_code 0 = .ok (.iload_n 1, 1) := by decide +kernel
theorem dM_erase_1 : decode prog_7_method_27_code 1 = .ok (.iconst 2, 1) := by decide +kernel
theorem dM_erase_2 : decode prog_7_method_27_code 2 = .ok (.if_icmp .ne 19, 3) := by decide +kernel
theorem dM_erase_5 : decode prog_7_method_27_code 5 = .ok (.aload_n 0, 1) := by decide +kernel
theorem dM_erase_6 : decode prog_7_method_27_code 6 = .ok (.iload_n 2, 1) := by decide +kernel
theorem dM_erase_7 : decode prog_7_method_27_code 7 = .ok (.invokevirtual 89, 3) := by decide +kernel
theorem dM_erase_10 : decode prog_7_method_27_code 10 = .ok (.ifCond .ne 7, 3) := by decide +kernel
theorem dM_erase_13 : decode prog_7_method_27_code 13 = .ok (.iconst 1, 1) := by decide +kernel
theorem dM_erase_14 : decode prog_7_method_27_code 14 = .ok (.goto 13, 3) := by decide +kernel
theorem dM_erase_17 : decode prog_7_method_27_code 17 = .ok (.iconst 0, 1) := by decide +kernel
theorem dM_erase_18 : decode prog_7_method_27_code 18 = .ok (.goto 9, 3) := by decide +kernel
theorem dM_erase_21 : decode prog_7_method_27_code 21 = .ok (.aload_n 0, 1) := by decide +kernel
theorem dM_erase_22 : decode prog_7_method_27_code 22 = .ok (.iload_n 1, 1) := by decide +kernel
theorem dM_erase_23 : decode prog_7_method_27_code 23 = .ok (.iload_n 2, 1) := by decide +kernel
theorem dM_erase_24 : decode prog_7_method_27_code 24 = .ok (.invokevirtual 115, 3) := by decide +kernel
theorem dM_erase_27 : decode prog_7_method_27_code 27 = .ok (.istore_n 3, 1) := by decide +kernel
theorem dM_erase_28 : decode prog_7_method_27_code 28 = .ok (.aload_n 0, 1) := by decide +kernel
theorem dM_erase_29 : decode prog_7_method_27_code 29 = .ok (.iload_n 3, 1) := by decide +kernel
theorem dM_erase_30 : decode prog_7_method_27_code 30 = .ok (.ifCond .eq 7, 3) := by decide +kernel
theorem dM_erase_33 : decode prog_7_method_27_code 33 = .ok (.iconst 1, 1) := by decide +kernel
theorem dM_erase_34 : decode prog_7_method_27_code 34 = .ok (.goto 47, 3) := by decide +kernel
theorem dM_erase_37 : decode prog_7_method_27_code 37 = .ok (.aload_n 0, 1) := by decide +kernel
theorem dM_erase_38 : decode prog_7_method_27_code 38 = .ok (.getfield 64, 3) := by decide +kernel
theorem dM_erase_41 : decode prog_7_method_27_code 41 = .ok (.ifCond .eq 32, 3) := by decide +kernel
theorem dM_erase_44 : decode prog_7_method_27_code 44 = .ok (.aload_n 0, 1) := by decide +kernel
theorem dM_erase_45 : decode prog_7_method_27_code 45 = .ok (.aload_n 0, 1) := by decide +kernel
theorem dM_erase_46 : decode prog_7_method_27_code 46 = .ok (.iload_n 1, 1) := by decide +kernel
theorem dM_erase_47 : decode prog_7_method_27_code 47 = .ok (.iload_n 2, 1) := by decide +kernel
theorem dM_erase_48 : decode prog_7_method_27_code 48 = .ok (.invokevirtual 118, 3) := by decide +kernel
theorem dM_erase_51 : decode prog_7_method_27_code 51 = .ok (.invokevirtual 71, 3) := by decide +kernel
theorem dM_erase_54 : decode prog_7_method_27_code 54 = .ok (.iconst 2, 1) := by decide +kernel
theorem dM_erase_55 : decode prog_7_method_27_code 55 = .ok (.irem, 1) := by decide +kernel
theorem dM_erase_56 : decode prog_7_method_27_code 56 = .ok (.iconst 1, 1) := by decide +kernel
theorem dM_erase_57 : decode prog_7_method_27_code 57 = .ok (.if_icmp .eq 16, 3) := by decide +kernel
theorem dM_erase_60 : decode prog_7_method_27_code 60 = .ok (.iload_n 1, 1) := by decide +kernel
theorem dM_erase_61 : decode prog_7_method_27_code 61 = .ok (.iconst 2, 1) := by decide +kernel
theorem dM_erase_62 : decode prog_7_method_27_code 62 = .ok (.if_icmp .ne 15, 3) := by decide +kernel
theorem dM_erase_65 : decode prog_7_method_27_code 65 = .ok (.aload_n 0, 1) := by decide +kernel
theorem dM_erase_66 : decode prog_7_method_27_code 66 = .ok (.iload_n 2, 1) := by decide +kernel
theorem dM_erase_67 : decode prog_7_method_27_code 67 = .ok (.invokevirtual 122, 3) := by decide +kernel
theorem dM_erase_70 : decode prog_7_method_27_code 70 = .ok (.ifCond .eq 7, 3) := by decide +kernel
theorem dM_erase_73 : decode prog_7_method_27_code 73 = .ok (.iconst 2, 1) := by decide +kernel
theorem dM_erase_74 : decode prog_7_method_27_code 74 = .ok (.goto 7, 3) := by decide +kernel
theorem dM_erase_77 : decode prog_7_method_27_code 77 = .ok (.aload_n 0, 1) := by decide +kernel
theorem dM_erase_78 : decode prog_7_method_27_code 78 = .ok (.invokevirtual 125, 3) := by decide +kernel
theorem dM_erase_81 : decode prog_7_method_27_code 81 = .ok (.putfield 56, 3) := by decide +kernel
theorem dM_erase_84 : decode prog_7_method_27_code 84 = .ok (.aload_n 0, 1) := by decide +kernel
theorem dM_erase_85 : decode prog_7_method_27_code 85 = .ok (.getfield 56, 3) := by decide +kernel
theorem dM_erase_88 : decode prog_7_method_27_code 88 = .ok (.ifCond .eq 5, 3) := by decide +kernel
theorem dM_erase_91 : decode prog_7_method_27_code 91 = .ok (.iconst 0, 1) := by decide +kernel
theorem dM_erase_92 : decode prog_7_method_27_code 92 = .ok (.ireturn, 1) := by decide +kernel
theorem dM_erase_93 : decode prog_7_method_27_code 93 = .ok (.aload_n 0, 1) := by decide +kernel
theorem dM_erase_94 : decode prog_7_method_27_code 94 = .ok (.invokevirtual 83, 3) := by decide +kernel
theorem dM_erase_97 : decode prog_7_method_27_code 97 = .ok (.iload_n 1, 1) := by decide +kernel
theorem dM_erase_98 : decode prog_7_method_27_code 98 = .ok (.ifCond .ne 11, 3) := by decide +kernel
theorem dM_erase_101 : decode prog_7_method_27_code 101 = .ok (.aload_n 0, 1) := by decide +kernel
theorem dM_erase_102 : decode prog_7_method_27_code 102 = .ok (.iload_n 2, 1) := by decide +kernel
theorem dM_erase_103 : decode prog_7_method_27_code 103 = .ok (.invokevirtual 108, 3) := by decide +kernel
theorem dM_erase_106 : decode prog_7_method_27_code 106 = .ok (.goto 26, 3) := by decide +kernel
theorem dM_erase_109 : decode prog_7_method_27_code 109 = .ok (.iload_n 1, 1) := by decide +kernel
theorem dM_erase_110 : decode prog_7_method_27_code 110 = .ok (.iconst 1, 1) := by decide +kernel
theorem dM_erase_111 : decode prog_7_method_27_code 111 = .ok (.if_icmp .ne 11, 3) := by decide +kernel
theorem dM_erase_114 : decode prog_7_method_27_code 114 = .ok (.aload_n 0, 1) := by decide +kernel
theorem dM_erase_115 : decode prog_7_method_27_code 115 = .ok (.iload_n 2, 1) := by decide +kernel
theorem dM_erase_116 : decode prog_7_method_27_code 116 = .ok (.invokevirtual 128, 3) := by decide +kernel
theorem dM_erase_119 : decode prog_7_method_27_code 119 = .ok (.goto 13, 3) := by decide +kernel
theorem dM_erase_122 : decode prog_7_method_27_code 122 = .ok (.aload_n 0, 1) := by decide +kernel
theorem dM_erase_123 : decode prog_7_method_27_code 123 = .ok (.getfield 7, 3) := by decide +kernel
theorem dM_erase_126 : decode prog_7_method_27_code 126 = .ok (.bipush 13, 2) := by decide +kernel
theorem dM_erase_128 : decode prog_7_method_27_code 128 = .ok (.iload_n 2, 1) := by decide +kernel
theorem dM_erase_129 : decode prog_7_method_27_code 129 = .ok (.iadd, 1) := by decide +kernel
theorem dM_erase_130 : decode prog_7_method_27_code 130 = .ok (.iconst (-1), 1) := by decide +kernel
theorem dM_erase_131 : decode prog_7_method_27_code 131 = .ok (.iastore, 1) := by decide +kernel
theorem dM_erase_132 : decode prog_7_method_27_code 132 = .ok (.aload_n 0, 1) := by decide +kernel
theorem dM_erase_133 : decode prog_7_method_27_code 133 = .ok (.getfield 68, 3) := by decide +kernel
theorem dM_erase_136 : decode prog_7_method_27_code 136 = .ok (.ireturn, 1) := by decide +kernel
theorem dM_copySpot_0 : decode prog_7_method_28_code 0 = .ok (.aload_n 0, 1) := by decide +kernel
theorem dM_copySpot_1 : decode prog_7_method_28_code 1 = .ok (.invokevirtual 102, 3) := by decide +kernel
theorem dM_copySpot_4 : decode prog_7_method_28_code 4 = .ok (.istore_n 3, 1) := by decide +kernel
theorem dM_copySpot_5 : decode prog_7_method_28_code 5 = .ok (.aload_n 0, 1) := by decide +kernel
theorem dM_copySpot_6 : decode prog_7_method_28_code 6 = .ok (.getfield 7, 3) := by decide +kernel
theorem dM_copySpot_9 : decode prog_7_method_28_code 9 = .ok (.bipush 19, 2) := by decide +kernel
theorem dM_copySpot_11 : decode prog_7_method_28_code 11 = .ok (.iload_n 3, 1) := by decide +kernel
theorem dM_copySpot_12 : decode prog_7_method_28_code 12 = .ok (.iadd, 1) := by decide +kernel
theorem dM_copySpot_13 : decode prog_7_method_28_code 13 = .ok (.iload_n 2, 1) := by decide +kernel
theorem dM_copySpot_14 : decode prog_7_method_28_code 14 = .ok (.iastore, 1) := by decide +kernel
theorem dM_copySpot_15 : decode prog_7_method_28_code 15 = .ok (.aload_n 0, 1) := by decide +kernel
theorem dM_copySpot_16 : decode prog_7_method_28_code 16 = .ok (.getfield 7, 3) := by decide +kernel
theorem dM_copySpot_19 : decode prog_7_method_28_code 19 = .ok (.bipush 31, 2) := by decide +kernel
theorem dM_copySpot_21 : decode prog_7_method_28_code 21 = .ok (.iload_n 3, 1) := by decide +kernel
theorem dM_copySpot_22 : decode prog_7_method_28_code 22 = .ok (.iadd, 1) := by decide +kernel
theorem dM_copySpot_23 : decode prog_7_method_28_code 23 = .ok (.aload_n 0, 1) := by decide +kernel
theorem dM_copySpot_24 : decode prog_7_method_28_code 24 = .ok (.getfield 7, 3) := by decide +kernel
theorem dM_copySpot_27 : decode prog_7_method_28_code 27 = .ok (.bipush 31, 2) := by decide +kernel
theorem dM_copySpot_29 : decode prog_7_method_28_code 29 = .ok (.iload_n 1, 1) := by decide +kernel
theorem dM_copySpot_30 : decode prog_7_method_28_code 30 = .ok (.iadd, 1) := by decide +kernel
theorem dM_copySpot_31 : decode prog_7_method_28_code 31 = .ok (.iaload, 1) := by decide +kernel
theorem dM_copySpot_32 : decode prog_7_method_28_code 32 = .ok (.iastore, 1) := by decide +kernel
theorem dM_copySpot_33 : decode prog_7_method_28_code 33 = .ok (.iconst 0, 1) := by decide +kernel
theorem dM_copySpot_34 : decode prog_7_method_28_code 34 = .ok (.istore 4, 2) := by decide +kernel
theorem dM_copySpot_36 : decode prog_7_method_28_code 36 = .ok (.iload 4, 2) := by decide +kernel
theorem dM_copySpot_38 : decode prog_7_method_28_code 38 = .ok (.iconst 2, 1) := by decide +kernel
theorem dM_copySpot_39 : decode prog_7_method_28_code 39 = .ok (.if_icmp .ge 68, 3) := by decide +kernel
theorem dM_copySpot_42 : decode prog_7_method_28_code 42 = .ok (.aload_n 0, 1) := by decide +kernel
theorem dM_copySpot_43 : decode prog_7_method_28_code 43 = .ok (.getfield 7, 3) := by decide +kernel
theorem dM_copySpot_46 : decode prog_7_method_28_code 46 = .ok (.bipush 43, 2) := by decide +kernel
theorem dM_copySpot_48 : decode prog_7_method_28_code 48 = .ok (.iconst 2, 1) := by decide +kernel
theorem dM_copySpot_49 : decode prog_7_method_28_code 49 = .ok (.iload_n 1, 1) := by decide +kernel
theorem dM_copySpot_50 : decode prog_7_method_28_code 50 = .ok (.imul, 1) := by decide +kernel
theorem dM_copySpot_51 : decode prog_7_method_28_code 51 = .ok (.iadd, 1) := by decide +kernel
theorem dM_copySpot_52 : decode prog_7_method_28_code 52 = .ok (.iload 4, 2) := by decide +kernel
theorem dM_copySpot_54 : decode prog_7_method_28_code 54 = .ok (.iadd, 1) := by decide +kernel
theorem dM_copySpot_55 : decode prog_7_method_28_code 55 = .ok (.iaload, 1) := by decide +kernel
theorem dM_copySpot_56 : decode prog_7_method_28_code 56 = .ok (.istore 5, 2) := by decide +kernel
theorem dM_copySpot_58 : decode prog_7_method_28_code 58 = .ok (.aload_n 0, 1) := by decide +kernel
theorem dM_copySpot_59 : decode prog_7_method_28_code 59 = .ok (.getfield 7, 3) := by decide +kernel
theorem dM_copySpot_62 : decode prog_7_method_28_code 62 = .ok (.bipush 43, 2) := by decide +kernel
theorem dM_copySpot_64 : decode prog_7_method_28_code 64 = .ok (.iconst 2, 1) := by decide +kernel
theorem dM_copySpot_65 : decode prog_7_method_28_code 65 = .ok (.iload_n 3, 1) := by decide +kernel
theorem dM_copySpot_66 : decode prog_7_method_28_code 66 = .ok (.imul, 1) := by decide +kernel
theorem dM_copySpot_67 : decode prog_7_method_28_code 67 = .ok (.iadd, 1) := by decide +kernel
theorem dM_copySpot_68 : decode prog_7_method_28_code 68 = .ok (.iload 4, 2) := by decide +kernel
theorem dM_copySpot_70 : decode prog_7_method_28_code 70 = .ok (.iadd, 1) := by decide +kernel
theorem dM_copySpot_71 : decode prog_7_method_28_code 71 = .ok (.iload 5, 2) := by decide +kernel
theorem dM_copySpot_73 : decode prog_7_method_28_code 73 = .ok (.iconst (-1), 1) := by decide +kernel
theorem dM_copySpot_74 : decode prog_7_method_28_code 74 = .ok (.if_icmp .eq 24, 3) := by decide +kernel
theorem dM_copySpot_77 : decode prog_7_method_28_code 77 = .ok (.aload_n 0, 1) := by decide +kernel
theorem dM_copySpot_78 : decode prog_7_method_28_code 78 = .ok (.getfield 38, 3) := by decide +kernel
theorem dM_copySpot_81 : decode prog_7_method_28_code 81 = .ok (.iload 5, 2) := by decide +kernel
theorem dM_copySpot_83 : decode prog_7_method_28_code 83 = .ok (.iaload, 1) := by decide +kernel
theorem dM_copySpot_84 : decode prog_7_method_28_code 84 = .ok (.iconst (-1), 1) := by decide +kernel
theorem dM_copySpot_85 : decode prog_7_method_28_code 85 = .ok (.if_icmp .eq 13, 3) := by decide +kernel
theorem dM_copySpot_88 : decode prog_7_method_28_code 88 = .ok (.aload_n 0, 1) := by decide +kernel
theorem dM_copySpot_89 : decode prog_7_method_28_code 89 = .ok (.getfield 38, 3) := by decide +kernel
theorem dM_copySpot_92 : decode prog_7_method_28_code 92 = .ok (.iload 5, 2) := by decide +kernel
theorem dM_copySpot_94 : decode prog_7_method_28_code 94 = .ok (.iaload, 1) := by decide +kernel
theorem dM_copySpot_95 : decode prog_7_method_28_code 95 = .ok (.goto 5, 3) := by decide +kernel
theorem dM_copySpot_98 : decode prog_7_method_28_code 98 = .ok (.iload 5, 2) := by decide +kernel
theorem dM_copySpot_100 : decode prog_7_method_28_code 100 = .ok (.iastore, 1) := by decide +kernel
theorem dM_copySpot_101 : decode prog_7_method_28_code 101 = .ok (.iinc 4 1, 3) := by decide +kernel
theorem dM_copySpot_104 : decode prog_7_method_28_code 104 = .ok (.goto (-68), 3) := by decide +kernel
theorem dM_copySpot_107 : decode prog_7_method_28_code 107 = .ok (.return_, 1) := by decide +kernel
theorem dM_copyArea_0 : decode prog_7_method_29_code 0 = .ok (.iconst 0, 1) := by decide +kernel
theorem dM_copyArea_1 : decode prog_7_method_29_code 1 = .ok (.istore 4, 2) := by decide +kernel
theorem dM_copyArea_3 : decode prog_7_method_29_code 3 = .ok (.iload 4, 2) := by decide +kernel
theorem dM_copyArea_5 : decode prog_7_method_29_code 5 = .ok (.bipush 6, 2) := by decide +kernel
theorem dM_copyArea_7 : decode prog_7_method_29_code 7 = .ok (.if_icmp .ge 52, 3) := by decide +kernel
theorem dM_copyArea_10 : decode prog_7_method_29_code 10 = .ok (.aload_n 0, 1) := by decide +kernel
theorem dM_copyArea_11 : decode prog_7_method_29_code 11 = .ok (.getfield 13, 3) := by decide +kernel
theorem dM_copyArea_14 : decode prog_7_method_29_code 14 = .ok (.iload_n 3, 1) := by decide +kernel
theorem dM_copyArea_15 : decode prog_7_method_29_code 15 = .ok (.bipush 13, 2) := by decide +kernel
theorem dM_copyArea_17 : decode prog_7_method_29_code 17 = .ok (.iadd, 1) := by decide +kernel
theorem dM_copyArea_18 : decode prog_7_method_29_code 18 = .ok (.iload 4, 2) := by decide +kernel
theorem dM_copyArea_20 : decode prog_7_method_29_code 20 = .ok (.iadd, 1) := by decide +kernel
theorem dM_copyArea_21 : decode prog_7_method_29_code 21 = .ok (.iaload, 1) := by decide +kernel
theorem dM_copyArea_22 : decode prog_7_method_29_code 22 = .ok (.iload_n 1, 1) := by decide +kernel
theorem dM_copyArea_23 : decode prog_7_method_29_code 23 = .ok (.if_icmp .ne 30, 3) := by decide +kernel
theorem dM_copyArea_26 : decode prog_7_method_29_code 26 = .ok (.aload_n 0, 1) := by decide +kernel
theorem dM_copyArea_27 : decode prog_7_method_29_code 27 = .ok (.getfield 38, 3) := by decide +kernel
theorem dM_copyArea_30 : decode prog_7_method_29_code 30 = .ok (.iload 4, 2) := by decide +kernel
theorem dM_copyArea_32 : decode prog_7_method_29_code 32 = .ok (.aload_n 0, 1) := by decide +kernel
theorem dM_copyArea_33 : decode prog_7_method_29_code 33 = .ok (.invokevirtual 86, 3) := by decide +kernel
theorem dM_copyArea_36 : decode prog_7_method_29_code 36 = .ok (.iastore, 1) := by decide +kernel
theorem dM_copyArea_37 : decode prog_7_method_29_code 37 = .ok (.aload_n 0, 1) := by decide +kernel
theorem dM_copyArea_38 : decode prog_7_method_29_code 38 = .ok (.getfield 7, 3) := by decide +kernel
theorem dM_copyArea_41 : decode prog_7_method_29_code 41 = .ok (.bipush 13, 2) := by decide +kernel
theorem dM_copyArea_43 : decode prog_7_method_29_code 43 = .ok (.aload_n 0, 1) := by decide +kernel
theorem dM_copyArea_44 : decode prog_7_method_29_code 44 = .ok (.getfield 38, 3) := by decide +kernel
theorem dM_copyArea_47 : decode prog_7_method_29_code 47 = .ok (.iload 4, 2) := by decide +kernel
theorem dM_copyArea_49 : decode prog_7_method_29_code 49 = .ok (.iaload, 1) := by decide +kernel
theorem dM_copyArea_50 : decode prog_7_method_29_code 50 = .ok (.iadd, 1) := by decide +kernel
theorem dM_copyArea_51 : decode prog_7_method_29_code 51 = .ok (.iload_n 2, 1) := by decide +kernel
theorem dM_copyArea_52 : decode prog_7_method_29_code 52 = .ok (.iastore, 1) := by decide +kernel
theorem dM_copyArea_53 : decode prog_7_method_29_code 53 = .ok (.iinc 4 1, 3) := by decide +kernel
theorem dM_copyArea_56 : decode prog_7_method_29_code 56 = .ok (.goto (-53), 3) := by decide +kernel
theorem dM_copyArea_59 : decode prog_7_method_29_code 59 = .ok (.iconst 0, 1) := by decide +kernel
theorem dM_copyArea_60 : decode prog_7_method_29_code 60 = .ok (.istore 4, 2) := by decide +kernel
theorem dM_copyArea_62 : decode prog_7_method_29_code 62 = .ok (.iload 4, 2) := by decide +kernel
theorem dM_copyArea_64 : decode prog_7_method_29_code 64 = .ok (.bipush 12, 2) := by decide +kernel
theorem dM_copyArea_66 : decode prog_7_method_29_code 66 = .ok (.if_icmp .ge 32, 3) := by decide +kernel
theorem dM_copyArea_69 : decode prog_7_method_29_code 69 = .ok (.aload_n 0, 1) := by decide +kernel
theorem dM_copyArea_70 : decode prog_7_method_29_code 70 = .ok (.getfield 13, 3) := by decide +kernel
theorem dM_copyArea_73 : decode prog_7_method_29_code 73 = .ok (.iload_n 3, 1) := by decide +kernel
theorem dM_copyArea_74 : decode prog_7_method_29_code 74 = .ok (.bipush 19, 2) := by decide +kernel
theorem dM_copyArea_76 : decode prog_7_method_29_code 76 = .ok (.iadd, 1) := by decide +kernel
theorem dM_copyArea_77 : decode prog_7_method_29_code 77 = .ok (.iload 4, 2) := by decide +kernel
theorem dM_copyArea_79 : decode prog_7_method_29_code 79 = .ok (.iadd, 1) := by decide +kernel
theorem dM_copyArea_80 : decode prog_7_method_29_code 80 = .ok (.iaload, 1) := by decide +kernel
theorem dM_copyArea_81 : decode prog_7_method_29_code 81 = .ok (.iload_n 1, 1) := by decide +kernel
theorem dM_copyArea_82 : decode prog_7_method_29_code 82 = .ok (.if_icmp .ne 10, 3) := by decide +kernel
theorem dM_copyArea_85 : decode prog_7_method_29_code 85 = .ok (.aload_n 0, 1) := by decide +kernel
theorem dM_copyArea_86 : decode prog_7_method_29_code 86 = .ok (.iload 4, 2) := by decide +kernel
theorem dM_copyArea_88 : decode prog_7_method_29_code 88 = .ok (.iload_n 2, 1) := by decide +kernel
theorem dM_copyArea_89 : decode prog_7_method_29_code 89 = .ok (.invokevirtual 131, 3) := by decide +kernel
theorem dM_copyArea_92 : decode prog_7_method_29_code 92 = .ok (.iinc 4 1, 3) := by decide +kernel
theorem dM_copyArea_95 : decode prog_7_method_29_code 95 = .ok (.goto (-33), 3) := by decide +kernel
theorem dM_copyArea_98 : decode prog_7_method_29_code 98 = .ok (.return_, 1) := by decide +kernel
theorem dM_copyCut_0 : decode prog_7_method_30_code 0 = .ok (.bipush 67, 2) := by decide +kernel
theorem dM_copyCut_2 : decode prog_7_method_30_code 2 = .ok (.aload_n 0, 1) := by decide +kernel
theorem dM_copyCut_3 : decode prog_7_method_30_code 3 = .ok (.getfield 68, 3) := by decide +kernel
theorem dM_copyCut_6 : decode prog_7_method_30_code 6 = .ok (.iconst 1, 1) := by decide +kernel
theorem dM_copyCut_7 : decode prog_7_method_30_code 7 = .ok (.isub, 1) := by decide +kernel
theorem dM_copyCut_8 : decode prog_7_method_30_code 8 = .ok (.imul, 1) := by decide +kernel
theorem dM_copyCut_9 : decode prog_7_method_30_code 9 = .ok (.istore_n 3, 1) := by decide +kernel
theorem dM_copyCut_10 : decode prog_7_method_30_code 10 = .ok (.aload_n 0, 1) := by decide +kernel
theorem dM_copyCut_11 : decode prog_7_method_30_code 11 = .ok (.invokevirtual 75, 3) := by decide +kernel
theorem dM_copyCut_14 : decode prog_7_method_30_code 14 = .ok (.istore 4, 2) := by decide +kernel
theorem dM_copyCut_16 : decode prog_7_method_30_code 16 = .ok (.aload_n 0, 1) := by decide +kernel
theorem dM_copyCut_17 : decode prog_7_method_30_code 17 = .ok (.getfield 7, 3) := by decide +kernel
theorem dM_copyCut_20 : decode prog_7_method_30_code 20 = .ok (.iload 4, 2) := by decide +kernel
theorem dM_copyCut_22 : decode prog_7_method_30_code 22 = .ok (.iload_n 2, 1) := by decide +kernel
theorem dM_copyCut_23 : decode prog_7_method_30_code 23 = .ok (.iastore, 1) := by decide +kernel
theorem dM_copyCut_24 : decode prog_7_method_30_code 24 = .ok (.aload_n 0, 1) := by decide +kernel
theorem dM_copyCut_25 : decode prog_7_method_30_code 25 = .ok (.iload_n 1, 1) := by decide +kernel
theorem dM_copyCut_26 : decode prog_7_method_30_code 26 = .ok (.iload 4, 2) := by decide +kernel
theorem dM_copyCut_28 : decode prog_7_method_30_code 28 = .ok (.iload_n 3, 1) := by decide +kernel
theorem dM_copyCut_29 : decode prog_7_method_30_code 29 = .ok (.invokevirtual 135, 3) := by decide +kernel
theorem dM_copyCut_32 : decode prog_7_method_30_code 32 = .ok (.aload_n 0, 1) := by decide +kernel
theorem dM_copyCut_33 : decode prog_7_method_30_code 33 = .ok (.iconst 1, 1) := by decide +kernel
theorem dM_copyCut_34 : decode prog_7_method_30_code 34 = .ok (.putfield 139, 3) := by decide +kernel
theorem dM_copyCut_37 : decode prog_7_method_30_code 37 = .ok (.aload_n 0, 1) := by decide +kernel
theorem dM_copyCut_38 : decode prog_7_method_30_code 38 = .ok (.getfield 25, 3) := by decide +kernel
theorem dM_copyCut_41 : decode prog_7_method_30_code 41 = .ok (.iconst 0, 1) := by decide +kernel
theorem dM_copyCut_42 : decode prog_7_method_30_code 42 = .ok (.iload_n 1, 1) := by decide +kernel
theorem dM_copyCut_43 : decode prog_7_method_30_code 43 = .ok (.iastore, 1) := by decide +kernel
theorem dM_copyCut_44 : decode prog_7_method_30_code 44 = .ok (.aload_n 0, 1) := by decide +kernel
theorem dM_copyCut_45 : decode prog_7_method_30_code 45 = .ok (.getfield 35, 3) := by decide +kernel
theorem dM_copyCut_48 : decode prog_7_method_30_code 48 = .ok (.iload_n 1, 1) := by decide +kernel
theorem dM_copyCut_49 : decode prog_7_method_30_code 49 = .ok (.iload 4, 2) := by decide +kernel
theorem dM_copyCut_51 : decode prog_7_method_30_code 51 = .ok (.iastore, 1) := by decide +kernel
theorem dM_copyCut_52 : decode prog_7_method_30_code 52 = .ok (.aload_n 0, 1) := by decide +kernel
theorem dM_copyCut_53 : decode prog_7_method_30_code 53 = .ok (.getfield 28, 3) := by decide +kernel
theorem dM_copyCut_56 : decode prog_7_method_30_code 56 = .ok (.iconst 0, 1) := by decide +kernel
theorem dM_copyCut_57 : decode prog_7_method_30_code 57 = .ok (.iconst 0, 1) := by decide +kernel
theorem dM_copyCut_58 : decode prog_7_method_30_code 58 = .ok (.iastore, 1) := by decide +kernel
theorem dM_copyCut_59 : decode prog_7_method_30_code 59 = .ok (.aload_n 0, 1) := by decide +kernel
theorem dM_copyCut_60 : decode prog_7_method_30_code 60 = .ok (.getfield 139, 3) := by decide +kernel
theorem dM_copyCut_63 : decode prog_7_method_30_code 63 = .ok (.ifCond .le 163, 3) := by decide +kernel
theorem dM_copyCut_66 : decode prog_7_method_30_code 66 = .ok (.aload_n 0, 1) := by decide +kernel
theorem dM_copyCut_67 : decode prog_7_method_30_code 67 = .ok (.getfield 25, 3) := by decide +kernel
theorem dM_copyCut_70 : decode prog_7_method_30_code 70 = .ok (.aload_n 0, 1) := by decide +kernel
theorem dM_copyCut_71 : decode prog_7_method_30_code 71 = .ok (.getfield 139, 3) := by decide +kernel
theorem dM_copyCut_74 : decode prog_7_method_30_code 74 = .ok (.iconst 1, 1) := by decide +kernel
theorem dM_copyCut_75 : decode prog_7_method_30_code 75 = .ok (.isub, 1) := by decide +kernel
theorem dM_copyCut_76 : decode prog_7_method_30_code 76 = .ok (.iaload, 1) := by decide +kernel
theorem dM_copyCut_77 : decode prog_7_method_30_code 77 = .ok (.istore 5, 2) := by decide +kernel
theorem dM_copyCut_79 : decode prog_7_method_30_code 79 = .ok (.aload_n 0, 1) := by decide +kernel
theorem dM_copyCut_80 : decode prog_7_method_30_code 80 = .ok (.getfield 28, 3) := by decide +kernel
theorem dM_copyCut_83 : decode prog_7_method_30_code 83 = .ok (.aload_n 0, 1) := by decide +kernel
theorem dM_copyCut_84 : decode prog_7_method_30_code 84 = .ok (.getfield 139, 3) := by decide +kernel
theorem dM_copyCut_87 : decode prog_7_method_30_code 87 = .ok (.iconst 1, 1) := by decide +kernel
theorem dM_copyCut_88 : decode prog_7_method_30_code 88 = .ok (.isub, 1) := by decide +kernel
theorem dM_copyCut_89 : decode prog_7_method_30_code 89 = .ok (.iaload, 1) := by decide +kernel
theorem dM_copyCut_90 : decode prog_7_method_30_code 90 = .ok (.iconst 1, 1) := by decide +kernel
theorem dM_copyCut_91 : decode prog_7_method_30_code 91 = .ok (.iadd, 1) := by decide +kernel
theorem dM_copyCut_92 : decode prog_7_method_30_code 92 = .ok (.istore 6, 2) := by decide +kernel
theorem dM_copyCut_94 : decode prog_7_method_30_code 94 = .ok (.iload 6, 2) := by decide +kernel
theorem dM_copyCut_96 : decode prog_7_method_30_code 96 = .ok (.bipush 13, 2) := by decide +kernel
theorem dM_copyCut_98 : decode prog_7_method_30_code 98 = .ok (.if_icmp .ge 23, 3) := by decide +kernel
theorem dM_copyCut_101 : decode prog_7_method_30_code 101 = .ok (.aload_n 0, 1) := by decide +kernel
theorem dM_copyCut_102 : decode prog_7_method_30_code 102 = .ok (.getfield 13, 3) := by decide +kernel
theorem dM_copyCut_105 : decode prog_7_method_30_code 105 = .ok (.iload_n 3, 1) := by decide +kernel
theorem dM_copyCut_106 : decode prog_7_method_30_code 106 = .ok (.iload 6, 2) := by decide +kernel
theorem dM_copyCut_108 : decode prog_7_method_30_code 108 = .ok (.iadd, 1) := by decide +kernel
theorem dM_copyCut_109 : decode prog_7_method_30_code 109 = .ok (.iaload, 1) := by decide +kernel
theorem dM_copyCut_110 : decode prog_7_method_30_code 110 = .ok (.iload 5, 2) := by decide +kernel
theorem dM_copyCut_112 : decode prog_7_method_30_code 112 = .ok (.if_icmp .eq 9, 3) := by decide +kernel
theorem dM_copyCut_115 : decode prog_7_method_30_code 115 = .ok (.iinc 6 1, 3) := by decide +kernel
theorem dM_copyCut_118 : decode prog_7_method_30_code 118 = .ok (.goto (-24), 3) := by decide +kernel
theorem dM_copyCut_121 : decode prog_7_method_30_code 121 = .ok (.aload_n 0, 1) := by decide +kernel
theorem dM_copyCut_122 : decode prog_7_method_30_code 122 = .ok (.getfield 28, 3) := by decide +kernel
theorem dM_copyCut_125 : decode prog_7_method_30_code 125 = .ok (.aload_n 0, 1) := by decide +kernel
theorem dM_copyCut_126 : decode prog_7_method_30_code 126 = .ok (.getfield 139, 3) := by decide +kernel
theorem dM_copyCut_129 : decode prog_7_method_30_code 129 = .ok (.iconst 1, 1) := by decide +kernel
theorem dM_copyCut_130 : decode prog_7_method_30_code 130 = .ok (.isub, 1) := by decide +kernel
theorem dM_copyCut_131 : decode prog_7_method_30_code 131 = .ok (.iload 6, 2) := by decide +kernel
theorem dM_copyCut_133 : decode prog_7_method_30_code 133 = .ok (.iastore, 1) := by decide +kernel
theorem dM_copyCut_134 : decode prog_7_method_30_code 134 = .ok (.iload 6, 2) := by decide +kernel
theorem dM_copyCut_136 : decode prog_7_method_30_code 136 = .ok (.bipush 13, 2) := by decide +kernel
theorem dM_copyCut_138 : decode prog_7_method_30_code 138 = .ok (.if_icmp .ne 16, 3) := by decide +kernel
theorem dM_copyCut_141 : decode prog_7_method_30_code 141 = .ok (.aload_n 0, 1) := by decide +kernel
theorem dM_copyCut_142 : decode prog_7_method_30_code 142 = .ok (.dup, 1) := by decide +kernel
theorem dM_copyCut_143 : decode prog_7_method_30_code 143 = .ok (.getfield 139, 3) := by decide +kernel
theorem dM_copyCut_146 : decode prog_7_method_30_code 146 = .ok (.iconst 1, 1) := by decide +kernel
theorem dM_copyCut_147 : decode prog_7_method_30_code 147 = .ok (.isub, 1) := by decide +kernel
theorem dM_copyCut_148 : decode prog_7_method_30_code 148 = .ok (.putfield 139, 3) := by decide +kernel
theorem dM_copyCut_151 : decode prog_7_method_30_code 151 = .ok (.goto 72, 3) := by decide +kernel
theorem dM_copyCut_154 : decode prog_7_method_30_code 154 = .ok (.aload_n 0, 1) := by decide +kernel
theorem dM_copyCut_155 : decode prog_7_method_30_code 155 = .ok (.invokevirtual 75, 3) := by decide +kernel
theorem dM_copyCut_158 : decode prog_7_method_30_code 158 = .ok (.istore 7, 2) := by decide +kernel
theorem dM_copyCut_160 : decode prog_7_method_30_code 160 = .ok (.aload_n 0, 1) := by decide +kernel
theorem dM_copyCut_161 : decode prog_7_method_30_code 161 = .ok (.getfield 7, 3) := by decide +kernel
theorem dM_copyCut_164 : decode prog_7_method_30_code 164 = .ok (.iload 7, 2) := by decide +kernel
theorem dM_copyCut_166 : decode prog_7_method_30_code 166 = .ok (.aload_n 0, 1) := by decide +kernel
theorem dM_copyCut_167 : decode prog_7_method_30_code 167 = .ok (.getfield 35, 3) := by decide +kernel
theorem dM_copyCut_170 : decode prog_7_method_30_code 170 = .ok (.iload 5, 2) := by decide +kernel
theorem dM_copyCut_172 : decode prog_7_method_30_code 172 = .ok (.iaload, 1) := by decide +kernel
theorem dM_copyCut_173 : decode prog_7_method_30_code 173 = .ok (.iastore, 1) := by decide +kernel
theorem dM_copyCut_174 : decode prog_7_method_30_code 174 = .ok (.aload_n 0, 1) := by decide +kernel
theorem dM_copyCut_175 : decode prog_7_method_30_code 175 = .ok (.getfield 35, 3) := by decide +kernel
theorem dM_copyCut_178 : decode prog_7_method_30_code 178 = .ok (.iload 6, 2) := by decide +kernel
theorem dM_copyCut_180 : decode prog_7_method_30_code 180 = .ok (.iload 7, 2) := by decide +kernel
theorem dM_copyCut_182 : decode prog_7_method_30_code 182 = .ok (.iastore, 1) := by decide +kernel
theorem dM_copyCut_183 : decode prog_7_method_30_code 183 = .ok (.aload_n 0, 1) := by decide +kernel
theorem dM_copyCut_184 : decode prog_7_method_30_code 184 = .ok (.iload 6, 2) := by decide +kernel
theorem dM_copyCut_186 : decode prog_7_method_30_code 186 = .ok (.iload 7, 2) := by decide +kernel
theorem dM_copyCut_188 : decode prog_7_method_30_code 188 = .ok (.iload_n 3, 1) := by decide +kernel
theorem dM_copyCut_189 : decode prog_7_method_30_code 189 = .ok (.invokevirtual 135, 3) := by decide +kernel
theorem dM_copyCut_192 : decode prog_7_method_30_code 192 = .ok (.aload_n 0, 1) := by decide +kernel
theorem dM_copyCut_193 : decode prog_7_method_30_code 193 = .ok (.getfield 25, 3) := by decide +kernel
theorem dM_copyCut_196 : decode prog_7_method_30_code 196 = .ok (.aload_n 0, 1) := by decide +kernel
theorem dM_copyCut_197 : decode prog_7_method_30_code 197 = .ok (.getfield 139, 3) := by decide +kernel
theorem dM_copyCut_200 : decode prog_7_method_30_code 200 = .ok (.iload 6, 2) := by decide +kernel
theorem dM_copyCut_202 : decode prog_7_method_30_code 202 = .ok (.iastore, 1) := by decide +kernel
theorem dM_copyCut_203 : decode prog_7_method_30_code 203 = .ok (.aload_n 0, 1) := by decide +kernel
theorem dM_copyCut_204 : decode prog_7_method_30_code 204 = .ok (.getfield 28, 3) := by decide +kernel
theorem dM_copyCut_207 : decode prog_7_method_30_code 207 = .ok (.aload_n 0, 1) := by decide +kernel
theorem dM_copyCut_208 : decode prog_7_method_30_code 208 = .ok (.getfield 139, 3) := by decide +kernel
theorem dM_copyCut_211 : decode prog_7_method_30_code 211 = .ok (.iconst 0, 1) := by decide +kernel
theorem dM_copyCut_212 : decode prog_7_method_30_code 212 = .ok (.iastore, 1) := by decide +kernel
theorem dM_copyCut_213 : decode prog_7_method_30_code 213 = .ok (.aload_n 0, 1) := by decide +kernel
theorem dM_copyCut_214 : decode prog_7_method_30_code 214 = .ok (.dup, 1) := by decide +kernel
theorem dM_copyCut_215 : decode prog_7_method_30_code 215 = .ok (.getfield 139, 3) := by decide +kernel
theorem dM_copyCut_218 : decode prog_7_method_30_code 218 = .ok (.iconst 1, 1) := by decide +kernel
theorem dM_copyCut_219 : decode prog_7_method_30_code 219 = .ok (.iadd, 1) := by decide +kernel
theorem dM_copyCut_220 : decode prog_7_method_30_code 220 = .ok (.putfield 139, 3) := by decide +kernel
theorem dM_copyCut_223 : decode prog_7_method_30_code 223 = .ok (.goto (-164), 3) := by decide +kernel
theorem dM_copyCut_226 : decode prog_7_method_30_code 226 = .ok (.iload 4, 2) := by decide +kernel
theorem dM_copyCut_228 : decode prog_7_method_30_code 228 = .ok (.ireturn, 1) := by decide +kernel
theorem dM_isRoomFor_0 : decode prog_7_method_31_code 0 = .ok (.bipush 12, 2) := by decide +kernel
theorem dM_isRoomFor_2 : decode prog_7_method_31_code 2 = .ok (.aload_n 0, 1) := by decide +kernel
theorem dM_isRoomFor_3 : decode prog_7_method_31_code 3 = .ok (.iconst 1, 1) := by decide +kernel
theorem dM_isRoomFor_4 : decode prog_7_method_31_code 4 = .ok (.bipush 13, 2) := by decide +kernel
theorem dM_isRoomFor_6 : decode prog_7_method_31_code 6 = .ok (.invokevirtual 142, 3) := by decide +kernel
theorem dM_isRoomFor_9 : decode prog_7_method_31_code 9 = .ok (.isub, 1) := by decide +kernel
theorem dM_isRoomFor_10 : decode prog_7_method_31_code 10 = .ok (.istore_n 2, 1) := by decide +kernel
theorem dM_isRoomFor_11 : decode prog_7_method_31_code 11 = .ok (.bipush 6, 2) := by decide +kernel
theorem dM_isRoomFor_13 : decode prog_7_method_31_code 13 = .ok (.aload_n 0, 1) := by decide +kernel
theorem dM_isRoomFor_14 : decode prog_7_method_31_code 14 = .ok (.bipush 13, 2) := by decide +kernel
theorem dM_isRoomFor_16 : decode prog_7_method_31_code 16 = .ok (.bipush 19, 2) := by decide +kernel
theorem dM_isRoomFor_18 : decode prog_7_method_31_code 18 = .ok (.invokevirtual 142, 3) := by decide +kernel
theorem dM_isRoomFor_21 : decode prog_7_method_31_code 21 = .ok (.isub, 1) := by decide +kernel
theorem dM_isRoomFor_22 : decode prog_7_method_31_code 22 = .ok (.istore_n 3, 1) := by decide +kernel
theorem dM_isRoomFor_23 : decode prog_7_method_31_code 23 = .ok (.bipush 12, 2) := by decide +kernel
theorem dM_isRoomFor_25 : decode prog_7_method_31_code 25 = .ok (.aload_n 0, 1) := by decide +kernel
theorem dM_isRoomFor_26 : decode prog_7_method_31_code 26 = .ok (.bipush 19, 2) := by decide +kernel
theorem dM_isRoomFor_28 : decode prog_7_method_31_code 28 = .ok (.bipush 31, 2) := by decide +kernel
theorem dM_isRoomFor_30 : decode prog_7_method_31_code 30 = .ok (.invokevirtual 142, 3) := by decide +kernel
theorem dM_isRoomFor_33 : decode prog_7_method_31_code 33 = .ok (.isub, 1) := by decide +kernel
theorem dM_isRoomFor_34 : decode prog_7_method_31_code 34 = .ok (.istore 4, 2) := by decide +kernel
theorem dM_isRoomFor_36 : decode prog_7_method_31_code 36 = .ok (.iconst 1, 1) := by decide +kernel
theorem dM_isRoomFor_37 : decode prog_7_method_31_code 37 = .ok (.istore 5, 2) := by decide +kernel
theorem dM_isRoomFor_39 : decode prog_7_method_31_code 39 = .ok (.iload 5, 2) := by decide +kernel
theorem dM_isRoomFor_41 : decode prog_7_method_31_code 41 = .ok (.bipush 13, 2) := by decide +kernel
theorem dM_isRoomFor_43 : decode prog_7_method_31_code 43 = .ok (.if_icmp .ge 36, 3) := by decide +kernel
theorem dM_isRoomFor_46 : decode prog_7_method_31_code 46 = .ok (.iload_n 2, 1) := by decide +kernel
theorem dM_isRoomFor_47 : decode prog_7_method_31_code 47 = .ok (.aload_n 0, 1) := by decide +kernel
theorem dM_isRoomFor_48 : decode prog_7_method_31_code 48 = .ok (.iload 5, 2) := by decide +kernel
theorem dM_isRoomFor_50 : decode prog_7_method_31_code 50 = .ok (.invokevirtual 112, 3) := by decide +kernel
theorem dM_isRoomFor_53 : decode prog_7_method_31_code 53 = .ok (.ifCond .eq 17, 3) := by decide +kernel
theorem dM_isRoomFor_56 : decode prog_7_method_31_code 56 = .ok (.aload_n 0, 1) := by decide +kernel
theorem dM_isRoomFor_57 : decode prog_7_method_31_code 57 = .ok (.iload 5, 2) := by decide +kernel
theorem dM_isRoomFor_59 : decode prog_7_method_31_code 59 = .ok (.iload_n 1, 1) := by decide +kernel
theorem dM_isRoomFor_60 : decode prog_7_method_31_code 60 = .ok (.invokevirtual 92, 3) := by decide +kernel
theorem dM_isRoomFor_63 : decode prog_7_method_31_code 63 = .ok (.ifCond .eq 7, 3) := by decide +kernel
theorem dM_isRoomFor_66 : decode prog_7_method_31_code 66 = .ok (.iconst 1, 1) := by decide +kernel
theorem dM_isRoomFor_67 : decode prog_7_method_31_code 67 = .ok (.goto 4, 3) := by decide +kernel
theorem dM_isRoomFor_70 : decode prog_7_method_31_code 70 = .ok (.iconst 0, 1) := by decide +kernel
theorem dM_isRoomFor_71 : decode prog_7_method_31_code 71 = .ok (.isub, 1) := by decide +kernel
theorem dM_isRoomFor_72 : decode prog_7_method_31_code 72 = .ok (.istore_n 2, 1) := by decide +kernel
theorem dM_isRoomFor_73 : decode prog_7_method_31_code 73 = .ok (.iinc 5 1, 3) := by decide +kernel
theorem dM_isRoomFor_76 : decode prog_7_method_31_code 76 = .ok (.goto (-37), 3) := by decide +kernel
theorem dM_isRoomFor_79 : decode prog_7_method_31_code 79 = .ok (.iconst 0, 1) := by decide +kernel
theorem dM_isRoomFor_80 : decode prog_7_method_31_code 80 = .ok (.istore 5, 2) := by decide +kernel
theorem dM_isRoomFor_82 : decode prog_7_method_31_code 82 = .ok (.iload 5, 2) := by decide +kernel
theorem dM_isRoomFor_84 : decode prog_7_method_31_code 84 = .ok (.bipush 6, 2) := by decide +kernel
theorem dM_isRoomFor_86 : decode prog_7_method_31_code 86 = .ok (.if_icmp .ge 44, 3) := by decide +kernel
theorem dM_isRoomFor_89 : decode prog_7_method_31_code 89 = .ok (.iload_n 3, 1) := by decide +kernel
theorem dM_isRoomFor_90 : decode prog_7_method_31_code 90 = .ok (.aload_n 0, 1) := by decide +kernel
theorem dM_isRoomFor_91 : decode prog_7_method_31_code 91 = .ok (.iload 5, 2) := by decide +kernel
theorem dM_isRoomFor_93 : decode prog_7_method_31_code 93 = .ok (.invokevirtual 89, 3) := by decide +kernel
theorem dM_isRoomFor_96 : decode prog_7_method_31_code 96 = .ok (.ifCond .eq 25, 3) := by decide +kernel
theorem dM_isRoomFor_99 : decode prog_7_method_31_code 99 = .ok (.aload_n 0, 1) := by decide +kernel
theorem dM_isRoomFor_100 : decode prog_7_method_31_code 100 = .ok (.aload_n 0, 1) := by decide +kernel
theorem dM_isRoomFor_101 : decode prog_7_method_31_code 101 = .ok (.getfield 7, 3) := by decide +kernel
theorem dM_isRoomFor_104 : decode prog_7_method_31_code 104 = .ok (.bipush 13, 2) := by decide +kernel
theorem dM_isRoomFor_106 : decode prog_7_method_31_code 106 = .ok (.iload 5, 2) := by decide +kernel
theorem dM_isRoomFor_108 : decode prog_7_method_31_code 108 = .ok (.iadd, 1) := by decide +kernel
theorem dM_isRoomFor_109 : decode prog_7_method_31_code 109 = .ok (.iaload, 1) := by decide +kernel
theorem dM_isRoomFor_110 : decode prog_7_method_31_code 110 = .ok (.iload_n 1, 1) := by decide +kernel
theorem dM_isRoomFor_111 : decode prog_7_method_31_code 111 = .ok (.invokevirtual 92, 3) := by decide +kernel
theorem dM_isRoomFor_114 : decode prog_7_method_31_code 114 = .ok (.ifCond .eq 7, 3) := by decide +kernel
theorem dM_isRoomFor_117 : decode prog_7_method_31_code 117 = .ok (.iconst 1, 1) := by decide +kernel
theorem dM_isRoomFor_118 : decode prog_7_method_31_code 118 = .ok (.goto 4, 3) := by decide +kernel
theorem dM_isRoomFor_121 : decode prog_7_method_31_code 121 = .ok (.iconst 0, 1) := by decide +kernel
theorem dM_isRoomFor_122 : decode prog_7_method_31_code 122 = .ok (.isub, 1) := by decide +kernel
theorem dM_isRoomFor_123 : decode prog_7_method_31_code 123 = .ok (.istore_n 3, 1) := by decide +kernel
theorem dM_isRoomFor_124 : decode prog_7_method_31_code 124 = .ok (.iinc 5 1, 3) := by decide +kernel
theorem dM_isRoomFor_127 : decode prog_7_method_31_code 127 = .ok (.goto (-45), 3) := by decide +kernel
theorem dM_isRoomFor_130 : decode prog_7_method_31_code 130 = .ok (.iconst 0, 1) := by decide +kernel
theorem dM_isRoomFor_131 : decode prog_7_method_31_code 131 = .ok (.istore 5, 2) := by decide +kernel
theorem dM_isRoomFor_133 : decode prog_7_method_31_code 133 = .ok (.iload 5, 2) := by decide +kernel
theorem dM_isRoomFor_135 : decode prog_7_method_31_code 135 = .ok (.bipush 12, 2) := by decide +kernel
theorem dM_isRoomFor_137 : decode prog_7_method_31_code 137 = .ok (.if_icmp .ge 46, 3) := by decide +kernel
theorem dM_isRoomFor_140 : decode prog_7_method_31_code 140 = .ok (.iload 4, 2) := by decide +kernel
theorem dM_isRoomFor_142 : decode prog_7_method_31_code 142 = .ok (.aload_n 0, 1) := by decide +kernel
theorem dM_isRoomFor_143 : decode prog_7_method_31_code 143 = .ok (.iload 5, 2) := by decide +kernel
theorem dM_isRoomFor_145 : decode prog_7_method_31_code 145 = .ok (.invokevirtual 105, 3) := by decide +kernel
theorem dM_isRoomFor_148 : decode prog_7_method_31_code 148 = .ok (.ifCond .eq 25, 3) := by decide +kernel
theorem dM_isRoomFor_151 : decode prog_7_method_31_code 151 = .ok (.aload_n 0, 1) := by decide +kernel
theorem dM_isRoomFor_152 : decode prog_7_method_31_code 152 = .ok (.aload_n 0, 1) := by decide +kernel
theorem dM_isRoomFor_153 : decode prog_7_method_31_code 153 = .ok (.getfield 7, 3) := by decide +kernel
theorem dM_isRoomFor_156 : decode prog_7_method_31_code 156 = .ok (.bipush 19, 2) := by decide +kernel
theorem dM_isRoomFor_158 : decode prog_7_method_31_code 158 = .ok (.iload 5, 2) := by decide +kernel
theorem dM_isRoomFor_160 : decode prog_7_method_31_code 160 = .ok (.iadd, 1) := by decide +kernel
theorem dM_isRoomFor_161 : decode prog_7_method_31_code 161 = .ok (.iaload, 1) := by decide +kernel
theorem dM_isRoomFor_162 : decode prog_7_method_31_code 162 = .ok (.iload_n 1, 1) := by decide +kernel
theorem dM_isRoomFor_163 : decode prog_7_method_31_code 163 = .ok (.invokevirtual 92, 3) := by decide +kernel
theorem dM_isRoomFor_166 : decode prog_7_method_31_code 166 = .ok (.ifCond .eq 7, 3) := by decide +kernel
theorem dM_isRoomFor_169 : decode prog_7_method_31_code 169 = .ok (.iconst 1, 1) := by decide +kernel
theorem dM_isRoomFor_170 : decode prog_7_method_31_code 170 = .ok (.goto 4, 3) := by decide +kernel
theorem dM_isRoomFor_173 : decode prog_7_method_31_code 173 = .ok (.iconst 0, 1) := by decide +kernel
theorem dM_isRoomFor_174 : decode prog_7_method_31_code 174 = .ok (.isub, 1) := by decide +kernel
theorem dM_isRoomFor_175 : decode prog_7_method_31_code 175 = .ok (.istore 4, 2) := by decide +kernel
theorem dM_isRoomFor_177 : decode prog_7_method_31_code 177 = .ok (.iinc 5 1, 3) := by decide +kernel
theorem dM_isRoomFor_180 : decode prog_7_method_31_code 180 = .ok (.goto (-47), 3) := by decide +kernel
theorem dM_isRoomFor_183 : decode prog_7_method_31_code 183 = .ok (.iload_n 2, 1) := by decide +kernel
theorem dM_isRoomFor_184 : decode prog_7_method_31_code 184 = .ok (.ifCond .lt 16, 3) := by decide +kernel
theorem dM_isRoomFor_187 : decode prog_7_method_31_code 187 = .ok (.iload_n 3, 1) := by decide +kernel
theorem dM_isRoomFor_188 : decode prog_7_method_31_code 188 = .ok (.ifCond .lt 12, 3) := by decide +kernel
theorem dM_isRoomFor_191 : decode prog_7_method_31_code 191 = .ok (.iload 4, 2) := by decide +kernel
theorem dM_isRoomFor_193 : decode prog_7_method_31_code 193 = .ok (.ifCond .lt 7, 3) := by decide +kernel
theorem dM_isRoomFor_196 : decode prog_7_method_31_code 196 = .ok (.iconst 1, 1) := by decide +kernel
theorem dM_isRoomFor_197 : decode prog_7_method_31_code 197 = .ok (.goto 4, 3) := by decide +kernel
theorem dM_isRoomFor_200 : decode prog_7_method_31_code 200 = .ok (.iconst 0, 1) := by decide +kernel
theorem dM_isRoomFor_201 : decode prog_7_method_31_code 201 = .ok (.ireturn, 1) := by decide +kernel
theorem dM_copy_0 : decode prog_7_method_32_code 0 = .ok (.aload_n 0, 1) := by decide +kernel
theorem dM_copy_1 : decode prog_7_method_32_code 1 = .ok (.aload_n 0, 1) := by decide +kernel
theorem dM_copy_2 : decode prog_7_method_32_code 2 = .ok (.iload_n 1, 1) := by decide +kernel
theorem dM_copy_3 : decode prog_7_method_32_code 3 = .ok (.iload_n 2, 1) := by decide +kernel
theorem dM_copy_4 : decode prog_7_method_32_code 4 = .ok (.invokevirtual 115, 3) := by decide +kernel
theorem dM_copy_7 : decode prog_7_method_32_code 7 = .ok (.ifCond .ne 11, 3) := by decide +kernel
theorem dM_copy_10 : decode prog_7_method_32_code 10 = .ok (.aload_n 0, 1) := by decide +kernel
theorem dM_copy_11 : decode prog_7_method_32_code 11 = .ok (.iload_n 3, 1) := by decide +kernel
theorem dM_copy_12 : decode prog_7_method_32_code 12 = .ok (.invokevirtual 60, 3) := by decide +kernel
theorem dM_copy_15 : decode prog_7_method_32_code 15 = .ok (.ifCond .ne 7, 3) := by decide +kernel
theorem dM_copy_18 : decode prog_7_method_32_code 18 = .ok (.iconst 1, 1) := by decide +kernel
theorem dM_copy_19 : decode prog_7_method_32_code 19 = .ok (.goto 4, 3) := by decide +kernel
theorem dM_copy_22 : decode prog_7_method_32_code 22 = .ok (.iconst 0, 1) := by decide +kernel
theorem dM_copy_23 : decode prog_7_method_32_code 23 = .ok (.putfield 56, 3) := by decide +kernel
theorem dM_copy_26 : decode prog_7_method_32_code 26 = .ok (.aload_n 0, 1) := by decide +kernel
theorem dM_copy_27 : decode prog_7_method_32_code 27 = .ok (.getfield 56, 3) := by decide +kernel
theorem dM_copy_30 : decode prog_7_method_32_code 30 = .ok (.ifCond .eq 5, 3) := by decide +kernel
theorem dM_copy_33 : decode prog_7_method_32_code 33 = .ok (.iconst 0, 1) := by decide +kernel
theorem dM_copy_34 : decode prog_7_method_32_code 34 = .ok (.ireturn, 1) := by decide +kernel
theorem dM_copy_35 : decode prog_7_method_32_code 35 = .ok (.aload_n 0, 1) := by decide +kernel
theorem dM_copy_36 : decode prog_7_method_32_code 36 = .ok (.getfield 64, 3) := by decide +kernel
theorem dM_copy_39 : decode prog_7_method_32_code 39 = .ok (.ifCond .eq 35, 3) := by decide +kernel
theorem dM_copy_42 : decode prog_7_method_32_code 42 = .ok (.aload_n 0, 1) := by decide +kernel
theorem dM_copy_43 : decode prog_7_method_32_code 43 = .ok (.iload_n 3, 1) := by decide +kernel
theorem dM_copy_44 : decode prog_7_method_32_code 44 = .ok (.aload_n 0, 1) := by decide +kernel
theorem dM_copy_45 : decode prog_7_method_32_code 45 = .ok (.iload_n 1, 1) := by decide +kernel
theorem dM_copy_46 : decode prog_7_method_32_code 46 = .ok (.iload_n 2, 1) := by decide +kernel
theorem dM_copy_47 : decode prog_7_method_32_code 47 = .ok (.invokevirtual 118, 3) := by decide +kernel
theorem dM_copy_50 : decode prog_7_method_32_code 50 = .ok (.invokevirtual 92, 3) := by decide +kernel
theorem dM_copy_53 : decode prog_7_method_32_code 53 = .ok (.ifCond .eq 21, 3) := by decide +kernel
theorem dM_copy_56 : decode prog_7_method_32_code 56 = .ok (.iload_n 1, 1) := by decide +kernel
theorem dM_copy_57 : decode prog_7_method_32_code 57 = .ok (.iconst 1, 1) := by decide +kernel
theorem dM_copy_58 : decode prog_7_method_32_code 58 = .ok (.if_icmp .ne 12, 3) := by decide +kernel
theorem dM_copy_61 : decode prog_7_method_32_code 61 = .ok (.aload_n 0, 1) := by decide +kernel
theorem dM_copy_62 : decode prog_7_method_32_code 62 = .ok (.iload_n 3, 1) := by decide +kernel
theorem dM_copy_63 : decode prog_7_method_32_code 63 = .ok (.iload_n 2, 1) := by decide +kernel
theorem dM_copy_64 : decode prog_7_method_32_code 64 = .ok (.invokevirtual 92, 3) := by decide +kernel
theorem dM_copy_67 : decode prog_7_method_32_code 67 = .ok (.ifCond .ne 7, 3) := by decide +kernel
theorem dM_copy_70 : decode prog_7_method_32_code 70 = .ok (.iconst 1, 1) := by decide +kernel
theorem dM_copy_71 : decode prog_7_method_32_code 71 = .ok (.goto 4, 3) := by decide +kernel
theorem dM_copy_74 : decode prog_7_method_32_code 74 = .ok (.iconst 0, 1) := by decide +kernel
theorem dM_copy_75 : decode prog_7_method_32_code 75 = .ok (.istore 4, 2) := by decide +kernel
theorem dM_copy_77 : decode prog_7_method_32_code 77 = .ok (.iload_n 1, 1) := by decide +kernel
theorem dM_copy_78 : decode prog_7_method_32_code 78 = .ok (.ifCond .ne 20, 3) := by decide +kernel
theorem dM_copy_81 : decode prog_7_method_32_code 81 = .ok (.aload_n 0, 1) := by decide +kernel
theorem dM_copy_82 : decode prog_7_method_32_code 82 = .ok (.invokevirtual 102, 3) := by decide +kernel
theorem dM_copy_85 : decode prog_7_method_32_code 85 = .ok (.bipush 12, 2) := by decide +kernel
theorem dM_copy_87 : decode prog_7_method_32_code 87 = .ok (.if_icmp .ge 7, 3) := by decide +kernel
theorem dM_copy_90 : decode prog_7_method_32_code 90 = .ok (.iconst 1, 1) := by decide +kernel
theorem dM_copy_91 : decode prog_7_method_32_code 91 = .ok (.goto 12, 3) := by decide +kernel
theorem dM_copy_94 : decode prog_7_method_32_code 94 = .ok (.iconst 0, 1) := by decide +kernel
theorem dM_copy_95 : decode prog_7_method_32_code 95 = .ok (.goto 8, 3) := by decide +kernel
theorem dM_copy_98 : decode prog_7_method_32_code 98 = .ok (.aload_n 0, 1) := by decide +kernel
theorem dM_copy_99 : decode prog_7_method_32_code 99 = .ok (.iload_n 2, 1) := by decide +kernel
theorem dM_copy_100 : decode prog_7_method_32_code 100 = .ok (.invokevirtual 145, 3) := by decide +kernel
theorem dM_copy_103 : decode prog_7_method_32_code 103 = .ok (.istore 5, 2) := by decide +kernel
theorem dM_copy_105 : decode prog_7_method_32_code 105 = .ok (.aload_n 0, 1) := by decide +kernel
theorem dM_copy_106 : decode prog_7_method_32_code 106 = .ok (.iload 4, 2) := by decide +kernel
theorem dM_copy_108 : decode prog_7_method_32_code 108 = .ok (.ifCond .ne 7, 3) := by decide +kernel
theorem dM_copy_111 : decode prog_7_method_32_code 111 = .ok (.iconst 2, 1) := by decide +kernel
theorem dM_copy_112 : decode prog_7_method_32_code 112 = .ok (.goto 16, 3) := by decide +kernel
theorem dM_copy_115 : decode prog_7_method_32_code 115 = .ok (.iload 5, 2) := by decide +kernel
theorem dM_copy_117 : decode prog_7_method_32_code 117 = .ok (.ifCond .ne 7, 3) := by decide +kernel
theorem dM_copy_120 : decode prog_7_method_32_code 120 = .ok (.iconst 3, 1) := by decide +kernel
theorem dM_copy_121 : decode prog_7_method_32_code 121 = .ok (.goto 7, 3) := by decide +kernel
theorem dM_copy_124 : decode prog_7_method_32_code 124 = .ok (.aload_n 0, 1) := by decide +kernel
theorem dM_copy_125 : decode prog_7_method_32_code 125 = .ok (.invokevirtual 125, 3) := by decide +kernel
theorem dM_copy_128 : decode prog_7_method_32_code 128 = .ok (.putfield 56, 3) := by decide +kernel
theorem dM_copy_131 : decode prog_7_method_32_code 131 = .ok (.aload_n 0, 1) := by decide +kernel
theorem dM_copy_132 : decode prog_7_method_32_code 132 = .ok (.getfield 56, 3) := by decide +kernel
theorem dM_copy_135 : decode prog_7_method_32_code 135 = .ok (.ifCond .eq 5, 3) := by decide +kernel
theorem dM_copy_138 : decode prog_7_method_32_code 138 = .ok (.iconst 0, 1) := by decide +kernel
theorem dM_copy_139 : decode prog_7_method_32_code 139 = .ok (.ireturn, 1) := by decide +kernel
theorem dM_copy_140 : decode prog_7_method_32_code 140 = .ok (.aload_n 0, 1) := by decide +kernel
theorem dM_copy_141 : decode prog_7_method_32_code 141 = .ok (.invokevirtual 83, 3) := by decide +kernel
theorem dM_copy_144 : decode prog_7_method_32_code 144 = .ok (.iconst 0, 1) := by decide +kernel
theorem dM_copy_145 : decode prog_7_method_32_code 145 = .ok (.istore 6, 2) := by decide +kernel
theorem dM_copy_147 : decode prog_7_method_32_code 147 = .ok (.iload 6, 2) := by decide +kernel
theorem dM_copy_149 : decode prog_7_method_32_code 149 = .ok (.bipush 6, 2) := by decide +kernel
theorem dM_copy_151 : decode prog_7_method_32_code 151 = .ok (.if_icmp .ge 17, 3) := by decide +kernel
theorem dM_copy_154 : decode prog_7_method_32_code 154 = .ok (.aload_n 0, 1) := by decide +kernel
theorem dM_copy_155 : decode prog_7_method_32_code 155 = .ok (.getfield 38, 3) := by decide +kernel
theorem dM_copy_158 : decode prog_7_method_32_code 158 = .ok (.iload 6, 2) := by decide +kernel
theorem dM_copy_160 : decode prog_7_method_32_code 160 = .ok (.iconst (-1), 1) := by decide +kernel
theorem dM_copy_161 : decode prog_7_method_32_code 161 = .ok (.iastore, 1) := by decide +kernel
theorem dM_copy_162 : decode prog_7_method_32_code 162 = .ok (.iinc 6 1, 3) := by decide +kernel
theorem dM_copy_165 : decode prog_7_method_32_code 165 = .ok (.goto (-18), 3) := by decide +kernel
theorem dM_copy_168 : decode prog_7_method_32_code 168 = .ok (.iload_n 1, 1) := by decide +kernel
theorem dM_copy_169 : decode prog_7_method_32_code 169 = .ok (.iconst 1, 1) := by decide +kernel
theorem dM_copy_170 : decode prog_7_method_32_code 170 = .ok (.if_icmp .ne 10, 3) := by decide +kernel
theorem dM_copy_173 : decode prog_7_method_32_code 173 = .ok (.aload_n 0, 1) := by decide +kernel
theorem dM_copy_174 : decode prog_7_method_32_code 174 = .ok (.iload_n 2, 1) := by decide +kernel
theorem dM_copy_175 : decode prog_7_method_32_code 175 = .ok (.iload_n 3, 1) := by decide +kernel
theorem dM_copy_176 : decode prog_7_method_32_code 176 = .ok (.invokevirtual 148, 3) := by decide +kernel
theorem dM_copy_179 : decode prog_7_method_32_code 179 = .ok (.ireturn, 1) := by decide +kernel
theorem dM_copy_180 : decode prog_7_method_32_code 180 = .ok (.aload_n 0, 1) := by decide +kernel
theorem dM_copy_181 : decode prog_7_method_32_code 181 = .ok (.invokevirtual 102, 3) := by decide +kernel
theorem dM_copy_184 : decode prog_7_method_32_code 184 = .ok (.istore 6, 2) := by decide +kernel
theorem dM_copy_186 : decode prog_7_method_32_code 186 = .ok (.aload_n 0, 1) := by decide +kernel
theorem dM_copy_187 : decode prog_7_method_32_code 187 = .ok (.iload_n 2, 1) := by decide +kernel
theorem dM_copy_188 : decode prog_7_method_32_code 188 = .ok (.iload_n 3, 1) := by decide +kernel
theorem dM_copy_189 : decode prog_7_method_32_code 189 = .ok (.invokevirtual 131, 3) := by decide +kernel
theorem dM_copy_192 : decode prog_7_method_32_code 192 = .ok (.iload 6, 2) := by decide +kernel
theorem dM_copy_194 : decode prog_7_method_32_code 194 = .ok (.ireturn, 1) := by decide +kernel
theorem dM_add_0 : decode prog_7_method_33_code 0 = .ok (.aload_n 0, 1) := by decide +kernel
theorem dM_add_1 : decode prog_7_method_33_code 1 = .ok (.getfield 16, 3) := by decide +kernel
theorem dM_add_4 : decode prog_7_method_33_code 4 = .ok (.aload_n 0, 1) := by decide +kernel
theorem dM_add_5 : decode prog_7_method_33_code 5 = .ok (.getfield 151, 3) := by decide +kernel
theorem dM_add_8 : decode prog_7_method_33_code 8 = .ok (.iload_n 1, 1) := by decide +kernel
theorem dM_add_9 : decode prog_7_method_33_code 9 = .ok (.iastore, 1) := by decide +kernel
theorem dM_add_10 : decode prog_7_method_33_code 10 = .ok (.aload_n 0, 1) := by decide +kernel
theorem dM_add_11 : decode prog_7_method_33_code 11 = .ok (.dup, 1) := by decide +kernel
theorem dM_add_12 : decode prog_7_method_33_code 12 = .ok (.getfield 151, 3) := by decide +kernel
theorem dM_add_15 : decode prog_7_method_33_code 15 = .ok (.iconst 1, 1) := by decide +kernel
theorem dM_add_16 : decode prog_7_method_33_code 16 = .ok (.iadd, 1) := by decide +kernel
theorem dM_add_17 : decode prog_7_method_33_code 17 = .ok (.putfield 151, 3) := by decide +kernel
theorem dM_add_20 : decode prog_7_method_33_code 20 = .ok (.return_, 1) := by decide +kernel
theorem dM_readOwn_0 : decode prog_7_method_34_code 0 = .ok (.iconst 0, 1) := by decide +kernel
theorem dM_readOwn_1 : decode prog_7_method_34_code 1 = .ok (.istore_n 2, 1) := by decide +kernel
theorem dM_readOwn_2 : decode prog_7_method_34_code 2 = .ok (.iload_n 2, 1) := by decide +kernel
theorem dM_readOwn_3 : decode prog_7_method_34_code 3 = .ok (.bipush 6, 2) := by decide +kernel
theorem dM_readOwn_5 : decode prog_7_method_34_code 5 = .ok (.if_icmp .ge 30, 3) := by decide +kernel
theorem dM_readOwn_8 : decode prog_7_method_34_code 8 = .ok (.aload_n 0, 1) := by decide +kernel
theorem dM_readOwn_9 : decode prog_7_method_34_code 9 = .ok (.getfield 7, 3) := by decide +kernel
theorem dM_readOwn_12 : decode prog_7_method_34_code 12 = .ok (.bipush 13, 2) := by decide +kernel
theorem dM_readOwn_14 : decode prog_7_method_34_code 14 = .ok (.iload_n 2, 1) := by decide +kernel
theorem dM_readOwn_15 : decode prog_7_method_34_code 15 = .ok (.iadd, 1) := by decide +kernel
theorem dM_readOwn_16 : decode prog_7_method_34_code 16 = .ok (.iaload, 1) := by decide +kernel
theorem dM_readOwn_17 : decode prog_7_method_34_code 17 = .ok (.iload_n 1, 1) := by decide +kernel
theorem dM_readOwn_18 : decode prog_7_method_34_code 18 = .ok (.if_icmp .ne 11, 3) := by decide +kernel
theorem dM_readOwn_21 : decode prog_7_method_34_code 21 = .ok (.aload_n 0, 1) := by decide +kernel
theorem dM_readOwn_22 : decode prog_7_method_34_code 22 = .ok (.bipush 100, 2) := by decide +kernel
theorem dM_readOwn_24 : decode prog_7_method_34_code 24 = .ok (.iload_n 2, 1) := by decide +kernel
theorem dM_readOwn_25 : decode prog_7_method_34_code 25 = .ok (.iadd, 1) := by decide +kernel
theorem dM_readOwn_26 : decode prog_7_method_34_code 26 = .ok (.invokevirtual 154, 3) := by decide +kernel
theorem dM_readOwn_29 : decode prog_7_method_34_code 29 = .ok (.iinc 2 1, 3) := by decide +kernel
theorem dM_readOwn_32 : decode prog_7_method_34_code 32 = .ok (.goto (-30), 3) := by decide +kernel
theorem dM_readOwn_35 : decode prog_7_method_34_code 35 = .ok (.iconst 0, 1) := by decide +kernel
theorem dM_readOwn_36 : decode prog_7_method_34_code 36 = .ok (.istore_n 2, 1) := by decide +kernel
theorem dM_readOwn_37 : decode prog_7_method_34_code 37 = .ok (.iload_n 2, 1) := by decide +kernel
theorem dM_readOwn_38 : decode prog_7_method_34_code 38 = .ok (.bipush 12, 2) := by decide +kernel
theorem dM_readOwn_40 : decode prog_7_method_34_code 40 = .ok (.if_icmp .ge 27, 3) := by decide +kernel
theorem dM_readOwn_43 : decode prog_7_method_34_code 43 = .ok (.aload_n 0, 1) := by decide +kernel
theorem dM_readOwn_44 : decode prog_7_method_34_code 44 = .ok (.getfield 7, 3) := by decide +kernel
theorem dM_readOwn_47 : decode prog_7_method_34_code 47 = .ok (.bipush 19, 2) := by decide +kernel
theorem dM_readOwn_49 : decode prog_7_method_34_code 49 = .ok (.iload_n 2, 1) := by decide +kernel
theorem dM_readOwn_50 : decode prog_7_method_34_code 50 = .ok (.iadd, 1) := by decide +kernel
theorem dM_readOwn_51 : decode prog_7_method_34_code 51 = .ok (.iaload, 1) := by decide +kernel
theorem dM_readOwn_52 : decode prog_7_method_34_code 52 = .ok (.iload_n 1, 1) := by decide +kernel
theorem dM_readOwn_53 : decode prog_7_method_34_code 53 = .ok (.if_icmp .ne 8, 3) := by decide +kernel
theorem dM_readOwn_56 : decode prog_7_method_34_code 56 = .ok (.aload_n 0, 1) := by decide +kernel
theorem dM_readOwn_57 : decode prog_7_method_34_code 57 = .ok (.iload_n 2, 1) := by decide +kernel
theorem dM_readOwn_58 : decode prog_7_method_34_code 58 = .ok (.invokevirtual 157, 3) := by decide +kernel
theorem dM_readOwn_61 : decode prog_7_method_34_code 61 = .ok (.iinc 2 1, 3) := by decide +kernel
theorem dM_readOwn_64 : decode prog_7_method_34_code 64 = .ok (.goto (-27), 3) := by decide +kernel
theorem dM_readOwn_67 : decode prog_7_method_34_code 67 = .ok (.return_, 1) := by decide +kernel
theorem dM_readSpot_0 : decode prog_7_method_35_code 0 = .ok (.aload_n 0, 1) := by decide +kernel
theorem dM_readSpot_1 : decode prog_7_method_35_code 1 = .ok (.getfield 7, 3) := by decide +kernel
theorem dM_readSpot_4 : decode prog_7_method_35_code 4 = .ok (.bipush 31, 2) := by decide +kernel
theorem dM_readSpot_6 : decode prog_7_method_35_code 6 = .ok (.iload_n 1, 1) := by decide +kernel
theorem dM_readSpot_7 : decode prog_7_method_35_code 7 = .ok (.iadd, 1) := by decide +kernel
theorem dM_readSpot_8 : decode prog_7_method_35_code 8 = .ok (.iaload, 1) := by decide +kernel
theorem dM_readSpot_9 : decode prog_7_method_35_code 9 = .ok (.istore_n 2, 1) := by decide +kernel
theorem dM_readSpot_10 : decode prog_7_method_35_code 10 = .ok (.aload_n 0, 1) := by decide +kernel
theorem dM_readSpot_11 : decode prog_7_method_35_code 11 = .ok (.bipush 10, 2) := by decide +kernel
theorem dM_readSpot_13 : decode prog_7_method_35_code 13 = .ok (.iload_n 2, 1) := by decide +kernel
theorem dM_readSpot_14 : decode prog_7_method_35_code 14 = .ok (.iadd, 1) := by decide +kernel
theorem dM_readSpot_15 : decode prog_7_method_35_code 15 = .ok (.invokevirtual 154, 3) := by decide +kernel
theorem dM_readSpot_18 : decode prog_7_method_35_code 18 = .ok (.iconst 0, 1) := by decide +kernel
theorem dM_readSpot_19 : decode prog_7_method_35_code 19 = .ok (.istore_n 3, 1) := by decide +kernel
theorem dM_readSpot_20 : decode prog_7_method_35_code 20 = .ok (.iload_n 3, 1) := by decide +kernel
theorem dM_readSpot_21 : decode prog_7_method_35_code 21 = .ok (.aload_n 0, 1) := by decide +kernel
theorem dM_readSpot_22 : decode prog_7_method_35_code 22 = .ok (.iload_n 2, 1) := by decide +kernel
theorem dM_readSpot_23 : decode prog_7_method_35_code 23 = .ok (.invokevirtual 96, 3) := by decide +kernel
theorem dM_readSpot_26 : decode prog_7_method_35_code 26 = .ok (.if_icmp .ge 29, 3) := by decide +kernel
theorem dM_readSpot_29 : decode prog_7_method_35_code 29 = .ok (.aload_n 0, 1) := by decide +kernel
theorem dM_readSpot_30 : decode prog_7_method_35_code 30 = .ok (.bipush 100, 2) := by decide +kernel
theorem dM_readSpot_32 : decode prog_7_method_35_code 32 = .ok (.aload_n 0, 1) := by decide +kernel
theorem dM_readSpot_33 : decode prog_7_method_35_code 33 = .ok (.getfield 7, 3) := by decide +kernel
theorem dM_readSpot_36 : decode prog_7_method_35_code 36 = .ok (.bipush 43, 2) := by decide +kernel
theorem dM_readSpot_38 : decode prog_7_method_35_code 38 = .ok (.iconst 2, 1) := by decide +kernel
theorem dM_readSpot_39 : decode prog_7_method_35_code 39 = .ok (.iload_n 1, 1) := by decide +kernel
theorem dM_readSpot_40 : decode prog_7_method_35_code 40 = .ok (.imul, 1) := by decide +kernel
theorem dM_readSpot_41 : decode prog_7_method_35_code 41 = .ok (.iadd, 1) := by decide +kernel
theorem dM_readSpot_42 : decode prog_7_method_35_code 42 = .ok (.iload_n 3, 1) := by decide +kernel
theorem dM_readSpot_43 : decode prog_7_method_35_code 43 = .ok (.iadd, 1) := by decide +kernel
theorem dM_readSpot_44 : decode prog_7_method_35_code 44 = .ok (.iaload, 1) := by decide +kernel
theorem dM_readSpot_45 : decode prog_7_method_35_code 45 = .ok (.iadd, 1) := by decide +kernel
theorem dM_readSpot_46 : decode prog_7_method_35_code 46 = .ok (.invokevirtual 154, 3) := by decide +kernel
theorem dM_readSpot_49 : decode prog_7_method_35_code 49 = .ok (.iinc 3 1, 3) := by decide +kernel
theorem dM_readSpot_52 : decode prog_7_method_35_code 52 = .ok (.goto (-32), 3) := by decide +kernel
theorem dM_readSpot_55 : decode prog_7_method_35_code 55 = .ok (.return_, 1) := by decide +kernel
theorem dM_readArea_0 : decode prog_7_method_36_code 0 = .ok (.aload_n 0, 1) := by decide +kernel
theorem dM_readArea_1 : decode prog_7_method_36_code 1 = .ok (.iconst 0, 1) := by decide +kernel
theorem dM_readArea_2 : decode prog_7_method_36_code 2 = .ok (.putfield 151, 3) := by decide +kernel
theorem dM_readArea_5 : decode prog_7_method_36_code 5 = .ok (.aload_n 0, 1) := by decide +kernel
theorem dM_readArea_6 : decode prog_7_method_36_code 6 = .ok (.iload_n 1, 1) := by decide +kernel
theorem dM_readArea_7 : decode prog_7_method_36_code 7 = .ok (.invokevirtual 160, 3) := by decide +kernel
theorem dM_readArea_10 : decode prog_7_method_36_code 10 = .ok (.aload_n 0, 1) := by decide +kernel
theorem dM_readArea_11 : decode prog_7_method_36_code 11 = .ok (.iconst 1, 1) := by decide +kernel
theorem dM_readArea_12 : decode prog_7_method_36_code 12 = .ok (.putfield 139, 3) := by decide +kernel
theorem dM_readArea_15 : decode prog_7_method_36_code 15 = .ok (.aload_n 0, 1) := by decide +kernel
theorem dM_readArea_16 : decode prog_7_method_36_code 16 = .ok (.getfield 25, 3) := by decide +kernel
theorem dM_readArea_19 : decode prog_7_method_36_code 19 = .ok (.iconst 0, 1) := by decide +kernel
theorem dM_readArea_20 : decode prog_7_method_36_code 20 = .ok (.iload_n 1, 1) := by decide +kernel
theorem dM_readArea_21 : decode prog_7_method_36_code 21 = .ok (.iastore, 1) := by decide +kernel
theorem dM_readArea_22 : decode prog_7_method_36_code 22 = .ok (.aload_n 0, 1) := by decide +kernel
theorem dM_readArea_23 : decode prog_7_method_36_code 23 = .ok (.getfield 28, 3) := by decide +kernel
theorem dM_readArea_26 : decode prog_7_method_36_code 26 = .ok (.iconst 0, 1) := by decide +kernel
theorem dM_readArea_27 : decode prog_7_method_36_code 27 = .ok (.iconst 0, 1) := by decide +kernel
theorem dM_readArea_28 : decode prog_7_method_36_code 28 = .ok (.iastore, 1) := by decide +kernel
theorem dM_readArea_29 : decode prog_7_method_36_code 29 = .ok (.aload_n 0, 1) := by decide +kernel
end
section
/-! printed by wip/whole/gen_names.py: decode rows -/
theorem dM_readArea_30 : decode prog_7_method_36_code 30 = .ok (.getfield 139, 3) := by decide +kernel
theorem dM_readArea_33 : decode prog_7_method_36_code 33 = .ok (.ifCond .le 137, 3) := by decide +kernel
theorem dM_readArea_36 : decode prog_7_method_36_code 36 = .ok (.aload_n 0, 1) := by decide +kernel
theorem dM_readArea_37 : decode prog_7_method_36_code 37 = .ok (.getfield 25, 3) := by decide +kernel
theorem dM_readArea_40 : decode prog_7_method_36_code 40 = .ok (.aload_n 0, 1) := by decide +kernel
theorem dM_readArea_41 : decode prog_7_method_36_code 41 = .ok (.getfield 139, 3) := by decide +kernel
theorem dM_readArea_44 : decode prog_7_method_36_code 44 = .ok (.iconst 1, 1) := by decide +kernel
theorem dM_readArea_45 : decode prog_7_method_36_code 45 = .ok (.isub, 1) := by decide +kernel
theorem dM_readArea_46 : decode prog_7_method_36_code 46 = .ok (.iaload, 1) := by decide +kernel
theorem dM_readArea_47 : decode prog_7_method_36_code 47 = .ok (.istore_n 2, 1) := by decide +kernel
theorem dM_readArea_48 : decode prog_7_method_36_code 48 = .ok (.aload_n 0, 1) := by decide +kernel
theorem dM_readArea_49 : decode prog_7_method_36_code 49 = .ok (.getfield 28, 3) := by decide +kernel
theorem dM_readArea_52 : decode prog_7_method_36_code 52 = .ok (.aload_n 0, 1) := by decide +kernel
theorem dM_readArea_53 : decode prog_7_method_36_code 53 = .ok (.getfield 139, 3) := by decide +kernel
theorem dM_readArea_56 : decode prog_7_method_36_code 56 = .ok (.iconst 1, 1) := by decide +kernel
theorem dM_readArea_57 : decode prog_7_method_36_code 57 = .ok (.isub, 1) := by decide +kernel
theorem dM_readArea_58 : decode prog_7_method_36_code 58 = .ok (.iaload, 1) := by decide +kernel
theorem dM_readArea_59 : decode prog_7_method_36_code 59 = .ok (.iconst 1, 1) := by decide +kernel
theorem dM_readArea_60 : decode prog_7_method_36_code 60 = .ok (.iadd, 1) := by decide +kernel
theorem dM_readArea_61 : decode prog_7_method_36_code 61 = .ok (.istore_n 3, 1) := by decide +kernel
theorem dM_readArea_62 : decode prog_7_method_36_code 62 = .ok (.iload_n 3, 1) := by decide +kernel
theorem dM_readArea_63 : decode prog_7_method_36_code 63 = .ok (.bipush 13, 2) := by decide +kernel
theorem dM_readArea_65 : decode prog_7_method_36_code 65 = .ok (.if_icmp .ge 19, 3) := by decide +kernel
theorem dM_readArea_68 : decode prog_7_method_36_code 68 = .ok (.aload_n 0, 1) := by decide +kernel
theorem dM_readArea_69 : decode prog_7_method_36_code 69 = .ok (.getfield 7, 3) := by decide +kernel
theorem dM_readArea_72 : decode prog_7_method_36_code 72 = .ok (.iload_n 3, 1) := by decide +kernel
theorem dM_readArea_73 : decode prog_7_method_36_code 73 = .ok (.iaload, 1) := by decide +kernel
theorem dM_readArea_74 : decode prog_7_method_36_code 74 = .ok (.iload_n 2, 1) := by decide +kernel
theorem dM_readArea_75 : decode prog_7_method_36_code 75 = .ok (.if_icmp .eq 9, 3) := by decide +kernel
theorem dM_readArea_78 : decode prog_7_method_36_code 78 = .ok (.iinc 3 1, 3) := by decide +kernel
theorem dM_readArea_81 : decode prog_7_method_36_code 81 = .ok (.goto (-19), 3) := by decide +kernel
theorem dM_readArea_84 : decode prog_7_method_36_code 84 = .ok (.aload_n 0, 1) := by decide +kernel
theorem dM_readArea_85 : decode prog_7_method_36_code 85 = .ok (.getfield 28, 3) := by decide +kernel
theorem dM_readArea_88 : decode prog_7_method_36_code 88 = .ok (.aload_n 0, 1) := by decide +kernel
theorem dM_readArea_89 : decode prog_7_method_36_code 89 = .ok (.getfield 139, 3) := by decide +kernel
theorem dM_readArea_92 : decode prog_7_method_36_code 92 = .ok (.iconst 1, 1) := by decide +kernel
theorem dM_readArea_93 : decode prog_7_method_36_code 93 = .ok (.isub, 1) := by decide +kernel
theorem dM_readArea_94 : decode prog_7_method_36_code 94 = .ok (.iload_n 3, 1) := by decide +kernel
theorem dM_readArea_95 : decode prog_7_method_36_code 95 = .ok (.iastore, 1) := by decide +kernel
theorem dM_readArea_96 : decode prog_7_method_36_code 96 = .ok (.iload_n 3, 1) := by decide +kernel
theorem dM_readArea_97 : decode prog_7_method_36_code 97 = .ok (.bipush 13, 2) := by decide +kernel
theorem dM_readArea_99 : decode prog_7_method_36_code 99 = .ok (.if_icmp .ne 28, 3) := by decide +kernel
theorem dM_readArea_102 : decode prog_7_method_36_code 102 = .ok (.aload_n 0, 1) := by decide +kernel
theorem dM_readArea_103 : decode prog_7_method_36_code 103 = .ok (.dup, 1) := by decide +kernel
theorem dM_readArea_104 : decode prog_7_method_36_code 104 = .ok (.getfield 139, 3) := by decide +kernel
theorem dM_readArea_107 : decode prog_7_method_36_code 107 = .ok (.iconst 1, 1) := by decide +kernel
theorem dM_readArea_108 : decode prog_7_method_36_code 108 = .ok (.isub, 1) := by decide +kernel
theorem dM_readArea_109 : decode prog_7_method_36_code 109 = .ok (.putfield 139, 3) := by decide +kernel
theorem dM_readArea_112 : decode prog_7_method_36_code 112 = .ok (.aload_n 0, 1) := by decide +kernel
theorem dM_readArea_113 : decode prog_7_method_36_code 113 = .ok (.getfield 139, 3) := by decide +kernel
theorem dM_readArea_116 : decode prog_7_method_36_code 116 = .ok (.ifCond .le 51, 3) := by decide +kernel
theorem dM_readArea_119 : decode prog_7_method_36_code 119 = .ok (.aload_n 0, 1) := by decide +kernel
theorem dM_readArea_120 : decode prog_7_method_36_code 120 = .ok (.iconst 2, 1) := by decide +kernel
theorem dM_readArea_121 : decode prog_7_method_36_code 121 = .ok (.invokevirtual 154, 3) := by decide +kernel
theorem dM_readArea_124 : decode prog_7_method_36_code 124 = .ok (.goto 43, 3) := by decide +kernel
theorem dM_readArea_127 : decode prog_7_method_36_code 127 = .ok (.aload_n 0, 1) := by decide +kernel
theorem dM_readArea_128 : decode prog_7_method_36_code 128 = .ok (.iconst 1, 1) := by decide +kernel
theorem dM_readArea_129 : decode prog_7_method_36_code 129 = .ok (.invokevirtual 154, 3) := by decide +kernel
theorem dM_readArea_132 : decode prog_7_method_36_code 132 = .ok (.aload_n 0, 1) := by decide +kernel
theorem dM_readArea_133 : decode prog_7_method_36_code 133 = .ok (.iload_n 3, 1) := by decide +kernel
theorem dM_readArea_134 : decode prog_7_method_36_code 134 = .ok (.invokevirtual 160, 3) := by decide +kernel
theorem dM_readArea_137 : decode prog_7_method_36_code 137 = .ok (.aload_n 0, 1) := by decide +kernel
theorem dM_readArea_138 : decode prog_7_method_36_code 138 = .ok (.getfield 25, 3) := by decide +kernel
theorem dM_readArea_141 : decode prog_7_method_36_code 141 = .ok (.aload_n 0, 1) := by decide +kernel
theorem dM_readArea_142 : decode prog_7_method_36_code 142 = .ok (.getfield 139, 3) := by decide +kernel
theorem dM_readArea_145 : decode prog_7_method_36_code 145 = .ok (.iload_n 3, 1) := by decide +kernel
theorem dM_readArea_146 : decode prog_7_method_36_code 146 = .ok (.iastore, 1) := by decide +kernel
theorem dM_readArea_147 : decode prog_7_method_36_code 147 = .ok (.aload_n 0, 1) := by decide +kernel
theorem dM_readArea_148 : decode prog_7_method_36_code 148 = .ok (.getfield 28, 3) := by decide +kernel
theorem dM_readArea_151 : decode prog_7_method_36_code 151 = .ok (.aload_n 0, 1) := by decide +kernel
theorem dM_readArea_152 : decode prog_7_method_36_code 152 = .ok (.getfield 139, 3) := by decide +kernel
theorem dM_readArea_155 : decode prog_7_method_36_code 155 = .ok (.iconst 0, 1) := by decide +kernel
theorem dM_readArea_156 : decode prog_7_method_36_code 156 = .ok (.iastore, 1) := by decide +kernel
theorem dM_readArea_157 : decode prog_7_method_36_code 157 = .ok (.aload_n 0, 1) := by decide +kernel
theorem dM_readArea_158 : decode prog_7_method_36_code 158 = .ok (.dup, 1) := by decide +kernel
theorem dM_readArea_159 : decode prog_7_method_36_code 159 = .ok (.getfield 139, 3) := by decide +kernel
theorem dM_readArea_162 : decode prog_7_method_36_code 162 = .ok (.iconst 1, 1) := by decide +kernel
theorem dM_readArea_163 : decode prog_7_method_36_code 163 = .ok (.iadd, 1) := by decide +kernel
theorem dM_readArea_164 : decode prog_7_method_36_code 164 = .ok (.putfield 139, 3) := by decide +kernel
theorem dM_readArea_167 : decode prog_7_method_36_code 167 = .ok (.goto (-138), 3) := by decide +kernel
theorem dM_readArea_170 : decode prog_7_method_36_code 170 = .ok (.return_, 1) := by decide +kernel
theorem dM_readPart_0 : decode prog_7_method_37_code 0 = .ok (.iload_n 1, 1) := by decide +kernel
theorem dM_readPart_1 : decode prog_7_method_37_code 1 = .ok (.ifCond .ne 14, 3) := by decide +kernel
theorem dM_readPart_4 : decode prog_7_method_37_code 4 = .ok (.aload_n 0, 1) := by decide +kernel
theorem dM_readPart_5 : decode prog_7_method_37_code 5 = .ok (.iconst 0, 1) := by decide +kernel
theorem dM_readPart_6 : decode prog_7_method_37_code 6 = .ok (.putfield 151, 3) := by decide +kernel
theorem dM_readPart_9 : decode prog_7_method_37_code 9 = .ok (.aload_n 0, 1) := by decide +kernel
theorem dM_readPart_10 : decode prog_7_method_37_code 10 = .ok (.iload_n 2, 1) := by decide +kernel
theorem dM_readPart_11 : decode prog_7_method_37_code 11 = .ok (.invokevirtual 157, 3) := by decide +kernel
theorem dM_readPart_14 : decode prog_7_method_37_code 14 = .ok (.return_, 1) := by decide +kernel
theorem dM_readPart_15 : decode prog_7_method_37_code 15 = .ok (.aload_n 0, 1) := by decide +kernel
theorem dM_readPart_16 : decode prog_7_method_37_code 16 = .ok (.iload_n 2, 1) := by decide +kernel
theorem dM_readPart_17 : decode prog_7_method_37_code 17 = .ok (.invokevirtual 163, 3) := by decide +kernel
theorem dM_readPart_20 : decode prog_7_method_37_code 20 = .ok (.iconst 0, 1) := by decide +kernel
theorem dM_readPart_21 : decode prog_7_method_37_code 21 = .ok (.istore_n 3, 1) := by decide +kernel
theorem dM_readPart_22 : decode prog_7_method_37_code 22 = .ok (.iconst 0, 1) := by decide +kernel
theorem dM_readPart_23 : decode prog_7_method_37_code 23 = .ok (.istore 4, 2) := by decide +kernel
theorem dM_readPart_25 : decode prog_7_method_37_code 25 = .ok (.iload 4, 2) := by decide +kernel
theorem dM_readPart_27 : decode prog_7_method_37_code 27 = .ok (.bipush 6, 2) := by decide +kernel
theorem dM_readPart_29 : decode prog_7_method_37_code 29 = .ok (.if_icmp .ge 17, 3) := by decide +kernel
theorem dM_readPart_32 : decode prog_7_method_37_code 32 = .ok (.aload_n 0, 1) := by decide +kernel
theorem dM_readPart_33 : decode prog_7_method_37_code 33 = .ok (.getfield 22, 3) := by decide +kernel
theorem dM_readPart_36 : decode prog_7_method_37_code 36 = .ok (.iload 4, 2) := by decide +kernel
theorem dM_readPart_38 : decode prog_7_method_37_code 38 = .ok (.iconst (-1), 1) := by decide +kernel
theorem dM_readPart_39 : decode prog_7_method_37_code 39 = .ok (.iastore, 1) := by decide +kernel
theorem dM_readPart_40 : decode prog_7_method_37_code 40 = .ok (.iinc 4 1, 3) := by decide +kernel
theorem dM_readPart_43 : decode prog_7_method_37_code 43 = .ok (.goto (-18), 3) := by decide +kernel
theorem dM_readPart_46 : decode prog_7_method_37_code 46 = .ok (.iconst 0, 1) := by decide +kernel
theorem dM_readPart_47 : decode prog_7_method_37_code 47 = .ok (.istore 4, 2) := by decide +kernel
theorem dM_readPart_49 : decode prog_7_method_37_code 49 = .ok (.iload 4, 2) := by decide +kernel
theorem dM_readPart_51 : decode prog_7_method_37_code 51 = .ok (.aload_n 0, 1) := by decide +kernel
theorem dM_readPart_52 : decode prog_7_method_37_code 52 = .ok (.getfield 151, 3) := by decide +kernel
theorem dM_readPart_55 : decode prog_7_method_37_code 55 = .ok (.if_icmp .ge 84, 3) := by decide +kernel
theorem dM_readPart_58 : decode prog_7_method_37_code 58 = .ok (.aload_n 0, 1) := by decide +kernel
theorem dM_readPart_59 : decode prog_7_method_37_code 59 = .ok (.getfield 16, 3) := by decide +kernel
theorem dM_readPart_62 : decode prog_7_method_37_code 62 = .ok (.iload 4, 2) := by decide +kernel
theorem dM_readPart_64 : decode prog_7_method_37_code 64 = .ok (.iaload, 1) := by decide +kernel
theorem dM_readPart_65 : decode prog_7_method_37_code 65 = .ok (.bipush 100, 2) := by decide +kernel
theorem dM_readPart_67 : decode prog_7_method_37_code 67 = .ok (.isub, 1) := by decide +kernel
theorem dM_readPart_68 : decode prog_7_method_37_code 68 = .ok (.istore 5, 2) := by decide +kernel
theorem dM_readPart_70 : decode prog_7_method_37_code 70 = .ok (.iload 5, 2) := by decide +kernel
theorem dM_readPart_72 : decode prog_7_method_37_code 72 = .ok (.ifCond .lt 61, 3) := by decide +kernel
theorem dM_readPart_75 : decode prog_7_method_37_code 75 = .ok (.aload_n 0, 1) := by decide +kernel
theorem dM_readPart_76 : decode prog_7_method_37_code 76 = .ok (.aload_n 0, 1) := by decide +kernel
theorem dM_readPart_77 : decode prog_7_method_37_code 77 = .ok (.getfield 7, 3) := by decide +kernel
theorem dM_readPart_80 : decode prog_7_method_37_code 80 = .ok (.bipush 13, 2) := by decide +kernel
theorem dM_readPart_82 : decode prog_7_method_37_code 82 = .ok (.iload 5, 2) := by decide +kernel
theorem dM_readPart_84 : decode prog_7_method_37_code 84 = .ok (.iadd, 1) := by decide +kernel
theorem dM_readPart_85 : decode prog_7_method_37_code 85 = .ok (.iaload, 1) := by decide +kernel
theorem dM_readPart_86 : decode prog_7_method_37_code 86 = .ok (.iload_n 2, 1) := by decide +kernel
theorem dM_readPart_87 : decode prog_7_method_37_code 87 = .ok (.invokevirtual 92, 3) := by decide +kernel
theorem dM_readPart_90 : decode prog_7_method_37_code 90 = .ok (.ifCond .eq 43, 3) := by decide +kernel
theorem dM_readPart_93 : decode prog_7_method_37_code 93 = .ok (.aload_n 0, 1) := by decide +kernel
theorem dM_readPart_94 : decode prog_7_method_37_code 94 = .ok (.getfield 22, 3) := by decide +kernel
theorem dM_readPart_97 : decode prog_7_method_37_code 97 = .ok (.iload 5, 2) := by decide +kernel
theorem dM_readPart_99 : decode prog_7_method_37_code 99 = .ok (.iaload, 1) := by decide +kernel
theorem dM_readPart_100 : decode prog_7_method_37_code 100 = .ok (.iconst (-1), 1) := by decide +kernel
theorem dM_readPart_101 : decode prog_7_method_37_code 101 = .ok (.if_icmp .ne 14, 3) := by decide +kernel
theorem dM_readPart_104 : decode prog_7_method_37_code 104 = .ok (.aload_n 0, 1) := by decide +kernel
theorem dM_readPart_105 : decode prog_7_method_37_code 105 = .ok (.getfield 22, 3) := by decide +kernel
theorem dM_readPart_108 : decode prog_7_method_37_code 108 = .ok (.iload 5, 2) := by decide +kernel
theorem dM_readPart_110 : decode prog_7_method_37_code 110 = .ok (.iload_n 3, 1) := by decide +kernel
theorem dM_readPart_111 : decode prog_7_method_37_code 111 = .ok (.iastore, 1) := by decide +kernel
theorem dM_readPart_112 : decode prog_7_method_37_code 112 = .ok (.iinc 3 1, 3) := by decide +kernel
theorem dM_readPart_115 : decode prog_7_method_37_code 115 = .ok (.aload_n 0, 1) := by decide +kernel
theorem dM_readPart_116 : decode prog_7_method_37_code 116 = .ok (.getfield 16, 3) := by decide +kernel
theorem dM_readPart_119 : decode prog_7_method_37_code 119 = .ok (.iload 4, 2) := by decide +kernel
theorem dM_readPart_121 : decode prog_7_method_37_code 121 = .ok (.sipush 200, 3) := by decide +kernel
theorem dM_readPart_124 : decode prog_7_method_37_code 124 = .ok (.aload_n 0, 1) := by decide +kernel
theorem dM_readPart_125 : decode prog_7_method_37_code 125 = .ok (.getfield 22, 3) := by decide +kernel
theorem dM_readPart_128 : decode prog_7_method_37_code 128 = .ok (.iload 5, 2) := by decide +kernel
theorem dM_readPart_130 : decode prog_7_method_37_code 130 = .ok (.iaload, 1) := by decide +kernel
theorem dM_readPart_131 : decode prog_7_method_37_code 131 = .ok (.iadd, 1) := by decide +kernel
theorem dM_readPart_132 : decode prog_7_method_37_code 132 = .ok (.iastore, 1) := by decide +kernel
theorem dM_readPart_133 : decode prog_7_method_37_code 133 = .ok (.iinc 4 1, 3) := by decide +kernel
theorem dM_readPart_136 : decode prog_7_method_37_code 136 = .ok (.goto (-87), 3) := by decide +kernel
theorem dM_readPart_139 : decode prog_7_method_37_code 139 = .ok (.return_, 1) := by decide +kernel
theorem dM_isAlike_0 : decode prog_7_method_38_code 0 = .ok (.aload_n 0, 1) := by decide +kernel
theorem dM_isAlike_1 : decode prog_7_method_38_code 1 = .ok (.iload_n 1, 1) := by decide +kernel
theorem dM_isAlike_2 : decode prog_7_method_38_code 2 = .ok (.iload_n 2, 1) := by decide +kernel
theorem dM_isAlike_3 : decode prog_7_method_38_code 3 = .ok (.invokevirtual 166, 3) := by decide +kernel
theorem dM_isAlike_6 : decode prog_7_method_38_code 6 = .ok (.aload_n 0, 1) := by decide +kernel
theorem dM_isAlike_7 : decode prog_7_method_38_code 7 = .ok (.getfield 151, 3) := by decide +kernel
theorem dM_isAlike_10 : decode prog_7_method_38_code 10 = .ok (.aload_n 0, 1) := by decide +kernel
theorem dM_isAlike_11 : decode prog_7_method_38_code 11 = .ok (.getfield 169, 3) := by decide +kernel
theorem dM_isAlike_14 : decode prog_7_method_38_code 14 = .ok (.if_icmp .ne 7, 3) := by decide +kernel
theorem dM_isAlike_17 : decode prog_7_method_38_code 17 = .ok (.iconst 1, 1) := by decide +kernel
theorem dM_isAlike_18 : decode prog_7_method_38_code 18 = .ok (.goto 4, 3) := by decide +kernel
theorem dM_isAlike_21 : decode prog_7_method_38_code 21 = .ok (.iconst 0, 1) := by decide +kernel
theorem dM_isAlike_22 : decode prog_7_method_38_code 22 = .ok (.istore_n 3, 1) := by decide +kernel
theorem dM_isAlike_23 : decode prog_7_method_38_code 23 = .ok (.iconst 0, 1) := by decide +kernel
theorem dM_isAlike_24 : decode prog_7_method_38_code 24 = .ok (.istore 4, 2) := by decide +kernel
theorem dM_isAlike_26 : decode prog_7_method_38_code 26 = .ok (.iload 4, 2) := by decide +kernel
theorem dM_isAlike_28 : decode prog_7_method_38_code 28 = .ok (.aload_n 0, 1) := by decide +kernel
theorem dM_isAlike_29 : decode prog_7_method_38_code 29 = .ok (.getfield 151, 3) := by decide +kernel
theorem dM_isAlike_32 : decode prog_7_method_38_code 32 = .ok (.if_icmp .ge 36, 3) := by decide +kernel
theorem dM_isAlike_35 : decode prog_7_method_38_code 35 = .ok (.iload_n 3, 1) := by decide +kernel
theorem dM_isAlike_36 : decode prog_7_method_38_code 36 = .ok (.ifCond .eq 32, 3) := by decide +kernel
theorem dM_isAlike_39 : decode prog_7_method_38_code 39 = .ok (.aload_n 0, 1) := by decide +kernel
theorem dM_isAlike_40 : decode prog_7_method_38_code 40 = .ok (.getfield 16, 3) := by decide +kernel
theorem dM_isAlike_43 : decode prog_7_method_38_code 43 = .ok (.iload 4, 2) := by decide +kernel
theorem dM_isAlike_45 : decode prog_7_method_38_code 45 = .ok (.iaload, 1) := by decide +kernel
theorem dM_isAlike_46 : decode prog_7_method_38_code 46 = .ok (.aload_n 0, 1) := by decide +kernel
theorem dM_isAlike_47 : decode prog_7_method_38_code 47 = .ok (.getfield 19, 3) := by decide +kernel
theorem dM_isAlike_50 : decode prog_7_method_38_code 50 = .ok (.iload 4, 2) := by decide +kernel
theorem dM_isAlike_52 : decode prog_7_method_38_code 52 = .ok (.iaload, 1) := by decide +kernel
theorem dM_isAlike_53 : decode prog_7_method_38_code 53 = .ok (.if_icmp .ne 7, 3) := by decide +kernel
theorem dM_isAlike_56 : decode prog_7_method_38_code 56 = .ok (.iconst 1, 1) := by decide +kernel
theorem dM_isAlike_57 : decode prog_7_method_38_code 57 = .ok (.goto 4, 3) := by decide +kernel
theorem dM_isAlike_60 : decode prog_7_method_38_code 60 = .ok (.iconst 0, 1) := by decide +kernel
theorem dM_isAlike_61 : decode prog_7_method_38_code 61 = .ok (.istore_n 3, 1) := by decide +kernel
theorem dM_isAlike_62 : decode prog_7_method_38_code 62 = .ok (.iinc 4 1, 3) := by decide +kernel
theorem dM_isAlike_65 : decode prog_7_method_38_code 65 = .ok (.goto (-39), 3) := by decide +kernel
theorem dM_isAlike_68 : decode prog_7_method_38_code 68 = .ok (.iload_n 3, 1) := by decide +kernel
theorem dM_isAlike_69 : decode prog_7_method_38_code 69 = .ok (.ireturn, 1) := by decide +kernel
theorem dM_hasOther_0 : decode prog_7_method_39_code 0 = .ok (.aload_n 0, 1) := by decide +kernel
theorem dM_hasOther_1 : decode prog_7_method_39_code 1 = .ok (.iload_n 1, 1) := by decide +kernel
theorem dM_hasOther_2 : decode prog_7_method_39_code 2 = .ok (.iload_n 2, 1) := by decide +kernel
theorem dM_hasOther_3 : decode prog_7_method_39_code 3 = .ok (.invokevirtual 166, 3) := by decide +kernel
theorem dM_hasOther_6 : decode prog_7_method_39_code 6 = .ok (.aload_n 0, 1) := by decide +kernel
theorem dM_hasOther_7 : decode prog_7_method_39_code 7 = .ok (.aload_n 0, 1) := by decide +kernel
theorem dM_hasOther_8 : decode prog_7_method_39_code 8 = .ok (.getfield 151, 3) := by decide +kernel
theorem dM_hasOther_11 : decode prog_7_method_39_code 11 = .ok (.putfield 169, 3) := by decide +kernel
theorem dM_hasOther_14 : decode prog_7_method_39_code 14 = .ok (.iconst 0, 1) := by decide +kernel
theorem dM_hasOther_15 : decode prog_7_method_39_code 15 = .ok (.istore_n 3, 1) := by decide +kernel
theorem dM_hasOther_16 : decode prog_7_method_39_code 16 = .ok (.iload_n 3, 1) := by decide +kernel
theorem dM_hasOther_17 : decode prog_7_method_39_code 17 = .ok (.aload_n 0, 1) := by decide +kernel
theorem dM_hasOther_18 : decode prog_7_method_39_code 18 = .ok (.getfield 151, 3) := by decide +kernel
theorem dM_hasOther_21 : decode prog_7_method_39_code 21 = .ok (.if_icmp .ge 21, 3) := by decide +kernel
theorem dM_hasOther_24 : decode prog_7_method_39_code 24 = .ok (.aload_n 0, 1) := by decide +kernel
theorem dM_hasOther_25 : decode prog_7_method_39_code 25 = .ok (.getfield 19, 3) := by decide +kernel
theorem dM_hasOther_28 : decode prog_7_method_39_code 28 = .ok (.iload_n 3, 1) := by decide +kernel
theorem dM_hasOther_29 : decode prog_7_method_39_code 29 = .ok (.aload_n 0, 1) := by decide +kernel
theorem dM_hasOther_30 : decode prog_7_method_39_code 30 = .ok (.getfield 16, 3) := by decide +kernel
theorem dM_hasOther_33 : decode prog_7_method_39_code 33 = .ok (.iload_n 3, 1) := by decide +kernel
theorem dM_hasOther_34 : decode prog_7_method_39_code 34 = .ok (.iaload, 1) := by decide +kernel
theorem dM_hasOther_35 : decode prog_7_method_39_code 35 = .ok (.iastore, 1) := by decide +kernel
theorem dM_hasOther_36 : decode prog_7_method_39_code 36 = .ok (.iinc 3 1, 3) := by decide +kernel
theorem dM_hasOther_39 : decode prog_7_method_39_code 39 = .ok (.goto (-23), 3) := by decide +kernel
theorem dM_hasOther_42 : decode prog_7_method_39_code 42 = .ok (.aload_n 0, 1) := by decide +kernel
theorem dM_hasOther_43 : decode prog_7_method_39_code 43 = .ok (.iload_n 1, 1) := by decide +kernel
theorem dM_hasOther_44 : decode prog_7_method_39_code 44 = .ok (.iload_n 2, 1) := by decide +kernel
theorem dM_hasOther_45 : decode prog_7_method_39_code 45 = .ok (.invokevirtual 118, 3) := by decide +kernel
theorem dM_hasOther_48 : decode prog_7_method_39_code 48 = .ok (.istore_n 3, 1) := by decide +kernel
theorem dM_hasOther_49 : decode prog_7_method_39_code 49 = .ok (.iconst 0, 1) := by decide +kernel
theorem dM_hasOther_50 : decode prog_7_method_39_code 50 = .ok (.istore 4, 2) := by decide +kernel
theorem dM_hasOther_52 : decode prog_7_method_39_code 52 = .ok (.iload_n 1, 1) := by decide +kernel
theorem dM_hasOther_53 : decode prog_7_method_39_code 53 = .ok (.istore 5, 2) := by decide +kernel
theorem dM_hasOther_55 : decode prog_7_method_39_code 55 = .ok (.iload 5, 2) := by decide +kernel
theorem dM_hasOther_57 : decode prog_7_method_39_code 57 = .ok (.iload_n 1, 1) := by decide +kernel
theorem dM_hasOther_58 : decode prog_7_method_39_code 58 = .ok (.ifCond .ne 8, 3) := by decide +kernel
theorem dM_hasOther_61 : decode prog_7_method_39_code 61 = .ok (.bipush 12, 2) := by decide +kernel
theorem dM_hasOther_63 : decode prog_7_method_39_code 63 = .ok (.goto 5, 3) := by decide +kernel
theorem dM_hasOther_66 : decode prog_7_method_39_code 66 = .ok (.bipush 13, 2) := by decide +kernel
theorem dM_hasOther_68 : decode prog_7_method_39_code 68 = .ok (.if_icmp .ge 78, 3) := by decide +kernel
theorem dM_hasOther_71 : decode prog_7_method_39_code 71 = .ok (.iload_n 1, 1) := by decide +kernel
theorem dM_hasOther_72 : decode prog_7_method_39_code 72 = .ok (.ifCond .ne 12, 3) := by decide +kernel
theorem dM_hasOther_75 : decode prog_7_method_39_code 75 = .ok (.aload_n 0, 1) := by decide +kernel
theorem dM_hasOther_76 : decode prog_7_method_39_code 76 = .ok (.iload 5, 2) := by decide +kernel
theorem dM_hasOther_78 : decode prog_7_method_39_code 78 = .ok (.invokevirtual 105, 3) := by decide +kernel
theorem dM_hasOther_81 : decode prog_7_method_39_code 81 = .ok (.goto 9, 3) := by decide +kernel
theorem dM_hasOther_84 : decode prog_7_method_39_code 84 = .ok (.aload_n 0, 1) := by decide +kernel
theorem dM_hasOther_85 : decode prog_7_method_39_code 85 = .ok (.iload 5, 2) := by decide +kernel
theorem dM_hasOther_87 : decode prog_7_method_39_code 87 = .ok (.invokevirtual 112, 3) := by decide +kernel
theorem dM_hasOther_90 : decode prog_7_method_39_code 90 = .ok (.istore 6, 2) := by decide +kernel
theorem dM_hasOther_92 : decode prog_7_method_39_code 92 = .ok (.iload 4, 2) := by decide +kernel
theorem dM_hasOther_94 : decode prog_7_method_39_code 94 = .ok (.ifCond .ne 39, 3) := by decide +kernel
theorem dM_hasOther_97 : decode prog_7_method_39_code 97 = .ok (.iload 6, 2) := by decide +kernel
theorem dM_hasOther_99 : decode prog_7_method_39_code 99 = .ok (.ifCond .eq 38, 3) := by decide +kernel
theorem dM_hasOther_102 : decode prog_7_method_39_code 102 = .ok (.iload 5, 2) := by decide +kernel
theorem dM_hasOther_104 : decode prog_7_method_39_code 104 = .ok (.iload_n 2, 1) := by decide +kernel
theorem dM_hasOther_105 : decode prog_7_method_39_code 105 = .ok (.if_icmp .eq 32, 3) := by decide +kernel
theorem dM_hasOther_108 : decode prog_7_method_39_code 108 = .ok (.aload_n 0, 1) := by decide +kernel
theorem dM_hasOther_109 : decode prog_7_method_39_code 109 = .ok (.iload_n 3, 1) := by decide +kernel
theorem dM_hasOther_110 : decode prog_7_method_39_code 110 = .ok (.aload_n 0, 1) := by decide +kernel
theorem dM_hasOther_111 : decode prog_7_method_39_code 111 = .ok (.iload_n 1, 1) := by decide +kernel
theorem dM_hasOther_112 : decode prog_7_method_39_code 112 = .ok (.iload 5, 2) := by decide +kernel
theorem dM_hasOther_114 : decode prog_7_method_39_code 114 = .ok (.invokevirtual 118, 3) := by decide +kernel
theorem dM_hasOther_117 : decode prog_7_method_39_code 117 = .ok (.invokevirtual 92, 3) := by decide +kernel
theorem dM_hasOther_120 : decode prog_7_method_39_code 120 = .ok (.ifCond .eq 17, 3) := by decide +kernel
theorem dM_hasOther_123 : decode prog_7_method_39_code 123 = .ok (.aload_n 0, 1) := by decide +kernel
theorem dM_hasOther_124 : decode prog_7_method_39_code 124 = .ok (.iload_n 1, 1) := by decide +kernel
theorem dM_hasOther_125 : decode prog_7_method_39_code 125 = .ok (.iload 5, 2) := by decide +kernel
theorem dM_hasOther_127 : decode prog_7_method_39_code 127 = .ok (.invokevirtual 172, 3) := by decide +kernel
theorem dM_hasOther_130 : decode prog_7_method_39_code 130 = .ok (.ifCond .eq 7, 3) := by decide +kernel
theorem dM_hasOther_133 : decode prog_7_method_39_code 133 = .ok (.iconst 1, 1) := by decide +kernel
theorem dM_hasOther_134 : decode prog_7_method_39_code 134 = .ok (.goto 4, 3) := by decide +kernel
theorem dM_hasOther_137 : decode prog_7_method_39_code 137 = .ok (.iconst 0, 1) := by decide +kernel
theorem dM_hasOther_138 : decode prog_7_method_39_code 138 = .ok (.istore 4, 2) := by decide +kernel
theorem dM_hasOther_140 : decode prog_7_method_39_code 140 = .ok (.iinc 5 1, 3) := by decide +kernel
theorem dM_hasOther_143 : decode prog_7_method_39_code 143 = .ok (.goto (-88), 3) := by decide +kernel
theorem dM_hasOther_146 : decode prog_7_method_39_code 146 = .ok (.iload 4, 2) := by decide +kernel
theorem dM_hasOther_148 : decode prog_7_method_39_code 148 = .ok (.ireturn, 1) := by decide +kernel
theorem dM_uncopy_0 : decode prog_7_method_40_code 0 = .ok (.aload_n 0, 1) := by decide +kernel
theorem dM_uncopy_1 : decode prog_7_method_40_code 1 = .ok (.aload_n 0, 1) := by decide +kernel
theorem dM_uncopy_2 : decode prog_7_method_40_code 2 = .ok (.iload_n 1, 1) := by decide +kernel
theorem dM_uncopy_3 : decode prog_7_method_40_code 3 = .ok (.iload_n 2, 1) := by decide +kernel
theorem dM_uncopy_4 : decode prog_7_method_40_code 4 = .ok (.invokevirtual 115, 3) := by decide +kernel
theorem dM_uncopy_7 : decode prog_7_method_40_code 7 = .ok (.ifCond .eq 7, 3) := by decide +kernel
theorem dM_uncopy_10 : decode prog_7_method_40_code 10 = .ok (.iconst 1, 1) := by decide +kernel
theorem dM_uncopy_11 : decode prog_7_method_40_code 11 = .ok (.goto 4, 3) := by decide +kernel
theorem dM_uncopy_14 : decode prog_7_method_40_code 14 = .ok (.iconst 0, 1) := by decide +kernel
theorem dM_uncopy_15 : decode prog_7_method_40_code 15 = .ok (.putfield 56, 3) := by decide +kernel
theorem dM_uncopy_18 : decode prog_7_method_40_code 18 = .ok (.aload_n 0, 1) := by decide +kernel
theorem dM_uncopy_19 : decode prog_7_method_40_code 19 = .ok (.getfield 56, 3) := by decide +kernel
theorem dM_uncopy_22 : decode prog_7_method_40_code 22 = .ok (.ifCond .eq 5, 3) := by decide +kernel
theorem dM_uncopy_25 : decode prog_7_method_40_code 25 = .ok (.iconst 0, 1) := by decide +kernel
theorem dM_uncopy_26 : decode prog_7_method_40_code 26 = .ok (.ireturn, 1) := by decide +kernel
theorem dM_uncopy_27 : decode prog_7_method_40_code 27 = .ok (.aload_n 0, 1) := by decide +kernel
theorem dM_uncopy_28 : decode prog_7_method_40_code 28 = .ok (.getfield 151, 3) := by decide +kernel
theorem dM_uncopy_31 : decode prog_7_method_40_code 31 = .ok (.istore_n 3, 1) := by decide +kernel
theorem dM_uncopy_32 : decode prog_7_method_40_code 32 = .ok (.iconst 0, 1) := by decide +kernel
theorem dM_uncopy_33 : decode prog_7_method_40_code 33 = .ok (.istore 4, 2) := by decide +kernel
theorem dM_uncopy_35 : decode prog_7_method_40_code 35 = .ok (.iload 4, 2) := by decide +kernel
theorem dM_uncopy_37 : decode prog_7_method_40_code 37 = .ok (.iload_n 3, 1) := by decide +kernel
theorem dM_uncopy_38 : decode prog_7_method_40_code 38 = .ok (.if_icmp .ge 23, 3) := by decide +kernel
theorem dM_uncopy_41 : decode prog_7_method_40_code 41 = .ok (.aload_n 0, 1) := by decide +kernel
theorem dM_uncopy_42 : decode prog_7_method_40_code 42 = .ok (.getfield 41, 3) := by decide +kernel
theorem dM_uncopy_45 : decode prog_7_method_40_code 45 = .ok (.iload 4, 2) := by decide +kernel
theorem dM_uncopy_47 : decode prog_7_method_40_code 47 = .ok (.aload_n 0, 1) := by decide +kernel
theorem dM_uncopy_48 : decode prog_7_method_40_code 48 = .ok (.getfield 16, 3) := by decide +kernel
theorem dM_uncopy_51 : decode prog_7_method_40_code 51 = .ok (.iload 4, 2) := by decide +kernel
theorem dM_uncopy_53 : decode prog_7_method_40_code 53 = .ok (.iaload, 1) := by decide +kernel
theorem dM_uncopy_54 : decode prog_7_method_40_code 54 = .ok (.iastore, 1) := by decide +kernel
theorem dM_uncopy_55 : decode prog_7_method_40_code 55 = .ok (.iinc 4 1, 3) := by decide +kernel
theorem dM_uncopy_58 : decode prog_7_method_40_code 58 = .ok (.goto (-23), 3) := by decide +kernel
theorem dM_uncopy_61 : decode prog_7_method_40_code 61 = .ok (.aload_n 0, 1) := by decide +kernel
theorem dM_uncopy_62 : decode prog_7_method_40_code 62 = .ok (.getfield 64, 3) := by decide +kernel
theorem dM_uncopy_65 : decode prog_7_method_40_code 65 = .ok (.ifCond .eq 16, 3) := by decide +kernel
theorem dM_uncopy_68 : decode prog_7_method_40_code 68 = .ok (.aload_n 0, 1) := by decide +kernel
theorem dM_uncopy_69 : decode prog_7_method_40_code 69 = .ok (.iload_n 1, 1) := by decide +kernel
theorem dM_uncopy_70 : decode prog_7_method_40_code 70 = .ok (.iload_n 2, 1) := by decide +kernel
theorem dM_uncopy_71 : decode prog_7_method_40_code 71 = .ok (.invokevirtual 175, 3) := by decide +kernel
theorem dM_uncopy_74 : decode prog_7_method_40_code 74 = .ok (.ifCond .eq 7, 3) := by decide +kernel
theorem dM_uncopy_77 : decode prog_7_method_40_code 77 = .ok (.iconst 1, 1) := by decide +kernel
theorem dM_uncopy_78 : decode prog_7_method_40_code 78 = .ok (.goto 4, 3) := by decide +kernel
theorem dM_uncopy_81 : decode prog_7_method_40_code 81 = .ok (.iconst 0, 1) := by decide +kernel
theorem dM_uncopy_82 : decode prog_7_method_40_code 82 = .ok (.istore 4, 2) := by decide +kernel
theorem dM_uncopy_84 : decode prog_7_method_40_code 84 = .ok (.aload_n 0, 1) := by decide +kernel
theorem dM_uncopy_85 : decode prog_7_method_40_code 85 = .ok (.iload_n 3, 1) := by decide +kernel
theorem dM_uncopy_86 : decode prog_7_method_40_code 86 = .ok (.putfield 151, 3) := by decide +kernel
theorem dM_uncopy_89 : decode prog_7_method_40_code 89 = .ok (.iconst 0, 1) := by decide +kernel
theorem dM_uncopy_90 : decode prog_7_method_40_code 90 = .ok (.istore 5, 2) := by decide +kernel
theorem dM_uncopy_92 : decode prog_7_method_40_code 92 = .ok (.iload 5, 2) := by decide +kernel
theorem dM_uncopy_94 : decode prog_7_method_40_code 94 = .ok (.iload_n 3, 1) := by decide +kernel
theorem dM_uncopy_95 : decode prog_7_method_40_code 95 = .ok (.if_icmp .ge 23, 3) := by decide +kernel
theorem dM_uncopy_98 : decode prog_7_method_40_code 98 = .ok (.aload_n 0, 1) := by decide +kernel
theorem dM_uncopy_99 : decode prog_7_method_40_code 99 = .ok (.getfield 16, 3) := by decide +kernel
theorem dM_uncopy_102 : decode prog_7_method_40_code 102 = .ok (.iload 5, 2) := by decide +kernel
theorem dM_uncopy_104 : decode prog_7_method_40_code 104 = .ok (.aload_n 0, 1) := by decide +kernel
theorem dM_uncopy_105 : decode prog_7_method_40_code 105 = .ok (.getfield 41, 3) := by decide +kernel
theorem dM_uncopy_108 : decode prog_7_method_40_code 108 = .ok (.iload 5, 2) := by decide +kernel
theorem dM_uncopy_110 : decode prog_7_method_40_code 110 = .ok (.iaload, 1) := by decide +kernel
theorem dM_uncopy_111 : decode prog_7_method_40_code 111 = .ok (.iastore, 1) := by decide +kernel
theorem dM_uncopy_112 : decode prog_7_method_40_code 112 = .ok (.iinc 5 1, 3) := by decide +kernel
theorem dM_uncopy_115 : decode prog_7_method_40_code 115 = .ok (.goto (-23), 3) := by decide +kernel
theorem dM_uncopy_118 : decode prog_7_method_40_code 118 = .ok (.aload_n 0, 1) := by decide +kernel
theorem dM_uncopy_119 : decode prog_7_method_40_code 119 = .ok (.iload 4, 2) := by decide +kernel
theorem dM_uncopy_121 : decode prog_7_method_40_code 121 = .ok (.ifCond .ne 7, 3) := by decide +kernel
theorem dM_uncopy_124 : decode prog_7_method_40_code 124 = .ok (.iconst 2, 1) := by decide +kernel
theorem dM_uncopy_125 : decode prog_7_method_40_code 125 = .ok (.goto 7, 3) := by decide +kernel
theorem dM_uncopy_128 : decode prog_7_method_40_code 128 = .ok (.aload_n 0, 1) := by decide +kernel
theorem dM_uncopy_129 : decode prog_7_method_40_code 129 = .ok (.invokevirtual 125, 3) := by decide +kernel
theorem dM_uncopy_132 : decode prog_7_method_40_code 132 = .ok (.putfield 56, 3) := by decide +kernel
theorem dM_uncopy_135 : decode prog_7_method_40_code 135 = .ok (.aload_n 0, 1) := by decide +kernel
theorem dM_uncopy_136 : decode prog_7_method_40_code 136 = .ok (.getfield 56, 3) := by decide +kernel
theorem dM_uncopy_139 : decode prog_7_method_40_code 139 = .ok (.ifCond .eq 5, 3) := by decide +kernel
theorem dM_uncopy_142 : decode prog_7_method_40_code 142 = .ok (.iconst 0, 1) := by decide +kernel
theorem dM_uncopy_143 : decode prog_7_method_40_code 143 = .ok (.ireturn, 1) := by decide +kernel
theorem dM_uncopy_144 : decode prog_7_method_40_code 144 = .ok (.aload_n 0, 1) := by decide +kernel
theorem dM_uncopy_145 : decode prog_7_method_40_code 145 = .ok (.invokevirtual 83, 3) := by decide +kernel
theorem dM_uncopy_148 : decode prog_7_method_40_code 148 = .ok (.iload_n 1, 1) := by decide +kernel
theorem dM_uncopy_149 : decode prog_7_method_40_code 149 = .ok (.ifCond .ne 11, 3) := by decide +kernel
theorem dM_uncopy_152 : decode prog_7_method_40_code 152 = .ok (.aload_n 0, 1) := by decide +kernel
theorem dM_uncopy_153 : decode prog_7_method_40_code 153 = .ok (.iload_n 2, 1) := by decide +kernel
theorem dM_uncopy_154 : decode prog_7_method_40_code 154 = .ok (.invokevirtual 108, 3) := by decide +kernel
theorem dM_uncopy_157 : decode prog_7_method_40_code 157 = .ok (.goto 8, 3) := by decide +kernel
theorem dM_uncopy_160 : decode prog_7_method_40_code 160 = .ok (.aload_n 0, 1) := by decide +kernel
theorem dM_uncopy_161 : decode prog_7_method_40_code 161 = .ok (.iload_n 2, 1) := by decide +kernel
theorem dM_uncopy_162 : decode prog_7_method_40_code 162 = .ok (.invokevirtual 128, 3) := by decide +kernel
theorem dM_uncopy_165 : decode prog_7_method_40_code 165 = .ok (.aload_n 0, 1) := by decide +kernel
theorem dM_uncopy_166 : decode prog_7_method_40_code 166 = .ok (.getfield 68, 3) := by decide +kernel
theorem dM_uncopy_169 : decode prog_7_method_40_code 169 = .ok (.ireturn, 1) := by decide +kernel
theorem dM_wrap_0 : decode prog_7_method_41_code 0 = .ok (.aload_n 0, 1) := by decide +kernel
theorem dM_wrap_1 : decode prog_7_method_41_code 1 = .ok (.iload_n 1, 1) := by decide +kernel
theorem dM_wrap_2 : decode prog_7_method_41_code 2 = .ok (.iconst 2, 1) := by decide +kernel
theorem dM_wrap_3 : decode prog_7_method_41_code 3 = .ok (.if_icmp .ne 19, 3) := by decide +kernel
theorem dM_wrap_6 : decode prog_7_method_41_code 6 = .ok (.aload_n 0, 1) := by decide +kernel
theorem dM_wrap_7 : decode prog_7_method_41_code 7 = .ok (.iload_n 2, 1) := by decide +kernel
theorem dM_wrap_8 : decode prog_7_method_41_code 8 = .ok (.invokevirtual 60, 3) := by decide +kernel
theorem dM_wrap_11 : decode prog_7_method_41_code 11 = .ok (.ifCond .eq 7, 3) := by decide +kernel
theorem dM_wrap_14 : decode prog_7_method_41_code 14 = .ok (.iconst 0, 1) := by decide +kernel
theorem dM_wrap_15 : decode prog_7_method_41_code 15 = .ok (.goto 21, 3) := by decide +kernel
theorem dM_wrap_18 : decode prog_7_method_41_code 18 = .ok (.iconst 1, 1) := by decide +kernel
theorem dM_wrap_19 : decode prog_7_method_41_code 19 = .ok (.goto 17, 3) := by decide +kernel
theorem dM_wrap_22 : decode prog_7_method_41_code 22 = .ok (.aload_n 0, 1) := by decide +kernel
theorem dM_wrap_23 : decode prog_7_method_41_code 23 = .ok (.iload_n 1, 1) := by decide +kernel
theorem dM_wrap_24 : decode prog_7_method_41_code 24 = .ok (.iload_n 2, 1) := by decide +kernel
theorem dM_wrap_25 : decode prog_7_method_41_code 25 = .ok (.invokevirtual 115, 3) := by decide +kernel
theorem dM_wrap_28 : decode prog_7_method_41_code 28 = .ok (.ifCond .eq 7, 3) := by decide +kernel
theorem dM_wrap_31 : decode prog_7_method_41_code 31 = .ok (.iconst 1, 1) := by decide +kernel
theorem dM_wrap_32 : decode prog_7_method_41_code 32 = .ok (.goto 4, 3) := by decide +kernel
theorem dM_wrap_35 : decode prog_7_method_41_code 35 = .ok (.iconst 0, 1) := by decide +kernel
theorem dM_wrap_36 : decode prog_7_method_41_code 36 = .ok (.putfield 56, 3) := by decide +kernel
theorem dM_wrap_39 : decode prog_7_method_41_code 39 = .ok (.aload_n 0, 1) := by decide +kernel
theorem dM_wrap_40 : decode prog_7_method_41_code 40 = .ok (.getfield 56, 3) := by decide +kernel
theorem dM_wrap_43 : decode prog_7_method_41_code 43 = .ok (.ifCond .eq 5, 3) := by decide +kernel
theorem dM_wrap_46 : decode prog_7_method_41_code 46 = .ok (.iconst 0, 1) := by decide +kernel
theorem dM_wrap_47 : decode prog_7_method_41_code 47 = .ok (.ireturn, 1) := by decide +kernel
theorem dM_wrap_48 : decode prog_7_method_41_code 48 = .ok (.aload_n 0, 1) := by decide +kernel
theorem dM_wrap_49 : decode prog_7_method_41_code 49 = .ok (.aload_n 0, 1) := by decide +kernel
theorem dM_wrap_50 : decode prog_7_method_41_code 50 = .ok (.getfield 64, 3) := by decide +kernel
theorem dM_wrap_53 : decode prog_7_method_41_code 53 = .ok (.ifCond .ne 7, 3) := by decide +kernel
theorem dM_wrap_56 : decode prog_7_method_41_code 56 = .ok (.iconst 2, 1) := by decide +kernel
theorem dM_wrap_57 : decode prog_7_method_41_code 57 = .ok (.goto 23, 3) := by decide +kernel
theorem dM_wrap_60 : decode prog_7_method_41_code 60 = .ok (.aload_n 0, 1) := by decide +kernel
theorem dM_wrap_61 : decode prog_7_method_41_code 61 = .ok (.iconst 1, 1) := by decide +kernel
theorem dM_wrap_62 : decode prog_7_method_41_code 62 = .ok (.bipush 13, 2) := by decide +kernel
theorem dM_wrap_64 : decode prog_7_method_41_code 64 = .ok (.invokevirtual 142, 3) := by decide +kernel
theorem dM_wrap_67 : decode prog_7_method_41_code 67 = .ok (.bipush 10, 2) := by decide +kernel
theorem dM_wrap_69 : decode prog_7_method_41_code 69 = .ok (.if_icmp .le 7, 3) := by decide +kernel
theorem dM_wrap_72 : decode prog_7_method_41_code 72 = .ok (.iconst 3, 1) := by decide +kernel
theorem dM_wrap_73 : decode prog_7_method_41_code 73 = .ok (.goto 7, 3) := by decide +kernel
theorem dM_wrap_76 : decode prog_7_method_41_code 76 = .ok (.aload_n 0, 1) := by decide +kernel
theorem dM_wrap_77 : decode prog_7_method_41_code 77 = .ok (.invokevirtual 125, 3) := by decide +kernel
theorem dM_wrap_80 : decode prog_7_method_41_code 80 = .ok (.putfield 56, 3) := by decide +kernel
theorem dM_wrap_83 : decode prog_7_method_41_code 83 = .ok (.aload_n 0, 1) := by decide +kernel
theorem dM_wrap_84 : decode prog_7_method_41_code 84 = .ok (.getfield 56, 3) := by decide +kernel
theorem dM_wrap_87 : decode prog_7_method_41_code 87 = .ok (.ifCond .eq 5, 3) := by decide +kernel
theorem dM_wrap_90 : decode prog_7_method_41_code 90 = .ok (.iconst 0, 1) := by decide +kernel
theorem dM_wrap_91 : decode prog_7_method_41_code 91 = .ok (.ireturn, 1) := by decide +kernel
theorem dM_wrap_92 : decode prog_7_method_41_code 92 = .ok (.aload_n 0, 1) := by decide +kernel
theorem dM_wrap_93 : decode prog_7_method_41_code 93 = .ok (.invokevirtual 83, 3) := by decide +kernel
theorem dM_wrap_96 : decode prog_7_method_41_code 96 = .ok (.iload_n 1, 1) := by decide +kernel
theorem dM_wrap_97 : decode prog_7_method_41_code 97 = .ok (.iconst 2, 1) := by decide +kernel
theorem dM_wrap_98 : decode prog_7_method_41_code 98 = .ok (.if_icmp .ne 7, 3) := by decide +kernel
theorem dM_wrap_101 : decode prog_7_method_41_code 101 = .ok (.iload_n 2, 1) := by decide +kernel
theorem dM_wrap_102 : decode prog_7_method_41_code 102 = .ok (.goto 9, 3) := by decide +kernel
theorem dM_wrap_105 : decode prog_7_method_41_code 105 = .ok (.aload_n 0, 1) := by decide +kernel
theorem dM_wrap_106 : decode prog_7_method_41_code 106 = .ok (.iload_n 1, 1) := by decide +kernel
theorem dM_wrap_107 : decode prog_7_method_41_code 107 = .ok (.iload_n 2, 1) := by decide +kernel
theorem dM_wrap_108 : decode prog_7_method_41_code 108 = .ok (.invokevirtual 118, 3) := by decide +kernel
theorem dM_wrap_111 : decode prog_7_method_41_code 111 = .ok (.istore_n 3, 1) := by decide +kernel
theorem dM_wrap_112 : decode prog_7_method_41_code 112 = .ok (.aload_n 0, 1) := by decide +kernel
theorem dM_wrap_113 : decode prog_7_method_41_code 113 = .ok (.invokevirtual 75, 3) := by decide +kernel
theorem dM_wrap_116 : decode prog_7_method_41_code 116 = .ok (.istore 4, 2) := by decide +kernel
theorem dM_wrap_118 : decode prog_7_method_41_code 118 = .ok (.aload_n 0, 1) := by decide +kernel
theorem dM_wrap_119 : decode prog_7_method_41_code 119 = .ok (.getfield 7, 3) := by decide +kernel
theorem dM_wrap_122 : decode prog_7_method_41_code 122 = .ok (.iload 4, 2) := by decide +kernel
theorem dM_wrap_124 : decode prog_7_method_41_code 124 = .ok (.iload_n 3, 1) := by decide +kernel
theorem dM_wrap_125 : decode prog_7_method_41_code 125 = .ok (.iastore, 1) := by decide +kernel
theorem dM_wrap_126 : decode prog_7_method_41_code 126 = .ok (.aload_n 0, 1) := by decide +kernel
theorem dM_wrap_127 : decode prog_7_method_41_code 127 = .ok (.invokevirtual 75, 3) := by decide +kernel
theorem dM_wrap_130 : decode prog_7_method_41_code 130 = .ok (.istore 5, 2) := by decide +kernel
theorem dM_wrap_132 : decode prog_7_method_41_code 132 = .ok (.aload_n 0, 1) := by decide +kernel
theorem dM_wrap_133 : decode prog_7_method_41_code 133 = .ok (.getfield 7, 3) := by decide +kernel
theorem dM_wrap_136 : decode prog_7_method_41_code 136 = .ok (.iload 5, 2) := by decide +kernel
theorem dM_wrap_138 : decode prog_7_method_41_code 138 = .ok (.iload 4, 2) := by decide +kernel
theorem dM_wrap_140 : decode prog_7_method_41_code 140 = .ok (.iastore, 1) := by decide +kernel
theorem dM_wrap_141 : decode prog_7_method_41_code 141 = .ok (.iload_n 1, 1) := by decide +kernel
theorem dM_wrap_142 : decode prog_7_method_41_code 142 = .ok (.iconst 2, 1) := by decide +kernel
theorem dM_wrap_143 : decode prog_7_method_41_code 143 = .ok (.if_icmp .ge 22, 3) := by decide +kernel
theorem dM_wrap_146 : decode prog_7_method_41_code 146 = .ok (.aload_n 0, 1) := by decide +kernel
theorem dM_wrap_147 : decode prog_7_method_41_code 147 = .ok (.getfield 7, 3) := by decide +kernel
theorem dM_wrap_150 : decode prog_7_method_41_code 150 = .ok (.iload_n 1, 1) := by decide +kernel
theorem dM_wrap_151 : decode prog_7_method_41_code 151 = .ok (.ifCond .ne 10, 3) := by decide +kernel
theorem dM_wrap_154 : decode prog_7_method_41_code 154 = .ok (.bipush 19, 2) := by decide +kernel
theorem dM_wrap_156 : decode prog_7_method_41_code 156 = .ok (.iload_n 2, 1) := by decide +kernel
theorem dM_wrap_157 : decode prog_7_method_41_code 157 = .ok (.iadd, 1) := by decide +kernel
theorem dM_wrap_158 : decode prog_7_method_41_code 158 = .ok (.goto 4, 3) := by decide +kernel
theorem dM_wrap_161 : decode prog_7_method_41_code 161 = .ok (.iload_n 2, 1) := by decide +kernel
theorem dM_wrap_162 : decode prog_7_method_41_code 162 = .ok (.iload 5, 2) := by decide +kernel
theorem dM_wrap_164 : decode prog_7_method_41_code 164 = .ok (.iastore, 1) := by decide +kernel
theorem dM_wrap_165 : decode prog_7_method_41_code 165 = .ok (.iload 4, 2) := by decide +kernel
theorem dM_wrap_167 : decode prog_7_method_41_code 167 = .ok (.ireturn, 1) := by decide +kernel
theorem dM_only_0 : decode prog_7_method_42_code 0 = .ok (.iconst (-1), 1) := by decide +kernel
theorem dM_only_1 : decode prog_7_method_42_code 1 = .ok (.istore_n 2, 1) := by decide +kernel
theorem dM_only_2 : decode prog_7_method_42_code 2 = .ok (.iconst 0, 1) := by decide +kernel
theorem dM_only_3 : decode prog_7_method_42_code 3 = .ok (.istore_n 3, 1) := by decide +kernel
theorem dM_only_4 : decode prog_7_method_42_code 4 = .ok (.iconst 1, 1) := by decide +kernel
theorem dM_only_5 : decode prog_7_method_42_code 5 = .ok (.istore 4, 2) := by decide +kernel
theorem dM_only_7 : decode prog_7_method_42_code 7 = .ok (.iload 4, 2) := by decide +kernel
theorem dM_only_9 : decode prog_7_method_42_code 9 = .ok (.bipush 13, 2) := by decide +kernel
theorem dM_only_11 : decode prog_7_method_42_code 11 = .ok (.if_icmp .ge 46, 3) := by decide +kernel
theorem dM_only_14 : decode prog_7_method_42_code 14 = .ok (.iload_n 3, 1) := by decide +kernel
theorem dM_only_15 : decode prog_7_method_42_code 15 = .ok (.aload_n 0, 1) := by decide +kernel
theorem dM_only_16 : decode prog_7_method_42_code 16 = .ok (.getfield 7, 3) := by decide +kernel
theorem dM_only_19 : decode prog_7_method_42_code 19 = .ok (.iload 4, 2) := by decide +kernel
theorem dM_only_21 : decode prog_7_method_42_code 21 = .ok (.iaload, 1) := by decide +kernel
theorem dM_only_22 : decode prog_7_method_42_code 22 = .ok (.iload_n 1, 1) := by decide +kernel
theorem dM_only_23 : decode prog_7_method_42_code 23 = .ok (.if_icmp .ne 7, 3) := by decide +kernel
theorem dM_only_26 : decode prog_7_method_42_code 26 = .ok (.iconst 1, 1) := by decide +kernel
theorem dM_only_27 : decode prog_7_method_42_code 27 = .ok (.goto 4, 3) := by decide +kernel
theorem dM_only_30 : decode prog_7_method_42_code 30 = .ok (.iconst 0, 1) := by decide +kernel
theorem dM_only_31 : decode prog_7_method_42_code 31 = .ok (.iadd, 1) := by decide +kernel
theorem dM_only_32 : decode prog_7_method_42_code 32 = .ok (.istore_n 3, 1) := by decide +kernel
theorem dM_only_33 : decode prog_7_method_42_code 33 = .ok (.aload_n 0, 1) := by decide +kernel
theorem dM_only_34 : decode prog_7_method_42_code 34 = .ok (.getfield 7, 3) := by decide +kernel
theorem dM_only_37 : decode prog_7_method_42_code 37 = .ok (.iload 4, 2) := by decide +kernel
theorem dM_only_39 : decode prog_7_method_42_code 39 = .ok (.iaload, 1) := by decide +kernel
theorem dM_only_40 : decode prog_7_method_42_code 40 = .ok (.iload_n 1, 1) := by decide +kernel
theorem dM_only_41 : decode prog_7_method_42_code 41 = .ok (.if_icmp .ne 8, 3) := by decide +kernel
theorem dM_only_44 : decode prog_7_method_42_code 44 = .ok (.iload 4, 2) := by decide +kernel
theorem dM_only_46 : decode prog_7_method_42_code 46 = .ok (.goto 4, 3) := by decide +kernel
theorem dM_only_49 : decode prog_7_method_42_code 49 = .ok (.iload_n 2, 1) := by decide +kernel
theorem dM_only_50 : decode prog_7_method_42_code 50 = .ok (.istore_n 2, 1) := by decide +kernel
theorem dM_only_51 : decode prog_7_method_42_code 51 = .ok (.iinc 4 1, 3) := by decide +kernel
theorem dM_only_54 : decode prog_7_method_42_code 54 = .ok (.goto (-47), 3) := by decide +kernel
theorem dM_only_57 : decode prog_7_method_42_code 57 = .ok (.bipush 13, 2) := by decide +kernel
theorem dM_only_59 : decode prog_7_method_42_code 59 = .ok (.istore 4, 2) := by decide +kernel
theorem dM_only_61 : decode prog_7_method_42_code 61 = .ok (.iload 4, 2) := by decide +kernel
theorem dM_only_63 : decode prog_7_method_42_code 63 = .ok (.bipush 31, 2) := by decide +kernel
theorem dM_only_65 : decode prog_7_method_42_code 65 = .ok (.if_icmp .ge 28, 3) := by decide +kernel
theorem dM_only_68 : decode prog_7_method_42_code 68 = .ok (.iload_n 3, 1) := by decide +kernel
theorem dM_only_69 : decode prog_7_method_42_code 69 = .ok (.aload_n 0, 1) := by decide +kernel
theorem dM_only_70 : decode prog_7_method_42_code 70 = .ok (.getfield 7, 3) := by decide +kernel
theorem dM_only_73 : decode prog_7_method_42_code 73 = .ok (.iload 4, 2) := by decide +kernel
theorem dM_only_75 : decode prog_7_method_42_code 75 = .ok (.iaload, 1) := by decide +kernel
theorem dM_only_76 : decode prog_7_method_42_code 76 = .ok (.iload_n 1, 1) := by decide +kernel
theorem dM_only_77 : decode prog_7_method_42_code 77 = .ok (.if_icmp .ne 7, 3) := by decide +kernel
theorem dM_only_80 : decode prog_7_method_42_code 80 = .ok (.iconst 2, 1) := by decide +kernel
theorem dM_only_81 : decode prog_7_method_42_code 81 = .ok (.goto 4, 3) := by decide +kernel
theorem dM_only_84 : decode prog_7_method_42_code 84 = .ok (.iconst 0, 1) := by decide +kernel
theorem dM_only_85 : decode prog_7_method_42_code 85 = .ok (.iadd, 1) := by decide +kernel
theorem dM_only_86 : decode prog_7_method_42_code 86 = .ok (.istore_n 3, 1) := by decide +kernel
theorem dM_only_87 : decode prog_7_method_42_code 87 = .ok (.iinc 4 1, 3) := by decide +kernel
theorem dM_only_90 : decode prog_7_method_42_code 90 = .ok (.goto (-29), 3) := by decide +kernel
theorem dM_only_93 : decode prog_7_method_42_code 93 = .ok (.iload_n 3, 1) := by decide +kernel
theorem dM_only_94 : decode prog_7_method_42_code 94 = .ok (.iconst 1, 1) := by decide +kernel
theorem dM_only_95 : decode prog_7_method_42_code 95 = .ok (.if_icmp .ne 7, 3) := by decide +kernel
theorem dM_only_98 : decode prog_7_method_42_code 98 = .ok (.iload_n 2, 1) := by decide +kernel
theorem dM_only_99 : decode prog_7_method_42_code 99 = .ok (.goto 4, 3) := by decide +kernel
theorem dM_only_102 : decode prog_7_method_42_code 102 = .ok (.iconst (-1), 1) := by decide +kernel
theorem dM_only_103 : decode prog_7_method_42_code 103 = .ok (.ireturn, 1) := by decide +kernel
theorem dM_unwrap_0 : decode prog_7_method_43_code 0 = .ok (.aload_n 0, 1) := by decide +kernel
theorem dM_unwrap_1 : decode prog_7_method_43_code 1 = .ok (.aload_n 0, 1) := by decide +kernel
theorem dM_unwrap_2 : decode prog_7_method_43_code 2 = .ok (.iload_n 1, 1) := by decide +kernel
theorem dM_unwrap_3 : decode prog_7_method_43_code 3 = .ok (.invokevirtual 112, 3) := by decide +kernel
theorem dM_unwrap_6 : decode prog_7_method_43_code 6 = .ok (.ifCond .ne 7, 3) := by decide +kernel
theorem dM_unwrap_9 : decode prog_7_method_43_code 9 = .ok (.iconst 1, 1) := by decide +kernel
theorem dM_unwrap_10 : decode prog_7_method_43_code 10 = .ok (.goto 4, 3) := by decide +kernel
theorem dM_unwrap_13 : decode prog_7_method_43_code 13 = .ok (.iconst 0, 1) := by decide +kernel
theorem dM_unwrap_14 : decode prog_7_method_43_code 14 = .ok (.putfield 56, 3) := by decide +kernel
theorem dM_unwrap_17 : decode prog_7_method_43_code 17 = .ok (.aload_n 0, 1) := by decide +kernel
theorem dM_unwrap_18 : decode prog_7_method_43_code 18 = .ok (.getfield 56, 3) := by decide +kernel
theorem dM_unwrap_21 : decode prog_7_method_43_code 21 = .ok (.ifCond .eq 5, 3) := by decide +kernel
theorem dM_unwrap_24 : decode prog_7_method_43_code 24 = .ok (.iconst 0, 1) := by decide +kernel
theorem dM_unwrap_25 : decode prog_7_method_43_code 25 = .ok (.ireturn, 1) := by decide +kernel
theorem dM_unwrap_26 : decode prog_7_method_43_code 26 = .ok (.aload_n 0, 1) := by decide +kernel
theorem dM_unwrap_27 : decode prog_7_method_43_code 27 = .ok (.iload_n 1, 1) := by decide +kernel
theorem dM_unwrap_28 : decode prog_7_method_43_code 28 = .ok (.invokevirtual 178, 3) := by decide +kernel
theorem dM_unwrap_31 : decode prog_7_method_43_code 31 = .ok (.istore_n 2, 1) := by decide +kernel
theorem dM_unwrap_32 : decode prog_7_method_43_code 32 = .ok (.aload_n 0, 1) := by decide +kernel
theorem dM_unwrap_33 : decode prog_7_method_43_code 33 = .ok (.aload_n 0, 1) := by decide +kernel
theorem dM_unwrap_34 : decode prog_7_method_43_code 34 = .ok (.getfield 64, 3) := by decide +kernel
theorem dM_unwrap_37 : decode prog_7_method_43_code 37 = .ok (.ifCond .eq 8, 3) := by decide +kernel
theorem dM_unwrap_40 : decode prog_7_method_43_code 40 = .ok (.iload_n 2, 1) := by decide +kernel
theorem dM_unwrap_41 : decode prog_7_method_43_code 41 = .ok (.iconst (-1), 1) := by decide +kernel
theorem dM_unwrap_42 : decode prog_7_method_43_code 42 = .ok (.if_icmp .ne 7, 3) := by decide +kernel
theorem dM_unwrap_45 : decode prog_7_method_43_code 45 = .ok (.iconst 2, 1) := by decide +kernel
theorem dM_unwrap_46 : decode prog_7_method_43_code 46 = .ok (.goto 7, 3) := by decide +kernel
theorem dM_unwrap_49 : decode prog_7_method_43_code 49 = .ok (.aload_n 0, 1) := by decide +kernel
theorem dM_unwrap_50 : decode prog_7_method_43_code 50 = .ok (.invokevirtual 125, 3) := by decide +kernel
theorem dM_unwrap_53 : decode prog_7_method_43_code 53 = .ok (.putfield 56, 3) := by decide +kernel
theorem dM_unwrap_56 : decode prog_7_method_43_code 56 = .ok (.aload_n 0, 1) := by decide +kernel
theorem dM_unwrap_57 : decode prog_7_method_43_code 57 = .ok (.getfield 56, 3) := by decide +kernel
theorem dM_unwrap_60 : decode prog_7_method_43_code 60 = .ok (.ifCond .eq 5, 3) := by decide +kernel
theorem dM_unwrap_63 : decode prog_7_method_43_code 63 = .ok (.iconst 0, 1) := by decide +kernel
theorem dM_unwrap_64 : decode prog_7_method_43_code 64 = .ok (.ireturn, 1) := by decide +kernel
theorem dM_unwrap_65 : decode prog_7_method_43_code 65 = .ok (.aload_n 0, 1) := by decide +kernel
theorem dM_unwrap_66 : decode prog_7_method_43_code 66 = .ok (.invokevirtual 83, 3) := by decide +kernel
theorem dM_unwrap_69 : decode prog_7_method_43_code 69 = .ok (.aload_n 0, 1) := by decide +kernel
theorem dM_unwrap_70 : decode prog_7_method_43_code 70 = .ok (.getfield 7, 3) := by decide +kernel
theorem dM_unwrap_73 : decode prog_7_method_43_code 73 = .ok (.iload_n 1, 1) := by decide +kernel
theorem dM_unwrap_74 : decode prog_7_method_43_code 74 = .ok (.iaload, 1) := by decide +kernel
theorem dM_unwrap_75 : decode prog_7_method_43_code 75 = .ok (.istore_n 3, 1) := by decide +kernel
theorem dM_unwrap_76 : decode prog_7_method_43_code 76 = .ok (.aload_n 0, 1) := by decide +kernel
theorem dM_unwrap_77 : decode prog_7_method_43_code 77 = .ok (.getfield 7, 3) := by decide +kernel
theorem dM_unwrap_80 : decode prog_7_method_43_code 80 = .ok (.iload_n 1, 1) := by decide +kernel
theorem dM_unwrap_81 : decode prog_7_method_43_code 81 = .ok (.iconst (-1), 1) := by decide +kernel
theorem dM_unwrap_82 : decode prog_7_method_43_code 82 = .ok (.iastore, 1) := by decide +kernel
theorem dM_unwrap_83 : decode prog_7_method_43_code 83 = .ok (.aload_n 0, 1) := by decide +kernel
theorem dM_unwrap_84 : decode prog_7_method_43_code 84 = .ok (.getfield 7, 3) := by decide +kernel
theorem dM_unwrap_87 : decode prog_7_method_43_code 87 = .ok (.iload_n 2, 1) := by decide +kernel
theorem dM_unwrap_88 : decode prog_7_method_43_code 88 = .ok (.iconst (-1), 1) := by decide +kernel
theorem dM_unwrap_89 : decode prog_7_method_43_code 89 = .ok (.iastore, 1) := by decide +kernel
theorem dM_unwrap_90 : decode prog_7_method_43_code 90 = .ok (.iconst 1, 1) := by decide +kernel
theorem dM_unwrap_91 : decode prog_7_method_43_code 91 = .ok (.istore 4, 2) := by decide +kernel
theorem dM_unwrap_93 : decode prog_7_method_43_code 93 = .ok (.iload 4, 2) := by decide +kernel
theorem dM_unwrap_95 : decode prog_7_method_43_code 95 = .ok (.bipush 31, 2) := by decide +kernel
theorem dM_unwrap_97 : decode prog_7_method_43_code 97 = .ok (.if_icmp .ge 38, 3) := by decide +kernel
theorem dM_unwrap_100 : decode prog_7_method_43_code 100 = .ok (.aload_n 0, 1) := by decide +kernel
theorem dM_unwrap_101 : decode prog_7_method_43_code 101 = .ok (.getfield 7, 3) := by decide +kernel
theorem dM_unwrap_104 : decode prog_7_method_43_code 104 = .ok (.iload 4, 2) := by decide +kernel
theorem dM_unwrap_106 : decode prog_7_method_43_code 106 = .ok (.aload_n 0, 1) := by decide +kernel
theorem dM_unwrap_107 : decode prog_7_method_43_code 107 = .ok (.getfield 7, 3) := by decide +kernel
theorem dM_unwrap_110 : decode prog_7_method_43_code 110 = .ok (.iload 4, 2) := by decide +kernel
theorem dM_unwrap_112 : decode prog_7_method_43_code 112 = .ok (.iaload, 1) := by decide +kernel
theorem dM_unwrap_113 : decode prog_7_method_43_code 113 = .ok (.iload_n 2, 1) := by decide +kernel
theorem dM_unwrap_114 : decode prog_7_method_43_code 114 = .ok (.if_icmp .ne 7, 3) := by decide +kernel
theorem dM_unwrap_117 : decode prog_7_method_43_code 117 = .ok (.iload_n 3, 1) := by decide +kernel
theorem dM_unwrap_118 : decode prog_7_method_43_code 118 = .ok (.goto 10, 3) := by decide +kernel
theorem dM_unwrap_121 : decode prog_7_method_43_code 121 = .ok (.aload_n 0, 1) := by decide +kernel
theorem dM_unwrap_122 : decode prog_7_method_43_code 122 = .ok (.getfield 7, 3) := by decide +kernel
theorem dM_unwrap_125 : decode prog_7_method_43_code 125 = .ok (.iload 4, 2) := by decide +kernel
theorem dM_unwrap_127 : decode prog_7_method_43_code 127 = .ok (.iaload, 1) := by decide +kernel
theorem dM_unwrap_128 : decode prog_7_method_43_code 128 = .ok (.iastore, 1) := by decide +kernel
theorem dM_unwrap_129 : decode prog_7_method_43_code 129 = .ok (.iinc 4 1, 3) := by decide +kernel
theorem dM_unwrap_132 : decode prog_7_method_43_code 132 = .ok (.goto (-39), 3) := by decide +kernel
theorem dM_unwrap_135 : decode prog_7_method_43_code 135 = .ok (.aload_n 0, 1) := by decide +kernel
theorem dM_unwrap_136 : decode prog_7_method_43_code 136 = .ok (.getfield 68, 3) := by decide +kernel
theorem dM_unwrap_139 : decode prog_7_method_43_code 139 = .ok (.ireturn, 1) := by decide +kernel
theorem dM_join_0 : decode prog_7_method_44_code 0 = .ok (.aload_n 0, 1) := by decide +kernel
theorem dM_join_1 : decode prog_7_method_44_code 1 = .ok (.aload_n 0, 1) := by decide +kernel
theorem dM_join_2 : decode prog_7_method_44_code 2 = .ok (.iload_n 1, 1) := by decide +kernel
theorem dM_join_3 : decode prog_7_method_44_code 3 = .ok (.invokevirtual 89, 3) := by decide +kernel
theorem dM_join_6 : decode prog_7_method_44_code 6 = .ok (.ifCond .eq 16, 3) := by decide +kernel
theorem dM_join_9 : decode prog_7_method_44_code 9 = .ok (.aload_n 0, 1) := by decide +kernel
theorem dM_join_10 : decode prog_7_method_44_code 10 = .ok (.iload_n 2, 1) := by decide +kernel
theorem dM_join_11 : decode prog_7_method_44_code 11 = .ok (.invokevirtual 89, 3) := by decide +kernel
theorem dM_join_14 : decode prog_7_method_44_code 14 = .ok (.ifCond .eq 8, 3) := by decide +kernel
theorem dM_join_17 : decode prog_7_method_44_code 17 = .ok (.iload_n 1, 1) := by decide +kernel
theorem dM_join_18 : decode prog_7_method_44_code 18 = .ok (.iload_n 2, 1) := by decide +kernel
theorem dM_join_19 : decode prog_7_method_44_code 19 = .ok (.if_icmp .ne 7, 3) := by decide +kernel
theorem dM_join_22 : decode prog_7_method_44_code 22 = .ok (.iconst 1, 1) := by decide +kernel
theorem dM_join_23 : decode prog_7_method_44_code 23 = .ok (.goto 4, 3) := by decide +kernel
theorem dM_join_26 : decode prog_7_method_44_code 26 = .ok (.iconst 0, 1) := by decide +kernel
theorem dM_join_27 : decode prog_7_method_44_code 27 = .ok (.putfield 56, 3) := by decide +kernel
theorem dM_join_30 : decode prog_7_method_44_code 30 = .ok (.aload_n 0, 1) := by decide +kernel
theorem dM_join_31 : decode prog_7_method_44_code 31 = .ok (.getfield 56, 3) := by decide +kernel
theorem dM_join_34 : decode prog_7_method_44_code 34 = .ok (.ifCond .eq 5, 3) := by decide +kernel
theorem dM_join_37 : decode prog_7_method_44_code 37 = .ok (.iconst 0, 1) := by decide +kernel
theorem dM_join_38 : decode prog_7_method_44_code 38 = .ok (.ireturn, 1) := by decide +kernel
theorem dM_join_39 : decode prog_7_method_44_code 39 = .ok (.aload_n 0, 1) := by decide +kernel
theorem dM_join_40 : decode prog_7_method_44_code 40 = .ok (.getfield 7, 3) := by decide +kernel
theorem dM_join_43 : decode prog_7_method_44_code 43 = .ok (.bipush 13, 2) := by decide +kernel
theorem dM_join_45 : decode prog_7_method_44_code 45 = .ok (.iload_n 1, 1) := by decide +kernel
theorem dM_join_46 : decode prog_7_method_44_code 46 = .ok (.iadd, 1) := by decide +kernel
theorem dM_join_47 : decode prog_7_method_44_code 47 = .ok (.iaload, 1) := by decide +kernel
theorem dM_join_48 : decode prog_7_method_44_code 48 = .ok (.istore_n 3, 1) := by decide +kernel
theorem dM_join_49 : decode prog_7_method_44_code 49 = .ok (.aload_n 0, 1) := by decide +kernel
theorem dM_join_50 : decode prog_7_method_44_code 50 = .ok (.aload_n 0, 1) := by decide +kernel
theorem dM_join_51 : decode prog_7_method_44_code 51 = .ok (.getfield 64, 3) := by decide +kernel
theorem dM_join_54 : decode prog_7_method_44_code 54 = .ok (.ifCond .eq 30, 3) := by decide +kernel
theorem dM_join_57 : decode prog_7_method_44_code 57 = .ok (.aload_n 0, 1) := by decide +kernel
theorem dM_join_58 : decode prog_7_method_44_code 58 = .ok (.iload_n 3, 1) := by decide +kernel
theorem dM_join_59 : decode prog_7_method_44_code 59 = .ok (.invokevirtual 71, 3) := by decide +kernel
theorem dM_join_62 : decode prog_7_method_44_code 62 = .ok (.iconst 2, 1) := by decide +kernel
theorem dM_join_63 : decode prog_7_method_44_code 63 = .ok (.irem, 1) := by decide +kernel
theorem dM_join_64 : decode prog_7_method_44_code 64 = .ok (.ifCond .eq 20, 3) := by decide +kernel
theorem dM_join_67 : decode prog_7_method_44_code 67 = .ok (.aload_n 0, 1) := by decide +kernel
theorem dM_join_68 : decode prog_7_method_44_code 68 = .ok (.iload_n 3, 1) := by decide +kernel
theorem dM_join_69 : decode prog_7_method_44_code 69 = .ok (.aload_n 0, 1) := by decide +kernel
theorem dM_join_70 : decode prog_7_method_44_code 70 = .ok (.getfield 7, 3) := by decide +kernel
theorem dM_join_73 : decode prog_7_method_44_code 73 = .ok (.bipush 13, 2) := by decide +kernel
theorem dM_join_75 : decode prog_7_method_44_code 75 = .ok (.iload_n 2, 1) := by decide +kernel
theorem dM_join_76 : decode prog_7_method_44_code 76 = .ok (.iadd, 1) := by decide +kernel
theorem dM_join_77 : decode prog_7_method_44_code 77 = .ok (.iaload, 1) := by decide +kernel
theorem dM_join_78 : decode prog_7_method_44_code 78 = .ok (.invokevirtual 92, 3) := by decide +kernel
theorem dM_join_81 : decode prog_7_method_44_code 81 = .ok (.ifCond .ne 7, 3) := by decide +kernel
theorem dM_join_84 : decode prog_7_method_44_code 84 = .ok (.iconst 2, 1) := by decide +kernel
theorem dM_join_85 : decode prog_7_method_44_code 85 = .ok (.goto 7, 3) := by decide +kernel
theorem dM_join_88 : decode prog_7_method_44_code 88 = .ok (.aload_n 0, 1) := by decide +kernel
theorem dM_join_89 : decode prog_7_method_44_code 89 = .ok (.invokevirtual 125, 3) := by decide +kernel
theorem dM_join_92 : decode prog_7_method_44_code 92 = .ok (.putfield 56, 3) := by decide +kernel
theorem dM_join_95 : decode prog_7_method_44_code 95 = .ok (.aload_n 0, 1) := by decide +kernel
theorem dM_join_96 : decode prog_7_method_44_code 96 = .ok (.getfield 56, 3) := by decide +kernel
theorem dM_join_99 : decode prog_7_method_44_code 99 = .ok (.ifCond .eq 5, 3) := by decide +kernel
theorem dM_join_102 : decode prog_7_method_44_code 102 = .ok (.iconst 0, 1) := by decide +kernel
theorem dM_join_103 : decode prog_7_method_44_code 103 = .ok (.ireturn, 1) := by decide +kernel
theorem dM_join_104 : decode prog_7_method_44_code 104 = .ok (.aload_n 0, 1) := by decide +kernel
theorem dM_join_105 : decode prog_7_method_44_code 105 = .ok (.invokevirtual 83, 3) := by decide +kernel
theorem dM_join_108 : decode prog_7_method_44_code 108 = .ok (.aload_n 0, 1) := by decide +kernel
theorem dM_join_109 : decode prog_7_method_44_code 109 = .ok (.getfield 7, 3) := by decide +kernel
theorem dM_join_112 : decode prog_7_method_44_code 112 = .ok (.bipush 13, 2) := by decide +kernel
theorem dM_join_114 : decode prog_7_method_44_code 114 = .ok (.iload_n 1, 1) := by decide +kernel
theorem dM_join_115 : decode prog_7_method_44_code 115 = .ok (.iadd, 1) := by decide +kernel
theorem dM_join_116 : decode prog_7_method_44_code 116 = .ok (.iconst (-1), 1) := by decide +kernel
theorem dM_join_117 : decode prog_7_method_44_code 117 = .ok (.iastore, 1) := by decide +kernel
theorem dM_join_118 : decode prog_7_method_44_code 118 = .ok (.bipush 43, 2) := by decide +kernel
theorem dM_join_120 : decode prog_7_method_44_code 120 = .ok (.istore 4, 2) := by decide +kernel
theorem dM_join_122 : decode prog_7_method_44_code 122 = .ok (.iload 4, 2) := by decide +kernel
theorem dM_join_124 : decode prog_7_method_44_code 124 = .ok (.bipush 67, 2) := by decide +kernel
theorem dM_join_126 : decode prog_7_method_44_code 126 = .ok (.if_icmp .ge 38, 3) := by decide +kernel
theorem dM_join_129 : decode prog_7_method_44_code 129 = .ok (.aload_n 0, 1) := by decide +kernel
theorem dM_join_130 : decode prog_7_method_44_code 130 = .ok (.getfield 7, 3) := by decide +kernel
theorem dM_join_133 : decode prog_7_method_44_code 133 = .ok (.iload 4, 2) := by decide +kernel
theorem dM_join_135 : decode prog_7_method_44_code 135 = .ok (.aload_n 0, 1) := by decide +kernel
theorem dM_join_136 : decode prog_7_method_44_code 136 = .ok (.getfield 7, 3) := by decide +kernel
theorem dM_join_139 : decode prog_7_method_44_code 139 = .ok (.iload 4, 2) := by decide +kernel
theorem dM_join_141 : decode prog_7_method_44_code 141 = .ok (.iaload, 1) := by decide +kernel
theorem dM_join_142 : decode prog_7_method_44_code 142 = .ok (.iload_n 1, 1) := by decide +kernel
theorem dM_join_143 : decode prog_7_method_44_code 143 = .ok (.if_icmp .ne 7, 3) := by decide +kernel
theorem dM_join_146 : decode prog_7_method_44_code 146 = .ok (.iload_n 2, 1) := by decide +kernel
theorem dM_join_147 : decode prog_7_method_44_code 147 = .ok (.goto 10, 3) := by decide +kernel
theorem dM_join_150 : decode prog_7_method_44_code 150 = .ok (.aload_n 0, 1) := by decide +kernel
theorem dM_join_151 : decode prog_7_method_44_code 151 = .ok (.getfield 7, 3) := by decide +kernel
theorem dM_join_154 : decode prog_7_method_44_code 154 = .ok (.iload 4, 2) := by decide +kernel
theorem dM_join_156 : decode prog_7_method_44_code 156 = .ok (.iaload, 1) := by decide +kernel
theorem dM_join_157 : decode prog_7_method_44_code 157 = .ok (.iastore, 1) := by decide +kernel
theorem dM_join_158 : decode prog_7_method_44_code 158 = .ok (.iinc 4 1, 3) := by decide +kernel
theorem dM_join_161 : decode prog_7_method_44_code 161 = .ok (.goto (-39), 3) := by decide +kernel
theorem dM_join_164 : decode prog_7_method_44_code 164 = .ok (.aload_n 0, 1) := by decide +kernel
theorem dM_join_165 : decode prog_7_method_44_code 165 = .ok (.getfield 68, 3) := by decide +kernel
theorem dM_join_168 : decode prog_7_method_44_code 168 = .ok (.ireturn, 1) := by decide +kernel
theorem dM_sever_0 : decode prog_7_method_45_code 0 = .ok (.aload_n 0, 1) := by decide +kernel
theorem dM_sever_1 : decode prog_7_method_45_code 1 = .ok (.aload_n 0, 1) := by decide +kernel
theorem dM_sever_2 : decode prog_7_method_45_code 2 = .ok (.iload_n 1, 1) := by decide +kernel
theorem dM_sever_3 : decode prog_7_method_45_code 3 = .ok (.invokevirtual 89, 3) := by decide +kernel
theorem dM_sever_6 : decode prog_7_method_45_code 6 = .ok (.ifCond .eq 11, 3) := by decide +kernel
theorem dM_sever_9 : decode prog_7_method_45_code 9 = .ok (.aload_n 0, 1) := by decide +kernel
theorem dM_sever_10 : decode prog_7_method_45_code 10 = .ok (.iload_n 2, 1) := by decide +kernel
theorem dM_sever_11 : decode prog_7_method_45_code 11 = .ok (.invokevirtual 60, 3) := by decide +kernel
theorem dM_sever_14 : decode prog_7_method_45_code 14 = .ok (.ifCond .ne 7, 3) := by decide +kernel
theorem dM_sever_17 : decode prog_7_method_45_code 17 = .ok (.iconst 1, 1) := by decide +kernel
theorem dM_sever_18 : decode prog_7_method_45_code 18 = .ok (.goto 4, 3) := by decide +kernel
theorem dM_sever_21 : decode prog_7_method_45_code 21 = .ok (.iconst 0, 1) := by decide +kernel
theorem dM_sever_22 : decode prog_7_method_45_code 22 = .ok (.putfield 56, 3) := by decide +kernel
theorem dM_sever_25 : decode prog_7_method_45_code 25 = .ok (.aload_n 0, 1) := by decide +kernel
theorem dM_sever_26 : decode prog_7_method_45_code 26 = .ok (.getfield 56, 3) := by decide +kernel
end
section
/-! printed by wip/whole/gen_names.py: decode rows -/
theorem dM_sever_29 : decode prog_7_method_45_code 29 = .ok (.ifCond .eq 5, 3) := by decide +kernel
theorem dM_sever_32 : decode prog_7_method_45_code 32 = .ok (.iconst 0, 1) := by decide +kernel
theorem dM_sever_33 : decode prog_7_method_45_code 33 = .ok (.ireturn, 1) := by decide +kernel
theorem dM_sever_34 : decode prog_7_method_45_code 34 = .ok (.aload_n 0, 1) := by decide +kernel
theorem dM_sever_35 : decode prog_7_method_45_code 35 = .ok (.getfield 64, 3) := by decide +kernel
theorem dM_sever_38 : decode prog_7_method_45_code 38 = .ok (.ifCond .eq 34, 3) := by decide +kernel
theorem dM_sever_41 : decode prog_7_method_45_code 41 = .ok (.aload_n 0, 1) := by decide +kernel
theorem dM_sever_42 : decode prog_7_method_45_code 42 = .ok (.iload_n 2, 1) := by decide +kernel
theorem dM_sever_43 : decode prog_7_method_45_code 43 = .ok (.invokevirtual 71, 3) := by decide +kernel
theorem dM_sever_46 : decode prog_7_method_45_code 46 = .ok (.iconst 2, 1) := by decide +kernel
theorem dM_sever_47 : decode prog_7_method_45_code 47 = .ok (.irem, 1) := by decide +kernel
theorem dM_sever_48 : decode prog_7_method_45_code 48 = .ok (.ifCond .ne 24, 3) := by decide +kernel
theorem dM_sever_51 : decode prog_7_method_45_code 51 = .ok (.aload_n 0, 1) := by decide +kernel
theorem dM_sever_52 : decode prog_7_method_45_code 52 = .ok (.iload_n 2, 1) := by decide +kernel
theorem dM_sever_53 : decode prog_7_method_45_code 53 = .ok (.aload_n 0, 1) := by decide +kernel
theorem dM_sever_54 : decode prog_7_method_45_code 54 = .ok (.getfield 7, 3) := by decide +kernel
theorem dM_sever_57 : decode prog_7_method_45_code 57 = .ok (.bipush 13, 2) := by decide +kernel
theorem dM_sever_59 : decode prog_7_method_45_code 59 = .ok (.iload_n 1, 1) := by decide +kernel
theorem dM_sever_60 : decode prog_7_method_45_code 60 = .ok (.iadd, 1) := by decide +kernel
theorem dM_sever_61 : decode prog_7_method_45_code 61 = .ok (.iaload, 1) := by decide +kernel
theorem dM_sever_62 : decode prog_7_method_45_code 62 = .ok (.invokevirtual 92, 3) := by decide +kernel
theorem dM_sever_65 : decode prog_7_method_45_code 65 = .ok (.ifCond .eq 7, 3) := by decide +kernel
theorem dM_sever_68 : decode prog_7_method_45_code 68 = .ok (.iconst 1, 1) := by decide +kernel
theorem dM_sever_69 : decode prog_7_method_45_code 69 = .ok (.goto 4, 3) := by decide +kernel
theorem dM_sever_72 : decode prog_7_method_45_code 72 = .ok (.iconst 0, 1) := by decide +kernel
theorem dM_sever_73 : decode prog_7_method_45_code 73 = .ok (.istore_n 3, 1) := by decide +kernel
theorem dM_sever_74 : decode prog_7_method_45_code 74 = .ok (.aload_n 0, 1) := by decide +kernel
theorem dM_sever_75 : decode prog_7_method_45_code 75 = .ok (.iload_n 3, 1) := by decide +kernel
theorem dM_sever_76 : decode prog_7_method_45_code 76 = .ok (.ifCond .ne 7, 3) := by decide +kernel
theorem dM_sever_79 : decode prog_7_method_45_code 79 = .ok (.iconst 2, 1) := by decide +kernel
theorem dM_sever_80 : decode prog_7_method_45_code 80 = .ok (.goto 20, 3) := by decide +kernel
theorem dM_sever_83 : decode prog_7_method_45_code 83 = .ok (.aload_n 0, 1) := by decide +kernel
theorem dM_sever_84 : decode prog_7_method_45_code 84 = .ok (.invokevirtual 86, 3) := by decide +kernel
theorem dM_sever_87 : decode prog_7_method_45_code 87 = .ok (.bipush 6, 2) := by decide +kernel
theorem dM_sever_89 : decode prog_7_method_45_code 89 = .ok (.if_icmp .ne 7, 3) := by decide +kernel
theorem dM_sever_92 : decode prog_7_method_45_code 92 = .ok (.iconst 3, 1) := by decide +kernel
theorem dM_sever_93 : decode prog_7_method_45_code 93 = .ok (.goto 7, 3) := by decide +kernel
theorem dM_sever_96 : decode prog_7_method_45_code 96 = .ok (.aload_n 0, 1) := by decide +kernel
theorem dM_sever_97 : decode prog_7_method_45_code 97 = .ok (.invokevirtual 125, 3) := by decide +kernel
theorem dM_sever_100 : decode prog_7_method_45_code 100 = .ok (.putfield 56, 3) := by decide +kernel
theorem dM_sever_103 : decode prog_7_method_45_code 103 = .ok (.aload_n 0, 1) := by decide +kernel
theorem dM_sever_104 : decode prog_7_method_45_code 104 = .ok (.getfield 56, 3) := by decide +kernel
theorem dM_sever_107 : decode prog_7_method_45_code 107 = .ok (.ifCond .eq 5, 3) := by decide +kernel
theorem dM_sever_110 : decode prog_7_method_45_code 110 = .ok (.iconst 0, 1) := by decide +kernel
theorem dM_sever_111 : decode prog_7_method_45_code 111 = .ok (.ireturn, 1) := by decide +kernel
theorem dM_sever_112 : decode prog_7_method_45_code 112 = .ok (.aload_n 0, 1) := by decide +kernel
theorem dM_sever_113 : decode prog_7_method_45_code 113 = .ok (.invokevirtual 83, 3) := by decide +kernel
theorem dM_sever_116 : decode prog_7_method_45_code 116 = .ok (.aload_n 0, 1) := by decide +kernel
theorem dM_sever_117 : decode prog_7_method_45_code 117 = .ok (.invokevirtual 86, 3) := by decide +kernel
theorem dM_sever_120 : decode prog_7_method_45_code 120 = .ok (.istore 4, 2) := by decide +kernel
theorem dM_sever_122 : decode prog_7_method_45_code 122 = .ok (.aload_n 0, 1) := by decide +kernel
theorem dM_sever_123 : decode prog_7_method_45_code 123 = .ok (.getfield 7, 3) := by decide +kernel
theorem dM_sever_126 : decode prog_7_method_45_code 126 = .ok (.bipush 13, 2) := by decide +kernel
theorem dM_sever_128 : decode prog_7_method_45_code 128 = .ok (.iload 4, 2) := by decide +kernel
theorem dM_sever_130 : decode prog_7_method_45_code 130 = .ok (.iadd, 1) := by decide +kernel
theorem dM_sever_131 : decode prog_7_method_45_code 131 = .ok (.iload_n 2, 1) := by decide +kernel
theorem dM_sever_132 : decode prog_7_method_45_code 132 = .ok (.iastore, 1) := by decide +kernel
theorem dM_sever_133 : decode prog_7_method_45_code 133 = .ok (.iconst 0, 1) := by decide +kernel
theorem dM_sever_134 : decode prog_7_method_45_code 134 = .ok (.istore 5, 2) := by decide +kernel
theorem dM_sever_136 : decode prog_7_method_45_code 136 = .ok (.iload 5, 2) := by decide +kernel
theorem dM_sever_138 : decode prog_7_method_45_code 138 = .ok (.bipush 12, 2) := by decide +kernel
theorem dM_sever_140 : decode prog_7_method_45_code 140 = .ok (.if_icmp .ge 117, 3) := by decide +kernel
theorem dM_sever_143 : decode prog_7_method_45_code 143 = .ok (.iconst 0, 1) := by decide +kernel
theorem dM_sever_144 : decode prog_7_method_45_code 144 = .ok (.istore 6, 2) := by decide +kernel
theorem dM_sever_146 : decode prog_7_method_45_code 146 = .ok (.iload 6, 2) := by decide +kernel
theorem dM_sever_148 : decode prog_7_method_45_code 148 = .ok (.iconst 2, 1) := by decide +kernel
theorem dM_sever_149 : decode prog_7_method_45_code 149 = .ok (.if_icmp .ge 102, 3) := by decide +kernel
theorem dM_sever_152 : decode prog_7_method_45_code 152 = .ok (.aload_n 0, 1) := by decide +kernel
theorem dM_sever_153 : decode prog_7_method_45_code 153 = .ok (.iload 5, 2) := by decide +kernel
theorem dM_sever_155 : decode prog_7_method_45_code 155 = .ok (.invokevirtual 105, 3) := by decide +kernel
theorem dM_sever_158 : decode prog_7_method_45_code 158 = .ok (.ifCond .eq 44, 3) := by decide +kernel
theorem dM_sever_161 : decode prog_7_method_45_code 161 = .ok (.aload_n 0, 1) := by decide +kernel
theorem dM_sever_162 : decode prog_7_method_45_code 162 = .ok (.aload_n 0, 1) := by decide +kernel
theorem dM_sever_163 : decode prog_7_method_45_code 163 = .ok (.getfield 7, 3) := by decide +kernel
theorem dM_sever_166 : decode prog_7_method_45_code 166 = .ok (.bipush 19, 2) := by decide +kernel
theorem dM_sever_168 : decode prog_7_method_45_code 168 = .ok (.iload 5, 2) := by decide +kernel
theorem dM_sever_170 : decode prog_7_method_45_code 170 = .ok (.iadd, 1) := by decide +kernel
theorem dM_sever_171 : decode prog_7_method_45_code 171 = .ok (.iaload, 1) := by decide +kernel
theorem dM_sever_172 : decode prog_7_method_45_code 172 = .ok (.iload_n 2, 1) := by decide +kernel
theorem dM_sever_173 : decode prog_7_method_45_code 173 = .ok (.invokevirtual 92, 3) := by decide +kernel
theorem dM_sever_176 : decode prog_7_method_45_code 176 = .ok (.ifCond .eq 26, 3) := by decide +kernel
theorem dM_sever_179 : decode prog_7_method_45_code 179 = .ok (.aload_n 0, 1) := by decide +kernel
theorem dM_sever_180 : decode prog_7_method_45_code 180 = .ok (.getfield 7, 3) := by decide +kernel
theorem dM_sever_183 : decode prog_7_method_45_code 183 = .ok (.bipush 43, 2) := by decide +kernel
theorem dM_sever_185 : decode prog_7_method_45_code 185 = .ok (.iconst 2, 1) := by decide +kernel
theorem dM_sever_186 : decode prog_7_method_45_code 186 = .ok (.iload 5, 2) := by decide +kernel
theorem dM_sever_188 : decode prog_7_method_45_code 188 = .ok (.imul, 1) := by decide +kernel
theorem dM_sever_189 : decode prog_7_method_45_code 189 = .ok (.iadd, 1) := by decide +kernel
theorem dM_sever_190 : decode prog_7_method_45_code 190 = .ok (.iload 6, 2) := by decide +kernel
theorem dM_sever_192 : decode prog_7_method_45_code 192 = .ok (.iadd, 1) := by decide +kernel
theorem dM_sever_193 : decode prog_7_method_45_code 193 = .ok (.iaload, 1) := by decide +kernel
theorem dM_sever_194 : decode prog_7_method_45_code 194 = .ok (.iload_n 1, 1) := by decide +kernel
theorem dM_sever_195 : decode prog_7_method_45_code 195 = .ok (.if_icmp .ne 7, 3) := by decide +kernel
theorem dM_sever_198 : decode prog_7_method_45_code 198 = .ok (.iconst 1, 1) := by decide +kernel
theorem dM_sever_199 : decode prog_7_method_45_code 199 = .ok (.goto 4, 3) := by decide +kernel
theorem dM_sever_202 : decode prog_7_method_45_code 202 = .ok (.iconst 0, 1) := by decide +kernel
theorem dM_sever_203 : decode prog_7_method_45_code 203 = .ok (.istore 7, 2) := by decide +kernel
theorem dM_sever_205 : decode prog_7_method_45_code 205 = .ok (.aload_n 0, 1) := by decide +kernel
theorem dM_sever_206 : decode prog_7_method_45_code 206 = .ok (.getfield 7, 3) := by decide +kernel
theorem dM_sever_209 : decode prog_7_method_45_code 209 = .ok (.bipush 43, 2) := by decide +kernel
theorem dM_sever_211 : decode prog_7_method_45_code 211 = .ok (.iconst 2, 1) := by decide +kernel
theorem dM_sever_212 : decode prog_7_method_45_code 212 = .ok (.iload 5, 2) := by decide +kernel
theorem dM_sever_214 : decode prog_7_method_45_code 214 = .ok (.imul, 1) := by decide +kernel
theorem dM_sever_215 : decode prog_7_method_45_code 215 = .ok (.iadd, 1) := by decide +kernel
theorem dM_sever_216 : decode prog_7_method_45_code 216 = .ok (.iload 6, 2) := by decide +kernel
theorem dM_sever_218 : decode prog_7_method_45_code 218 = .ok (.iadd, 1) := by decide +kernel
theorem dM_sever_219 : decode prog_7_method_45_code 219 = .ok (.iload 7, 2) := by decide +kernel
theorem dM_sever_221 : decode prog_7_method_45_code 221 = .ok (.ifCond .eq 8, 3) := by decide +kernel
theorem dM_sever_224 : decode prog_7_method_45_code 224 = .ok (.iload 4, 2) := by decide +kernel
theorem dM_sever_226 : decode prog_7_method_45_code 226 = .ok (.goto 18, 3) := by decide +kernel
theorem dM_sever_229 : decode prog_7_method_45_code 229 = .ok (.aload_n 0, 1) := by decide +kernel
theorem dM_sever_230 : decode prog_7_method_45_code 230 = .ok (.getfield 7, 3) := by decide +kernel
theorem dM_sever_233 : decode prog_7_method_45_code 233 = .ok (.bipush 43, 2) := by decide +kernel
theorem dM_sever_235 : decode prog_7_method_45_code 235 = .ok (.iconst 2, 1) := by decide +kernel
theorem dM_sever_236 : decode prog_7_method_45_code 236 = .ok (.iload 5, 2) := by decide +kernel
theorem dM_sever_238 : decode prog_7_method_45_code 238 = .ok (.imul, 1) := by decide +kernel
theorem dM_sever_239 : decode prog_7_method_45_code 239 = .ok (.iadd, 1) := by decide +kernel
theorem dM_sever_240 : decode prog_7_method_45_code 240 = .ok (.iload 6, 2) := by decide +kernel
theorem dM_sever_242 : decode prog_7_method_45_code 242 = .ok (.iadd, 1) := by decide +kernel
theorem dM_sever_243 : decode prog_7_method_45_code 243 = .ok (.iaload, 1) := by decide +kernel
theorem dM_sever_244 : decode prog_7_method_45_code 244 = .ok (.iastore, 1) := by decide +kernel
theorem dM_sever_245 : decode prog_7_method_45_code 245 = .ok (.iinc 6 1, 3) := by decide +kernel
theorem dM_sever_248 : decode prog_7_method_45_code 248 = .ok (.goto (-102), 3) := by decide +kernel
theorem dM_sever_251 : decode prog_7_method_45_code 251 = .ok (.iinc 5 1, 3) := by decide +kernel
theorem dM_sever_254 : decode prog_7_method_45_code 254 = .ok (.goto (-118), 3) := by decide +kernel
theorem dM_sever_257 : decode prog_7_method_45_code 257 = .ok (.iload 4, 2) := by decide +kernel
theorem dM_sever_259 : decode prog_7_method_45_code 259 = .ok (.ireturn, 1) := by decide +kernel
theorem dM_back_0 : decode prog_7_method_46_code 0 = .ok (.aload_n 0, 1) := by decide +kernel
theorem dM_back_1 : decode prog_7_method_46_code 1 = .ok (.aload_n 0, 1) := by decide +kernel
theorem dM_back_2 : decode prog_7_method_46_code 2 = .ok (.getfield 68, 3) := by decide +kernel
theorem dM_back_5 : decode prog_7_method_46_code 5 = .ok (.ifCond .ne 7, 3) := by decide +kernel
theorem dM_back_8 : decode prog_7_method_46_code 8 = .ok (.iconst 1, 1) := by decide +kernel
theorem dM_back_9 : decode prog_7_method_46_code 9 = .ok (.goto 4, 3) := by decide +kernel
theorem dM_back_12 : decode prog_7_method_46_code 12 = .ok (.iconst 0, 1) := by decide +kernel
theorem dM_back_13 : decode prog_7_method_46_code 13 = .ok (.putfield 56, 3) := by decide +kernel
theorem dM_back_16 : decode prog_7_method_46_code 16 = .ok (.aload_n 0, 1) := by decide +kernel
theorem dM_back_17 : decode prog_7_method_46_code 17 = .ok (.getfield 56, 3) := by decide +kernel
theorem dM_back_20 : decode prog_7_method_46_code 20 = .ok (.ifCond .eq 5, 3) := by decide +kernel
theorem dM_back_23 : decode prog_7_method_46_code 23 = .ok (.iconst 0, 1) := by decide +kernel
theorem dM_back_24 : decode prog_7_method_46_code 24 = .ok (.ireturn, 1) := by decide +kernel
theorem dM_back_25 : decode prog_7_method_46_code 25 = .ok (.aload_n 0, 1) := by decide +kernel
theorem dM_back_26 : decode prog_7_method_46_code 26 = .ok (.dup, 1) := by decide +kernel
theorem dM_back_27 : decode prog_7_method_46_code 27 = .ok (.getfield 68, 3) := by decide +kernel
theorem dM_back_30 : decode prog_7_method_46_code 30 = .ok (.iconst 1, 1) := by decide +kernel
theorem dM_back_31 : decode prog_7_method_46_code 31 = .ok (.isub, 1) := by decide +kernel
theorem dM_back_32 : decode prog_7_method_46_code 32 = .ok (.putfield 68, 3) := by decide +kernel
theorem dM_back_35 : decode prog_7_method_46_code 35 = .ok (.iconst 0, 1) := by decide +kernel
theorem dM_back_36 : decode prog_7_method_46_code 36 = .ok (.istore_n 1, 1) := by decide +kernel
theorem dM_back_37 : decode prog_7_method_46_code 37 = .ok (.iload_n 1, 1) := by decide +kernel
theorem dM_back_38 : decode prog_7_method_46_code 38 = .ok (.bipush 67, 2) := by decide +kernel
theorem dM_back_40 : decode prog_7_method_46_code 40 = .ok (.if_icmp .ge 29, 3) := by decide +kernel
theorem dM_back_43 : decode prog_7_method_46_code 43 = .ok (.aload_n 0, 1) := by decide +kernel
theorem dM_back_44 : decode prog_7_method_46_code 44 = .ok (.getfield 7, 3) := by decide +kernel
theorem dM_back_47 : decode prog_7_method_46_code 47 = .ok (.iload_n 1, 1) := by decide +kernel
theorem dM_back_48 : decode prog_7_method_46_code 48 = .ok (.aload_n 0, 1) := by decide +kernel
theorem dM_back_49 : decode prog_7_method_46_code 49 = .ok (.getfield 13, 3) := by decide +kernel
theorem dM_back_52 : decode prog_7_method_46_code 52 = .ok (.bipush 67, 2) := by decide +kernel
theorem dM_back_54 : decode prog_7_method_46_code 54 = .ok (.aload_n 0, 1) := by decide +kernel
theorem dM_back_55 : decode prog_7_method_46_code 55 = .ok (.getfield 68, 3) := by decide +kernel
theorem dM_back_58 : decode prog_7_method_46_code 58 = .ok (.imul, 1) := by decide +kernel
theorem dM_back_59 : decode prog_7_method_46_code 59 = .ok (.iload_n 1, 1) := by decide +kernel
theorem dM_back_60 : decode prog_7_method_46_code 60 = .ok (.iadd, 1) := by decide +kernel
theorem dM_back_61 : decode prog_7_method_46_code 61 = .ok (.iaload, 1) := by decide +kernel
theorem dM_back_62 : decode prog_7_method_46_code 62 = .ok (.iastore, 1) := by decide +kernel
theorem dM_back_63 : decode prog_7_method_46_code 63 = .ok (.iinc 1 1, 3) := by decide +kernel
theorem dM_back_66 : decode prog_7_method_46_code 66 = .ok (.goto (-29), 3) := by decide +kernel
theorem dM_back_69 : decode prog_7_method_46_code 69 = .ok (.aload_n 0, 1) := by decide +kernel
theorem dM_back_70 : decode prog_7_method_46_code 70 = .ok (.getfield 68, 3) := by decide +kernel
theorem dM_back_73 : decode prog_7_method_46_code 73 = .ok (.ireturn, 1) := by decide +kernel
theorem dM_depth_0 : decode prog_7_method_47_code 0 = .ok (.aload_n 0, 1) := by decide +kernel
theorem dM_depth_1 : decode prog_7_method_47_code 1 = .ok (.aload_n 0, 1) := by decide +kernel
theorem dM_depth_2 : decode prog_7_method_47_code 2 = .ok (.iload_n 1, 1) := by decide +kernel
theorem dM_depth_3 : decode prog_7_method_47_code 3 = .ok (.invokevirtual 60, 3) := by decide +kernel
theorem dM_depth_6 : decode prog_7_method_47_code 6 = .ok (.ifCond .eq 7, 3) := by decide +kernel
theorem dM_depth_9 : decode prog_7_method_47_code 9 = .ok (.iconst 0, 1) := by decide +kernel
theorem dM_depth_10 : decode prog_7_method_47_code 10 = .ok (.goto 4, 3) := by decide +kernel
theorem dM_depth_13 : decode prog_7_method_47_code 13 = .ok (.iconst 1, 1) := by decide +kernel
theorem dM_depth_14 : decode prog_7_method_47_code 14 = .ok (.putfield 56, 3) := by decide +kernel
theorem dM_depth_17 : decode prog_7_method_47_code 17 = .ok (.aload_n 0, 1) := by decide +kernel
theorem dM_depth_18 : decode prog_7_method_47_code 18 = .ok (.getfield 56, 3) := by decide +kernel
theorem dM_depth_21 : decode prog_7_method_47_code 21 = .ok (.ifCond .ne 11, 3) := by decide +kernel
theorem dM_depth_24 : decode prog_7_method_47_code 24 = .ok (.aload_n 0, 1) := by decide +kernel
theorem dM_depth_25 : decode prog_7_method_47_code 25 = .ok (.iload_n 1, 1) := by decide +kernel
theorem dM_depth_26 : decode prog_7_method_47_code 26 = .ok (.invokevirtual 71, 3) := by decide +kernel
theorem dM_depth_29 : decode prog_7_method_47_code 29 = .ok (.goto 4, 3) := by decide +kernel
theorem dM_depth_32 : decode prog_7_method_47_code 32 = .ok (.iconst 0, 1) := by decide +kernel
theorem dM_depth_33 : decode prog_7_method_47_code 33 = .ok (.ireturn, 1) := by decide +kernel
theorem dM_read_0 : decode prog_7_method_48_code 0 = .ok (.aload_n 0, 1) := by decide +kernel
theorem dM_read_1 : decode prog_7_method_48_code 1 = .ok (.aload_n 0, 1) := by decide +kernel
theorem dM_read_2 : decode prog_7_method_48_code 2 = .ok (.iload_n 1, 1) := by decide +kernel
theorem dM_read_3 : decode prog_7_method_48_code 3 = .ok (.invokevirtual 60, 3) := by decide +kernel
theorem dM_read_6 : decode prog_7_method_48_code 6 = .ok (.ifCond .eq 7, 3) := by decide +kernel
theorem dM_read_9 : decode prog_7_method_48_code 9 = .ok (.iconst 0, 1) := by decide +kernel
theorem dM_read_10 : decode prog_7_method_48_code 10 = .ok (.goto 4, 3) := by decide +kernel
theorem dM_read_13 : decode prog_7_method_48_code 13 = .ok (.iconst 1, 1) := by decide +kernel
theorem dM_read_14 : decode prog_7_method_48_code 14 = .ok (.putfield 56, 3) := by decide +kernel
theorem dM_read_17 : decode prog_7_method_48_code 17 = .ok (.aload_n 0, 1) := by decide +kernel
theorem dM_read_18 : decode prog_7_method_48_code 18 = .ok (.getfield 56, 3) := by decide +kernel
theorem dM_read_21 : decode prog_7_method_48_code 21 = .ok (.ifCond .eq 5, 3) := by decide +kernel
theorem dM_read_24 : decode prog_7_method_48_code 24 = .ok (.iconst 0, 1) := by decide +kernel
theorem dM_read_25 : decode prog_7_method_48_code 25 = .ok (.ireturn, 1) := by decide +kernel
theorem dM_read_26 : decode prog_7_method_48_code 26 = .ok (.aload_n 0, 1) := by decide +kernel
theorem dM_read_27 : decode prog_7_method_48_code 27 = .ok (.iload_n 1, 1) := by decide +kernel
theorem dM_read_28 : decode prog_7_method_48_code 28 = .ok (.invokevirtual 163, 3) := by decide +kernel
theorem dM_read_31 : decode prog_7_method_48_code 31 = .ok (.aload_n 0, 1) := by decide +kernel
theorem dM_read_32 : decode prog_7_method_48_code 32 = .ok (.getfield 151, 3) := by decide +kernel
theorem dM_read_35 : decode prog_7_method_48_code 35 = .ok (.ireturn, 1) := by decide +kernel
theorem dM_token_0 : decode prog_7_method_49_code 0 = .ok (.aload_n 0, 1) := by decide +kernel
theorem dM_token_1 : decode prog_7_method_49_code 1 = .ok (.iload_n 1, 1) := by decide +kernel
theorem dM_token_2 : decode prog_7_method_49_code 2 = .ok (.ifCond .lt 11, 3) := by decide +kernel
theorem dM_token_5 : decode prog_7_method_49_code 5 = .ok (.iload_n 1, 1) := by decide +kernel
theorem dM_token_6 : decode prog_7_method_49_code 6 = .ok (.aload_n 0, 1) := by decide +kernel
theorem dM_token_7 : decode prog_7_method_49_code 7 = .ok (.getfield 151, 3) := by decide +kernel
theorem dM_token_10 : decode prog_7_method_49_code 10 = .ok (.if_icmp .lt 7, 3) := by decide +kernel
theorem dM_token_13 : decode prog_7_method_49_code 13 = .ok (.iconst 1, 1) := by decide +kernel
theorem dM_token_14 : decode prog_7_method_49_code 14 = .ok (.goto 4, 3) := by decide +kernel
theorem dM_token_17 : decode prog_7_method_49_code 17 = .ok (.iconst 0, 1) := by decide +kernel
theorem dM_token_18 : decode prog_7_method_49_code 18 = .ok (.putfield 56, 3) := by decide +kernel
theorem dM_token_21 : decode prog_7_method_49_code 21 = .ok (.aload_n 0, 1) := by decide +kernel
theorem dM_token_22 : decode prog_7_method_49_code 22 = .ok (.getfield 56, 3) := by decide +kernel
theorem dM_token_25 : decode prog_7_method_49_code 25 = .ok (.ifCond .ne 12, 3) := by decide +kernel
theorem dM_token_28 : decode prog_7_method_49_code 28 = .ok (.aload_n 0, 1) := by decide +kernel
theorem dM_token_29 : decode prog_7_method_49_code 29 = .ok (.getfield 16, 3) := by decide +kernel
theorem dM_token_32 : decode prog_7_method_49_code 32 = .ok (.iload_n 1, 1) := by decide +kernel
theorem dM_token_33 : decode prog_7_method_49_code 33 = .ok (.iaload, 1) := by decide +kernel
theorem dM_token_34 : decode prog_7_method_49_code 34 = .ok (.goto 4, 3) := by decide +kernel
theorem dM_token_37 : decode prog_7_method_49_code 37 = .ok (.iconst 0, 1) := by decide +kernel
theorem dM_token_38 : decode prog_7_method_49_code 38 = .ok (.ireturn, 1) := by decide +kernel
theorem dM_count_0 : decode prog_7_method_50_code 0 = .ok (.aload_n 0, 1) := by decide +kernel
theorem dM_count_1 : decode prog_7_method_50_code 1 = .ok (.iload_n 1, 1) := by decide +kernel
theorem dM_count_2 : decode prog_7_method_50_code 2 = .ok (.ifCond .lt 8, 3) := by decide +kernel
theorem dM_count_5 : decode prog_7_method_50_code 5 = .ok (.iload_n 1, 1) := by decide +kernel
theorem dM_count_6 : decode prog_7_method_50_code 6 = .ok (.iconst 3, 1) := by decide +kernel
theorem dM_count_7 : decode prog_7_method_50_code 7 = .ok (.if_icmp .le 7, 3) := by decide +kernel
theorem dM_count_10 : decode prog_7_method_50_code 10 = .ok (.iconst 1, 1) := by decide +kernel
theorem dM_count_11 : decode prog_7_method_50_code 11 = .ok (.goto 4, 3) := by decide +kernel
theorem dM_count_14 : decode prog_7_method_50_code 14 = .ok (.iconst 0, 1) := by decide +kernel
theorem dM_count_15 : decode prog_7_method_50_code 15 = .ok (.putfield 56, 3) := by decide +kernel
theorem dM_count_18 : decode prog_7_method_50_code 18 = .ok (.aload_n 0, 1) := by decide +kernel
theorem dM_count_19 : decode prog_7_method_50_code 19 = .ok (.getfield 56, 3) := by decide +kernel
theorem dM_count_22 : decode prog_7_method_50_code 22 = .ok (.ifCond .eq 7, 3) := by decide +kernel
theorem dM_count_25 : decode prog_7_method_50_code 25 = .ok (.iconst 0, 1) := by decide +kernel
theorem dM_count_26 : decode prog_7_method_50_code 26 = .ok (.goto 53, 3) := by decide +kernel
theorem dM_count_29 : decode prog_7_method_50_code 29 = .ok (.iload_n 1, 1) := by decide +kernel
theorem dM_count_30 : decode prog_7_method_50_code 30 = .ok (.ifCond .ne 13, 3) := by decide +kernel
theorem dM_count_33 : decode prog_7_method_50_code 33 = .ok (.aload_n 0, 1) := by decide +kernel
theorem dM_count_34 : decode prog_7_method_50_code 34 = .ok (.iconst 1, 1) := by decide +kernel
theorem dM_count_35 : decode prog_7_method_50_code 35 = .ok (.bipush 13, 2) := by decide +kernel
theorem dM_count_37 : decode prog_7_method_50_code 37 = .ok (.invokevirtual 142, 3) := by decide +kernel
theorem dM_count_40 : decode prog_7_method_50_code 40 = .ok (.goto 39, 3) := by decide +kernel
theorem dM_count_43 : decode prog_7_method_50_code 43 = .ok (.iload_n 1, 1) := by decide +kernel
theorem dM_count_44 : decode prog_7_method_50_code 44 = .ok (.iconst 1, 1) := by decide +kernel
theorem dM_count_45 : decode prog_7_method_50_code 45 = .ok (.if_icmp .ne 14, 3) := by decide +kernel
theorem dM_count_48 : decode prog_7_method_50_code 48 = .ok (.aload_n 0, 1) := by decide +kernel
theorem dM_count_49 : decode prog_7_method_50_code 49 = .ok (.bipush 19, 2) := by decide +kernel
theorem dM_count_51 : decode prog_7_method_50_code 51 = .ok (.bipush 31, 2) := by decide +kernel
theorem dM_count_53 : decode prog_7_method_50_code 53 = .ok (.invokevirtual 142, 3) := by decide +kernel
theorem dM_count_56 : decode prog_7_method_50_code 56 = .ok (.goto 23, 3) := by decide +kernel
theorem dM_count_59 : decode prog_7_method_50_code 59 = .ok (.iload_n 1, 1) := by decide +kernel
theorem dM_count_60 : decode prog_7_method_50_code 60 = .ok (.iconst 2, 1) := by decide +kernel
theorem dM_count_61 : decode prog_7_method_50_code 61 = .ok (.if_icmp .ne 14, 3) := by decide +kernel
theorem dM_count_64 : decode prog_7_method_50_code 64 = .ok (.aload_n 0, 1) := by decide +kernel
theorem dM_count_65 : decode prog_7_method_50_code 65 = .ok (.bipush 13, 2) := by decide +kernel
theorem dM_count_67 : decode prog_7_method_50_code 67 = .ok (.bipush 19, 2) := by decide +kernel
theorem dM_count_69 : decode prog_7_method_50_code 69 = .ok (.invokevirtual 142, 3) := by decide +kernel
theorem dM_count_72 : decode prog_7_method_50_code 72 = .ok (.goto 7, 3) := by decide +kernel
theorem dM_count_75 : decode prog_7_method_50_code 75 = .ok (.aload_n 0, 1) := by decide +kernel
theorem dM_count_76 : decode prog_7_method_50_code 76 = .ok (.getfield 68, 3) := by decide +kernel
theorem dM_count_79 : decode prog_7_method_50_code 79 = .ok (.ireturn, 1) := by decide +kernel
theorem dM_thing_0 : decode prog_7_method_51_code 0 = .ok (.iload_n 1, 1) := by decide +kernel
theorem dM_thing_1 : decode prog_7_method_51_code 1 = .ok (.aload_n 0, 1) := by decide +kernel
theorem dM_thing_2 : decode prog_7_method_51_code 2 = .ok (.getfield 44, 3) := by decide +kernel
theorem dM_thing_5 : decode prog_7_method_51_code 5 = .ok (.iload_n 2, 1) := by decide +kernel
theorem dM_thing_6 : decode prog_7_method_51_code 6 = .ok (.iaload, 1) := by decide +kernel
theorem dM_thing_7 : decode prog_7_method_51_code 7 = .ok (.idiv, 1) := by decide +kernel
theorem dM_thing_8 : decode prog_7_method_51_code 8 = .ok (.iload_n 3, 1) := by decide +kernel
theorem dM_thing_9 : decode prog_7_method_51_code 9 = .ok (.irem, 1) := by decide +kernel
theorem dM_thing_10 : decode prog_7_method_51_code 10 = .ok (.ireturn, 1) := by decide +kernel
theorem dM_spotHolds_0 : decode prog_7_method_52_code 0 = .ok (.aload_n 0, 1) := by decide +kernel
theorem dM_spotHolds_1 : decode prog_7_method_52_code 1 = .ok (.getfield 7, 3) := by decide +kernel
theorem dM_spotHolds_4 : decode prog_7_method_52_code 4 = .ok (.bipush 31, 2) := by decide +kernel
theorem dM_spotHolds_6 : decode prog_7_method_52_code 6 = .ok (.iload_n 1, 1) := by decide +kernel
theorem dM_spotHolds_7 : decode prog_7_method_52_code 7 = .ok (.iadd, 1) := by decide +kernel
theorem dM_spotHolds_8 : decode prog_7_method_52_code 8 = .ok (.iaload, 1) := by decide +kernel
theorem dM_spotHolds_9 : decode prog_7_method_52_code 9 = .ok (.istore 5, 2) := by decide +kernel
theorem dM_spotHolds_11 : decode prog_7_method_52_code 11 = .ok (.iload 5, 2) := by decide +kernel
theorem dM_spotHolds_13 : decode prog_7_method_52_code 13 = .ok (.iconst 1, 1) := by decide +kernel
theorem dM_spotHolds_14 : decode prog_7_method_52_code 14 = .ok (.if_icmp .le 23, 3) := by decide +kernel
theorem dM_spotHolds_17 : decode prog_7_method_52_code 17 = .ok (.aload_n 0, 1) := by decide +kernel
theorem dM_spotHolds_18 : decode prog_7_method_52_code 18 = .ok (.iload_n 2, 1) := by decide +kernel
theorem dM_spotHolds_19 : decode prog_7_method_52_code 19 = .ok (.aload_n 0, 1) := by decide +kernel
theorem dM_spotHolds_20 : decode prog_7_method_52_code 20 = .ok (.getfield 7, 3) := by decide +kernel
theorem dM_spotHolds_23 : decode prog_7_method_52_code 23 = .ok (.bipush 43, 2) := by decide +kernel
theorem dM_spotHolds_25 : decode prog_7_method_52_code 25 = .ok (.iconst 2, 1) := by decide +kernel
theorem dM_spotHolds_26 : decode prog_7_method_52_code 26 = .ok (.iload_n 1, 1) := by decide +kernel
theorem dM_spotHolds_27 : decode prog_7_method_52_code 27 = .ok (.imul, 1) := by decide +kernel
theorem dM_spotHolds_28 : decode prog_7_method_52_code 28 = .ok (.iadd, 1) := by decide +kernel
theorem dM_spotHolds_29 : decode prog_7_method_52_code 29 = .ok (.iaload, 1) := by decide +kernel
theorem dM_spotHolds_30 : decode prog_7_method_52_code 30 = .ok (.iload_n 3, 1) := by decide +kernel
theorem dM_spotHolds_31 : decode prog_7_method_52_code 31 = .ok (.invokevirtual 181, 3) := by decide +kernel
theorem dM_spotHolds_34 : decode prog_7_method_52_code 34 = .ok (.goto 4, 3) := by decide +kernel
theorem dM_spotHolds_37 : decode prog_7_method_52_code 37 = .ok (.iconst 0, 1) := by decide +kernel
theorem dM_spotHolds_38 : decode prog_7_method_52_code 38 = .ok (.istore 6, 2) := by decide +kernel
theorem dM_spotHolds_40 : decode prog_7_method_52_code 40 = .ok (.iload 5, 2) := by decide +kernel
theorem dM_spotHolds_42 : decode prog_7_method_52_code 42 = .ok (.iconst 2, 1) := by decide +kernel
theorem dM_spotHolds_43 : decode prog_7_method_52_code 43 = .ok (.if_icmp .le 25, 3) := by decide +kernel
theorem dM_spotHolds_46 : decode prog_7_method_52_code 46 = .ok (.aload_n 0, 1) := by decide +kernel
theorem dM_spotHolds_47 : decode prog_7_method_52_code 47 = .ok (.iload_n 2, 1) := by decide +kernel
theorem dM_spotHolds_48 : decode prog_7_method_52_code 48 = .ok (.aload_n 0, 1) := by decide +kernel
theorem dM_spotHolds_49 : decode prog_7_method_52_code 49 = .ok (.getfield 7, 3) := by decide +kernel
theorem dM_spotHolds_52 : decode prog_7_method_52_code 52 = .ok (.bipush 43, 2) := by decide +kernel
theorem dM_spotHolds_54 : decode prog_7_method_52_code 54 = .ok (.iconst 2, 1) := by decide +kernel
theorem dM_spotHolds_55 : decode prog_7_method_52_code 55 = .ok (.iload_n 1, 1) := by decide +kernel
theorem dM_spotHolds_56 : decode prog_7_method_52_code 56 = .ok (.imul, 1) := by decide +kernel
theorem dM_spotHolds_57 : decode prog_7_method_52_code 57 = .ok (.iadd, 1) := by decide +kernel
theorem dM_spotHolds_58 : decode prog_7_method_52_code 58 = .ok (.iconst 1, 1) := by decide +kernel
theorem dM_spotHolds_59 : decode prog_7_method_52_code 59 = .ok (.iadd, 1) := by decide +kernel
theorem dM_spotHolds_60 : decode prog_7_method_52_code 60 = .ok (.iaload, 1) := by decide +kernel
theorem dM_spotHolds_61 : decode prog_7_method_52_code 61 = .ok (.iload_n 3, 1) := by decide +kernel
theorem dM_spotHolds_62 : decode prog_7_method_52_code 62 = .ok (.invokevirtual 181, 3) := by decide +kernel
theorem dM_spotHolds_65 : decode prog_7_method_52_code 65 = .ok (.goto 4, 3) := by decide +kernel
theorem dM_spotHolds_68 : decode prog_7_method_52_code 68 = .ok (.iconst 0, 1) := by decide +kernel
theorem dM_spotHolds_69 : decode prog_7_method_52_code 69 = .ok (.istore 7, 2) := by decide +kernel
theorem dM_spotHolds_71 : decode prog_7_method_52_code 71 = .ok (.iload 5, 2) := by decide +kernel
theorem dM_spotHolds_73 : decode prog_7_method_52_code 73 = .ok (.iconst 2, 1) := by decide +kernel
theorem dM_spotHolds_74 : decode prog_7_method_52_code 74 = .ok (.if_icmp .ge 8, 3) := by decide +kernel
theorem dM_spotHolds_77 : decode prog_7_method_52_code 77 = .ok (.iload 5, 2) := by decide +kernel
theorem dM_spotHolds_79 : decode prog_7_method_52_code 79 = .ok (.goto 25, 3) := by decide +kernel
theorem dM_spotHolds_82 : decode prog_7_method_52_code 82 = .ok (.iload 5, 2) := by decide +kernel
theorem dM_spotHolds_84 : decode prog_7_method_52_code 84 = .ok (.iconst 2, 1) := by decide +kernel
theorem dM_spotHolds_85 : decode prog_7_method_52_code 85 = .ok (.if_icmp .ne 10, 3) := by decide +kernel
theorem dM_spotHolds_88 : decode prog_7_method_52_code 88 = .ok (.iconst 2, 1) := by decide +kernel
theorem dM_spotHolds_89 : decode prog_7_method_52_code 89 = .ok (.iload 6, 2) := by decide +kernel
theorem dM_spotHolds_91 : decode prog_7_method_52_code 91 = .ok (.iadd, 1) := by decide +kernel
theorem dM_spotHolds_92 : decode prog_7_method_52_code 92 = .ok (.goto 12, 3) := by decide +kernel
theorem dM_spotHolds_95 : decode prog_7_method_52_code 95 = .ok (.iconst 5, 1) := by decide +kernel
theorem dM_spotHolds_96 : decode prog_7_method_52_code 96 = .ok (.iconst 3, 1) := by decide +kernel
theorem dM_spotHolds_97 : decode prog_7_method_52_code 97 = .ok (.iload 6, 2) := by decide +kernel
theorem dM_spotHolds_99 : decode prog_7_method_52_code 99 = .ok (.imul, 1) := by decide +kernel
theorem dM_spotHolds_100 : decode prog_7_method_52_code 100 = .ok (.iadd, 1) := by decide +kernel
theorem dM_spotHolds_101 : decode prog_7_method_52_code 101 = .ok (.iload 7, 2) := by decide +kernel
theorem dM_spotHolds_103 : decode prog_7_method_52_code 103 = .ok (.iadd, 1) := by decide +kernel
theorem dM_spotHolds_104 : decode prog_7_method_52_code 104 = .ok (.istore 8, 2) := by decide +kernel
theorem dM_spotHolds_106 : decode prog_7_method_52_code 106 = .ok (.iload 4, 2) := by decide +kernel
theorem dM_spotHolds_108 : decode prog_7_method_52_code 108 = .ok (.iload 8, 2) := by decide +kernel
theorem dM_spotHolds_110 : decode prog_7_method_52_code 110 = .ok (.ishr, 1) := by decide +kernel
theorem dM_spotHolds_111 : decode prog_7_method_52_code 111 = .ok (.iconst 1, 1) := by decide +kernel
theorem dM_spotHolds_112 : decode prog_7_method_52_code 112 = .ok (.iand, 1) := by decide +kernel
theorem dM_spotHolds_113 : decode prog_7_method_52_code 113 = .ok (.iconst 1, 1) := by decide +kernel
theorem dM_spotHolds_114 : decode prog_7_method_52_code 114 = .ok (.if_icmp .ne 7, 3) := by decide +kernel
theorem dM_spotHolds_117 : decode prog_7_method_52_code 117 = .ok (.iconst 1, 1) := by decide +kernel
theorem dM_spotHolds_118 : decode prog_7_method_52_code 118 = .ok (.goto 4, 3) := by decide +kernel
theorem dM_spotHolds_121 : decode prog_7_method_52_code 121 = .ok (.iconst 0, 1) := by decide +kernel
theorem dM_spotHolds_122 : decode prog_7_method_52_code 122 = .ok (.ireturn, 1) := by decide +kernel
theorem dM_look_0 : decode prog_7_method_53_code 0 = .ok (.iconst 0, 1) := by decide +kernel
theorem dM_look_1 : decode prog_7_method_53_code 1 = .ok (.istore 5, 2) := by decide +kernel
theorem dM_look_3 : decode prog_7_method_53_code 3 = .ok (.iconst 0, 1) := by decide +kernel
theorem dM_look_4 : decode prog_7_method_53_code 4 = .ok (.istore 6, 2) := by decide +kernel
theorem dM_look_6 : decode prog_7_method_53_code 6 = .ok (.iconst 0, 1) := by decide +kernel
theorem dM_look_7 : decode prog_7_method_53_code 7 = .ok (.istore 7, 2) := by decide +kernel
theorem dM_look_9 : decode prog_7_method_53_code 9 = .ok (.iload 7, 2) := by decide +kernel
theorem dM_look_11 : decode prog_7_method_53_code 11 = .ok (.bipush 12, 2) := by decide +kernel
theorem dM_look_13 : decode prog_7_method_53_code 13 = .ok (.if_icmp .ge 35, 3) := by decide +kernel
theorem dM_look_16 : decode prog_7_method_53_code 16 = .ok (.aload_n 0, 1) := by decide +kernel
theorem dM_look_17 : decode prog_7_method_53_code 17 = .ok (.getfield 7, 3) := by decide +kernel
theorem dM_look_20 : decode prog_7_method_53_code 20 = .ok (.bipush 19, 2) := by decide +kernel
theorem dM_look_22 : decode prog_7_method_53_code 22 = .ok (.iload 7, 2) := by decide +kernel
theorem dM_look_24 : decode prog_7_method_53_code 24 = .ok (.iadd, 1) := by decide +kernel
theorem dM_look_25 : decode prog_7_method_53_code 25 = .ok (.iaload, 1) := by decide +kernel
theorem dM_look_26 : decode prog_7_method_53_code 26 = .ok (.iload_n 1, 1) := by decide +kernel
theorem dM_look_27 : decode prog_7_method_53_code 27 = .ok (.if_icmp .ne 15, 3) := by decide +kernel
theorem dM_look_30 : decode prog_7_method_53_code 30 = .ok (.aload_n 0, 1) := by decide +kernel
theorem dM_look_31 : decode prog_7_method_53_code 31 = .ok (.getfield 47, 3) := by decide +kernel
theorem dM_look_34 : decode prog_7_method_53_code 34 = .ok (.iload 5, 2) := by decide +kernel
theorem dM_look_36 : decode prog_7_method_53_code 36 = .ok (.iload 7, 2) := by decide +kernel
theorem dM_look_38 : decode prog_7_method_53_code 38 = .ok (.iastore, 1) := by decide +kernel
theorem dM_look_39 : decode prog_7_method_53_code 39 = .ok (.iinc 5 1, 3) := by decide +kernel
theorem dM_look_42 : decode prog_7_method_53_code 42 = .ok (.iinc 7 1, 3) := by decide +kernel
theorem dM_look_45 : decode prog_7_method_53_code 45 = .ok (.goto (-36), 3) := by decide +kernel
theorem dM_look_48 : decode prog_7_method_53_code 48 = .ok (.iconst 1, 1) := by decide +kernel
theorem dM_look_49 : decode prog_7_method_53_code 49 = .ok (.istore 7, 2) := by decide +kernel
theorem dM_look_51 : decode prog_7_method_53_code 51 = .ok (.iload 7, 2) := by decide +kernel
theorem dM_look_53 : decode prog_7_method_53_code 53 = .ok (.bipush 13, 2) := by decide +kernel
theorem dM_look_55 : decode prog_7_method_53_code 55 = .ok (.if_icmp .ge 32, 3) := by decide +kernel
theorem dM_look_58 : decode prog_7_method_53_code 58 = .ok (.aload_n 0, 1) := by decide +kernel
theorem dM_look_59 : decode prog_7_method_53_code 59 = .ok (.getfield 7, 3) := by decide +kernel
theorem dM_look_62 : decode prog_7_method_53_code 62 = .ok (.iload 7, 2) := by decide +kernel
theorem dM_look_64 : decode prog_7_method_53_code 64 = .ok (.iaload, 1) := by decide +kernel
theorem dM_look_65 : decode prog_7_method_53_code 65 = .ok (.iload_n 1, 1) := by decide +kernel
theorem dM_look_66 : decode prog_7_method_53_code 66 = .ok (.if_icmp .ne 15, 3) := by decide +kernel
theorem dM_look_69 : decode prog_7_method_53_code 69 = .ok (.aload_n 0, 1) := by decide +kernel
theorem dM_look_70 : decode prog_7_method_53_code 70 = .ok (.getfield 50, 3) := by decide +kernel
theorem dM_look_73 : decode prog_7_method_53_code 73 = .ok (.iload 6, 2) := by decide +kernel
theorem dM_look_75 : decode prog_7_method_53_code 75 = .ok (.iload 7, 2) := by decide +kernel
theorem dM_look_77 : decode prog_7_method_53_code 77 = .ok (.iastore, 1) := by decide +kernel
theorem dM_look_78 : decode prog_7_method_53_code 78 = .ok (.iinc 6 1, 3) := by decide +kernel
theorem dM_look_81 : decode prog_7_method_53_code 81 = .ok (.iinc 7 1, 3) := by decide +kernel
theorem dM_look_84 : decode prog_7_method_53_code 84 = .ok (.goto (-33), 3) := by decide +kernel
theorem dM_look_87 : decode prog_7_method_53_code 87 = .ok (.iconst 0, 1) := by decide +kernel
theorem dM_look_88 : decode prog_7_method_53_code 88 = .ok (.istore 7, 2) := by decide +kernel
theorem dM_look_90 : decode prog_7_method_53_code 90 = .ok (.iload 7, 2) := by decide +kernel
theorem dM_look_92 : decode prog_7_method_53_code 92 = .ok (.iload 4, 2) := by decide +kernel
theorem dM_look_94 : decode prog_7_method_53_code 94 = .ok (.if_icmp .ge 115, 3) := by decide +kernel
theorem dM_look_97 : decode prog_7_method_53_code 97 = .ok (.iconst 1, 1) := by decide +kernel
theorem dM_look_98 : decode prog_7_method_53_code 98 = .ok (.istore 8, 2) := by decide +kernel
theorem dM_look_100 : decode prog_7_method_53_code 100 = .ok (.iconst 0, 1) := by decide +kernel
theorem dM_look_101 : decode prog_7_method_53_code 101 = .ok (.istore 9, 2) := by decide +kernel
theorem dM_look_103 : decode prog_7_method_53_code 103 = .ok (.iload 9, 2) := by decide +kernel
theorem dM_look_105 : decode prog_7_method_53_code 105 = .ok (.iload 5, 2) := by decide +kernel
theorem dM_look_107 : decode prog_7_method_53_code 107 = .ok (.if_icmp .ge 31, 3) := by decide +kernel
theorem dM_look_110 : decode prog_7_method_53_code 110 = .ok (.iload 8, 2) := by decide +kernel
theorem dM_look_112 : decode prog_7_method_53_code 112 = .ok (.ifCond .eq 26, 3) := by decide +kernel
theorem dM_look_115 : decode prog_7_method_53_code 115 = .ok (.aload_n 0, 1) := by decide +kernel
theorem dM_look_116 : decode prog_7_method_53_code 116 = .ok (.aload_n 0, 1) := by decide +kernel
theorem dM_look_117 : decode prog_7_method_53_code 117 = .ok (.getfield 47, 3) := by decide +kernel
theorem dM_look_120 : decode prog_7_method_53_code 120 = .ok (.iload 9, 2) := by decide +kernel
theorem dM_look_122 : decode prog_7_method_53_code 122 = .ok (.iaload, 1) := by decide +kernel
theorem dM_look_123 : decode prog_7_method_53_code 123 = .ok (.iload 7, 2) := by decide +kernel
theorem dM_look_125 : decode prog_7_method_53_code 125 = .ok (.iload_n 2, 1) := by decide +kernel
theorem dM_look_126 : decode prog_7_method_53_code 126 = .ok (.iload_n 3, 1) := by decide +kernel
theorem dM_look_127 : decode prog_7_method_53_code 127 = .ok (.invokevirtual 185, 3) := by decide +kernel
theorem dM_look_130 : decode prog_7_method_53_code 130 = .ok (.istore 8, 2) := by decide +kernel
theorem dM_look_132 : decode prog_7_method_53_code 132 = .ok (.iinc 9 1, 3) := by decide +kernel
theorem dM_look_135 : decode prog_7_method_53_code 135 = .ok (.goto (-32), 3) := by decide +kernel
theorem dM_look_138 : decode prog_7_method_53_code 138 = .ok (.iconst 0, 1) := by decide +kernel
theorem dM_look_139 : decode prog_7_method_53_code 139 = .ok (.istore 9, 2) := by decide +kernel
theorem dM_look_141 : decode prog_7_method_53_code 141 = .ok (.iload 9, 2) := by decide +kernel
theorem dM_look_143 : decode prog_7_method_53_code 143 = .ok (.iload 6, 2) := by decide +kernel
theorem dM_look_145 : decode prog_7_method_53_code 145 = .ok (.if_icmp .ge 43, 3) := by decide +kernel
theorem dM_look_148 : decode prog_7_method_53_code 148 = .ok (.iload 8, 2) := by decide +kernel
theorem dM_look_150 : decode prog_7_method_53_code 150 = .ok (.ifCond .eq 38, 3) := by decide +kernel
theorem dM_look_153 : decode prog_7_method_53_code 153 = .ok (.aload_n 0, 1) := by decide +kernel
theorem dM_look_154 : decode prog_7_method_53_code 154 = .ok (.getfield 31, 3) := by decide +kernel
theorem dM_look_157 : decode prog_7_method_53_code 157 = .ok (.sipush 729, 3) := by decide +kernel
theorem dM_look_160 : decode prog_7_method_53_code 160 = .ok (.aload_n 0, 1) := by decide +kernel
theorem dM_look_161 : decode prog_7_method_53_code 161 = .ok (.getfield 50, 3) := by decide +kernel
theorem dM_look_164 : decode prog_7_method_53_code 164 = .ok (.iload 9, 2) := by decide +kernel
theorem dM_look_166 : decode prog_7_method_53_code 166 = .ok (.iaload, 1) := by decide +kernel
theorem dM_look_167 : decode prog_7_method_53_code 167 = .ok (.imul, 1) := by decide +kernel
theorem dM_look_168 : decode prog_7_method_53_code 168 = .ok (.iload 7, 2) := by decide +kernel
theorem dM_look_170 : decode prog_7_method_53_code 170 = .ok (.iadd, 1) := by decide +kernel
theorem dM_look_171 : decode prog_7_method_53_code 171 = .ok (.baload, 1) := by decide +kernel
theorem dM_look_172 : decode prog_7_method_53_code 172 = .ok (.ifCond .ne 7, 3) := by decide +kernel
theorem dM_look_175 : decode prog_7_method_53_code 175 = .ok (.iconst 1, 1) := by decide +kernel
theorem dM_look_176 : decode prog_7_method_53_code 176 = .ok (.goto 4, 3) := by decide +kernel
theorem dM_look_179 : decode prog_7_method_53_code 179 = .ok (.iconst 0, 1) := by decide +kernel
theorem dM_look_180 : decode prog_7_method_53_code 180 = .ok (.istore 8, 2) := by decide +kernel
theorem dM_look_182 : decode prog_7_method_53_code 182 = .ok (.iinc 9 1, 3) := by decide +kernel
theorem dM_look_185 : decode prog_7_method_53_code 185 = .ok (.goto (-44), 3) := by decide +kernel
theorem dM_look_188 : decode prog_7_method_53_code 188 = .ok (.aload_n 0, 1) := by decide +kernel
theorem dM_look_189 : decode prog_7_method_53_code 189 = .ok (.getfield 31, 3) := by decide +kernel
theorem dM_look_192 : decode prog_7_method_53_code 192 = .ok (.sipush 729, 3) := by decide +kernel
theorem dM_look_195 : decode prog_7_method_53_code 195 = .ok (.iload_n 1, 1) := by decide +kernel
theorem dM_look_196 : decode prog_7_method_53_code 196 = .ok (.imul, 1) := by decide +kernel
theorem dM_look_197 : decode prog_7_method_53_code 197 = .ok (.iload 7, 2) := by decide +kernel
theorem dM_look_199 : decode prog_7_method_53_code 199 = .ok (.iadd, 1) := by decide +kernel
theorem dM_look_200 : decode prog_7_method_53_code 200 = .ok (.iload 8, 2) := by decide +kernel
theorem dM_look_202 : decode prog_7_method_53_code 202 = .ok (.bastore, 1) := by decide +kernel
theorem dM_look_203 : decode prog_7_method_53_code 203 = .ok (.iinc 7 1, 3) := by decide +kernel
theorem dM_look_206 : decode prog_7_method_53_code 206 = .ok (.goto (-116), 3) := by decide +kernel
theorem dM_look_209 : decode prog_7_method_53_code 209 = .ok (.iconst 0, 1) := by decide +kernel
theorem dM_look_210 : decode prog_7_method_53_code 210 = .ok (.istore 7, 2) := by decide +kernel
theorem dM_look_212 : decode prog_7_method_53_code 212 = .ok (.iload 7, 2) := by decide +kernel
theorem dM_look_214 : decode prog_7_method_53_code 214 = .ok (.bipush 6, 2) := by decide +kernel
theorem dM_look_216 : decode prog_7_method_53_code 216 = .ok (.if_icmp .ge 38, 3) := by decide +kernel
theorem dM_look_219 : decode prog_7_method_53_code 219 = .ok (.aload_n 0, 1) := by decide +kernel
theorem dM_look_220 : decode prog_7_method_53_code 220 = .ok (.getfield 7, 3) := by decide +kernel
theorem dM_look_223 : decode prog_7_method_53_code 223 = .ok (.bipush 13, 2) := by decide +kernel
theorem dM_look_225 : decode prog_7_method_53_code 225 = .ok (.iload 7, 2) := by decide +kernel
theorem dM_look_227 : decode prog_7_method_53_code 227 = .ok (.iadd, 1) := by decide +kernel
theorem dM_look_228 : decode prog_7_method_53_code 228 = .ok (.iaload, 1) := by decide +kernel
theorem dM_look_229 : decode prog_7_method_53_code 229 = .ok (.iload_n 1, 1) := by decide +kernel
theorem dM_look_230 : decode prog_7_method_53_code 230 = .ok (.if_icmp .ne 18, 3) := by decide +kernel
theorem dM_look_233 : decode prog_7_method_53_code 233 = .ok (.aload_n 0, 1) := by decide +kernel
theorem dM_look_234 : decode prog_7_method_53_code 234 = .ok (.iload_n 1, 1) := by decide +kernel
theorem dM_look_235 : decode prog_7_method_53_code 235 = .ok (.iload_n 2, 1) := by decide +kernel
theorem dM_look_236 : decode prog_7_method_53_code 236 = .ok (.aload_n 0, 1) := by decide +kernel
theorem dM_look_237 : decode prog_7_method_53_code 237 = .ok (.getfield 44, 3) := by decide +kernel
theorem dM_look_240 : decode prog_7_method_53_code 240 = .ok (.iload 7, 2) := by decide +kernel
theorem dM_look_242 : decode prog_7_method_53_code 242 = .ok (.iaload, 1) := by decide +kernel
theorem dM_look_243 : decode prog_7_method_53_code 243 = .ok (.iload 4, 2) := by decide +kernel
theorem dM_look_245 : decode prog_7_method_53_code 245 = .ok (.invokevirtual 189, 3) := by decide +kernel
theorem dM_look_248 : decode prog_7_method_53_code 248 = .ok (.iinc 7 1, 3) := by decide +kernel
theorem dM_look_251 : decode prog_7_method_53_code 251 = .ok (.goto (-39), 3) := by decide +kernel
theorem dM_look_254 : decode prog_7_method_53_code 254 = .ok (.return_, 1) := by decide +kernel
theorem dM_any_0 : decode prog_7_method_54_code 0 = .ok (.iconst 0, 1) := by decide +kernel
theorem dM_any_1 : decode prog_7_method_54_code 1 = .ok (.istore 5, 2) := by decide +kernel
theorem dM_any_3 : decode prog_7_method_54_code 3 = .ok (.iload 5, 2) := by decide +kernel
theorem dM_any_5 : decode prog_7_method_54_code 5 = .ok (.iload 4, 2) := by decide +kernel
theorem dM_any_7 : decode prog_7_method_54_code 7 = .ok (.if_icmp .ge 104, 3) := by decide +kernel
theorem dM_any_10 : decode prog_7_method_54_code 10 = .ok (.iload 5, 2) := by decide +kernel
theorem dM_any_12 : decode prog_7_method_54_code 12 = .ok (.iload_n 3, 1) := by decide +kernel
theorem dM_any_13 : decode prog_7_method_54_code 13 = .ok (.idiv, 1) := by decide +kernel
theorem dM_any_14 : decode prog_7_method_54_code 14 = .ok (.iload_n 2, 1) := by decide +kernel
theorem dM_any_15 : decode prog_7_method_54_code 15 = .ok (.irem, 1) := by decide +kernel
theorem dM_any_16 : decode prog_7_method_54_code 16 = .ok (.ifCond .ne 89, 3) := by decide +kernel
theorem dM_any_19 : decode prog_7_method_54_code 19 = .ok (.iconst 0, 1) := by decide +kernel
theorem dM_any_20 : decode prog_7_method_54_code 20 = .ok (.istore 6, 2) := by decide +kernel
theorem dM_any_22 : decode prog_7_method_54_code 22 = .ok (.iconst 0, 1) := by decide +kernel
theorem dM_any_23 : decode prog_7_method_54_code 23 = .ok (.istore 7, 2) := by decide +kernel
theorem dM_any_25 : decode prog_7_method_54_code 25 = .ok (.iload 7, 2) := by decide +kernel
theorem dM_any_27 : decode prog_7_method_54_code 27 = .ok (.iload_n 2, 1) := by decide +kernel
theorem dM_any_28 : decode prog_7_method_54_code 28 = .ok (.if_icmp .ge 42, 3) := by decide +kernel
theorem dM_any_31 : decode prog_7_method_54_code 31 = .ok (.iload 6, 2) := by decide +kernel
theorem dM_any_33 : decode prog_7_method_54_code 33 = .ok (.ifCond .ne 24, 3) := by decide +kernel
theorem dM_any_36 : decode prog_7_method_54_code 36 = .ok (.aload_n 0, 1) := by decide +kernel
theorem dM_any_37 : decode prog_7_method_54_code 37 = .ok (.getfield 31, 3) := by decide +kernel
theorem dM_any_40 : decode prog_7_method_54_code 40 = .ok (.sipush 729, 3) := by decide +kernel
theorem dM_any_43 : decode prog_7_method_54_code 43 = .ok (.iload_n 1, 1) := by decide +kernel
theorem dM_any_44 : decode prog_7_method_54_code 44 = .ok (.imul, 1) := by decide +kernel
theorem dM_any_45 : decode prog_7_method_54_code 45 = .ok (.iload 5, 2) := by decide +kernel
theorem dM_any_47 : decode prog_7_method_54_code 47 = .ok (.iadd, 1) := by decide +kernel
theorem dM_any_48 : decode prog_7_method_54_code 48 = .ok (.iload 7, 2) := by decide +kernel
theorem dM_any_50 : decode prog_7_method_54_code 50 = .ok (.iload_n 3, 1) := by decide +kernel
theorem dM_any_51 : decode prog_7_method_54_code 51 = .ok (.imul, 1) := by decide +kernel
theorem dM_any_52 : decode prog_7_method_54_code 52 = .ok (.iadd, 1) := by decide +kernel
theorem dM_any_53 : decode prog_7_method_54_code 53 = .ok (.baload, 1) := by decide +kernel
theorem dM_any_54 : decode prog_7_method_54_code 54 = .ok (.ifCond .eq 7, 3) := by decide +kernel
theorem dM_any_57 : decode prog_7_method_54_code 57 = .ok (.iconst 1, 1) := by decide +kernel
theorem dM_any_58 : decode prog_7_method_54_code 58 = .ok (.goto 4, 3) := by decide +kernel
theorem dM_any_61 : decode prog_7_method_54_code 61 = .ok (.iconst 0, 1) := by decide +kernel
theorem dM_any_62 : decode prog_7_method_54_code 62 = .ok (.istore 6, 2) := by decide +kernel
theorem dM_any_64 : decode prog_7_method_54_code 64 = .ok (.iinc 7 1, 3) := by decide +kernel
theorem dM_any_67 : decode prog_7_method_54_code 67 = .ok (.goto (-42), 3) := by decide +kernel
theorem dM_any_70 : decode prog_7_method_54_code 70 = .ok (.iconst 0, 1) := by decide +kernel
theorem dM_any_71 : decode prog_7_method_54_code 71 = .ok (.istore 7, 2) := by decide +kernel
theorem dM_any_73 : decode prog_7_method_54_code 73 = .ok (.iload 7, 2) := by decide +kernel
theorem dM_any_75 : decode prog_7_method_54_code 75 = .ok (.iload_n 2, 1) := by decide +kernel
theorem dM_any_76 : decode prog_7_method_54_code 76 = .ok (.if_icmp .ge 29, 3) := by decide +kernel
theorem dM_any_79 : decode prog_7_method_54_code 79 = .ok (.aload_n 0, 1) := by decide +kernel
theorem dM_any_80 : decode prog_7_method_54_code 80 = .ok (.getfield 31, 3) := by decide +kernel
theorem dM_any_83 : decode prog_7_method_54_code 83 = .ok (.sipush 729, 3) := by decide +kernel
theorem dM_any_86 : decode prog_7_method_54_code 86 = .ok (.iload_n 1, 1) := by decide +kernel
theorem dM_any_87 : decode prog_7_method_54_code 87 = .ok (.imul, 1) := by decide +kernel
theorem dM_any_88 : decode prog_7_method_54_code 88 = .ok (.iload 5, 2) := by decide +kernel
theorem dM_any_90 : decode prog_7_method_54_code 90 = .ok (.iadd, 1) := by decide +kernel
theorem dM_any_91 : decode prog_7_method_54_code 91 = .ok (.iload 7, 2) := by decide +kernel
theorem dM_any_93 : decode prog_7_method_54_code 93 = .ok (.iload_n 3, 1) := by decide +kernel
theorem dM_any_94 : decode prog_7_method_54_code 94 = .ok (.imul, 1) := by decide +kernel
theorem dM_any_95 : decode prog_7_method_54_code 95 = .ok (.iadd, 1) := by decide +kernel
theorem dM_any_96 : decode prog_7_method_54_code 96 = .ok (.iload 6, 2) := by decide +kernel
theorem dM_any_98 : decode prog_7_method_54_code 98 = .ok (.bastore, 1) := by decide +kernel
theorem dM_any_99 : decode prog_7_method_54_code 99 = .ok (.iinc 7 1, 3) := by decide +kernel
theorem dM_any_102 : decode prog_7_method_54_code 102 = .ok (.goto (-29), 3) := by decide +kernel
theorem dM_any_105 : decode prog_7_method_54_code 105 = .ok (.iinc 5 1, 3) := by decide +kernel
theorem dM_any_108 : decode prog_7_method_54_code 108 = .ok (.goto (-105), 3) := by decide +kernel
theorem dM_any_111 : decode prog_7_method_54_code 111 = .ok (.return_, 1) := by decide +kernel
theorem dM_sheetHolds_0 : decode prog_7_method_55_code 0 = .ok (.iconst 1, 1) := by decide +kernel
theorem dM_sheetHolds_1 : decode prog_7_method_55_code 1 = .ok (.istore_n 3, 1) := by decide +kernel
theorem dM_sheetHolds_2 : decode prog_7_method_55_code 2 = .ok (.iconst 0, 1) := by decide +kernel
theorem dM_sheetHolds_3 : decode prog_7_method_55_code 3 = .ok (.istore 4, 2) := by decide +kernel
theorem dM_sheetHolds_5 : decode prog_7_method_55_code 5 = .ok (.iload 4, 2) := by decide +kernel
theorem dM_sheetHolds_7 : decode prog_7_method_55_code 7 = .ok (.bipush 6, 2) := by decide +kernel
theorem dM_sheetHolds_9 : decode prog_7_method_55_code 9 = .ok (.if_icmp .ge 34, 3) := by decide +kernel
theorem dM_sheetHolds_12 : decode prog_7_method_55_code 12 = .ok (.aload_n 0, 1) := by decide +kernel
theorem dM_sheetHolds_13 : decode prog_7_method_55_code 13 = .ok (.getfield 44, 3) := by decide +kernel
theorem dM_sheetHolds_16 : decode prog_7_method_55_code 16 = .ok (.iload 4, 2) := by decide +kernel
theorem dM_sheetHolds_18 : decode prog_7_method_55_code 18 = .ok (.iload_n 3, 1) := by decide +kernel
theorem dM_sheetHolds_19 : decode prog_7_method_55_code 19 = .ok (.iastore, 1) := by decide +kernel
theorem dM_sheetHolds_20 : decode prog_7_method_55_code 20 = .ok (.iload_n 3, 1) := by decide +kernel
theorem dM_sheetHolds_21 : decode prog_7_method_55_code 21 = .ok (.aload_n 0, 1) := by decide +kernel
theorem dM_sheetHolds_22 : decode prog_7_method_55_code 22 = .ok (.iload 4, 2) := by decide +kernel
theorem dM_sheetHolds_24 : decode prog_7_method_55_code 24 = .ok (.invokevirtual 89, 3) := by decide +kernel
theorem dM_sheetHolds_27 : decode prog_7_method_55_code 27 = .ok (.ifCond .eq 7, 3) := by decide +kernel
theorem dM_sheetHolds_30 : decode prog_7_method_55_code 30 = .ok (.iload_n 1, 1) := by decide +kernel
theorem dM_sheetHolds_31 : decode prog_7_method_55_code 31 = .ok (.goto 4, 3) := by decide +kernel
theorem dM_sheetHolds_34 : decode prog_7_method_55_code 34 = .ok (.iconst 1, 1) := by decide +kernel
theorem dM_sheetHolds_35 : decode prog_7_method_55_code 35 = .ok (.imul, 1) := by decide +kernel
theorem dM_sheetHolds_36 : decode prog_7_method_55_code 36 = .ok (.istore_n 3, 1) := by decide +kernel
theorem dM_sheetHolds_37 : decode prog_7_method_55_code 37 = .ok (.iinc 4 1, 3) := by decide +kernel
theorem dM_sheetHolds_40 : decode prog_7_method_55_code 40 = .ok (.goto (-35), 3) := by decide +kernel
theorem dM_sheetHolds_43 : decode prog_7_method_55_code 43 = .ok (.bipush 13, 2) := by decide +kernel
theorem dM_sheetHolds_45 : decode prog_7_method_55_code 45 = .ok (.istore 4, 2) := by decide +kernel
theorem dM_sheetHolds_47 : decode prog_7_method_55_code 47 = .ok (.iload 4, 2) := by decide +kernel
theorem dM_sheetHolds_49 : decode prog_7_method_55_code 49 = .ok (.ifCond .lt 54, 3) := by decide +kernel
theorem dM_sheetHolds_52 : decode prog_7_method_55_code 52 = .ok (.iconst 0, 1) := by decide +kernel
theorem dM_sheetHolds_53 : decode prog_7_method_55_code 53 = .ok (.istore 5, 2) := by decide +kernel
theorem dM_sheetHolds_55 : decode prog_7_method_55_code 55 = .ok (.iload 5, 2) := by decide +kernel
theorem dM_sheetHolds_57 : decode prog_7_method_55_code 57 = .ok (.bipush 13, 2) := by decide +kernel
theorem dM_sheetHolds_59 : decode prog_7_method_55_code 59 = .ok (.if_icmp .ge 38, 3) := by decide +kernel
theorem dM_sheetHolds_62 : decode prog_7_method_55_code 62 = .ok (.aload_n 0, 1) := by decide +kernel
theorem dM_sheetHolds_63 : decode prog_7_method_55_code 63 = .ok (.iload 5, 2) := by decide +kernel
theorem dM_sheetHolds_65 : decode prog_7_method_55_code 65 = .ok (.invokevirtual 60, 3) := by decide +kernel
theorem dM_sheetHolds_68 : decode prog_7_method_55_code 68 = .ok (.ifCond .eq 23, 3) := by decide +kernel
theorem dM_sheetHolds_71 : decode prog_7_method_55_code 71 = .ok (.aload_n 0, 1) := by decide +kernel
theorem dM_sheetHolds_72 : decode prog_7_method_55_code 72 = .ok (.iload 5, 2) := by decide +kernel
theorem dM_sheetHolds_74 : decode prog_7_method_55_code 74 = .ok (.invokevirtual 71, 3) := by decide +kernel
theorem dM_sheetHolds_77 : decode prog_7_method_55_code 77 = .ok (.iload 4, 2) := by decide +kernel
theorem dM_sheetHolds_79 : decode prog_7_method_55_code 79 = .ok (.if_icmp .ne 12, 3) := by decide +kernel
theorem dM_sheetHolds_82 : decode prog_7_method_55_code 82 = .ok (.aload_n 0, 1) := by decide +kernel
theorem dM_sheetHolds_83 : decode prog_7_method_55_code 83 = .ok (.iload 5, 2) := by decide +kernel
theorem dM_sheetHolds_85 : decode prog_7_method_55_code 85 = .ok (.iload_n 1, 1) := by decide +kernel
theorem dM_sheetHolds_86 : decode prog_7_method_55_code 86 = .ok (.iload_n 2, 1) := by decide +kernel
theorem dM_sheetHolds_87 : decode prog_7_method_55_code 87 = .ok (.iload_n 3, 1) := by decide +kernel
theorem dM_sheetHolds_88 : decode prog_7_method_55_code 88 = .ok (.invokevirtual 193, 3) := by decide +kernel
theorem dM_sheetHolds_91 : decode prog_7_method_55_code 91 = .ok (.iinc 5 1, 3) := by decide +kernel
theorem dM_sheetHolds_94 : decode prog_7_method_55_code 94 = .ok (.goto (-39), 3) := by decide +kernel
theorem dM_sheetHolds_97 : decode prog_7_method_55_code 97 = .ok (.iinc 4 (-1), 3) := by decide +kernel
theorem dM_sheetHolds_100 : decode prog_7_method_55_code 100 = .ok (.goto (-53), 3) := by decide +kernel
theorem dM_sheetHolds_103 : decode prog_7_method_55_code 103 = .ok (.aload_n 0, 1) := by decide +kernel
theorem dM_sheetHolds_104 : decode prog_7_method_55_code 104 = .ok (.getfield 31, 3) := by decide +kernel
theorem dM_sheetHolds_107 : decode prog_7_method_55_code 107 = .ok (.iconst 0, 1) := by decide +kernel
theorem dM_sheetHolds_108 : decode prog_7_method_55_code 108 = .ok (.baload, 1) := by decide +kernel
theorem dM_sheetHolds_109 : decode prog_7_method_55_code 109 = .ok (.ireturn, 1) := by decide +kernel
theorem dM_change_0 : decode prog_7_method_56_code 0 = .ok (.iconst 0, 1) := by decide +kernel
theorem dM_change_1 : decode prog_7_method_56_code 1 = .ok (.istore_n 1, 1) := by decide +kernel
theorem dM_change_2 : decode prog_7_method_56_code 2 = .ok (.iload_n 1, 1) := by decide +kernel
theorem dM_change_3 : decode prog_7_method_56_code 3 = .ok (.bipush 67, 2) := by decide +kernel
theorem dM_change_5 : decode prog_7_method_56_code 5 = .ok (.if_icmp .ge 35, 3) := by decide +kernel
theorem dM_change_8 : decode prog_7_method_56_code 8 = .ok (.aload_n 0, 1) := by decide +kernel
theorem dM_change_9 : decode prog_7_method_56_code 9 = .ok (.getfield 53, 3) := by decide +kernel
theorem dM_change_12 : decode prog_7_method_56_code 12 = .ok (.iload_n 1, 1) := by decide +kernel
theorem dM_change_13 : decode prog_7_method_56_code 13 = .ok (.iaload, 1) := by decide +kernel
theorem dM_change_14 : decode prog_7_method_56_code 14 = .ok (.istore_n 2, 1) := by decide +kernel
theorem dM_change_15 : decode prog_7_method_56_code 15 = .ok (.aload_n 0, 1) := by decide +kernel
theorem dM_change_16 : decode prog_7_method_56_code 16 = .ok (.getfield 53, 3) := by decide +kernel
theorem dM_change_19 : decode prog_7_method_56_code 19 = .ok (.iload_n 1, 1) := by decide +kernel
theorem dM_change_20 : decode prog_7_method_56_code 20 = .ok (.aload_n 0, 1) := by decide +kernel
theorem dM_change_21 : decode prog_7_method_56_code 21 = .ok (.getfield 7, 3) := by decide +kernel
theorem dM_change_24 : decode prog_7_method_56_code 24 = .ok (.iload_n 1, 1) := by decide +kernel
theorem dM_change_25 : decode prog_7_method_56_code 25 = .ok (.iaload, 1) := by decide +kernel
theorem dM_change_26 : decode prog_7_method_56_code 26 = .ok (.iastore, 1) := by decide +kernel
theorem dM_change_27 : decode prog_7_method_56_code 27 = .ok (.aload_n 0, 1) := by decide +kernel
theorem dM_change_28 : decode prog_7_method_56_code 28 = .ok (.getfield 7, 3) := by decide +kernel
theorem dM_change_31 : decode prog_7_method_56_code 31 = .ok (.iload_n 1, 1) := by decide +kernel
theorem dM_change_32 : decode prog_7_method_56_code 32 = .ok (.iload_n 2, 1) := by decide +kernel
theorem dM_change_33 : decode prog_7_method_56_code 33 = .ok (.iastore, 1) := by decide +kernel
theorem dM_change_34 : decode prog_7_method_56_code 34 = .ok (.iinc 1 1, 3) := by decide +kernel
theorem dM_change_37 : decode prog_7_method_56_code 37 = .ok (.goto (-35), 3) := by decide +kernel
theorem dM_change_40 : decode prog_7_method_56_code 40 = .ok (.return_, 1) := by decide +kernel
theorem dM_firstHolds_0 : decode prog_7_method_57_code 0 = .ok (.iconst 0, 1) := by decide +kernel
theorem dM_firstHolds_1 : decode prog_7_method_57_code 1 = .ok (.istore_n 3, 1) := by decide +kernel
theorem dM_firstHolds_2 : decode prog_7_method_57_code 2 = .ok (.iload_n 3, 1) := by decide +kernel
theorem dM_firstHolds_3 : decode prog_7_method_57_code 3 = .ok (.bipush 67, 2) := by decide +kernel
theorem dM_firstHolds_5 : decode prog_7_method_57_code 5 = .ok (.if_icmp .ge 37, 3) := by decide +kernel
theorem dM_firstHolds_8 : decode prog_7_method_57_code 8 = .ok (.aload_n 0, 1) := by decide +kernel
theorem dM_firstHolds_9 : decode prog_7_method_57_code 9 = .ok (.getfield 53, 3) := by decide +kernel
theorem dM_firstHolds_12 : decode prog_7_method_57_code 12 = .ok (.iload_n 3, 1) := by decide +kernel
theorem dM_firstHolds_13 : decode prog_7_method_57_code 13 = .ok (.aload_n 0, 1) := by decide +kernel
theorem dM_firstHolds_14 : decode prog_7_method_57_code 14 = .ok (.getfield 68, 3) := by decide +kernel
theorem dM_firstHolds_17 : decode prog_7_method_57_code 17 = .ok (.ifCond .ne 12, 3) := by decide +kernel
theorem dM_firstHolds_20 : decode prog_7_method_57_code 20 = .ok (.aload_n 0, 1) := by decide +kernel
theorem dM_firstHolds_21 : decode prog_7_method_57_code 21 = .ok (.getfield 7, 3) := by decide +kernel
theorem dM_firstHolds_24 : decode prog_7_method_57_code 24 = .ok (.iload_n 3, 1) := by decide +kernel
theorem dM_firstHolds_25 : decode prog_7_method_57_code 25 = .ok (.iaload, 1) := by decide +kernel
theorem dM_firstHolds_26 : decode prog_7_method_57_code 26 = .ok (.goto 9, 3) := by decide +kernel
theorem dM_firstHolds_29 : decode prog_7_method_57_code 29 = .ok (.aload_n 0, 1) := by decide +kernel
theorem dM_firstHolds_30 : decode prog_7_method_57_code 30 = .ok (.getfield 13, 3) := by decide +kernel
theorem dM_firstHolds_33 : decode prog_7_method_57_code 33 = .ok (.iload_n 3, 1) := by decide +kernel
theorem dM_firstHolds_34 : decode prog_7_method_57_code 34 = .ok (.iaload, 1) := by decide +kernel
theorem dM_firstHolds_35 : decode prog_7_method_57_code 35 = .ok (.iastore, 1) := by decide +kernel
theorem dM_firstHolds_36 : decode prog_7_method_57_code 36 = .ok (.iinc 3 1, 3) := by decide +kernel
theorem dM_firstHolds_39 : decode prog_7_method_57_code 39 = .ok (.goto (-37), 3) := by decide +kernel
theorem dM_firstHolds_42 : decode prog_7_method_57_code 42 = .ok (.aload_n 0, 1) := by decide +kernel
theorem dM_firstHolds_43 : decode prog_7_method_57_code 43 = .ok (.invokevirtual 196, 3) := by decide +kernel
theorem dM_firstHolds_46 : decode prog_7_method_57_code 46 = .ok (.aload_n 0, 1) := by decide +kernel
theorem dM_firstHolds_47 : decode prog_7_method_57_code 47 = .ok (.iload_n 1, 1) := by decide +kernel
theorem dM_firstHolds_48 : decode prog_7_method_57_code 48 = .ok (.iload_n 2, 1) := by decide +kernel
theorem dM_firstHolds_49 : decode prog_7_method_57_code 49 = .ok (.invokevirtual 199, 3) := by decide +kernel
theorem dM_firstHolds_52 : decode prog_7_method_57_code 52 = .ok (.istore_n 3, 1) := by decide +kernel
theorem dM_firstHolds_53 : decode prog_7_method_57_code 53 = .ok (.aload_n 0, 1) := by decide +kernel
theorem dM_firstHolds_54 : decode prog_7_method_57_code 54 = .ok (.invokevirtual 196, 3) := by decide +kernel
theorem dM_firstHolds_57 : decode prog_7_method_57_code 57 = .ok (.iload_n 3, 1) := by decide +kernel
theorem dM_firstHolds_58 : decode prog_7_method_57_code 58 = .ok (.ireturn, 1) := by decide +kernel
theorem dM_holds_0 : decode prog_7_method_58_code 0 = .ok (.aload_n 0, 1) := by decide +kernel
theorem dM_holds_1 : decode prog_7_method_58_code 1 = .ok (.iload_n 2, 1) := by decide +kernel
theorem dM_holds_2 : decode prog_7_method_58_code 2 = .ok (.iconst 1, 1) := by decide +kernel
theorem dM_holds_3 : decode prog_7_method_58_code 3 = .ok (.if_icmp .lt 19, 3) := by decide +kernel
theorem dM_holds_6 : decode prog_7_method_58_code 6 = .ok (.iload_n 2, 1) := by decide +kernel
theorem dM_holds_7 : decode prog_7_method_58_code 7 = .ok (.iconst 3, 1) := by decide +kernel
theorem dM_holds_8 : decode prog_7_method_58_code 8 = .ok (.if_icmp .gt 14, 3) := by decide +kernel
theorem dM_holds_11 : decode prog_7_method_58_code 11 = .ok (.iload_n 3, 1) := by decide +kernel
theorem dM_holds_12 : decode prog_7_method_58_code 12 = .ok (.ifCond .lt 10, 3) := by decide +kernel
theorem dM_holds_15 : decode prog_7_method_58_code 15 = .ok (.iload_n 3, 1) := by decide +kernel
theorem dM_holds_16 : decode prog_7_method_58_code 16 = .ok (.sipush 16384, 3) := by decide +kernel
theorem dM_holds_19 : decode prog_7_method_58_code 19 = .ok (.if_icmp .lt 7, 3) := by decide +kernel
theorem dM_holds_22 : decode prog_7_method_58_code 22 = .ok (.iconst 1, 1) := by decide +kernel
theorem dM_holds_23 : decode prog_7_method_58_code 23 = .ok (.goto 19, 3) := by decide +kernel
theorem dM_holds_26 : decode prog_7_method_58_code 26 = .ok (.iload_n 1, 1) := by decide +kernel
theorem dM_holds_27 : decode prog_7_method_58_code 27 = .ok (.ifCond .eq 14, 3) := by decide +kernel
theorem dM_holds_30 : decode prog_7_method_58_code 30 = .ok (.aload_n 0, 1) := by decide +kernel
theorem dM_holds_31 : decode prog_7_method_58_code 31 = .ok (.getfield 64, 3) := by decide +kernel
theorem dM_holds_34 : decode prog_7_method_58_code 34 = .ok (.ifCond .ne 7, 3) := by decide +kernel
theorem dM_holds_37 : decode prog_7_method_58_code 37 = .ok (.iconst 2, 1) := by decide +kernel
theorem dM_holds_38 : decode prog_7_method_58_code 38 = .ok (.goto 4, 3) := by decide +kernel
theorem dM_holds_41 : decode prog_7_method_58_code 41 = .ok (.iconst 0, 1) := by decide +kernel
theorem dM_holds_42 : decode prog_7_method_58_code 42 = .ok (.putfield 56, 3) := by decide +kernel
theorem dM_holds_45 : decode prog_7_method_58_code 45 = .ok (.aload_n 0, 1) := by decide +kernel
theorem dM_holds_46 : decode prog_7_method_58_code 46 = .ok (.getfield 56, 3) := by decide +kernel
theorem dM_holds_49 : decode prog_7_method_58_code 49 = .ok (.ifCond .ne 32, 3) := by decide +kernel
theorem dM_holds_52 : decode prog_7_method_58_code 52 = .ok (.iload_n 1, 1) := by decide +kernel
theorem dM_holds_53 : decode prog_7_method_58_code 53 = .ok (.ifCond .eq 15, 3) := by decide +kernel
theorem dM_holds_56 : decode prog_7_method_58_code 56 = .ok (.aload_n 0, 1) := by decide +kernel
theorem dM_holds_57 : decode prog_7_method_58_code 57 = .ok (.iload_n 2, 1) := by decide +kernel
theorem dM_holds_58 : decode prog_7_method_58_code 58 = .ok (.iload_n 3, 1) := by decide +kernel
theorem dM_holds_59 : decode prog_7_method_58_code 59 = .ok (.invokevirtual 202, 3) := by decide +kernel
theorem dM_holds_62 : decode prog_7_method_58_code 62 = .ok (.ifCond .eq 19, 3) := by decide +kernel
theorem dM_holds_65 : decode prog_7_method_58_code 65 = .ok (.goto 12, 3) := by decide +kernel
theorem dM_holds_68 : decode prog_7_method_58_code 68 = .ok (.aload_n 0, 1) := by decide +kernel
theorem dM_holds_69 : decode prog_7_method_58_code 69 = .ok (.iload_n 2, 1) := by decide +kernel
end
section
/-! printed by wip/whole/gen_names.py: decode rows -/
theorem dM_holds_70 : decode prog_7_method_58_code 70 = .ok (.iload_n 3, 1) := by decide +kernel
theorem dM_holds_71 : decode prog_7_method_58_code 71 = .ok (.invokevirtual 199, 3) := by decide +kernel
theorem dM_holds_74 : decode prog_7_method_58_code 74 = .ok (.ifCond .eq 7, 3) := by decide +kernel
theorem dM_holds_77 : decode prog_7_method_58_code 77 = .ok (.iconst 1, 1) := by decide +kernel
theorem dM_holds_78 : decode prog_7_method_58_code 78 = .ok (.goto 4, 3) := by decide +kernel
theorem dM_holds_81 : decode prog_7_method_58_code 81 = .ok (.iconst 0, 1) := by decide +kernel
theorem dM_holds_82 : decode prog_7_method_58_code 82 = .ok (.ireturn, 1) := by decide +kernel
theorem dM_refutes_0 : decode prog_7_method_59_code 0 = .ok (.aload_n 0, 1) := by decide +kernel
theorem dM_refutes_1 : decode prog_7_method_59_code 1 = .ok (.iload_n 1, 1) := by decide +kernel
theorem dM_refutes_2 : decode prog_7_method_59_code 2 = .ok (.iconst 1, 1) := by decide +kernel
theorem dM_refutes_3 : decode prog_7_method_59_code 3 = .ok (.if_icmp .lt 8, 3) := by decide +kernel
theorem dM_refutes_6 : decode prog_7_method_59_code 6 = .ok (.iload_n 1, 1) := by decide +kernel
theorem dM_refutes_7 : decode prog_7_method_59_code 7 = .ok (.iconst 2, 1) := by decide +kernel
theorem dM_refutes_8 : decode prog_7_method_59_code 8 = .ok (.if_icmp .le 7, 3) := by decide +kernel
theorem dM_refutes_11 : decode prog_7_method_59_code 11 = .ok (.iconst 1, 1) := by decide +kernel
theorem dM_refutes_12 : decode prog_7_method_59_code 12 = .ok (.goto 15, 3) := by decide +kernel
theorem dM_refutes_15 : decode prog_7_method_59_code 15 = .ok (.aload_n 0, 1) := by decide +kernel
theorem dM_refutes_16 : decode prog_7_method_59_code 16 = .ok (.getfield 64, 3) := by decide +kernel
theorem dM_refutes_19 : decode prog_7_method_59_code 19 = .ok (.ifCond .ne 7, 3) := by decide +kernel
theorem dM_refutes_22 : decode prog_7_method_59_code 22 = .ok (.iconst 2, 1) := by decide +kernel
theorem dM_refutes_23 : decode prog_7_method_59_code 23 = .ok (.goto 4, 3) := by decide +kernel
theorem dM_refutes_26 : decode prog_7_method_59_code 26 = .ok (.iconst 0, 1) := by decide +kernel
theorem dM_refutes_27 : decode prog_7_method_59_code 27 = .ok (.putfield 56, 3) := by decide +kernel
theorem dM_refutes_30 : decode prog_7_method_59_code 30 = .ok (.aload_n 0, 1) := by decide +kernel
theorem dM_refutes_31 : decode prog_7_method_59_code 31 = .ok (.getfield 56, 3) := by decide +kernel
theorem dM_refutes_34 : decode prog_7_method_59_code 34 = .ok (.ifCond .eq 5, 3) := by decide +kernel
theorem dM_refutes_37 : decode prog_7_method_59_code 37 = .ok (.iconst 0, 1) := by decide +kernel
theorem dM_refutes_38 : decode prog_7_method_59_code 38 = .ok (.ireturn, 1) := by decide +kernel
theorem dM_refutes_39 : decode prog_7_method_59_code 39 = .ok (.iload_n 1, 1) := by decide +kernel
theorem dM_refutes_40 : decode prog_7_method_59_code 40 = .ok (.iconst 1, 1) := by decide +kernel
theorem dM_refutes_41 : decode prog_7_method_59_code 41 = .ok (.if_icmp .ne 8, 3) := by decide +kernel
theorem dM_refutes_44 : decode prog_7_method_59_code 44 = .ok (.bipush 39, 2) := by decide +kernel
theorem dM_refutes_46 : decode prog_7_method_59_code 46 = .ok (.goto 6, 3) := by decide +kernel
theorem dM_refutes_49 : decode prog_7_method_59_code 49 = .ok (.sipush 879, 3) := by decide +kernel
theorem dM_refutes_52 : decode prog_7_method_59_code 52 = .ok (.istore_n 2, 1) := by decide +kernel
theorem dM_refutes_53 : decode prog_7_method_59_code 53 = .ok (.iconst 0, 1) := by decide +kernel
theorem dM_refutes_54 : decode prog_7_method_59_code 54 = .ok (.istore_n 3, 1) := by decide +kernel
theorem dM_refutes_55 : decode prog_7_method_59_code 55 = .ok (.iload_n 3, 1) := by decide +kernel
theorem dM_refutes_56 : decode prog_7_method_59_code 56 = .ok (.sipush 1024, 3) := by decide +kernel
theorem dM_refutes_59 : decode prog_7_method_59_code 59 = .ok (.if_icmp .ge 37, 3) := by decide +kernel
theorem dM_refutes_62 : decode prog_7_method_59_code 62 = .ok (.iload_n 3, 1) := by decide +kernel
theorem dM_refutes_63 : decode prog_7_method_59_code 63 = .ok (.iload_n 2, 1) := by decide +kernel
theorem dM_refutes_64 : decode prog_7_method_59_code 64 = .ok (.iconst (-1), 1) := by decide +kernel
theorem dM_refutes_65 : decode prog_7_method_59_code 65 = .ok (.ixor, 1) := by decide +kernel
theorem dM_refutes_66 : decode prog_7_method_59_code 66 = .ok (.iand, 1) := by decide +kernel
theorem dM_refutes_67 : decode prog_7_method_59_code 67 = .ok (.ifCond .ne 23, 3) := by decide +kernel
theorem dM_refutes_70 : decode prog_7_method_59_code 70 = .ok (.aload_n 0, 1) := by decide +kernel
theorem dM_refutes_71 : decode prog_7_method_59_code 71 = .ok (.iload_n 1, 1) := by decide +kernel
theorem dM_refutes_72 : decode prog_7_method_59_code 72 = .ok (.iload_n 3, 1) := by decide +kernel
theorem dM_refutes_73 : decode prog_7_method_59_code 73 = .ok (.invokevirtual 202, 3) := by decide +kernel
theorem dM_refutes_76 : decode prog_7_method_59_code 76 = .ok (.ifCond .eq 14, 3) := by decide +kernel
theorem dM_refutes_79 : decode prog_7_method_59_code 79 = .ok (.aload_n 0, 1) := by decide +kernel
theorem dM_refutes_80 : decode prog_7_method_59_code 80 = .ok (.iload_n 1, 1) := by decide +kernel
theorem dM_refutes_81 : decode prog_7_method_59_code 81 = .ok (.iload_n 3, 1) := by decide +kernel
theorem dM_refutes_82 : decode prog_7_method_59_code 82 = .ok (.invokevirtual 199, 3) := by decide +kernel
theorem dM_refutes_85 : decode prog_7_method_59_code 85 = .ok (.ifCond .ne 5, 3) := by decide +kernel
theorem dM_refutes_88 : decode prog_7_method_59_code 88 = .ok (.iload_n 3, 1) := by decide +kernel
theorem dM_refutes_89 : decode prog_7_method_59_code 89 = .ok (.ireturn, 1) := by decide +kernel
theorem dM_refutes_90 : decode prog_7_method_59_code 90 = .ok (.iinc 3 1, 3) := by decide +kernel
theorem dM_refutes_93 : decode prog_7_method_59_code 93 = .ok (.goto (-38), 3) := by decide +kernel
theorem dM_refutes_96 : decode prog_7_method_59_code 96 = .ok (.iconst (-1), 1) := by decide +kernel
theorem dM_refutes_97 : decode prog_7_method_59_code 97 = .ok (.ireturn, 1) := by decide +kernel
end
section
/-! printed by wip/whole/gen_names.py: decode rows -/
theorem dR_init_0 : decode prog_4_method_1_code 0 = .ok (.aload_n 0, 1) := by decide +kernel
theorem dR_init_1 : decode prog_4_method_1_code 1 = .ok (.invokespecial 3, 3) := by decide +kernel
theorem dR_init_4 : decode prog_4_method_1_code 4 = .ok (.aload_n 0, 1) := by decide +kernel
theorem dR_init_5 : decode prog_4_method_1_code 5 = .ok (.bipush 66, 2) := by decide +kernel
theorem dR_init_7 : decode prog_4_method_1_code 7 = .ok (.newarray .int, 2) := by decide +kernel
theorem dR_init_9 : decode prog_4_method_1_code 9 = .ok (.putfield 9, 3) := by decide +kernel
theorem dR_init_12 : decode prog_4_method_1_code 12 = .ok (.aload_n 0, 1) := by decide +kernel
theorem dR_init_13 : decode prog_4_method_1_code 13 = .ok (.iconst 0, 1) := by decide +kernel
theorem dR_init_14 : decode prog_4_method_1_code 14 = .ok (.putfield 15, 3) := by decide +kernel
theorem dR_init_17 : decode prog_4_method_1_code 17 = .ok (.aload_n 0, 1) := by decide +kernel
theorem dR_init_18 : decode prog_4_method_1_code 18 = .ok (.iconst 0, 1) := by decide +kernel
theorem dR_init_19 : decode prog_4_method_1_code 19 = .ok (.putfield 19, 3) := by decide +kernel
theorem dR_init_22 : decode prog_4_method_1_code 22 = .ok (.aload_n 0, 1) := by decide +kernel
theorem dR_init_23 : decode prog_4_method_1_code 23 = .ok (.bipush 6, 2) := by decide +kernel
theorem dR_init_25 : decode prog_4_method_1_code 25 = .ok (.newarray .int, 2) := by decide +kernel
theorem dR_init_27 : decode prog_4_method_1_code 27 = .ok (.putfield 22, 3) := by decide +kernel
theorem dR_init_30 : decode prog_4_method_1_code 30 = .ok (.aload_n 0, 1) := by decide +kernel
theorem dR_init_31 : decode prog_4_method_1_code 31 = .ok (.iconst 0, 1) := by decide +kernel
theorem dR_init_32 : decode prog_4_method_1_code 32 = .ok (.putfield 25, 3) := by decide +kernel
theorem dR_init_35 : decode prog_4_method_1_code 35 = .ok (.return_, 1) := by decide +kernel
theorem dR_takeArea_0 : decode prog_4_method_2_code 0 = .ok (.aload_n 0, 1) := by decide +kernel
theorem dR_takeArea_1 : decode prog_4_method_2_code 1 = .ok (.iconst 0, 1) := by decide +kernel
theorem dR_takeArea_2 : decode prog_4_method_2_code 2 = .ok (.invokevirtual 28, 3) := by decide +kernel
theorem dR_takeArea_5 : decode prog_4_method_2_code 5 = .ok (.aload_n 0, 1) := by decide +kernel
theorem dR_takeArea_6 : decode prog_4_method_2_code 6 = .ok (.aload_n 1, 1) := by decide +kernel
theorem dR_takeArea_7 : decode prog_4_method_2_code 7 = .ok (.iload_n 2, 1) := by decide +kernel
theorem dR_takeArea_8 : decode prog_4_method_2_code 8 = .ok (.iconst 0, 1) := by decide +kernel
theorem dR_takeArea_9 : decode prog_4_method_2_code 9 = .ok (.invokevirtual 32, 3) := by decide +kernel
theorem dR_takeArea_12 : decode prog_4_method_2_code 12 = .ok (.return_, 1) := by decide +kernel
theorem dR_takePart_0 : decode prog_4_method_3_code 0 = .ok (.iload_n 2, 1) := by decide +kernel
theorem dR_takePart_1 : decode prog_4_method_3_code 1 = .ok (.ifCond .ne 17, 3) := by decide +kernel
theorem dR_takePart_4 : decode prog_4_method_3_code 4 = .ok (.aload_n 0, 1) := by decide +kernel
theorem dR_takePart_5 : decode prog_4_method_3_code 5 = .ok (.iconst 0, 1) := by decide +kernel
theorem dR_takePart_6 : decode prog_4_method_3_code 6 = .ok (.invokevirtual 28, 3) := by decide +kernel
theorem dR_takePart_9 : decode prog_4_method_3_code 9 = .ok (.aload_n 0, 1) := by decide +kernel
theorem dR_takePart_10 : decode prog_4_method_3_code 10 = .ok (.aload_n 1, 1) := by decide +kernel
theorem dR_takePart_11 : decode prog_4_method_3_code 11 = .ok (.iload_n 3, 1) := by decide +kernel
theorem dR_takePart_12 : decode prog_4_method_3_code 12 = .ok (.invokevirtual 36, 3) := by decide +kernel
theorem dR_takePart_15 : decode prog_4_method_3_code 15 = .ok (.goto 19, 3) := by decide +kernel
theorem dR_takePart_18 : decode prog_4_method_3_code 18 = .ok (.aload_n 0, 1) := by decide +kernel
theorem dR_takePart_19 : decode prog_4_method_3_code 19 = .ok (.aload_n 1, 1) := by decide +kernel
theorem dR_takePart_20 : decode prog_4_method_3_code 20 = .ok (.iload_n 3, 1) := by decide +kernel
theorem dR_takePart_21 : decode prog_4_method_3_code 21 = .ok (.invokevirtual 40, 3) := by decide +kernel
theorem dR_takePart_24 : decode prog_4_method_3_code 24 = .ok (.invokevirtual 28, 3) := by decide +kernel
theorem dR_takePart_27 : decode prog_4_method_3_code 27 = .ok (.aload_n 0, 1) := by decide +kernel
theorem dR_takePart_28 : decode prog_4_method_3_code 28 = .ok (.aload_n 1, 1) := by decide +kernel
theorem dR_takePart_29 : decode prog_4_method_3_code 29 = .ok (.iload_n 3, 1) := by decide +kernel
theorem dR_takePart_30 : decode prog_4_method_3_code 30 = .ok (.iconst 0, 1) := by decide +kernel
theorem dR_takePart_31 : decode prog_4_method_3_code 31 = .ok (.invokevirtual 32, 3) := by decide +kernel
theorem dR_takePart_34 : decode prog_4_method_3_code 34 = .ok (.return_, 1) := by decide +kernel
theorem dR_isSame_0 : decode prog_4_method_4_code 0 = .ok (.aload_n 0, 1) := by decide +kernel
theorem dR_isSame_1 : decode prog_4_method_4_code 1 = .ok (.getfield 15, 3) := by decide +kernel
theorem dR_isSame_4 : decode prog_4_method_4_code 4 = .ok (.aload_n 1, 1) := by decide +kernel
theorem dR_isSame_5 : decode prog_4_method_4_code 5 = .ok (.getfield 15, 3) := by decide +kernel
theorem dR_isSame_8 : decode prog_4_method_4_code 8 = .ok (.if_icmp .eq 5, 3) := by decide +kernel
theorem dR_isSame_11 : decode prog_4_method_4_code 11 = .ok (.iconst 0, 1) := by decide +kernel
theorem dR_isSame_12 : decode prog_4_method_4_code 12 = .ok (.ireturn, 1) := by decide +kernel
theorem dR_isSame_13 : decode prog_4_method_4_code 13 = .ok (.iconst 0, 1) := by decide +kernel
theorem dR_isSame_14 : decode prog_4_method_4_code 14 = .ok (.istore_n 2, 1) := by decide +kernel
theorem dR_isSame_15 : decode prog_4_method_4_code 15 = .ok (.iload_n 2, 1) := by decide +kernel
theorem dR_isSame_16 : decode prog_4_method_4_code 16 = .ok (.aload_n 0, 1) := by decide +kernel
theorem dR_isSame_17 : decode prog_4_method_4_code 17 = .ok (.getfield 15, 3) := by decide +kernel
theorem dR_isSame_20 : decode prog_4_method_4_code 20 = .ok (.if_icmp .ge 26, 3) := by decide +kernel
theorem dR_isSame_23 : decode prog_4_method_4_code 23 = .ok (.aload_n 0, 1) := by decide +kernel
theorem dR_isSame_24 : decode prog_4_method_4_code 24 = .ok (.getfield 9, 3) := by decide +kernel
theorem dR_isSame_27 : decode prog_4_method_4_code 27 = .ok (.iload_n 2, 1) := by decide +kernel
theorem dR_isSame_28 : decode prog_4_method_4_code 28 = .ok (.iaload, 1) := by decide +kernel
theorem dR_isSame_29 : decode prog_4_method_4_code 29 = .ok (.aload_n 1, 1) := by decide +kernel
theorem dR_isSame_30 : decode prog_4_method_4_code 30 = .ok (.getfield 9, 3) := by decide +kernel
theorem dR_isSame_33 : decode prog_4_method_4_code 33 = .ok (.iload_n 2, 1) := by decide +kernel
theorem dR_isSame_34 : decode prog_4_method_4_code 34 = .ok (.iaload, 1) := by decide +kernel
theorem dR_isSame_35 : decode prog_4_method_4_code 35 = .ok (.if_icmp .eq 5, 3) := by decide +kernel
theorem dR_isSame_38 : decode prog_4_method_4_code 38 = .ok (.iconst 0, 1) := by decide +kernel
theorem dR_isSame_39 : decode prog_4_method_4_code 39 = .ok (.ireturn, 1) := by decide +kernel
theorem dR_isSame_40 : decode prog_4_method_4_code 40 = .ok (.iinc 2 1, 3) := by decide +kernel
theorem dR_isSame_43 : decode prog_4_method_4_code 43 = .ok (.goto (-28), 3) := by decide +kernel
theorem dR_isSame_46 : decode prog_4_method_4_code 46 = .ok (.iconst 1, 1) := by decide +kernel
theorem dR_isSame_47 : decode prog_4_method_4_code 47 = .ok (.ireturn, 1) := by decide +kernel
theorem dR_clear_0 : decode prog_4_method_5_code 0 = .ok (.aload_n 0, 1) := by decide +kernel
theorem dR_clear_1 : decode prog_4_method_5_code 1 = .ok (.iconst 0, 1) := by decide +kernel
theorem dR_clear_2 : decode prog_4_method_5_code 2 = .ok (.putfield 15, 3) := by decide +kernel
theorem dR_clear_5 : decode prog_4_method_5_code 5 = .ok (.aload_n 0, 1) := by decide +kernel
theorem dR_clear_6 : decode prog_4_method_5_code 6 = .ok (.iload_n 1, 1) := by decide +kernel
theorem dR_clear_7 : decode prog_4_method_5_code 7 = .ok (.putfield 19, 3) := by decide +kernel
theorem dR_clear_10 : decode prog_4_method_5_code 10 = .ok (.aload_n 0, 1) := by decide +kernel
theorem dR_clear_11 : decode prog_4_method_5_code 11 = .ok (.iconst 0, 1) := by decide +kernel
theorem dR_clear_12 : decode prog_4_method_5_code 12 = .ok (.putfield 25, 3) := by decide +kernel
theorem dR_clear_15 : decode prog_4_method_5_code 15 = .ok (.iconst 0, 1) := by decide +kernel
theorem dR_clear_16 : decode prog_4_method_5_code 16 = .ok (.istore_n 2, 1) := by decide +kernel
theorem dR_clear_17 : decode prog_4_method_5_code 17 = .ok (.iload_n 2, 1) := by decide +kernel
theorem dR_clear_18 : decode prog_4_method_5_code 18 = .ok (.bipush 6, 2) := by decide +kernel
theorem dR_clear_20 : decode prog_4_method_5_code 20 = .ok (.if_icmp .ge 16, 3) := by decide +kernel
theorem dR_clear_23 : decode prog_4_method_5_code 23 = .ok (.aload_n 0, 1) := by decide +kernel
theorem dR_clear_24 : decode prog_4_method_5_code 24 = .ok (.getfield 22, 3) := by decide +kernel
theorem dR_clear_27 : decode prog_4_method_5_code 27 = .ok (.iload_n 2, 1) := by decide +kernel
theorem dR_clear_28 : decode prog_4_method_5_code 28 = .ok (.iconst (-1), 1) := by decide +kernel
theorem dR_clear_29 : decode prog_4_method_5_code 29 = .ok (.iastore, 1) := by decide +kernel
theorem dR_clear_30 : decode prog_4_method_5_code 30 = .ok (.iinc 2 1, 3) := by decide +kernel
theorem dR_clear_33 : decode prog_4_method_5_code 33 = .ok (.goto (-16), 3) := by decide +kernel
theorem dR_clear_36 : decode prog_4_method_5_code 36 = .ok (.return_, 1) := by decide +kernel
theorem dR_addArea_0 : decode prog_4_method_6_code 0 = .ok (.iload_n 3, 1) := by decide +kernel
theorem dR_addArea_1 : decode prog_4_method_6_code 1 = .ok (.bipush 12, 2) := by decide +kernel
theorem dR_addArea_3 : decode prog_4_method_6_code 3 = .ok (.if_icmp .le 4, 3) := by decide +kernel
theorem dR_addArea_6 : decode prog_4_method_6_code 6 = .ok (.return_, 1) := by decide +kernel
theorem dR_addArea_7 : decode prog_4_method_6_code 7 = .ok (.iconst 0, 1) := by decide +kernel
theorem dR_addArea_8 : decode prog_4_method_6_code 8 = .ok (.istore 4, 2) := by decide +kernel
theorem dR_addArea_10 : decode prog_4_method_6_code 10 = .ok (.iload 4, 2) := by decide +kernel
theorem dR_addArea_12 : decode prog_4_method_6_code 12 = .ok (.bipush 6, 2) := by decide +kernel
theorem dR_addArea_14 : decode prog_4_method_6_code 14 = .ok (.if_icmp .ge 27, 3) := by decide +kernel
theorem dR_addArea_17 : decode prog_4_method_6_code 17 = .ok (.aload_n 1, 1) := by decide +kernel
theorem dR_addArea_18 : decode prog_4_method_6_code 18 = .ok (.getfield 46, 3) := by decide +kernel
theorem dR_addArea_21 : decode prog_4_method_6_code 21 = .ok (.iload 4, 2) := by decide +kernel
theorem dR_addArea_23 : decode prog_4_method_6_code 23 = .ok (.iaload, 1) := by decide +kernel
theorem dR_addArea_24 : decode prog_4_method_6_code 24 = .ok (.iload_n 2, 1) := by decide +kernel
theorem dR_addArea_25 : decode prog_4_method_6_code 25 = .ok (.if_icmp .ne 10, 3) := by decide +kernel
theorem dR_addArea_28 : decode prog_4_method_6_code 28 = .ok (.aload_n 0, 1) := by decide +kernel
theorem dR_addArea_29 : decode prog_4_method_6_code 29 = .ok (.aload_n 1, 1) := by decide +kernel
theorem dR_addArea_30 : decode prog_4_method_6_code 30 = .ok (.iload 4, 2) := by decide +kernel
theorem dR_addArea_32 : decode prog_4_method_6_code 32 = .ok (.invokevirtual 49, 3) := by decide +kernel
theorem dR_addArea_35 : decode prog_4_method_6_code 35 = .ok (.iinc 4 1, 3) := by decide +kernel
theorem dR_addArea_38 : decode prog_4_method_6_code 38 = .ok (.goto (-28), 3) := by decide +kernel
theorem dR_addArea_41 : decode prog_4_method_6_code 41 = .ok (.iconst 0, 1) := by decide +kernel
theorem dR_addArea_42 : decode prog_4_method_6_code 42 = .ok (.istore 4, 2) := by decide +kernel
theorem dR_addArea_44 : decode prog_4_method_6_code 44 = .ok (.iload 4, 2) := by decide +kernel
theorem dR_addArea_46 : decode prog_4_method_6_code 46 = .ok (.bipush 12, 2) := by decide +kernel
theorem dR_addArea_48 : decode prog_4_method_6_code 48 = .ok (.if_icmp .ge 27, 3) := by decide +kernel
theorem dR_addArea_51 : decode prog_4_method_6_code 51 = .ok (.aload_n 1, 1) := by decide +kernel
theorem dR_addArea_52 : decode prog_4_method_6_code 52 = .ok (.getfield 52, 3) := by decide +kernel
theorem dR_addArea_55 : decode prog_4_method_6_code 55 = .ok (.iload 4, 2) := by decide +kernel
theorem dR_addArea_57 : decode prog_4_method_6_code 57 = .ok (.iaload, 1) := by decide +kernel
theorem dR_addArea_58 : decode prog_4_method_6_code 58 = .ok (.iload_n 2, 1) := by decide +kernel
theorem dR_addArea_59 : decode prog_4_method_6_code 59 = .ok (.if_icmp .ne 10, 3) := by decide +kernel
theorem dR_addArea_62 : decode prog_4_method_6_code 62 = .ok (.aload_n 0, 1) := by decide +kernel
theorem dR_addArea_63 : decode prog_4_method_6_code 63 = .ok (.aload_n 1, 1) := by decide +kernel
theorem dR_addArea_64 : decode prog_4_method_6_code 64 = .ok (.iload 4, 2) := by decide +kernel
theorem dR_addArea_66 : decode prog_4_method_6_code 66 = .ok (.invokevirtual 36, 3) := by decide +kernel
theorem dR_addArea_69 : decode prog_4_method_6_code 69 = .ok (.iinc 4 1, 3) := by decide +kernel
theorem dR_addArea_72 : decode prog_4_method_6_code 72 = .ok (.goto (-28), 3) := by decide +kernel
theorem dR_addArea_75 : decode prog_4_method_6_code 75 = .ok (.aload_n 0, 1) := by decide +kernel
theorem dR_addArea_76 : decode prog_4_method_6_code 76 = .ok (.aload_n 1, 1) := by decide +kernel
theorem dR_addArea_77 : decode prog_4_method_6_code 77 = .ok (.iload_n 2, 1) := by decide +kernel
theorem dR_addArea_78 : decode prog_4_method_6_code 78 = .ok (.iload_n 3, 1) := by decide +kernel
theorem dR_addArea_79 : decode prog_4_method_6_code 79 = .ok (.invokevirtual 55, 3) := by decide +kernel
theorem dR_addArea_82 : decode prog_4_method_6_code 82 = .ok (.return_, 1) := by decide +kernel
theorem dR_addCutsIn_0 : decode prog_4_method_7_code 0 = .ok (.iconst 1, 1) := by decide +kernel
theorem dR_addCutsIn_1 : decode prog_4_method_7_code 1 = .ok (.istore 4, 2) := by decide +kernel
theorem dR_addCutsIn_3 : decode prog_4_method_7_code 3 = .ok (.iload 4, 2) := by decide +kernel
theorem dR_addCutsIn_5 : decode prog_4_method_7_code 5 = .ok (.bipush 13, 2) := by decide +kernel
theorem dR_addCutsIn_7 : decode prog_4_method_7_code 7 = .ok (.if_icmp .ge 40, 3) := by decide +kernel
theorem dR_addCutsIn_10 : decode prog_4_method_7_code 10 = .ok (.aload_n 1, 1) := by decide +kernel
theorem dR_addCutsIn_11 : decode prog_4_method_7_code 11 = .ok (.getfield 58, 3) := by decide +kernel
theorem dR_addCutsIn_14 : decode prog_4_method_7_code 14 = .ok (.iload 4, 2) := by decide +kernel
theorem dR_addCutsIn_16 : decode prog_4_method_7_code 16 = .ok (.iaload, 1) := by decide +kernel
theorem dR_addCutsIn_17 : decode prog_4_method_7_code 17 = .ok (.iload_n 2, 1) := by decide +kernel
theorem dR_addCutsIn_18 : decode prog_4_method_7_code 18 = .ok (.if_icmp .ne 23, 3) := by decide +kernel
theorem dR_addCutsIn_21 : decode prog_4_method_7_code 21 = .ok (.aload_n 0, 1) := by decide +kernel
theorem dR_addCutsIn_22 : decode prog_4_method_7_code 22 = .ok (.iconst 1, 1) := by decide +kernel
theorem dR_addCutsIn_23 : decode prog_4_method_7_code 23 = .ok (.invokevirtual 61, 3) := by decide +kernel
theorem dR_addCutsIn_26 : decode prog_4_method_7_code 26 = .ok (.aload_n 0, 1) := by decide +kernel
theorem dR_addCutsIn_27 : decode prog_4_method_7_code 27 = .ok (.aload_n 1, 1) := by decide +kernel
theorem dR_addCutsIn_28 : decode prog_4_method_7_code 28 = .ok (.iload 4, 2) := by decide +kernel
theorem dR_addCutsIn_30 : decode prog_4_method_7_code 30 = .ok (.iload_n 3, 1) := by decide +kernel
theorem dR_addCutsIn_31 : decode prog_4_method_7_code 31 = .ok (.iconst 1, 1) := by decide +kernel
theorem dR_addCutsIn_32 : decode prog_4_method_7_code 32 = .ok (.iadd, 1) := by decide +kernel
theorem dR_addCutsIn_33 : decode prog_4_method_7_code 33 = .ok (.invokevirtual 32, 3) := by decide +kernel
theorem dR_addCutsIn_36 : decode prog_4_method_7_code 36 = .ok (.aload_n 0, 1) := by decide +kernel
theorem dR_addCutsIn_37 : decode prog_4_method_7_code 37 = .ok (.iconst 2, 1) := by decide +kernel
theorem dR_addCutsIn_38 : decode prog_4_method_7_code 38 = .ok (.invokevirtual 61, 3) := by decide +kernel
theorem dR_addCutsIn_41 : decode prog_4_method_7_code 41 = .ok (.iinc 4 1, 3) := by decide +kernel
theorem dR_addCutsIn_44 : decode prog_4_method_7_code 44 = .ok (.goto (-41), 3) := by decide +kernel
theorem dR_addCutsIn_47 : decode prog_4_method_7_code 47 = .ok (.return_, 1) := by decide +kernel
theorem dR_addSpot_0 : decode prog_4_method_8_code 0 = .ok (.aload_n 0, 1) := by decide +kernel
theorem dR_addSpot_1 : decode prog_4_method_8_code 1 = .ok (.bipush 10, 2) := by decide +kernel
theorem dR_addSpot_3 : decode prog_4_method_8_code 3 = .ok (.aload_n 1, 1) := by decide +kernel
theorem dR_addSpot_4 : decode prog_4_method_8_code 4 = .ok (.getfield 64, 3) := by decide +kernel
theorem dR_addSpot_7 : decode prog_4_method_8_code 7 = .ok (.iload_n 2, 1) := by decide +kernel
theorem dR_addSpot_8 : decode prog_4_method_8_code 8 = .ok (.iaload, 1) := by decide +kernel
theorem dR_addSpot_9 : decode prog_4_method_8_code 9 = .ok (.iadd, 1) := by decide +kernel
theorem dR_addSpot_10 : decode prog_4_method_8_code 10 = .ok (.invokevirtual 61, 3) := by decide +kernel
theorem dR_addSpot_13 : decode prog_4_method_8_code 13 = .ok (.iconst 0, 1) := by decide +kernel
theorem dR_addSpot_14 : decode prog_4_method_8_code 14 = .ok (.istore_n 3, 1) := by decide +kernel
theorem dR_addSpot_15 : decode prog_4_method_8_code 15 = .ok (.iload_n 3, 1) := by decide +kernel
theorem dR_addSpot_16 : decode prog_4_method_8_code 16 = .ok (.aload_n 1, 1) := by decide +kernel
theorem dR_addSpot_17 : decode prog_4_method_8_code 17 = .ok (.getfield 64, 3) := by decide +kernel
theorem dR_addSpot_20 : decode prog_4_method_8_code 20 = .ok (.iload_n 2, 1) := by decide +kernel
theorem dR_addSpot_21 : decode prog_4_method_8_code 21 = .ok (.iaload, 1) := by decide +kernel
theorem dR_addSpot_22 : decode prog_4_method_8_code 22 = .ok (.invokestatic 67, 3) := by decide +kernel
theorem dR_addSpot_25 : decode prog_4_method_8_code 25 = .ok (.if_icmp .ge 24, 3) := by decide +kernel
theorem dR_addSpot_28 : decode prog_4_method_8_code 28 = .ok (.aload_n 0, 1) := by decide +kernel
theorem dR_addSpot_29 : decode prog_4_method_8_code 29 = .ok (.aload_n 1, 1) := by decide +kernel
theorem dR_addSpot_30 : decode prog_4_method_8_code 30 = .ok (.aload_n 1, 1) := by decide +kernel
theorem dR_addSpot_31 : decode prog_4_method_8_code 31 = .ok (.getfield 70, 3) := by decide +kernel
theorem dR_addSpot_34 : decode prog_4_method_8_code 34 = .ok (.iconst 2, 1) := by decide +kernel
theorem dR_addSpot_35 : decode prog_4_method_8_code 35 = .ok (.iload_n 2, 1) := by decide +kernel
theorem dR_addSpot_36 : decode prog_4_method_8_code 36 = .ok (.imul, 1) := by decide +kernel
theorem dR_addSpot_37 : decode prog_4_method_8_code 37 = .ok (.iload_n 3, 1) := by decide +kernel
theorem dR_addSpot_38 : decode prog_4_method_8_code 38 = .ok (.iadd, 1) := by decide +kernel
theorem dR_addSpot_39 : decode prog_4_method_8_code 39 = .ok (.iaload, 1) := by decide +kernel
theorem dR_addSpot_40 : decode prog_4_method_8_code 40 = .ok (.invokevirtual 49, 3) := by decide +kernel
theorem dR_addSpot_43 : decode prog_4_method_8_code 43 = .ok (.iinc 3 1, 3) := by decide +kernel
theorem dR_addSpot_46 : decode prog_4_method_8_code 46 = .ok (.goto (-31), 3) := by decide +kernel
theorem dR_addSpot_49 : decode prog_4_method_8_code 49 = .ok (.return_, 1) := by decide +kernel
theorem dR_addLine_0 : decode prog_4_method_9_code 0 = .ok (.iload_n 2, 1) := by decide +kernel
theorem dR_addLine_1 : decode prog_4_method_9_code 1 = .ok (.iconst (-1), 1) := by decide +kernel
theorem dR_addLine_2 : decode prog_4_method_9_code 2 = .ok (.if_icmp .ne 7, 3) := by decide +kernel
theorem dR_addLine_5 : decode prog_4_method_9_code 5 = .ok (.iconst (-1), 1) := by decide +kernel
theorem dR_addLine_6 : decode prog_4_method_9_code 6 = .ok (.goto 9, 3) := by decide +kernel
theorem dR_addLine_9 : decode prog_4_method_9_code 9 = .ok (.aload_n 1, 1) := by decide +kernel
theorem dR_addLine_10 : decode prog_4_method_9_code 10 = .ok (.getfield 46, 3) := by decide +kernel
theorem dR_addLine_13 : decode prog_4_method_9_code 13 = .ok (.iload_n 2, 1) := by decide +kernel
theorem dR_addLine_14 : decode prog_4_method_9_code 14 = .ok (.iaload, 1) := by decide +kernel
theorem dR_addLine_15 : decode prog_4_method_9_code 15 = .ok (.istore_n 3, 1) := by decide +kernel
theorem dR_addLine_16 : decode prog_4_method_9_code 16 = .ok (.aload_n 0, 1) := by decide +kernel
theorem dR_addLine_17 : decode prog_4_method_9_code 17 = .ok (.getfield 19, 3) := by decide +kernel
theorem dR_addLine_20 : decode prog_4_method_9_code 20 = .ok (.iload_n 3, 1) := by decide +kernel
theorem dR_addLine_21 : decode prog_4_method_9_code 21 = .ok (.invokestatic 73, 3) := by decide +kernel
theorem dR_addLine_24 : decode prog_4_method_9_code 24 = .ok (.ifCond .ne 12, 3) := by decide +kernel
theorem dR_addLine_27 : decode prog_4_method_9_code 27 = .ok (.aload_n 0, 1) := by decide +kernel
theorem dR_addLine_28 : decode prog_4_method_9_code 28 = .ok (.bipush 100, 2) := by decide +kernel
theorem dR_addLine_30 : decode prog_4_method_9_code 30 = .ok (.iload_n 2, 1) := by decide +kernel
theorem dR_addLine_31 : decode prog_4_method_9_code 31 = .ok (.iadd, 1) := by decide +kernel
theorem dR_addLine_32 : decode prog_4_method_9_code 32 = .ok (.invokevirtual 61, 3) := by decide +kernel
theorem dR_addLine_35 : decode prog_4_method_9_code 35 = .ok (.return_, 1) := by decide +kernel
theorem dR_addLine_36 : decode prog_4_method_9_code 36 = .ok (.aload_n 0, 1) := by decide +kernel
theorem dR_addLine_37 : decode prog_4_method_9_code 37 = .ok (.getfield 22, 3) := by decide +kernel
theorem dR_addLine_40 : decode prog_4_method_9_code 40 = .ok (.iload_n 2, 1) := by decide +kernel
theorem dR_addLine_41 : decode prog_4_method_9_code 41 = .ok (.iaload, 1) := by decide +kernel
theorem dR_addLine_42 : decode prog_4_method_9_code 42 = .ok (.iconst (-1), 1) := by decide +kernel
theorem dR_addLine_43 : decode prog_4_method_9_code 43 = .ok (.if_icmp .ne 23, 3) := by decide +kernel
theorem dR_addLine_46 : decode prog_4_method_9_code 46 = .ok (.aload_n 0, 1) := by decide +kernel
theorem dR_addLine_47 : decode prog_4_method_9_code 47 = .ok (.getfield 22, 3) := by decide +kernel
theorem dR_addLine_50 : decode prog_4_method_9_code 50 = .ok (.iload_n 2, 1) := by decide +kernel
theorem dR_addLine_51 : decode prog_4_method_9_code 51 = .ok (.aload_n 0, 1) := by decide +kernel
theorem dR_addLine_52 : decode prog_4_method_9_code 52 = .ok (.getfield 25, 3) := by decide +kernel
theorem dR_addLine_55 : decode prog_4_method_9_code 55 = .ok (.iastore, 1) := by decide +kernel
theorem dR_addLine_56 : decode prog_4_method_9_code 56 = .ok (.aload_n 0, 1) := by decide +kernel
theorem dR_addLine_57 : decode prog_4_method_9_code 57 = .ok (.dup, 1) := by decide +kernel
theorem dR_addLine_58 : decode prog_4_method_9_code 58 = .ok (.getfield 25, 3) := by decide +kernel
theorem dR_addLine_61 : decode prog_4_method_9_code 61 = .ok (.iconst 1, 1) := by decide +kernel
theorem dR_addLine_62 : decode prog_4_method_9_code 62 = .ok (.iadd, 1) := by decide +kernel
theorem dR_addLine_63 : decode prog_4_method_9_code 63 = .ok (.putfield 25, 3) := by decide +kernel
theorem dR_addLine_66 : decode prog_4_method_9_code 66 = .ok (.aload_n 0, 1) := by decide +kernel
theorem dR_addLine_67 : decode prog_4_method_9_code 67 = .ok (.sipush 200, 3) := by decide +kernel
theorem dR_addLine_70 : decode prog_4_method_9_code 70 = .ok (.aload_n 0, 1) := by decide +kernel
theorem dR_addLine_71 : decode prog_4_method_9_code 71 = .ok (.getfield 22, 3) := by decide +kernel
theorem dR_addLine_74 : decode prog_4_method_9_code 74 = .ok (.iload_n 2, 1) := by decide +kernel
theorem dR_addLine_75 : decode prog_4_method_9_code 75 = .ok (.iaload, 1) := by decide +kernel
theorem dR_addLine_76 : decode prog_4_method_9_code 76 = .ok (.iadd, 1) := by decide +kernel
theorem dR_addLine_77 : decode prog_4_method_9_code 77 = .ok (.invokevirtual 61, 3) := by decide +kernel
theorem dR_addLine_80 : decode prog_4_method_9_code 80 = .ok (.return_, 1) := by decide +kernel
theorem dR_add_0 : decode prog_4_method_10_code 0 = .ok (.aload_n 0, 1) := by decide +kernel
theorem dR_add_1 : decode prog_4_method_10_code 1 = .ok (.getfield 15, 3) := by decide +kernel
theorem dR_add_4 : decode prog_4_method_10_code 4 = .ok (.aload_n 0, 1) := by decide +kernel
theorem dR_add_5 : decode prog_4_method_10_code 5 = .ok (.getfield 9, 3) := by decide +kernel
theorem dR_add_8 : decode prog_4_method_10_code 8 = .ok (.arraylength, 1) := by decide +kernel
theorem dR_add_9 : decode prog_4_method_10_code 9 = .ok (.if_icmp .ge 23, 3) := by decide +kernel
theorem dR_add_12 : decode prog_4_method_10_code 12 = .ok (.aload_n 0, 1) := by decide +kernel
theorem dR_add_13 : decode prog_4_method_10_code 13 = .ok (.getfield 9, 3) := by decide +kernel
theorem dR_add_16 : decode prog_4_method_10_code 16 = .ok (.aload_n 0, 1) := by decide +kernel
theorem dR_add_17 : decode prog_4_method_10_code 17 = .ok (.getfield 15, 3) := by decide +kernel
theorem dR_add_20 : decode prog_4_method_10_code 20 = .ok (.iload_n 1, 1) := by decide +kernel
theorem dR_add_21 : decode prog_4_method_10_code 21 = .ok (.iastore, 1) := by decide +kernel
theorem dR_add_22 : decode prog_4_method_10_code 22 = .ok (.aload_n 0, 1) := by decide +kernel
theorem dR_add_23 : decode prog_4_method_10_code 23 = .ok (.dup, 1) := by decide +kernel
theorem dR_add_24 : decode prog_4_method_10_code 24 = .ok (.getfield 15, 3) := by decide +kernel
theorem dR_add_27 : decode prog_4_method_10_code 27 = .ok (.iconst 1, 1) := by decide +kernel
theorem dR_add_28 : decode prog_4_method_10_code 28 = .ok (.iadd, 1) := by decide +kernel
theorem dR_add_29 : decode prog_4_method_10_code 29 = .ok (.putfield 15, 3) := by decide +kernel
theorem dR_add_32 : decode prog_4_method_10_code 32 = .ok (.return_, 1) := by decide +kernel
end
section
/-! printed by wip/whole/gen_names.py: decode rows -/
theorem dS_init_0 : decode prog_5_method_1_code 0 = .ok (.aload_n 0, 1) := by decide +kernel
theorem dS_init_1 : decode prog_5_method_1_code 1 = .ok (.invokespecial 3, 3) := by decide +kernel
theorem dS_init_4 : decode prog_5_method_1_code 4 = .ok (.aload_n 0, 1) := by decide +kernel
theorem dS_init_5 : decode prog_5_method_1_code 5 = .ok (.bipush 12, 2) := by decide +kernel
theorem dS_init_7 : decode prog_5_method_1_code 7 = .ok (.newarray .int, 2) := by decide +kernel
theorem dS_init_9 : decode prog_5_method_1_code 9 = .ok (.putfield 9, 3) := by decide +kernel
theorem dS_init_12 : decode prog_5_method_1_code 12 = .ok (.aload_n 0, 1) := by decide +kernel
theorem dS_init_13 : decode prog_5_method_1_code 13 = .ok (.bipush 13, 2) := by decide +kernel
theorem dS_init_15 : decode prog_5_method_1_code 15 = .ok (.newarray .int, 2) := by decide +kernel
theorem dS_init_17 : decode prog_5_method_1_code 17 = .ok (.putfield 15, 3) := by decide +kernel
theorem dS_init_20 : decode prog_5_method_1_code 20 = .ok (.aload_n 0, 1) := by decide +kernel
theorem dS_init_21 : decode prog_5_method_1_code 21 = .ok (.bipush 6, 2) := by decide +kernel
theorem dS_init_23 : decode prog_5_method_1_code 23 = .ok (.newarray .int, 2) := by decide +kernel
theorem dS_init_25 : decode prog_5_method_1_code 25 = .ok (.putfield 18, 3) := by decide +kernel
theorem dS_init_28 : decode prog_5_method_1_code 28 = .ok (.aload_n 0, 1) := by decide +kernel
theorem dS_init_29 : decode prog_5_method_1_code 29 = .ok (.bipush 12, 2) := by decide +kernel
theorem dS_init_31 : decode prog_5_method_1_code 31 = .ok (.newarray .int, 2) := by decide +kernel
theorem dS_init_33 : decode prog_5_method_1_code 33 = .ok (.putfield 21, 3) := by decide +kernel
theorem dS_init_36 : decode prog_5_method_1_code 36 = .ok (.aload_n 0, 1) := by decide +kernel
theorem dS_init_37 : decode prog_5_method_1_code 37 = .ok (.bipush 24, 2) := by decide +kernel
theorem dS_init_39 : decode prog_5_method_1_code 39 = .ok (.newarray .int, 2) := by decide +kernel
theorem dS_init_41 : decode prog_5_method_1_code 41 = .ok (.putfield 24, 3) := by decide +kernel
theorem dS_init_44 : decode prog_5_method_1_code 44 = .ok (.iconst 0, 1) := by decide +kernel
theorem dS_init_45 : decode prog_5_method_1_code 45 = .ok (.istore_n 1, 1) := by decide +kernel
theorem dS_init_46 : decode prog_5_method_1_code 46 = .ok (.iload_n 1, 1) := by decide +kernel
theorem dS_init_47 : decode prog_5_method_1_code 47 = .ok (.bipush 12, 2) := by decide +kernel
theorem dS_init_49 : decode prog_5_method_1_code 49 = .ok (.if_icmp .ge 16, 3) := by decide +kernel
theorem dS_init_52 : decode prog_5_method_1_code 52 = .ok (.aload_n 0, 1) := by decide +kernel
theorem dS_init_53 : decode prog_5_method_1_code 53 = .ok (.getfield 9, 3) := by decide +kernel
theorem dS_init_56 : decode prog_5_method_1_code 56 = .ok (.iload_n 1, 1) := by decide +kernel
theorem dS_init_57 : decode prog_5_method_1_code 57 = .ok (.iconst (-1), 1) := by decide +kernel
theorem dS_init_58 : decode prog_5_method_1_code 58 = .ok (.iastore, 1) := by decide +kernel
theorem dS_init_59 : decode prog_5_method_1_code 59 = .ok (.iinc 1 1, 3) := by decide +kernel
theorem dS_init_62 : decode prog_5_method_1_code 62 = .ok (.goto (-16), 3) := by decide +kernel
theorem dS_init_65 : decode prog_5_method_1_code 65 = .ok (.iconst 0, 1) := by decide +kernel
theorem dS_init_66 : decode prog_5_method_1_code 66 = .ok (.istore_n 1, 1) := by decide +kernel
theorem dS_init_67 : decode prog_5_method_1_code 67 = .ok (.iload_n 1, 1) := by decide +kernel
theorem dS_init_68 : decode prog_5_method_1_code 68 = .ok (.bipush 13, 2) := by decide +kernel
theorem dS_init_70 : decode prog_5_method_1_code 70 = .ok (.if_icmp .ge 16, 3) := by decide +kernel
theorem dS_init_73 : decode prog_5_method_1_code 73 = .ok (.aload_n 0, 1) := by decide +kernel
theorem dS_init_74 : decode prog_5_method_1_code 74 = .ok (.getfield 15, 3) := by decide +kernel
theorem dS_init_77 : decode prog_5_method_1_code 77 = .ok (.iload_n 1, 1) := by decide +kernel
theorem dS_init_78 : decode prog_5_method_1_code 78 = .ok (.iconst (-1), 1) := by decide +kernel
theorem dS_init_79 : decode prog_5_method_1_code 79 = .ok (.iastore, 1) := by decide +kernel
theorem dS_init_80 : decode prog_5_method_1_code 80 = .ok (.iinc 1 1, 3) := by decide +kernel
theorem dS_init_83 : decode prog_5_method_1_code 83 = .ok (.goto (-16), 3) := by decide +kernel
theorem dS_init_86 : decode prog_5_method_1_code 86 = .ok (.iconst 0, 1) := by decide +kernel
theorem dS_init_87 : decode prog_5_method_1_code 87 = .ok (.istore_n 1, 1) := by decide +kernel
theorem dS_init_88 : decode prog_5_method_1_code 88 = .ok (.iload_n 1, 1) := by decide +kernel
theorem dS_init_89 : decode prog_5_method_1_code 89 = .ok (.bipush 6, 2) := by decide +kernel
theorem dS_init_91 : decode prog_5_method_1_code 91 = .ok (.if_icmp .ge 16, 3) := by decide +kernel
theorem dS_init_94 : decode prog_5_method_1_code 94 = .ok (.aload_n 0, 1) := by decide +kernel
theorem dS_init_95 : decode prog_5_method_1_code 95 = .ok (.getfield 18, 3) := by decide +kernel
theorem dS_init_98 : decode prog_5_method_1_code 98 = .ok (.iload_n 1, 1) := by decide +kernel
theorem dS_init_99 : decode prog_5_method_1_code 99 = .ok (.iconst (-1), 1) := by decide +kernel
theorem dS_init_100 : decode prog_5_method_1_code 100 = .ok (.iastore, 1) := by decide +kernel
theorem dS_init_101 : decode prog_5_method_1_code 101 = .ok (.iinc 1 1, 3) := by decide +kernel
theorem dS_init_104 : decode prog_5_method_1_code 104 = .ok (.goto (-16), 3) := by decide +kernel
theorem dS_init_107 : decode prog_5_method_1_code 107 = .ok (.return_, 1) := by decide +kernel
theorem dS_takeOver_0 : decode prog_5_method_2_code 0 = .ok (.aload_n 1, 1) := by decide +kernel
theorem dS_takeOver_1 : decode prog_5_method_2_code 1 = .ok (.getfield 9, 3) := by decide +kernel
theorem dS_takeOver_4 : decode prog_5_method_2_code 4 = .ok (.iconst 0, 1) := by decide +kernel
theorem dS_takeOver_5 : decode prog_5_method_2_code 5 = .ok (.aload_n 0, 1) := by decide +kernel
theorem dS_takeOver_6 : decode prog_5_method_2_code 6 = .ok (.getfield 9, 3) := by decide +kernel
theorem dS_takeOver_9 : decode prog_5_method_2_code 9 = .ok (.iconst 0, 1) := by decide +kernel
theorem dS_takeOver_10 : decode prog_5_method_2_code 10 = .ok (.bipush 12, 2) := by decide +kernel
theorem dS_takeOver_12 : decode prog_5_method_2_code 12 = .ok (.invokestatic 27, 3) := by decide +kernel
theorem dS_takeOver_15 : decode prog_5_method_2_code 15 = .ok (.aload_n 1, 1) := by decide +kernel
theorem dS_takeOver_16 : decode prog_5_method_2_code 16 = .ok (.getfield 15, 3) := by decide +kernel
theorem dS_takeOver_19 : decode prog_5_method_2_code 19 = .ok (.iconst 0, 1) := by decide +kernel
theorem dS_takeOver_20 : decode prog_5_method_2_code 20 = .ok (.aload_n 0, 1) := by decide +kernel
theorem dS_takeOver_21 : decode prog_5_method_2_code 21 = .ok (.getfield 15, 3) := by decide +kernel
theorem dS_takeOver_24 : decode prog_5_method_2_code 24 = .ok (.iconst 0, 1) := by decide +kernel
theorem dS_takeOver_25 : decode prog_5_method_2_code 25 = .ok (.bipush 13, 2) := by decide +kernel
theorem dS_takeOver_27 : decode prog_5_method_2_code 27 = .ok (.invokestatic 27, 3) := by decide +kernel
theorem dS_takeOver_30 : decode prog_5_method_2_code 30 = .ok (.aload_n 1, 1) := by decide +kernel
theorem dS_takeOver_31 : decode prog_5_method_2_code 31 = .ok (.getfield 18, 3) := by decide +kernel
theorem dS_takeOver_34 : decode prog_5_method_2_code 34 = .ok (.iconst 0, 1) := by decide +kernel
theorem dS_takeOver_35 : decode prog_5_method_2_code 35 = .ok (.aload_n 0, 1) := by decide +kernel
theorem dS_takeOver_36 : decode prog_5_method_2_code 36 = .ok (.getfield 18, 3) := by decide +kernel
theorem dS_takeOver_39 : decode prog_5_method_2_code 39 = .ok (.iconst 0, 1) := by decide +kernel
theorem dS_takeOver_40 : decode prog_5_method_2_code 40 = .ok (.bipush 6, 2) := by decide +kernel
theorem dS_takeOver_42 : decode prog_5_method_2_code 42 = .ok (.invokestatic 27, 3) := by decide +kernel
theorem dS_takeOver_45 : decode prog_5_method_2_code 45 = .ok (.aload_n 1, 1) := by decide +kernel
theorem dS_takeOver_46 : decode prog_5_method_2_code 46 = .ok (.getfield 21, 3) := by decide +kernel
theorem dS_takeOver_49 : decode prog_5_method_2_code 49 = .ok (.iconst 0, 1) := by decide +kernel
theorem dS_takeOver_50 : decode prog_5_method_2_code 50 = .ok (.aload_n 0, 1) := by decide +kernel
theorem dS_takeOver_51 : decode prog_5_method_2_code 51 = .ok (.getfield 21, 3) := by decide +kernel
theorem dS_takeOver_54 : decode prog_5_method_2_code 54 = .ok (.iconst 0, 1) := by decide +kernel
theorem dS_takeOver_55 : decode prog_5_method_2_code 55 = .ok (.bipush 12, 2) := by decide +kernel
theorem dS_takeOver_57 : decode prog_5_method_2_code 57 = .ok (.invokestatic 27, 3) := by decide +kernel
theorem dS_takeOver_60 : decode prog_5_method_2_code 60 = .ok (.aload_n 1, 1) := by decide +kernel
theorem dS_takeOver_61 : decode prog_5_method_2_code 61 = .ok (.getfield 24, 3) := by decide +kernel
theorem dS_takeOver_64 : decode prog_5_method_2_code 64 = .ok (.iconst 0, 1) := by decide +kernel
theorem dS_takeOver_65 : decode prog_5_method_2_code 65 = .ok (.aload_n 0, 1) := by decide +kernel
theorem dS_takeOver_66 : decode prog_5_method_2_code 66 = .ok (.getfield 24, 3) := by decide +kernel
theorem dS_takeOver_69 : decode prog_5_method_2_code 69 = .ok (.iconst 0, 1) := by decide +kernel
theorem dS_takeOver_70 : decode prog_5_method_2_code 70 = .ok (.bipush 24, 2) := by decide +kernel
theorem dS_takeOver_72 : decode prog_5_method_2_code 72 = .ok (.invokestatic 27, 3) := by decide +kernel
theorem dS_takeOver_75 : decode prog_5_method_2_code 75 = .ok (.return_, 1) := by decide +kernel
theorem dS_areas_0 : decode prog_5_method_3_code 0 = .ok (.iload_n 1, 1) := by decide +kernel
theorem dS_areas_1 : decode prog_5_method_3_code 1 = .ok (.ifCond .ne 8, 3) := by decide +kernel
theorem dS_areas_4 : decode prog_5_method_3_code 4 = .ok (.aload_n 0, 1) := by decide +kernel
theorem dS_areas_5 : decode prog_5_method_3_code 5 = .ok (.getfield 9, 3) := by decide +kernel
theorem dS_areas_8 : decode prog_5_method_3_code 8 = .ok (.areturn, 1) := by decide +kernel
theorem dS_areas_9 : decode prog_5_method_3_code 9 = .ok (.iload_n 1, 1) := by decide +kernel
theorem dS_areas_10 : decode prog_5_method_3_code 10 = .ok (.iconst 1, 1) := by decide +kernel
theorem dS_areas_11 : decode prog_5_method_3_code 11 = .ok (.if_icmp .ne 10, 3) := by decide +kernel
theorem dS_areas_14 : decode prog_5_method_3_code 14 = .ok (.aload_n 0, 1) := by decide +kernel
theorem dS_areas_15 : decode prog_5_method_3_code 15 = .ok (.getfield 15, 3) := by decide +kernel
theorem dS_areas_18 : decode prog_5_method_3_code 18 = .ok (.goto 7, 3) := by decide +kernel
theorem dS_areas_21 : decode prog_5_method_3_code 21 = .ok (.aload_n 0, 1) := by decide +kernel
theorem dS_areas_22 : decode prog_5_method_3_code 22 = .ok (.getfield 18, 3) := by decide +kernel
theorem dS_areas_25 : decode prog_5_method_3_code 25 = .ok (.areturn, 1) := by decide +kernel
theorem dS_leastNumber_0 : decode prog_5_method_4_code 0 = .ok (.iload_n 1, 1) := by decide +kernel
theorem dS_leastNumber_1 : decode prog_5_method_4_code 1 = .ok (.iconst 1, 1) := by decide +kernel
theorem dS_leastNumber_2 : decode prog_5_method_4_code 2 = .ok (.if_icmp .ne 7, 3) := by decide +kernel
theorem dS_leastNumber_5 : decode prog_5_method_4_code 5 = .ok (.iconst 1, 1) := by decide +kernel
theorem dS_leastNumber_6 : decode prog_5_method_4_code 6 = .ok (.goto 4, 3) := by decide +kernel
theorem dS_leastNumber_9 : decode prog_5_method_4_code 9 = .ok (.iconst 0, 1) := by decide +kernel
theorem dS_leastNumber_10 : decode prog_5_method_4_code 10 = .ok (.ireturn, 1) := by decide +kernel
theorem dS_has_0 : decode prog_5_method_5_code 0 = .ok (.iload_n 1, 1) := by decide +kernel
theorem dS_has_1 : decode prog_5_method_5_code 1 = .ok (.ifCond .lt 37, 3) := by decide +kernel
theorem dS_has_4 : decode prog_5_method_5_code 4 = .ok (.iload_n 1, 1) := by decide +kernel
theorem dS_has_5 : decode prog_5_method_5_code 5 = .ok (.iconst 3, 1) := by decide +kernel
theorem dS_has_6 : decode prog_5_method_5_code 6 = .ok (.if_icmp .ge 32, 3) := by decide +kernel
theorem dS_has_9 : decode prog_5_method_5_code 9 = .ok (.iload_n 2, 1) := by decide +kernel
theorem dS_has_10 : decode prog_5_method_5_code 10 = .ok (.ifCond .lt 28, 3) := by decide +kernel
theorem dS_has_13 : decode prog_5_method_5_code 13 = .ok (.iload_n 2, 1) := by decide +kernel
theorem dS_has_14 : decode prog_5_method_5_code 14 = .ok (.aload_n 0, 1) := by decide +kernel
theorem dS_has_15 : decode prog_5_method_5_code 15 = .ok (.iload_n 1, 1) := by decide +kernel
theorem dS_has_16 : decode prog_5_method_5_code 16 = .ok (.invokevirtual 33, 3) := by decide +kernel
theorem dS_has_19 : decode prog_5_method_5_code 19 = .ok (.arraylength, 1) := by decide +kernel
theorem dS_has_20 : decode prog_5_method_5_code 20 = .ok (.if_icmp .ge 18, 3) := by decide +kernel
theorem dS_has_23 : decode prog_5_method_5_code 23 = .ok (.aload_n 0, 1) := by decide +kernel
theorem dS_has_24 : decode prog_5_method_5_code 24 = .ok (.iload_n 1, 1) := by decide +kernel
theorem dS_has_25 : decode prog_5_method_5_code 25 = .ok (.invokevirtual 33, 3) := by decide +kernel
theorem dS_has_28 : decode prog_5_method_5_code 28 = .ok (.iload_n 2, 1) := by decide +kernel
theorem dS_has_29 : decode prog_5_method_5_code 29 = .ok (.iaload, 1) := by decide +kernel
theorem dS_has_30 : decode prog_5_method_5_code 30 = .ok (.iconst (-1), 1) := by decide +kernel
theorem dS_has_31 : decode prog_5_method_5_code 31 = .ok (.if_icmp .eq 7, 3) := by decide +kernel
theorem dS_has_34 : decode prog_5_method_5_code 34 = .ok (.iconst 1, 1) := by decide +kernel
theorem dS_has_35 : decode prog_5_method_5_code 35 = .ok (.goto 4, 3) := by decide +kernel
theorem dS_has_38 : decode prog_5_method_5_code 38 = .ok (.iconst 0, 1) := by decide +kernel
theorem dS_has_39 : decode prog_5_method_5_code 39 = .ok (.ireturn, 1) := by decide +kernel
theorem dS_hasPart_0 : decode prog_5_method_6_code 0 = .ok (.iload_n 1, 1) := by decide +kernel
theorem dS_hasPart_1 : decode prog_5_method_6_code 1 = .ok (.iconst 2, 1) := by decide +kernel
theorem dS_hasPart_2 : decode prog_5_method_6_code 2 = .ok (.if_icmp .eq 16, 3) := by decide +kernel
theorem dS_hasPart_5 : decode prog_5_method_6_code 5 = .ok (.aload_n 0, 1) := by decide +kernel
theorem dS_hasPart_6 : decode prog_5_method_6_code 6 = .ok (.iload_n 1, 1) := by decide +kernel
theorem dS_hasPart_7 : decode prog_5_method_6_code 7 = .ok (.iload_n 2, 1) := by decide +kernel
theorem dS_hasPart_8 : decode prog_5_method_6_code 8 = .ok (.invokevirtual 37, 3) := by decide +kernel
theorem dS_hasPart_11 : decode prog_5_method_6_code 11 = .ok (.ifCond .eq 7, 3) := by decide +kernel
theorem dS_hasPart_14 : decode prog_5_method_6_code 14 = .ok (.iconst 1, 1) := by decide +kernel
theorem dS_hasPart_15 : decode prog_5_method_6_code 15 = .ok (.goto 4, 3) := by decide +kernel
theorem dS_hasPart_18 : decode prog_5_method_6_code 18 = .ok (.iconst 0, 1) := by decide +kernel
theorem dS_hasPart_19 : decode prog_5_method_6_code 19 = .ok (.ireturn, 1) := by decide +kernel
theorem dS_hasArea_0 : decode prog_5_method_7_code 0 = .ok (.iload_n 1, 1) := by decide +kernel
theorem dS_hasArea_1 : decode prog_5_method_7_code 1 = .ok (.ifCond .eq 12, 3) := by decide +kernel
theorem dS_hasArea_4 : decode prog_5_method_7_code 4 = .ok (.aload_n 0, 1) := by decide +kernel
theorem dS_hasArea_5 : decode prog_5_method_7_code 5 = .ok (.iconst 1, 1) := by decide +kernel
theorem dS_hasArea_6 : decode prog_5_method_7_code 6 = .ok (.iload_n 1, 1) := by decide +kernel
theorem dS_hasArea_7 : decode prog_5_method_7_code 7 = .ok (.invokevirtual 37, 3) := by decide +kernel
theorem dS_hasArea_10 : decode prog_5_method_7_code 10 = .ok (.ifCond .eq 7, 3) := by decide +kernel
theorem dS_hasArea_13 : decode prog_5_method_7_code 13 = .ok (.iconst 1, 1) := by decide +kernel
theorem dS_hasArea_14 : decode prog_5_method_7_code 14 = .ok (.goto 4, 3) := by decide +kernel
theorem dS_hasArea_17 : decode prog_5_method_7_code 17 = .ok (.iconst 0, 1) := by decide +kernel
theorem dS_hasArea_18 : decode prog_5_method_7_code 18 = .ok (.ireturn, 1) := by decide +kernel
theorem dS_areaOf_0 : decode prog_5_method_8_code 0 = .ok (.aload_n 0, 1) := by decide +kernel
theorem dS_areaOf_1 : decode prog_5_method_8_code 1 = .ok (.iload_n 1, 1) := by decide +kernel
theorem dS_areaOf_2 : decode prog_5_method_8_code 2 = .ok (.iload_n 2, 1) := by decide +kernel
theorem dS_areaOf_3 : decode prog_5_method_8_code 3 = .ok (.invokevirtual 37, 3) := by decide +kernel
theorem dS_areaOf_6 : decode prog_5_method_8_code 6 = .ok (.ifCond .eq 13, 3) := by decide +kernel
theorem dS_areaOf_9 : decode prog_5_method_8_code 9 = .ok (.aload_n 0, 1) := by decide +kernel
theorem dS_areaOf_10 : decode prog_5_method_8_code 10 = .ok (.iload_n 1, 1) := by decide +kernel
theorem dS_areaOf_11 : decode prog_5_method_8_code 11 = .ok (.invokevirtual 33, 3) := by decide +kernel
theorem dS_areaOf_14 : decode prog_5_method_8_code 14 = .ok (.iload_n 2, 1) := by decide +kernel
theorem dS_areaOf_15 : decode prog_5_method_8_code 15 = .ok (.iaload, 1) := by decide +kernel
theorem dS_areaOf_16 : decode prog_5_method_8_code 16 = .ok (.goto 4, 3) := by decide +kernel
theorem dS_areaOf_19 : decode prog_5_method_8_code 19 = .ok (.iconst (-1), 1) := by decide +kernel
theorem dS_areaOf_20 : decode prog_5_method_8_code 20 = .ok (.ireturn, 1) := by decide +kernel
theorem dS_howMany_0 : decode prog_5_method_9_code 0 = .ok (.aload_n 0, 1) := by decide +kernel
theorem dS_howMany_1 : decode prog_5_method_9_code 1 = .ok (.iload_n 1, 1) := by decide +kernel
theorem dS_howMany_2 : decode prog_5_method_9_code 2 = .ok (.sipush 8191, 3) := by decide +kernel
theorem dS_howMany_5 : decode prog_5_method_9_code 5 = .ok (.invokevirtual 41, 3) := by decide +kernel
theorem dS_howMany_8 : decode prog_5_method_9_code 8 = .ok (.ireturn, 1) := by decide +kernel
theorem dS_free_0 : decode prog_5_method_10_code 0 = .ok (.aload_n 0, 1) := by decide +kernel
theorem dS_free_1 : decode prog_5_method_10_code 1 = .ok (.iload_n 1, 1) := by decide +kernel
theorem dS_free_2 : decode prog_5_method_10_code 2 = .ok (.invokevirtual 33, 3) := by decide +kernel
theorem dS_free_5 : decode prog_5_method_10_code 5 = .ok (.arraylength, 1) := by decide +kernel
theorem dS_free_6 : decode prog_5_method_10_code 6 = .ok (.aload_n 0, 1) := by decide +kernel
theorem dS_free_7 : decode prog_5_method_10_code 7 = .ok (.iload_n 1, 1) := by decide +kernel
theorem dS_free_8 : decode prog_5_method_10_code 8 = .ok (.invokevirtual 45, 3) := by decide +kernel
theorem dS_free_11 : decode prog_5_method_10_code 11 = .ok (.isub, 1) := by decide +kernel
theorem dS_free_12 : decode prog_5_method_10_code 12 = .ok (.aload_n 0, 1) := by decide +kernel
theorem dS_free_13 : decode prog_5_method_10_code 13 = .ok (.iload_n 1, 1) := by decide +kernel
theorem dS_free_14 : decode prog_5_method_10_code 14 = .ok (.invokevirtual 49, 3) := by decide +kernel
theorem dS_free_17 : decode prog_5_method_10_code 17 = .ok (.isub, 1) := by decide +kernel
theorem dS_free_18 : decode prog_5_method_10_code 18 = .ok (.ireturn, 1) := by decide +kernel
theorem dS_howManyIn_0 : decode prog_5_method_11_code 0 = .ok (.iconst 0, 1) := by decide +kernel
theorem dS_howManyIn_1 : decode prog_5_method_11_code 1 = .ok (.istore_n 3, 1) := by decide +kernel
theorem dS_howManyIn_2 : decode prog_5_method_11_code 2 = .ok (.iconst 0, 1) := by decide +kernel
theorem dS_howManyIn_3 : decode prog_5_method_11_code 3 = .ok (.istore 4, 2) := by decide +kernel
theorem dS_howManyIn_5 : decode prog_5_method_11_code 5 = .ok (.iload 4, 2) := by decide +kernel
theorem dS_howManyIn_7 : decode prog_5_method_11_code 7 = .ok (.aload_n 0, 1) := by decide +kernel
theorem dS_howManyIn_8 : decode prog_5_method_11_code 8 = .ok (.iload_n 1, 1) := by decide +kernel
theorem dS_howManyIn_9 : decode prog_5_method_11_code 9 = .ok (.invokevirtual 33, 3) := by decide +kernel
theorem dS_howManyIn_12 : decode prog_5_method_11_code 12 = .ok (.arraylength, 1) := by decide +kernel
theorem dS_howManyIn_13 : decode prog_5_method_11_code 13 = .ok (.if_icmp .ge 27, 3) := by decide +kernel
theorem dS_howManyIn_16 : decode prog_5_method_11_code 16 = .ok (.iload_n 2, 1) := by decide +kernel
theorem dS_howManyIn_17 : decode prog_5_method_11_code 17 = .ok (.aload_n 0, 1) := by decide +kernel
theorem dS_howManyIn_18 : decode prog_5_method_11_code 18 = .ok (.iload_n 1, 1) := by decide +kernel
theorem dS_howManyIn_19 : decode prog_5_method_11_code 19 = .ok (.invokevirtual 33, 3) := by decide +kernel
theorem dS_howManyIn_22 : decode prog_5_method_11_code 22 = .ok (.iload 4, 2) := by decide +kernel
theorem dS_howManyIn_24 : decode prog_5_method_11_code 24 = .ok (.iaload, 1) := by decide +kernel
theorem dS_howManyIn_25 : decode prog_5_method_11_code 25 = .ok (.invokestatic 52, 3) := by decide +kernel
theorem dS_howManyIn_28 : decode prog_5_method_11_code 28 = .ok (.ifCond .eq 6, 3) := by decide +kernel
theorem dS_howManyIn_31 : decode prog_5_method_11_code 31 = .ok (.iinc 3 1, 3) := by decide +kernel
theorem dS_howManyIn_34 : decode prog_5_method_11_code 34 = .ok (.iinc 4 1, 3) := by decide +kernel
theorem dS_howManyIn_37 : decode prog_5_method_11_code 37 = .ok (.goto (-32), 3) := by decide +kernel
theorem dS_howManyIn_40 : decode prog_5_method_11_code 40 = .ok (.iload_n 3, 1) := by decide +kernel
theorem dS_howManyIn_41 : decode prog_5_method_11_code 41 = .ok (.ireturn, 1) := by decide +kernel
theorem dS_depthOf_0 : decode prog_5_method_12_code 0 = .ok (.iconst 0, 1) := by decide +kernel
theorem dS_depthOf_1 : decode prog_5_method_12_code 1 = .ok (.istore_n 2, 1) := by decide +kernel
theorem dS_depthOf_2 : decode prog_5_method_12_code 2 = .ok (.aload_n 0, 1) := by decide +kernel
theorem dS_depthOf_3 : decode prog_5_method_12_code 3 = .ok (.iconst 1, 1) := by decide +kernel
theorem dS_depthOf_4 : decode prog_5_method_12_code 4 = .ok (.iload_n 1, 1) := by decide +kernel
theorem dS_depthOf_5 : decode prog_5_method_12_code 5 = .ok (.invokevirtual 55, 3) := by decide +kernel
theorem dS_depthOf_8 : decode prog_5_method_12_code 8 = .ok (.istore_n 3, 1) := by decide +kernel
theorem dS_depthOf_9 : decode prog_5_method_12_code 9 = .ok (.iload_n 3, 1) := by decide +kernel
theorem dS_depthOf_10 : decode prog_5_method_12_code 10 = .ok (.iconst (-1), 1) := by decide +kernel
theorem dS_depthOf_11 : decode prog_5_method_12_code 11 = .ok (.if_icmp .eq 22, 3) := by decide +kernel
theorem dS_depthOf_14 : decode prog_5_method_12_code 14 = .ok (.iload_n 2, 1) := by decide +kernel
theorem dS_depthOf_15 : decode prog_5_method_12_code 15 = .ok (.bipush 12, 2) := by decide +kernel
theorem dS_depthOf_17 : decode prog_5_method_12_code 17 = .ok (.if_icmp .ge 16, 3) := by decide +kernel
theorem dS_depthOf_20 : decode prog_5_method_12_code 20 = .ok (.iinc 2 1, 3) := by decide +kernel
theorem dS_depthOf_23 : decode prog_5_method_12_code 23 = .ok (.aload_n 0, 1) := by decide +kernel
theorem dS_depthOf_24 : decode prog_5_method_12_code 24 = .ok (.getfield 15, 3) := by decide +kernel
theorem dS_depthOf_27 : decode prog_5_method_12_code 27 = .ok (.iload_n 3, 1) := by decide +kernel
theorem dS_depthOf_28 : decode prog_5_method_12_code 28 = .ok (.iaload, 1) := by decide +kernel
theorem dS_depthOf_29 : decode prog_5_method_12_code 29 = .ok (.istore_n 3, 1) := by decide +kernel
theorem dS_depthOf_30 : decode prog_5_method_12_code 30 = .ok (.goto (-21), 3) := by decide +kernel
theorem dS_depthOf_33 : decode prog_5_method_12_code 33 = .ok (.iload_n 2, 1) := by decide +kernel
theorem dS_depthOf_34 : decode prog_5_method_12_code 34 = .ok (.ireturn, 1) := by decide +kernel
theorem dS_isOdd_0 : decode prog_5_method_13_code 0 = .ok (.aload_n 0, 1) := by decide +kernel
theorem dS_isOdd_1 : decode prog_5_method_13_code 1 = .ok (.iload_n 1, 1) := by decide +kernel
theorem dS_isOdd_2 : decode prog_5_method_13_code 2 = .ok (.invokevirtual 58, 3) := by decide +kernel
theorem dS_isOdd_5 : decode prog_5_method_13_code 5 = .ok (.iconst 2, 1) := by decide +kernel
theorem dS_isOdd_6 : decode prog_5_method_13_code 6 = .ok (.irem, 1) := by decide +kernel
theorem dS_isOdd_7 : decode prog_5_method_13_code 7 = .ok (.iconst 1, 1) := by decide +kernel
theorem dS_isOdd_8 : decode prog_5_method_13_code 8 = .ok (.if_icmp .ne 7, 3) := by decide +kernel
theorem dS_isOdd_11 : decode prog_5_method_13_code 11 = .ok (.iconst 1, 1) := by decide +kernel
theorem dS_isOdd_12 : decode prog_5_method_13_code 12 = .ok (.goto 4, 3) := by decide +kernel
theorem dS_isOdd_15 : decode prog_5_method_13_code 15 = .ok (.iconst 0, 1) := by decide +kernel
theorem dS_isOdd_16 : decode prog_5_method_13_code 16 = .ok (.ireturn, 1) := by decide +kernel
theorem dS_isWithin_0 : decode prog_5_method_14_code 0 = .ok (.iload_n 1, 1) := by decide +kernel
theorem dS_isWithin_1 : decode prog_5_method_14_code 1 = .ok (.istore_n 3, 1) := by decide +kernel
theorem dS_isWithin_2 : decode prog_5_method_14_code 2 = .ok (.iconst 0, 1) := by decide +kernel
theorem dS_isWithin_3 : decode prog_5_method_14_code 3 = .ok (.istore 4, 2) := by decide +kernel
theorem dS_isWithin_5 : decode prog_5_method_14_code 5 = .ok (.iload 4, 2) := by decide +kernel
theorem dS_isWithin_7 : decode prog_5_method_14_code 7 = .ok (.bipush 13, 2) := by decide +kernel
theorem dS_isWithin_9 : decode prog_5_method_14_code 9 = .ok (.if_icmp .ge 28, 3) := by decide +kernel
theorem dS_isWithin_12 : decode prog_5_method_14_code 12 = .ok (.iload_n 3, 1) := by decide +kernel
theorem dS_isWithin_13 : decode prog_5_method_14_code 13 = .ok (.iconst (-1), 1) := by decide +kernel
theorem dS_isWithin_14 : decode prog_5_method_14_code 14 = .ok (.if_icmp .eq 23, 3) := by decide +kernel
theorem dS_isWithin_17 : decode prog_5_method_14_code 17 = .ok (.iload_n 3, 1) := by decide +kernel
theorem dS_isWithin_18 : decode prog_5_method_14_code 18 = .ok (.iload_n 2, 1) := by decide +kernel
theorem dS_isWithin_19 : decode prog_5_method_14_code 19 = .ok (.if_icmp .ne 5, 3) := by decide +kernel
theorem dS_isWithin_22 : decode prog_5_method_14_code 22 = .ok (.iconst 1, 1) := by decide +kernel
theorem dS_isWithin_23 : decode prog_5_method_14_code 23 = .ok (.ireturn, 1) := by decide +kernel
theorem dS_isWithin_24 : decode prog_5_method_14_code 24 = .ok (.aload_n 0, 1) := by decide +kernel
theorem dS_isWithin_25 : decode prog_5_method_14_code 25 = .ok (.getfield 15, 3) := by decide +kernel
theorem dS_isWithin_28 : decode prog_5_method_14_code 28 = .ok (.iload_n 3, 1) := by decide +kernel
theorem dS_isWithin_29 : decode prog_5_method_14_code 29 = .ok (.iaload, 1) := by decide +kernel
theorem dS_isWithin_30 : decode prog_5_method_14_code 30 = .ok (.istore_n 3, 1) := by decide +kernel
theorem dS_isWithin_31 : decode prog_5_method_14_code 31 = .ok (.iinc 4 1, 3) := by decide +kernel
theorem dS_isWithin_34 : decode prog_5_method_14_code 34 = .ok (.goto (-29), 3) := by decide +kernel
theorem dS_isWithin_37 : decode prog_5_method_14_code 37 = .ok (.iconst 0, 1) := by decide +kernel
theorem dS_isWithin_38 : decode prog_5_method_14_code 38 = .ok (.ireturn, 1) := by decide +kernel
theorem dS_areasWithin_0 : decode prog_5_method_15_code 0 = .ok (.iconst 0, 1) := by decide +kernel
theorem dS_areasWithin_1 : decode prog_5_method_15_code 1 = .ok (.istore_n 2, 1) := by decide +kernel
theorem dS_areasWithin_2 : decode prog_5_method_15_code 2 = .ok (.iconst 0, 1) := by decide +kernel
theorem dS_areasWithin_3 : decode prog_5_method_15_code 3 = .ok (.istore_n 3, 1) := by decide +kernel
theorem dS_areasWithin_4 : decode prog_5_method_15_code 4 = .ok (.iload_n 3, 1) := by decide +kernel
theorem dS_areasWithin_5 : decode prog_5_method_15_code 5 = .ok (.bipush 13, 2) := by decide +kernel
theorem dS_areasWithin_7 : decode prog_5_method_15_code 7 = .ok (.if_icmp .ge 32, 3) := by decide +kernel
theorem dS_areasWithin_10 : decode prog_5_method_15_code 10 = .ok (.aload_n 0, 1) := by decide +kernel
theorem dS_areasWithin_11 : decode prog_5_method_15_code 11 = .ok (.iload_n 3, 1) := by decide +kernel
theorem dS_areasWithin_12 : decode prog_5_method_15_code 12 = .ok (.invokevirtual 61, 3) := by decide +kernel
theorem dS_areasWithin_15 : decode prog_5_method_15_code 15 = .ok (.ifCond .eq 18, 3) := by decide +kernel
theorem dS_areasWithin_18 : decode prog_5_method_15_code 18 = .ok (.aload_n 0, 1) := by decide +kernel
theorem dS_areasWithin_19 : decode prog_5_method_15_code 19 = .ok (.iload_n 3, 1) := by decide +kernel
theorem dS_areasWithin_20 : decode prog_5_method_15_code 20 = .ok (.iload_n 1, 1) := by decide +kernel
theorem dS_areasWithin_21 : decode prog_5_method_15_code 21 = .ok (.invokevirtual 65, 3) := by decide +kernel
theorem dS_areasWithin_24 : decode prog_5_method_15_code 24 = .ok (.ifCond .eq 9, 3) := by decide +kernel
theorem dS_areasWithin_27 : decode prog_5_method_15_code 27 = .ok (.iload_n 2, 1) := by decide +kernel
theorem dS_areasWithin_28 : decode prog_5_method_15_code 28 = .ok (.iconst 1, 1) := by decide +kernel
theorem dS_areasWithin_29 : decode prog_5_method_15_code 29 = .ok (.iload_n 3, 1) := by decide +kernel
theorem dS_areasWithin_30 : decode prog_5_method_15_code 30 = .ok (.ishl, 1) := by decide +kernel
theorem dS_areasWithin_31 : decode prog_5_method_15_code 31 = .ok (.ior, 1) := by decide +kernel
theorem dS_areasWithin_32 : decode prog_5_method_15_code 32 = .ok (.istore_n 2, 1) := by decide +kernel
theorem dS_areasWithin_33 : decode prog_5_method_15_code 33 = .ok (.iinc 3 1, 3) := by decide +kernel
theorem dS_areasWithin_36 : decode prog_5_method_15_code 36 = .ok (.goto (-32), 3) := by decide +kernel
theorem dS_areasWithin_39 : decode prog_5_method_15_code 39 = .ok (.iload_n 2, 1) := by decide +kernel
theorem dS_areasWithin_40 : decode prog_5_method_15_code 40 = .ok (.ireturn, 1) := by decide +kernel
theorem dS_reaches_0 : decode prog_5_method_16_code 0 = .ok (.aload_n 0, 1) := by decide +kernel
theorem dS_reaches_1 : decode prog_5_method_16_code 1 = .ok (.iconst 2, 1) := by decide +kernel
theorem dS_reaches_2 : decode prog_5_method_16_code 2 = .ok (.iload_n 1, 1) := by decide +kernel
theorem dS_reaches_3 : decode prog_5_method_16_code 3 = .ok (.invokevirtual 37, 3) := by decide +kernel
theorem dS_reaches_6 : decode prog_5_method_16_code 6 = .ok (.ifCond .eq 21, 3) := by decide +kernel
theorem dS_reaches_9 : decode prog_5_method_16_code 9 = .ok (.aload_n 0, 1) := by decide +kernel
theorem dS_reaches_10 : decode prog_5_method_16_code 10 = .ok (.iload_n 2, 1) := by decide +kernel
theorem dS_reaches_11 : decode prog_5_method_16_code 11 = .ok (.aload_n 0, 1) := by decide +kernel
theorem dS_reaches_12 : decode prog_5_method_16_code 12 = .ok (.getfield 18, 3) := by decide +kernel
theorem dS_reaches_15 : decode prog_5_method_16_code 15 = .ok (.iload_n 1, 1) := by decide +kernel
theorem dS_reaches_16 : decode prog_5_method_16_code 16 = .ok (.iaload, 1) := by decide +kernel
theorem dS_reaches_17 : decode prog_5_method_16_code 17 = .ok (.invokevirtual 65, 3) := by decide +kernel
theorem dS_reaches_20 : decode prog_5_method_16_code 20 = .ok (.ifCond .eq 7, 3) := by decide +kernel
theorem dS_reaches_23 : decode prog_5_method_16_code 23 = .ok (.iconst 1, 1) := by decide +kernel
theorem dS_reaches_24 : decode prog_5_method_16_code 24 = .ok (.goto 4, 3) := by decide +kernel
theorem dS_reaches_27 : decode prog_5_method_16_code 27 = .ok (.iconst 0, 1) := by decide +kernel
theorem dS_reaches_28 : decode prog_5_method_16_code 28 = .ok (.ireturn, 1) := by decide +kernel
theorem dS_isHooked_0 : decode prog_5_method_17_code 0 = .ok (.iconst 0, 1) := by decide +kernel
theorem dS_isHooked_1 : decode prog_5_method_17_code 1 = .ok (.istore_n 2, 1) := by decide +kernel
theorem dS_isHooked_2 : decode prog_5_method_17_code 2 = .ok (.iload_n 2, 1) := by decide +kernel
theorem dS_isHooked_3 : decode prog_5_method_17_code 3 = .ok (.bipush 12, 2) := by decide +kernel
theorem dS_isHooked_5 : decode prog_5_method_17_code 5 = .ok (.if_icmp .ge 47, 3) := by decide +kernel
theorem dS_isHooked_8 : decode prog_5_method_17_code 8 = .ok (.aload_n 0, 1) := by decide +kernel
theorem dS_isHooked_9 : decode prog_5_method_17_code 9 = .ok (.getfield 9, 3) := by decide +kernel
theorem dS_isHooked_12 : decode prog_5_method_17_code 12 = .ok (.iload_n 2, 1) := by decide +kernel
theorem dS_isHooked_13 : decode prog_5_method_17_code 13 = .ok (.iaload, 1) := by decide +kernel
theorem dS_isHooked_14 : decode prog_5_method_17_code 14 = .ok (.iconst (-1), 1) := by decide +kernel
theorem dS_isHooked_15 : decode prog_5_method_17_code 15 = .ok (.if_icmp .eq 31, 3) := by decide +kernel
theorem dS_isHooked_18 : decode prog_5_method_17_code 18 = .ok (.aload_n 0, 1) := by decide +kernel
theorem dS_isHooked_19 : decode prog_5_method_17_code 19 = .ok (.getfield 24, 3) := by decide +kernel
theorem dS_isHooked_22 : decode prog_5_method_17_code 22 = .ok (.iconst 2, 1) := by decide +kernel
theorem dS_isHooked_23 : decode prog_5_method_17_code 23 = .ok (.iload_n 2, 1) := by decide +kernel
theorem dS_isHooked_24 : decode prog_5_method_17_code 24 = .ok (.imul, 1) := by decide +kernel
theorem dS_isHooked_25 : decode prog_5_method_17_code 25 = .ok (.iaload, 1) := by decide +kernel
theorem dS_isHooked_26 : decode prog_5_method_17_code 26 = .ok (.iload_n 1, 1) := by decide +kernel
theorem dS_isHooked_27 : decode prog_5_method_17_code 27 = .ok (.if_icmp .eq 17, 3) := by decide +kernel
theorem dS_isHooked_30 : decode prog_5_method_17_code 30 = .ok (.aload_n 0, 1) := by decide +kernel
theorem dS_isHooked_31 : decode prog_5_method_17_code 31 = .ok (.getfield 24, 3) := by decide +kernel
theorem dS_isHooked_34 : decode prog_5_method_17_code 34 = .ok (.iconst 2, 1) := by decide +kernel
theorem dS_isHooked_35 : decode prog_5_method_17_code 35 = .ok (.iload_n 2, 1) := by decide +kernel
theorem dS_isHooked_36 : decode prog_5_method_17_code 36 = .ok (.imul, 1) := by decide +kernel
theorem dS_isHooked_37 : decode prog_5_method_17_code 37 = .ok (.iconst 1, 1) := by decide +kernel
theorem dS_isHooked_38 : decode prog_5_method_17_code 38 = .ok (.iadd, 1) := by decide +kernel
theorem dS_isHooked_39 : decode prog_5_method_17_code 39 = .ok (.iaload, 1) := by decide +kernel
theorem dS_isHooked_40 : decode prog_5_method_17_code 40 = .ok (.iload_n 1, 1) := by decide +kernel
theorem dS_isHooked_41 : decode prog_5_method_17_code 41 = .ok (.if_icmp .ne 5, 3) := by decide +kernel
theorem dS_isHooked_44 : decode prog_5_method_17_code 44 = .ok (.iconst 1, 1) := by decide +kernel
theorem dS_isHooked_45 : decode prog_5_method_17_code 45 = .ok (.ireturn, 1) := by decide +kernel
theorem dS_isHooked_46 : decode prog_5_method_17_code 46 = .ok (.iinc 2 1, 3) := by decide +kernel
theorem dS_isHooked_49 : decode prog_5_method_17_code 49 = .ok (.goto (-47), 3) := by decide +kernel
theorem dS_isHooked_52 : decode prog_5_method_17_code 52 = .ok (.iconst 0, 1) := by decide +kernel
theorem dS_isHooked_53 : decode prog_5_method_17_code 53 = .ok (.ireturn, 1) := by decide +kernel
theorem dS_add_0 : decode prog_5_method_18_code 0 = .ok (.aload_n 0, 1) := by decide +kernel
theorem dS_add_1 : decode prog_5_method_18_code 1 = .ok (.iload_n 1, 1) := by decide +kernel
theorem dS_add_2 : decode prog_5_method_18_code 2 = .ok (.invokevirtual 33, 3) := by decide +kernel
theorem dS_add_5 : decode prog_5_method_18_code 5 = .ok (.astore_n 3, 1) := by decide +kernel
theorem dS_add_6 : decode prog_5_method_18_code 6 = .ok (.aload_n 0, 1) := by decide +kernel
theorem dS_add_7 : decode prog_5_method_18_code 7 = .ok (.iload_n 1, 1) := by decide +kernel
theorem dS_add_8 : decode prog_5_method_18_code 8 = .ok (.invokevirtual 45, 3) := by decide +kernel
theorem dS_add_11 : decode prog_5_method_18_code 11 = .ok (.istore 4, 2) := by decide +kernel
theorem dS_add_13 : decode prog_5_method_18_code 13 = .ok (.iload 4, 2) := by decide +kernel
theorem dS_add_15 : decode prog_5_method_18_code 15 = .ok (.aload_n 3, 1) := by decide +kernel
theorem dS_add_16 : decode prog_5_method_18_code 16 = .ok (.arraylength, 1) := by decide +kernel
theorem dS_add_17 : decode prog_5_method_18_code 17 = .ok (.if_icmp .ge 25, 3) := by decide +kernel
theorem dS_add_20 : decode prog_5_method_18_code 20 = .ok (.aload_n 3, 1) := by decide +kernel
theorem dS_add_21 : decode prog_5_method_18_code 21 = .ok (.iload 4, 2) := by decide +kernel
theorem dS_add_23 : decode prog_5_method_18_code 23 = .ok (.iaload, 1) := by decide +kernel
theorem dS_add_24 : decode prog_5_method_18_code 24 = .ok (.iconst (-1), 1) := by decide +kernel
theorem dS_add_25 : decode prog_5_method_18_code 25 = .ok (.if_icmp .ne 11, 3) := by decide +kernel
theorem dS_add_28 : decode prog_5_method_18_code 28 = .ok (.aload_n 3, 1) := by decide +kernel
theorem dS_add_29 : decode prog_5_method_18_code 29 = .ok (.iload 4, 2) := by decide +kernel
theorem dS_add_31 : decode prog_5_method_18_code 31 = .ok (.iload_n 2, 1) := by decide +kernel
theorem dS_add_32 : decode prog_5_method_18_code 32 = .ok (.iastore, 1) := by decide +kernel
theorem dS_add_33 : decode prog_5_method_18_code 33 = .ok (.iload 4, 2) := by decide +kernel
theorem dS_add_35 : decode prog_5_method_18_code 35 = .ok (.ireturn, 1) := by decide +kernel
theorem dS_add_36 : decode prog_5_method_18_code 36 = .ok (.iinc 4 1, 3) := by decide +kernel
theorem dS_add_39 : decode prog_5_method_18_code 39 = .ok (.goto (-26), 3) := by decide +kernel
theorem dS_add_42 : decode prog_5_method_18_code 42 = .ok (.iconst (-1), 1) := by decide +kernel
theorem dS_add_43 : decode prog_5_method_18_code 43 = .ok (.ireturn, 1) := by decide +kernel
theorem dS_addSpot_0 : decode prog_5_method_19_code 0 = .ok (.aload_n 0, 1) := by decide +kernel
theorem dS_addSpot_1 : decode prog_5_method_19_code 1 = .ok (.iconst 0, 1) := by decide +kernel
theorem dS_addSpot_2 : decode prog_5_method_19_code 2 = .ok (.iload_n 1, 1) := by decide +kernel
theorem dS_addSpot_3 : decode prog_5_method_19_code 3 = .ok (.invokevirtual 68, 3) := by decide +kernel
theorem dS_addSpot_6 : decode prog_5_method_19_code 6 = .ok (.istore 5, 2) := by decide +kernel
theorem dS_addSpot_8 : decode prog_5_method_19_code 8 = .ok (.iload 5, 2) := by decide +kernel
theorem dS_addSpot_10 : decode prog_5_method_19_code 10 = .ok (.iconst (-1), 1) := by decide +kernel
theorem dS_addSpot_11 : decode prog_5_method_19_code 11 = .ok (.if_icmp .eq 34, 3) := by decide +kernel
theorem dS_addSpot_14 : decode prog_5_method_19_code 14 = .ok (.aload_n 0, 1) := by decide +kernel
theorem dS_addSpot_15 : decode prog_5_method_19_code 15 = .ok (.getfield 21, 3) := by decide +kernel
theorem dS_addSpot_18 : decode prog_5_method_19_code 18 = .ok (.iload 5, 2) := by decide +kernel
theorem dS_addSpot_20 : decode prog_5_method_19_code 20 = .ok (.iload_n 2, 1) := by decide +kernel
theorem dS_addSpot_21 : decode prog_5_method_19_code 21 = .ok (.iastore, 1) := by decide +kernel
theorem dS_addSpot_22 : decode prog_5_method_19_code 22 = .ok (.aload_n 0, 1) := by decide +kernel
theorem dS_addSpot_23 : decode prog_5_method_19_code 23 = .ok (.getfield 24, 3) := by decide +kernel
theorem dS_addSpot_26 : decode prog_5_method_19_code 26 = .ok (.iconst 2, 1) := by decide +kernel
theorem dS_addSpot_27 : decode prog_5_method_19_code 27 = .ok (.iload 5, 2) := by decide +kernel
theorem dS_addSpot_29 : decode prog_5_method_19_code 29 = .ok (.imul, 1) := by decide +kernel
theorem dS_addSpot_30 : decode prog_5_method_19_code 30 = .ok (.iload_n 3, 1) := by decide +kernel
theorem dS_addSpot_31 : decode prog_5_method_19_code 31 = .ok (.iastore, 1) := by decide +kernel
theorem dS_addSpot_32 : decode prog_5_method_19_code 32 = .ok (.aload_n 0, 1) := by decide +kernel
theorem dS_addSpot_33 : decode prog_5_method_19_code 33 = .ok (.getfield 24, 3) := by decide +kernel
theorem dS_addSpot_36 : decode prog_5_method_19_code 36 = .ok (.iconst 2, 1) := by decide +kernel
theorem dS_addSpot_37 : decode prog_5_method_19_code 37 = .ok (.iload 5, 2) := by decide +kernel
theorem dS_addSpot_39 : decode prog_5_method_19_code 39 = .ok (.imul, 1) := by decide +kernel
theorem dS_addSpot_40 : decode prog_5_method_19_code 40 = .ok (.iconst 1, 1) := by decide +kernel
theorem dS_addSpot_41 : decode prog_5_method_19_code 41 = .ok (.iadd, 1) := by decide +kernel
theorem dS_addSpot_42 : decode prog_5_method_19_code 42 = .ok (.iload 4, 2) := by decide +kernel
theorem dS_addSpot_44 : decode prog_5_method_19_code 44 = .ok (.iastore, 1) := by decide +kernel
theorem dS_addSpot_45 : decode prog_5_method_19_code 45 = .ok (.iload 5, 2) := by decide +kernel
theorem dS_addSpot_47 : decode prog_5_method_19_code 47 = .ok (.ireturn, 1) := by decide +kernel
theorem dS_put_0 : decode prog_5_method_20_code 0 = .ok (.aload_n 0, 1) := by decide +kernel
theorem dS_put_1 : decode prog_5_method_20_code 1 = .ok (.iload_n 1, 1) := by decide +kernel
theorem dS_put_2 : decode prog_5_method_20_code 2 = .ok (.iload_n 2, 1) := by decide +kernel
theorem dS_put_3 : decode prog_5_method_20_code 3 = .ok (.invokevirtual 37, 3) := by decide +kernel
theorem dS_put_6 : decode prog_5_method_20_code 6 = .ok (.ifCond .eq 11, 3) := by decide +kernel
theorem dS_put_9 : decode prog_5_method_20_code 9 = .ok (.aload_n 0, 1) := by decide +kernel
theorem dS_put_10 : decode prog_5_method_20_code 10 = .ok (.iload_n 1, 1) := by decide +kernel
theorem dS_put_11 : decode prog_5_method_20_code 11 = .ok (.invokevirtual 33, 3) := by decide +kernel
theorem dS_put_14 : decode prog_5_method_20_code 14 = .ok (.iload_n 2, 1) := by decide +kernel
theorem dS_put_15 : decode prog_5_method_20_code 15 = .ok (.iload_n 3, 1) := by decide +kernel
theorem dS_put_16 : decode prog_5_method_20_code 16 = .ok (.iastore, 1) := by decide +kernel
theorem dS_put_17 : decode prog_5_method_20_code 17 = .ok (.return_, 1) := by decide +kernel
theorem dS_remove_0 : decode prog_5_method_21_code 0 = .ok (.iload_n 1, 1) := by decide +kernel
theorem dS_remove_1 : decode prog_5_method_21_code 1 = .ok (.iconst 1, 1) := by decide +kernel
theorem dS_remove_2 : decode prog_5_method_21_code 2 = .ok (.if_icmp .ne 13, 3) := by decide +kernel
theorem dS_remove_5 : decode prog_5_method_21_code 5 = .ok (.aload_n 0, 1) := by decide +kernel
theorem dS_remove_6 : decode prog_5_method_21_code 6 = .ok (.aload_n 0, 1) := by decide +kernel
theorem dS_remove_7 : decode prog_5_method_21_code 7 = .ok (.iload_n 2, 1) := by decide +kernel
theorem dS_remove_8 : decode prog_5_method_21_code 8 = .ok (.invokevirtual 71, 3) := by decide +kernel
theorem dS_remove_11 : decode prog_5_method_21_code 11 = .ok (.iconst (-1), 1) := by decide +kernel
theorem dS_remove_12 : decode prog_5_method_21_code 12 = .ok (.invokevirtual 74, 3) := by decide +kernel
theorem dS_remove_15 : decode prog_5_method_21_code 15 = .ok (.aload_n 0, 1) := by decide +kernel
theorem dS_remove_16 : decode prog_5_method_21_code 16 = .ok (.iload_n 1, 1) := by decide +kernel
theorem dS_remove_17 : decode prog_5_method_21_code 17 = .ok (.iload_n 2, 1) := by decide +kernel
theorem dS_remove_18 : decode prog_5_method_21_code 18 = .ok (.iconst (-1), 1) := by decide +kernel
theorem dS_remove_19 : decode prog_5_method_21_code 19 = .ok (.invokevirtual 78, 3) := by decide +kernel
theorem dS_remove_22 : decode prog_5_method_21_code 22 = .ok (.return_, 1) := by decide +kernel
theorem dS_putAll_0 : decode prog_5_method_22_code 0 = .ok (.iconst 0, 1) := by decide +kernel
theorem dS_putAll_1 : decode prog_5_method_22_code 1 = .ok (.istore_n 3, 1) := by decide +kernel
theorem dS_putAll_2 : decode prog_5_method_22_code 2 = .ok (.iload_n 3, 1) := by decide +kernel
theorem dS_putAll_3 : decode prog_5_method_22_code 3 = .ok (.iconst 3, 1) := by decide +kernel
theorem dS_putAll_4 : decode prog_5_method_22_code 4 = .ok (.if_icmp .ge 51, 3) := by decide +kernel
theorem dS_putAll_7 : decode prog_5_method_22_code 7 = .ok (.aload_n 0, 1) := by decide +kernel
theorem dS_putAll_8 : decode prog_5_method_22_code 8 = .ok (.iload_n 3, 1) := by decide +kernel
theorem dS_putAll_9 : decode prog_5_method_22_code 9 = .ok (.invokevirtual 33, 3) := by decide +kernel
theorem dS_putAll_12 : decode prog_5_method_22_code 12 = .ok (.astore 4, 2) := by decide +kernel
theorem dS_putAll_14 : decode prog_5_method_22_code 14 = .ok (.iconst 0, 1) := by decide +kernel
theorem dS_putAll_15 : decode prog_5_method_22_code 15 = .ok (.istore 5, 2) := by decide +kernel
theorem dS_putAll_17 : decode prog_5_method_22_code 17 = .ok (.iload 5, 2) := by decide +kernel
theorem dS_putAll_19 : decode prog_5_method_22_code 19 = .ok (.aload 4, 2) := by decide +kernel
theorem dS_putAll_21 : decode prog_5_method_22_code 21 = .ok (.arraylength, 1) := by decide +kernel
theorem dS_putAll_22 : decode prog_5_method_22_code 22 = .ok (.if_icmp .ge 27, 3) := by decide +kernel
theorem dS_putAll_25 : decode prog_5_method_22_code 25 = .ok (.iload_n 1, 1) := by decide +kernel
theorem dS_putAll_26 : decode prog_5_method_22_code 26 = .ok (.aload 4, 2) := by decide +kernel
theorem dS_putAll_28 : decode prog_5_method_22_code 28 = .ok (.iload 5, 2) := by decide +kernel
theorem dS_putAll_30 : decode prog_5_method_22_code 30 = .ok (.iaload, 1) := by decide +kernel
theorem dS_putAll_31 : decode prog_5_method_22_code 31 = .ok (.invokestatic 52, 3) := by decide +kernel
theorem dS_putAll_34 : decode prog_5_method_22_code 34 = .ok (.ifCond .eq 9, 3) := by decide +kernel
theorem dS_putAll_37 : decode prog_5_method_22_code 37 = .ok (.aload 4, 2) := by decide +kernel
theorem dS_putAll_39 : decode prog_5_method_22_code 39 = .ok (.iload 5, 2) := by decide +kernel
theorem dS_putAll_41 : decode prog_5_method_22_code 41 = .ok (.iload_n 2, 1) := by decide +kernel
theorem dS_putAll_42 : decode prog_5_method_22_code 42 = .ok (.iastore, 1) := by decide +kernel
theorem dS_putAll_43 : decode prog_5_method_22_code 43 = .ok (.iinc 5 1, 3) := by decide +kernel
theorem dS_putAll_46 : decode prog_5_method_22_code 46 = .ok (.goto (-29), 3) := by decide +kernel
theorem dS_putAll_49 : decode prog_5_method_22_code 49 = .ok (.iinc 3 1, 3) := by decide +kernel
theorem dS_putAll_52 : decode prog_5_method_22_code 52 = .ok (.goto (-50), 3) := by decide +kernel
theorem dS_putAll_55 : decode prog_5_method_22_code 55 = .ok (.return_, 1) := by decide +kernel
theorem dS_rehook_0 : decode prog_5_method_23_code 0 = .ok (.aload_n 0, 1) := by decide +kernel
theorem dS_rehook_1 : decode prog_5_method_23_code 1 = .ok (.iload_n 3, 1) := by decide +kernel
theorem dS_rehook_2 : decode prog_5_method_23_code 2 = .ok (.invokevirtual 71, 3) := by decide +kernel
theorem dS_rehook_5 : decode prog_5_method_23_code 5 = .ok (.istore 4, 2) := by decide +kernel
theorem dS_rehook_7 : decode prog_5_method_23_code 7 = .ok (.iconst 0, 1) := by decide +kernel
theorem dS_rehook_8 : decode prog_5_method_23_code 8 = .ok (.istore 5, 2) := by decide +kernel
theorem dS_rehook_10 : decode prog_5_method_23_code 10 = .ok (.iload 5, 2) := by decide +kernel
theorem dS_rehook_12 : decode prog_5_method_23_code 12 = .ok (.bipush 24, 2) := by decide +kernel
theorem dS_rehook_14 : decode prog_5_method_23_code 14 = .ok (.if_icmp .ge 45, 3) := by decide +kernel
theorem dS_rehook_17 : decode prog_5_method_23_code 17 = .ok (.aload_n 0, 1) := by decide +kernel
theorem dS_rehook_18 : decode prog_5_method_23_code 18 = .ok (.getfield 24, 3) := by decide +kernel
theorem dS_rehook_21 : decode prog_5_method_23_code 21 = .ok (.iload 5, 2) := by decide +kernel
theorem dS_rehook_23 : decode prog_5_method_23_code 23 = .ok (.iaload, 1) := by decide +kernel
theorem dS_rehook_24 : decode prog_5_method_23_code 24 = .ok (.iload_n 1, 1) := by decide +kernel
theorem dS_rehook_25 : decode prog_5_method_23_code 25 = .ok (.if_icmp .ne 28, 3) := by decide +kernel
theorem dS_rehook_28 : decode prog_5_method_23_code 28 = .ok (.iload 4, 2) := by decide +kernel
theorem dS_rehook_30 : decode prog_5_method_23_code 30 = .ok (.aload_n 0, 1) := by decide +kernel
theorem dS_rehook_31 : decode prog_5_method_23_code 31 = .ok (.getfield 9, 3) := by decide +kernel
theorem dS_rehook_34 : decode prog_5_method_23_code 34 = .ok (.iload 5, 2) := by decide +kernel
theorem dS_rehook_36 : decode prog_5_method_23_code 36 = .ok (.iconst 2, 1) := by decide +kernel
theorem dS_rehook_37 : decode prog_5_method_23_code 37 = .ok (.idiv, 1) := by decide +kernel
theorem dS_rehook_38 : decode prog_5_method_23_code 38 = .ok (.iaload, 1) := by decide +kernel
theorem dS_rehook_39 : decode prog_5_method_23_code 39 = .ok (.invokestatic 52, 3) := by decide +kernel
theorem dS_rehook_42 : decode prog_5_method_23_code 42 = .ok (.ifCond .eq 11, 3) := by decide +kernel
theorem dS_rehook_45 : decode prog_5_method_23_code 45 = .ok (.aload_n 0, 1) := by decide +kernel
theorem dS_rehook_46 : decode prog_5_method_23_code 46 = .ok (.getfield 24, 3) := by decide +kernel
theorem dS_rehook_49 : decode prog_5_method_23_code 49 = .ok (.iload 5, 2) := by decide +kernel
theorem dS_rehook_51 : decode prog_5_method_23_code 51 = .ok (.iload_n 2, 1) := by decide +kernel
theorem dS_rehook_52 : decode prog_5_method_23_code 52 = .ok (.iastore, 1) := by decide +kernel
theorem dS_rehook_53 : decode prog_5_method_23_code 53 = .ok (.iinc 5 1, 3) := by decide +kernel
theorem dS_rehook_56 : decode prog_5_method_23_code 56 = .ok (.goto (-46), 3) := by decide +kernel
theorem dS_rehook_59 : decode prog_5_method_23_code 59 = .ok (.return_, 1) := by decide +kernel
theorem dS_holdsOneCutAlone_0 : decode prog_5_method_24_code 0 = .ok (.iconst 1, 1) := by decide +kernel
theorem dS_holdsOneCutAlone_1 : decode prog_5_method_24_code 1 = .ok (.iload_n 1, 1) := by decide +kernel
theorem dS_holdsOneCutAlone_2 : decode prog_5_method_24_code 2 = .ok (.ishl, 1) := by decide +kernel
theorem dS_holdsOneCutAlone_3 : decode prog_5_method_24_code 3 = .ok (.istore_n 2, 1) := by decide +kernel
theorem dS_holdsOneCutAlone_4 : decode prog_5_method_24_code 4 = .ok (.aload_n 0, 1) := by decide +kernel
theorem dS_holdsOneCutAlone_5 : decode prog_5_method_24_code 5 = .ok (.iconst 1, 1) := by decide +kernel
theorem dS_holdsOneCutAlone_6 : decode prog_5_method_24_code 6 = .ok (.iload_n 2, 1) := by decide +kernel
theorem dS_holdsOneCutAlone_7 : decode prog_5_method_24_code 7 = .ok (.invokevirtual 41, 3) := by decide +kernel
theorem dS_holdsOneCutAlone_10 : decode prog_5_method_24_code 10 = .ok (.iconst 1, 1) := by decide +kernel
theorem dS_holdsOneCutAlone_11 : decode prog_5_method_24_code 11 = .ok (.if_icmp .ne 25, 3) := by decide +kernel
theorem dS_holdsOneCutAlone_14 : decode prog_5_method_24_code 14 = .ok (.aload_n 0, 1) := by decide +kernel
theorem dS_holdsOneCutAlone_15 : decode prog_5_method_24_code 15 = .ok (.iconst 0, 1) := by decide +kernel
theorem dS_holdsOneCutAlone_16 : decode prog_5_method_24_code 16 = .ok (.iload_n 2, 1) := by decide +kernel
theorem dS_holdsOneCutAlone_17 : decode prog_5_method_24_code 17 = .ok (.invokevirtual 41, 3) := by decide +kernel
theorem dS_holdsOneCutAlone_20 : decode prog_5_method_24_code 20 = .ok (.ifCond .ne 16, 3) := by decide +kernel
theorem dS_holdsOneCutAlone_23 : decode prog_5_method_24_code 23 = .ok (.aload_n 0, 1) := by decide +kernel
theorem dS_holdsOneCutAlone_24 : decode prog_5_method_24_code 24 = .ok (.iconst 2, 1) := by decide +kernel
theorem dS_holdsOneCutAlone_25 : decode prog_5_method_24_code 25 = .ok (.iload_n 2, 1) := by decide +kernel
theorem dS_holdsOneCutAlone_26 : decode prog_5_method_24_code 26 = .ok (.invokevirtual 41, 3) := by decide +kernel
theorem dS_holdsOneCutAlone_29 : decode prog_5_method_24_code 29 = .ok (.ifCond .ne 7, 3) := by decide +kernel
theorem dS_holdsOneCutAlone_32 : decode prog_5_method_24_code 32 = .ok (.iconst 1, 1) := by decide +kernel
theorem dS_holdsOneCutAlone_33 : decode prog_5_method_24_code 33 = .ok (.goto 4, 3) := by decide +kernel
theorem dS_holdsOneCutAlone_36 : decode prog_5_method_24_code 36 = .ok (.iconst 0, 1) := by decide +kernel
theorem dS_holdsOneCutAlone_37 : decode prog_5_method_24_code 37 = .ok (.ireturn, 1) := by decide +kernel
theorem dS_removeDoubleCut_0 : decode prog_5_method_25_code 0 = .ok (.aload_n 0, 1) := by decide +kernel
theorem dS_removeDoubleCut_1 : decode prog_5_method_25_code 1 = .ok (.iconst 1, 1) := by decide +kernel
theorem dS_removeDoubleCut_2 : decode prog_5_method_25_code 2 = .ok (.iload_n 1, 1) := by decide +kernel
theorem dS_removeDoubleCut_3 : decode prog_5_method_25_code 3 = .ok (.invokevirtual 55, 3) := by decide +kernel
theorem dS_removeDoubleCut_6 : decode prog_5_method_25_code 6 = .ok (.istore_n 2, 1) := by decide +kernel
theorem dS_removeDoubleCut_7 : decode prog_5_method_25_code 7 = .ok (.iconst 1, 1) := by decide +kernel
theorem dS_removeDoubleCut_8 : decode prog_5_method_25_code 8 = .ok (.istore_n 3, 1) := by decide +kernel
theorem dS_removeDoubleCut_9 : decode prog_5_method_25_code 9 = .ok (.iload_n 3, 1) := by decide +kernel
theorem dS_removeDoubleCut_10 : decode prog_5_method_25_code 10 = .ok (.bipush 13, 2) := by decide +kernel
theorem dS_removeDoubleCut_12 : decode prog_5_method_25_code 12 = .ok (.if_icmp .ge 34, 3) := by decide +kernel
theorem dS_removeDoubleCut_15 : decode prog_5_method_25_code 15 = .ok (.aload_n 0, 1) := by decide +kernel
theorem dS_removeDoubleCut_16 : decode prog_5_method_25_code 16 = .ok (.getfield 15, 3) := by decide +kernel
theorem dS_removeDoubleCut_19 : decode prog_5_method_25_code 19 = .ok (.iload_n 3, 1) := by decide +kernel
theorem dS_removeDoubleCut_20 : decode prog_5_method_25_code 20 = .ok (.iaload, 1) := by decide +kernel
theorem dS_removeDoubleCut_21 : decode prog_5_method_25_code 21 = .ok (.iload_n 1, 1) := by decide +kernel
theorem dS_removeDoubleCut_22 : decode prog_5_method_25_code 22 = .ok (.if_icmp .ne 18, 3) := by decide +kernel
theorem dS_removeDoubleCut_25 : decode prog_5_method_25_code 25 = .ok (.aload_n 0, 1) := by decide +kernel
theorem dS_removeDoubleCut_26 : decode prog_5_method_25_code 26 = .ok (.iconst 1, 1) := by decide +kernel
theorem dS_removeDoubleCut_27 : decode prog_5_method_25_code 27 = .ok (.iload_n 3, 1) := by decide +kernel
theorem dS_removeDoubleCut_28 : decode prog_5_method_25_code 28 = .ok (.ishl, 1) := by decide +kernel
theorem dS_removeDoubleCut_29 : decode prog_5_method_25_code 29 = .ok (.iload_n 2, 1) := by decide +kernel
theorem dS_removeDoubleCut_30 : decode prog_5_method_25_code 30 = .ok (.invokevirtual 74, 3) := by decide +kernel
theorem dS_removeDoubleCut_33 : decode prog_5_method_25_code 33 = .ok (.aload_n 0, 1) := by decide +kernel
theorem dS_removeDoubleCut_34 : decode prog_5_method_25_code 34 = .ok (.iconst 1, 1) := by decide +kernel
theorem dS_removeDoubleCut_35 : decode prog_5_method_25_code 35 = .ok (.iload_n 3, 1) := by decide +kernel
theorem dS_removeDoubleCut_36 : decode prog_5_method_25_code 36 = .ok (.iconst (-1), 1) := by decide +kernel
theorem dS_removeDoubleCut_37 : decode prog_5_method_25_code 37 = .ok (.invokevirtual 78, 3) := by decide +kernel
theorem dS_removeDoubleCut_40 : decode prog_5_method_25_code 40 = .ok (.iinc 3 1, 3) := by decide +kernel
theorem dS_removeDoubleCut_43 : decode prog_5_method_25_code 43 = .ok (.goto (-34), 3) := by decide +kernel
theorem dS_removeDoubleCut_46 : decode prog_5_method_25_code 46 = .ok (.aload_n 0, 1) := by decide +kernel
theorem dS_removeDoubleCut_47 : decode prog_5_method_25_code 47 = .ok (.iconst 1, 1) := by decide +kernel
theorem dS_removeDoubleCut_48 : decode prog_5_method_25_code 48 = .ok (.iload_n 1, 1) := by decide +kernel
theorem dS_removeDoubleCut_49 : decode prog_5_method_25_code 49 = .ok (.iconst (-1), 1) := by decide +kernel
theorem dS_removeDoubleCut_50 : decode prog_5_method_25_code 50 = .ok (.invokevirtual 78, 3) := by decide +kernel
theorem dS_removeDoubleCut_53 : decode prog_5_method_25_code 53 = .ok (.return_, 1) := by decide +kernel
theorem dS_hasRoomForCopy_0 : decode prog_5_method_26_code 0 = .ok (.iload_n 1, 1) := by decide +kernel
theorem dS_hasRoomForCopy_1 : decode prog_5_method_26_code 1 = .ok (.ifCond .ne 17, 3) := by decide +kernel
theorem dS_hasRoomForCopy_4 : decode prog_5_method_26_code 4 = .ok (.aload_n 0, 1) := by decide +kernel
theorem dS_hasRoomForCopy_5 : decode prog_5_method_26_code 5 = .ok (.iconst 0, 1) := by decide +kernel
theorem dS_hasRoomForCopy_6 : decode prog_5_method_26_code 6 = .ok (.invokevirtual 82, 3) := by decide +kernel
theorem dS_hasRoomForCopy_9 : decode prog_5_method_26_code 9 = .ok (.ifCond .le 7, 3) := by decide +kernel
theorem dS_hasRoomForCopy_12 : decode prog_5_method_26_code 12 = .ok (.iconst 1, 1) := by decide +kernel
theorem dS_hasRoomForCopy_13 : decode prog_5_method_26_code 13 = .ok (.goto 4, 3) := by decide +kernel
theorem dS_hasRoomForCopy_16 : decode prog_5_method_26_code 16 = .ok (.iconst 0, 1) := by decide +kernel
theorem dS_hasRoomForCopy_17 : decode prog_5_method_26_code 17 = .ok (.ireturn, 1) := by decide +kernel
theorem dS_hasRoomForCopy_18 : decode prog_5_method_26_code 18 = .ok (.aload_n 0, 1) := by decide +kernel
theorem dS_hasRoomForCopy_19 : decode prog_5_method_26_code 19 = .ok (.iload_n 2, 1) := by decide +kernel
theorem dS_hasRoomForCopy_20 : decode prog_5_method_26_code 20 = .ok (.invokevirtual 71, 3) := by decide +kernel
theorem dS_hasRoomForCopy_23 : decode prog_5_method_26_code 23 = .ok (.istore_n 3, 1) := by decide +kernel
theorem dS_hasRoomForCopy_24 : decode prog_5_method_26_code 24 = .ok (.aload_n 0, 1) := by decide +kernel
theorem dS_hasRoomForCopy_25 : decode prog_5_method_26_code 25 = .ok (.iconst 1, 1) := by decide +kernel
theorem dS_hasRoomForCopy_26 : decode prog_5_method_26_code 26 = .ok (.invokevirtual 82, 3) := by decide +kernel
theorem dS_hasRoomForCopy_29 : decode prog_5_method_26_code 29 = .ok (.aload_n 0, 1) := by decide +kernel
theorem dS_hasRoomForCopy_30 : decode prog_5_method_26_code 30 = .ok (.iconst 1, 1) := by decide +kernel
theorem dS_hasRoomForCopy_31 : decode prog_5_method_26_code 31 = .ok (.iload_n 3, 1) := by decide +kernel
theorem dS_hasRoomForCopy_32 : decode prog_5_method_26_code 32 = .ok (.invokevirtual 41, 3) := by decide +kernel
theorem dS_hasRoomForCopy_35 : decode prog_5_method_26_code 35 = .ok (.if_icmp .le 35, 3) := by decide +kernel
theorem dS_hasRoomForCopy_38 : decode prog_5_method_26_code 38 = .ok (.aload_n 0, 1) := by decide +kernel
theorem dS_hasRoomForCopy_39 : decode prog_5_method_26_code 39 = .ok (.iconst 2, 1) := by decide +kernel
theorem dS_hasRoomForCopy_40 : decode prog_5_method_26_code 40 = .ok (.invokevirtual 82, 3) := by decide +kernel
theorem dS_hasRoomForCopy_43 : decode prog_5_method_26_code 43 = .ok (.aload_n 0, 1) := by decide +kernel
theorem dS_hasRoomForCopy_44 : decode prog_5_method_26_code 44 = .ok (.iconst 2, 1) := by decide +kernel
theorem dS_hasRoomForCopy_45 : decode prog_5_method_26_code 45 = .ok (.iload_n 3, 1) := by decide +kernel
theorem dS_hasRoomForCopy_46 : decode prog_5_method_26_code 46 = .ok (.invokevirtual 41, 3) := by decide +kernel
theorem dS_hasRoomForCopy_49 : decode prog_5_method_26_code 49 = .ok (.if_icmp .lt 21, 3) := by decide +kernel
theorem dS_hasRoomForCopy_52 : decode prog_5_method_26_code 52 = .ok (.aload_n 0, 1) := by decide +kernel
theorem dS_hasRoomForCopy_53 : decode prog_5_method_26_code 53 = .ok (.iconst 0, 1) := by decide +kernel
theorem dS_hasRoomForCopy_54 : decode prog_5_method_26_code 54 = .ok (.invokevirtual 82, 3) := by decide +kernel
theorem dS_hasRoomForCopy_57 : decode prog_5_method_26_code 57 = .ok (.aload_n 0, 1) := by decide +kernel
theorem dS_hasRoomForCopy_58 : decode prog_5_method_26_code 58 = .ok (.iconst 0, 1) := by decide +kernel
theorem dS_hasRoomForCopy_59 : decode prog_5_method_26_code 59 = .ok (.iload_n 3, 1) := by decide +kernel
theorem dS_hasRoomForCopy_60 : decode prog_5_method_26_code 60 = .ok (.invokevirtual 41, 3) := by decide +kernel
theorem dS_hasRoomForCopy_63 : decode prog_5_method_26_code 63 = .ok (.if_icmp .lt 7, 3) := by decide +kernel
theorem dS_hasRoomForCopy_66 : decode prog_5_method_26_code 66 = .ok (.iconst 1, 1) := by decide +kernel
theorem dS_hasRoomForCopy_67 : decode prog_5_method_26_code 67 = .ok (.goto 4, 3) := by decide +kernel
theorem dS_hasRoomForCopy_70 : decode prog_5_method_26_code 70 = .ok (.iconst 0, 1) := by decide +kernel
theorem dS_hasRoomForCopy_71 : decode prog_5_method_26_code 71 = .ok (.ireturn, 1) := by decide +kernel
theorem dS_addCopy_0 : decode prog_5_method_27_code 0 = .ok (.iload_n 1, 1) := by decide +kernel
theorem dS_addCopy_1 : decode prog_5_method_27_code 1 = .ok (.ifCond .ne 14, 3) := by decide +kernel
theorem dS_addCopy_4 : decode prog_5_method_27_code 4 = .ok (.aload_n 0, 1) := by decide +kernel
theorem dS_addCopy_5 : decode prog_5_method_27_code 5 = .ok (.iload_n 2, 1) := by decide +kernel
theorem dS_addCopy_6 : decode prog_5_method_27_code 6 = .ok (.iload_n 3, 1) := by decide +kernel
theorem dS_addCopy_7 : decode prog_5_method_27_code 7 = .ok (.aload 4, 2) := by decide +kernel
theorem dS_addCopy_9 : decode prog_5_method_27_code 9 = .ok (.invokevirtual 85, 3) := by decide +kernel
theorem dS_addCopy_12 : decode prog_5_method_27_code 12 = .ok (.goto 12, 3) := by decide +kernel
theorem dS_addCopy_15 : decode prog_5_method_27_code 15 = .ok (.aload_n 0, 1) := by decide +kernel
theorem dS_addCopy_16 : decode prog_5_method_27_code 16 = .ok (.iload_n 2, 1) := by decide +kernel
theorem dS_addCopy_17 : decode prog_5_method_27_code 17 = .ok (.iload_n 3, 1) := by decide +kernel
theorem dS_addCopy_18 : decode prog_5_method_27_code 18 = .ok (.aload 4, 2) := by decide +kernel
theorem dS_addCopy_20 : decode prog_5_method_27_code 20 = .ok (.iconst 0, 1) := by decide +kernel
theorem dS_addCopy_21 : decode prog_5_method_27_code 21 = .ok (.invokevirtual 89, 3) := by decide +kernel
theorem dS_addCopy_24 : decode prog_5_method_27_code 24 = .ok (.ireturn, 1) := by decide +kernel
theorem dS_copySpot_0 : decode prog_5_method_28_code 0 = .ok (.aload_n 0, 1) := by decide +kernel
theorem dS_copySpot_1 : decode prog_5_method_28_code 1 = .ok (.getfield 24, 3) := by decide +kernel
theorem dS_copySpot_4 : decode prog_5_method_28_code 4 = .ok (.iconst 2, 1) := by decide +kernel
theorem dS_copySpot_5 : decode prog_5_method_28_code 5 = .ok (.iload_n 1, 1) := by decide +kernel
theorem dS_copySpot_6 : decode prog_5_method_28_code 6 = .ok (.imul, 1) := by decide +kernel
theorem dS_copySpot_7 : decode prog_5_method_28_code 7 = .ok (.iaload, 1) := by decide +kernel
theorem dS_copySpot_8 : decode prog_5_method_28_code 8 = .ok (.istore 4, 2) := by decide +kernel
theorem dS_copySpot_10 : decode prog_5_method_28_code 10 = .ok (.aload_n 0, 1) := by decide +kernel
theorem dS_copySpot_11 : decode prog_5_method_28_code 11 = .ok (.getfield 24, 3) := by decide +kernel
theorem dS_copySpot_14 : decode prog_5_method_28_code 14 = .ok (.iconst 2, 1) := by decide +kernel
theorem dS_copySpot_15 : decode prog_5_method_28_code 15 = .ok (.iload_n 1, 1) := by decide +kernel
theorem dS_copySpot_16 : decode prog_5_method_28_code 16 = .ok (.imul, 1) := by decide +kernel
theorem dS_copySpot_17 : decode prog_5_method_28_code 17 = .ok (.iconst 1, 1) := by decide +kernel
theorem dS_copySpot_18 : decode prog_5_method_28_code 18 = .ok (.iadd, 1) := by decide +kernel
theorem dS_copySpot_19 : decode prog_5_method_28_code 19 = .ok (.iaload, 1) := by decide +kernel
theorem dS_copySpot_20 : decode prog_5_method_28_code 20 = .ok (.istore 5, 2) := by decide +kernel
theorem dS_copySpot_22 : decode prog_5_method_28_code 22 = .ok (.aload_n 0, 1) := by decide +kernel
theorem dS_copySpot_23 : decode prog_5_method_28_code 23 = .ok (.iload_n 2, 1) := by decide +kernel
theorem dS_copySpot_24 : decode prog_5_method_28_code 24 = .ok (.aload_n 0, 1) := by decide +kernel
theorem dS_copySpot_25 : decode prog_5_method_28_code 25 = .ok (.getfield 21, 3) := by decide +kernel
theorem dS_copySpot_28 : decode prog_5_method_28_code 28 = .ok (.iload_n 1, 1) := by decide +kernel
theorem dS_copySpot_29 : decode prog_5_method_28_code 29 = .ok (.iaload, 1) := by decide +kernel
theorem dS_copySpot_30 : decode prog_5_method_28_code 30 = .ok (.iload 4, 2) := by decide +kernel
theorem dS_copySpot_32 : decode prog_5_method_28_code 32 = .ok (.iconst (-1), 1) := by decide +kernel
theorem dS_copySpot_33 : decode prog_5_method_28_code 33 = .ok (.if_icmp .ne 7, 3) := by decide +kernel
theorem dS_copySpot_36 : decode prog_5_method_28_code 36 = .ok (.iconst (-1), 1) := by decide +kernel
theorem dS_copySpot_37 : decode prog_5_method_28_code 37 = .ok (.goto 7, 3) := by decide +kernel
theorem dS_copySpot_40 : decode prog_5_method_28_code 40 = .ok (.aload_n 3, 1) := by decide +kernel
theorem dS_copySpot_41 : decode prog_5_method_28_code 41 = .ok (.iload 4, 2) := by decide +kernel
theorem dS_copySpot_43 : decode prog_5_method_28_code 43 = .ok (.iaload, 1) := by decide +kernel
theorem dS_copySpot_44 : decode prog_5_method_28_code 44 = .ok (.iload 5, 2) := by decide +kernel
theorem dS_copySpot_46 : decode prog_5_method_28_code 46 = .ok (.iconst (-1), 1) := by decide +kernel
theorem dS_copySpot_47 : decode prog_5_method_28_code 47 = .ok (.if_icmp .ne 7, 3) := by decide +kernel
theorem dS_copySpot_50 : decode prog_5_method_28_code 50 = .ok (.iconst (-1), 1) := by decide +kernel
theorem dS_copySpot_51 : decode prog_5_method_28_code 51 = .ok (.goto 7, 3) := by decide +kernel
theorem dS_copySpot_54 : decode prog_5_method_28_code 54 = .ok (.aload_n 3, 1) := by decide +kernel
theorem dS_copySpot_55 : decode prog_5_method_28_code 55 = .ok (.iload 5, 2) := by decide +kernel
theorem dS_copySpot_57 : decode prog_5_method_28_code 57 = .ok (.iaload, 1) := by decide +kernel
theorem dS_copySpot_58 : decode prog_5_method_28_code 58 = .ok (.invokevirtual 93, 3) := by decide +kernel
theorem dS_copySpot_61 : decode prog_5_method_28_code 61 = .ok (.ireturn, 1) := by decide +kernel
theorem dS_copyCut_0 : decode prog_5_method_29_code 0 = .ok (.iload 4, 2) := by decide +kernel
theorem dS_copyCut_2 : decode prog_5_method_29_code 2 = .ok (.bipush 12, 2) := by decide +kernel
theorem dS_copyCut_4 : decode prog_5_method_29_code 4 = .ok (.if_icmp .lt 5, 3) := by decide +kernel
theorem dS_copyCut_7 : decode prog_5_method_29_code 7 = .ok (.iconst (-1), 1) := by decide +kernel
theorem dS_copyCut_8 : decode prog_5_method_29_code 8 = .ok (.ireturn, 1) := by decide +kernel
theorem dS_copyCut_9 : decode prog_5_method_29_code 9 = .ok (.aload_n 0, 1) := by decide +kernel
theorem dS_copyCut_10 : decode prog_5_method_29_code 10 = .ok (.iconst 1, 1) := by decide +kernel
theorem dS_copyCut_11 : decode prog_5_method_29_code 11 = .ok (.iload_n 2, 1) := by decide +kernel
theorem dS_copyCut_12 : decode prog_5_method_29_code 12 = .ok (.invokevirtual 68, 3) := by decide +kernel
theorem dS_copyCut_15 : decode prog_5_method_29_code 15 = .ok (.istore 5, 2) := by decide +kernel
theorem dS_copyCut_17 : decode prog_5_method_29_code 17 = .ok (.iconst 0, 1) := by decide +kernel
theorem dS_copyCut_18 : decode prog_5_method_29_code 18 = .ok (.istore 6, 2) := by decide +kernel
theorem dS_copyCut_20 : decode prog_5_method_29_code 20 = .ok (.iload 6, 2) := by decide +kernel
theorem dS_copyCut_22 : decode prog_5_method_29_code 22 = .ok (.bipush 6, 2) := by decide +kernel
theorem dS_copyCut_24 : decode prog_5_method_29_code 24 = .ok (.if_icmp .ge 31, 3) := by decide +kernel
theorem dS_copyCut_27 : decode prog_5_method_29_code 27 = .ok (.aload_n 0, 1) := by decide +kernel
theorem dS_copyCut_28 : decode prog_5_method_29_code 28 = .ok (.getfield 18, 3) := by decide +kernel
theorem dS_copyCut_31 : decode prog_5_method_29_code 31 = .ok (.iload 6, 2) := by decide +kernel
theorem dS_copyCut_33 : decode prog_5_method_29_code 33 = .ok (.iaload, 1) := by decide +kernel
theorem dS_copyCut_34 : decode prog_5_method_29_code 34 = .ok (.iload_n 1, 1) := by decide +kernel
theorem dS_copyCut_35 : decode prog_5_method_29_code 35 = .ok (.if_icmp .ne 14, 3) := by decide +kernel
theorem dS_copyCut_38 : decode prog_5_method_29_code 38 = .ok (.aload_n 3, 1) := by decide +kernel
theorem dS_copyCut_39 : decode prog_5_method_29_code 39 = .ok (.iload 6, 2) := by decide +kernel
theorem dS_copyCut_41 : decode prog_5_method_29_code 41 = .ok (.aload_n 0, 1) := by decide +kernel
theorem dS_copyCut_42 : decode prog_5_method_29_code 42 = .ok (.iconst 2, 1) := by decide +kernel
theorem dS_copyCut_43 : decode prog_5_method_29_code 43 = .ok (.iload 5, 2) := by decide +kernel
theorem dS_copyCut_45 : decode prog_5_method_29_code 45 = .ok (.invokevirtual 68, 3) := by decide +kernel
theorem dS_copyCut_48 : decode prog_5_method_29_code 48 = .ok (.iastore, 1) := by decide +kernel
theorem dS_copyCut_49 : decode prog_5_method_29_code 49 = .ok (.iinc 6 1, 3) := by decide +kernel
theorem dS_copyCut_52 : decode prog_5_method_29_code 52 = .ok (.goto (-32), 3) := by decide +kernel
theorem dS_copyCut_55 : decode prog_5_method_29_code 55 = .ok (.iconst 0, 1) := by decide +kernel
theorem dS_copyCut_56 : decode prog_5_method_29_code 56 = .ok (.istore 6, 2) := by decide +kernel
theorem dS_copyCut_58 : decode prog_5_method_29_code 58 = .ok (.iload 6, 2) := by decide +kernel
theorem dS_copyCut_60 : decode prog_5_method_29_code 60 = .ok (.bipush 12, 2) := by decide +kernel
theorem dS_copyCut_62 : decode prog_5_method_29_code 62 = .ok (.if_icmp .ge 30, 3) := by decide +kernel
theorem dS_copyCut_65 : decode prog_5_method_29_code 65 = .ok (.aload_n 0, 1) := by decide +kernel
theorem dS_copyCut_66 : decode prog_5_method_29_code 66 = .ok (.getfield 9, 3) := by decide +kernel
theorem dS_copyCut_69 : decode prog_5_method_29_code 69 = .ok (.iload 6, 2) := by decide +kernel
theorem dS_copyCut_71 : decode prog_5_method_29_code 71 = .ok (.iaload, 1) := by decide +kernel
theorem dS_copyCut_72 : decode prog_5_method_29_code 72 = .ok (.iload_n 1, 1) := by decide +kernel
end
section
/-! printed by wip/whole/gen_names.py: decode rows -/
theorem dS_copyCut_73 : decode prog_5_method_29_code 73 = .ok (.if_icmp .ne 13, 3) := by decide +kernel
theorem dS_copyCut_76 : decode prog_5_method_29_code 76 = .ok (.aload_n 0, 1) := by decide +kernel
theorem dS_copyCut_77 : decode prog_5_method_29_code 77 = .ok (.iload 6, 2) := by decide +kernel
theorem dS_copyCut_79 : decode prog_5_method_29_code 79 = .ok (.iload 5, 2) := by decide +kernel
theorem dS_copyCut_81 : decode prog_5_method_29_code 81 = .ok (.aload_n 3, 1) := by decide +kernel
theorem dS_copyCut_82 : decode prog_5_method_29_code 82 = .ok (.invokevirtual 85, 3) := by decide +kernel
theorem dS_copyCut_85 : decode prog_5_method_29_code 85 = .ok (.pop, 1) := by decide +kernel
theorem dS_copyCut_86 : decode prog_5_method_29_code 86 = .ok (.iinc 6 1, 3) := by decide +kernel
theorem dS_copyCut_89 : decode prog_5_method_29_code 89 = .ok (.goto (-31), 3) := by decide +kernel
theorem dS_copyCut_92 : decode prog_5_method_29_code 92 = .ok (.aload_n 0, 1) := by decide +kernel
theorem dS_copyCut_93 : decode prog_5_method_29_code 93 = .ok (.iload_n 1, 1) := by decide +kernel
theorem dS_copyCut_94 : decode prog_5_method_29_code 94 = .ok (.iload 5, 2) := by decide +kernel
theorem dS_copyCut_96 : decode prog_5_method_29_code 96 = .ok (.aload_n 3, 1) := by decide +kernel
theorem dS_copyCut_97 : decode prog_5_method_29_code 97 = .ok (.iload 4, 2) := by decide +kernel
theorem dS_copyCut_99 : decode prog_5_method_29_code 99 = .ok (.invokevirtual 97, 3) := by decide +kernel
theorem dS_copyCut_102 : decode prog_5_method_29_code 102 = .ok (.iload 5, 2) := by decide +kernel
theorem dS_copyCut_104 : decode prog_5_method_29_code 104 = .ok (.ireturn, 1) := by decide +kernel
theorem dS_copyCutsIn_0 : decode prog_5_method_30_code 0 = .ok (.iconst 1, 1) := by decide +kernel
theorem dS_copyCutsIn_1 : decode prog_5_method_30_code 1 = .ok (.istore 5, 2) := by decide +kernel
theorem dS_copyCutsIn_3 : decode prog_5_method_30_code 3 = .ok (.iload 5, 2) := by decide +kernel
theorem dS_copyCutsIn_5 : decode prog_5_method_30_code 5 = .ok (.bipush 13, 2) := by decide +kernel
theorem dS_copyCutsIn_7 : decode prog_5_method_30_code 7 = .ok (.if_icmp .ge 33, 3) := by decide +kernel
theorem dS_copyCutsIn_10 : decode prog_5_method_30_code 10 = .ok (.aload_n 0, 1) := by decide +kernel
theorem dS_copyCutsIn_11 : decode prog_5_method_30_code 11 = .ok (.getfield 15, 3) := by decide +kernel
theorem dS_copyCutsIn_14 : decode prog_5_method_30_code 14 = .ok (.iload 5, 2) := by decide +kernel
theorem dS_copyCutsIn_16 : decode prog_5_method_30_code 16 = .ok (.iaload, 1) := by decide +kernel
theorem dS_copyCutsIn_17 : decode prog_5_method_30_code 17 = .ok (.iload_n 1, 1) := by decide +kernel
theorem dS_copyCutsIn_18 : decode prog_5_method_30_code 18 = .ok (.if_icmp .ne 16, 3) := by decide +kernel
theorem dS_copyCutsIn_21 : decode prog_5_method_30_code 21 = .ok (.aload_n 0, 1) := by decide +kernel
theorem dS_copyCutsIn_22 : decode prog_5_method_30_code 22 = .ok (.iload 5, 2) := by decide +kernel
theorem dS_copyCutsIn_24 : decode prog_5_method_30_code 24 = .ok (.iload_n 2, 1) := by decide +kernel
theorem dS_copyCutsIn_25 : decode prog_5_method_30_code 25 = .ok (.aload_n 3, 1) := by decide +kernel
theorem dS_copyCutsIn_26 : decode prog_5_method_30_code 26 = .ok (.iload 4, 2) := by decide +kernel
theorem dS_copyCutsIn_28 : decode prog_5_method_30_code 28 = .ok (.iconst 1, 1) := by decide +kernel
theorem dS_copyCutsIn_29 : decode prog_5_method_30_code 29 = .ok (.iadd, 1) := by decide +kernel
theorem dS_copyCutsIn_30 : decode prog_5_method_30_code 30 = .ok (.invokevirtual 89, 3) := by decide +kernel
theorem dS_copyCutsIn_33 : decode prog_5_method_30_code 33 = .ok (.pop, 1) := by decide +kernel
theorem dS_copyCutsIn_34 : decode prog_5_method_30_code 34 = .ok (.iinc 5 1, 3) := by decide +kernel
theorem dS_copyCutsIn_37 : decode prog_5_method_30_code 37 = .ok (.goto (-34), 3) := by decide +kernel
theorem dS_copyCutsIn_40 : decode prog_5_method_30_code 40 = .ok (.return_, 1) := by decide +kernel
end
section
/-! branches whose way is known, printed by wip/whole/gen_mm.py tf -/
theorem mm_if_eq_T {Γ : mm_G} {l : Launch} {M : mm_M} {d : Nat} {D : mm_D} {pc : Nat} {ls : mm_L} {st : List Value} {h : mm_H} {x : Int32} {off : Int} {tgt : Nat} (hd : decode M.2.1 pc = .ok (.ifCond .eq off, 3)) (ht : (pc : Int) + off = (tgt : Int)) (hq : x = 0) (k : mm_W Γ l M d D (tgt) ls (st) h) : mm_W Γ l M d D (pc) ls (.int x :: st) h :=
  mm_if_eq hd ht (fun _ => k) (fun q => absurd hq q)
theorem mm_if_eq_F {Γ : mm_G} {l : Launch} {M : mm_M} {d : Nat} {D : mm_D} {pc : Nat} {ls : mm_L} {st : List Value} {h : mm_H} {x : Int32} {off : Int} {tgt : Nat} (hd : decode M.2.1 pc = .ok (.ifCond .eq off, 3)) (ht : (pc : Int) + off = (tgt : Int)) (hq : ¬ x = 0) (k : mm_W Γ l M d D (pc + 3) ls (st) h) : mm_W Γ l M d D (pc) ls (.int x :: st) h :=
  mm_if_eq hd ht (fun q => absurd q hq) (fun _ => k)
theorem mm_icmp_eq_T {Γ : mm_G} {l : Launch} {M : mm_M} {d : Nat} {D : mm_D} {pc : Nat} {ls : mm_L} {st : List Value} {h : mm_H} {x y : Int32} {off : Int} {tgt : Nat} (hd : decode M.2.1 pc = .ok (.if_icmp .eq off, 3)) (ht : (pc : Int) + off = (tgt : Int)) (hq : x = y) (k : mm_W Γ l M d D (tgt) ls (st) h) : mm_W Γ l M d D (pc) ls (.int y :: .int x :: st) h :=
  mm_icmp_eq hd ht (fun _ => k) (fun q => absurd hq q)
theorem mm_icmp_eq_F {Γ : mm_G} {l : Launch} {M : mm_M} {d : Nat} {D : mm_D} {pc : Nat} {ls : mm_L} {st : List Value} {h : mm_H} {x y : Int32} {off : Int} {tgt : Nat} (hd : decode M.2.1 pc = .ok (.if_icmp .eq off, 3)) (ht : (pc : Int) + off = (tgt : Int)) (hq : ¬ x = y) (k : mm_W Γ l M d D (pc + 3) ls (st) h) : mm_W Γ l M d D (pc) ls (.int y :: .int x :: st) h :=
  mm_icmp_eq hd ht (fun q => absurd q hq) (fun _ => k)
theorem mm_if_ne_T {Γ : mm_G} {l : Launch} {M : mm_M} {d : Nat} {D : mm_D} {pc : Nat} {ls : mm_L} {st : List Value} {h : mm_H} {x : Int32} {off : Int} {tgt : Nat} (hd : decode M.2.1 pc = .ok (.ifCond .ne off, 3)) (ht : (pc : Int) + off = (tgt : Int)) (hq : ¬ x = 0) (k : mm_W Γ l M d D (tgt) ls (st) h) : mm_W Γ l M d D (pc) ls (.int x :: st) h :=
  mm_if_ne hd ht (fun _ => k) (fun q => absurd hq (fun w => w q))
theorem mm_if_ne_F {Γ : mm_G} {l : Launch} {M : mm_M} {d : Nat} {D : mm_D} {pc : Nat} {ls : mm_L} {st : List Value} {h : mm_H} {x : Int32} {off : Int} {tgt : Nat} (hd : decode M.2.1 pc = .ok (.ifCond .ne off, 3)) (ht : (pc : Int) + off = (tgt : Int)) (hq : x = 0) (k : mm_W Γ l M d D (pc + 3) ls (st) h) : mm_W Γ l M d D (pc) ls (.int x :: st) h :=
  mm_if_ne hd ht (fun q => absurd hq q) (fun _ => k)
theorem mm_icmp_ne_T {Γ : mm_G} {l : Launch} {M : mm_M} {d : Nat} {D : mm_D} {pc : Nat} {ls : mm_L} {st : List Value} {h : mm_H} {x y : Int32} {off : Int} {tgt : Nat} (hd : decode M.2.1 pc = .ok (.if_icmp .ne off, 3)) (ht : (pc : Int) + off = (tgt : Int)) (hq : ¬ x = y) (k : mm_W Γ l M d D (tgt) ls (st) h) : mm_W Γ l M d D (pc) ls (.int y :: .int x :: st) h :=
  mm_icmp_ne hd ht (fun _ => k) (fun q => absurd hq (fun w => w q))
theorem mm_icmp_ne_F {Γ : mm_G} {l : Launch} {M : mm_M} {d : Nat} {D : mm_D} {pc : Nat} {ls : mm_L} {st : List Value} {h : mm_H} {x y : Int32} {off : Int} {tgt : Nat} (hd : decode M.2.1 pc = .ok (.if_icmp .ne off, 3)) (ht : (pc : Int) + off = (tgt : Int)) (hq : x = y) (k : mm_W Γ l M d D (pc + 3) ls (st) h) : mm_W Γ l M d D (pc) ls (.int y :: .int x :: st) h :=
  mm_icmp_ne hd ht (fun q => absurd hq q) (fun _ => k)
theorem mm_if_lt_T {Γ : mm_G} {l : Launch} {M : mm_M} {d : Nat} {D : mm_D} {pc : Nat} {ls : mm_L} {st : List Value} {h : mm_H} {x : Int32} {off : Int} {tgt : Nat} (hd : decode M.2.1 pc = .ok (.ifCond .lt off, 3)) (ht : (pc : Int) + off = (tgt : Int)) (hq : x < 0) (k : mm_W Γ l M d D (tgt) ls (st) h) : mm_W Γ l M d D (pc) ls (.int x :: st) h :=
  mm_if_lt hd ht (fun _ => k) (fun q => absurd hq q)
theorem mm_if_lt_F {Γ : mm_G} {l : Launch} {M : mm_M} {d : Nat} {D : mm_D} {pc : Nat} {ls : mm_L} {st : List Value} {h : mm_H} {x : Int32} {off : Int} {tgt : Nat} (hd : decode M.2.1 pc = .ok (.ifCond .lt off, 3)) (ht : (pc : Int) + off = (tgt : Int)) (hq : ¬ x < 0) (k : mm_W Γ l M d D (pc + 3) ls (st) h) : mm_W Γ l M d D (pc) ls (.int x :: st) h :=
  mm_if_lt hd ht (fun q => absurd q hq) (fun _ => k)
theorem mm_icmp_lt_T {Γ : mm_G} {l : Launch} {M : mm_M} {d : Nat} {D : mm_D} {pc : Nat} {ls : mm_L} {st : List Value} {h : mm_H} {x y : Int32} {off : Int} {tgt : Nat} (hd : decode M.2.1 pc = .ok (.if_icmp .lt off, 3)) (ht : (pc : Int) + off = (tgt : Int)) (hq : x < y) (k : mm_W Γ l M d D (tgt) ls (st) h) : mm_W Γ l M d D (pc) ls (.int y :: .int x :: st) h :=
  mm_icmp_lt hd ht (fun _ => k) (fun q => absurd hq q)
theorem mm_icmp_lt_F {Γ : mm_G} {l : Launch} {M : mm_M} {d : Nat} {D : mm_D} {pc : Nat} {ls : mm_L} {st : List Value} {h : mm_H} {x y : Int32} {off : Int} {tgt : Nat} (hd : decode M.2.1 pc = .ok (.if_icmp .lt off, 3)) (ht : (pc : Int) + off = (tgt : Int)) (hq : ¬ x < y) (k : mm_W Γ l M d D (pc + 3) ls (st) h) : mm_W Γ l M d D (pc) ls (.int y :: .int x :: st) h :=
  mm_icmp_lt hd ht (fun q => absurd q hq) (fun _ => k)
theorem mm_if_ge_T {Γ : mm_G} {l : Launch} {M : mm_M} {d : Nat} {D : mm_D} {pc : Nat} {ls : mm_L} {st : List Value} {h : mm_H} {x : Int32} {off : Int} {tgt : Nat} (hd : decode M.2.1 pc = .ok (.ifCond .ge off, 3)) (ht : (pc : Int) + off = (tgt : Int)) (hq : 0 ≤ x) (k : mm_W Γ l M d D (tgt) ls (st) h) : mm_W Γ l M d D (pc) ls (.int x :: st) h :=
  mm_if_ge hd ht (fun _ => k) (fun q => absurd hq q)
theorem mm_if_ge_F {Γ : mm_G} {l : Launch} {M : mm_M} {d : Nat} {D : mm_D} {pc : Nat} {ls : mm_L} {st : List Value} {h : mm_H} {x : Int32} {off : Int} {tgt : Nat} (hd : decode M.2.1 pc = .ok (.ifCond .ge off, 3)) (ht : (pc : Int) + off = (tgt : Int)) (hq : ¬ 0 ≤ x) (k : mm_W Γ l M d D (pc + 3) ls (st) h) : mm_W Γ l M d D (pc) ls (.int x :: st) h :=
  mm_if_ge hd ht (fun q => absurd q hq) (fun _ => k)
theorem mm_icmp_ge_T {Γ : mm_G} {l : Launch} {M : mm_M} {d : Nat} {D : mm_D} {pc : Nat} {ls : mm_L} {st : List Value} {h : mm_H} {x y : Int32} {off : Int} {tgt : Nat} (hd : decode M.2.1 pc = .ok (.if_icmp .ge off, 3)) (ht : (pc : Int) + off = (tgt : Int)) (hq : y ≤ x) (k : mm_W Γ l M d D (tgt) ls (st) h) : mm_W Γ l M d D (pc) ls (.int y :: .int x :: st) h :=
  mm_icmp_ge hd ht (fun _ => k) (fun q => absurd hq q)
theorem mm_icmp_ge_F {Γ : mm_G} {l : Launch} {M : mm_M} {d : Nat} {D : mm_D} {pc : Nat} {ls : mm_L} {st : List Value} {h : mm_H} {x y : Int32} {off : Int} {tgt : Nat} (hd : decode M.2.1 pc = .ok (.if_icmp .ge off, 3)) (ht : (pc : Int) + off = (tgt : Int)) (hq : ¬ y ≤ x) (k : mm_W Γ l M d D (pc + 3) ls (st) h) : mm_W Γ l M d D (pc) ls (.int y :: .int x :: st) h :=
  mm_icmp_ge hd ht (fun q => absurd q hq) (fun _ => k)
theorem mm_if_gt_T {Γ : mm_G} {l : Launch} {M : mm_M} {d : Nat} {D : mm_D} {pc : Nat} {ls : mm_L} {st : List Value} {h : mm_H} {x : Int32} {off : Int} {tgt : Nat} (hd : decode M.2.1 pc = .ok (.ifCond .gt off, 3)) (ht : (pc : Int) + off = (tgt : Int)) (hq : 0 < x) (k : mm_W Γ l M d D (tgt) ls (st) h) : mm_W Γ l M d D (pc) ls (.int x :: st) h :=
  mm_if_gt hd ht (fun _ => k) (fun q => absurd hq q)
theorem mm_if_gt_F {Γ : mm_G} {l : Launch} {M : mm_M} {d : Nat} {D : mm_D} {pc : Nat} {ls : mm_L} {st : List Value} {h : mm_H} {x : Int32} {off : Int} {tgt : Nat} (hd : decode M.2.1 pc = .ok (.ifCond .gt off, 3)) (ht : (pc : Int) + off = (tgt : Int)) (hq : ¬ 0 < x) (k : mm_W Γ l M d D (pc + 3) ls (st) h) : mm_W Γ l M d D (pc) ls (.int x :: st) h :=
  mm_if_gt hd ht (fun q => absurd q hq) (fun _ => k)
theorem mm_icmp_gt_T {Γ : mm_G} {l : Launch} {M : mm_M} {d : Nat} {D : mm_D} {pc : Nat} {ls : mm_L} {st : List Value} {h : mm_H} {x y : Int32} {off : Int} {tgt : Nat} (hd : decode M.2.1 pc = .ok (.if_icmp .gt off, 3)) (ht : (pc : Int) + off = (tgt : Int)) (hq : y < x) (k : mm_W Γ l M d D (tgt) ls (st) h) : mm_W Γ l M d D (pc) ls (.int y :: .int x :: st) h :=
  mm_icmp_gt hd ht (fun _ => k) (fun q => absurd hq q)
theorem mm_icmp_gt_F {Γ : mm_G} {l : Launch} {M : mm_M} {d : Nat} {D : mm_D} {pc : Nat} {ls : mm_L} {st : List Value} {h : mm_H} {x y : Int32} {off : Int} {tgt : Nat} (hd : decode M.2.1 pc = .ok (.if_icmp .gt off, 3)) (ht : (pc : Int) + off = (tgt : Int)) (hq : ¬ y < x) (k : mm_W Γ l M d D (pc + 3) ls (st) h) : mm_W Γ l M d D (pc) ls (.int y :: .int x :: st) h :=
  mm_icmp_gt hd ht (fun q => absurd q hq) (fun _ => k)
theorem mm_if_le_T {Γ : mm_G} {l : Launch} {M : mm_M} {d : Nat} {D : mm_D} {pc : Nat} {ls : mm_L} {st : List Value} {h : mm_H} {x : Int32} {off : Int} {tgt : Nat} (hd : decode M.2.1 pc = .ok (.ifCond .le off, 3)) (ht : (pc : Int) + off = (tgt : Int)) (hq : x ≤ 0) (k : mm_W Γ l M d D (tgt) ls (st) h) : mm_W Γ l M d D (pc) ls (.int x :: st) h :=
  mm_if_le hd ht (fun _ => k) (fun q => absurd hq q)
theorem mm_if_le_F {Γ : mm_G} {l : Launch} {M : mm_M} {d : Nat} {D : mm_D} {pc : Nat} {ls : mm_L} {st : List Value} {h : mm_H} {x : Int32} {off : Int} {tgt : Nat} (hd : decode M.2.1 pc = .ok (.ifCond .le off, 3)) (ht : (pc : Int) + off = (tgt : Int)) (hq : ¬ x ≤ 0) (k : mm_W Γ l M d D (pc + 3) ls (st) h) : mm_W Γ l M d D (pc) ls (.int x :: st) h :=
  mm_if_le hd ht (fun q => absurd q hq) (fun _ => k)
theorem mm_icmp_le_T {Γ : mm_G} {l : Launch} {M : mm_M} {d : Nat} {D : mm_D} {pc : Nat} {ls : mm_L} {st : List Value} {h : mm_H} {x y : Int32} {off : Int} {tgt : Nat} (hd : decode M.2.1 pc = .ok (.if_icmp .le off, 3)) (ht : (pc : Int) + off = (tgt : Int)) (hq : x ≤ y) (k : mm_W Γ l M d D (tgt) ls (st) h) : mm_W Γ l M d D (pc) ls (.int y :: .int x :: st) h :=
  mm_icmp_le hd ht (fun _ => k) (fun q => absurd hq q)
theorem mm_icmp_le_F {Γ : mm_G} {l : Launch} {M : mm_M} {d : Nat} {D : mm_D} {pc : Nat} {ls : mm_L} {st : List Value} {h : mm_H} {x y : Int32} {off : Int} {tgt : Nat} (hd : decode M.2.1 pc = .ok (.if_icmp .le off, 3)) (ht : (pc : Int) + off = (tgt : Int)) (hq : ¬ x ≤ y) (k : mm_W Γ l M d D (pc + 3) ls (st) h) : mm_W Γ l M d D (pc) ls (.int y :: .int x :: st) h :=
  mm_icmp_le hd ht (fun q => absurd q hq) (fun _ => k)
end
section
/-! The class's sheets as mathematics: where each spot, cut, line lies; signs; hooks. -/
abbrev ks_S : Type := (Nat → Option Nat) × (Nat → Option Nat) × (Nat → Option Nat) × (Nat → Nat) × (Nat → Option Nat)
def ks_u (f : Nat → Option Nat) (j : Nat) (o : Option Nat) : Nat → Option Nat := fun i => if i = j then o else f i
def ks_row (S : ks_S) (k : Nat) : Nat → Option Nat := match k with
  | 0 => S.1
  | 1 => S.2.1
  | _ => S.2.2.1
def ks_put (S : ks_S) (k : Nat) (f : Nat → Option Nat) : ks_S := match k with
  | 0 => (f, S.2)
  | 1 => (S.1, f, S.2.2)
  | _ => (S.1, S.2.1, f, S.2.2.2)
def ks_len (k : Nat) : Nat := match k with
  | 0 => 12
  | 1 => 13
  | _ => 6
theorem ks_len_le (k : Nat) : ks_len k ≤ 13 := by
  match k with
  | 0 => decide
  | 1 => decide
  | _ + 2 => show 6 ≤ 13; decide
/-- numbers in range -/
def ks_ok (S : ks_S) : Prop := (∀ k i n, i < ks_len k → ks_row S k i = some n → n < 13) ∧ (∀ i, i < 12 → S.2.2.2.1 i < 4) ∧ (∀ i n, i < 24 → S.2.2.2.2 i = some n → n < 6) ∧ S.2.1 0 = none
def ks_arr (n : Nat) (f : Nat → Option Nat) : mm_E := .inl (0, n, .inl (fun i => mm_enc (f i)))
def ks_obj (b : Nat) : mm_E := .inr (3, [.ref (b + 1), .ref (b + 2), .ref (b + 3), .ref (b + 4), .ref (b + 5)])
/-- the sheet S lies at b in the picture -/
def ks_at (h : mm_H) (b : Nat) (S : ks_S) : Prop := h.2.2 b = some (ks_obj b) ∧ h.2.2 (b + 1) = some (ks_arr 12 S.1) ∧ h.2.2 (b + 2) = some (ks_arr 13 S.2.1) ∧ h.2.2 (b + 3) = some (ks_arr 6 S.2.2.1) ∧ h.2.2 (b + 4) = some (.inl (0, 12, .inl (fun i => nI (S.2.2.2.1 i)))) ∧ h.2.2 (b + 5) = some (ks_arr 24 S.2.2.2.2)
/-- .. is laid there -/
def ks_set (h : mm_H) (b : Nat) (S : ks_S) : mm_H := mm_up (mm_up (mm_up (mm_up (mm_up h (b + 1) (ks_arr 12 S.1)) (b + 2) (ks_arr 13 S.2.1)) (b + 3) (ks_arr 6 S.2.2.1)) (b + 4) (.inl (0, 12, .inl (fun i => nI (S.2.2.2.1 i))))) (b + 5) (ks_arr 24 S.2.2.2.2)
theorem ks_set_1 (h : mm_H) (b : Nat) (S : ks_S) : (ks_set h b S).1 = h.1 := rfl
theorem ks_set_2 (h : mm_H) (b : Nat) (S : ks_S) : (ks_set h b S).2.1 = h.2.1 := rfl
theorem ks_set_q (h : mm_H) (b : Nat) (S : ks_S) (q : Nat) : (ks_set h b S).2.2 q = if q = b + 5 then some (ks_arr 24 S.2.2.2.2) else if q = b + 4 then some (.inl (0, 12, .inl (fun i => nI (S.2.2.2.1 i)))) else if q = b + 3 then some (ks_arr 6 S.2.2.1) else if q = b + 2 then some (ks_arr 13 S.2.1) else if q = b + 1 then some (ks_arr 12 S.1) else h.2.2 q := rfl
theorem ks_set_out (h : mm_H) (b : Nat) (S : ks_S) {q : Nat} (hq : q ≤ b ∨ b + 5 < q) : (ks_set h b S).2.2 q = h.2.2 q := by
  rw [ks_set_q, if_neg (by omega), if_neg (by omega), if_neg (by omega), if_neg (by omega), if_neg (by omega)]
theorem ks_set_at {h : mm_H} {b : Nat} (S : ks_S) (hb : h.2.2 b = some (ks_obj b)) : ks_at (ks_set h b S) b S := by
  refine ⟨by rw [ks_set_out _ _ _ (by omega)]; exact hb, ?_, ?_, ?_, ?_, ?_⟩
  · rw [ks_set_q, if_neg (by omega), if_neg (by omega), if_neg (by omega), if_neg (by omega), if_pos rfl]
  · rw [ks_set_q, if_neg (by omega), if_neg (by omega), if_neg (by omega), if_pos rfl]
  · rw [ks_set_q, if_neg (by omega), if_neg (by omega), if_pos rfl]
  · rw [ks_set_q, if_neg (by omega), if_pos rfl]
  · rw [ks_set_q, if_pos rfl]
theorem ks_set_ext {h g : mm_H} (h1 : h.1 = g.1) (h2 : h.2.1 = g.2.1) (hq : ∀ q, h.2.2 q = g.2.2 q) : h = g := Prod.ext h1 (Prod.ext h2 (funext hq))
theorem ks_at_set {h : mm_H} {b : Nat} {S : ks_S} (a : ks_at h b S) : ks_set h b S = h := by
  obtain ⟨a0, a1, a2, a3, a4, a5⟩ := a
  refine ks_set_ext rfl rfl fun q => ?_
  rw [ks_set_q]
  by_cases q5 : q = b + 5
  · rw [if_pos q5, q5, a5]
  rw [if_neg q5]
  by_cases q4 : q = b + 4
  · rw [if_pos q4, q4, a4]
  rw [if_neg q4]
  by_cases q3 : q = b + 3
  · rw [if_pos q3, q3, a3]
  rw [if_neg q3]
  by_cases q2 : q = b + 2
  · rw [if_pos q2, q2, a2]
  rw [if_neg q2]
  by_cases q1 : q = b + 1
  · rw [if_pos q1, q1, a1]
  rw [if_neg q1]
theorem ks_set_set (h : mm_H) (b : Nat) (S S' : ks_S) : ks_set (ks_set h b S) b S' = ks_set h b S' := by
  refine ks_set_ext rfl rfl fun q => ?_
  rw [ks_set_q h b S' q, ks_set_q (ks_set h b S) b S' q]
  by_cases q5 : q = b + 5
  · rw [if_pos q5, if_pos q5]
  rw [if_neg q5, if_neg q5]
  by_cases q4 : q = b + 4
  · rw [if_pos q4, if_pos q4]
  rw [if_neg q4, if_neg q4]
  by_cases q3 : q = b + 3
  · rw [if_pos q3, if_pos q3]
  rw [if_neg q3, if_neg q3]
  by_cases q2 : q = b + 2
  · rw [if_pos q2, if_pos q2]
  rw [if_neg q2, if_neg q2]
  by_cases q1 : q = b + 1
  · rw [if_pos q1, if_pos q1]
  rw [if_neg q1, if_neg q1, ks_set_out _ _ _ (by omega)]
theorem ks_at.row {h : mm_H} {b : Nat} {S : ks_S} (a : ks_at h b S) {k : Nat} (hk : k < 3) : h.2.2 (b + 1 + k) = some (ks_arr (ks_len k) (ks_row S k)) := by
  match k, hk with
  | 0, _ => exact a.2.1
  | 1, _ => exact a.2.2.1
  | 2, _ => exact a.2.2.2.1
  | n + 3, h => exact absurd h (by omega)
theorem ks_u_enc (f : Nat → Option Nat) (j : Nat) (o : Option Nat) : upd (fun i => mm_enc (f i)) j (mm_enc o) = fun i => mm_enc (ks_u f j o i) := by
  funext i
  by_cases hi : i = j
  · simp [upd, ks_u, hi]
  · simp [upd, ks_u, hi]
/-- one row is laid anew -/
theorem ks_up_row {h : mm_H} {b : Nat} {S : ks_S} (a : ks_at h b S) {k : Nat} (hk : k < 3) (f : Nat → Option Nat) : mm_up h (b + 1 + k) (ks_arr (ks_len k) f) = ks_set h b (ks_put S k f) := by
  obtain ⟨a0, a1, a2, a3, a4, a5⟩ := a
  refine ks_set_ext rfl rfl fun q => ?_
  rw [ks_set_q]
  match k, hk with
  | 0, _ =>
    show (if q = b + 1 + 0 then _ else _) = _
    by_cases q1 : q = b + 1
    · rw [if_pos q1, if_neg (by omega), if_neg (by omega), if_neg (by omega), if_neg (by omega), if_pos q1]; rfl
    rw [if_neg q1]
    by_cases q5 : q = b + 5
    · rw [if_pos q5, q5, a5]; rfl
    rw [if_neg q5]
    by_cases q4 : q = b + 4
    · rw [if_pos q4, q4, a4]; rfl
    rw [if_neg q4]
    by_cases q3 : q = b + 3
    · rw [if_pos q3, q3, a3]; rfl
    rw [if_neg q3]
    by_cases q2 : q = b + 2
    · rw [if_pos q2, q2, a2]; rfl
    rw [if_neg q2, if_neg q1]
  | 1, _ =>
    show (if q = b + 1 + 1 then _ else _) = _
    by_cases q2 : q = b + 2
    · rw [if_pos q2, if_neg (by omega), if_neg (by omega), if_neg (by omega), if_pos q2]; rfl
    rw [if_neg q2]
    by_cases q5 : q = b + 5
    · rw [if_pos q5, q5, a5]; rfl
    rw [if_neg q5]
    by_cases q4 : q = b + 4
    · rw [if_pos q4, q4, a4]; rfl
    rw [if_neg q4]
    by_cases q3 : q = b + 3
    · rw [if_pos q3, q3, a3]; rfl
    rw [if_neg q3, if_neg q2]
    by_cases q1 : q = b + 1
    · rw [if_pos q1, q1, a1]; rfl
    rw [if_neg q1]
  | 2, _ =>
    show (if q = b + 1 + 2 then _ else _) = _
    by_cases q3 : q = b + 3
    · rw [if_pos q3, if_neg (by omega), if_neg (by omega), if_pos q3]; rfl
    rw [if_neg q3]
    by_cases q5 : q = b + 5
    · rw [if_pos q5, q5, a5]; rfl
    rw [if_neg q5]
    by_cases q4 : q = b + 4
    · rw [if_pos q4, q4, a4]; rfl
    rw [if_neg q4, if_neg q3]
    by_cases q2 : q = b + 2
    · rw [if_pos q2, q2, a2]; rfl
    rw [if_neg q2]
    by_cases q1 : q = b + 1
    · rw [if_pos q1, q1, a1]; rfl
    rw [if_neg q1]
  | n + 3, h => exact absurd h (by omega)
theorem ks_up_sign {h : mm_H} {b : Nat} {S : ks_S} (a : ks_at h b S) (f : Nat → Nat) : mm_up h (b + 4) (.inl (0, 12, .inl (fun i => nI (f i)))) = ks_set h b (S.1, S.2.1, S.2.2.1, f, S.2.2.2.2) := by
  obtain ⟨a0, a1, a2, a3, a4, a5⟩ := a
  refine ks_set_ext rfl rfl fun q => ?_
  rw [ks_set_q]
  show (if q = b + 4 then _ else _) = _
  by_cases q4 : q = b + 4
  · rw [if_pos q4, if_neg (by omega), if_pos q4]
  rw [if_neg q4]
  by_cases q5 : q = b + 5
  · rw [if_pos q5, q5, a5]
  rw [if_neg q5, if_neg q4]
  by_cases q3 : q = b + 3
  · rw [if_pos q3, q3, a3]
  rw [if_neg q3]
  by_cases q2 : q = b + 2
  · rw [if_pos q2, q2, a2]
  rw [if_neg q2]
  by_cases q1 : q = b + 1
  · rw [if_pos q1, q1, a1]
  rw [if_neg q1]
theorem ks_up_hook {h : mm_H} {b : Nat} {S : ks_S} (a : ks_at h b S) (f : Nat → Option Nat) : mm_up h (b + 5) (ks_arr 24 f) = ks_set h b (S.1, S.2.1, S.2.2.1, S.2.2.2.1, f) := by
  obtain ⟨a0, a1, a2, a3, a4, a5⟩ := a
  refine ks_set_ext rfl rfl fun q => ?_
  rw [ks_set_q]
  show (if q = b + 5 then _ else _) = _
  by_cases q5 : q = b + 5
  · rw [if_pos q5, if_pos q5]
  rw [if_neg q5, if_neg q5]
  by_cases q4 : q = b + 4
  · rw [if_pos q4, q4, a4]
  rw [if_neg q4]
  by_cases q3 : q = b + 3
  · rw [if_pos q3, q3, a3]
  rw [if_neg q3]
  by_cases q2 : q = b + 2
  · rw [if_pos q2, q2, a2]
  rw [if_neg q2]
  by_cases q1 : q = b + 1
  · rw [if_pos q1, q1, a1]
  rw [if_neg q1]
end
section
/-! What the methods of Sheet answer. -/
def ks_has (S : ks_S) (k n : Nat) : Bool := decide (k < 3) && (decide (n < ks_len k) && (ks_row S k n).isSome)
def ks_hasI (S : ks_S) (k n : Int32) : Bool := decide (0 ≤ k) && (decide (0 ≤ n) && ks_has S k.toNatClampNeg n.toNatClampNeg)
def ks_areaI (S : ks_S) (k n : Int32) : Option Nat := if ks_hasI S k n then ks_row S k.toNatClampNeg n.toNatClampNeg else none
def ks_partI (S : ks_S) (k n : Int32) : Bool := decide (¬ k = nI 2) && ks_hasI S k n
def ks_harI (S : ks_S) (n : Int32) : Bool := decide (n = 0) || ks_hasI S (nI 1) n
theorem ks_nn {x : Int32} (h : 0 ≤ x) : ∃ n : Nat, n < 2 ^ 31 ∧ x = nI n ∧ x.toNatClampNeg = n := by
  have h' : ¬ x < 0 := by
    intro hx
    have h1 := Int32.le_iff_toInt_le.mp h
    have h2 := Int32.lt_iff_toInt_lt.mp hx
    omega
  obtain ⟨j, hj, rfl⟩ := nI_of h'
  exact ⟨j, hj, rfl, nI_clamp hj⟩
theorem ks_neg {x : Int32} (h : ¬ 0 ≤ x) : x < 0 := by
  rw [Int32.le_iff_toInt_le] at h
  rw [Int32.lt_iff_toInt_lt]
  omega
theorem ks_nneg {x : Int32} (h : ¬ x < 0) : 0 ≤ x := by
  rw [Int32.lt_iff_toInt_lt] at h
  rw [Int32.le_iff_toInt_le]
  omega
theorem ks_hasI_n {S : ks_S} {k n : Nat} (hk : k < 2 ^ 31) (hn : n < 2 ^ 31) : ks_hasI S (nI k) (nI n) = ks_has S k n := by
  unfold ks_hasI
  rw [decide_eq_true (nI_pos' hk), decide_eq_true (nI_pos' hn), nI_clamp hk, nI_clamp hn]
  rfl
theorem ks_has_iff {S : ks_S} {k n : Nat} : ks_has S k n = true ↔ k < 3 ∧ n < ks_len k ∧ ∃ a, ks_row S k n = some a := by
  unfold ks_has
  rw [Bool.and_eq_true, Bool.and_eq_true, decide_eq_true_eq, decide_eq_true_eq, Option.isSome_iff_exists]
theorem ks_hasI_true {S : ks_S} {k n : Int32} (h : ks_hasI S k n = true) : ∃ k' n' a : Nat, k = nI k' ∧ n = nI n' ∧ k' < 3 ∧ n' < ks_len k' ∧ ks_row S k' n' = some a := by
  unfold ks_hasI at h
  rw [Bool.and_eq_true, Bool.and_eq_true, decide_eq_true_eq, decide_eq_true_eq] at h
  obtain ⟨h1, h2, h3⟩ := h
  obtain ⟨k', hk, e1, e2⟩ := ks_nn h1
  obtain ⟨n', hn, e3, e4⟩ := ks_nn h2
  rw [e2, e4] at h3
  obtain ⟨a1, a2, a, a3⟩ := ks_has_iff.mp h3
  exact ⟨k', n', a, e1, e3, a1, a2, a3⟩
theorem ks_areaI_n {S : ks_S} {k n : Nat} (hk : k < 2 ^ 31) (hn : n < 2 ^ 31) : ks_areaI S (nI k) (nI n) = if ks_has S k n then ks_row S k n else none := by
  unfold ks_areaI
  rw [ks_hasI_n hk hn, nI_clamp hk, nI_clamp hn]
/-- steps up from an area -/
def ks_ups (S : ks_S) : Nat → Option Nat → Nat
  | 0, _ => 0
  | _ + 1, none => 0
  | f + 1, some a => ks_ups S f (S.2.1 a) + 1
def ks_depth (S : ks_S) (a : Int32) : Nat := ks_ups S 12 (ks_areaI S (nI 1) a)
/-- the outer one is met on the way up -/
def ks_meets (S : ks_S) (o : Option Nat) : Nat → Option Nat → Bool
  | 0, _ => false
  | _ + 1, none => false
  | f + 1, some a => if some a = o then true else ks_meets S o f (S.2.1 a)
def ks_in (S : ks_S) (a o : Option Nat) : Bool := ks_meets S o 13 a
/-- the areas within one, as a set -/
def ks_inside (S : ks_S) (o : Option Nat) : Nat → Bool := fun a => ks_harI S (nI a) && ks_in S (some a) o
def ks_mask (S : ks_S) (o : Option Nat) : Nat := kb_mask (ks_inside S o) 13
/-- how many of the first n lie in a set of areas -/
def ks_cnt (f : Nat → Option Nat) (m : Nat) : Nat → Nat
  | 0 => 0
  | n + 1 => ks_cnt f m n + (match f n with
    | some a => if m.testBit a then 1 else 0
    | none => 0)
def ks_many (S : ks_S) (k m : Nat) : Nat := ks_cnt (ks_row S k) m (ks_len k)
theorem ks_cnt_le (f : Nat → Option Nat) (m n : Nat) : ks_cnt f m n ≤ n := by
  induction n with
  | zero => exact Nat.le_refl _
  | succ n ih =>
    simp only [ks_cnt]
    cases f n with
    | none => show ks_cnt f m n + 0 ≤ n + 1; omega
    | some a =>
      show ks_cnt f m n + (if m.testBit a then 1 else 0) ≤ n + 1
      by_cases h : m.testBit a = true
      · rw [if_pos h]; omega
      · rw [if_neg h]; omega
/-- the first free number from i on, among k -/
def ks_free (f : Nat → Option Nat) : Nat → Nat → Option Nat
  | _, 0 => none
  | i, k + 1 => if f i = none then some i else ks_free f (i + 1) k
def ks_least (k : Nat) : Nat := if k = 1 then 1 else 0
def ks_slot (S : ks_S) (k : Nat) : Option Nat := ks_free (ks_row S k) (ks_least k) (ks_len k - ks_least k)
def ks_add (S : ks_S) (k : Nat) (a : Option Nat) : ks_S := match ks_slot S k with
  | some j => ks_put S k (ks_u (ks_row S k) j a)
  | none => S
/-- all that lies in some areas comes into another -/
def ks_move (f : Nat → Option Nat) (m : Nat) (t : Option Nat) (n : Nat) : Nat → Option Nat := fun i => if i < n then (match f i with
    | some a => if m.testBit a then t else some a
    | none => none) else f i
def ks_am (m : Nat) (o : Option Nat) : Bool := match o with
  | none => false
  | some a => m.testBit a
/-- one of k numbers from i on -/
def ks_any (p : Nat → Bool) : Nat → Nat → Bool
  | _, 0 => false
  | i, k + 1 => if p i then true else ks_any p (i + 1) k
theorem ks_any_iff {p : Nat → Bool} {i k : Nat} : ks_any p i k = true ↔ ∃ j, i ≤ j ∧ j < i + k ∧ p j = true := by
  induction k generalizing i with
  | zero => exact ⟨fun h => (nomatch h), fun ⟨j, h1, h2, _⟩ => absurd h2 (by omega)⟩
  | succ k ih =>
    simp only [ks_any]
    by_cases h : p i = true
    · rw [if_pos h]
      exact ⟨fun _ => ⟨i, Nat.le_refl _, by omega, h⟩, fun _ => rfl⟩
    · rw [if_neg h, ih]
      constructor
      · rintro ⟨j, h1, h2, h3⟩
        exact ⟨j, by omega, by omega, h3⟩
      · rintro ⟨j, h1, h2, h3⟩
        have hj : j ≠ i := fun e => h (by rw [← e]; exact h3)
        exact ⟨j, by omega, by omega, h3⟩
def ks_hookAt (S : ks_S) (ln i : Nat) : Bool := decide (¬ S.1 i = none) && (decide (S.2.2.2.2 (2 * i) = some ln) || decide (S.2.2.2.2 (2 * i + 1) = some ln))
def ks_hooked (S : ks_S) (ln : Nat) : Bool := ks_any (ks_hookAt S ln) 0 12
def ks_reach (S : ks_S) (ln : Int32) (o : Option Nat) : Bool := ks_hasI S (nI 2) ln && ks_in S o (ks_areaI S (nI 2) ln)
def ks_freeN (S : ks_S) (k : Nat) : Nat := ks_len k - ks_least k - ks_many S k 8191
theorem ks_cnt_le0 {f : Nat → Option Nat} (h0 : f 0 = none) (m n : Nat) : ks_cnt f m (n + 1) ≤ n := by
  induction n with
  | zero => simp [ks_cnt, h0]
  | succ n ih =>
    have e : ks_cnt f m (n + 1 + 1) = ks_cnt f m (n + 1) + (match f (n + 1) with
      | some a => if m.testBit a then 1 else 0
      | none => 0) := rfl
    rw [e]
    cases f (n + 1) with
    | none => show ks_cnt f m (n + 1) + 0 ≤ n + 1; omega
    | some a =>
      show ks_cnt f m (n + 1) + (if m.testBit a then 1 else 0) ≤ n + 1
      by_cases h : m.testBit a = true
      · rw [if_pos h]; omega
      · rw [if_neg h]; omega
theorem ks_many_le {S : ks_S} (o : ks_ok S) (k m : Nat) : ks_many S k m + ks_least k ≤ ks_len k := by
  match k with
  | 0 =>
    have := ks_cnt_le S.1 m 12
    show ks_cnt S.1 m 12 + (if 0 = 1 then 1 else 0) ≤ 12
    rw [if_neg (by decide)]
    exact this
  | 1 =>
    have := ks_cnt_le0 (f := S.2.1) o.2.2.2 m 12
    show ks_cnt S.2.1 m 13 + (if 1 = 1 then 1 else 0) ≤ 13
    rw [if_pos rfl]
    exact Nat.succ_le_succ this
  | n + 2 =>
    have := ks_cnt_le S.2.2.1 m 6
    show ks_cnt S.2.2.1 m 6 + (if n + 2 = 1 then 1 else 0) ≤ 6
    rw [if_neg (by omega)]
    exact this
end
section
/-! Contracts of Sheet: what only reads. Printed by wip/whole/spec/s1.py -/
theorem mm_f0 {X : Bool} {h : mm_H} (e : X = false) : mm_is (.inl (some (.int (mm_bI X)))) h (.inl (some (.int (nI 0)))) h := ⟨by rw [e]; rfl, rfl⟩
theorem mm_f1 {X : Bool} {h : mm_H} (e : X = true) : mm_is (.inl (some (.int (mm_bI X)))) h (.inl (some (.int (nI 1)))) h := ⟨by rw [e]; rfl, rfl⟩
theorem ks_lt3 {k : Int32} (h1 : ¬ k < 0) (h2 : ¬ nI 3 ≤ k) : ∃ k' : Nat, k' < 3 ∧ k = nI k' := by
  obtain ⟨j, hj, rfl⟩ := nI_of h1
  rw [nI_leI (by decide) hj] at h2
  exact ⟨j, by omega, rfl⟩
theorem ks_ok.sm {S : ks_S} (o : ks_ok S) {k i : Nat} (hi : i < ks_len k) : mm_sm (ks_row S k i) := fun n e => by
  have := o.1 k i n hi e
  omega
theorem ks_has_f1 {S : ks_S} {k n : Int32} (h : k < 0) : ks_hasI S k n = false := by
  have h' : ¬ 0 ≤ k := fun q => by
    have h1 := Int32.le_iff_toInt_le.mp q
    have h2 := Int32.lt_iff_toInt_lt.mp h
    omega
  unfold ks_hasI
  rw [decide_eq_false h']
  rfl
theorem ks_has_f3 {S : ks_S} {k n : Int32} (h : n < 0) : ks_hasI S k n = false := by
  have h' : ¬ 0 ≤ n := fun q => by
    have h1 := Int32.le_iff_toInt_le.mp q
    have h2 := Int32.lt_iff_toInt_lt.mp h
    omega
  unfold ks_hasI
  rw [decide_eq_false h']
  simp
theorem ks_has_f2 {S : ks_S} {k n : Int32} (h1 : ¬ k < 0) (h : nI 3 ≤ k) : ks_hasI S k n = false := by
  obtain ⟨j, hj, rfl⟩ := nI_of h1
  rw [nI_leI (by decide) hj] at h
  unfold ks_hasI ks_has
  rw [nI_clamp hj, decide_eq_false (show ¬ j < 3 by omega)]
  simp
theorem ks_has_f4 {S : ks_S} {k n : Nat} (hk : k < 3) (hn : n < 2 ^ 31) (h : ks_len k ≤ n) : ks_hasI S (nI k) (nI n) = false := by
  rw [ks_hasI_n (by omega) hn]
  unfold ks_has
  rw [decide_eq_false (show ¬ n < ks_len k by omega)]
  simp
theorem ks_has_f5 {S : ks_S} {k n : Nat} (hk : k < 3) (hn : n < 2 ^ 31) (h : ks_row S k n = none) : ks_hasI S (nI k) (nI n) = false := by
  rw [ks_hasI_n (by omega) hn]
  unfold ks_has
  rw [h]
  simp
theorem ks_has_t {S : ks_S} {k n : Nat} (hk : k < 3) (hn : n < ks_len k) (h : ¬ ks_row S k n = none) : ks_hasI S (nI k) (nI n) = true := by
  have := ks_len_le k
  rw [ks_hasI_n (by omega) (by omega)]
  refine ks_has_iff.mpr ⟨hk, hn, ?_⟩
  cases hx : ks_row S k n with
  | none => exact absurd hx h
  | some a => exact ⟨a, rfl⟩
section KS1
variable {Γ : mm_G} {l : Launch} {d : Nat} {h : mm_H} {b : Nat} {S : ks_S}
theorem kS_areas (a : ks_at h b S) {k : Nat} (hk : k < 3) : mm_Ev Γ l d mS_areas [.ref b, .int (nI k)] h (mm_is (.inl (some (.ref (b + 1 + k)))) h) := by
  obtain rfl | rfl | rfl : k = 0 ∨ k = 1 ∨ k = 2 := by omega
  · show mm_W Γ l mS_areas d _ 0 [some (.ref b), some (.int (nI 0))] [] h
    refine mm_iload_n dS_areas_0 rfl rfl ?_
    refine mm_if_ne_F (tgt := 9) dS_areas_1 (by decide) rfl ?_
    refine mm_aload_n dS_areas_4 rfl rfl ?_
    refine mm_getf dS_areas_5 fS_9 a.1 rfl ?_
    refine mm_areturn dS_areas_8 rfl (Or.inr ⟨_, rfl⟩) ?_
    exact ⟨rfl, rfl⟩
  · show mm_W Γ l mS_areas d _ 0 [some (.ref b), some (.int (nI 1))] [] h
    refine mm_iload_n dS_areas_0 rfl rfl ?_
    refine mm_if_ne_T (tgt := 9) dS_areas_1 (by decide) (by decide) ?_
    refine mm_iload_n dS_areas_9 rfl rfl ?_
    refine mm_iconst (v := nI 1) dS_areas_10 (by decide) ?_
    refine mm_icmp_ne_F (tgt := 21) dS_areas_11 (by decide) rfl ?_
    refine mm_aload_n dS_areas_14 rfl rfl ?_
    refine mm_getf dS_areas_15 fS_15 a.1 rfl ?_
    refine mm_goto (tgt := 25) dS_areas_18 (by decide) ?_
    refine mm_areturn dS_areas_25 rfl (Or.inr ⟨_, rfl⟩) ?_
    exact ⟨rfl, rfl⟩
  · show mm_W Γ l mS_areas d _ 0 [some (.ref b), some (.int (nI 2))] [] h
    refine mm_iload_n dS_areas_0 rfl rfl ?_
    refine mm_if_ne_T (tgt := 9) dS_areas_1 (by decide) (by decide) ?_
    refine mm_iload_n dS_areas_9 rfl rfl ?_
    refine mm_iconst (v := nI 1) dS_areas_10 (by decide) ?_
    refine mm_icmp_ne_T (tgt := 21) dS_areas_11 (by decide) (by decide) ?_
    refine mm_aload_n dS_areas_21 rfl rfl ?_
    refine mm_getf dS_areas_22 fS_18 a.1 rfl ?_
    refine mm_areturn dS_areas_25 rfl (Or.inr ⟨_, rfl⟩) ?_
    exact ⟨rfl, rfl⟩
theorem kS_least {k : Nat} (hk : k < 3) : mm_Ev Γ l d mS_leastNumber [.ref b, .int (nI k)] h (mm_is (.inl (some (.int (nI (ks_least k))))) h) := by
  show mm_W Γ l mS_leastNumber d _ 0 [some (.ref b), some (.int (nI k))] [] h
  refine mm_iload_n dS_leastNumber_0 rfl rfl ?_
  refine mm_iconst (v := nI 1) dS_leastNumber_1 (by decide) ?_
  refine mm_icmp_ne_n (tgt := 9) dS_leastNumber_2 (by decide) (by omega) (by decide) (fun q2 => ?_) (fun q2 => ?_)
  · refine mm_iconst (v := nI 0) dS_leastNumber_9 (by decide) ?_
    refine mm_ireturn dS_leastNumber_10 rfl ?_
    exact ⟨by simp [ks_least, q2], rfl⟩
  · refine mm_iconst (v := nI 1) dS_leastNumber_5 (by decide) ?_
    refine mm_goto (tgt := 10) dS_leastNumber_6 (by decide) ?_
    refine mm_ireturn dS_leastNumber_10 rfl ?_
    exact ⟨by simp [ks_least, q2], rfl⟩
theorem kS_has (a : ks_at h b S) (o : ks_ok S) (k n : Int32) : mm_Ev Γ l (d + 1) mS_has [.ref b, .int k, .int n] h (mm_is (.inl (some (.int (mm_bI (ks_hasI S k n))))) h) := by
  show mm_W Γ l mS_has (d + 1) _ 0 [some (.ref b), some (.int k), some (.int n)] [] h
  refine mm_iload_n dS_has_0 rfl rfl ?_
  refine mm_if_lt (tgt := 38) dS_has_1 (by decide) (fun q1 => ?_) (fun q1 => ?_)
  · refine mm_iconst (v := nI 0) dS_has_38 (by decide) ?_
    refine mm_zreturn dS_has_39 rfl rfl ?_
    exact mm_f0 (ks_has_f1 q1)
  · refine mm_iload_n dS_has_4 rfl rfl ?_
    refine mm_iconst (v := nI 3) dS_has_5 (by decide) ?_
    refine mm_icmp_ge (tgt := 38) dS_has_6 (by decide) (fun q6 => ?_) (fun q6 => ?_)
    · refine mm_iconst (v := nI 0) dS_has_38 (by decide) ?_
      refine mm_zreturn dS_has_39 rfl rfl ?_
      exact mm_f0 (ks_has_f2 q1 q6)
    · obtain ⟨k, hk, rfl⟩ := ks_lt3 q1 q6
      refine mm_iload_n dS_has_9 rfl rfl ?_
      refine mm_if_lt (tgt := 38) dS_has_10 (by decide) (fun q10 => ?_) (fun q10 => ?_)
      · refine mm_iconst (v := nI 0) dS_has_38 (by decide) ?_
        refine mm_zreturn dS_has_39 rfl rfl ?_
        exact mm_f0 (ks_has_f3 q10)
      · obtain ⟨n, hn, rfl⟩ := nI_of q10
        refine mm_iload_n dS_has_13 rfl rfl ?_
        refine mm_aload_n dS_has_14 rfl rfl ?_
        refine mm_iload_n dS_has_15 rfl rfl ?_
        refine mm_v1 dS_has_16 lS_33 a.1 rfl (by decide) (Nat.le_of_ble_eq_true rfl) (kS_areas a hk) ?_
        refine mm_alen dS_has_19 (a.row hk) (by decide) rfl ?_
        refine mm_icmp_ge_n (tgt := 38) dS_has_20 (by decide) hn (by have := ks_len_le k; omega) (fun q20 => ?_) (fun q20 => ?_)
        · refine mm_iconst (v := nI 0) dS_has_38 (by decide) ?_
          refine mm_zreturn dS_has_39 rfl rfl ?_
          exact mm_f0 (ks_has_f4 hk hn q20)
        · refine mm_aload_n dS_has_23 rfl rfl ?_
          refine mm_iload_n dS_has_24 rfl rfl ?_
          refine mm_v1 dS_has_25 lS_33 a.1 rfl (by decide) (Nat.le_of_ble_eq_true rfl) (kS_areas a hk) ?_
          refine mm_iload_n dS_has_28 rfl rfl ?_
          refine mm_iaload dS_has_29 (a.row hk) rfl q20 (by have := ks_len_le k; omega) ?_
          refine mm_iconst (v := -1) dS_has_30 (by decide) ?_
          refine mm_icmp_eq_o (tgt := 38) dS_has_31 (by decide) (o.sm q20) (fun q31 => ?_) (fun q31 => ?_)
          · refine mm_iconst (v := nI 0) dS_has_38 (by decide) ?_
            refine mm_zreturn dS_has_39 rfl rfl ?_
            exact mm_f0 (ks_has_f5 hk hn q31)
          · refine mm_iconst (v := nI 1) dS_has_34 (by decide) ?_
            refine mm_goto (tgt := 39) dS_has_35 (by decide) ?_
            refine mm_zreturn dS_has_39 rfl rfl ?_
            exact mm_f1 (ks_has_t hk q20 q31)
theorem kS_hasPart (a : ks_at h b S) (o : ks_ok S) (k n : Int32) : mm_Ev Γ l (d + 2) mS_hasPart [.ref b, .int k, .int n] h (mm_is (.inl (some (.int (mm_bI (ks_partI S k n))))) h) := by
  show mm_W Γ l mS_hasPart (d + 2) _ 0 [some (.ref b), some (.int k), some (.int n)] [] h
  refine mm_iload_n dS_hasPart_0 rfl rfl ?_
  refine mm_iconst (v := nI 2) dS_hasPart_1 (by decide) ?_
  refine mm_icmp_eq (tgt := 18) dS_hasPart_2 (by decide) (fun q2 => ?_) (fun q2 => ?_)
  · refine mm_iconst (v := nI 0) dS_hasPart_18 (by decide) ?_
    refine mm_zreturn dS_hasPart_19 rfl rfl ?_
    exact mm_f0 (by simp [ks_partI, q2])
  · refine mm_aload_n dS_hasPart_5 rfl rfl ?_
    refine mm_iload_n dS_hasPart_6 rfl rfl ?_
    refine mm_iload_n dS_hasPart_7 rfl rfl ?_
    refine mm_v2 dS_hasPart_8 lS_37 a.1 rfl rfl (by decide) (Nat.le_of_ble_eq_true rfl) (kS_has a o k n) ?_
    refine mm_if_eq_b (tgt := 18) dS_hasPart_11 (by decide) (fun q11 => ?_) (fun q11 => ?_)
    · refine mm_iconst (v := nI 0) dS_hasPart_18 (by decide) ?_
      refine mm_zreturn dS_hasPart_19 rfl rfl ?_
      exact mm_f0 (by simp [ks_partI, q2, q11])
    · refine mm_iconst (v := nI 1) dS_hasPart_14 (by decide) ?_
      refine mm_goto (tgt := 19) dS_hasPart_15 (by decide) ?_
      refine mm_zreturn dS_hasPart_19 rfl rfl ?_
      exact mm_f1 (by simp [ks_partI, q2, q11])
theorem kS_hasArea (a : ks_at h b S) (o : ks_ok S) (n : Int32) : mm_Ev Γ l (d + 2) mS_hasArea [.ref b, .int n] h (mm_is (.inl (some (.int (mm_bI (ks_harI S n))))) h) := by
  show mm_W Γ l mS_hasArea (d + 2) _ 0 [some (.ref b), some (.int n)] [] h
  refine mm_iload_n dS_hasArea_0 rfl rfl ?_
  refine mm_if_eq (tgt := 13) dS_hasArea_1 (by decide) (fun q1 => ?_) (fun q1 => ?_)
  · refine mm_iconst (v := nI 1) dS_hasArea_13 (by decide) ?_
    refine mm_goto (tgt := 18) dS_hasArea_14 (by decide) ?_
    refine mm_zreturn dS_hasArea_18 rfl rfl ?_
    exact mm_f1 (by simp [ks_harI, q1])
  · refine mm_aload_n dS_hasArea_4 rfl rfl ?_
    refine mm_iconst (v := nI 1) dS_hasArea_5 (by decide) ?_
    refine mm_iload_n dS_hasArea_6 rfl rfl ?_
    refine mm_v2 dS_hasArea_7 lS_37 a.1 rfl rfl (by decide) (Nat.le_of_ble_eq_true rfl) (kS_has a o (nI 1) n) ?_
    refine mm_if_eq_b (tgt := 17) dS_hasArea_10 (by decide) (fun q10 => ?_) (fun q10 => ?_)
    · refine mm_iconst (v := nI 0) dS_hasArea_17 (by decide) ?_
      refine mm_zreturn dS_hasArea_18 rfl rfl ?_
      exact mm_f0 (by simp [ks_harI, q1, q10])
    · refine mm_iconst (v := nI 1) dS_hasArea_13 (by decide) ?_
      refine mm_goto (tgt := 18) dS_hasArea_14 (by decide) ?_
      refine mm_zreturn dS_hasArea_18 rfl rfl ?_
      exact mm_f1 (by simp [ks_harI, q1, q10])
theorem kS_areaOf (a : ks_at h b S) (o : ks_ok S) (k n : Int32) : mm_Ev Γ l (d + 2) mS_areaOf [.ref b, .int k, .int n] h (mm_is (.inl (some (.int (mm_enc (ks_areaI S k n))))) h) := by
  show mm_W Γ l mS_areaOf (d + 2) _ 0 [some (.ref b), some (.int k), some (.int n)] [] h
  refine mm_aload_n dS_areaOf_0 rfl rfl ?_
  refine mm_iload_n dS_areaOf_1 rfl rfl ?_
  refine mm_iload_n dS_areaOf_2 rfl rfl ?_
  refine mm_v2 dS_areaOf_3 lS_37 a.1 rfl rfl (by decide) (Nat.le_of_ble_eq_true rfl) (kS_has a o k n) ?_
  refine mm_if_eq_b (tgt := 19) dS_areaOf_6 (by decide) (fun q6 => ?_) (fun q6 => ?_)
  · refine mm_iconst (v := -1) dS_areaOf_19 (by decide) ?_
    refine mm_ireturn dS_areaOf_20 rfl ?_
    exact ⟨by unfold ks_areaI; rw [q6]; rfl, rfl⟩
  · obtain ⟨k, n, x, rfl, rfl, hk, hn, hx⟩ := ks_hasI_true q6
    refine mm_aload_n dS_areaOf_9 rfl rfl ?_
    refine mm_iload_n dS_areaOf_10 rfl rfl ?_
    refine mm_v1 dS_areaOf_11 lS_33 a.1 rfl (by decide) (Nat.le_of_ble_eq_true rfl) (kS_areas a hk) ?_
    refine mm_iload_n dS_areaOf_14 rfl rfl ?_
    refine mm_iaload dS_areaOf_15 (a.row hk) rfl hn (by have := ks_len_le k; omega) ?_
    refine mm_goto (tgt := 20) dS_areaOf_16 (by decide) ?_
    refine mm_ireturn dS_areaOf_20 rfl ?_
    exact ⟨by have := ks_len_le k; unfold ks_areaI; rw [q6, nI_clamp (by omega), nI_clamp (by omega)]; rfl, rfl⟩
end KS1
end
section
/-! Contracts of Sheet: loops that only read. Printed by wip/whole/spec/s2.py -/
theorem mm_inc (a : Nat) : nI a + Int32.ofInt 1 = nI (a + 1) := nI_1 a
theorem mm_some {o : Option Nat} (h : ¬ o = none) : ∃ a, o = some a := by
  cases o with
  | none => exact absurd rfl h
  | some a => exact ⟨a, rfl⟩
def mm_lt (o : Option Nat) (n : Nat) : Prop := ∀ a, o = some a → a < n
theorem mm_lt.sm {o : Option Nat} {n : Nat} (h : mm_lt o n) (hn : n ≤ 2 ^ 31) : mm_sm o := fun a e => Nat.lt_of_lt_of_le (h a e) hn
theorem mm_lt_none {n : Nat} : mm_lt none n := fun _ h => nomatch h
theorem mm_lt_some {a n : Nat} (h : a < n) : mm_lt (some a) n := fun _ e => by cases e; exact h
theorem ks_ok.lt {S : ks_S} (o : ks_ok S) {k i : Nat} (hi : i < ks_len k) : mm_lt (ks_row S k i) 13 := fun n e => o.1 k i n hi e
theorem ks_ok.hk {S : ks_S} (o : ks_ok S) {i : Nat} (hi : i < 24) : mm_lt (S.2.2.2.2 i) 6 := fun n e => o.2.2.1 i n hi e
theorem ks_area_lt {S : ks_S} (o : ks_ok S) (k n : Int32) : mm_lt (ks_areaI S k n) 13 := by
  intro a e
  unfold ks_areaI at e
  by_cases hh : ks_hasI S k n = true
  · rw [if_pos hh] at e
    obtain ⟨k', n', x, rfl, rfl, h1, h2, h3⟩ := ks_hasI_true hh
    have := ks_len_le k'
    rw [nI_clamp (by omega), nI_clamp (by omega)] at e
    exact o.1 k' n' a h2 e
  · rw [if_neg hh] at e
    cases e
section KS2
variable {Γ : mm_G} {l : Launch} {d : Nat} {h : mm_H} {b : Nat} {S : ks_S}
theorem kC_isAmong {m : Nat} (hm : m < 2 ^ 31) {o : Option Nat} (ho : mm_lt o 32) : mm_Ev Γ l d mC_isAmong [.int (nI m), .int (mm_enc o)] h (mm_is (.inl (some (.int (mm_bI (ks_am m o))))) h) := by
  show mm_W Γ l mC_isAmong d _ 0 [some (.int (nI m)), some (.int (mm_enc o))] [] h
  refine mm_iload_n dC_isAmong_0 rfl rfl ?_
  refine mm_iconst (v := -1) dC_isAmong_1 (by decide) ?_
  refine mm_icmp_eq_o (tgt := 18) dC_isAmong_2 (by decide) (ho.sm (by decide)) (fun q2 => ?_) (fun q2 => ?_)
  · refine mm_iconst (v := nI 0) dC_isAmong_18 (by decide) ?_
    refine mm_zreturn dC_isAmong_19 rfl rfl ?_
    exact mm_f0 (by rw [q2]; rfl)
  · obtain ⟨a, rfl⟩ := mm_some q2
    refine mm_iload_n dC_isAmong_5 rfl rfl ?_
    refine mm_iload_n dC_isAmong_6 rfl rfl ?_
    refine mm_ishr dC_isAmong_7 ?_
    refine mm_iconst (v := nI 1) dC_isAmong_8 (by decide) ?_
    refine mm_iand dC_isAmong_9 ?_
    refine mm_top (v' := .int (nI (if m.testBit a then 1 else 0))) (congrArg Value.int (kb_one hm (ho a rfl))) ?_
    refine mm_iconst (v := nI 1) dC_isAmong_10 (by decide) ?_
    refine mm_icmp_ne_n (tgt := 18) dC_isAmong_11 (by decide) (by split <;> decide) (by decide) (fun q11 => ?_) (fun q11 => ?_)
    · refine mm_iconst (v := nI 0) dC_isAmong_18 (by decide) ?_
      refine mm_zreturn dC_isAmong_19 rfl rfl ?_
      exact mm_f0 (by cases ht : m.testBit a with | true => rw [ht] at q11; exact absurd rfl q11 | false => exact ht)
    · refine mm_iconst (v := nI 1) dC_isAmong_14 (by decide) ?_
      refine mm_goto (tgt := 19) dC_isAmong_15 (by decide) ?_
      refine mm_zreturn dC_isAmong_19 rfl rfl ?_
      exact mm_f1 (by cases ht : m.testBit a with | true => exact ht | false => rw [ht] at q11; exact absurd q11 (by decide))
theorem kS_howManyIn (a : ks_at h b S) (o : ks_ok S) {k m : Nat} (hk : k < 3) (hm : m < 2 ^ 31) : mm_Ev Γ l (d + 1) mS_howManyIn [.ref b, .int (nI k), .int (nI m)] h (mm_is (.inl (some (.int (nI (ks_many S k m))))) h) := by
  have hle := ks_len_le k
  have loop : ∀ j i : Nat, i + j = ks_len k → mm_W Γ l mS_howManyIn (d + 1) (mm_is (.inl (some (.int (nI (ks_many S k m))))) h) 5 [some (.ref b), some (.int (nI k)), some (.int (nI m)), some (.int (nI (ks_cnt (ks_row S k) m i))), some (.int (nI i))] [] h := by
    intro j
    induction j with
    | zero =>
      intro i hi
      refine mm_iload dS_howManyIn_5 rfl ?_
      refine mm_aload_n dS_howManyIn_7 rfl rfl ?_
      refine mm_iload_n dS_howManyIn_8 rfl rfl ?_
      refine mm_v1 dS_howManyIn_9 lS_33 a.1 rfl (by decide) (Nat.le_of_ble_eq_true rfl) (kS_areas a hk) ?_
      refine mm_alen dS_howManyIn_12 (a.row hk) (by decide) rfl ?_
      refine mm_icmp_ge_T (tgt := 40) dS_howManyIn_13 (by decide) (nI_le (by omega) (by omega)) ?_
      refine mm_iload_n dS_howManyIn_40 rfl rfl ?_
      refine mm_ireturn dS_howManyIn_41 rfl ?_
      exact ⟨by unfold ks_many; rw [show i = ks_len k by omega], rfl⟩
    | succ j ih =>
      intro i hi
      have q13 : i < ks_len k := by omega
      have hc : ks_cnt (ks_row S k) m (i + 1) = ks_cnt (ks_row S k) m i + (if ks_am m (ks_row S k i) = true then 1 else 0) := by
        show ks_cnt (ks_row S k) m i + _ = _
        cases ks_row S k i <;> rfl
      refine mm_iload dS_howManyIn_5 rfl ?_
      refine mm_aload_n dS_howManyIn_7 rfl rfl ?_
      refine mm_iload_n dS_howManyIn_8 rfl rfl ?_
      refine mm_v1 dS_howManyIn_9 lS_33 a.1 rfl (by decide) (Nat.le_of_ble_eq_true rfl) (kS_areas a hk) ?_
      refine mm_alen dS_howManyIn_12 (a.row hk) (by decide) rfl ?_
      refine mm_icmp_ge_F (tgt := 40) dS_howManyIn_13 (by decide) (nI_ge q13 (by omega)) ?_
      refine mm_iload_n dS_howManyIn_16 rfl rfl ?_
      refine mm_aload_n dS_howManyIn_17 rfl rfl ?_
      refine mm_iload_n dS_howManyIn_18 rfl rfl ?_
      refine mm_v1 dS_howManyIn_19 lS_33 a.1 rfl (by decide) (Nat.le_of_ble_eq_true rfl) (kS_areas a hk) ?_
      refine mm_iload dS_howManyIn_22 rfl ?_
      refine mm_iaload dS_howManyIn_24 (a.row hk) rfl q13 (by omega) ?_
      refine mm_s2 dS_howManyIn_25 lS_52 rfl rfl (by decide) (Nat.le_of_ble_eq_true rfl) (kC_isAmong hm (fun x e => Nat.lt_trans (o.lt q13 x e) (by decide))) ?_
      refine mm_if_eq_b (tgt := 34) dS_howManyIn_28 (by decide) (fun q28 => ?_) (fun q28 => ?_)
      · refine mm_iinc dS_howManyIn_34 (by decide) rfl (mm_inc _) rfl ?_
        refine mm_goto (tgt := 5) dS_howManyIn_37 (by decide) ?_
        have hh := ih (i + 1) (by omega)
        rw [hc, q28] at hh
        exact hh
      · refine mm_iinc dS_howManyIn_31 (by decide) rfl (mm_inc _) rfl ?_
        refine mm_iinc dS_howManyIn_34 (by decide) rfl (mm_inc _) rfl ?_
        refine mm_goto (tgt := 5) dS_howManyIn_37 (by decide) ?_
        have hh := ih (i + 1) (by omega)
        rw [hc, q28] at hh
        exact hh
  show mm_W Γ l mS_howManyIn (d + 1) _ 0 [some (.ref b), some (.int (nI k)), some (.int (nI m)), none, none] [] h
  refine mm_iconst (v := nI 0) dS_howManyIn_0 (by decide) ?_
  refine mm_istore_n dS_howManyIn_1 rfl (by decide) rfl ?_
  refine mm_iconst (v := nI 0) dS_howManyIn_2 (by decide) ?_
  refine mm_istore dS_howManyIn_3 (by decide) rfl ?_
  exact loop (ks_len k) 0 (by omega)
theorem kS_howMany (a : ks_at h b S) (o : ks_ok S) {k : Nat} (hk : k < 3) : mm_Ev Γ l (d + 2) mS_howMany [.ref b, .int (nI k)] h (mm_is (.inl (some (.int (nI (ks_many S k 8191))))) h) := by
  show mm_W Γ l mS_howMany (d + 2) _ 0 [some (.ref b), some (.int (nI k))] [] h
  refine mm_aload_n dS_howMany_0 rfl rfl ?_
  refine mm_iload_n dS_howMany_1 rfl rfl ?_
  refine mm_sipush (v := nI 8191) dS_howMany_2 (by decide) ?_
  refine mm_v2 dS_howMany_5 lS_41 a.1 rfl rfl (by decide) (Nat.le_of_ble_eq_true rfl) (kS_howManyIn a o hk (m := 8191) (by decide)) ?_
  refine mm_ireturn dS_howMany_8 rfl ?_
  exact ⟨rfl, rfl⟩
theorem kS_free (a : ks_at h b S) (o : ks_ok S) {k : Nat} (hk : k < 3) : mm_Ev Γ l (d + 3) mS_free [.ref b, .int (nI k)] h (mm_is (.inl (some (.int (nI (ks_freeN S k))))) h) := by
  show mm_W Γ l mS_free (d + 3) _ 0 [some (.ref b), some (.int (nI k))] [] h
  have hm := ks_many_le o k 8191
  refine mm_aload_n dS_free_0 rfl rfl ?_
  refine mm_iload_n dS_free_1 rfl rfl ?_
  refine mm_v1 dS_free_2 lS_33 a.1 rfl (by decide) (Nat.le_of_ble_eq_true rfl) (kS_areas a hk) ?_
  refine mm_alen dS_free_5 (a.row hk) (by decide) rfl ?_
  refine mm_aload_n dS_free_6 rfl rfl ?_
  refine mm_iload_n dS_free_7 rfl rfl ?_
  refine mm_v1 dS_free_8 lS_45 a.1 rfl (by decide) (Nat.le_of_ble_eq_true rfl) (kS_least hk) ?_
  refine mm_isub dS_free_11 ?_
  refine mm_aload_n dS_free_12 rfl rfl ?_
  refine mm_iload_n dS_free_13 rfl rfl ?_
  refine mm_v1 dS_free_14 lS_49 a.1 rfl (by decide) (Nat.le_of_ble_eq_true rfl) (kS_howMany a o hk) ?_
  refine mm_isub dS_free_17 ?_
  refine mm_ireturn dS_free_18 rfl ?_
  exact ⟨by unfold ks_freeN; rw [pk_sub (by omega), pk_sub (by omega)], rfl⟩
theorem kS_depthOf (a : ks_at h b S) (o : ks_ok S) (n : Int32) : mm_Ev Γ l (d + 3) mS_depthOf [.ref b, .int n] h (mm_is (.inl (some (.int (nI (ks_depth S n))))) h) := by
  have loop : ∀ (f e : Nat) (x : Option Nat), e + f = 12 → mm_lt x 13 → mm_W Γ l mS_depthOf (d + 3) (mm_is (.inl (some (.int (nI (e + ks_ups S f x))))) h) 9 [some (.ref b), some (.int n), some (.int (nI e)), some (.int (mm_enc x))] [] h := by
    intro f
    induction f with
    | zero =>
      intro e x he hx
      refine mm_iload_n dS_depthOf_9 rfl rfl ?_
      refine mm_iconst (v := -1) dS_depthOf_10 (by decide) ?_
      refine mm_icmp_eq_o (tgt := 33) dS_depthOf_11 (by decide) (hx.sm (by decide)) (fun q11 => ?_) (fun q11 => ?_)
      · refine mm_iload_n dS_depthOf_33 rfl rfl ?_
        refine mm_ireturn dS_depthOf_34 rfl ?_
        exact ⟨rfl, rfl⟩
      · refine mm_iload_n dS_depthOf_14 rfl rfl ?_
        refine mm_bipush (v := nI 12) dS_depthOf_15 (by decide) ?_
        refine mm_icmp_ge_T (tgt := 33) dS_depthOf_17 (by decide) (nI_le (by omega) (by omega)) ?_
        refine mm_iload_n dS_depthOf_33 rfl rfl ?_
        refine mm_ireturn dS_depthOf_34 rfl ?_
        exact ⟨rfl, rfl⟩
    | succ f ih =>
      intro e x he hx
      refine mm_iload_n dS_depthOf_9 rfl rfl ?_
      refine mm_iconst (v := -1) dS_depthOf_10 (by decide) ?_
      refine mm_icmp_eq_o (tgt := 33) dS_depthOf_11 (by decide) (hx.sm (by decide)) (fun q11 => ?_) (fun q11 => ?_)
      · refine mm_iload_n dS_depthOf_33 rfl rfl ?_
        refine mm_ireturn dS_depthOf_34 rfl ?_
        exact ⟨by rw [q11]; rfl, rfl⟩
      · obtain ⟨y, rfl⟩ := mm_some q11
        refine mm_iload_n dS_depthOf_14 rfl rfl ?_
        refine mm_bipush (v := nI 12) dS_depthOf_15 (by decide) ?_
        refine mm_icmp_ge_F (tgt := 33) dS_depthOf_17 (by decide) (nI_ge (by omega) (by omega)) ?_
        refine mm_iinc dS_depthOf_20 (by decide) rfl (mm_inc _) rfl ?_
        refine mm_aload_n dS_depthOf_23 rfl rfl ?_
        refine mm_getf dS_depthOf_24 fS_15 a.1 rfl ?_
        refine mm_iload_n dS_depthOf_27 rfl rfl ?_
        refine mm_iaload dS_depthOf_28 a.2.2.1 rfl (hx y rfl) (by decide) ?_
        refine mm_istore_n dS_depthOf_29 rfl (by decide) rfl ?_
        refine mm_goto (tgt := 9) dS_depthOf_30 (by decide) ?_
        have hh := ih (e + 1) (S.2.1 y) (by omega) (o.lt (k := 1) (hx y rfl))
        rw [Nat.add_right_comm] at hh
        exact hh
  show mm_W Γ l mS_depthOf (d + 3) _ 0 [some (.ref b), some (.int n), none, none] [] h
  refine mm_iconst (v := nI 0) dS_depthOf_0 (by decide) ?_
  refine mm_istore_n dS_depthOf_1 rfl (by decide) rfl ?_
  refine mm_aload_n dS_depthOf_2 rfl rfl ?_
  refine mm_iconst (v := nI 1) dS_depthOf_3 (by decide) ?_
  refine mm_iload_n dS_depthOf_4 rfl rfl ?_
  refine mm_v2 dS_depthOf_5 lS_55 a.1 rfl rfl (by decide) (Nat.le_of_ble_eq_true rfl) (kS_areaOf a o (nI 1) n) ?_
  refine mm_istore_n dS_depthOf_8 rfl (by decide) rfl ?_
  have hh := loop 12 0 (ks_areaI S (nI 1) n) rfl (ks_area_lt o _ _)
  rw [Nat.zero_add] at hh
  exact hh
theorem ks_ups_le (S : ks_S) (f : Nat) (x : Option Nat) : ks_ups S f x ≤ f := by
  induction f generalizing x with
  | zero => exact Nat.le_refl _
  | succ f ih =>
    cases x with
    | none => exact Nat.zero_le _
    | some y =>
      have := ih (S.2.1 y)
      show ks_ups S f (S.2.1 y) + 1 ≤ f + 1
      omega
def ks_odd (S : ks_S) (n : Int32) : Bool := decide (ks_depth S n % 2 = 1)
theorem kS_isOdd (a : ks_at h b S) (o : ks_ok S) (n : Int32) : mm_Ev Γ l (d + 4) mS_isOdd [.ref b, .int n] h (mm_is (.inl (some (.int (mm_bI (ks_odd S n))))) h) := by
  show mm_W Γ l mS_isOdd (d + 4) _ 0 [some (.ref b), some (.int n)] [] h
  have hd : ks_depth S n ≤ 12 := ks_ups_le _ _ _
  refine mm_aload_n dS_isOdd_0 rfl rfl ?_
  refine mm_iload_n dS_isOdd_1 rfl rfl ?_
  refine mm_v1 dS_isOdd_2 lS_58 a.1 rfl (by decide) (Nat.le_of_ble_eq_true rfl) (kS_depthOf a o n) ?_
  refine mm_iconst (v := nI 2) dS_isOdd_5 (by decide) ?_
  refine mm_irem dS_isOdd_6 (by decide) ?_
  refine mm_top (v' := .int (nI (ks_depth S n % 2))) (congrArg Value.int (pk_rem (by omega) (by decide) (by decide))) ?_
  refine mm_iconst (v := nI 1) dS_isOdd_7 (by decide) ?_
  refine mm_icmp_ne_n (tgt := 15) dS_isOdd_8 (by decide) (by omega) (by decide) (fun q8 => ?_) (fun q8 => ?_)
  · refine mm_iconst (v := nI 0) dS_isOdd_15 (by decide) ?_
    refine mm_zreturn dS_isOdd_16 rfl rfl ?_
    exact mm_f0 (by simp [ks_odd, q8])
  · refine mm_iconst (v := nI 1) dS_isOdd_11 (by decide) ?_
    refine mm_goto (tgt := 16) dS_isOdd_12 (by decide) ?_
    refine mm_zreturn dS_isOdd_16 rfl rfl ?_
    exact mm_f1 (by simp [ks_odd, q8])
theorem kS_isWithin (a : ks_at h b S) (o : ks_ok S) {x y : Option Nat} (hx : mm_lt x 13) (hy : mm_sm y) : mm_Ev Γ l d mS_isWithin [.ref b, .int (mm_enc x), .int (mm_enc y)] h (mm_is (.inl (some (.int (mm_bI (ks_in S x y))))) h) := by
  have loop : ∀ (f e : Nat) (z : Option Nat), e + f = 13 → mm_lt z 13 → mm_W Γ l mS_isWithin d (mm_is (.inl (some (.int (mm_bI (ks_meets S y f z))))) h) 5 [some (.ref b), some (.int (mm_enc x)), some (.int (mm_enc y)), some (.int (mm_enc z)), some (.int (nI e))] [] h := by
    intro f
    induction f with
    | zero =>
      intro e z he hz
      refine mm_iload dS_isWithin_5 rfl ?_
      refine mm_bipush (v := nI 13) dS_isWithin_7 (by decide) ?_
      refine mm_icmp_ge_T (tgt := 37) dS_isWithin_9 (by decide) (nI_le (by omega) (by omega)) ?_
      refine mm_iconst (v := nI 0) dS_isWithin_37 (by decide) ?_
      refine mm_zreturn dS_isWithin_38 rfl rfl ?_
      exact mm_f0 rfl
    | succ f ih =>
      intro e z he hz
      refine mm_iload dS_isWithin_5 rfl ?_
      refine mm_bipush (v := nI 13) dS_isWithin_7 (by decide) ?_
      refine mm_icmp_ge_F (tgt := 37) dS_isWithin_9 (by decide) (nI_ge (by omega) (by omega)) ?_
      refine mm_iload_n dS_isWithin_12 rfl rfl ?_
      refine mm_iconst (v := -1) dS_isWithin_13 (by decide) ?_
      refine mm_icmp_eq_o (tgt := 37) dS_isWithin_14 (by decide) (hz.sm (by decide)) (fun q14 => ?_) (fun q14 => ?_)
      · refine mm_iconst (v := nI 0) dS_isWithin_37 (by decide) ?_
        refine mm_zreturn dS_isWithin_38 rfl rfl ?_
        exact mm_f0 (by rw [q14]; rfl)
      · obtain ⟨c, rfl⟩ := mm_some q14
        refine mm_iload_n dS_isWithin_17 rfl rfl ?_
        refine mm_iload_n dS_isWithin_18 rfl rfl ?_
        refine mm_icmp_ne_e (tgt := 24) dS_isWithin_19 (by decide) (hz.sm (by decide)) hy (fun q19 => ?_) (fun q19 => ?_)
        · refine mm_aload_n dS_isWithin_24 rfl rfl ?_
          refine mm_getf dS_isWithin_25 fS_15 a.1 rfl ?_
          refine mm_iload_n dS_isWithin_28 rfl rfl ?_
          refine mm_iaload dS_isWithin_29 a.2.2.1 rfl (hz c rfl) (by decide) ?_
          refine mm_istore_n dS_isWithin_30 rfl (by decide) rfl ?_
          refine mm_iinc dS_isWithin_31 (by decide) rfl (mm_inc _) rfl ?_
          refine mm_goto (tgt := 5) dS_isWithin_34 (by decide) ?_
          have hh := ih (e + 1) (S.2.1 c) (by omega) (o.lt (k := 1) (hz c rfl))
          rw [show ks_meets S y (f + 1) (some c) = ks_meets S y f (S.2.1 c) from if_neg q19]
          exact hh
        · refine mm_iconst (v := nI 1) dS_isWithin_22 (by decide) ?_
          refine mm_zreturn dS_isWithin_23 rfl rfl ?_
          exact mm_f1 (if_pos q19)
  show mm_W Γ l mS_isWithin d _ 0 [some (.ref b), some (.int (mm_enc x)), some (.int (mm_enc y)), none, none] [] h
  refine mm_iload_n dS_isWithin_0 rfl rfl ?_
  refine mm_istore_n dS_isWithin_1 rfl (by decide) rfl ?_
  refine mm_iconst (v := nI 0) dS_isWithin_2 (by decide) ?_
  refine mm_istore dS_isWithin_3 (by decide) rfl ?_
  exact loop 13 0 x rfl hx
theorem kS_areasWithin (a : ks_at h b S) (o : ks_ok S) {y : Option Nat} (hy : mm_sm y) : mm_Ev Γ l (d + 3) mS_areasWithin [.ref b, .int (mm_enc y)] h (mm_is (.inl (some (.int (nI (ks_mask S y))))) h) := by
  have loop : ∀ j i : Nat, i + j = 13 → mm_W Γ l mS_areasWithin (d + 3) (mm_is (.inl (some (.int (nI (ks_mask S y))))) h) 4 [some (.ref b), some (.int (mm_enc y)), some (.int (nI (kb_mask (ks_inside S y) i))), some (.int (nI i))] [] h := by
    intro j
    induction j with
    | zero =>
      intro i hi
      refine mm_iload_n dS_areasWithin_4 rfl rfl ?_
      refine mm_bipush (v := nI 13) dS_areasWithin_5 (by decide) ?_
      refine mm_icmp_ge_T (tgt := 39) dS_areasWithin_7 (by decide) (nI_le (by omega) (by omega)) ?_
      refine mm_iload_n dS_areasWithin_39 rfl rfl ?_
      refine mm_ireturn dS_areasWithin_40 rfl ?_
      exact ⟨by unfold ks_mask; rw [show i = 13 by omega], rfl⟩
    | succ j ih =>
      intro i hi
      have hlt := kb_mask_lt (ks_inside S y) i
      have h13 : 2 ^ i ≤ 2 ^ 12 := Nat.pow_le_pow_right (by decide) (by omega)
      have hc : kb_mask (ks_inside S y) (i + 1) = if (ks_harI S (nI i) && ks_in S (some i) y) = true then kb_mask (ks_inside S y) i ||| 2 ^ i else kb_mask (ks_inside S y) i := rfl
      refine mm_iload_n dS_areasWithin_4 rfl rfl ?_
      refine mm_bipush (v := nI 13) dS_areasWithin_5 (by decide) ?_
      refine mm_icmp_ge_F (tgt := 39) dS_areasWithin_7 (by decide) (nI_ge (by omega) (by omega)) ?_
      refine mm_aload_n dS_areasWithin_10 rfl rfl ?_
      refine mm_iload_n dS_areasWithin_11 rfl rfl ?_
      refine mm_v1 dS_areasWithin_12 lS_61 a.1 rfl (by decide) (Nat.le_of_ble_eq_true rfl) (kS_hasArea a o (nI i)) ?_
      refine mm_if_eq_b (tgt := 33) dS_areasWithin_15 (by decide) (fun q15 => ?_) (fun q15 => ?_)
      · refine mm_iinc dS_areasWithin_33 (by decide) rfl (mm_inc _) rfl ?_
        refine mm_goto (tgt := 4) dS_areasWithin_36 (by decide) ?_
        have hh := ih (i + 1) (by omega)
        rw [hc, q15, Bool.false_and, if_neg (by decide)] at hh
        exact hh
      · refine mm_aload_n dS_areasWithin_18 rfl rfl ?_
        refine mm_iload_n dS_areasWithin_19 rfl rfl ?_
        refine mm_iload_n dS_areasWithin_20 rfl rfl ?_
        refine mm_v2 dS_areasWithin_21 lS_65 a.1 rfl rfl (by decide) (Nat.le_of_ble_eq_true rfl) (kS_isWithin a o (x := some i) (mm_lt_some (by omega)) hy) ?_
        refine mm_if_eq_b (tgt := 33) dS_areasWithin_24 (by decide) (fun q24 => ?_) (fun q24 => ?_)
        · refine mm_iinc dS_areasWithin_33 (by decide) rfl (mm_inc _) rfl ?_
          refine mm_goto (tgt := 4) dS_areasWithin_36 (by decide) ?_
          have hh := ih (i + 1) (by omega)
          rw [hc, q15, q24, Bool.and_false, if_neg (by decide)] at hh
          exact hh
        · refine mm_iload_n dS_areasWithin_27 rfl rfl ?_
          refine mm_iconst (v := nI 1) dS_areasWithin_28 (by decide) ?_
          refine mm_iload_n dS_areasWithin_29 rfl rfl ?_
          refine mm_ishl dS_areasWithin_30 ?_
          refine mm_ior dS_areasWithin_31 ?_
          refine mm_top (v' := .int (nI (kb_mask (ks_inside S y) i ||| 2 ^ i))) (congrArg Value.int (by rw [kb_shl (by omega) (by omega), kb_or, Nat.one_mul])) ?_
          refine mm_istore_n dS_areasWithin_32 rfl (by decide) rfl ?_
          refine mm_iinc dS_areasWithin_33 (by decide) rfl (mm_inc _) rfl ?_
          refine mm_goto (tgt := 4) dS_areasWithin_36 (by decide) ?_
          have hh := ih (i + 1) (by omega)
          rw [hc, q15, q24, Bool.and_true, if_pos rfl] at hh
          exact hh
  show mm_W Γ l mS_areasWithin (d + 3) _ 0 [some (.ref b), some (.int (mm_enc y)), none, none] [] h
  refine mm_iconst (v := nI 0) dS_areasWithin_0 (by decide) ?_
  refine mm_istore_n dS_areasWithin_1 rfl (by decide) rfl ?_
  refine mm_iconst (v := nI 0) dS_areasWithin_2 (by decide) ?_
  refine mm_istore_n dS_areasWithin_3 rfl (by decide) rfl ?_
  exact loop 13 0 rfl
theorem kS_reaches (a : ks_at h b S) (o : ks_ok S) (n : Int32) {x : Option Nat} (hx : mm_lt x 13) : mm_Ev Γ l (d + 2) mS_reaches [.ref b, .int n, .int (mm_enc x)] h (mm_is (.inl (some (.int (mm_bI (ks_reach S n x))))) h) := by
  show mm_W Γ l mS_reaches (d + 2) _ 0 [some (.ref b), some (.int n), some (.int (mm_enc x))] [] h
  refine mm_aload_n dS_reaches_0 rfl rfl ?_
  refine mm_iconst (v := nI 2) dS_reaches_1 (by decide) ?_
  refine mm_iload_n dS_reaches_2 rfl rfl ?_
  refine mm_v2 dS_reaches_3 lS_37 a.1 rfl rfl (by decide) (Nat.le_of_ble_eq_true rfl) (kS_has a o (nI 2) n) ?_
  refine mm_if_eq_b (tgt := 27) dS_reaches_6 (by decide) (fun q6 => ?_) (fun q6 => ?_)
  · refine mm_iconst (v := nI 0) dS_reaches_27 (by decide) ?_
    refine mm_zreturn dS_reaches_28 rfl rfl ?_
    exact mm_f0 (by simp [ks_reach, q6])
  · obtain ⟨k, i, z, e1, rfl, hk, hi, hz⟩ := ks_hasI_true q6
    have e2 : 2 = k := (nI_eq (by decide) (by omega)).mp e1
    subst e2
    have e3 : ks_areaI S (nI 2) (nI i) = S.2.2.1 i := by have h6 : i < 6 := hi; rw [ks_areaI, if_pos q6, nI_clamp (by decide), nI_clamp (by omega)]; rfl
    refine mm_aload_n dS_reaches_9 rfl rfl ?_
    refine mm_iload_n dS_reaches_10 rfl rfl ?_
    refine mm_aload_n dS_reaches_11 rfl rfl ?_
    refine mm_getf dS_reaches_12 fS_18 a.1 rfl ?_
    refine mm_iload_n dS_reaches_15 rfl rfl ?_
    refine mm_iaload dS_reaches_16 a.2.2.2.1 rfl hi (by decide) ?_
    refine mm_v2 dS_reaches_17 lS_65 a.1 rfl rfl (by decide) (Nat.le_of_ble_eq_true rfl) (kS_isWithin a o hx (y := S.2.2.1 i) (o.sm (k := 2) hi)) ?_
    refine mm_if_eq_b (tgt := 27) dS_reaches_20 (by decide) (fun q20 => ?_) (fun q20 => ?_)
    · refine mm_iconst (v := nI 0) dS_reaches_27 (by decide) ?_
      refine mm_zreturn dS_reaches_28 rfl rfl ?_
      exact mm_f0 (by simp [ks_reach, q6, e3, q20])
    · refine mm_iconst (v := nI 1) dS_reaches_23 (by decide) ?_
      refine mm_goto (tgt := 28) dS_reaches_24 (by decide) ?_
      refine mm_zreturn dS_reaches_28 rfl rfl ?_
      exact mm_f1 (by simp [ks_reach, q6, e3, q20])
theorem kS_isHooked (a : ks_at h b S) (o : ks_ok S) {ln : Nat} (hln : ln < 2 ^ 31) : mm_Ev Γ l d mS_isHooked [.ref b, .int (nI ln)] h (mm_is (.inl (some (.int (mm_bI (ks_hooked S ln))))) h) := by
  have loop : ∀ j i : Nat, i + j = 12 → mm_W Γ l mS_isHooked d (mm_is (.inl (some (.int (mm_bI (ks_any (ks_hookAt S ln) i j))))) h) 2 [some (.ref b), some (.int (nI ln)), some (.int (nI i))] [] h := by
    intro j
    induction j with
    | zero =>
      intro i hi
      refine mm_iload_n dS_isHooked_2 rfl rfl ?_
      refine mm_bipush (v := nI 12) dS_isHooked_3 (by decide) ?_
      refine mm_icmp_ge_T (tgt := 52) dS_isHooked_5 (by decide) (nI_le (by omega) (by omega)) ?_
      refine mm_iconst (v := nI 0) dS_isHooked_52 (by decide) ?_
      refine mm_zreturn dS_isHooked_53 rfl rfl ?_
      exact mm_f0 rfl
    | succ j ih =>
      intro i hi
      have hc : ks_any (ks_hookAt S ln) i (j + 1) = if ks_hookAt S ln i = true then true else ks_any (ks_hookAt S ln) (i + 1) j := rfl
      refine mm_iload_n dS_isHooked_2 rfl rfl ?_
      refine mm_bipush (v := nI 12) dS_isHooked_3 (by decide) ?_
      refine mm_icmp_ge_F (tgt := 52) dS_isHooked_5 (by decide) (nI_ge (by omega) (by omega)) ?_
      refine mm_aload_n dS_isHooked_8 rfl rfl ?_
      refine mm_getf dS_isHooked_9 fS_9 a.1 rfl ?_
      refine mm_iload_n dS_isHooked_12 rfl rfl ?_
      refine mm_iaload dS_isHooked_13 a.2.1 rfl (by omega) (by decide) ?_
      refine mm_iconst (v := -1) dS_isHooked_14 (by decide) ?_
      refine mm_icmp_eq_o (tgt := 46) dS_isHooked_15 (by decide) (o.sm (k := 0) (by show i < 12; omega)) (fun q15 => ?_) (fun q15 => ?_)
      · refine mm_iinc dS_isHooked_46 (by decide) rfl (mm_inc _) rfl ?_
        refine mm_goto (tgt := 2) dS_isHooked_49 (by decide) ?_
        have hh := ih (i + 1) (by omega)
        rw [hc, if_neg (by simp [ks_hookAt, q15])]
        exact hh
      · refine mm_aload_n dS_isHooked_18 rfl rfl ?_
        refine mm_getf dS_isHooked_19 fS_24 a.1 rfl ?_
        refine mm_iconst (v := nI 2) dS_isHooked_22 (by decide) ?_
        refine mm_iload_n dS_isHooked_23 rfl rfl ?_
        refine mm_imul dS_isHooked_24 ?_
        refine mm_iaload dS_isHooked_25 a.2.2.2.2.2 (pk_mul 2 i) (by omega) (by decide) ?_
        refine mm_iload_n dS_isHooked_26 rfl rfl ?_
        refine mm_icmp_eq_k (tgt := 44) dS_isHooked_27 (by decide) ((o.hk (by omega)).sm (by decide)) hln (fun q27 => ?_) (fun q27 => ?_)
        · refine mm_iconst (v := nI 1) dS_isHooked_44 (by decide) ?_
          refine mm_zreturn dS_isHooked_45 rfl rfl ?_
          exact mm_f1 (by rw [hc, if_pos (by simp [ks_hookAt, q15, q27])])
        · refine mm_aload_n dS_isHooked_30 rfl rfl ?_
          refine mm_getf dS_isHooked_31 fS_24 a.1 rfl ?_
          refine mm_iconst (v := nI 2) dS_isHooked_34 (by decide) ?_
          refine mm_iload_n dS_isHooked_35 rfl rfl ?_
          refine mm_imul dS_isHooked_36 ?_
          refine mm_iconst (v := nI 1) dS_isHooked_37 (by decide) ?_
          refine mm_iadd dS_isHooked_38 ?_
          refine mm_iaload dS_isHooked_39 a.2.2.2.2.2 (by rw [pk_mul, nI_add]) (by omega) (by decide) ?_
          refine mm_iload_n dS_isHooked_40 rfl rfl ?_
          refine mm_icmp_ne_k (tgt := 46) dS_isHooked_41 (by decide) ((o.hk (by omega)).sm (by decide)) hln (fun q41 => ?_) (fun q41 => ?_)
          · refine mm_iinc dS_isHooked_46 (by decide) rfl (mm_inc _) rfl ?_
            refine mm_goto (tgt := 2) dS_isHooked_49 (by decide) ?_
            have hh := ih (i + 1) (by omega)
            rw [hc, if_neg (by simp [ks_hookAt, q15, q27, q41])]
            exact hh
          · refine mm_iconst (v := nI 1) dS_isHooked_44 (by decide) ?_
            refine mm_zreturn dS_isHooked_45 rfl rfl ?_
            exact mm_f1 (by rw [hc, if_pos (by simp [ks_hookAt, q15, q27, q41])])
  show mm_W Γ l mS_isHooked d _ 0 [some (.ref b), some (.int (nI ln)), none] [] h
  refine mm_iconst (v := nI 0) dS_isHooked_0 (by decide) ?_
  refine mm_istore_n dS_isHooked_1 rfl (by decide) rfl ?_
  exact loop 12 0 rfl
end KS2
end
section
/-! What the methods of Sheet write. -/
theorem ks_row_put (S : ks_S) (k : Nat) (f : Nat → Option Nat) : ks_row (ks_put S k f) k = f := by
  match k with
  | 0 => rfl
  | 1 => rfl
  | _ + 2 => rfl
theorem ks_put_put (S : ks_S) (k : Nat) (f g : Nat → Option Nat) : ks_put (ks_put S k f) k g = ks_put S k g := by
  match k with
  | 0 => rfl
  | 1 => rfl
  | _ + 2 => rfl
theorem ks_put_row (S : ks_S) (k : Nat) : ks_put S k (ks_row S k) = S := by
  match k with
  | 0 => rfl
  | 1 => rfl
  | _ + 2 => rfl
theorem ks_ok_put {S : ks_S} (o : ks_ok S) {k : Nat} (hk : k < 3) {f : Nat → Option Nat} (hf : ∀ i n, i < ks_len k → f i = some n → n < 13) (h0 : k = 1 → f 0 = none) : ks_ok (ks_put S k f) := by
  obtain ⟨o1, o2, o3, o4⟩ := o
  match k, hk with
  | 0, _ =>
    refine ⟨fun j i n hi e => ?_, o2, o3, o4⟩
    match j with
    | 0 => exact hf i n hi e
    | 1 => exact o1 1 i n hi e
    | j + 2 => exact o1 (j + 2) i n hi e
  | 1, _ =>
    refine ⟨fun j i n hi e => ?_, o2, o3, h0 rfl⟩
    match j with
    | 0 => exact o1 0 i n hi e
    | 1 => exact hf i n hi e
    | j + 2 => exact o1 (j + 2) i n hi e
  | 2, _ =>
    refine ⟨fun j i n hi e => ?_, o2, o3, o4⟩
    match j with
    | 0 => exact o1 0 i n hi e
    | 1 => exact o1 1 i n hi e
    | j + 2 => exact hf i n hi e
  | n + 3, h => exact absurd h (by omega)
theorem ks_free_some {f : Nat → Option Nat} {i k j : Nat} (h : ks_free f i k = some j) : i ≤ j ∧ j < i + k ∧ f j = none := by
  induction k generalizing i with
  | zero => cases h
  | succ k ih =>
    simp only [ks_free] at h
    by_cases hf : f i = none
    · rw [if_pos hf] at h
      cases h
      exact ⟨Nat.le_refl _, by omega, hf⟩
    · rw [if_neg hf] at h
      obtain ⟨h1, h2, h3⟩ := ih h
      exact ⟨by omega, by omega, h3⟩
theorem ks_least_le (k : Nat) : ks_least k ≤ ks_len k := by
  match k with
  | 0 => decide
  | 1 => decide
  | n + 2 =>
    show (if n + 2 = 1 then 1 else 0) ≤ 6
    rw [if_neg (by omega)]
    omega
theorem ks_slot_some {S : ks_S} {k j : Nat} (h : ks_slot S k = some j) : ks_least k ≤ j ∧ j < ks_len k ∧ ks_row S k j = none := by
  obtain ⟨h1, h2, h3⟩ := ks_free_some h
  have := ks_least_le k
  exact ⟨h1, by omega, h3⟩
theorem ks_ok_add {S : ks_S} (o : ks_ok S) {k : Nat} (hk : k < 3) {x : Option Nat} (hx : mm_lt x 13) : ks_ok (ks_add S k x) := by
  unfold ks_add
  cases hs : ks_slot S k with
  | none => exact o
  | some j =>
    obtain ⟨h1, h2, h3⟩ := ks_slot_some hs
    refine ks_ok_put o hk (fun i n hi e => ?_) (fun e => ?_)
    · unfold ks_u at e
      by_cases hij : i = j
      · rw [if_pos hij] at e
        exact hx n e
      · rw [if_neg hij] at e
        exact o.1 k i n hi e
    · subst e
      have : 1 ≤ j := h1
      unfold ks_u
      rw [if_neg (by omega)]
      exact o.2.2.2
def ks_un (f : Nat → Nat) (j v : Nat) : Nat → Nat := fun i => if i = j then v else f i
theorem ks_un_enc (f : Nat → Nat) (j v : Nat) : upd (fun i => nI (f i)) j (nI v) = fun i => nI (ks_un f j v i) := by
  funext i
  by_cases hi : i = j
  · simp [upd, ks_un, hi]
  · simp [upd, ks_un, hi]
def ks_spotAt (S : ks_S) (j : Nat) (x : Option Nat) (sg : Nat) (f s : Option Nat) : ks_S := (ks_u S.1 j x, S.2.1, S.2.2.1, ks_un S.2.2.2.1 j sg, ks_u (ks_u S.2.2.2.2 (2 * j) f) (2 * j + 1) s)
def ks_addSpot (S : ks_S) (x : Option Nat) (sg : Nat) (f s : Option Nat) : ks_S := match ks_slot S 0 with
  | some j => ks_spotAt S j x sg f s
  | none => S
def ks_putI (S : ks_S) (k n : Int32) (x : Option Nat) : ks_S := if ks_hasI S k n then ks_put S k.toNatClampNeg (ks_u (ks_row S k.toNatClampNeg) n.toNatClampNeg x) else S
def ks_mv (f : Nat → Option Nat) (m : Nat) (t : Option Nat) (n : Nat) : Nat → Option Nat := fun i => if i < n ∧ ks_am m (f i) = true then t else f i
def ks_moves (S : ks_S) (m : Nat) (t : Option Nat) : Nat → ks_S
  | 0 => S
  | k + 1 => ks_put (ks_moves S m t k) k (ks_mv (ks_row (ks_moves S m t k) k) m t (ks_len k))
theorem ks_mv_0 (f : Nat → Option Nat) (m : Nat) (t : Option Nat) : ks_mv f m t 0 = f := by
  funext i
  unfold ks_mv
  rw [if_neg (fun h => absurd h.1 (by omega))]
theorem ks_mv_at (f : Nat → Option Nat) (m : Nat) (t : Option Nat) (i : Nat) : ks_mv f m t i i = f i := by
  unfold ks_mv
  rw [if_neg (fun h => absurd h.1 (by omega))]
theorem ks_mv_t {f : Nat → Option Nat} {m : Nat} {t : Option Nat} {i : Nat} (h : ks_am m (f i) = true) : ks_u (ks_mv f m t i) i t = ks_mv f m t (i + 1) := by
  funext j
  unfold ks_u ks_mv
  by_cases hj : j = i
  · subst hj
    rw [if_pos rfl, if_pos ⟨by omega, h⟩]
  · rw [if_neg hj]
    by_cases hl : j < i ∧ ks_am m (f j) = true
    · rw [if_pos hl, if_pos ⟨by omega, hl.2⟩]
    · rw [if_neg hl, if_neg (fun h9 => hl ⟨by omega, h9.2⟩)]
theorem ks_mv_f {f : Nat → Option Nat} {m : Nat} {t : Option Nat} {i : Nat} (h : ks_am m (f i) = false) : ks_mv f m t i = ks_mv f m t (i + 1) := by
  funext j
  unfold ks_mv
  by_cases hj : j = i
  · subst hj
    rw [if_neg (fun h9 => absurd h9.1 (by omega)), if_neg (fun h9 => by rw [h] at h9; exact absurd h9.2 (by decide))]
  · by_cases hl : j < i ∧ ks_am m (f j) = true
    · rw [if_pos hl, if_pos ⟨by omega, hl.2⟩]
    · rw [if_neg hl, if_neg (fun h9 => hl ⟨by omega, h9.2⟩)]
theorem ks_ok_mv {S : ks_S} (o : ks_ok S) {k : Nat} (hk : k < 3) {m : Nat} {t : Option Nat} (ht : mm_lt t 13) (n : Nat) : ks_ok (ks_put S k (ks_mv (ks_row S k) m t n)) := by
  refine ks_ok_put o hk (fun i x hi e => ?_) (fun e => ?_)
  · unfold ks_mv at e
    by_cases hl : i < n ∧ ks_am m (ks_row S k i) = true
    · rw [if_pos hl] at e
      exact ht x e
    · rw [if_neg hl] at e
      exact o.1 k i x hi e
  · subst e
    unfold ks_mv
    have h0 : ks_row S 1 0 = none := o.2.2.2
    rw [if_neg (fun h9 => by rw [h0] at h9; exact absurd h9.2 (by show ¬ (false = true); decide))]
    exact h0
theorem ks_ok_moves {S : ks_S} (o : ks_ok S) {m : Nat} {t : Option Nat} (ht : mm_lt t 13) {k : Nat} (hk : k ≤ 3) : ks_ok (ks_moves S m t k) := by
  induction k with
  | zero => exact o
  | succ k ih => exact ks_ok_mv (ih (by omega)) (by omega) ht _
/-- hooks of a line go to another, in some areas -/
def ks_rh (S : ks_S) (ln : Nat) (t : Option Nat) (m n : Nat) : Nat → Option Nat := fun i => if i < n ∧ S.2.2.2.2 i = some ln ∧ ks_am m (S.1 (i / 2)) = true then t else S.2.2.2.2 i
def ks_rehook (S : ks_S) (ln : Nat) (t x : Option Nat) : ks_S := (S.1, S.2.1, S.2.2.1, S.2.2.2.1, ks_rh S ln t (ks_mask S x) 24)
theorem ks_rh_0 (S : ks_S) (ln : Nat) (t : Option Nat) (m : Nat) : ks_rh S ln t m 0 = S.2.2.2.2 := by
  funext i
  unfold ks_rh
  rw [if_neg (fun h => absurd h.1 (by omega))]
theorem ks_rh_at (S : ks_S) (ln : Nat) (t : Option Nat) (m i : Nat) : ks_rh S ln t m i i = S.2.2.2.2 i := by
  unfold ks_rh
  rw [if_neg (fun h => absurd h.1 (by omega))]
theorem ks_rh_t {S : ks_S} {ln : Nat} {t : Option Nat} {m i : Nat} (h1 : S.2.2.2.2 i = some ln) (h2 : ks_am m (S.1 (i / 2)) = true) : ks_u (ks_rh S ln t m i) i t = ks_rh S ln t m (i + 1) := by
  funext j
  unfold ks_u ks_rh
  by_cases hj : j = i
  · subst hj
    rw [if_pos rfl, if_pos ⟨by omega, h1, h2⟩]
  · rw [if_neg hj]
    by_cases hl : j < i ∧ S.2.2.2.2 j = some ln ∧ ks_am m (S.1 (j / 2)) = true
    · rw [if_pos hl, if_pos ⟨by omega, hl.2⟩]
    · rw [if_neg hl, if_neg (fun h9 => hl ⟨by omega, h9.2⟩)]
theorem ks_rh_f {S : ks_S} {ln : Nat} {t : Option Nat} {m i : Nat} (h : ¬ (S.2.2.2.2 i = some ln ∧ ks_am m (S.1 (i / 2)) = true)) : ks_rh S ln t m i = ks_rh S ln t m (i + 1) := by
  funext j
  unfold ks_rh
  by_cases hj : j = i
  · subst hj
    rw [if_neg (fun h9 => absurd h9.1 (by omega)), if_neg (fun h9 => h h9.2)]
  · by_cases hl : j < i ∧ S.2.2.2.2 j = some ln ∧ ks_am m (S.1 (j / 2)) = true
    · rw [if_pos hl, if_pos ⟨by omega, hl.2⟩]
    · rw [if_neg hl, if_neg (fun h9 => hl ⟨by omega, h9.2⟩)]
def ks_alone (S : ks_S) (c : Nat) : Bool := decide (ks_many S 1 (2 ^ c) = 1) && (decide (ks_many S 0 (2 ^ c) = 0) && decide (ks_many S 2 (2 ^ c) = 0))
def ks_remove (S : ks_S) (k n : Int32) (x : Option Nat) : ks_S := ks_putI (if k = nI 1 then ks_moves S (ks_mask S x) none 3 else S) k n none
end
section
/-! Contracts of Sheet: what writes. Printed by wip/whole/spec/s3.py -/
section KS3
variable {Γ : mm_G} {l : Launch} {d : Nat} {h : mm_H} {b : Nat} {S : ks_S}
theorem kS_add (a : ks_at h b S) (o : ks_ok S) {k : Nat} (hk : k < 3) {x : Option Nat} : mm_Ev Γ l (d + 1) mS_add [.ref b, .int (nI k), .int (mm_enc x)] h (mm_is (.inl (some (.int (mm_enc (ks_slot S k))))) (ks_set h b (ks_add S k x))) := by
  have hle := ks_len_le k
  have hll := ks_least_le k
  have loop : ∀ j i : Nat, i + j = ks_len k → mm_W Γ l mS_add (d + 1) (mm_is (.inl (some (.int (mm_enc (ks_free (ks_row S k) i j))))) (ks_set h b (match ks_free (ks_row S k) i j with
      | some q => ks_put S k (ks_u (ks_row S k) q x)
      | none => S))) 13 [some (.ref b), some (.int (nI k)), some (.int (mm_enc x)), some (.ref (b + 1 + k)), some (.int (nI i))] [] h := by
    intro j
    induction j with
    | zero =>
      intro i hi
      refine mm_iload dS_add_13 rfl ?_
      refine mm_aload_n dS_add_15 rfl rfl ?_
      refine mm_alen dS_add_16 (a.row hk) (by decide) rfl ?_
      refine mm_icmp_ge_T (tgt := 42) dS_add_17 (by decide) (nI_le (by omega) (by omega)) ?_
      refine mm_iconst (v := -1) dS_add_42 (by decide) ?_
      refine mm_ireturn dS_add_43 rfl ?_
      exact ⟨rfl, (ks_at_set a).symm⟩
    | succ j ih =>
      intro i hi
      have q17 : i < ks_len k := by omega
      refine mm_iload dS_add_13 rfl ?_
      refine mm_aload_n dS_add_15 rfl rfl ?_
      refine mm_alen dS_add_16 (a.row hk) (by decide) rfl ?_
      refine mm_icmp_ge_F (tgt := 42) dS_add_17 (by decide) (nI_ge q17 (by omega)) ?_
      refine mm_aload_n dS_add_20 rfl rfl ?_
      refine mm_iload dS_add_21 rfl ?_
      refine mm_iaload dS_add_23 (a.row hk) rfl q17 (by omega) ?_
      refine mm_iconst (v := -1) dS_add_24 (by decide) ?_
      refine mm_icmp_ne_o (tgt := 36) dS_add_25 (by decide) (o.sm q17) (fun q25 => ?_) (fun q25 => ?_)
      · refine mm_iinc dS_add_36 (by decide) rfl (mm_inc _) rfl ?_
        refine mm_goto (tgt := 13) dS_add_39 (by decide) ?_
        have hh := ih (i + 1) (by omega)
        rw [show ks_free (ks_row S k) i (j + 1) = ks_free (ks_row S k) (i + 1) j from if_neg q25]
        exact hh
      · refine mm_aload_n dS_add_28 rfl rfl ?_
        refine mm_iload dS_add_29 rfl ?_
        refine mm_iload_n dS_add_31 rfl rfl ?_
        refine mm_iastore dS_add_32 (a.row hk) rfl q17 (by omega) ?_
        refine mm_iload dS_add_33 rfl ?_
        refine mm_ireturn dS_add_35 rfl ?_
        rw [show ks_free (ks_row S k) i (j + 1) = some i from if_pos q25]
        exact ⟨rfl, by rw [ks_u_enc]; exact ks_up_row a hk _⟩
  show mm_W Γ l mS_add (d + 1) _ 0 [some (.ref b), some (.int (nI k)), some (.int (mm_enc x)), none, none] [] h
  refine mm_aload_n dS_add_0 rfl rfl ?_
  refine mm_iload_n dS_add_1 rfl rfl ?_
  refine mm_v1 dS_add_2 lS_33 a.1 rfl (by decide) (Nat.le_of_ble_eq_true rfl) (kS_areas a hk) ?_
  refine mm_astore_n dS_add_5 rfl (by decide) rfl ?_
  refine mm_aload_n dS_add_6 rfl rfl ?_
  refine mm_iload_n dS_add_7 rfl rfl ?_
  refine mm_v1 dS_add_8 lS_45 a.1 rfl (by decide) (Nat.le_of_ble_eq_true rfl) (kS_least hk) ?_
  refine mm_istore dS_add_11 (by decide) rfl ?_
  exact loop (ks_len k - ks_least k) (ks_least k) (by omega)
theorem kS_addSpot (a : ks_at h b S) (o : ks_ok S) {x f s : Option Nat} {sg : Nat} : mm_Ev Γ l (d + 2) mS_addSpot [.ref b, .int (mm_enc x), .int (nI sg), .int (mm_enc f), .int (mm_enc s)] h (mm_is (.inl (some (.int (mm_enc (ks_slot S 0))))) (ks_set h b (ks_addSpot S x sg f s))) := by
  show mm_W Γ l mS_addSpot (d + 2) _ 0 [some (.ref b), some (.int (mm_enc x)), some (.int (nI sg)), some (.int (mm_enc f)), some (.int (mm_enc s)), none] [] h
  have e0 : mm_Ev Γ l (d + 1) mS_add [.ref b, .int (nI 0), .int (mm_enc x)] h (mm_is (.inl (some (.int (mm_enc (ks_slot S 0))))) (ks_set h b (ks_add S 0 x))) := kS_add a o (by decide)
  cases hs : ks_slot S 0 with
  | none =>
    rw [show ks_addSpot S x sg f s = S by unfold ks_addSpot; rw [hs], ks_at_set a]
    rw [show ks_add S 0 x = S by unfold ks_add; rw [hs], ks_at_set a, hs] at e0
    refine mm_aload_n dS_addSpot_0 rfl rfl ?_
    refine mm_iconst (v := nI 0) dS_addSpot_1 (by decide) ?_
    refine mm_iload_n dS_addSpot_2 rfl rfl ?_
    refine mm_v2 dS_addSpot_3 lS_68 a.1 rfl rfl (by decide) (Nat.le_of_ble_eq_true rfl) (e0) ?_
    refine mm_istore dS_addSpot_6 (by decide) rfl ?_
    refine mm_iload dS_addSpot_8 rfl ?_
    refine mm_iconst (v := -1) dS_addSpot_10 (by decide) ?_
    refine mm_icmp_eq_T (tgt := 45) dS_addSpot_11 (by decide) rfl ?_
    refine mm_iload dS_addSpot_45 rfl ?_
    refine mm_ireturn dS_addSpot_47 rfl ?_
    exact ⟨rfl, rfl⟩
  | some j =>
    obtain ⟨-, j12, -⟩ := ks_slot_some hs
    have j12 : j < 12 := j12
    rw [show ks_addSpot S x sg f s = ks_spotAt S j x sg f s by unfold ks_addSpot; rw [hs]]
    rw [show ks_add S 0 x = (ks_u S.1 j x, S.2) by unfold ks_add; rw [hs]; rfl, hs] at e0
    have a1 : ks_at (ks_set h b (ks_u S.1 j x, S.2)) b (ks_u S.1 j x, S.2) := ks_set_at _ a.1
    refine mm_aload_n dS_addSpot_0 rfl rfl ?_
    refine mm_iconst (v := nI 0) dS_addSpot_1 (by decide) ?_
    refine mm_iload_n dS_addSpot_2 rfl rfl ?_
    refine mm_v2 dS_addSpot_3 lS_68 a.1 rfl rfl (by decide) (Nat.le_of_ble_eq_true rfl) (e0) ?_
    refine mm_istore dS_addSpot_6 (by decide) rfl ?_
    refine mm_iload dS_addSpot_8 rfl ?_
    refine mm_iconst (v := -1) dS_addSpot_10 (by decide) ?_
    refine mm_icmp_eq_F (tgt := 45) dS_addSpot_11 (by decide) (mm_neg_ne (by omega)) ?_
    refine mm_aload_n dS_addSpot_14 rfl rfl ?_
    refine mm_getf dS_addSpot_15 fS_21 a1.1 rfl ?_
    refine mm_iload dS_addSpot_18 rfl ?_
    refine mm_iload_n dS_addSpot_20 rfl rfl ?_
    refine mm_iastore dS_addSpot_21 a1.2.2.2.2.1 rfl j12 (by decide) ?_
    rw [ks_un_enc, ks_up_sign a1]
    have a2 := ks_set_at (h := ks_set h b (ks_u S.1 j x, S.2)) (b := b) (ks_u S.1 j x, S.2.1, S.2.2.1, ks_un S.2.2.2.1 j sg, S.2.2.2.2) a1.1
    refine mm_aload_n dS_addSpot_22 rfl rfl ?_
    refine mm_getf dS_addSpot_23 fS_24 a2.1 rfl ?_
    refine mm_iconst (v := nI 2) dS_addSpot_26 (by decide) ?_
    refine mm_iload dS_addSpot_27 rfl ?_
    refine mm_imul dS_addSpot_29 ?_
    refine mm_iload_n dS_addSpot_30 rfl rfl ?_
    refine mm_iastore dS_addSpot_31 a2.2.2.2.2.2 (pk_mul 2 j) (by omega) (by decide) ?_
    rw [ks_u_enc]
    refine mm_eqh (ks_up_hook a2 _).symm ?_
    have a3 := ks_set_at (b := b) (ks_u S.1 j x, S.2.1, S.2.2.1, ks_un S.2.2.2.1 j sg, ks_u S.2.2.2.2 (2 * j) f) a2.1
    refine mm_aload_n dS_addSpot_32 rfl rfl ?_
    refine mm_getf dS_addSpot_33 fS_24 a3.1 rfl ?_
    refine mm_iconst (v := nI 2) dS_addSpot_36 (by decide) ?_
    refine mm_iload dS_addSpot_37 rfl ?_
    refine mm_imul dS_addSpot_39 ?_
    refine mm_iconst (v := nI 1) dS_addSpot_40 (by decide) ?_
    refine mm_iadd dS_addSpot_41 ?_
    refine mm_iload dS_addSpot_42 rfl ?_
    refine mm_iastore dS_addSpot_44 a3.2.2.2.2.2 (show nI 2 * nI j + nI 1 = nI (2 * j + 1) by rw [pk_mul, nI_add]) (by omega) (by decide) ?_
    rw [ks_u_enc]
    refine mm_eqh (ks_up_hook a3 _).symm ?_
    refine mm_iload dS_addSpot_45 rfl ?_
    refine mm_ireturn dS_addSpot_47 rfl ?_
    exact ⟨rfl, by rw [ks_set_set, ks_set_set, ks_set_set]; rfl⟩
theorem kS_put (a : ks_at h b S) (o : ks_ok S) (k n : Int32) {x : Option Nat} : mm_Ev Γ l (d + 2) mS_put [.ref b, .int k, .int n, .int (mm_enc x)] h (mm_is (.inl none) (ks_set h b (ks_putI S k n x))) := by
  show mm_W Γ l mS_put (d + 2) _ 0 [some (.ref b), some (.int k), some (.int n), some (.int (mm_enc x))] [] h
  refine mm_aload_n dS_put_0 rfl rfl ?_
  refine mm_iload_n dS_put_1 rfl rfl ?_
  refine mm_iload_n dS_put_2 rfl rfl ?_
  refine mm_v2 dS_put_3 lS_37 a.1 rfl rfl (by decide) (Nat.le_of_ble_eq_true rfl) (kS_has a o k n) ?_
  refine mm_if_eq_b (tgt := 17) dS_put_6 (by decide) (fun q6 => ?_) (fun q6 => ?_)
  · refine mm_return dS_put_17 rfl ?_
    exact ⟨rfl, by rw [show ks_putI S k n x = S by unfold ks_putI; rw [q6]; rfl, ks_at_set a]⟩
  · obtain ⟨k, n, y, rfl, rfl, hk, hn, hy⟩ := ks_hasI_true q6
    refine mm_aload_n dS_put_9 rfl rfl ?_
    refine mm_iload_n dS_put_10 rfl rfl ?_
    refine mm_v1 dS_put_11 lS_33 a.1 rfl (by decide) (Nat.le_of_ble_eq_true rfl) (kS_areas a hk) ?_
    refine mm_iload_n dS_put_14 rfl rfl ?_
    refine mm_iload_n dS_put_15 rfl rfl ?_
    refine mm_iastore dS_put_16 (a.row hk) rfl hn (by have := ks_len_le k; omega) ?_
    refine mm_return dS_put_17 rfl ?_
    exact ⟨rfl, by have := ks_len_le k; rw [show ks_putI S (nI k) (nI n) x = ks_put S k (ks_u (ks_row S k) n x) by unfold ks_putI; rw [if_pos q6, nI_clamp (by omega), nI_clamp (by omega)], ks_u_enc]; exact ks_up_row a hk _⟩
theorem kS_putAll (a : ks_at h b S) (o : ks_ok S) {m : Nat} (hm : m < 2 ^ 31) {t : Option Nat} (ht : mm_lt t 13) : mm_Ev Γ l (d + 1) mS_putAll [.ref b, .int (nI m), .int (mm_enc t)] h (mm_is (.inl none) (ks_set h b (ks_moves S m t 3))) := by
  have hb := a.1
  have outer : ∀ j k : Nat, k + j = 3 → mm_W Γ l mS_putAll (d + 1) (mm_is (.inl none) (ks_set h b (ks_moves S m t 3))) 2 [some (.ref b), some (.int (nI m)), some (.int (mm_enc t)), some (.int (nI k)), none, none] [] (ks_set h b (ks_moves S m t k)) := by
    intro j
    induction j with
    | zero =>
      intro k hk
      have hk : k = 3 := by omega
      subst hk
      refine mm_iload_n dS_putAll_2 rfl rfl ?_
      refine mm_iconst (v := nI 3) dS_putAll_3 (by decide) ?_
      refine mm_icmp_ge_T (tgt := 55) dS_putAll_4 (by decide) (nI_le (by omega) (by omega)) ?_
      refine mm_return dS_putAll_55 rfl ?_
      exact ⟨rfl, rfl⟩
    | succ j ih =>
      intro k hk
      have hk3 : k < 3 := by omega
      have hle := ks_len_le k
      have ok1 : ks_ok (ks_moves S m t k) := ks_ok_moves o ht (by omega)
      have inner : ∀ j' i : Nat, i + j' = ks_len k → mm_W Γ l mS_putAll (d + 1) (mm_is (.inl none) (ks_set h b (ks_moves S m t 3))) 17 [some (.ref b), some (.int (nI m)), some (.int (mm_enc t)), some (.int (nI k)), some (.ref (b + 1 + k)), some (.int (nI i))] [] (ks_set h b (ks_put (ks_moves S m t k) k (ks_mv (ks_row (ks_moves S m t k) k) m t i))) := by
        intro j'
        induction j' with
        | zero =>
          intro i hi
          have hi : i = ks_len k := by omega
          subst hi
          have a1 := ks_set_at (h := h) (b := b) (ks_put (ks_moves S m t k) k (ks_mv (ks_row (ks_moves S m t k) k) m t (ks_len k))) hb
          refine mm_iload dS_putAll_17 rfl ?_
          refine mm_aload dS_putAll_19 rfl ?_
          refine mm_alen dS_putAll_21 (a1.row hk3) (by decide) rfl ?_
          refine mm_icmp_ge_T (tgt := 49) dS_putAll_22 (by decide) (nI_le (by omega) (by omega)) ?_
          refine mm_iinc dS_putAll_49 (by decide) rfl (mm_inc _) rfl ?_
          refine mm_goto (tgt := 2) dS_putAll_52 (by decide) ?_
          exact mm_sub (fun i v hv => by
            match i, hv with
            | 0, hv => exact hv
            | 1, hv => exact hv
            | 2, hv => exact hv
            | 3, hv => exact hv
            | 4, hv => cases hv
            | 5, hv => cases hv
            | n + 6, hv => cases hv) (ih (k + 1) (by omega))
        | succ j' ih' =>
          intro i hi
          have q22 : i < ks_len k := by omega
          have a1 := ks_set_at (h := h) (b := b) (ks_put (ks_moves S m t k) k (ks_mv (ks_row (ks_moves S m t k) k) m t i)) hb
          have a1r := a1.row hk3
          rw [ks_row_put] at a1r
          have hlt : mm_lt (ks_row (ks_moves S m t k) k i) 13 := ok1.lt q22
          refine mm_iload dS_putAll_17 rfl ?_
          refine mm_aload dS_putAll_19 rfl ?_
          refine mm_alen dS_putAll_21 (a1.row hk3) (by decide) rfl ?_
          refine mm_icmp_ge_F (tgt := 49) dS_putAll_22 (by decide) (nI_ge q22 (by omega)) ?_
          refine mm_iload_n dS_putAll_25 rfl rfl ?_
          refine mm_aload dS_putAll_26 rfl ?_
          refine mm_iload dS_putAll_28 rfl ?_
          refine mm_iaload dS_putAll_30 a1r rfl q22 (by omega) ?_
          rw [ks_mv_at]
          refine mm_s2 dS_putAll_31 lS_52 rfl rfl (by decide) (Nat.le_of_ble_eq_true rfl) (kC_isAmong hm (o := ks_row (ks_moves S m t k) k i) (fun x e => Nat.lt_trans (hlt x e) (by decide))) ?_
          refine mm_if_eq_b (tgt := 43) dS_putAll_34 (by decide) (fun q34 => ?_) (fun q34 => ?_)
          · refine mm_iinc dS_putAll_43 (by decide) rfl (mm_inc _) rfl ?_
            refine mm_goto (tgt := 17) dS_putAll_46 (by decide) ?_
            have hh := ih' (i + 1) (by omega)
            rw [← ks_mv_f q34] at hh
            exact hh
          · refine mm_aload dS_putAll_37 rfl ?_
            refine mm_iload dS_putAll_39 rfl ?_
            refine mm_iload_n dS_putAll_41 rfl rfl ?_
            refine mm_iastore dS_putAll_42 a1r rfl q22 (by omega) ?_
            rw [ks_u_enc, ks_mv_t q34]
            refine mm_eqh (ks_up_row a1 hk3 _).symm ?_
            rw [ks_put_put, ks_set_set]
            refine mm_iinc dS_putAll_43 (by decide) rfl (mm_inc _) rfl ?_
            refine mm_goto (tgt := 17) dS_putAll_46 (by decide) ?_
            have hh := ih' (i + 1) (by omega)
            exact hh
      have e1 : ks_set h b (ks_moves S m t k) = ks_set h b (ks_put (ks_moves S m t k) k (ks_mv (ks_row (ks_moves S m t k) k) m t 0)) := by rw [ks_mv_0, ks_put_row]
      have a0 := ks_set_at (h := h) (b := b) (ks_moves S m t k) hb
      refine mm_iload_n dS_putAll_2 rfl rfl ?_
      refine mm_iconst (v := nI 3) dS_putAll_3 (by decide) ?_
      refine mm_icmp_ge_F (tgt := 55) dS_putAll_4 (by decide) (nI_ge (by omega) (by omega)) ?_
      refine mm_aload_n dS_putAll_7 rfl rfl ?_
      refine mm_iload_n dS_putAll_8 rfl rfl ?_
      refine mm_v1 dS_putAll_9 lS_33 a0.1 rfl (by decide) (Nat.le_of_ble_eq_true rfl) (kS_areas a0 hk3) ?_
      refine mm_astore dS_putAll_12 (by decide) rfl ?_
      refine mm_iconst (v := nI 0) dS_putAll_14 (by decide) ?_
      refine mm_istore dS_putAll_15 (by decide) rfl ?_
      rw [e1]
      exact inner (ks_len k) 0 (by omega)
  show mm_W Γ l mS_putAll (d + 1) _ 0 [some (.ref b), some (.int (nI m)), some (.int (mm_enc t)), none, none, none] [] h
  refine mm_iconst (v := nI 0) dS_putAll_0 (by decide) ?_
  refine mm_istore_n dS_putAll_1 rfl (by decide) rfl ?_
  have hh := outer 3 0 rfl
  rw [show ks_moves S m t 0 = S from rfl, ks_at_set a] at hh
  exact hh
end KS3
end
