/-- name, code, locals, answer, handlers -/
abbrev mm_M : Type := MethodName × ByteArray × Nat × Option FieldType × List (Nat × Nat × Nat × Nat)
/-! printed by wip/whole/gen_names.py: classes, fields, methods -/
def mFG : u_T := fun k => match k with
  | 0 => ("CutSheets$Groups", "numbers", "[I", true)
  | _ => ("CutSheets$Groups", "begins", "[I", true)
def mtG : Nat → FieldType := fun k => match k with
  | 0 => .array .int
  | _ => .array .int
theorem mnG : ∀ a, a < 2 → ∀ b, b < 2 → a ≠ b → (mFG a).2.1 ≠ (mFG b).2.1 := by decide +kernel
theorem moG : ∀ k, k < 2 → parseFieldDescriptor (mFG k).2.2.1 = some (mtG k) := by decide +kernel
def mFK : u_T := fun k => match k with
  | 0 => ("CutSheets$Look", "lines", "LCutSheets$Groups;", true)
  | 1 => ("CutSheets$Look", "spots", "LCutSheets$Groups;", true)
  | 2 => ("CutSheets$Look", "cuts", "LCutSheets$Groups;", true)
  | 3 => ("CutSheets$Look", "hookedArea", "[I", true)
  | 4 => ("CutSheets$Look", "signs", "[I", true)
  | 5 => ("CutSheets$Look", "hooks", "[I", true)
  | 6 => ("CutSheets$Look", "thingOf", "[I", true)
  | 7 => ("CutSheets$Look", "things", "I", false)
  | _ => ("CutSheets$Look", "bits", "I", false)
def mtK : Nat → FieldType := fun k => match k with
  | 0 => .object "CutSheets$Groups"
  | 1 => .object "CutSheets$Groups"
  | 2 => .object "CutSheets$Groups"
  | 3 => .array .int
  | 4 => .array .int
  | 5 => .array .int
  | 6 => .array .int
  | 7 => .int
  | _ => .int
theorem mnK : ∀ a, a < 9 → ∀ b, b < 9 → a ≠ b → (mFK a).2.1 ≠ (mFK b).2.1 := by decide +kernel
theorem moK : ∀ k, k < 9 → parseFieldDescriptor (mFK k).2.2.1 = some (mtK k) := by decide +kernel
def mFR : u_T := fun k => match k with
  | 0 => ("CutSheets$Reading", "tokens", "[I", true)
  | 1 => ("CutSheets$Reading", "size", "I", false)
  | 2 => ("CutSheets$Reading", "innerAreas", "I", false)
  | 3 => ("CutSheets$Reading", "orders", "[I", true)
  | _ => ("CutSheets$Reading", "ordered", "I", false)
def mtR : Nat → FieldType := fun k => match k with
  | 0 => .array .int
  | 1 => .int
  | 2 => .int
  | 3 => .array .int
  | _ => .int
theorem mnR : ∀ a, a < 5 → ∀ b, b < 5 → a ≠ b → (mFR a).2.1 ≠ (mFR b).2.1 := by decide +kernel
theorem moR : ∀ k, k < 5 → parseFieldDescriptor (mFR k).2.2.1 = some (mtR k) := by decide +kernel
def mFS : u_T := fun k => match k with
  | 0 => ("CutSheets$Sheet", "spotArea", "[I", true)
  | 1 => ("CutSheets$Sheet", "cutArea", "[I", true)
  | 2 => ("CutSheets$Sheet", "lineArea", "[I", true)
  | 3 => ("CutSheets$Sheet", "spotSign", "[I", true)
  | _ => ("CutSheets$Sheet", "hooks", "[I", true)
def mtS : Nat → FieldType := fun k => match k with
  | 0 => .array .int
  | 1 => .array .int
  | 2 => .array .int
  | 3 => .array .int
  | _ => .array .int
theorem mnS : ∀ a, a < 5 → ∀ b, b < 5 → a ≠ b → (mFS a).2.1 ≠ (mFS b).2.1 := by decide +kernel
theorem moS : ∀ k, k < 5 → parseFieldDescriptor (mFS k).2.2.1 = some (mtS k) := by decide +kernel
def mFC : u_T := fun k => match k with
  | 0 => ("CutSheets", "sheets", "[LCutSheets$Sheet;", true)
  | 1 => ("CutSheets", "lastRead", "LCutSheets$Reading;", true)
  | 2 => ("CutSheets", "partRead", "LCutSheets$Reading;", true)
  | 3 => ("CutSheets", "otherRead", "LCutSheets$Reading;", true)
  | 4 => ("CutSheets", "firstLook", "LCutSheets$Look;", true)
  | 5 => ("CutSheets", "nowLook", "LCutSheets$Look;", true)
  | 6 => ("CutSheets", "standsFor", "[I", true)
  | 7 => ("CutSheets", "drawing", "Z", false)
  | _ => ("CutSheets", "moves", "I", false)
def mtC : Nat → FieldType := fun k => match k with
  | 0 => .array (.object "CutSheets$Sheet")
  | 1 => .object "CutSheets$Reading"
  | 2 => .object "CutSheets$Reading"
  | 3 => .object "CutSheets$Reading"
  | 4 => .object "CutSheets$Look"
  | 5 => .object "CutSheets$Look"
  | 6 => .array .int
  | 7 => .boolean
  | _ => .int
theorem mnC : ∀ a, a < 9 → ∀ b, b < 9 → a ≠ b → (mFC a).2.1 ≠ (mFC b).2.1 := by decide +kernel
theorem moC : ∀ k, k < 9 → parseFieldDescriptor (mFC k).2.2.1 = some (mtC k) := by decide +kernel
def mFM : u_T := fun k => match k with
  | 0 => ("CutSheetsModel", "thrown", "I", false)
  | 1 => ("CutSheetsModel", "started", "Z", false)
  | 2 => ("CutSheetsModel", "moves", "I", false)
  | 3 => ("CutSheetsModel", "sheet", "[I", false)
  | 4 => ("CutSheetsModel", "kept", "[I", false)
  | 5 => ("CutSheetsModel", "reading", "I", false)
  | 6 => ("CutSheetsModel", "tokens", "[I", false)
  | 7 => ("CutSheetsModel", "otherReading", "I", false)
  | 8 => ("CutSheetsModel", "others", "[I", false)
  | 9 => ("CutSheetsModel", "renamed", "[I", false)
  | 10 => ("CutSheetsModel", "open", "I", false)
  | 11 => ("CutSheetsModel", "pile", "[I", false)
  | 12 => ("CutSheetsModel", "reached", "[I", false)
  | 13 => ("CutSheetsModel", "holding", "[Z", false)
  | 14 => ("CutSheetsModel", "newNumber", "[I", false)
  | 15 => ("CutSheetsModel", "newLine", "[I", false)
  | 16 => ("CutSheetsModel", "holdBack", "[I", false)
  | 17 => ("CutSheetsModel", "unitOf", "[I", false)
  | 18 => ("CutSheetsModel", "ownSpots", "[I", false)
  | 19 => ("CutSheetsModel", "ownCuts", "[I", false)
  | _ => ("CutSheetsModel", "firstSheet", "[I", false)
def mtM : Nat → FieldType := fun k => match k with
  | 0 => .int
  | 1 => .boolean
  | 2 => .int
  | 3 => .array .int
  | 4 => .array .int
  | 5 => .int
  | 6 => .array .int
  | 7 => .int
  | 8 => .array .int
  | 9 => .array .int
  | 10 => .int
  | 11 => .array .int
  | 12 => .array .int
  | 13 => .array .boolean
  | 14 => .array .int
  | 15 => .array .int
  | 16 => .array .int
  | 17 => .array .int
  | 18 => .array .int
  | 19 => .array .int
  | _ => .array .int
theorem mnM : ∀ a, a < 21 → ∀ b, b < 21 → a ≠ b → (mFM a).2.1 ≠ (mFM b).2.1 := by decide +kernel
theorem moM : ∀ k, k < 21 → parseFieldDescriptor (mFM k).2.2.1 = some (mtM k) := by decide +kernel
abbrev mm_cl : List vw_C := [("CutSheets$Groups", mFG, 2), ("CutSheets$Look", mFK, 9), ("CutSheets$Reading", mFR, 5), ("CutSheets$Sheet", mFS, 5), ("CutSheets", mFC, 9), ("CutSheetsModel", mFM, 21)]
abbrev mC_init : mm_M := (⟨"CutSheets", "<init>", "()V"⟩, prog_1_method_1_code, 2, none, [])
abbrev mC_cut : mm_M := (⟨"CutSheets", "cut", "(I)I"⟩, prog_1_method_2_code, 2, (some (.int)), [])
abbrev mC_line : mm_M := (⟨"CutSheets", "line", "(I)I"⟩, prog_1_method_3_code, 2, (some (.int)), [])
abbrev mC_spot : mm_M := (⟨"CutSheets", "spot", "(IIII)I"⟩, prog_1_method_4_code, 6, (some (.int)), [])
abbrev mC_start : mm_M := (⟨"CutSheets", "start", "()V"⟩, prog_1_method_5_code, 1, none, [])
abbrev mC_erase : mm_M := (⟨"CutSheets", "erase", "(II)I"⟩, prog_1_method_6_code, 4, (some (.int)), [])
abbrev mC_copy : mm_M := (⟨"CutSheets", "copy", "(III)I"⟩, prog_1_method_7_code, 6, (some (.int)), [])
abbrev mC_uncopy : mm_M := (⟨"CutSheets", "uncopy", "(II)I"⟩, prog_1_method_8_code, 3, (some (.int)), [])
abbrev mC_wrap : mm_M := (⟨"CutSheets", "wrap", "(II)I"⟩, prog_1_method_9_code, 7, (some (.int)), [])
abbrev mC_unwrap : mm_M := (⟨"CutSheets", "unwrap", "(I)I"⟩, prog_1_method_10_code, 2, (some (.int)), [])
abbrev mC_join : mm_M := (⟨"CutSheets", "join", "(II)I"⟩, prog_1_method_11_code, 6, (some (.int)), [])
abbrev mC_sever : mm_M := (⟨"CutSheets", "sever", "(II)I"⟩, prog_1_method_12_code, 6, (some (.int)), [])
abbrev mC_back : mm_M := (⟨"CutSheets", "back", "()I"⟩, prog_1_method_13_code, 1, (some (.int)), [])
abbrev mC_depth : mm_M := (⟨"CutSheets", "depth", "(I)I"⟩, prog_1_method_14_code, 2, (some (.int)), [])
abbrev mC_read : mm_M := (⟨"CutSheets", "read", "(I)I"⟩, prog_1_method_15_code, 2, (some (.int)), [])
abbrev mC_token : mm_M := (⟨"CutSheets", "token", "(I)I"⟩, prog_1_method_16_code, 2, (some (.int)), [])
abbrev mC_holds : mm_M := (⟨"CutSheets", "holds", "(ZII)Z"⟩, prog_1_method_17_code, 4, (some (.boolean)), [])
abbrev mC_refutes : mm_M := (⟨"CutSheets", "refutes", "(I)I"⟩, prog_1_method_18_code, 4, (some (.int)), [])
abbrev mC_count : mm_M := (⟨"CutSheets", "count", "(I)I"⟩, prog_1_method_19_code, 2, (some (.int)), [])
abbrev mC_needArgument : mm_M := (⟨"CutSheets", "needArgument", "(Z)V"⟩, prog_1_method_20_code, 1, none, [])
abbrev mC_needState : mm_M := (⟨"CutSheets", "needState", "(Z)V"⟩, prog_1_method_21_code, 1, none, [])
abbrev mC_needRoom : mm_M := (⟨"CutSheets", "needRoom", "(Z)V"⟩, prog_1_method_22_code, 1, none, [])
abbrev mC_sheet : mm_M := (⟨"CutSheets", "sheet", "()LCutSheets$Sheet;"⟩, prog_1_method_23_code, 1, (some ((.object "CutSheets$Sheet"))), [])
abbrev mC_mayInsert : mm_M := (⟨"CutSheets", "mayInsert", "(I)Z"⟩, prog_1_method_24_code, 2, (some (.boolean)), [])
abbrev mC_mayChange : mm_M := (⟨"CutSheets", "mayChange", "()Z"⟩, prog_1_method_25_code, 1, (some (.boolean)), [])
abbrev mC_changed : mm_M := (⟨"CutSheets", "changed", "()LCutSheets$Sheet;"⟩, prog_1_method_26_code, 1, (some ((.object "CutSheets$Sheet"))), [])
abbrev mC_hasAlike : mm_M := (⟨"CutSheets", "hasAlike", "(II)Z"⟩, prog_1_method_27_code, 6, (some (.boolean)), [])
abbrev mC_placesOf : mm_M := (⟨"CutSheets", "placesOf", "(I)I"⟩, prog_1_method_28_code, 1, (some (.int)), [])
abbrev mC_bitOfOne : mm_M := (⟨"CutSheets", "bitOfOne", "(I)I"⟩, prog_1_method_29_code, 1, (some (.int)), [])
abbrev mC_bitOfTwo : mm_M := (⟨"CutSheets", "bitOfTwo", "(II)I"⟩, prog_1_method_30_code, 2, (some (.int)), [])
abbrev mC_bitsOf : mm_M := (⟨"CutSheets", "bitsOf", "(I)I"⟩, prog_1_method_31_code, 4, (some (.int)), [])
abbrev mC_isAmong : mm_M := (⟨"CutSheets", "isAmong", "(II)Z"⟩, prog_1_method_32_code, 2, (some (.boolean)), [])
abbrev mM_init : mm_M := (⟨"CutSheetsModel", "<init>", "()V"⟩, prog_7_method_1_code, 2, none, [])
abbrev mM_thrown : mm_M := (⟨"CutSheetsModel", "thrown", "()I"⟩, prog_7_method_2_code, 1, (some (.int)), [])
abbrev mM_isArea : mm_M := (⟨"CutSheetsModel", "isArea", "(I)Z"⟩, prog_7_method_3_code, 2, (some (.boolean)), [])
abbrev mM_isCut : mm_M := (⟨"CutSheetsModel", "isCut", "(I)Z"⟩, prog_7_method_4_code, 2, (some (.boolean)), [])
abbrev mM_isLine : mm_M := (⟨"CutSheetsModel", "isLine", "(I)Z"⟩, prog_7_method_5_code, 2, (some (.boolean)), [])
abbrev mM_isSpot : mm_M := (⟨"CutSheetsModel", "isSpot", "(I)Z"⟩, prog_7_method_6_code, 2, (some (.boolean)), [])
abbrev mM_isWithin : mm_M := (⟨"CutSheetsModel", "isWithin", "(II)Z"⟩, prog_7_method_7_code, 4, (some (.boolean)), [])
abbrev mM_depthOf : mm_M := (⟨"CutSheetsModel", "depthOf", "(I)I"⟩, prog_7_method_8_code, 4, (some (.int)), [])
abbrev mM_places : mm_M := (⟨"CutSheetsModel", "places", "(I)I"⟩, prog_7_method_9_code, 2, (some (.int)), [])
abbrev mM_freeCut : mm_M := (⟨"CutSheetsModel", "freeCut", "()I"⟩, prog_7_method_10_code, 2, (some (.int)), [])
abbrev mM_freeLine : mm_M := (⟨"CutSheetsModel", "freeLine", "()I"⟩, prog_7_method_11_code, 2, (some (.int)), [])
abbrev mM_freeSpot : mm_M := (⟨"CutSheetsModel", "freeSpot", "()I"⟩, prog_7_method_12_code, 2, (some (.int)), [])
abbrev mM_amount : mm_M := (⟨"CutSheetsModel", "amount", "(II)I"⟩, prog_7_method_13_code, 5, (some (.int)), [])
abbrev mM_keep : mm_M := (⟨"CutSheetsModel", "keep", "()V"⟩, prog_7_method_14_code, 2, none, [])
abbrev mM_checked : mm_M := (⟨"CutSheetsModel", "checked", "(IZ)I"⟩, prog_7_method_15_code, 3, (some (.int)), [])
abbrev mM_cut : mm_M := (⟨"CutSheetsModel", "cut", "(I)I"⟩, prog_7_method_16_code, 3, (some (.int)), [])
abbrev mM_line : mm_M := (⟨"CutSheetsModel", "line", "(I)I"⟩, prog_7_method_17_code, 3, (some (.int)), [])
abbrev mM_mayHook : mm_M := (⟨"CutSheetsModel", "mayHook", "(II)Z"⟩, prog_7_method_18_code, 3, (some (.boolean)), [])
abbrev mM_spot : mm_M := (⟨"CutSheetsModel", "spot", "(IIII)I"⟩, prog_7_method_19_code, 7, (some (.int)), [])
abbrev mM_start : mm_M := (⟨"CutSheetsModel", "start", "()V"⟩, prog_7_method_20_code, 2, none, [])
abbrev mM_removeSpot : mm_M := (⟨"CutSheetsModel", "removeSpot", "(I)V"⟩, prog_7_method_21_code, 2, none, [])
abbrev mM_removeCut : mm_M := (⟨"CutSheetsModel", "removeCut", "(I)V"⟩, prog_7_method_22_code, 3, none, [])
abbrev mM_isHooked : mm_M := (⟨"CutSheetsModel", "isHooked", "(I)Z"⟩, prog_7_method_23_code, 4, (some (.boolean)), [])
abbrev mM_noPart : mm_M := (⟨"CutSheetsModel", "noPart", "(II)Z"⟩, prog_7_method_24_code, 3, (some (.boolean)), [])
abbrev mM_areaOf : mm_M := (⟨"CutSheetsModel", "areaOf", "(II)I"⟩, prog_7_method_25_code, 3, (some (.int)), [])
abbrev mM_late : mm_M := (⟨"CutSheetsModel", "late", "()I"⟩, prog_7_method_26_code, 1, (some (.int)), [])
abbrev mM_erase : mm_M := (⟨"CutSheetsModel", "erase", "(II)I"⟩, prog_7_method_27_code, 4, (some (.int)), [])
abbrev mM_copySpot : mm_M := (⟨"CutSheetsModel", "copySpot", "(II)V"⟩, prog_7_method_28_code, 6, none, [])
abbrev mM_copyArea : mm_M := (⟨"CutSheetsModel", "copyArea", "(III)V"⟩, prog_7_method_29_code, 5, none, [])
abbrev mM_copyCut : mm_M := (⟨"CutSheetsModel", "copyCut", "(II)I"⟩, prog_7_method_30_code, 8, (some (.int)), [])
abbrev mM_isRoomFor : mm_M := (⟨"CutSheetsModel", "isRoomFor", "(I)Z"⟩, prog_7_method_31_code, 6, (some (.boolean)), [])
abbrev mM_copy : mm_M := (⟨"CutSheetsModel", "copy", "(III)I"⟩, prog_7_method_32_code, 7, (some (.int)), [])
abbrev mM_add : mm_M := (⟨"CutSheetsModel", "add", "(I)V"⟩, prog_7_method_33_code, 2, none, [])
abbrev mM_readOwn : mm_M := (⟨"CutSheetsModel", "readOwn", "(I)V"⟩, prog_7_method_34_code, 3, none, [])
abbrev mM_readSpot : mm_M := (⟨"CutSheetsModel", "readSpot", "(I)V"⟩, prog_7_method_35_code, 4, none, [])
abbrev mM_readArea : mm_M := (⟨"CutSheetsModel", "readArea", "(I)V"⟩, prog_7_method_36_code, 4, none, [])
abbrev mM_readPart : mm_M := (⟨"CutSheetsModel", "readPart", "(II)V"⟩, prog_7_method_37_code, 6, none, [])
abbrev mM_isAlike : mm_M := (⟨"CutSheetsModel", "isAlike", "(II)Z"⟩, prog_7_method_38_code, 5, (some (.boolean)), [])
abbrev mM_hasOther : mm_M := (⟨"CutSheetsModel", "hasOther", "(II)Z"⟩, prog_7_method_39_code, 7, (some (.boolean)), [])
abbrev mM_uncopy : mm_M := (⟨"CutSheetsModel", "uncopy", "(II)I"⟩, prog_7_method_40_code, 6, (some (.int)), [])
abbrev mM_wrap : mm_M := (⟨"CutSheetsModel", "wrap", "(II)I"⟩, prog_7_method_41_code, 6, (some (.int)), [])
abbrev mM_only : mm_M := (⟨"CutSheetsModel", "only", "(I)I"⟩, prog_7_method_42_code, 5, (some (.int)), [])
abbrev mM_unwrap : mm_M := (⟨"CutSheetsModel", "unwrap", "(I)I"⟩, prog_7_method_43_code, 5, (some (.int)), [])
abbrev mM_join : mm_M := (⟨"CutSheetsModel", "join", "(II)I"⟩, prog_7_method_44_code, 5, (some (.int)), [])
abbrev mM_sever : mm_M := (⟨"CutSheetsModel", "sever", "(II)I"⟩, prog_7_method_45_code, 8, (some (.int)), [])
abbrev mM_back : mm_M := (⟨"CutSheetsModel", "back", "()I"⟩, prog_7_method_46_code, 2, (some (.int)), [])
abbrev mM_depth : mm_M := (⟨"CutSheetsModel", "depth", "(I)I"⟩, prog_7_method_47_code, 2, (some (.int)), [])
abbrev mM_read : mm_M := (⟨"CutSheetsModel", "read", "(I)I"⟩, prog_7_method_48_code, 2, (some (.int)), [])
abbrev mM_token : mm_M := (⟨"CutSheetsModel", "token", "(I)I"⟩, prog_7_method_49_code, 2, (some (.int)), [])
abbrev mM_count : mm_M := (⟨"CutSheetsModel", "count", "(I)I"⟩, prog_7_method_50_code, 2, (some (.int)), [])
abbrev mM_thing : mm_M := (⟨"CutSheetsModel", "thing", "(III)I"⟩, prog_7_method_51_code, 4, (some (.int)), [])
abbrev mM_spotHolds : mm_M := (⟨"CutSheetsModel", "spotHolds", "(IIII)Z"⟩, prog_7_method_52_code, 9, (some (.boolean)), [])
abbrev mM_look : mm_M := (⟨"CutSheetsModel", "look", "(IIII)V"⟩, prog_7_method_53_code, 10, none, [])
abbrev mM_any : mm_M := (⟨"CutSheetsModel", "any", "(IIII)V"⟩, prog_7_method_54_code, 8, none, [])
abbrev mM_sheetHolds : mm_M := (⟨"CutSheetsModel", "sheetHolds", "(II)Z"⟩, prog_7_method_55_code, 6, (some (.boolean)), [])
abbrev mM_change : mm_M := (⟨"CutSheetsModel", "change", "()V"⟩, prog_7_method_56_code, 3, none, [])
abbrev mM_firstHolds : mm_M := (⟨"CutSheetsModel", "firstHolds", "(II)Z"⟩, prog_7_method_57_code, 4, (some (.boolean)), [])
abbrev mM_holds : mm_M := (⟨"CutSheetsModel", "holds", "(ZII)Z"⟩, prog_7_method_58_code, 4, (some (.boolean)), [])
abbrev mM_refutes : mm_M := (⟨"CutSheetsModel", "refutes", "(I)I"⟩, prog_7_method_59_code, 4, (some (.int)), [])
abbrev mG_init : mm_M := (⟨"CutSheets$Groups", "<init>", "(I)V"⟩, prog_2_method_1_code, 2, none, [])
abbrev mG_arrange : mm_M := (⟨"CutSheets$Groups", "arrange", "([I)V"⟩, prog_2_method_2_code, 5, none, [])
abbrev mK_init : mm_M := (⟨"CutSheets$Look", "<init>", "()V"⟩, prog_3_method_1_code, 1, none, [])
abbrev mK_arrange : mm_M := (⟨"CutSheets$Look", "arrange", "(LCutSheets$Sheet;)V"⟩, prog_3_method_2_code, 3, none, [])
abbrev mK_isTrueIn : mm_M := (⟨"CutSheets$Look", "isTrueIn", "(II)Z"⟩, prog_3_method_3_code, 3, (some (.boolean)), [])
abbrev mK_isAreaTrue : mm_M := (⟨"CutSheets$Look", "isAreaTrue", "(II)Z"⟩, prog_3_method_4_code, 5, (some (.boolean)), [])
abbrev mK_takeNextThings : mm_M := (⟨"CutSheets$Look", "takeNextThings", "(I)V"⟩, prog_3_method_5_code, 4, none, [])
abbrev mK_areSpotsTrue : mm_M := (⟨"CutSheets$Look", "areSpotsTrue", "(I)Z"⟩, prog_3_method_6_code, 3, (some (.boolean)), [])
abbrev mK_bitOfSpot : mm_M := (⟨"CutSheets$Look", "bitOfSpot", "(I)I"⟩, prog_3_method_7_code, 4, (some (.int)), [])
abbrev mK_thingAt : mm_M := (⟨"CutSheets$Look", "thingAt", "(I)I"⟩, prog_3_method_8_code, 3, (some (.int)), [])
abbrev mK_areCutsFalse : mm_M := (⟨"CutSheets$Look", "areCutsFalse", "(II)Z"⟩, prog_3_method_9_code, 4, (some (.boolean)), [])
abbrev mR_init : mm_M := (⟨"CutSheets$Reading", "<init>", "()V"⟩, prog_4_method_1_code, 1, none, [])
abbrev mR_takeArea : mm_M := (⟨"CutSheets$Reading", "takeArea", "(LCutSheets$Sheet;I)V"⟩, prog_4_method_2_code, 3, none, [])
abbrev mR_takePart : mm_M := (⟨"CutSheets$Reading", "takePart", "(LCutSheets$Sheet;II)V"⟩, prog_4_method_3_code, 4, none, [])
abbrev mR_isSame : mm_M := (⟨"CutSheets$Reading", "isSame", "(LCutSheets$Reading;)Z"⟩, prog_4_method_4_code, 3, (some (.boolean)), [])
abbrev mR_clear : mm_M := (⟨"CutSheets$Reading", "clear", "(I)V"⟩, prog_4_method_5_code, 3, none, [])
abbrev mR_addArea : mm_M := (⟨"CutSheets$Reading", "addArea", "(LCutSheets$Sheet;II)V"⟩, prog_4_method_6_code, 5, none, [])
abbrev mR_addCutsIn : mm_M := (⟨"CutSheets$Reading", "addCutsIn", "(LCutSheets$Sheet;II)V"⟩, prog_4_method_7_code, 5, none, [])
abbrev mR_addSpot : mm_M := (⟨"CutSheets$Reading", "addSpot", "(LCutSheets$Sheet;I)V"⟩, prog_4_method_8_code, 4, none, [])
abbrev mR_addLine : mm_M := (⟨"CutSheets$Reading", "addLine", "(LCutSheets$Sheet;I)V"⟩, prog_4_method_9_code, 4, none, [])
abbrev mR_add : mm_M := (⟨"CutSheets$Reading", "add", "(I)V"⟩, prog_4_method_10_code, 2, none, [])
abbrev mS_init : mm_M := (⟨"CutSheets$Sheet", "<init>", "()V"⟩, prog_5_method_1_code, 2, none, [])
abbrev mS_takeOver : mm_M := (⟨"CutSheets$Sheet", "takeOver", "(LCutSheets$Sheet;)V"⟩, prog_5_method_2_code, 2, none, [])
abbrev mS_areas : mm_M := (⟨"CutSheets$Sheet", "areas", "(I)[I"⟩, prog_5_method_3_code, 2, (some ((.array .int))), [])
abbrev mS_leastNumber : mm_M := (⟨"CutSheets$Sheet", "leastNumber", "(I)I"⟩, prog_5_method_4_code, 2, (some (.int)), [])
abbrev mS_has : mm_M := (⟨"CutSheets$Sheet", "has", "(II)Z"⟩, prog_5_method_5_code, 3, (some (.boolean)), [])
abbrev mS_hasPart : mm_M := (⟨"CutSheets$Sheet", "hasPart", "(II)Z"⟩, prog_5_method_6_code, 3, (some (.boolean)), [])
abbrev mS_hasArea : mm_M := (⟨"CutSheets$Sheet", "hasArea", "(I)Z"⟩, prog_5_method_7_code, 2, (some (.boolean)), [])
abbrev mS_areaOf : mm_M := (⟨"CutSheets$Sheet", "areaOf", "(II)I"⟩, prog_5_method_8_code, 3, (some (.int)), [])
abbrev mS_howMany : mm_M := (⟨"CutSheets$Sheet", "howMany", "(I)I"⟩, prog_5_method_9_code, 2, (some (.int)), [])
abbrev mS_free : mm_M := (⟨"CutSheets$Sheet", "free", "(I)I"⟩, prog_5_method_10_code, 2, (some (.int)), [])
abbrev mS_howManyIn : mm_M := (⟨"CutSheets$Sheet", "howManyIn", "(II)I"⟩, prog_5_method_11_code, 5, (some (.int)), [])
abbrev mS_depthOf : mm_M := (⟨"CutSheets$Sheet", "depthOf", "(I)I"⟩, prog_5_method_12_code, 4, (some (.int)), [])
abbrev mS_isOdd : mm_M := (⟨"CutSheets$Sheet", "isOdd", "(I)Z"⟩, prog_5_method_13_code, 2, (some (.boolean)), [])
abbrev mS_isWithin : mm_M := (⟨"CutSheets$Sheet", "isWithin", "(II)Z"⟩, prog_5_method_14_code, 5, (some (.boolean)), [])
abbrev mS_areasWithin : mm_M := (⟨"CutSheets$Sheet", "areasWithin", "(I)I"⟩, prog_5_method_15_code, 4, (some (.int)), [])
abbrev mS_reaches : mm_M := (⟨"CutSheets$Sheet", "reaches", "(II)Z"⟩, prog_5_method_16_code, 3, (some (.boolean)), [])
abbrev mS_isHooked : mm_M := (⟨"CutSheets$Sheet", "isHooked", "(I)Z"⟩, prog_5_method_17_code, 3, (some (.boolean)), [])
abbrev mS_add : mm_M := (⟨"CutSheets$Sheet", "add", "(II)I"⟩, prog_5_method_18_code, 5, (some (.int)), [])
abbrev mS_addSpot : mm_M := (⟨"CutSheets$Sheet", "addSpot", "(IIII)I"⟩, prog_5_method_19_code, 6, (some (.int)), [])
abbrev mS_put : mm_M := (⟨"CutSheets$Sheet", "put", "(III)V"⟩, prog_5_method_20_code, 4, none, [])
abbrev mS_remove : mm_M := (⟨"CutSheets$Sheet", "remove", "(II)V"⟩, prog_5_method_21_code, 3, none, [])
abbrev mS_putAll : mm_M := (⟨"CutSheets$Sheet", "putAll", "(II)V"⟩, prog_5_method_22_code, 6, none, [])
abbrev mS_rehook : mm_M := (⟨"CutSheets$Sheet", "rehook", "(III)V"⟩, prog_5_method_23_code, 6, none, [])
abbrev mS_holdsOneCutAlone : mm_M := (⟨"CutSheets$Sheet", "holdsOneCutAlone", "(I)Z"⟩, prog_5_method_24_code, 3, (some (.boolean)), [])
abbrev mS_removeDoubleCut : mm_M := (⟨"CutSheets$Sheet", "removeDoubleCut", "(I)V"⟩, prog_5_method_25_code, 4, none, [])
abbrev mS_hasRoomForCopy : mm_M := (⟨"CutSheets$Sheet", "hasRoomForCopy", "(II)Z"⟩, prog_5_method_26_code, 4, (some (.boolean)), [])
abbrev mS_addCopy : mm_M := (⟨"CutSheets$Sheet", "addCopy", "(III[I)I"⟩, prog_5_method_27_code, 5, (some (.int)), [])
abbrev mS_copySpot : mm_M := (⟨"CutSheets$Sheet", "copySpot", "(II[I)I"⟩, prog_5_method_28_code, 6, (some (.int)), [])
abbrev mS_copyCut : mm_M := (⟨"CutSheets$Sheet", "copyCut", "(II[II)I"⟩, prog_5_method_29_code, 7, (some (.int)), [])
abbrev mS_copyCutsIn : mm_M := (⟨"CutSheets$Sheet", "copyCutsIn", "(II[II)V"⟩, prog_5_method_30_code, 6, none, [])
abbrev mL_cut : mm_M := (⟨"CutSheetsLaw", "cut", "(LCutSheets;I[J)I"⟩, method_3_code, 4, (some (.int)), [(0, 9, 12, 13), (0, 9, 15, 15), (0, 9, 18, 17)])
abbrev mL_line : mm_M := (⟨"CutSheetsLaw", "line", "(LCutSheets;I[J)I"⟩, method_4_code, 4, (some (.int)), [(0, 9, 12, 13), (0, 9, 15, 15), (0, 9, 18, 17)])
abbrev mL_spot : mm_M := (⟨"CutSheetsLaw", "spot", "(LCutSheets;IIII[J)I"⟩, method_5_code, 7, (some (.int)), [(0, 14, 17, 13), (0, 14, 21, 15), (0, 14, 25, 17)])
abbrev mL_start : mm_M := (⟨"CutSheetsLaw", "start", "(LCutSheets;)I"⟩, method_6_code, 2, (some (.int)), [(0, 4, 7, 15)])
abbrev mL_erase : mm_M := (⟨"CutSheetsLaw", "erase", "(LCutSheets;II[J)I"⟩, method_7_code, 5, (some (.int)), [(0, 10, 13, 13), (0, 10, 17, 15), (0, 10, 21, 17)])
abbrev mL_copy : mm_M := (⟨"CutSheetsLaw", "copy", "(LCutSheets;III[J)I"⟩, method_8_code, 6, (some (.int)), [(0, 12, 15, 13), (0, 12, 19, 15), (0, 12, 23, 17)])
abbrev mL_uncopy : mm_M := (⟨"CutSheetsLaw", "uncopy", "(LCutSheets;II[J)I"⟩, method_9_code, 5, (some (.int)), [(0, 10, 13, 13), (0, 10, 17, 15), (0, 10, 21, 17)])
abbrev mL_wrap : mm_M := (⟨"CutSheetsLaw", "wrap", "(LCutSheets;II[J)I"⟩, method_10_code, 5, (some (.int)), [(0, 10, 13, 13), (0, 10, 17, 15), (0, 10, 21, 17)])
abbrev mL_unwrap : mm_M := (⟨"CutSheetsLaw", "unwrap", "(LCutSheets;I[J)I"⟩, method_11_code, 4, (some (.int)), [(0, 9, 12, 13), (0, 9, 15, 15), (0, 9, 18, 17)])
abbrev mL_join : mm_M := (⟨"CutSheetsLaw", "join", "(LCutSheets;II[J)I"⟩, method_12_code, 5, (some (.int)), [(0, 10, 13, 13), (0, 10, 17, 15), (0, 10, 21, 17)])
abbrev mL_sever : mm_M := (⟨"CutSheetsLaw", "sever", "(LCutSheets;II[J)I"⟩, method_13_code, 5, (some (.int)), [(0, 10, 13, 13), (0, 10, 17, 15), (0, 10, 21, 17)])
abbrev mL_back : mm_M := (⟨"CutSheetsLaw", "back", "(LCutSheets;[J)I"⟩, method_14_code, 3, (some (.int)), [(0, 8, 11, 15)])
abbrev mL_depth : mm_M := (⟨"CutSheetsLaw", "depth", "(LCutSheets;I[J)I"⟩, method_15_code, 4, (some (.int)), [(0, 9, 12, 13)])
abbrev mL_read : mm_M := (⟨"CutSheetsLaw", "read", "(LCutSheets;I[J)I"⟩, method_16_code, 4, (some (.int)), [(0, 9, 12, 13)])
abbrev mL_token : mm_M := (⟨"CutSheetsLaw", "token", "(LCutSheets;I[J)I"⟩, method_17_code, 4, (some (.int)), [(0, 9, 12, 65)])
abbrev mL_holds : mm_M := (⟨"CutSheetsLaw", "holds", "(LCutSheets;ZII[J)I"⟩, method_18_code, 6, (some (.int)), [(0, 19, 22, 13), (0, 19, 26, 15)])
abbrev mL_refutes : mm_M := (⟨"CutSheetsLaw", "refutes", "(LCutSheets;I[J)I"⟩, method_19_code, 4, (some (.int)), [(0, 9, 12, 13), (0, 9, 15, 15)])
abbrev mL_count : mm_M := (⟨"CutSheetsLaw", "count", "(LCutSheets;I[J)I"⟩, method_20_code, 4, (some (.int)), [(0, 9, 12, 13)])
abbrev mL_law : mm_M := (⟨"CutSheetsLaw", "law", "([I)Z"⟩, code, 7, (some (.boolean)), [])
/-! printed by wip/whole/gen_names.py: nest links, field types -/
def mm_NF : List (String × Nat × String × String × String) := [("CutSheets", 151, "CutSheets$Reading", "size", "I"), ("CutSheets", 157, "CutSheets$Reading", "tokens", "[I"), ("CutSheets$Look", 52, "CutSheets$Sheet", "lineArea", "[I"), ("CutSheets$Look", 59, "CutSheets$Sheet", "spotArea", "[I"), ("CutSheets$Look", 62, "CutSheets$Sheet", "cutArea", "[I"), ("CutSheets$Look", 65, "CutSheets$Sheet", "spotSign", "[I"), ("CutSheets$Look", 74, "CutSheets$Sheet", "hooks", "[I"), ("CutSheets$Look", 79, "CutSheets$Groups", "begins", "[I"), ("CutSheets$Look", 82, "CutSheets$Groups", "numbers", "[I"), ("CutSheets$Reading", 46, "CutSheets$Sheet", "lineArea", "[I"), ("CutSheets$Reading", 52, "CutSheets$Sheet", "spotArea", "[I"), ("CutSheets$Reading", 58, "CutSheets$Sheet", "cutArea", "[I"), ("CutSheets$Reading", 64, "CutSheets$Sheet", "spotSign", "[I"), ("CutSheets$Reading", 70, "CutSheets$Sheet", "hooks", "[I")]
def mm_NM : List (String × Nat × MethodName) := [("CutSheets", 18, ⟨"CutSheets$Reading", "<init>", "()V"⟩), ("CutSheets", 31, ⟨"CutSheets$Look", "<init>", "()V"⟩), ("CutSheets$Look", 101, ⟨"CutSheets", "bitOfOne", "(I)I"⟩), ("CutSheets$Look", 104, ⟨"CutSheets", "bitOfTwo", "(II)I"⟩), ("CutSheets$Reading", 67, ⟨"CutSheets", "placesOf", "(I)I"⟩), ("CutSheets$Reading", 73, ⟨"CutSheets", "isAmong", "(II)Z"⟩), ("CutSheets$Sheet", 52, ⟨"CutSheets", "isAmong", "(II)Z"⟩)]
def mm_NC : List (Nat × Nat) := [(0, 1), (0, 2), (1, 0), (1, 2), (2, 0), (2, 1)]
def mm_fld (ci k : Nat) : String × String × String × Bool := match ci with
  | 0 => mFG k
  | 1 => mFK k
  | 2 => mFR k
  | 3 => mFS k
  | 4 => mFC k
  | _ => mFM k
def mm_ty (ci k : Nat) : FieldType := match ci with
  | 0 => mtG k
  | 1 => mtK k
  | 2 => mtR k
  | 3 => mtS k
  | 4 => mtC k
  | _ => mtM k
theorem mm_fld_eq (ci : Nat) (q : vw_C) (h : mm_cl[ci]? = some q) : ∀ k, mm_fld ci k = q.2.1 k := by
  match ci, h with
  | 0, h => cases h; exact fun _ => rfl
  | 1, h => cases h; exact fun _ => rfl
  | 2, h => cases h; exact fun _ => rfl
  | 3, h => cases h; exact fun _ => rfl
  | 4, h => cases h; exact fun _ => rfl
  | 5, h => cases h; exact fun _ => rfl
  | n + 6, h => exact absurd h (by simp [mm_cl])
theorem mm_tyok (ci : Nat) (q : vw_C) (h : mm_cl[ci]? = some q) : ∀ k, k < q.2.2 → parseFieldDescriptor (q.2.1 k).2.2.1 = some (mm_ty ci k) := by
  match ci, h with
  | 0, h => cases h; exact moG
  | 1, h => cases h; exact moK
  | 2, h => cases h; exact moR
  | 3, h => cases h; exact moS
  | 4, h => cases h; exact moC
  | 5, h => cases h; exact moM
  | n + 6, h => exact absurd h (by simp [mm_cl])
theorem mm_nmok (ci : Nat) (q : vw_C) (h : mm_cl[ci]? = some q) : ∀ a, a < q.2.2 → ∀ b, b < q.2.2 → a ≠ b → (q.2.1 a).2.1 ≠ (q.2.1 b).2.1 := by
  match ci, h with
  | 0, h => cases h; exact mnG
  | 1, h => cases h; exact mnK
  | 2, h => cases h; exact mnR
  | 3, h => cases h; exact mnS
  | 4, h => cases h; exact mnC
  | 5, h => cases h; exact mnM
  | n + 6, h => exact absurd h (by simp [mm_cl])
