/-! Words of the JDK that are used by name. -/
theorem kw_nat : Cond.native arraycopyName ∈ mm_T := mm_in 400 (by decide +kernel) rfl
theorem kw_sta : Cond.static arraycopyName ∈ mm_T := mm_in 399 (by decide +kernel) rfl
theorem kw_ini : Cond.initialized "java/lang/System" ∈ mm_T := mm_in 77 (by decide +kernel) rfl
theorem kw_oi : Cond.instanceMethod Lib.objectInit ∈ mm_T := mm_in 85 (by decide +kernel) rfl
theorem kw_oc : Cond.code Lib.objectInit ⟨#[0xb1]⟩ 1 none ∈ mm_T := mm_in 86 (by decide +kernel) rfl
theorem kw_ai : Cond.arrayClass (mm_aty 0) ∈ mm_T := mm_in 120 (by decide +kernel) rfl
theorem kw_az : Cond.arrayClass (mm_aty 1) ∈ mm_T := mm_in 783 (by decide +kernel) rfl
theorem kw_al : Cond.arrayClass (mm_aty 2) ∈ mm_T := mm_in 1016 (by decide +kernel) rfl
theorem kw_ao : Cond.arrayOver (.object "CutSheets$Sheet") ∈ mm_T := mm_in 88 (by decide +kernel) rfl
theorem kw_c0 : Cond.castable (mm_exc 0) (mm_exc 0) ∈ mm_T := mm_in 253 (by decide +kernel) rfl
theorem kw_c1 : Cond.castable (mm_exc 1) (mm_exc 1) ∈ mm_T := mm_in 336 (by decide +kernel) rfl
theorem kw_c2 : Cond.castable (mm_exc 2) (mm_exc 2) ∈ mm_T := mm_in 377 (by decide +kernel) rfl
theorem kw_c3 : Cond.castable (mm_exc 3) (mm_exc 3) ∈ mm_T := mm_in 629 (by decide +kernel) rfl
theorem kw_t0 : mm_TW "CutSheets" 173 175 0 ["java/lang/RuntimeException", "java/lang/Exception"] := ⟨by decide +kernel, by decide +kernel, by decide, mm_in 251 (by decide +kernel) rfl, mm_in 74 (by decide +kernel) rfl, by decide +kernel⟩
theorem kw_t1 : mm_TW "CutSheets" 176 178 1 ["java/lang/RuntimeException", "java/lang/Exception"] := ⟨by decide +kernel, by decide +kernel, by decide, mm_in 334 (by decide +kernel) rfl, mm_in 75 (by decide +kernel) rfl, by decide +kernel⟩
theorem kw_t2 : mm_TW "CutSheets" 179 181 2 ["java/lang/RuntimeException", "java/lang/Exception"] := ⟨by decide +kernel, by decide +kernel, by decide, mm_in 375 (by decide +kernel) rfl, mm_in 76 (by decide +kernel) rfl, by decide +kernel⟩
theorem kw_t3 : mm_TW "CutSheets" 154 156 3 ["java/lang/RuntimeException", "java/lang/Exception"] := ⟨by decide +kernel, by decide +kernel, by decide, mm_in 627 (by decide +kernel) rfl, mm_in 78 (by decide +kernel) rfl, by decide +kernel⟩
