/-! The law's cases. Printed by wip/whole/spec/l1.py -/
section KZ
variable {Γ : mm_G} {l : Launch} {d x i : Nat} {h : mm_H} {C : kc_C} {M : km_M} {D : mm_D}
theorem kZ_cut (I : kL_I Γ x h C M i) (hi : i + 5 ≤ kL_N Γ) (hN : kL_N Γ < 2 ^ 31) (x5 x6 : Option Value) (cont : ∀ (h' : mm_H) (C' : kc_C) (M' : km_M) (y5 y6 : Option Value), kL_I Γ x h' C' M' (i + 5) → mm_W Γ l mL_law (d + 52) D 1255 [some (.ref Γ.2.2.2.1), some (.ref x), some (.ref (x + 166)), some (.ref (x + 182)), some (.int (nI i)), y5, y6] [] h') : mm_W Γ l mL_law (d + 52) D 124 [some (.ref Γ.2.2.2.1), some (.ref x), some (.ref (x + 166)), some (.ref (x + 182)), some (.int (nI i)), x5, x6] [] h := by
  obtain ⟨o, hm, hw, hr, h70, o1, hw1, hkp⟩ := kL_pre I.2.2.2.1
  obtain ⟨f0, hf0⟩ := I.2.2.1
  have A := I.1
  have ok := I.2.2.2.1.1.1
  have rm1 : h.1 + 1 ≤ mm_Cm Γ := by have := I.2.2.2.2.1; omega
  have rs1 : h.2.1 + 6 ≤ mm_Sm Γ := by have := I.2.2.2.2.2; omega
  refine mm_aload_n dL_law_124 rfl rfl ?_
  refine mm_aload_n dL_law_125 rfl rfl ?_
  refine mm_iload dL_law_126 rfl ?_
  refine mm_iconst (v := nI 1) dL_law_128 (by decide) ?_
  refine mm_iadd dL_law_129 ?_
  refine mm_sload dL_law_130 (nI_add i 1) (show i + 1 < kL_N Γ by omega) hN ?_
  refine mm_aload_n dL_law_131 rfl rfl ?_
  refine mm_calls (as := [.ref x, .int (kL_p Γ (i + 1)), .ref (x + 182)]) (rest := []) dL_law_132 lL_81 rfl (fun v hv => by simp only [List.mem_cons, List.not_mem_nil, or_false] at hv; rcases hv with rfl | rfl | rfl <;> rfl) (Nat.le_of_ble_eq_true rfl) (Nat.le_of_ble_eq_true rfl) (kW_cut (a := x + 182) (Or.inr (by omega)) A.1.1 hf0 (kL_p Γ (i + 1)) (kL_put C 1 (kL_p Γ (i + 1))) (kC_cut (d := d + 40) A ok rm1 rs1 (kL_p Γ (i + 1)))) ?_ ?_
  rotate_left
  · rintro k g ⟨e, -⟩; cases e
  rintro v g ⟨e, k1, k2, k3, f, k4, k5⟩
  cases e
  have J := kL_mid I hi k1 k2 k3 k4
  refine mm_eqh J.2.1 ?_
  refine mm_istore dL_law_135 (by decide) rfl ?_
  refine mm_aload_n dL_law_137 rfl rfl ?_
  refine mm_aload_n dL_law_138 rfl rfl ?_
  refine mm_iload dL_law_139 rfl ?_
  refine mm_iconst (v := nI 1) dL_law_141 (by decide) ?_
  refine mm_iadd dL_law_142 ?_
  refine mm_sload dL_law_143 (nI_add i 1) (show i + 1 < kL_N Γ by omega) hN ?_
  refine mm_v1 dL_law_144 lL_86 (km_0 g (x + 166) M) rfl (by decide) (Nat.le_of_ble_eq_true rfl) (kM_cut (d := d + 49) o hm (kL_p Γ (i + 1))) ?_
  have hq : kq_st (fun k => k + 1) (kc_put C 1 (kL_p Γ (i + 1))) (nI (km_put M 1 (kL_p Γ (i + 1))).1) (km_put M 1 (kL_p Γ (i + 1))).2 := kq_put I.2.2.2.1 (Or.inl rfl) (kL_p Γ (i + 1))
  refine mm_istore dL_law_147 (by decide) rfl ?_
  refine mm_aload_n dL_law_149 rfl rfl ?_
  refine mm_v0 dL_law_150 lL_87 (km_0 g (x + 166) _) (by decide) (Nat.le_of_ble_eq_true rfl) (kM_thrown (d := d + 51)) ?_
  refine mm_iload dL_law_153 rfl ?_
  refine mm_icmp_eq_T (tgt := 160) dL_law_155 (by decide) (congrArg nI hq.1.symm) ?_
  refine mm_iload dL_law_160 rfl ?_
  refine mm_if_ne_n (tgt := 177) dL_law_162 (by decide) (kL_sh_code (kL_put C 1 (kL_p Γ (i + 1)))) (fun q162 => ?_) (fun q162 => ?_)
  · refine mm_goto (tgt := 1255) dL_law_177 (by decide) ?_
    exact cont _ _ _ _ _ (kL_end J hq.2.2)
  · have hans := kL_ans (f := f) (fun k => by first | exact Nat.succ_ne_zero k | decide) (fun v hv => by rcases (kL_put C 1 (kL_p Γ (i + 1))) with ⟨y, w⟩ | w | w | w <;> rw [hv] at w <;> first | exact ⟨_, Sum.inl.inj w⟩ | cases w) hq k5 q162
    refine mm_aload_n dL_law_165 rfl rfl ?_
    refine mm_iconst (v := nI 0) dL_law_166 (by decide) ?_
    refine mm_laload dL_law_167 (kL_out J) rfl (by decide) (by decide) ?_
    refine mm_iload dL_law_168 rfl ?_
    refine mm_i2l dL_law_170 ?_
    refine mm_lcmp dL_law_171 ?_
    refine mm_top (v' := .int (nI 0)) (congrArg Value.int (by rw [hans]; exact kL_cmp _)) ?_
    refine mm_if_eq_T (tgt := 177) dL_law_172 (by decide) rfl ?_
    refine mm_goto (tgt := 1255) dL_law_177 (by decide) ?_
    exact cont _ _ _ _ _ (kL_end J hq.2.2)
theorem kZ_line (I : kL_I Γ x h C M i) (hi : i + 5 ≤ kL_N Γ) (hN : kL_N Γ < 2 ^ 31) (x5 x6 : Option Value) (cont : ∀ (h' : mm_H) (C' : kc_C) (M' : km_M) (y5 y6 : Option Value), kL_I Γ x h' C' M' (i + 5) → mm_W Γ l mL_law (d + 52) D 1255 [some (.ref Γ.2.2.2.1), some (.ref x), some (.ref (x + 166)), some (.ref (x + 182)), some (.int (nI i)), y5, y6] [] h') : mm_W Γ l mL_law (d + 52) D 180 [some (.ref Γ.2.2.2.1), some (.ref x), some (.ref (x + 166)), some (.ref (x + 182)), some (.int (nI i)), x5, x6] [] h := by
  obtain ⟨o, hm, hw, hr, h70, o1, hw1, hkp⟩ := kL_pre I.2.2.2.1
  obtain ⟨f0, hf0⟩ := I.2.2.1
  have A := I.1
  have ok := I.2.2.2.1.1.1
  have rm1 : h.1 + 1 ≤ mm_Cm Γ := by have := I.2.2.2.2.1; omega
  have rs1 : h.2.1 + 6 ≤ mm_Sm Γ := by have := I.2.2.2.2.2; omega
  refine mm_aload_n dL_law_180 rfl rfl ?_
  refine mm_aload_n dL_law_181 rfl rfl ?_
  refine mm_iload dL_law_182 rfl ?_
  refine mm_iconst (v := nI 1) dL_law_184 (by decide) ?_
  refine mm_iadd dL_law_185 ?_
  refine mm_sload dL_law_186 (nI_add i 1) (show i + 1 < kL_N Γ by omega) hN ?_
  refine mm_aload_n dL_law_187 rfl rfl ?_
  refine mm_calls (as := [.ref x, .int (kL_p Γ (i + 1)), .ref (x + 182)]) (rest := []) dL_law_188 lL_90 rfl (fun v hv => by simp only [List.mem_cons, List.not_mem_nil, or_false] at hv; rcases hv with rfl | rfl | rfl <;> rfl) (Nat.le_of_ble_eq_true rfl) (Nat.le_of_ble_eq_true rfl) (kW_line (a := x + 182) (Or.inr (by omega)) A.1.1 hf0 (kL_p Γ (i + 1)) (kL_put C 2 (kL_p Γ (i + 1))) (kC_line (d := d + 40) A ok rm1 rs1 (kL_p Γ (i + 1)))) ?_ ?_
  rotate_left
  · rintro k g ⟨e, -⟩; cases e
  rintro v g ⟨e, k1, k2, k3, f, k4, k5⟩
  cases e
  have J := kL_mid I hi k1 k2 k3 k4
  refine mm_eqh J.2.1 ?_
  refine mm_istore dL_law_191 (by decide) rfl ?_
  refine mm_aload_n dL_law_193 rfl rfl ?_
  refine mm_aload_n dL_law_194 rfl rfl ?_
  refine mm_iload dL_law_195 rfl ?_
  refine mm_iconst (v := nI 1) dL_law_197 (by decide) ?_
  refine mm_iadd dL_law_198 ?_
  refine mm_sload dL_law_199 (nI_add i 1) (show i + 1 < kL_N Γ by omega) hN ?_
  refine mm_v1 dL_law_200 lL_92 (km_0 g (x + 166) M) rfl (by decide) (Nat.le_of_ble_eq_true rfl) (kM_line (d := d + 49) o hm (kL_p Γ (i + 1))) ?_
  have hq : kq_st (fun k => k + 1) (kc_put C 2 (kL_p Γ (i + 1))) (nI (km_put M 2 (kL_p Γ (i + 1))).1) (km_put M 2 (kL_p Γ (i + 1))).2 := kq_put I.2.2.2.1 (Or.inr rfl) (kL_p Γ (i + 1))
  refine mm_istore dL_law_203 (by decide) rfl ?_
  refine mm_aload_n dL_law_205 rfl rfl ?_
  refine mm_v0 dL_law_206 lL_87 (km_0 g (x + 166) _) (by decide) (Nat.le_of_ble_eq_true rfl) (kM_thrown (d := d + 51)) ?_
  refine mm_iload dL_law_209 rfl ?_
  refine mm_icmp_eq_T (tgt := 216) dL_law_211 (by decide) (congrArg nI hq.1.symm) ?_
  refine mm_iload dL_law_216 rfl ?_
  refine mm_if_ne_n (tgt := 233) dL_law_218 (by decide) (kL_sh_code (kL_put C 2 (kL_p Γ (i + 1)))) (fun q218 => ?_) (fun q218 => ?_)
  · refine mm_goto (tgt := 1255) dL_law_233 (by decide) ?_
    exact cont _ _ _ _ _ (kL_end J hq.2.2)
  · have hans := kL_ans (f := f) (fun k => by first | exact Nat.succ_ne_zero k | decide) (fun v hv => by rcases (kL_put C 2 (kL_p Γ (i + 1))) with ⟨y, w⟩ | w | w | w <;> rw [hv] at w <;> first | exact ⟨_, Sum.inl.inj w⟩ | cases w) hq k5 q218
    refine mm_aload_n dL_law_221 rfl rfl ?_
    refine mm_iconst (v := nI 0) dL_law_222 (by decide) ?_
    refine mm_laload dL_law_223 (kL_out J) rfl (by decide) (by decide) ?_
    refine mm_iload dL_law_224 rfl ?_
    refine mm_i2l dL_law_226 ?_
    refine mm_lcmp dL_law_227 ?_
    refine mm_top (v' := .int (nI 0)) (congrArg Value.int (by rw [hans]; exact kL_cmp _)) ?_
    refine mm_if_eq_T (tgt := 233) dL_law_228 (by decide) rfl ?_
    refine mm_goto (tgt := 1255) dL_law_233 (by decide) ?_
    exact cont _ _ _ _ _ (kL_end J hq.2.2)
theorem kZ_spot (I : kL_I Γ x h C M i) (hi : i + 5 ≤ kL_N Γ) (hN : kL_N Γ < 2 ^ 31) (x5 x6 : Option Value) (cont : ∀ (h' : mm_H) (C' : kc_C) (M' : km_M) (y5 y6 : Option Value), kL_I Γ x h' C' M' (i + 5) → mm_W Γ l mL_law (d + 52) D 1255 [some (.ref Γ.2.2.2.1), some (.ref x), some (.ref (x + 166)), some (.ref (x + 182)), some (.int (nI i)), y5, y6] [] h') : mm_W Γ l mL_law (d + 52) D 236 [some (.ref Γ.2.2.2.1), some (.ref x), some (.ref (x + 166)), some (.ref (x + 182)), some (.int (nI i)), x5, x6] [] h := by
  obtain ⟨o, hm, hw, hr, h70, o1, hw1, hkp⟩ := kL_pre I.2.2.2.1
  obtain ⟨f0, hf0⟩ := I.2.2.1
  have A := I.1
  have ok := I.2.2.2.1.1.1
  have rm1 : h.1 + 1 ≤ mm_Cm Γ := by have := I.2.2.2.2.1; omega
  have rs1 : h.2.1 + 6 ≤ mm_Sm Γ := by have := I.2.2.2.2.2; omega
  refine mm_aload_n dL_law_236 rfl rfl ?_
  refine mm_aload_n dL_law_237 rfl rfl ?_
  refine mm_iload dL_law_238 rfl ?_
  refine mm_iconst (v := nI 1) dL_law_240 (by decide) ?_
  refine mm_iadd dL_law_241 ?_
  refine mm_sload dL_law_242 (nI_add i 1) (show i + 1 < kL_N Γ by omega) hN ?_
  refine mm_aload_n dL_law_243 rfl rfl ?_
  refine mm_iload dL_law_244 rfl ?_
  refine mm_iconst (v := nI 2) dL_law_246 (by decide) ?_
  refine mm_iadd dL_law_247 ?_
  refine mm_sload dL_law_248 (nI_add i 2) (show i + 2 < kL_N Γ by omega) hN ?_
  refine mm_aload_n dL_law_249 rfl rfl ?_
  refine mm_iload dL_law_250 rfl ?_
  refine mm_iconst (v := nI 3) dL_law_252 (by decide) ?_
  refine mm_iadd dL_law_253 ?_
  refine mm_sload dL_law_254 (nI_add i 3) (show i + 3 < kL_N Γ by omega) hN ?_
  refine mm_aload_n dL_law_255 rfl rfl ?_
  refine mm_iload dL_law_256 rfl ?_
  refine mm_iconst (v := nI 4) dL_law_258 (by decide) ?_
  refine mm_iadd dL_law_259 ?_
  refine mm_sload dL_law_260 (nI_add i 4) (show i + 4 < kL_N Γ by omega) hN ?_
  refine mm_aload_n dL_law_261 rfl rfl ?_
  refine mm_calls (as := [.ref x, .int (kL_p Γ (i + 1)), .int (kL_p Γ (i + 2)), .int (kL_p Γ (i + 3)), .int (kL_p Γ (i + 4)), .ref (x + 182)]) (rest := []) dL_law_262 lL_93 rfl (fun v hv => by simp only [List.mem_cons, List.not_mem_nil, or_false] at hv; rcases hv with rfl | rfl | rfl | rfl | rfl | rfl <;> rfl) (Nat.le_of_ble_eq_true rfl) (Nat.le_of_ble_eq_true rfl) (kW_spot (a := x + 182) (Or.inr (by omega)) A.1.1 hf0 (kL_p Γ (i + 1)) (kL_p Γ (i + 2)) (kL_p Γ (i + 3)) (kL_p Γ (i + 4)) (kL_spot _ (kL_p Γ (i + 1)) (kL_p Γ (i + 2)) (kL_p Γ (i + 3)) (kL_p Γ (i + 4))) (kC_spot (d := d + 40) A ok rm1 rs1 (kL_p Γ (i + 1)) (kL_p Γ (i + 2)) (kL_p Γ (i + 3)) (kL_p Γ (i + 4)))) ?_ ?_
  rotate_left
  · rintro k g ⟨e, -⟩; cases e
  rintro v g ⟨e, k1, k2, k3, f, k4, k5⟩
  cases e
  have J := kL_mid I hi k1 k2 k3 k4
  refine mm_eqh J.2.1 ?_
  refine mm_istore dL_law_265 (by decide) rfl ?_
  refine mm_aload_n dL_law_267 rfl rfl ?_
  refine mm_aload_n dL_law_268 rfl rfl ?_
  refine mm_iload dL_law_269 rfl ?_
  refine mm_iconst (v := nI 1) dL_law_271 (by decide) ?_
  refine mm_iadd dL_law_272 ?_
  refine mm_sload dL_law_273 (nI_add i 1) (show i + 1 < kL_N Γ by omega) hN ?_
  refine mm_aload_n dL_law_274 rfl rfl ?_
  refine mm_iload dL_law_275 rfl ?_
  refine mm_iconst (v := nI 2) dL_law_277 (by decide) ?_
  refine mm_iadd dL_law_278 ?_
  refine mm_sload dL_law_279 (nI_add i 2) (show i + 2 < kL_N Γ by omega) hN ?_
  refine mm_aload_n dL_law_280 rfl rfl ?_
  refine mm_iload dL_law_281 rfl ?_
  refine mm_iconst (v := nI 3) dL_law_283 (by decide) ?_
  refine mm_iadd dL_law_284 ?_
  refine mm_sload dL_law_285 (nI_add i 3) (show i + 3 < kL_N Γ by omega) hN ?_
  refine mm_aload_n dL_law_286 rfl rfl ?_
  refine mm_iload dL_law_287 rfl ?_
  refine mm_iconst (v := nI 4) dL_law_289 (by decide) ?_
  refine mm_iadd dL_law_290 ?_
  refine mm_sload dL_law_291 (nI_add i 4) (show i + 4 < kL_N Γ by omega) hN ?_
  refine mm_v4 dL_law_292 lL_96 (km_0 g (x + 166) M) rfl rfl rfl rfl (by decide) (Nat.le_of_ble_eq_true rfl) (kM_spot (d := d + 49) o hm (kL_p Γ (i + 1)) (kL_p Γ (i + 2)) (kL_p Γ (i + 3)) (kL_p Γ (i + 4))) ?_
  have hq : kq_st (fun k => k + 1) (kc_spot C (kL_p Γ (i + 1)) (kL_p Γ (i + 2)) (kL_p Γ (i + 3)) (kL_p Γ (i + 4))) (nI (km_spot M (kL_p Γ (i + 1)) (kL_p Γ (i + 2)) (kL_p Γ (i + 3)) (kL_p Γ (i + 4))).1) (km_spot M (kL_p Γ (i + 1)) (kL_p Γ (i + 2)) (kL_p Γ (i + 3)) (kL_p Γ (i + 4))).2 := kq_spot I.2.2.2.1 (kL_p Γ (i + 1)) (kL_p Γ (i + 2)) (kL_p Γ (i + 3)) (kL_p Γ (i + 4))
  refine mm_istore dL_law_295 (by decide) rfl ?_
  refine mm_aload_n dL_law_297 rfl rfl ?_
  refine mm_v0 dL_law_298 lL_87 (km_0 g (x + 166) _) (by decide) (Nat.le_of_ble_eq_true rfl) (kM_thrown (d := d + 51)) ?_
  refine mm_iload dL_law_301 rfl ?_
  refine mm_icmp_eq_T (tgt := 308) dL_law_303 (by decide) (congrArg nI hq.1.symm) ?_
  refine mm_iload dL_law_308 rfl ?_
  refine mm_if_ne_n (tgt := 325) dL_law_310 (by decide) (kL_sh_code (kL_spot _ (kL_p Γ (i + 1)) (kL_p Γ (i + 2)) (kL_p Γ (i + 3)) (kL_p Γ (i + 4)))) (fun q310 => ?_) (fun q310 => ?_)
  · refine mm_goto (tgt := 1255) dL_law_325 (by decide) ?_
    exact cont _ _ _ _ _ (kL_end J hq.2.2)
  · have hans := kL_ans (f := f) (fun k => by first | exact Nat.succ_ne_zero k | decide) (fun v hv => by rcases (kL_spot _ (kL_p Γ (i + 1)) (kL_p Γ (i + 2)) (kL_p Γ (i + 3)) (kL_p Γ (i + 4))) with ⟨y, w⟩ | w | w | w <;> rw [hv] at w <;> first | exact ⟨_, Sum.inl.inj w⟩ | cases w) hq k5 q310
    refine mm_aload_n dL_law_313 rfl rfl ?_
    refine mm_iconst (v := nI 0) dL_law_314 (by decide) ?_
    refine mm_laload dL_law_315 (kL_out J) rfl (by decide) (by decide) ?_
    refine mm_iload dL_law_316 rfl ?_
    refine mm_i2l dL_law_318 ?_
    refine mm_lcmp dL_law_319 ?_
    refine mm_top (v' := .int (nI 0)) (congrArg Value.int (by rw [hans]; exact kL_cmp _)) ?_
    refine mm_if_eq_T (tgt := 325) dL_law_320 (by decide) rfl ?_
    refine mm_goto (tgt := 1255) dL_law_325 (by decide) ?_
    exact cont _ _ _ _ _ (kL_end J hq.2.2)
theorem kZ_start (I : kL_I Γ x h C M i) (hi : i + 5 ≤ kL_N Γ) (hN : kL_N Γ < 2 ^ 31) (x5 x6 : Option Value) (cont : ∀ (h' : mm_H) (C' : kc_C) (M' : km_M) (y5 y6 : Option Value), kL_I Γ x h' C' M' (i + 5) → mm_W Γ l mL_law (d + 52) D 1255 [some (.ref Γ.2.2.2.1), some (.ref x), some (.ref (x + 166)), some (.ref (x + 182)), some (.int (nI i)), y5, y6] [] h') : mm_W Γ l mL_law (d + 52) D 328 [some (.ref Γ.2.2.2.1), some (.ref x), some (.ref (x + 166)), some (.ref (x + 182)), some (.int (nI i)), x5, x6] [] h := by
  obtain ⟨o, hm, hw, hr, h70, o1, hw1, hkp⟩ := kL_pre I.2.2.2.1
  obtain ⟨f0, hf0⟩ := I.2.2.1
  have A := I.1
  have ok := I.2.2.2.1.1.1
  have rm1 : h.1 + 1 ≤ mm_Cm Γ := by have := I.2.2.2.2.1; omega
  have rs1 : h.2.1 + 6 ≤ mm_Sm Γ := by have := I.2.2.2.2.2; omega
  refine mm_aload_n dL_law_328 rfl rfl ?_
  refine mm_calls (as := [.ref x]) (rest := []) dL_law_329 lL_97 rfl (fun v hv => by simp only [List.mem_cons, List.not_mem_nil, or_false] at hv; subst hv; rfl) (Nat.le_of_ble_eq_true rfl) (Nat.le_of_ble_eq_true rfl) (kW_start (a := x + 182) (Or.inr (by omega)) A.1.1 hf0 (kL_start _) (kC_start (d := d + 40) A ok rm1 rs1)) ?_ ?_
  rotate_left
  · rintro k g ⟨e, -⟩; cases e
  rintro v g ⟨e, k1, k2, k3, f, k4, k5⟩
  cases e
  have J := kL_mid I hi k1 k2 k3 k4
  refine mm_eqh J.2.1 ?_
  refine mm_istore dL_law_332 (by decide) rfl ?_
  refine mm_aload_n dL_law_334 rfl rfl ?_
  refine mm_v0 dL_law_335 lL_100 (km_0 g (x + 166) M) (by decide) (Nat.le_of_ble_eq_true rfl) (kM_start (d := d + 51)) ?_
  have hq : kq_st (fun _ => 1) (kc_start C) 0 (km_start M) := kq_start I.2.2.2.1
  refine mm_aload_n dL_law_338 rfl rfl ?_
  refine mm_v0 dL_law_339 lL_87 (km_0 g (x + 166) _) (by decide) (Nat.le_of_ble_eq_true rfl) (kM_thrown (d := d + 51)) ?_
  refine mm_iload dL_law_342 rfl ?_
  refine mm_icmp_eq_T (tgt := 349) dL_law_344 (by decide) (congrArg nI hq.1.symm) ?_
  refine mm_goto (tgt := 1255) dL_law_349 (by decide) ?_
  exact cont _ _ _ _ _ (kL_end J hq.2.2)
theorem kZ_erase (I : kL_I Γ x h C M i) (hi : i + 5 ≤ kL_N Γ) (hN : kL_N Γ < 2 ^ 31) (x5 x6 : Option Value) (cont : ∀ (h' : mm_H) (C' : kc_C) (M' : km_M) (y5 y6 : Option Value), kL_I Γ x h' C' M' (i + 5) → mm_W Γ l mL_law (d + 52) D 1255 [some (.ref Γ.2.2.2.1), some (.ref x), some (.ref (x + 166)), some (.ref (x + 182)), some (.int (nI i)), y5, y6] [] h') : mm_W Γ l mL_law (d + 52) D 352 [some (.ref Γ.2.2.2.1), some (.ref x), some (.ref (x + 166)), some (.ref (x + 182)), some (.int (nI i)), x5, x6] [] h := by
  obtain ⟨o, hm, hw, hr, h70, o1, hw1, hkp⟩ := kL_pre I.2.2.2.1
  obtain ⟨f0, hf0⟩ := I.2.2.1
  have A := I.1
  have ok := I.2.2.2.1.1.1
  have rm1 : h.1 + 1 ≤ mm_Cm Γ := by have := I.2.2.2.2.1; omega
  have rs1 : h.2.1 + 6 ≤ mm_Sm Γ := by have := I.2.2.2.2.2; omega
  refine mm_aload_n dL_law_352 rfl rfl ?_
  refine mm_aload_n dL_law_353 rfl rfl ?_
  refine mm_iload dL_law_354 rfl ?_
  refine mm_iconst (v := nI 1) dL_law_356 (by decide) ?_
  refine mm_iadd dL_law_357 ?_
  refine mm_sload dL_law_358 (nI_add i 1) (show i + 1 < kL_N Γ by omega) hN ?_
  refine mm_aload_n dL_law_359 rfl rfl ?_
  refine mm_iload dL_law_360 rfl ?_
  refine mm_iconst (v := nI 2) dL_law_362 (by decide) ?_
  refine mm_iadd dL_law_363 ?_
  refine mm_sload dL_law_364 (nI_add i 2) (show i + 2 < kL_N Γ by omega) hN ?_
  refine mm_aload_n dL_law_365 rfl rfl ?_
  refine mm_calls (as := [.ref x, .int (kL_p Γ (i + 1)), .int (kL_p Γ (i + 2)), .ref (x + 182)]) (rest := []) dL_law_366 lL_101 rfl (fun v hv => by simp only [List.mem_cons, List.not_mem_nil, or_false] at hv; rcases hv with rfl | rfl | rfl | rfl <;> rfl) (Nat.le_of_ble_eq_true rfl) (Nat.le_of_ble_eq_true rfl) (kW_erase (a := x + 182) (Or.inr (by omega)) A.1.1 hf0 (kL_p Γ (i + 1)) (kL_p Γ (i + 2)) (kL_erase _ (kL_p Γ (i + 1)) (kL_p Γ (i + 2))) (kC_erase (d := d + 40) A ok rm1 rs1 (kL_p Γ (i + 1)) (kL_p Γ (i + 2)))) ?_ ?_
  rotate_left
  · rintro k g ⟨e, -⟩; cases e
  rintro v g ⟨e, k1, k2, k3, f, k4, k5⟩
  cases e
  have J := kL_mid I hi k1 k2 k3 k4
  refine mm_eqh J.2.1 ?_
  refine mm_istore dL_law_369 (by decide) rfl ?_
  refine mm_aload_n dL_law_371 rfl rfl ?_
  refine mm_aload_n dL_law_372 rfl rfl ?_
  refine mm_iload dL_law_373 rfl ?_
  refine mm_iconst (v := nI 1) dL_law_375 (by decide) ?_
  refine mm_iadd dL_law_376 ?_
  refine mm_sload dL_law_377 (nI_add i 1) (show i + 1 < kL_N Γ by omega) hN ?_
  refine mm_aload_n dL_law_378 rfl rfl ?_
  refine mm_iload dL_law_379 rfl ?_
  refine mm_iconst (v := nI 2) dL_law_381 (by decide) ?_
  refine mm_iadd dL_law_382 ?_
  refine mm_sload dL_law_383 (nI_add i 2) (show i + 2 < kL_N Γ by omega) hN ?_
  refine mm_v2 dL_law_384 lL_104 (km_0 g (x + 166) M) rfl rfl (by decide) (Nat.le_of_ble_eq_true rfl) (kM_erase (d := d + 48) o hm (kL_p Γ (i + 1)) (kL_p Γ (i + 2))) ?_
  have hq : kq_st (fun k => k + 1) (kc_erase C (kL_p Γ (i + 1)) (kL_p Γ (i + 2))) (nI (km_erase M (kL_p Γ (i + 1)) (kL_p Γ (i + 2))).1) (km_erase M (kL_p Γ (i + 1)) (kL_p Γ (i + 2))).2 := kq_erase I.2.2.2.1 (kL_p Γ (i + 1)) (kL_p Γ (i + 2))
  refine mm_istore dL_law_387 (by decide) rfl ?_
  refine mm_aload_n dL_law_389 rfl rfl ?_
  refine mm_v0 dL_law_390 lL_87 (km_0 g (x + 166) _) (by decide) (Nat.le_of_ble_eq_true rfl) (kM_thrown (d := d + 51)) ?_
  refine mm_iload dL_law_393 rfl ?_
  refine mm_icmp_eq_T (tgt := 400) dL_law_395 (by decide) (congrArg nI hq.1.symm) ?_
  refine mm_iload dL_law_400 rfl ?_
  refine mm_if_ne_n (tgt := 417) dL_law_402 (by decide) (kL_sh_code (kL_erase _ (kL_p Γ (i + 1)) (kL_p Γ (i + 2)))) (fun q402 => ?_) (fun q402 => ?_)
  · refine mm_goto (tgt := 1255) dL_law_417 (by decide) ?_
    exact cont _ _ _ _ _ (kL_end J hq.2.2)
  · have hans := kL_ans (f := f) (fun k => by first | exact Nat.succ_ne_zero k | decide) (fun v hv => by rcases (kL_erase _ (kL_p Γ (i + 1)) (kL_p Γ (i + 2))) with ⟨y, w⟩ | w | w | w <;> rw [hv] at w <;> first | exact ⟨_, Sum.inl.inj w⟩ | cases w) hq k5 q402
    refine mm_aload_n dL_law_405 rfl rfl ?_
    refine mm_iconst (v := nI 0) dL_law_406 (by decide) ?_
    refine mm_laload dL_law_407 (kL_out J) rfl (by decide) (by decide) ?_
    refine mm_iload dL_law_408 rfl ?_
    refine mm_i2l dL_law_410 ?_
    refine mm_lcmp dL_law_411 ?_
    refine mm_top (v' := .int (nI 0)) (congrArg Value.int (by rw [hans]; exact kL_cmp _)) ?_
    refine mm_if_eq_T (tgt := 417) dL_law_412 (by decide) rfl ?_
    refine mm_goto (tgt := 1255) dL_law_417 (by decide) ?_
    exact cont _ _ _ _ _ (kL_end J hq.2.2)
theorem kZ_copy (I : kL_I Γ x h C M i) (hi : i + 5 ≤ kL_N Γ) (hN : kL_N Γ < 2 ^ 31) (x5 x6 : Option Value) (cont : ∀ (h' : mm_H) (C' : kc_C) (M' : km_M) (y5 y6 : Option Value), kL_I Γ x h' C' M' (i + 5) → mm_W Γ l mL_law (d + 52) D 1255 [some (.ref Γ.2.2.2.1), some (.ref x), some (.ref (x + 166)), some (.ref (x + 182)), some (.int (nI i)), y5, y6] [] h') : mm_W Γ l mL_law (d + 52) D 420 [some (.ref Γ.2.2.2.1), some (.ref x), some (.ref (x + 166)), some (.ref (x + 182)), some (.int (nI i)), x5, x6] [] h := by
  obtain ⟨o, hm, hw, hr, h70, o1, hw1, hkp⟩ := kL_pre I.2.2.2.1
  obtain ⟨f0, hf0⟩ := I.2.2.1
  have A := I.1
  have ok := I.2.2.2.1.1.1
  have rm1 : h.1 + 1 ≤ mm_Cm Γ := by have := I.2.2.2.2.1; omega
  have rs1 : h.2.1 + 6 ≤ mm_Sm Γ := by have := I.2.2.2.2.2; omega
  refine mm_aload_n dL_law_420 rfl rfl ?_
  refine mm_aload_n dL_law_421 rfl rfl ?_
  refine mm_iload dL_law_422 rfl ?_
  refine mm_iconst (v := nI 1) dL_law_424 (by decide) ?_
  refine mm_iadd dL_law_425 ?_
  refine mm_sload dL_law_426 (nI_add i 1) (show i + 1 < kL_N Γ by omega) hN ?_
  refine mm_aload_n dL_law_427 rfl rfl ?_
  refine mm_iload dL_law_428 rfl ?_
  refine mm_iconst (v := nI 2) dL_law_430 (by decide) ?_
  refine mm_iadd dL_law_431 ?_
  refine mm_sload dL_law_432 (nI_add i 2) (show i + 2 < kL_N Γ by omega) hN ?_
  refine mm_aload_n dL_law_433 rfl rfl ?_
  refine mm_iload dL_law_434 rfl ?_
  refine mm_iconst (v := nI 3) dL_law_436 (by decide) ?_
  refine mm_iadd dL_law_437 ?_
  refine mm_sload dL_law_438 (nI_add i 3) (show i + 3 < kL_N Γ by omega) hN ?_
  refine mm_aload_n dL_law_439 rfl rfl ?_
  refine mm_calls (as := [.ref x, .int (kL_p Γ (i + 1)), .int (kL_p Γ (i + 2)), .int (kL_p Γ (i + 3)), .ref (x + 182)]) (rest := []) dL_law_440 lL_105 rfl (fun v hv => by simp only [List.mem_cons, List.not_mem_nil, or_false] at hv; rcases hv with rfl | rfl | rfl | rfl | rfl <;> rfl) (Nat.le_of_ble_eq_true rfl) (Nat.le_of_ble_eq_true rfl) (kW_copy (a := x + 182) (Or.inr (by omega)) A.1.1 hf0 (kL_p Γ (i + 1)) (kL_p Γ (i + 2)) (kL_p Γ (i + 3)) (kL_copy _ (kL_p Γ (i + 1)) (kL_p Γ (i + 2)) (kL_p Γ (i + 3))) (kC_copy (d := d + 0) A ok rm1 rs1 (kL_p Γ (i + 1)) (kL_p Γ (i + 2)) (kL_p Γ (i + 3)))) ?_ ?_
  rotate_left
  · rintro k g ⟨e, -⟩; cases e
  rintro v g ⟨e, k1, k2, k3, f, k4, k5⟩
  cases e
  have J := kL_mid I hi k1 k2 k3 k4
  refine mm_eqh J.2.1 ?_
  refine mm_istore dL_law_443 (by decide) rfl ?_
  refine mm_aload_n dL_law_445 rfl rfl ?_
  refine mm_aload_n dL_law_446 rfl rfl ?_
  refine mm_iload dL_law_447 rfl ?_
  refine mm_iconst (v := nI 1) dL_law_449 (by decide) ?_
  refine mm_iadd dL_law_450 ?_
  refine mm_sload dL_law_451 (nI_add i 1) (show i + 1 < kL_N Γ by omega) hN ?_
  refine mm_aload_n dL_law_452 rfl rfl ?_
  refine mm_iload dL_law_453 rfl ?_
  refine mm_iconst (v := nI 2) dL_law_455 (by decide) ?_
  refine mm_iadd dL_law_456 ?_
  refine mm_sload dL_law_457 (nI_add i 2) (show i + 2 < kL_N Γ by omega) hN ?_
  refine mm_aload_n dL_law_458 rfl rfl ?_
  refine mm_iload dL_law_459 rfl ?_
  refine mm_iconst (v := nI 3) dL_law_461 (by decide) ?_
  refine mm_iadd dL_law_462 ?_
  refine mm_sload dL_law_463 (nI_add i 3) (show i + 3 < kL_N Γ by omega) hN ?_
  obtain ⟨T', hT, hP⟩ := kq_copy I.2.2.2.1 (kL_p Γ (i + 1)) (kL_p Γ (i + 2)) (kL_p Γ (i + 3))
  refine mm_v3x dL_law_464 lL_108 (km_0 g (x + 166) M) rfl rfl rfl (by decide) (Nat.le_of_ble_eq_true rfl) (kM_copy (d := d + 47) o hm hkp (kL_p Γ (i + 1)) (kL_p Γ (i + 2)) (kL_p Γ (i + 3)) T' hT) ?_
  intro v M2 hv
  obtain ⟨b, rfl, hq⟩ := hP v M2 hv
  refine mm_istore dL_law_467 (by decide) rfl ?_
  refine mm_aload_n dL_law_469 rfl rfl ?_
  refine mm_v0 dL_law_470 lL_87 (km_0 g (x + 166) _) (by decide) (Nat.le_of_ble_eq_true rfl) (kM_thrown (d := d + 51)) ?_
  refine mm_iload dL_law_473 rfl ?_
  refine mm_icmp_eq_T (tgt := 480) dL_law_475 (by decide) (congrArg nI hq.1.symm) ?_
  refine mm_iload dL_law_480 rfl ?_
  refine mm_if_ne_n (tgt := 497) dL_law_482 (by decide) (kL_sh_code (kL_copy _ (kL_p Γ (i + 1)) (kL_p Γ (i + 2)) (kL_p Γ (i + 3)))) (fun q482 => ?_) (fun q482 => ?_)
  · refine mm_goto (tgt := 1255) dL_law_497 (by decide) ?_
    exact cont _ _ _ _ _ (kL_end J hq.2.2)
  · have hans := kL_ans (f := f) (fun k => by first | exact Nat.succ_ne_zero k | decide) (fun v hv => by rcases (kL_copy _ (kL_p Γ (i + 1)) (kL_p Γ (i + 2)) (kL_p Γ (i + 3))) with ⟨y, w⟩ | w | w | w <;> rw [hv] at w <;> first | exact ⟨_, Sum.inl.inj w⟩ | cases w) hq k5 q482
    refine mm_aload_n dL_law_485 rfl rfl ?_
    refine mm_iconst (v := nI 0) dL_law_486 (by decide) ?_
    refine mm_laload dL_law_487 (kL_out J) rfl (by decide) (by decide) ?_
    refine mm_iload dL_law_488 rfl ?_
    refine mm_i2l dL_law_490 ?_
    refine mm_lcmp dL_law_491 ?_
    refine mm_top (v' := .int (nI 0)) (congrArg Value.int (by rw [hans]; exact kL_cmp _)) ?_
    refine mm_if_eq_T (tgt := 497) dL_law_492 (by decide) rfl ?_
    refine mm_goto (tgt := 1255) dL_law_497 (by decide) ?_
    exact cont _ _ _ _ _ (kL_end J hq.2.2)
theorem kZ_uncopy (I : kL_I Γ x h C M i) (hi : i + 5 ≤ kL_N Γ) (hN : kL_N Γ < 2 ^ 31) (x5 x6 : Option Value) (cont : ∀ (h' : mm_H) (C' : kc_C) (M' : km_M) (y5 y6 : Option Value), kL_I Γ x h' C' M' (i + 5) → mm_W Γ l mL_law (d + 52) D 1255 [some (.ref Γ.2.2.2.1), some (.ref x), some (.ref (x + 166)), some (.ref (x + 182)), some (.int (nI i)), y5, y6] [] h') : mm_W Γ l mL_law (d + 52) D 500 [some (.ref Γ.2.2.2.1), some (.ref x), some (.ref (x + 166)), some (.ref (x + 182)), some (.int (nI i)), x5, x6] [] h := by
  obtain ⟨o, hm, hw, hr, h70, o1, hw1, hkp⟩ := kL_pre I.2.2.2.1
  obtain ⟨f0, hf0⟩ := I.2.2.1
  have A := I.1
  have ok := I.2.2.2.1.1.1
  have rm1 : h.1 + 1 ≤ mm_Cm Γ := by have := I.2.2.2.2.1; omega
  have rs1 : h.2.1 + 6 ≤ mm_Sm Γ := by have := I.2.2.2.2.2; omega
  refine mm_aload_n dL_law_500 rfl rfl ?_
  refine mm_aload_n dL_law_501 rfl rfl ?_
  refine mm_iload dL_law_502 rfl ?_
  refine mm_iconst (v := nI 1) dL_law_504 (by decide) ?_
  refine mm_iadd dL_law_505 ?_
  refine mm_sload dL_law_506 (nI_add i 1) (show i + 1 < kL_N Γ by omega) hN ?_
  refine mm_aload_n dL_law_507 rfl rfl ?_
  refine mm_iload dL_law_508 rfl ?_
  refine mm_iconst (v := nI 2) dL_law_510 (by decide) ?_
  refine mm_iadd dL_law_511 ?_
  refine mm_sload dL_law_512 (nI_add i 2) (show i + 2 < kL_N Γ by omega) hN ?_
  refine mm_aload_n dL_law_513 rfl rfl ?_
  refine mm_calls (as := [.ref x, .int (kL_p Γ (i + 1)), .int (kL_p Γ (i + 2)), .ref (x + 182)]) (rest := []) dL_law_514 lL_109 rfl (fun v hv => by simp only [List.mem_cons, List.not_mem_nil, or_false] at hv; rcases hv with rfl | rfl | rfl | rfl <;> rfl) (Nat.le_of_ble_eq_true rfl) (Nat.le_of_ble_eq_true rfl) (kW_uncopy (a := x + 182) (Or.inr (by omega)) A.1.1 hf0 (kL_p Γ (i + 1)) (kL_p Γ (i + 2)) (kL_uncopy _ (kL_p Γ (i + 1)) (kL_p Γ (i + 2))) (kC_uncopy (d := d + 0) A ok rm1 rs1 I.2.2.2.1.1.2.1.1 I.2.2.2.1.1.2.1.2 (kL_p Γ (i + 1)) (kL_p Γ (i + 2)))) ?_ ?_
  rotate_left
  · rintro k g ⟨e, -⟩; cases e
  rintro v g ⟨e, k1, k2, k3, f, k4, k5⟩
  cases e
  have J := kL_mid I hi k1 k2 k3 k4
  refine mm_eqh J.2.1 ?_
  refine mm_istore dL_law_517 (by decide) rfl ?_
  refine mm_aload_n dL_law_519 rfl rfl ?_
  refine mm_aload_n dL_law_520 rfl rfl ?_
  refine mm_iload dL_law_521 rfl ?_
  refine mm_iconst (v := nI 1) dL_law_523 (by decide) ?_
  refine mm_iadd dL_law_524 ?_
  refine mm_sload dL_law_525 (nI_add i 1) (show i + 1 < kL_N Γ by omega) hN ?_
  refine mm_aload_n dL_law_526 rfl rfl ?_
  refine mm_iload dL_law_527 rfl ?_
  refine mm_iconst (v := nI 2) dL_law_529 (by decide) ?_
  refine mm_iadd dL_law_530 ?_
  refine mm_sload dL_law_531 (nI_add i 2) (show i + 2 < kL_N Γ by omega) hN ?_
  refine mm_v2x dL_law_532 lL_111 (km_0 g (x + 166) M) rfl rfl (by decide) (Nat.le_of_ble_eq_true rfl) (kM_uncopy (d := d + 44) o hw hr hm h70 (kL_p Γ (i + 1)) (kL_p Γ (i + 2))) ?_
  intro v M2 hv
  obtain ⟨b, rfl, hq⟩ := kq_uncopy I.2.2.2.1 (kL_p Γ (i + 1)) (kL_p Γ (i + 2)) hv
  refine mm_istore dL_law_535 (by decide) rfl ?_
  refine mm_aload_n dL_law_537 rfl rfl ?_
  refine mm_v0 dL_law_538 lL_87 (km_0 g (x + 166) _) (by decide) (Nat.le_of_ble_eq_true rfl) (kM_thrown (d := d + 51)) ?_
  refine mm_iload dL_law_541 rfl ?_
  refine mm_icmp_eq_T (tgt := 548) dL_law_543 (by decide) (congrArg nI hq.1.symm) ?_
  refine mm_iload dL_law_548 rfl ?_
  refine mm_if_ne_n (tgt := 565) dL_law_550 (by decide) (kL_sh_code (kL_uncopy _ (kL_p Γ (i + 1)) (kL_p Γ (i + 2)))) (fun q550 => ?_) (fun q550 => ?_)
  · refine mm_goto (tgt := 1255) dL_law_565 (by decide) ?_
    exact cont _ _ _ _ _ (kL_end J hq.2.2)
  · have hans := kL_ans (f := f) (fun k => by first | exact Nat.succ_ne_zero k | decide) (fun v hv => by rcases (kL_uncopy _ (kL_p Γ (i + 1)) (kL_p Γ (i + 2))) with ⟨y, w⟩ | w | w | w <;> rw [hv] at w <;> first | exact ⟨_, Sum.inl.inj w⟩ | cases w) hq k5 q550
    refine mm_aload_n dL_law_553 rfl rfl ?_
    refine mm_iconst (v := nI 0) dL_law_554 (by decide) ?_
    refine mm_laload dL_law_555 (kL_out J) rfl (by decide) (by decide) ?_
    refine mm_iload dL_law_556 rfl ?_
    refine mm_i2l dL_law_558 ?_
    refine mm_lcmp dL_law_559 ?_
    refine mm_top (v' := .int (nI 0)) (congrArg Value.int (by rw [hans]; exact kL_cmp _)) ?_
    refine mm_if_eq_T (tgt := 565) dL_law_560 (by decide) rfl ?_
    refine mm_goto (tgt := 1255) dL_law_565 (by decide) ?_
    exact cont _ _ _ _ _ (kL_end J hq.2.2)
theorem kZ_wrap (I : kL_I Γ x h C M i) (hi : i + 5 ≤ kL_N Γ) (hN : kL_N Γ < 2 ^ 31) (x5 x6 : Option Value) (cont : ∀ (h' : mm_H) (C' : kc_C) (M' : km_M) (y5 y6 : Option Value), kL_I Γ x h' C' M' (i + 5) → mm_W Γ l mL_law (d + 52) D 1255 [some (.ref Γ.2.2.2.1), some (.ref x), some (.ref (x + 166)), some (.ref (x + 182)), some (.int (nI i)), y5, y6] [] h') : mm_W Γ l mL_law (d + 52) D 568 [some (.ref Γ.2.2.2.1), some (.ref x), some (.ref (x + 166)), some (.ref (x + 182)), some (.int (nI i)), x5, x6] [] h := by
  obtain ⟨o, hm, hw, hr, h70, o1, hw1, hkp⟩ := kL_pre I.2.2.2.1
  obtain ⟨f0, hf0⟩ := I.2.2.1
  have A := I.1
  have ok := I.2.2.2.1.1.1
  have rm1 : h.1 + 1 ≤ mm_Cm Γ := by have := I.2.2.2.2.1; omega
  have rs1 : h.2.1 + 6 ≤ mm_Sm Γ := by have := I.2.2.2.2.2; omega
  refine mm_aload_n dL_law_568 rfl rfl ?_
  refine mm_aload_n dL_law_569 rfl rfl ?_
  refine mm_iload dL_law_570 rfl ?_
  refine mm_iconst (v := nI 1) dL_law_572 (by decide) ?_
  refine mm_iadd dL_law_573 ?_
  refine mm_sload dL_law_574 (nI_add i 1) (show i + 1 < kL_N Γ by omega) hN ?_
  refine mm_aload_n dL_law_575 rfl rfl ?_
  refine mm_iload dL_law_576 rfl ?_
  refine mm_iconst (v := nI 2) dL_law_578 (by decide) ?_
  refine mm_iadd dL_law_579 ?_
  refine mm_sload dL_law_580 (nI_add i 2) (show i + 2 < kL_N Γ by omega) hN ?_
  refine mm_aload_n dL_law_581 rfl rfl ?_
  refine mm_calls (as := [.ref x, .int (kL_p Γ (i + 1)), .int (kL_p Γ (i + 2)), .ref (x + 182)]) (rest := []) dL_law_582 lL_112 rfl (fun v hv => by simp only [List.mem_cons, List.not_mem_nil, or_false] at hv; rcases hv with rfl | rfl | rfl | rfl <;> rfl) (Nat.le_of_ble_eq_true rfl) (Nat.le_of_ble_eq_true rfl) (kW_wrap (a := x + 182) (Or.inr (by omega)) A.1.1 hf0 (kL_p Γ (i + 1)) (kL_p Γ (i + 2)) (kL_wrap _ (kL_p Γ (i + 1)) (kL_p Γ (i + 2))) (kC_wrap (d := d + 40) A ok rm1 rs1 (kL_p Γ (i + 1)) (kL_p Γ (i + 2)))) ?_ ?_
  rotate_left
  · rintro k g ⟨e, -⟩; cases e
  rintro v g ⟨e, k1, k2, k3, f, k4, k5⟩
  cases e
  have J := kL_mid I hi k1 k2 k3 k4
  refine mm_eqh J.2.1 ?_
  refine mm_istore dL_law_585 (by decide) rfl ?_
  refine mm_aload_n dL_law_587 rfl rfl ?_
  refine mm_aload_n dL_law_588 rfl rfl ?_
  refine mm_iload dL_law_589 rfl ?_
  refine mm_iconst (v := nI 1) dL_law_591 (by decide) ?_
  refine mm_iadd dL_law_592 ?_
  refine mm_sload dL_law_593 (nI_add i 1) (show i + 1 < kL_N Γ by omega) hN ?_
  refine mm_aload_n dL_law_594 rfl rfl ?_
  refine mm_iload dL_law_595 rfl ?_
  refine mm_iconst (v := nI 2) dL_law_597 (by decide) ?_
  refine mm_iadd dL_law_598 ?_
  refine mm_sload dL_law_599 (nI_add i 2) (show i + 2 < kL_N Γ by omega) hN ?_
  refine mm_v2 dL_law_600 lL_114 (km_0 g (x + 166) M) rfl rfl (by decide) (Nat.le_of_ble_eq_true rfl) (kM_wrap (d := d + 48) o hm (kL_p Γ (i + 1)) (kL_p Γ (i + 2))) ?_
  have hq : kq_st (fun k => k + 1) (kc_wrap C (kL_p Γ (i + 1)) (kL_p Γ (i + 2))) (nI (km_wrap M (kL_p Γ (i + 1)) (kL_p Γ (i + 2))).1) (km_wrap M (kL_p Γ (i + 1)) (kL_p Γ (i + 2))).2 := kq_wrap I.2.2.2.1 (kL_p Γ (i + 1)) (kL_p Γ (i + 2))
  refine mm_istore dL_law_603 (by decide) rfl ?_
  refine mm_aload_n dL_law_605 rfl rfl ?_
  refine mm_v0 dL_law_606 lL_87 (km_0 g (x + 166) _) (by decide) (Nat.le_of_ble_eq_true rfl) (kM_thrown (d := d + 51)) ?_
  refine mm_iload dL_law_609 rfl ?_
  refine mm_icmp_eq_T (tgt := 616) dL_law_611 (by decide) (congrArg nI hq.1.symm) ?_
  refine mm_iload dL_law_616 rfl ?_
  refine mm_if_ne_n (tgt := 633) dL_law_618 (by decide) (kL_sh_code (kL_wrap _ (kL_p Γ (i + 1)) (kL_p Γ (i + 2)))) (fun q618 => ?_) (fun q618 => ?_)
  · refine mm_goto (tgt := 1255) dL_law_633 (by decide) ?_
    exact cont _ _ _ _ _ (kL_end J hq.2.2)
  · have hans := kL_ans (f := f) (fun k => by first | exact Nat.succ_ne_zero k | decide) (fun v hv => by rcases (kL_wrap _ (kL_p Γ (i + 1)) (kL_p Γ (i + 2))) with ⟨y, w⟩ | w | w | w <;> rw [hv] at w <;> first | exact ⟨_, Sum.inl.inj w⟩ | cases w) hq k5 q618
    refine mm_aload_n dL_law_621 rfl rfl ?_
    refine mm_iconst (v := nI 0) dL_law_622 (by decide) ?_
    refine mm_laload dL_law_623 (kL_out J) rfl (by decide) (by decide) ?_
    refine mm_iload dL_law_624 rfl ?_
    refine mm_i2l dL_law_626 ?_
    refine mm_lcmp dL_law_627 ?_
    refine mm_top (v' := .int (nI 0)) (congrArg Value.int (by rw [hans]; exact kL_cmp _)) ?_
    refine mm_if_eq_T (tgt := 633) dL_law_628 (by decide) rfl ?_
    refine mm_goto (tgt := 1255) dL_law_633 (by decide) ?_
    exact cont _ _ _ _ _ (kL_end J hq.2.2)
theorem kZ_unwrap (I : kL_I Γ x h C M i) (hi : i + 5 ≤ kL_N Γ) (hN : kL_N Γ < 2 ^ 31) (x5 x6 : Option Value) (cont : ∀ (h' : mm_H) (C' : kc_C) (M' : km_M) (y5 y6 : Option Value), kL_I Γ x h' C' M' (i + 5) → mm_W Γ l mL_law (d + 52) D 1255 [some (.ref Γ.2.2.2.1), some (.ref x), some (.ref (x + 166)), some (.ref (x + 182)), some (.int (nI i)), y5, y6] [] h') : mm_W Γ l mL_law (d + 52) D 636 [some (.ref Γ.2.2.2.1), some (.ref x), some (.ref (x + 166)), some (.ref (x + 182)), some (.int (nI i)), x5, x6] [] h := by
  obtain ⟨o, hm, hw, hr, h70, o1, hw1, hkp⟩ := kL_pre I.2.2.2.1
  obtain ⟨f0, hf0⟩ := I.2.2.1
  have A := I.1
  have ok := I.2.2.2.1.1.1
  have rm1 : h.1 + 1 ≤ mm_Cm Γ := by have := I.2.2.2.2.1; omega
  have rs1 : h.2.1 + 6 ≤ mm_Sm Γ := by have := I.2.2.2.2.2; omega
  refine mm_aload_n dL_law_636 rfl rfl ?_
  refine mm_aload_n dL_law_637 rfl rfl ?_
  refine mm_iload dL_law_638 rfl ?_
  refine mm_iconst (v := nI 1) dL_law_640 (by decide) ?_
  refine mm_iadd dL_law_641 ?_
  refine mm_sload dL_law_642 (nI_add i 1) (show i + 1 < kL_N Γ by omega) hN ?_
  refine mm_aload_n dL_law_643 rfl rfl ?_
  refine mm_calls (as := [.ref x, .int (kL_p Γ (i + 1)), .ref (x + 182)]) (rest := []) dL_law_644 lL_115 rfl (fun v hv => by simp only [List.mem_cons, List.not_mem_nil, or_false] at hv; rcases hv with rfl | rfl | rfl <;> rfl) (Nat.le_of_ble_eq_true rfl) (Nat.le_of_ble_eq_true rfl) (kW_unwrap (a := x + 182) (Or.inr (by omega)) A.1.1 hf0 (kL_p Γ (i + 1)) (kL_unwrap _ (kL_p Γ (i + 1))) (kC_unwrap (d := d + 40) A ok rm1 rs1 (kL_p Γ (i + 1)))) ?_ ?_
  rotate_left
  · rintro k g ⟨e, -⟩; cases e
  rintro v g ⟨e, k1, k2, k3, f, k4, k5⟩
  cases e
  have J := kL_mid I hi k1 k2 k3 k4
  refine mm_eqh J.2.1 ?_
  refine mm_istore dL_law_647 (by decide) rfl ?_
  refine mm_aload_n dL_law_649 rfl rfl ?_
  refine mm_aload_n dL_law_650 rfl rfl ?_
  refine mm_iload dL_law_651 rfl ?_
  refine mm_iconst (v := nI 1) dL_law_653 (by decide) ?_
  refine mm_iadd dL_law_654 ?_
  refine mm_sload dL_law_655 (nI_add i 1) (show i + 1 < kL_N Γ by omega) hN ?_
  refine mm_v1 dL_law_656 lL_117 (km_0 g (x + 166) M) rfl (by decide) (Nat.le_of_ble_eq_true rfl) (kM_unwrap (d := d + 49) o hm (kL_p Γ (i + 1))) ?_
  have hq : kq_st (fun k => k + 1) (kc_unwrap C (kL_p Γ (i + 1))) (nI (km_unwrap M (kL_p Γ (i + 1))).1) (km_unwrap M (kL_p Γ (i + 1))).2 := kq_unwrap I.2.2.2.1 (kL_p Γ (i + 1))
  refine mm_istore dL_law_659 (by decide) rfl ?_
  refine mm_aload_n dL_law_661 rfl rfl ?_
  refine mm_v0 dL_law_662 lL_87 (km_0 g (x + 166) _) (by decide) (Nat.le_of_ble_eq_true rfl) (kM_thrown (d := d + 51)) ?_
  refine mm_iload dL_law_665 rfl ?_
  refine mm_icmp_eq_T (tgt := 672) dL_law_667 (by decide) (congrArg nI hq.1.symm) ?_
  refine mm_iload dL_law_672 rfl ?_
  refine mm_if_ne_n (tgt := 689) dL_law_674 (by decide) (kL_sh_code (kL_unwrap _ (kL_p Γ (i + 1)))) (fun q674 => ?_) (fun q674 => ?_)
  · refine mm_goto (tgt := 1255) dL_law_689 (by decide) ?_
    exact cont _ _ _ _ _ (kL_end J hq.2.2)
  · have hans := kL_ans (f := f) (fun k => by first | exact Nat.succ_ne_zero k | decide) (fun v hv => by rcases (kL_unwrap _ (kL_p Γ (i + 1))) with ⟨y, w⟩ | w | w | w <;> rw [hv] at w <;> first | exact ⟨_, Sum.inl.inj w⟩ | cases w) hq k5 q674
    refine mm_aload_n dL_law_677 rfl rfl ?_
    refine mm_iconst (v := nI 0) dL_law_678 (by decide) ?_
    refine mm_laload dL_law_679 (kL_out J) rfl (by decide) (by decide) ?_
    refine mm_iload dL_law_680 rfl ?_
    refine mm_i2l dL_law_682 ?_
    refine mm_lcmp dL_law_683 ?_
    refine mm_top (v' := .int (nI 0)) (congrArg Value.int (by rw [hans]; exact kL_cmp _)) ?_
    refine mm_if_eq_T (tgt := 689) dL_law_684 (by decide) rfl ?_
    refine mm_goto (tgt := 1255) dL_law_689 (by decide) ?_
    exact cont _ _ _ _ _ (kL_end J hq.2.2)
theorem kZ_join (I : kL_I Γ x h C M i) (hi : i + 5 ≤ kL_N Γ) (hN : kL_N Γ < 2 ^ 31) (x5 x6 : Option Value) (cont : ∀ (h' : mm_H) (C' : kc_C) (M' : km_M) (y5 y6 : Option Value), kL_I Γ x h' C' M' (i + 5) → mm_W Γ l mL_law (d + 52) D 1255 [some (.ref Γ.2.2.2.1), some (.ref x), some (.ref (x + 166)), some (.ref (x + 182)), some (.int (nI i)), y5, y6] [] h') : mm_W Γ l mL_law (d + 52) D 692 [some (.ref Γ.2.2.2.1), some (.ref x), some (.ref (x + 166)), some (.ref (x + 182)), some (.int (nI i)), x5, x6] [] h := by
  obtain ⟨o, hm, hw, hr, h70, o1, hw1, hkp⟩ := kL_pre I.2.2.2.1
  obtain ⟨f0, hf0⟩ := I.2.2.1
  have A := I.1
  have ok := I.2.2.2.1.1.1
  have rm1 : h.1 + 1 ≤ mm_Cm Γ := by have := I.2.2.2.2.1; omega
  have rs1 : h.2.1 + 6 ≤ mm_Sm Γ := by have := I.2.2.2.2.2; omega
  refine mm_aload_n dL_law_692 rfl rfl ?_
  refine mm_aload_n dL_law_693 rfl rfl ?_
  refine mm_iload dL_law_694 rfl ?_
  refine mm_iconst (v := nI 1) dL_law_696 (by decide) ?_
  refine mm_iadd dL_law_697 ?_
  refine mm_sload dL_law_698 (nI_add i 1) (show i + 1 < kL_N Γ by omega) hN ?_
  refine mm_aload_n dL_law_699 rfl rfl ?_
  refine mm_iload dL_law_700 rfl ?_
  refine mm_iconst (v := nI 2) dL_law_702 (by decide) ?_
  refine mm_iadd dL_law_703 ?_
  refine mm_sload dL_law_704 (nI_add i 2) (show i + 2 < kL_N Γ by omega) hN ?_
  refine mm_aload_n dL_law_705 rfl rfl ?_
  refine mm_calls (as := [.ref x, .int (kL_p Γ (i + 1)), .int (kL_p Γ (i + 2)), .ref (x + 182)]) (rest := []) dL_law_706 lL_118 rfl (fun v hv => by simp only [List.mem_cons, List.not_mem_nil, or_false] at hv; rcases hv with rfl | rfl | rfl | rfl <;> rfl) (Nat.le_of_ble_eq_true rfl) (Nat.le_of_ble_eq_true rfl) (kW_join (a := x + 182) (Or.inr (by omega)) A.1.1 hf0 (kL_p Γ (i + 1)) (kL_p Γ (i + 2)) (kL_join _ (kL_p Γ (i + 1)) (kL_p Γ (i + 2))) (kC_join (d := d + 40) A ok rm1 rs1 (kL_p Γ (i + 1)) (kL_p Γ (i + 2)))) ?_ ?_
  rotate_left
  · rintro k g ⟨e, -⟩; cases e
  rintro v g ⟨e, k1, k2, k3, f, k4, k5⟩
  cases e
  have J := kL_mid I hi k1 k2 k3 k4
  refine mm_eqh J.2.1 ?_
  refine mm_istore dL_law_709 (by decide) rfl ?_
  refine mm_aload_n dL_law_711 rfl rfl ?_
  refine mm_aload_n dL_law_712 rfl rfl ?_
  refine mm_iload dL_law_713 rfl ?_
  refine mm_iconst (v := nI 1) dL_law_715 (by decide) ?_
  refine mm_iadd dL_law_716 ?_
  refine mm_sload dL_law_717 (nI_add i 1) (show i + 1 < kL_N Γ by omega) hN ?_
  refine mm_aload_n dL_law_718 rfl rfl ?_
  refine mm_iload dL_law_719 rfl ?_
  refine mm_iconst (v := nI 2) dL_law_721 (by decide) ?_
  refine mm_iadd dL_law_722 ?_
  refine mm_sload dL_law_723 (nI_add i 2) (show i + 2 < kL_N Γ by omega) hN ?_
  refine mm_v2 dL_law_724 lL_120 (km_0 g (x + 166) M) rfl rfl (by decide) (Nat.le_of_ble_eq_true rfl) (kM_join (d := d + 49) o hm (kL_p Γ (i + 1)) (kL_p Γ (i + 2))) ?_
  have hq : kq_st (fun k => k + 1) (kc_join C (kL_p Γ (i + 1)) (kL_p Γ (i + 2))) (nI (km_join M (kL_p Γ (i + 1)) (kL_p Γ (i + 2))).1) (km_join M (kL_p Γ (i + 1)) (kL_p Γ (i + 2))).2 := kq_join I.2.2.2.1 (kL_p Γ (i + 1)) (kL_p Γ (i + 2))
  refine mm_istore dL_law_727 (by decide) rfl ?_
  refine mm_aload_n dL_law_729 rfl rfl ?_
  refine mm_v0 dL_law_730 lL_87 (km_0 g (x + 166) _) (by decide) (Nat.le_of_ble_eq_true rfl) (kM_thrown (d := d + 51)) ?_
  refine mm_iload dL_law_733 rfl ?_
  refine mm_icmp_eq_T (tgt := 740) dL_law_735 (by decide) (congrArg nI hq.1.symm) ?_
  refine mm_iload dL_law_740 rfl ?_
  refine mm_if_ne_n (tgt := 757) dL_law_742 (by decide) (kL_sh_code (kL_join _ (kL_p Γ (i + 1)) (kL_p Γ (i + 2)))) (fun q742 => ?_) (fun q742 => ?_)
  · refine mm_goto (tgt := 1255) dL_law_757 (by decide) ?_
    exact cont _ _ _ _ _ (kL_end J hq.2.2)
  · have hans := kL_ans (f := f) (fun k => by first | exact Nat.succ_ne_zero k | decide) (fun v hv => by rcases (kL_join _ (kL_p Γ (i + 1)) (kL_p Γ (i + 2))) with ⟨y, w⟩ | w | w | w <;> rw [hv] at w <;> first | exact ⟨_, Sum.inl.inj w⟩ | cases w) hq k5 q742
    refine mm_aload_n dL_law_745 rfl rfl ?_
    refine mm_iconst (v := nI 0) dL_law_746 (by decide) ?_
    refine mm_laload dL_law_747 (kL_out J) rfl (by decide) (by decide) ?_
    refine mm_iload dL_law_748 rfl ?_
    refine mm_i2l dL_law_750 ?_
    refine mm_lcmp dL_law_751 ?_
    refine mm_top (v' := .int (nI 0)) (congrArg Value.int (by rw [hans]; exact kL_cmp _)) ?_
    refine mm_if_eq_T (tgt := 757) dL_law_752 (by decide) rfl ?_
    refine mm_goto (tgt := 1255) dL_law_757 (by decide) ?_
    exact cont _ _ _ _ _ (kL_end J hq.2.2)
theorem kZ_sever (I : kL_I Γ x h C M i) (hi : i + 5 ≤ kL_N Γ) (hN : kL_N Γ < 2 ^ 31) (x5 x6 : Option Value) (cont : ∀ (h' : mm_H) (C' : kc_C) (M' : km_M) (y5 y6 : Option Value), kL_I Γ x h' C' M' (i + 5) → mm_W Γ l mL_law (d + 52) D 1255 [some (.ref Γ.2.2.2.1), some (.ref x), some (.ref (x + 166)), some (.ref (x + 182)), some (.int (nI i)), y5, y6] [] h') : mm_W Γ l mL_law (d + 52) D 760 [some (.ref Γ.2.2.2.1), some (.ref x), some (.ref (x + 166)), some (.ref (x + 182)), some (.int (nI i)), x5, x6] [] h := by
  obtain ⟨o, hm, hw, hr, h70, o1, hw1, hkp⟩ := kL_pre I.2.2.2.1
  obtain ⟨f0, hf0⟩ := I.2.2.1
  have A := I.1
  have ok := I.2.2.2.1.1.1
  have rm1 : h.1 + 1 ≤ mm_Cm Γ := by have := I.2.2.2.2.1; omega
  have rs1 : h.2.1 + 6 ≤ mm_Sm Γ := by have := I.2.2.2.2.2; omega
  refine mm_aload_n dL_law_760 rfl rfl ?_
  refine mm_aload_n dL_law_761 rfl rfl ?_
  refine mm_iload dL_law_762 rfl ?_
  refine mm_iconst (v := nI 1) dL_law_764 (by decide) ?_
  refine mm_iadd dL_law_765 ?_
  refine mm_sload dL_law_766 (nI_add i 1) (show i + 1 < kL_N Γ by omega) hN ?_
  refine mm_aload_n dL_law_767 rfl rfl ?_
  refine mm_iload dL_law_768 rfl ?_
  refine mm_iconst (v := nI 2) dL_law_770 (by decide) ?_
  refine mm_iadd dL_law_771 ?_
  refine mm_sload dL_law_772 (nI_add i 2) (show i + 2 < kL_N Γ by omega) hN ?_
  refine mm_aload_n dL_law_773 rfl rfl ?_
  refine mm_calls (as := [.ref x, .int (kL_p Γ (i + 1)), .int (kL_p Γ (i + 2)), .ref (x + 182)]) (rest := []) dL_law_774 lL_121 rfl (fun v hv => by simp only [List.mem_cons, List.not_mem_nil, or_false] at hv; rcases hv with rfl | rfl | rfl | rfl <;> rfl) (Nat.le_of_ble_eq_true rfl) (Nat.le_of_ble_eq_true rfl) (kW_sever (a := x + 182) (Or.inr (by omega)) A.1.1 hf0 (kL_p Γ (i + 1)) (kL_p Γ (i + 2)) (kL_sever _ (kL_p Γ (i + 1)) (kL_p Γ (i + 2))) (kC_sever (d := d + 40) A ok rm1 rs1 (kL_p Γ (i + 1)) (kL_p Γ (i + 2)))) ?_ ?_
  rotate_left
  · rintro k g ⟨e, -⟩; cases e
  rintro v g ⟨e, k1, k2, k3, f, k4, k5⟩
  cases e
  have J := kL_mid I hi k1 k2 k3 k4
  refine mm_eqh J.2.1 ?_
  refine mm_istore dL_law_777 (by decide) rfl ?_
  refine mm_aload_n dL_law_779 rfl rfl ?_
  refine mm_aload_n dL_law_780 rfl rfl ?_
  refine mm_iload dL_law_781 rfl ?_
  refine mm_iconst (v := nI 1) dL_law_783 (by decide) ?_
  refine mm_iadd dL_law_784 ?_
  refine mm_sload dL_law_785 (nI_add i 1) (show i + 1 < kL_N Γ by omega) hN ?_
  refine mm_aload_n dL_law_786 rfl rfl ?_
  refine mm_iload dL_law_787 rfl ?_
  refine mm_iconst (v := nI 2) dL_law_789 (by decide) ?_
  refine mm_iadd dL_law_790 ?_
  refine mm_sload dL_law_791 (nI_add i 2) (show i + 2 < kL_N Γ by omega) hN ?_
  refine mm_v2 dL_law_792 lL_123 (km_0 g (x + 166) M) rfl rfl (by decide) (Nat.le_of_ble_eq_true rfl) (kM_sever (d := d + 49) o hm (kL_p Γ (i + 1)) (kL_p Γ (i + 2))) ?_
  have hq : kq_st (fun k => k + 1) (kc_sever C (kL_p Γ (i + 1)) (kL_p Γ (i + 2))) (nI (km_sever M (kL_p Γ (i + 1)) (kL_p Γ (i + 2))).1) (km_sever M (kL_p Γ (i + 1)) (kL_p Γ (i + 2))).2 := kq_sever I.2.2.2.1 (kL_p Γ (i + 1)) (kL_p Γ (i + 2))
  refine mm_istore dL_law_795 (by decide) rfl ?_
  refine mm_aload_n dL_law_797 rfl rfl ?_
  refine mm_v0 dL_law_798 lL_87 (km_0 g (x + 166) _) (by decide) (Nat.le_of_ble_eq_true rfl) (kM_thrown (d := d + 51)) ?_
  refine mm_iload dL_law_801 rfl ?_
  refine mm_icmp_eq_T (tgt := 808) dL_law_803 (by decide) (congrArg nI hq.1.symm) ?_
  refine mm_iload dL_law_808 rfl ?_
  refine mm_if_ne_n (tgt := 825) dL_law_810 (by decide) (kL_sh_code (kL_sever _ (kL_p Γ (i + 1)) (kL_p Γ (i + 2)))) (fun q810 => ?_) (fun q810 => ?_)
  · refine mm_goto (tgt := 1255) dL_law_825 (by decide) ?_
    exact cont _ _ _ _ _ (kL_end J hq.2.2)
  · have hans := kL_ans (f := f) (fun k => by first | exact Nat.succ_ne_zero k | decide) (fun v hv => by rcases (kL_sever _ (kL_p Γ (i + 1)) (kL_p Γ (i + 2))) with ⟨y, w⟩ | w | w | w <;> rw [hv] at w <;> first | exact ⟨_, Sum.inl.inj w⟩ | cases w) hq k5 q810
    refine mm_aload_n dL_law_813 rfl rfl ?_
    refine mm_iconst (v := nI 0) dL_law_814 (by decide) ?_
    refine mm_laload dL_law_815 (kL_out J) rfl (by decide) (by decide) ?_
    refine mm_iload dL_law_816 rfl ?_
    refine mm_i2l dL_law_818 ?_
    refine mm_lcmp dL_law_819 ?_
    refine mm_top (v' := .int (nI 0)) (congrArg Value.int (by rw [hans]; exact kL_cmp _)) ?_
    refine mm_if_eq_T (tgt := 825) dL_law_820 (by decide) rfl ?_
    refine mm_goto (tgt := 1255) dL_law_825 (by decide) ?_
    exact cont _ _ _ _ _ (kL_end J hq.2.2)
theorem kZ_back (I : kL_I Γ x h C M i) (hi : i + 5 ≤ kL_N Γ) (hN : kL_N Γ < 2 ^ 31) (x5 x6 : Option Value) (cont : ∀ (h' : mm_H) (C' : kc_C) (M' : km_M) (y5 y6 : Option Value), kL_I Γ x h' C' M' (i + 5) → mm_W Γ l mL_law (d + 52) D 1255 [some (.ref Γ.2.2.2.1), some (.ref x), some (.ref (x + 166)), some (.ref (x + 182)), some (.int (nI i)), y5, y6] [] h') : mm_W Γ l mL_law (d + 52) D 828 [some (.ref Γ.2.2.2.1), some (.ref x), some (.ref (x + 166)), some (.ref (x + 182)), some (.int (nI i)), x5, x6] [] h := by
  obtain ⟨o, hm, hw, hr, h70, o1, hw1, hkp⟩ := kL_pre I.2.2.2.1
  obtain ⟨f0, hf0⟩ := I.2.2.1
  have A := I.1
  have ok := I.2.2.2.1.1.1
  have rm1 : h.1 + 1 ≤ mm_Cm Γ := by have := I.2.2.2.2.1; omega
  have rs1 : h.2.1 + 6 ≤ mm_Sm Γ := by have := I.2.2.2.2.2; omega
  refine mm_aload_n dL_law_828 rfl rfl ?_
  refine mm_aload_n dL_law_829 rfl rfl ?_
  refine mm_calls (as := [.ref x, .ref (x + 182)]) (rest := []) dL_law_830 lL_124 rfl (fun v hv => by simp only [List.mem_cons, List.not_mem_nil, or_false] at hv; rcases hv with rfl | rfl <;> rfl) (Nat.le_of_ble_eq_true rfl) (Nat.le_of_ble_eq_true rfl) (kW_back (a := x + 182) (Or.inr (by omega)) A.1.1 hf0 (kL_back _) (kC_back (d := d + 40) A ok rm1 rs1)) ?_ ?_
  rotate_left
  · rintro k g ⟨e, -⟩; cases e
  rintro v g ⟨e, k1, k2, k3, f, k4, k5⟩
  cases e
  have J := kL_mid I hi k1 k2 k3 k4
  refine mm_eqh J.2.1 ?_
  refine mm_istore dL_law_833 (by decide) rfl ?_
  refine mm_aload_n dL_law_835 rfl rfl ?_
  refine mm_v0 dL_law_836 lL_127 (km_0 g (x + 166) M) (by decide) (Nat.le_of_ble_eq_true rfl) (kM_back (d := d + 51) hm) ?_
  have hq : kq_st (fun _ => 1) (kc_back C) (nI (km_back M).1) (km_back M).2 := kq_back I.2.2.2.1
  refine mm_istore dL_law_839 (by decide) rfl ?_
  refine mm_aload_n dL_law_841 rfl rfl ?_
  refine mm_v0 dL_law_842 lL_87 (km_0 g (x + 166) _) (by decide) (Nat.le_of_ble_eq_true rfl) (kM_thrown (d := d + 51)) ?_
  refine mm_iload dL_law_845 rfl ?_
  refine mm_icmp_eq_T (tgt := 852) dL_law_847 (by decide) (congrArg nI hq.1.symm) ?_
  refine mm_iload dL_law_852 rfl ?_
  refine mm_if_ne_n (tgt := 869) dL_law_854 (by decide) (by rcases (kL_back _) with ⟨y, w⟩ | w <;> rw [w] <;> first | decide | (show 0 < 2 ^ 31; decide)) (fun q854 => ?_) (fun q854 => ?_)
  · refine mm_goto (tgt := 1255) dL_law_869 (by decide) ?_
    exact cont _ _ _ _ _ (kL_end J hq.2.2)
  · have hans := kL_ans (f := f) (fun k => by first | exact Nat.succ_ne_zero k | decide) (fun v hv => by rcases (kL_back _) with ⟨y, w⟩ | w <;> rw [hv] at w <;> first | exact ⟨_, Sum.inl.inj w⟩ | cases w) hq k5 q854
    refine mm_aload_n dL_law_857 rfl rfl ?_
    refine mm_iconst (v := nI 0) dL_law_858 (by decide) ?_
    refine mm_laload dL_law_859 (kL_out J) rfl (by decide) (by decide) ?_
    refine mm_iload dL_law_860 rfl ?_
    refine mm_i2l dL_law_862 ?_
    refine mm_lcmp dL_law_863 ?_
    refine mm_top (v' := .int (nI 0)) (congrArg Value.int (by rw [hans]; exact kL_cmp _)) ?_
    refine mm_if_eq_T (tgt := 869) dL_law_864 (by decide) rfl ?_
    refine mm_goto (tgt := 1255) dL_law_869 (by decide) ?_
    exact cont _ _ _ _ _ (kL_end J hq.2.2)
theorem kZ_depth (I : kL_I Γ x h C M i) (hi : i + 5 ≤ kL_N Γ) (hN : kL_N Γ < 2 ^ 31) (x5 x6 : Option Value) (cont : ∀ (h' : mm_H) (C' : kc_C) (M' : km_M) (y5 y6 : Option Value), kL_I Γ x h' C' M' (i + 5) → mm_W Γ l mL_law (d + 52) D 1255 [some (.ref Γ.2.2.2.1), some (.ref x), some (.ref (x + 166)), some (.ref (x + 182)), some (.int (nI i)), y5, y6] [] h') : mm_W Γ l mL_law (d + 52) D 872 [some (.ref Γ.2.2.2.1), some (.ref x), some (.ref (x + 166)), some (.ref (x + 182)), some (.int (nI i)), x5, x6] [] h := by
  obtain ⟨o, hm, hw, hr, h70, o1, hw1, hkp⟩ := kL_pre I.2.2.2.1
  obtain ⟨f0, hf0⟩ := I.2.2.1
  have A := I.1
  have ok := I.2.2.2.1.1.1
  have rm1 : h.1 + 1 ≤ mm_Cm Γ := by have := I.2.2.2.2.1; omega
  have rs1 : h.2.1 + 6 ≤ mm_Sm Γ := by have := I.2.2.2.2.2; omega
  refine mm_aload_n dL_law_872 rfl rfl ?_
  refine mm_aload_n dL_law_873 rfl rfl ?_
  refine mm_iload dL_law_874 rfl ?_
  refine mm_iconst (v := nI 1) dL_law_876 (by decide) ?_
  refine mm_iadd dL_law_877 ?_
  refine mm_sload dL_law_878 (nI_add i 1) (show i + 1 < kL_N Γ by omega) hN ?_
  refine mm_aload_n dL_law_879 rfl rfl ?_
  refine mm_calls (as := [.ref x, .int (kL_p Γ (i + 1)), .ref (x + 182)]) (rest := []) dL_law_880 lL_128 rfl (fun v hv => by simp only [List.mem_cons, List.not_mem_nil, or_false] at hv; rcases hv with rfl | rfl | rfl <;> rfl) (Nat.le_of_ble_eq_true rfl) (Nat.le_of_ble_eq_true rfl) (kW_depth (a := x + 182) (Or.inr (by omega)) A.1.1 hf0 (kL_p Γ (i + 1)) (kL_depth _ (kL_p Γ (i + 1))) (kC_depth (d := d + 40) A ok rm1 rs1 (kL_p Γ (i + 1)))) ?_ ?_
  rotate_left
  · rintro k g ⟨e, -⟩; cases e
  rintro v g ⟨e, k1, k2, k3, f, k4, k5⟩
  cases e
  have J := kL_mid I hi k1 k2 k3 k4
  refine mm_eqh J.2.1 ?_
  refine mm_istore dL_law_883 (by decide) rfl ?_
  refine mm_aload_n dL_law_885 rfl rfl ?_
  refine mm_aload_n dL_law_886 rfl rfl ?_
  refine mm_iload dL_law_887 rfl ?_
  refine mm_iconst (v := nI 1) dL_law_889 (by decide) ?_
  refine mm_iadd dL_law_890 ?_
  refine mm_sload dL_law_891 (nI_add i 1) (show i + 1 < kL_N Γ by omega) hN ?_
  refine mm_v1 dL_law_892 lL_130 (km_0 g (x + 166) M) rfl (by decide) (Nat.le_of_ble_eq_true rfl) (kM_depth (d := d + 50) o (kL_p Γ (i + 1))) ?_
  have hq : kq_st (fun _ => 1) (kc_depth C (kL_p Γ (i + 1))) (nI (km_depth M (kL_p Γ (i + 1))).1) (km_depth M (kL_p Γ (i + 1))).2 := kq_depthA I.2.2.2.1 (kL_p Γ (i + 1))
  refine mm_istore dL_law_895 (by decide) rfl ?_
  refine mm_aload_n dL_law_897 rfl rfl ?_
  refine mm_v0 dL_law_898 lL_87 (km_0 g (x + 166) _) (by decide) (Nat.le_of_ble_eq_true rfl) (kM_thrown (d := d + 51)) ?_
  refine mm_iload dL_law_901 rfl ?_
  refine mm_icmp_eq_T (tgt := 908) dL_law_903 (by decide) (congrArg nI hq.1.symm) ?_
  refine mm_iload dL_law_908 rfl ?_
  refine mm_if_ne_n (tgt := 925) dL_law_910 (by decide) (by rcases (kL_depth _ (kL_p Γ (i + 1))) with ⟨y, w⟩ | w <;> rw [w] <;> first | decide | (show 0 < 2 ^ 31; decide)) (fun q910 => ?_) (fun q910 => ?_)
  · refine mm_goto (tgt := 1255) dL_law_925 (by decide) ?_
    exact cont _ _ _ _ _ (kL_end J hq.2.2)
  · have hans := kL_ans (f := f) (fun k => by first | exact Nat.succ_ne_zero k | decide) (fun v hv => by rcases (kL_depth _ (kL_p Γ (i + 1))) with ⟨y, w⟩ | w <;> rw [hv] at w <;> first | exact ⟨_, Sum.inl.inj w⟩ | cases w) hq k5 q910
    refine mm_aload_n dL_law_913 rfl rfl ?_
    refine mm_iconst (v := nI 0) dL_law_914 (by decide) ?_
    refine mm_laload dL_law_915 (kL_out J) rfl (by decide) (by decide) ?_
    refine mm_iload dL_law_916 rfl ?_
    refine mm_i2l dL_law_918 ?_
    refine mm_lcmp dL_law_919 ?_
    refine mm_top (v' := .int (nI 0)) (congrArg Value.int (by rw [hans]; exact kL_cmp _)) ?_
    refine mm_if_eq_T (tgt := 925) dL_law_920 (by decide) rfl ?_
    refine mm_goto (tgt := 1255) dL_law_925 (by decide) ?_
    exact cont _ _ _ _ _ (kL_end J hq.2.2)
theorem kZ_read (I : kL_I Γ x h C M i) (hi : i + 5 ≤ kL_N Γ) (hN : kL_N Γ < 2 ^ 31) (x5 x6 : Option Value) (cont : ∀ (h' : mm_H) (C' : kc_C) (M' : km_M) (y5 y6 : Option Value), kL_I Γ x h' C' M' (i + 5) → mm_W Γ l mL_law (d + 52) D 1255 [some (.ref Γ.2.2.2.1), some (.ref x), some (.ref (x + 166)), some (.ref (x + 182)), some (.int (nI i)), y5, y6] [] h') : mm_W Γ l mL_law (d + 52) D 928 [some (.ref Γ.2.2.2.1), some (.ref x), some (.ref (x + 166)), some (.ref (x + 182)), some (.int (nI i)), x5, x6] [] h := by
  obtain ⟨o, hm, hw, hr, h70, o1, hw1, hkp⟩ := kL_pre I.2.2.2.1
  obtain ⟨f0, hf0⟩ := I.2.2.1
  have A := I.1
  have ok := I.2.2.2.1.1.1
  have rm1 : h.1 + 1 ≤ mm_Cm Γ := by have := I.2.2.2.2.1; omega
  have rs1 : h.2.1 + 6 ≤ mm_Sm Γ := by have := I.2.2.2.2.2; omega
  refine mm_aload_n dL_law_928 rfl rfl ?_
  refine mm_aload_n dL_law_929 rfl rfl ?_
  refine mm_iload dL_law_930 rfl ?_
  refine mm_iconst (v := nI 1) dL_law_932 (by decide) ?_
  refine mm_iadd dL_law_933 ?_
  refine mm_sload dL_law_934 (nI_add i 1) (show i + 1 < kL_N Γ by omega) hN ?_
  refine mm_aload_n dL_law_935 rfl rfl ?_
  refine mm_calls (as := [.ref x, .int (kL_p Γ (i + 1)), .ref (x + 182)]) (rest := []) dL_law_936 lL_131 rfl (fun v hv => by simp only [List.mem_cons, List.not_mem_nil, or_false] at hv; rcases hv with rfl | rfl | rfl <;> rfl) (Nat.le_of_ble_eq_true rfl) (Nat.le_of_ble_eq_true rfl) (kW_read (a := x + 182) (Or.inr (by omega)) A.1.1 hf0 (kL_p Γ (i + 1)) (kL_read _ (kL_p Γ (i + 1))) (kC_read (d := d + 10) A ok rm1 rs1 (kL_p Γ (i + 1)))) ?_ ?_
  rotate_left
  · rintro k g ⟨e, -⟩; cases e
  rintro v g ⟨e, k1, k2, k3, f, k4, k5⟩
  cases e
  have J := kL_mid I hi k1 k2 k3 k4
  refine mm_eqh J.2.1 ?_
  refine mm_istore dL_law_939 (by decide) rfl ?_
  refine mm_aload_n dL_law_941 rfl rfl ?_
  refine mm_aload_n dL_law_942 rfl rfl ?_
  refine mm_iload dL_law_943 rfl ?_
  refine mm_iconst (v := nI 1) dL_law_945 (by decide) ?_
  refine mm_iadd dL_law_946 ?_
  refine mm_sload dL_law_947 (nI_add i 1) (show i + 1 < kL_N Γ by omega) hN ?_
  refine mm_v1x dL_law_948 lL_133 (km_0 g (x + 166) M) rfl (by decide) (Nat.le_of_ble_eq_true rfl) (kM_read (d := d + 47) o hw hr (kL_p Γ (i + 1))) ?_
  intro v M2 hv
  obtain ⟨b, rfl, hq⟩ := kq_read I.2.2.2.1 (kL_p Γ (i + 1)) hv
  refine mm_istore dL_law_951 (by decide) rfl ?_
  refine mm_aload_n dL_law_953 rfl rfl ?_
  refine mm_v0 dL_law_954 lL_87 (km_0 g (x + 166) _) (by decide) (Nat.le_of_ble_eq_true rfl) (kM_thrown (d := d + 51)) ?_
  refine mm_iload dL_law_957 rfl ?_
  refine mm_icmp_eq_T (tgt := 964) dL_law_959 (by decide) (congrArg nI hq.1.symm) ?_
  refine mm_iload dL_law_964 rfl ?_
  refine mm_if_ne_n (tgt := 981) dL_law_966 (by decide) (by rcases (kL_read _ (kL_p Γ (i + 1))) with ⟨y, w⟩ | w <;> rw [w] <;> first | decide | (show 0 < 2 ^ 31; decide)) (fun q966 => ?_) (fun q966 => ?_)
  · refine mm_goto (tgt := 1255) dL_law_981 (by decide) ?_
    exact cont _ _ _ _ _ (kL_end J hq.2.2)
  · have hans := kL_ans (f := f) (fun k => by first | exact Nat.succ_ne_zero k | decide) (fun v hv => by rcases (kL_read _ (kL_p Γ (i + 1))) with ⟨y, w⟩ | w <;> rw [hv] at w <;> first | exact ⟨_, Sum.inl.inj w⟩ | cases w) hq k5 q966
    refine mm_aload_n dL_law_969 rfl rfl ?_
    refine mm_iconst (v := nI 0) dL_law_970 (by decide) ?_
    refine mm_laload dL_law_971 (kL_out J) rfl (by decide) (by decide) ?_
    refine mm_iload dL_law_972 rfl ?_
    refine mm_i2l dL_law_974 ?_
    refine mm_lcmp dL_law_975 ?_
    refine mm_top (v' := .int (nI 0)) (congrArg Value.int (by rw [hans]; exact kL_cmp _)) ?_
    refine mm_if_eq_T (tgt := 981) dL_law_976 (by decide) rfl ?_
    refine mm_goto (tgt := 1255) dL_law_981 (by decide) ?_
    exact cont _ _ _ _ _ (kL_end J hq.2.2)
theorem kZ_token (I : kL_I Γ x h C M i) (hi : i + 5 ≤ kL_N Γ) (hN : kL_N Γ < 2 ^ 31) (x5 x6 : Option Value) (cont : ∀ (h' : mm_H) (C' : kc_C) (M' : km_M) (y5 y6 : Option Value), kL_I Γ x h' C' M' (i + 5) → mm_W Γ l mL_law (d + 52) D 1255 [some (.ref Γ.2.2.2.1), some (.ref x), some (.ref (x + 166)), some (.ref (x + 182)), some (.int (nI i)), y5, y6] [] h') : mm_W Γ l mL_law (d + 52) D 984 [some (.ref Γ.2.2.2.1), some (.ref x), some (.ref (x + 166)), some (.ref (x + 182)), some (.int (nI i)), x5, x6] [] h := by
  obtain ⟨o, hm, hw, hr, h70, o1, hw1, hkp⟩ := kL_pre I.2.2.2.1
  obtain ⟨f0, hf0⟩ := I.2.2.1
  have A := I.1
  have ok := I.2.2.2.1.1.1
  have rm1 : h.1 + 1 ≤ mm_Cm Γ := by have := I.2.2.2.2.1; omega
  have rs1 : h.2.1 + 6 ≤ mm_Sm Γ := by have := I.2.2.2.2.2; omega
  refine mm_aload_n dL_law_984 rfl rfl ?_
  refine mm_aload_n dL_law_985 rfl rfl ?_
  refine mm_iload dL_law_986 rfl ?_
  refine mm_iconst (v := nI 1) dL_law_988 (by decide) ?_
  refine mm_iadd dL_law_989 ?_
  refine mm_sload dL_law_990 (nI_add i 1) (show i + 1 < kL_N Γ by omega) hN ?_
  refine mm_aload_n dL_law_991 rfl rfl ?_
  refine mm_calls (as := [.ref x, .int (kL_p Γ (i + 1)), .ref (x + 182)]) (rest := []) dL_law_992 lL_134 rfl (fun v hv => by simp only [List.mem_cons, List.not_mem_nil, or_false] at hv; rcases hv with rfl | rfl | rfl <;> rfl) (Nat.le_of_ble_eq_true rfl) (Nat.le_of_ble_eq_true rfl) (kW_token (a := x + 182) (Or.inr (by omega)) A.1.1 hf0 (kL_p Γ (i + 1)) (kL_token _ (kL_p Γ (i + 1))) (kC_token (d := d + 40) A ok rm1 rs1 (kL_p Γ (i + 1)))) ?_ ?_
  rotate_left
  · rintro k g ⟨e, -⟩; cases e
  rintro v g ⟨e, k1, k2, k3, f, k4, k5⟩
  cases e
  have J := kL_mid I hi k1 k2 k3 k4
  refine mm_eqh J.2.1 ?_
  refine mm_istore dL_law_995 (by decide) rfl ?_
  refine mm_aload_n dL_law_997 rfl rfl ?_
  refine mm_aload_n dL_law_998 rfl rfl ?_
  refine mm_iload dL_law_999 rfl ?_
  refine mm_iconst (v := nI 1) dL_law_1001 (by decide) ?_
  refine mm_iadd dL_law_1002 ?_
  refine mm_sload dL_law_1003 (nI_add i 1) (show i + 1 < kL_N Γ by omega) hN ?_
  refine mm_v1 dL_law_1004 lL_136 (km_0 g (x + 166) M) rfl (by decide) (Nat.le_of_ble_eq_true rfl) (kM_token (d := d + 51) h70 (kL_p Γ (i + 1))) ?_
  have hq : kq_st (fun _ => 1) (kc_token C (kL_p Γ (i + 1))) (nI (km_token M (kL_p Γ (i + 1))).1) (km_token M (kL_p Γ (i + 1))).2 := kq_token I.2.2.2.1 (kL_p Γ (i + 1))
  refine mm_istore dL_law_1007 (by decide) rfl ?_
  refine mm_aload_n dL_law_1009 rfl rfl ?_
  refine mm_v0 dL_law_1010 lL_87 (km_0 g (x + 166) _) (by decide) (Nat.le_of_ble_eq_true rfl) (kM_thrown (d := d + 51)) ?_
  refine mm_iload dL_law_1013 rfl ?_
  refine mm_icmp_eq_T (tgt := 1020) dL_law_1015 (by decide) (congrArg nI hq.1.symm) ?_
  refine mm_iload dL_law_1020 rfl ?_
  refine mm_if_ne_n (tgt := 1037) dL_law_1022 (by decide) (by rcases (kL_token _ (kL_p Γ (i + 1))) with ⟨y, w⟩ | w <;> rw [w] <;> first | decide | (show 0 < 2 ^ 31; decide)) (fun q1022 => ?_) (fun q1022 => ?_)
  · refine mm_goto (tgt := 1255) dL_law_1037 (by decide) ?_
    exact cont _ _ _ _ _ (kL_end J hq.2.2)
  · have hans := kL_ans (f := f) (fun k => by first | exact Nat.succ_ne_zero k | decide) (fun v hv => by rcases (kL_token _ (kL_p Γ (i + 1))) with ⟨y, w⟩ | w <;> rw [hv] at w <;> first | exact ⟨_, Sum.inl.inj w⟩ | cases w) hq k5 q1022
    refine mm_aload_n dL_law_1025 rfl rfl ?_
    refine mm_iconst (v := nI 0) dL_law_1026 (by decide) ?_
    refine mm_laload dL_law_1027 (kL_out J) rfl (by decide) (by decide) ?_
    refine mm_iload dL_law_1028 rfl ?_
    refine mm_i2l dL_law_1030 ?_
    refine mm_lcmp dL_law_1031 ?_
    refine mm_top (v' := .int (nI 0)) (congrArg Value.int (by rw [hans]; exact kL_cmp _)) ?_
    refine mm_if_eq_T (tgt := 1037) dL_law_1032 (by decide) rfl ?_
    refine mm_goto (tgt := 1255) dL_law_1037 (by decide) ?_
    exact cont _ _ _ _ _ (kL_end J hq.2.2)
theorem kZ_holds (I : kL_I Γ x h C M i) (hi : i + 5 ≤ kL_N Γ) (hN : kL_N Γ < 2 ^ 31) (x5 x6 : Option Value) (cont : ∀ (h' : mm_H) (C' : kc_C) (M' : km_M) (y5 y6 : Option Value), kL_I Γ x h' C' M' (i + 5) → mm_W Γ l mL_law (d + 52) D 1255 [some (.ref Γ.2.2.2.1), some (.ref x), some (.ref (x + 166)), some (.ref (x + 182)), some (.int (nI i)), y5, y6] [] h') : mm_W Γ l mL_law (d + 52) D 1040 [some (.ref Γ.2.2.2.1), some (.ref x), some (.ref (x + 166)), some (.ref (x + 182)), some (.int (nI i)), x5, x6] [] h := by
  obtain ⟨o, hm, hw, hr, h70, o1, hw1, hkp⟩ := kL_pre I.2.2.2.1
  obtain ⟨f0, hf0⟩ := I.2.2.1
  have A := I.1
  have ok := I.2.2.2.1.1.1
  have rm1 : h.1 + 1 ≤ mm_Cm Γ := by have := I.2.2.2.2.1; omega
  have rs1 : h.2.1 + 6 ≤ mm_Sm Γ := by have := I.2.2.2.2.2; omega
  obtain ⟨fi, efi⟩ : ∃ fi : Bool, fi = decide (¬ kL_p Γ (i + 1) = 0) := ⟨_, rfl⟩
  refine mm_aload_n dL_law_1040 rfl rfl ?_
  refine mm_aload_n dL_law_1041 rfl rfl ?_
  refine mm_iload dL_law_1042 rfl ?_
  refine mm_iconst (v := nI 1) dL_law_1044 (by decide) ?_
  refine mm_iadd dL_law_1045 ?_
  refine mm_sload dL_law_1046 (nI_add i 1) (show i + 1 < kL_N Γ by omega) hN ?_
  refine mm_if_eq (tgt := 1054) dL_law_1047 (by decide) (fun q1047 => ?_) (fun q1047 => ?_)
  · have e2 : fi = false := by rw [efi, decide_eq_false (fun w => w q1047)]
    refine mm_iconst (v := nI 0) dL_law_1054 (by decide) ?_
    refine mm_top (v' := .int (mm_bI fi)) (congrArg Value.int (by rw [e2]; rfl)) ?_
    refine mm_aload_n dL_law_1055 rfl rfl ?_
    refine mm_iload dL_law_1056 rfl ?_
    refine mm_iconst (v := nI 2) dL_law_1058 (by decide) ?_
    refine mm_iadd dL_law_1059 ?_
    refine mm_sload dL_law_1060 (nI_add i 2) (show i + 2 < kL_N Γ by omega) hN ?_
    refine mm_aload_n dL_law_1061 rfl rfl ?_
    refine mm_iload dL_law_1062 rfl ?_
    refine mm_iconst (v := nI 3) dL_law_1064 (by decide) ?_
    refine mm_iadd dL_law_1065 ?_
    refine mm_sload dL_law_1066 (nI_add i 3) (show i + 3 < kL_N Γ by omega) hN ?_
    refine mm_aload_n dL_law_1067 rfl rfl ?_
    refine mm_calls (as := [.ref x, .int (mm_bI fi), .int (kL_p Γ (i + 2)), .int (kL_p Γ (i + 3)), .ref (x + 182)]) (rest := []) dL_law_1068 lL_137 rfl (fun v hv => by simp only [List.mem_cons, List.not_mem_nil, or_false] at hv; rcases hv with rfl | rfl | rfl | rfl | rfl <;> rfl) (Nat.le_of_ble_eq_true rfl) (Nat.le_of_ble_eq_true rfl) (kW_holds (a := x + 182) (Or.inr (by omega)) A.1.1 hf0 fi (kL_p Γ (i + 2)) (kL_p Γ (i + 3)) (kL_holds _ fi (kL_p Γ (i + 2)) (kL_p Γ (i + 3))) (kC_holds (d := d + 0) A ok rm1 rs1 I.2.2.2.1.1.2.2.2 fi (kL_p Γ (i + 2)) (kL_p Γ (i + 3)))) ?_ ?_
    rotate_left
    · rintro k g ⟨e, -⟩; cases e
    rintro v g ⟨e, k1, k2, k3, f, k4, k5⟩
    cases e
    have J := kL_mid I hi k1 k2 k3 k4
    refine mm_eqh J.2.1 ?_
    refine mm_istore dL_law_1071 (by decide) rfl ?_
    refine mm_aload_n dL_law_1073 rfl rfl ?_
    refine mm_aload_n dL_law_1074 rfl rfl ?_
    refine mm_iload dL_law_1075 rfl ?_
    refine mm_iconst (v := nI 1) dL_law_1077 (by decide) ?_
    refine mm_iadd dL_law_1078 ?_
    refine mm_sload dL_law_1079 (nI_add i 1) (show i + 1 < kL_N Γ by omega) hN ?_
    refine mm_if_eq_T (tgt := 1087) dL_law_1080 (by decide) q1047 ?_
    refine mm_iconst (v := nI 0) dL_law_1087 (by decide) ?_
    refine mm_top (v' := .int (mm_bI fi)) (congrArg Value.int (by rw [e2]; rfl)) ?_
    refine mm_aload_n dL_law_1088 rfl rfl ?_
    refine mm_iload dL_law_1089 rfl ?_
    refine mm_iconst (v := nI 2) dL_law_1091 (by decide) ?_
    refine mm_iadd dL_law_1092 ?_
    refine mm_sload dL_law_1093 (nI_add i 2) (show i + 2 < kL_N Γ by omega) hN ?_
    refine mm_aload_n dL_law_1094 rfl rfl ?_
    refine mm_iload dL_law_1095 rfl ?_
    refine mm_iconst (v := nI 3) dL_law_1097 (by decide) ?_
    refine mm_iadd dL_law_1098 ?_
    refine mm_sload dL_law_1099 (nI_add i 3) (show i + 3 < kL_N Γ by omega) hN ?_
    refine mm_v3x dL_law_1100 lL_140 (km_0 g (x + 166) M) rfl rfl rfl (by decide) (Nat.le_of_ble_eq_true rfl) (kM_holds (d := d + 46) o hw (fun _ => o1) (fun _ => hw1) hm fi (kL_p Γ (i + 2)) (kL_p Γ (i + 3))) ?_
    rintro v M2 ⟨hv, hM2⟩
    have hq := kq_holds I.2.2.2.1 fi (kL_p Γ (i + 2)) (kL_p Γ (i + 3)) hv hM2
    subst hv
    refine mm_istore dL_law_1103 (by decide) rfl ?_
    refine mm_aload_n dL_law_1105 rfl rfl ?_
    refine mm_v0 dL_law_1106 lL_87 (km_0 g (x + 166) _) (by decide) (Nat.le_of_ble_eq_true rfl) (kM_thrown (d := d + 51)) ?_
    refine mm_iload dL_law_1109 rfl ?_
    refine mm_icmp_eq_T (tgt := 1116) dL_law_1111 (by decide) (congrArg nI hq.1.symm) ?_
    refine mm_iload dL_law_1116 rfl ?_
    refine mm_if_ne_n (tgt := 1140) dL_law_1118 (by decide) (by rcases (kL_holds _ fi (kL_p Γ (i + 2)) (kL_p Γ (i + 3))) with ⟨y, w⟩ | w | w <;> rw [w] <;> first | decide | (show 0 < 2 ^ 31; decide)) (fun q1118 => ?_) (fun q1118 => ?_)
    · refine mm_goto (tgt := 1255) dL_law_1140 (by decide) ?_
      exact cont _ _ _ _ _ (kL_end J hq.2.2)
    · have hans := kL_ans (f := f) (fun k => by first | exact Nat.succ_ne_zero k | decide) (fun v hv => by rcases (kL_holds _ fi (kL_p Γ (i + 2)) (kL_p Γ (i + 3))) with ⟨y, w⟩ | w | w <;> rw [hv] at w <;> first | exact ⟨_, Sum.inl.inj w⟩ | cases w) hq k5 q1118
      refine mm_aload_n dL_law_1121 rfl rfl ?_
      refine mm_iconst (v := nI 0) dL_law_1122 (by decide) ?_
      refine mm_laload dL_law_1123 (kL_out J) rfl (by decide) (by decide) ?_
      refine mm_iload dL_law_1124 rfl ?_
      refine mm_if_eq_b (tgt := 1133) dL_law_1126 (by decide) (fun q1126 => ?_) (fun q1126 => ?_)
      · have qB : (mm_bI (kh_hd M fi (kL_p Γ (i + 2)) (kL_p Γ (i + 3)))).toInt64 = lN 0 := by rw [q1126]; decide
        refine mm_lconst (v := lN 0) dL_law_1133 (by decide) ?_
        refine mm_lcmp dL_law_1134 ?_
        refine mm_top (v' := .int (nI 0)) (congrArg Value.int (by rw [hans]; first | (rw [qB]; exact kL_cmp _) | exact kL_cmp _)) ?_
        refine mm_if_eq_T (tgt := 1140) dL_law_1135 (by decide) rfl ?_
        refine mm_goto (tgt := 1255) dL_law_1140 (by decide) ?_
        exact cont _ _ _ _ _ (kL_end J hq.2.2)
      · have qB : (mm_bI (kh_hd M fi (kL_p Γ (i + 2)) (kL_p Γ (i + 3)))).toInt64 = lN 1 := by rw [q1126]; decide
        refine mm_lconst (v := lN 1) dL_law_1129 (by decide) ?_
        refine mm_goto (tgt := 1134) dL_law_1130 (by decide) ?_
        refine mm_lcmp dL_law_1134 ?_
        refine mm_top (v' := .int (nI 0)) (congrArg Value.int (by rw [hans]; first | (rw [qB]; exact kL_cmp _) | exact kL_cmp _)) ?_
        refine mm_if_eq_T (tgt := 1140) dL_law_1135 (by decide) rfl ?_
        refine mm_goto (tgt := 1255) dL_law_1140 (by decide) ?_
        exact cont _ _ _ _ _ (kL_end J hq.2.2)
  · have e2 : fi = true := by rw [efi, decide_eq_true q1047]
    refine mm_iconst (v := nI 1) dL_law_1050 (by decide) ?_
    refine mm_goto (tgt := 1055) dL_law_1051 (by decide) ?_
    refine mm_top (v' := .int (mm_bI fi)) (congrArg Value.int (by rw [e2]; rfl)) ?_
    refine mm_aload_n dL_law_1055 rfl rfl ?_
    refine mm_iload dL_law_1056 rfl ?_
    refine mm_iconst (v := nI 2) dL_law_1058 (by decide) ?_
    refine mm_iadd dL_law_1059 ?_
    refine mm_sload dL_law_1060 (nI_add i 2) (show i + 2 < kL_N Γ by omega) hN ?_
    refine mm_aload_n dL_law_1061 rfl rfl ?_
    refine mm_iload dL_law_1062 rfl ?_
    refine mm_iconst (v := nI 3) dL_law_1064 (by decide) ?_
    refine mm_iadd dL_law_1065 ?_
    refine mm_sload dL_law_1066 (nI_add i 3) (show i + 3 < kL_N Γ by omega) hN ?_
    refine mm_aload_n dL_law_1067 rfl rfl ?_
    refine mm_calls (as := [.ref x, .int (mm_bI fi), .int (kL_p Γ (i + 2)), .int (kL_p Γ (i + 3)), .ref (x + 182)]) (rest := []) dL_law_1068 lL_137 rfl (fun v hv => by simp only [List.mem_cons, List.not_mem_nil, or_false] at hv; rcases hv with rfl | rfl | rfl | rfl | rfl <;> rfl) (Nat.le_of_ble_eq_true rfl) (Nat.le_of_ble_eq_true rfl) (kW_holds (a := x + 182) (Or.inr (by omega)) A.1.1 hf0 fi (kL_p Γ (i + 2)) (kL_p Γ (i + 3)) (kL_holds _ fi (kL_p Γ (i + 2)) (kL_p Γ (i + 3))) (kC_holds (d := d + 0) A ok rm1 rs1 I.2.2.2.1.1.2.2.2 fi (kL_p Γ (i + 2)) (kL_p Γ (i + 3)))) ?_ ?_
    rotate_left
    · rintro k g ⟨e, -⟩; cases e
    rintro v g ⟨e, k1, k2, k3, f, k4, k5⟩
    cases e
    have J := kL_mid I hi k1 k2 k3 k4
    refine mm_eqh J.2.1 ?_
    refine mm_istore dL_law_1071 (by decide) rfl ?_
    refine mm_aload_n dL_law_1073 rfl rfl ?_
    refine mm_aload_n dL_law_1074 rfl rfl ?_
    refine mm_iload dL_law_1075 rfl ?_
    refine mm_iconst (v := nI 1) dL_law_1077 (by decide) ?_
    refine mm_iadd dL_law_1078 ?_
    refine mm_sload dL_law_1079 (nI_add i 1) (show i + 1 < kL_N Γ by omega) hN ?_
    refine mm_if_eq_F (tgt := 1087) dL_law_1080 (by decide) q1047 ?_
    refine mm_iconst (v := nI 1) dL_law_1083 (by decide) ?_
    refine mm_goto (tgt := 1088) dL_law_1084 (by decide) ?_
    refine mm_top (v' := .int (mm_bI fi)) (congrArg Value.int (by rw [e2]; rfl)) ?_
    refine mm_aload_n dL_law_1088 rfl rfl ?_
    refine mm_iload dL_law_1089 rfl ?_
    refine mm_iconst (v := nI 2) dL_law_1091 (by decide) ?_
    refine mm_iadd dL_law_1092 ?_
    refine mm_sload dL_law_1093 (nI_add i 2) (show i + 2 < kL_N Γ by omega) hN ?_
    refine mm_aload_n dL_law_1094 rfl rfl ?_
    refine mm_iload dL_law_1095 rfl ?_
    refine mm_iconst (v := nI 3) dL_law_1097 (by decide) ?_
    refine mm_iadd dL_law_1098 ?_
    refine mm_sload dL_law_1099 (nI_add i 3) (show i + 3 < kL_N Γ by omega) hN ?_
    refine mm_v3x dL_law_1100 lL_140 (km_0 g (x + 166) M) rfl rfl rfl (by decide) (Nat.le_of_ble_eq_true rfl) (kM_holds (d := d + 46) o hw (fun _ => o1) (fun _ => hw1) hm fi (kL_p Γ (i + 2)) (kL_p Γ (i + 3))) ?_
    rintro v M2 ⟨hv, hM2⟩
    have hq := kq_holds I.2.2.2.1 fi (kL_p Γ (i + 2)) (kL_p Γ (i + 3)) hv hM2
    subst hv
    refine mm_istore dL_law_1103 (by decide) rfl ?_
    refine mm_aload_n dL_law_1105 rfl rfl ?_
    refine mm_v0 dL_law_1106 lL_87 (km_0 g (x + 166) _) (by decide) (Nat.le_of_ble_eq_true rfl) (kM_thrown (d := d + 51)) ?_
    refine mm_iload dL_law_1109 rfl ?_
    refine mm_icmp_eq_T (tgt := 1116) dL_law_1111 (by decide) (congrArg nI hq.1.symm) ?_
    refine mm_iload dL_law_1116 rfl ?_
    refine mm_if_ne_n (tgt := 1140) dL_law_1118 (by decide) (by rcases (kL_holds _ fi (kL_p Γ (i + 2)) (kL_p Γ (i + 3))) with ⟨y, w⟩ | w | w <;> rw [w] <;> first | decide | (show 0 < 2 ^ 31; decide)) (fun q1118 => ?_) (fun q1118 => ?_)
    · refine mm_goto (tgt := 1255) dL_law_1140 (by decide) ?_
      exact cont _ _ _ _ _ (kL_end J hq.2.2)
    · have hans := kL_ans (f := f) (fun k => by first | exact Nat.succ_ne_zero k | decide) (fun v hv => by rcases (kL_holds _ fi (kL_p Γ (i + 2)) (kL_p Γ (i + 3))) with ⟨y, w⟩ | w | w <;> rw [hv] at w <;> first | exact ⟨_, Sum.inl.inj w⟩ | cases w) hq k5 q1118
      refine mm_aload_n dL_law_1121 rfl rfl ?_
      refine mm_iconst (v := nI 0) dL_law_1122 (by decide) ?_
      refine mm_laload dL_law_1123 (kL_out J) rfl (by decide) (by decide) ?_
      refine mm_iload dL_law_1124 rfl ?_
      refine mm_if_eq_b (tgt := 1133) dL_law_1126 (by decide) (fun q1126 => ?_) (fun q1126 => ?_)
      · have qB : (mm_bI (kh_hd M fi (kL_p Γ (i + 2)) (kL_p Γ (i + 3)))).toInt64 = lN 0 := by rw [q1126]; decide
        refine mm_lconst (v := lN 0) dL_law_1133 (by decide) ?_
        refine mm_lcmp dL_law_1134 ?_
        refine mm_top (v' := .int (nI 0)) (congrArg Value.int (by rw [hans]; first | (rw [qB]; exact kL_cmp _) | exact kL_cmp _)) ?_
        refine mm_if_eq_T (tgt := 1140) dL_law_1135 (by decide) rfl ?_
        refine mm_goto (tgt := 1255) dL_law_1140 (by decide) ?_
        exact cont _ _ _ _ _ (kL_end J hq.2.2)
      · have qB : (mm_bI (kh_hd M fi (kL_p Γ (i + 2)) (kL_p Γ (i + 3)))).toInt64 = lN 1 := by rw [q1126]; decide
        refine mm_lconst (v := lN 1) dL_law_1129 (by decide) ?_
        refine mm_goto (tgt := 1134) dL_law_1130 (by decide) ?_
        refine mm_lcmp dL_law_1134 ?_
        refine mm_top (v' := .int (nI 0)) (congrArg Value.int (by rw [hans]; first | (rw [qB]; exact kL_cmp _) | exact kL_cmp _)) ?_
        refine mm_if_eq_T (tgt := 1140) dL_law_1135 (by decide) rfl ?_
        refine mm_goto (tgt := 1255) dL_law_1140 (by decide) ?_
        exact cont _ _ _ _ _ (kL_end J hq.2.2)
theorem kZ_refutes (I : kL_I Γ x h C M i) (hi : i + 5 ≤ kL_N Γ) (hN : kL_N Γ < 2 ^ 31) (x5 x6 : Option Value) (cont : ∀ (h' : mm_H) (C' : kc_C) (M' : km_M) (y5 y6 : Option Value), kL_I Γ x h' C' M' (i + 5) → mm_W Γ l mL_law (d + 52) D 1255 [some (.ref Γ.2.2.2.1), some (.ref x), some (.ref (x + 166)), some (.ref (x + 182)), some (.int (nI i)), y5, y6] [] h') : mm_W Γ l mL_law (d + 52) D 1143 [some (.ref Γ.2.2.2.1), some (.ref x), some (.ref (x + 166)), some (.ref (x + 182)), some (.int (nI i)), x5, x6] [] h := by
  obtain ⟨o, hm, hw, hr, h70, o1, hw1, hkp⟩ := kL_pre I.2.2.2.1
  obtain ⟨f0, hf0⟩ := I.2.2.1
  have A := I.1
  have ok := I.2.2.2.1.1.1
  have rm1 : h.1 + 1 ≤ mm_Cm Γ := by have := I.2.2.2.2.1; omega
  have rs1 : h.2.1 + 6 ≤ mm_Sm Γ := by have := I.2.2.2.2.2; omega
  refine mm_aload_n dL_law_1143 rfl rfl ?_
  refine mm_aload_n dL_law_1144 rfl rfl ?_
  refine mm_iload dL_law_1145 rfl ?_
  refine mm_iconst (v := nI 1) dL_law_1147 (by decide) ?_
  refine mm_iadd dL_law_1148 ?_
  refine mm_sload dL_law_1149 (nI_add i 1) (show i + 1 < kL_N Γ by omega) hN ?_
  refine mm_aload_n dL_law_1150 rfl rfl ?_
  refine mm_calls (as := [.ref x, .int (kL_p Γ (i + 1)), .ref (x + 182)]) (rest := []) dL_law_1151 lL_141 rfl (fun v hv => by simp only [List.mem_cons, List.not_mem_nil, or_false] at hv; rcases hv with rfl | rfl | rfl <;> rfl) (Nat.le_of_ble_eq_true rfl) (Nat.le_of_ble_eq_true rfl) (kW_refutes (a := x + 182) (Or.inr (by omega)) A.1.1 hf0 (kL_p Γ (i + 1)) (kL_refutes _ (kL_p Γ (i + 1))) (kC_refutes (d := d + 0) A ok rm1 rs1 I.2.2.2.1.1.2.2.1 I.2.2.2.1.1.2.2.2 (kL_p Γ (i + 1)))) ?_ ?_
  rotate_left
  · rintro k g ⟨e, -⟩; cases e
  rintro v g ⟨e, k1, k2, k3, f, k4, k5⟩
  cases e
  have J := kL_mid I hi k1 k2 k3 k4
  refine mm_eqh J.2.1 ?_
  refine mm_istore dL_law_1154 (by decide) rfl ?_
  refine mm_aload_n dL_law_1156 rfl rfl ?_
  refine mm_aload_n dL_law_1157 rfl rfl ?_
  refine mm_iload dL_law_1158 rfl ?_
  refine mm_iconst (v := nI 1) dL_law_1160 (by decide) ?_
  refine mm_iadd dL_law_1161 ?_
  refine mm_sload dL_law_1162 (nI_add i 1) (show i + 1 < kL_N Γ by omega) hN ?_
  refine mm_v1x dL_law_1163 lL_143 (km_0 g (x + 166) M) rfl (by decide) (Nat.le_of_ble_eq_true rfl) (kM_refutes (d := d + 46) o hw (fun _ => o1) (fun _ => hw1) hm (kL_p Γ (i + 1))) ?_
  rintro v M2 ⟨hv, hM2⟩
  have hq := kq_refutes I.2.2.2.1 (kL_p Γ (i + 1)) hv hM2
  subst hv
  refine mm_istore dL_law_1166 (by decide) rfl ?_
  refine mm_aload_n dL_law_1168 rfl rfl ?_
  refine mm_v0 dL_law_1169 lL_87 (km_0 g (x + 166) _) (by decide) (Nat.le_of_ble_eq_true rfl) (kM_thrown (d := d + 51)) ?_
  refine mm_iload dL_law_1172 rfl ?_
  refine mm_icmp_eq_T (tgt := 1179) dL_law_1174 (by decide) (congrArg nI hq.1.symm) ?_
  refine mm_iload dL_law_1179 rfl ?_
  refine mm_if_ne_n (tgt := 1196) dL_law_1181 (by decide) (by rcases (kL_refutes _ (kL_p Γ (i + 1))) with ⟨y, w⟩ | w | w <;> rw [w] <;> first | decide | (show 0 < 2 ^ 31; decide)) (fun q1181 => ?_) (fun q1181 => ?_)
  · refine mm_goto (tgt := 1255) dL_law_1196 (by decide) ?_
    exact cont _ _ _ _ _ (kL_end J hq.2.2)
  · have hans := kL_ans (f := f) (fun k => by first | exact Nat.succ_ne_zero k | decide) (fun v hv => by rcases (kL_refutes _ (kL_p Γ (i + 1))) with ⟨y, w⟩ | w | w <;> rw [hv] at w <;> first | exact ⟨_, Sum.inl.inj w⟩ | cases w) hq k5 q1181
    refine mm_aload_n dL_law_1184 rfl rfl ?_
    refine mm_iconst (v := nI 0) dL_law_1185 (by decide) ?_
    refine mm_laload dL_law_1186 (kL_out J) rfl (by decide) (by decide) ?_
    refine mm_iload dL_law_1187 rfl ?_
    refine mm_i2l dL_law_1189 ?_
    refine mm_lcmp dL_law_1190 ?_
    refine mm_top (v' := .int (nI 0)) (congrArg Value.int (by rw [hans]; exact kL_cmp _)) ?_
    refine mm_if_eq_T (tgt := 1196) dL_law_1191 (by decide) rfl ?_
    refine mm_goto (tgt := 1255) dL_law_1196 (by decide) ?_
    exact cont _ _ _ _ _ (kL_end J hq.2.2)
theorem kZ_count (I : kL_I Γ x h C M i) (hi : i + 5 ≤ kL_N Γ) (hN : kL_N Γ < 2 ^ 31) (x5 x6 : Option Value) (cont : ∀ (h' : mm_H) (C' : kc_C) (M' : km_M) (y5 y6 : Option Value), kL_I Γ x h' C' M' (i + 5) → mm_W Γ l mL_law (d + 52) D 1255 [some (.ref Γ.2.2.2.1), some (.ref x), some (.ref (x + 166)), some (.ref (x + 182)), some (.int (nI i)), y5, y6] [] h') : mm_W Γ l mL_law (d + 52) D 1199 [some (.ref Γ.2.2.2.1), some (.ref x), some (.ref (x + 166)), some (.ref (x + 182)), some (.int (nI i)), x5, x6] [] h := by
  obtain ⟨o, hm, hw, hr, h70, o1, hw1, hkp⟩ := kL_pre I.2.2.2.1
  obtain ⟨f0, hf0⟩ := I.2.2.1
  have A := I.1
  have ok := I.2.2.2.1.1.1
  have rm1 : h.1 + 1 ≤ mm_Cm Γ := by have := I.2.2.2.2.1; omega
  have rs1 : h.2.1 + 6 ≤ mm_Sm Γ := by have := I.2.2.2.2.2; omega
  refine mm_aload_n dL_law_1199 rfl rfl ?_
  refine mm_aload_n dL_law_1200 rfl rfl ?_
  refine mm_iload dL_law_1201 rfl ?_
  refine mm_iconst (v := nI 1) dL_law_1203 (by decide) ?_
  refine mm_iadd dL_law_1204 ?_
  refine mm_sload dL_law_1205 (nI_add i 1) (show i + 1 < kL_N Γ by omega) hN ?_
  refine mm_aload_n dL_law_1206 rfl rfl ?_
  refine mm_calls (as := [.ref x, .int (kL_p Γ (i + 1)), .ref (x + 182)]) (rest := []) dL_law_1207 lL_144 rfl (fun v hv => by simp only [List.mem_cons, List.not_mem_nil, or_false] at hv; rcases hv with rfl | rfl | rfl <;> rfl) (Nat.le_of_ble_eq_true rfl) (Nat.le_of_ble_eq_true rfl) (kW_count (a := x + 182) (Or.inr (by omega)) A.1.1 hf0 (kL_p Γ (i + 1)) (kL_count _ (kL_p Γ (i + 1))) (kC_count (d := d + 40) A ok rm1 rs1 (kL_p Γ (i + 1)))) ?_ ?_
  rotate_left
  · rintro k g ⟨e, -⟩; cases e
  rintro v g ⟨e, k1, k2, k3, f, k4, k5⟩
  cases e
  have J := kL_mid I hi k1 k2 k3 k4
  refine mm_eqh J.2.1 ?_
  refine mm_istore dL_law_1210 (by decide) rfl ?_
  refine mm_aload_n dL_law_1212 rfl rfl ?_
  refine mm_aload_n dL_law_1213 rfl rfl ?_
  refine mm_iload dL_law_1214 rfl ?_
  refine mm_iconst (v := nI 1) dL_law_1216 (by decide) ?_
  refine mm_iadd dL_law_1217 ?_
  refine mm_sload dL_law_1218 (nI_add i 1) (show i + 1 < kL_N Γ by omega) hN ?_
  refine mm_v1 dL_law_1219 lL_146 (km_0 g (x + 166) M) rfl (by decide) (Nat.le_of_ble_eq_true rfl) (kM_count (d := d + 50) o.1 (kL_p Γ (i + 1))) ?_
  have hq : kq_st (fun _ => 1) (kc_count C (kL_p Γ (i + 1))) (nI (km_count M (kL_p Γ (i + 1))).1) (km_count M (kL_p Γ (i + 1))).2 := kq_count I.2.2.2.1 (kL_p Γ (i + 1))
  refine mm_istore dL_law_1222 (by decide) rfl ?_
  refine mm_aload_n dL_law_1224 rfl rfl ?_
  refine mm_v0 dL_law_1225 lL_87 (km_0 g (x + 166) _) (by decide) (Nat.le_of_ble_eq_true rfl) (kM_thrown (d := d + 51)) ?_
  refine mm_iload dL_law_1228 rfl ?_
  refine mm_icmp_eq_T (tgt := 1235) dL_law_1230 (by decide) (congrArg nI hq.1.symm) ?_
  refine mm_iload dL_law_1235 rfl ?_
  refine mm_if_ne_n (tgt := 1252) dL_law_1237 (by decide) (by rcases (kL_count _ (kL_p Γ (i + 1))) with ⟨y, w⟩ | w <;> rw [w] <;> first | decide | (show 0 < 2 ^ 31; decide)) (fun q1237 => ?_) (fun q1237 => ?_)
  · refine mm_goto (tgt := 1255) dL_law_1252 (by decide) ?_
    exact cont _ _ _ _ _ (kL_end J hq.2.2)
  · have hans := kL_ans (f := f) (fun k => by first | exact Nat.succ_ne_zero k | decide) (fun v hv => by rcases (kL_count _ (kL_p Γ (i + 1))) with ⟨y, w⟩ | w <;> rw [hv] at w <;> first | exact ⟨_, Sum.inl.inj w⟩ | cases w) hq k5 q1237
    refine mm_aload_n dL_law_1240 rfl rfl ?_
    refine mm_iconst (v := nI 0) dL_law_1241 (by decide) ?_
    refine mm_laload dL_law_1242 (kL_out J) rfl (by decide) (by decide) ?_
    refine mm_iload dL_law_1243 rfl ?_
    refine mm_i2l dL_law_1245 ?_
    refine mm_lcmp dL_law_1246 ?_
    refine mm_top (v' := .int (nI 0)) (congrArg Value.int (by rw [hans]; exact kL_cmp _)) ?_
    refine mm_if_eq_T (tgt := 1252) dL_law_1247 (by decide) rfl ?_
    refine mm_goto (tgt := 1255) dL_law_1252 (by decide) ?_
    exact cont _ _ _ _ _ (kL_end J hq.2.2)
end KZ
