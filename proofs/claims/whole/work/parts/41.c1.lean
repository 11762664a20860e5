/-! Contracts of CutSheets: leaves. Printed by wip/whole/spec/c1.py -/
section KC1
variable {Γ : mm_G} {l : Launch} {d : Nat} {h : mm_H} {x : Nat} {C : kc_C}
theorem kC_needA_t {b : Bool} (hb : b = true) : mm_Ev Γ l d mC_needArgument [.int (mm_bI b)] h (mm_is (.inl none) h) := by
  subst hb
  show mm_W Γ l mC_needArgument d _ 0 [some (.int (mm_bI true))] [] h
  refine mm_iload_n dC_needArgument_0 rfl rfl ?_
  refine mm_if_ne_T (tgt := 12) dC_needArgument_1 (by decide) (by decide) ?_
  refine mm_return dC_needArgument_12 rfl ?_
  exact ⟨rfl, rfl⟩
theorem kC_needA_f {b : Bool} (hb : b = false) (hm : h.1 + 1 ≤ mm_Cm Γ) (hs : h.2.1 + 6 ≤ mm_Sm Γ) : mm_Ev Γ l d mC_needArgument [.int (mm_bI b)] h (mm_is (.inr 0) (mm_exn h)) := by
  subst hb
  show mm_W Γ l mC_needArgument d _ 0 [some (.int (mm_bI false))] [] h
  refine mm_iload_n dC_needArgument_0 rfl rfl ?_
  refine mm_if_ne_F (tgt := 12) dC_needArgument_1 (by decide) (by decide) ?_
  exact mm_throw dC_needArgument_4 dC_needArgument_7 dC_needArgument_8 dC_needArgument_11 kw_t0 rfl (by decide) hm hs ⟨rfl, rfl⟩ --stop
theorem kC_needS_t {b : Bool} (hb : b = true) : mm_Ev Γ l d mC_needState [.int (mm_bI b)] h (mm_is (.inl none) h) := by
  subst hb
  show mm_W Γ l mC_needState d _ 0 [some (.int (mm_bI true))] [] h
  refine mm_iload_n dC_needState_0 rfl rfl ?_
  refine mm_if_ne_T (tgt := 12) dC_needState_1 (by decide) (by decide) ?_
  refine mm_return dC_needState_12 rfl ?_
  exact ⟨rfl, rfl⟩
theorem kC_needS_f {b : Bool} (hb : b = false) (hm : h.1 + 1 ≤ mm_Cm Γ) (hs : h.2.1 + 6 ≤ mm_Sm Γ) : mm_Ev Γ l d mC_needState [.int (mm_bI b)] h (mm_is (.inr 1) (mm_exn h)) := by
  subst hb
  show mm_W Γ l mC_needState d _ 0 [some (.int (mm_bI false))] [] h
  refine mm_iload_n dC_needState_0 rfl rfl ?_
  refine mm_if_ne_F (tgt := 12) dC_needState_1 (by decide) (by decide) ?_
  exact mm_throw dC_needState_4 dC_needState_7 dC_needState_8 dC_needState_11 kw_t1 rfl (by decide) hm hs ⟨rfl, rfl⟩ --stop
theorem kC_needR_t {b : Bool} (hb : b = true) : mm_Ev Γ l d mC_needRoom [.int (mm_bI b)] h (mm_is (.inl none) h) := by
  subst hb
  show mm_W Γ l mC_needRoom d _ 0 [some (.int (mm_bI true))] [] h
  refine mm_iload_n dC_needRoom_0 rfl rfl ?_
  refine mm_if_ne_T (tgt := 12) dC_needRoom_1 (by decide) (by decide) ?_
  refine mm_return dC_needRoom_12 rfl ?_
  exact ⟨rfl, rfl⟩
theorem kC_needR_f {b : Bool} (hb : b = false) (hm : h.1 + 1 ≤ mm_Cm Γ) (hs : h.2.1 + 6 ≤ mm_Sm Γ) : mm_Ev Γ l d mC_needRoom [.int (mm_bI b)] h (mm_is (.inr 2) (mm_exn h)) := by
  subst hb
  show mm_W Γ l mC_needRoom d _ 0 [some (.int (mm_bI false))] [] h
  refine mm_iload_n dC_needRoom_0 rfl rfl ?_
  refine mm_if_ne_F (tgt := 12) dC_needRoom_1 (by decide) (by decide) ?_
  exact mm_throw dC_needRoom_4 dC_needRoom_7 dC_needRoom_8 dC_needRoom_11 kw_t2 rfl (by decide) hm hs ⟨rfl, rfl⟩ --stop
theorem kc_rowf (x : Nat) {i : Nat} (hi : i < 21) : (fun i => if i < 21 then some (kc_b x i) else none) i = some (kc_b x i) := if_pos hi
theorem kC_sheet (a : kc_at h x C) (o : kc_ok C) : mm_Ev Γ l d mC_sheet [.ref x] h (mm_is (.inl (some (.ref (kc_b x C.2.2.2.2.2)))) h) := by
  have hm := o.2.1
  show mm_W Γ l mC_sheet d _ 0 [some (.ref x)] [] h
  refine mm_aload_n dC_sheet_0 rfl rfl ?_
  refine mm_getf dC_sheet_1 fC_11 a.1.1 rfl ?_
  refine mm_aload_n dC_sheet_4 rfl rfl ?_
  refine mm_getf dC_sheet_5 fC_47 a.1.1 rfl ?_
  refine mm_aaload dC_sheet_8 a.1.2 rfl (by omega) (by decide) (kc_rowf x (by omega)) ?_
  refine mm_areturn dC_sheet_9 rfl (Or.inl ⟨_, rfl⟩) ?_
  exact ⟨rfl, rfl⟩
theorem kc_okS (o : kc_ok C) : ks_ok (kc_S C) := o.1 _ (Nat.lt_succ_of_le o.2.1)
theorem kc_atS (a : kc_at h x C) (o : kc_ok C) : ks_at h (kc_b x C.2.2.2.2.2) (kc_S C) := a.2.1 _ (Nat.lt_succ_of_le o.2.1)
theorem kC_mayInsert (a : kc_at h x C) (o : kc_ok C) (n : Int32) : mm_Ev Γ l (d + 5) mC_mayInsert [.ref x, .int n] h (mm_is (.inl (some (.int (mm_bI (kc_mayIn C n))))) h) := by
  show mm_W Γ l mC_mayInsert (d + 5) _ 0 [some (.ref x), some (.int n)] [] h
  refine mm_aload_n dC_mayInsert_0 rfl rfl ?_
  refine mm_getf dC_mayInsert_1 fC_43 a.1.1 rfl ?_
  refine mm_if_ne_b (tgt := 18) dC_mayInsert_4 (by decide) (fun q4 => ?_) (fun q4 => ?_)
  · refine mm_iconst (v := nI 1) dC_mayInsert_18 (by decide) ?_
    refine mm_goto (tgt := 23) dC_mayInsert_19 (by decide) ?_
    refine mm_zreturn dC_mayInsert_23 rfl rfl ?_
    exact mm_f1 (by simp [kc_mayIn, q4])
  · refine mm_aload_n dC_mayInsert_7 rfl rfl ?_
    refine mm_v0 dC_mayInsert_8 lC_51 a.1.1 (by decide) (Nat.le_of_ble_eq_true rfl) (kC_sheet a o) ?_
    refine mm_iload_n dC_mayInsert_11 rfl rfl ?_
    refine mm_v1 dC_mayInsert_12 lC_104 (kc_atS a o).1 rfl (by decide) (Nat.le_of_ble_eq_true rfl) (kS_isOdd (kc_atS a o) (kc_okS o) n) ?_
    refine mm_if_eq_b (tgt := 22) dC_mayInsert_15 (by decide) (fun q15 => ?_) (fun q15 => ?_)
    · refine mm_iconst (v := nI 0) dC_mayInsert_22 (by decide) ?_
      refine mm_zreturn dC_mayInsert_23 rfl rfl ?_
      exact mm_f0 (by simp [kc_mayIn, q4, q15])
    · refine mm_iconst (v := nI 1) dC_mayInsert_18 (by decide) ?_
      refine mm_goto (tgt := 23) dC_mayInsert_19 (by decide) ?_
      refine mm_zreturn dC_mayInsert_23 rfl rfl ?_
      exact mm_f1 (by simp [kc_mayIn, q4, q15])
theorem kC_mayChange (a : kc_at h x C) (o : kc_ok C) : mm_Ev Γ l d mC_mayChange [.ref x] h (mm_is (.inl (some (.int (mm_bI (kc_mayCh C))))) h) := by
  have hm := o.2.1
  show mm_W Γ l mC_mayChange d _ 0 [some (.ref x)] [] h
  refine mm_aload_n dC_mayChange_0 rfl rfl ?_
  refine mm_getf dC_mayChange_1 fC_43 a.1.1 rfl ?_
  refine mm_if_ne_b (tgt := 16) dC_mayChange_4 (by decide) (fun q4 => ?_) (fun q4 => ?_)
  · refine mm_iconst (v := nI 1) dC_mayChange_16 (by decide) ?_
    refine mm_goto (tgt := 21) dC_mayChange_17 (by decide) ?_
    refine mm_zreturn dC_mayChange_21 rfl rfl ?_
    exact mm_f1 (by simp [kc_mayCh, q4])
  · refine mm_aload_n dC_mayChange_7 rfl rfl ?_
    refine mm_getf dC_mayChange_8 fC_47 a.1.1 rfl ?_
    refine mm_bipush (v := nI 20) dC_mayChange_11 (by decide) ?_
    refine mm_icmp_ge_n (tgt := 20) dC_mayChange_13 (by decide) (by omega) (by decide) (fun q13 => ?_) (fun q13 => ?_)
    · refine mm_iconst (v := nI 0) dC_mayChange_20 (by decide) ?_
      refine mm_zreturn dC_mayChange_21 rfl rfl ?_
      exact mm_f0 (by simp [kc_mayCh, q4]; omega)
    · refine mm_iconst (v := nI 1) dC_mayChange_16 (by decide) ?_
      refine mm_goto (tgt := 21) dC_mayChange_17 (by decide) ?_
      refine mm_zreturn dC_mayChange_21 rfl rfl ?_
      exact mm_f1 (by simp [kc_mayCh, q4]; omega)
/-- the picture behind 'changed' -/
def kc_chgH (x : Nat) (h : mm_H) (C : kc_C) : mm_H := if C.2.2.2.2.1 = true then h else if C.2.2.2.2.2 < 20 then mm_up (ks_set h (kc_b x (C.2.2.2.2.2 + 1)) (kc_S C)) x (kc_obj x C.2.2.2.2.1 (C.2.2.2.2.2 + 1)) else h
theorem kc_up_same (f : Nat → ks_S) (i : Nat) : kc_up f i (f i) = f := by
  funext j
  unfold kc_up
  by_cases hj : j = i
  · rw [if_pos hj, hj]
  · rw [if_neg hj]
theorem kc_chg_at (a : kc_at h x C) (o : kc_ok C) : kc_at (kc_chgH x h C) x (kc_new C (kc_S C)) := by
  have hm := o.2.1
  unfold kc_chgH kc_new kc_mv
  by_cases h1 : C.2.2.2.2.1 = true
  · rw [if_pos h1, if_pos h1]
    show kc_at h x (kc_up C.1 C.2.2.2.2.2 (C.1 C.2.2.2.2.2), C.2)
    rw [kc_up_same]; exact a
  · rw [if_neg h1, if_neg h1]
    by_cases h2 : C.2.2.2.2.2 < 20
    · rw [if_pos h2, if_pos h2]
      exact kc_face (kc_sheet a (i := C.2.2.2.2.2 + 1) (by omega) (kc_S C)) _ _
    · rw [if_neg h2, if_neg h2]
      show kc_at h x (kc_up C.1 C.2.2.2.2.2 (C.1 C.2.2.2.2.2), C.2)
      rw [kc_up_same]; exact a
theorem kc_chg_fr (o : kc_ok C) : kc_fr x h (kc_chgH x h C) := by
  have hm := o.2.1
  unfold kc_chgH
  by_cases h1 : C.2.2.2.2.1 = true
  · rw [if_pos h1]; exact kc_fr_refl x h
  · rw [if_neg h1]
    by_cases h2 : C.2.2.2.2.2 < 20
    · rw [if_pos h2]; exact kc_fface (kc_fsheet (kc_fr_refl x h) (by omega) _) _ _
    · rw [if_neg h2]; exact kc_fr_refl x h
theorem kc_mv_le (o : kc_ok C) : kc_mv C ≤ 20 := by
  have hm := o.2.1
  unfold kc_mv
  by_cases h1 : C.2.2.2.2.1 = true
  · rw [if_pos h1]; exact hm
  · rw [if_neg h1]
    by_cases h2 : C.2.2.2.2.2 < 20
    · rw [if_pos h2]; omega
    · rw [if_neg h2]; exact hm
theorem kC_changed (a : kc_at h x C) (o : kc_ok C) : mm_Ev Γ l (d + 1) mC_changed [.ref x] h (mm_is (.inl (some (.ref (kc_b x (kc_mv C))))) (kc_chgH x h C)) := by
  have hm := o.2.1
  show mm_W Γ l mC_changed (d + 1) _ 0 [some (.ref x)] [] h
  have e1 : kc_b x C.2.2.2.2.2 = x + 2 + 6 * C.2.2.2.2.2 := rfl
  have e2 : kc_b x (C.2.2.2.2.2 + 1) = x + 2 + 6 * (C.2.2.2.2.2 + 1) := rfl
  by_cases h1 : C.2.2.2.2.1 = true
  · rw [show kc_chgH x h C = h from if_pos h1, show kc_mv C = C.2.2.2.2.2 from if_pos h1]
    refine mm_aload_n dC_changed_0 rfl rfl ?_
    refine mm_getf dC_changed_1 fC_43 a.1.1 rfl ?_
    refine mm_if_ne_T (tgt := 49) dC_changed_4 (by decide) (by rw [h1]; decide) ?_
    refine mm_aload_n dC_changed_49 rfl rfl ?_
    refine mm_getf dC_changed_50 fC_11 a.1.1 rfl ?_
    refine mm_aload_n dC_changed_53 rfl rfl ?_
    refine mm_getf dC_changed_54 fC_47 a.1.1 rfl ?_
    refine mm_aaload dC_changed_57 a.1.2 rfl (by omega) (by decide) (kc_rowf x (by omega)) ?_
    refine mm_areturn dC_changed_58 rfl (Or.inl ⟨_, rfl⟩) ?_
    exact ⟨rfl, rfl⟩
  · have h1' : C.2.2.2.2.1 = false := by cases hh : C.2.2.2.2.1 with | true => exact absurd hh h1 | false => rfl
    by_cases h2 : C.2.2.2.2.2 < 20
    · rw [show kc_chgH x h C = mm_up (ks_set h (kc_b x (C.2.2.2.2.2 + 1)) (kc_S C)) x (kc_obj x C.2.2.2.2.1 (C.2.2.2.2.2 + 1)) from (if_neg h1).trans (if_pos h2), show kc_mv C = C.2.2.2.2.2 + 1 from (if_neg h1).trans (if_pos h2)]
      have a1 := kc_sheet a (i := C.2.2.2.2.2 + 1) (by omega) (kc_S C)
      have a2 := kc_face a1 C.2.2.2.2.1 (C.2.2.2.2.2 + 1)
      refine mm_aload_n dC_changed_0 rfl rfl ?_
      refine mm_getf dC_changed_1 fC_43 a.1.1 rfl ?_
      refine mm_if_ne_F (tgt := 49) dC_changed_4 (by decide) (by rw [h1']; decide) ?_
      refine mm_aload_n dC_changed_7 rfl rfl ?_
      refine mm_getf dC_changed_8 fC_47 a.1.1 rfl ?_
      refine mm_bipush (v := nI 20) dC_changed_11 (by decide) ?_
      refine mm_icmp_ge_F (tgt := 49) dC_changed_13 (by decide) (nI_ge h2 (by decide)) ?_
      refine mm_aload_n dC_changed_16 rfl rfl ?_
      refine mm_getf dC_changed_17 fC_11 a.1.1 rfl ?_
      refine mm_aload_n dC_changed_20 rfl rfl ?_
      refine mm_getf dC_changed_21 fC_47 a.1.1 rfl ?_
      refine mm_iconst (v := nI 1) dC_changed_24 (by decide) ?_
      refine mm_iadd dC_changed_25 ?_
      refine mm_aaload dC_changed_26 a.1.2 (nI_add _ 1) (by omega) (by decide) (kc_rowf x (by omega)) ?_
      refine mm_aload_n dC_changed_27 rfl rfl ?_
      refine mm_getf dC_changed_28 fC_11 a.1.1 rfl ?_
      refine mm_aload_n dC_changed_31 rfl rfl ?_
      refine mm_getf dC_changed_32 fC_47 a.1.1 rfl ?_
      refine mm_aaload dC_changed_35 a.1.2 rfl (by omega) (by decide) (kc_rowf x (by omega)) ?_
      refine mm_v1 dC_changed_36 lC_182 (a.2.1 _ (by omega)).1 rfl (by decide) (Nat.le_of_ble_eq_true rfl) (kS_takeOver (a.2.1 (C.2.2.2.2.2 + 1) (by omega)) (kc_atS a o) (by omega)) ?_
      refine mm_aload_n dC_changed_39 rfl rfl ?_
      refine mm_dup dC_changed_40 rfl ?_
      refine mm_getf dC_changed_41 fC_47 a1.1.1 rfl ?_
      refine mm_iconst (v := nI 1) dC_changed_44 (by decide) ?_
      refine mm_iadd dC_changed_45 ?_
      refine mm_top (v' := .int (nI (C.2.2.2.2.2 + 1))) (congrArg Value.int (nI_add _ 1)) ?_
      refine mm_putf dC_changed_46 fC_47 rfl rfl rfl rfl a1.1.1 (Nat.le_of_ble_eq_true rfl) ?_
      refine mm_aload_n dC_changed_49 rfl rfl ?_
      refine mm_getf dC_changed_50 fC_11 a2.1.1 rfl ?_
      refine mm_aload_n dC_changed_53 rfl rfl ?_
      refine mm_getf dC_changed_54 fC_47 a2.1.1 rfl ?_
      refine mm_aaload dC_changed_57 a2.1.2 rfl (by show C.2.2.2.2.2 + 1 < 21; omega) (by decide) (kc_rowf x (by show C.2.2.2.2.2 + 1 < 21; omega)) ?_
      refine mm_areturn dC_changed_58 rfl (Or.inl ⟨_, rfl⟩) ?_
      exact ⟨rfl, rfl⟩
    · rw [show kc_chgH x h C = h from (if_neg h1).trans (if_neg h2), show kc_mv C = C.2.2.2.2.2 from (if_neg h1).trans (if_neg h2)]
      refine mm_aload_n dC_changed_0 rfl rfl ?_
      refine mm_getf dC_changed_1 fC_43 a.1.1 rfl ?_
      refine mm_if_ne_F (tgt := 49) dC_changed_4 (by decide) (by rw [h1']; decide) ?_
      refine mm_aload_n dC_changed_7 rfl rfl ?_
      refine mm_getf dC_changed_8 fC_47 a.1.1 rfl ?_
      refine mm_bipush (v := nI 20) dC_changed_11 (by decide) ?_
      refine mm_icmp_ge_T (tgt := 49) dC_changed_13 (by decide) (nI_le (by omega) (by omega)) ?_
      refine mm_aload_n dC_changed_49 rfl rfl ?_
      refine mm_getf dC_changed_50 fC_11 a.1.1 rfl ?_
      refine mm_aload_n dC_changed_53 rfl rfl ?_
      refine mm_getf dC_changed_54 fC_47 a.1.1 rfl ?_
      refine mm_aaload dC_changed_57 a.1.2 rfl (by omega) (by decide) (kc_rowf x (by omega)) ?_
      refine mm_areturn dC_changed_58 rfl (Or.inl ⟨_, rfl⟩) ?_
      exact ⟨rfl, rfl⟩
end KC1
