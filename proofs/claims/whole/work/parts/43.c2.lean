/-! Contracts of CutSheets: drawing, moves. Printed by wip/whole/spec/c2.py -/
theorem mm_bf {b : Bool} (h : ¬ b = true) : b = false := by cases b with | true => exact absurd rfl h | false => rfl
theorem mm_nb {b : Bool} (h : b = false) : ¬ b = true := by rw [h]; decide
section KC2
variable {Γ : mm_G} {l : Launch} {d : Nat} {h : mm_H} {x : Nat} {C : kc_C}
theorem kC_cut (A : kc_at h x C) (o : kc_ok C) (hm : h.1 + 1 ≤ mm_Cm Γ) (hs : h.2.1 + 6 ≤ mm_Sm Γ) (n : Int32) : mm_Ev Γ l (d + 10) mC_cut [.ref x, .int n] h (kc_D x h (kc_put C 1 n)) := by
  have hf := ks_freeN_le (kc_S C) 1
  show mm_W Γ l mC_cut (d + 10) _ 0 [some (.ref x), some (.int n)] [] h
  refine mm_aload_n dC_cut_0 rfl rfl ?_
  refine mm_v0 dC_cut_1 lC_51 A.1.1 (by decide) (Nat.le_of_ble_eq_true rfl) (kC_sheet A o) ?_
  refine mm_iload_n dC_cut_4 rfl rfl ?_
  refine mm_v1 dC_cut_5 lC_55 (kc_atS A o).1 rfl (by decide) (Nat.le_of_ble_eq_true rfl) (kS_hasArea (kc_atS A o) (kc_okS o) n) ?_
  by_cases n8 : ks_harI (kc_S C) n = true
  · refine mm_s1 dC_cut_8 lC_59 rfl (by decide) (Nat.le_of_ble_eq_true rfl) (kC_needA_t n8) ?_
    refine mm_aload_n dC_cut_11 rfl rfl ?_
    refine mm_iload_n dC_cut_12 rfl rfl ?_
    refine mm_v1 dC_cut_13 lC_63 A.1.1 rfl (by decide) (Nat.le_of_ble_eq_true rfl) (kC_mayInsert A o n) ?_
    by_cases n16 : kc_mayIn C n = true
    · refine mm_s1 dC_cut_16 lC_66 rfl (by decide) (Nat.le_of_ble_eq_true rfl) (kC_needS_t n16) ?_
      refine mm_aload_n dC_cut_19 rfl rfl ?_
      refine mm_v0 dC_cut_20 lC_69 A.1.1 (by decide) (Nat.le_of_ble_eq_true rfl) (kC_mayChange A o) ?_
      refine mm_if_eq_b (tgt := 41) dC_cut_23 (by decide) (fun q23 => ?_) (fun q23 => ?_)
      · refine mm_iconst (v := nI 0) dC_cut_41 (by decide) ?_
        refine mm_s1t dC_cut_42 lC_77 rfl (by decide) (Nat.le_of_ble_eq_true rfl) (kC_needR_f (b := false) rfl hm hs) ?_
        exact mm_leave (fun x hx => by cases hx) (by rw [show kc_put C 1 n = (.inr 2, C) from (if_pos n8).trans ((if_pos n16).trans (if_neg (mm_nb (by simp [q23]))))]; exact kc_thrown A 2)
      · refine mm_aload_n dC_cut_26 rfl rfl ?_
        refine mm_v0 dC_cut_27 lC_51 A.1.1 (by decide) (Nat.le_of_ble_eq_true rfl) (kC_sheet A o) ?_
        refine mm_iconst (v := nI 1) dC_cut_30 (by decide) ?_
        refine mm_v1 dC_cut_31 lC_73 (kc_atS A o).1 rfl (by decide) (Nat.le_of_ble_eq_true rfl) (kS_free (kc_atS A o) (kc_okS o) (by decide)) ?_
        refine mm_if_le_n (tgt := 41) dC_cut_34 (by decide) (by omega) (fun q34 => ?_) (fun q34 => ?_)
        · refine mm_iconst (v := nI 0) dC_cut_41 (by decide) ?_
          refine mm_s1t dC_cut_42 lC_77 rfl (by decide) (Nat.le_of_ble_eq_true rfl) (kC_needR_f (b := false) rfl hm hs) ?_
          exact mm_leave (fun x hx => by cases hx) (by rw [show kc_put C 1 n = (.inr 2, C) from (if_pos n8).trans ((if_pos n16).trans (if_neg (mm_nb (by simp [q23, q34]))))]; exact kc_thrown A 2)
        · refine mm_iconst (v := nI 1) dC_cut_37 (by decide) ?_
          refine mm_goto (tgt := 42) dC_cut_38 (by decide) ?_
          refine mm_s1 dC_cut_42 lC_77 rfl (by decide) (Nat.le_of_ble_eq_true rfl) (kC_needR_t (b := true) rfl) ?_
          refine mm_aload_n dC_cut_45 rfl rfl ?_
          obtain ⟨a, ha, rfl⟩ := ks_harI_true n8
          refine mm_v0 dC_cut_46 lC_80 A.1.1 (by decide) (Nat.le_of_ble_eq_true rfl) (kC_changed A o) ?_
          refine mm_iconst (v := nI 1) dC_cut_49 (by decide) ?_
          refine mm_iload_n dC_cut_50 rfl rfl ?_
          refine mm_v2 dC_cut_51 lC_83 (kc_chg_S A o).1 rfl rfl (by decide) (Nat.le_of_ble_eq_true rfl) (kS_add (kc_chg_S A o) (kc_okS o) (by decide) (x := some a)) ?_
          refine mm_ireturn dC_cut_54 rfl ?_
          rw [show kc_put C 1 (nI a) = _ from (if_pos n8).trans ((if_pos n16).trans (if_pos (by simp [q23]; omega))), kc_n_nI (by omega)]
          exact kc_done A o _ _
    · refine mm_s1t dC_cut_16 lC_66 rfl (by decide) (Nat.le_of_ble_eq_true rfl) (kC_needS_f (mm_bf n16) hm hs) ?_
      exact mm_leave (fun x hx => by cases hx) (by rw [show kc_put C 1 n = (.inr 1, C) from (if_pos n8).trans (if_neg n16)]; exact kc_thrown A 1)
  · refine mm_s1t dC_cut_8 lC_59 rfl (by decide) (Nat.le_of_ble_eq_true rfl) (kC_needA_f (mm_bf n8) hm hs) ?_
    exact mm_leave (fun x hx => by cases hx) (by rw [show kc_put C 1 n = (.inr 0, C) from if_neg n8]; exact kc_thrown A 0)
theorem kC_line (A : kc_at h x C) (o : kc_ok C) (hm : h.1 + 1 ≤ mm_Cm Γ) (hs : h.2.1 + 6 ≤ mm_Sm Γ) (n : Int32) : mm_Ev Γ l (d + 10) mC_line [.ref x, .int n] h (kc_D x h (kc_put C 2 n)) := by
  have hf := ks_freeN_le (kc_S C) 2
  show mm_W Γ l mC_line (d + 10) _ 0 [some (.ref x), some (.int n)] [] h
  refine mm_aload_n dC_line_0 rfl rfl ?_
  refine mm_v0 dC_line_1 lC_51 A.1.1 (by decide) (Nat.le_of_ble_eq_true rfl) (kC_sheet A o) ?_
  refine mm_iload_n dC_line_4 rfl rfl ?_
  refine mm_v1 dC_line_5 lC_55 (kc_atS A o).1 rfl (by decide) (Nat.le_of_ble_eq_true rfl) (kS_hasArea (kc_atS A o) (kc_okS o) n) ?_
  by_cases n8 : ks_harI (kc_S C) n = true
  · refine mm_s1 dC_line_8 lC_59 rfl (by decide) (Nat.le_of_ble_eq_true rfl) (kC_needA_t n8) ?_
    refine mm_aload_n dC_line_11 rfl rfl ?_
    refine mm_iload_n dC_line_12 rfl rfl ?_
    refine mm_v1 dC_line_13 lC_63 A.1.1 rfl (by decide) (Nat.le_of_ble_eq_true rfl) (kC_mayInsert A o n) ?_
    by_cases n16 : kc_mayIn C n = true
    · refine mm_s1 dC_line_16 lC_66 rfl (by decide) (Nat.le_of_ble_eq_true rfl) (kC_needS_t n16) ?_
      refine mm_aload_n dC_line_19 rfl rfl ?_
      refine mm_v0 dC_line_20 lC_69 A.1.1 (by decide) (Nat.le_of_ble_eq_true rfl) (kC_mayChange A o) ?_
      refine mm_if_eq_b (tgt := 41) dC_line_23 (by decide) (fun q23 => ?_) (fun q23 => ?_)
      · refine mm_iconst (v := nI 0) dC_line_41 (by decide) ?_
        refine mm_s1t dC_line_42 lC_77 rfl (by decide) (Nat.le_of_ble_eq_true rfl) (kC_needR_f (b := false) rfl hm hs) ?_
        exact mm_leave (fun x hx => by cases hx) (by rw [show kc_put C 2 n = (.inr 2, C) from (if_pos n8).trans ((if_pos n16).trans (if_neg (mm_nb (by simp [q23]))))]; exact kc_thrown A 2)
      · refine mm_aload_n dC_line_26 rfl rfl ?_
        refine mm_v0 dC_line_27 lC_51 A.1.1 (by decide) (Nat.le_of_ble_eq_true rfl) (kC_sheet A o) ?_
        refine mm_iconst (v := nI 2) dC_line_30 (by decide) ?_
        refine mm_v1 dC_line_31 lC_73 (kc_atS A o).1 rfl (by decide) (Nat.le_of_ble_eq_true rfl) (kS_free (kc_atS A o) (kc_okS o) (by decide)) ?_
        refine mm_if_le_n (tgt := 41) dC_line_34 (by decide) (by omega) (fun q34 => ?_) (fun q34 => ?_)
        · refine mm_iconst (v := nI 0) dC_line_41 (by decide) ?_
          refine mm_s1t dC_line_42 lC_77 rfl (by decide) (Nat.le_of_ble_eq_true rfl) (kC_needR_f (b := false) rfl hm hs) ?_
          exact mm_leave (fun x hx => by cases hx) (by rw [show kc_put C 2 n = (.inr 2, C) from (if_pos n8).trans ((if_pos n16).trans (if_neg (mm_nb (by simp [q23, q34]))))]; exact kc_thrown A 2)
        · refine mm_iconst (v := nI 1) dC_line_37 (by decide) ?_
          refine mm_goto (tgt := 42) dC_line_38 (by decide) ?_
          refine mm_s1 dC_line_42 lC_77 rfl (by decide) (Nat.le_of_ble_eq_true rfl) (kC_needR_t (b := true) rfl) ?_
          refine mm_aload_n dC_line_45 rfl rfl ?_
          obtain ⟨a, ha, rfl⟩ := ks_harI_true n8
          refine mm_v0 dC_line_46 lC_80 A.1.1 (by decide) (Nat.le_of_ble_eq_true rfl) (kC_changed A o) ?_
          refine mm_iconst (v := nI 2) dC_line_49 (by decide) ?_
          refine mm_iload_n dC_line_50 rfl rfl ?_
          refine mm_v2 dC_line_51 lC_83 (kc_chg_S A o).1 rfl rfl (by decide) (Nat.le_of_ble_eq_true rfl) (kS_add (kc_chg_S A o) (kc_okS o) (by decide) (x := some a)) ?_
          refine mm_ireturn dC_line_54 rfl ?_
          rw [show kc_put C 2 (nI a) = _ from (if_pos n8).trans ((if_pos n16).trans (if_pos (by simp [q23]; omega))), kc_n_nI (by omega)]
          exact kc_done A o _ _
    · refine mm_s1t dC_line_16 lC_66 rfl (by decide) (Nat.le_of_ble_eq_true rfl) (kC_needS_f (mm_bf n16) hm hs) ?_
      exact mm_leave (fun x hx => by cases hx) (by rw [show kc_put C 2 n = (.inr 1, C) from (if_pos n8).trans (if_neg n16)]; exact kc_thrown A 1)
  · refine mm_s1t dC_line_8 lC_59 rfl (by decide) (Nat.le_of_ble_eq_true rfl) (kC_needA_f (mm_bf n8) hm hs) ?_
    exact mm_leave (fun x hx => by cases hx) (by rw [show kc_put C 2 n = (.inr 0, C) from if_neg n8]; exact kc_thrown A 0)
theorem kC_start (A : kc_at h x C) (o : kc_ok C) (hm : h.1 + 1 ≤ mm_Cm Γ) (hs : h.2.1 + 6 ≤ mm_Sm Γ) : mm_Ev Γ l (d + 10) mC_start [.ref x] h (kc_D x h (kc_start C)) := by
  show mm_W Γ l mC_start (d + 10) _ 0 [some (.ref x)] [] h
  refine mm_aload_n dC_start_0 rfl rfl ?_
  refine mm_getf dC_start_1 fC_43 A.1.1 rfl ?_
  by_cases n4 : C.2.2.2.2.1 = true
  · refine mm_s1 dC_start_4 lC_66 rfl (by decide) (Nat.le_of_ble_eq_true rfl) (kC_needS_t n4) ?_
    refine mm_aload_n dC_start_7 rfl rfl ?_
    refine mm_iconst (v := nI 0) dC_start_8 (by decide) ?_
    refine mm_putf dC_start_9 fC_43 rfl rfl rfl rfl A.1.1 (Nat.le_of_ble_eq_true rfl) ?_
    refine mm_return dC_start_12 rfl ?_
    rw [show kc_start C = _ from if_pos n4]
    exact ⟨rfl, kc_face A false C.2.2.2.2.2, kc_fface (kc_fr_refl x h) false C.2.2.2.2.2⟩
  · refine mm_s1t dC_start_4 lC_66 rfl (by decide) (Nat.le_of_ble_eq_true rfl) (kC_needS_f (mm_bf n4) hm hs) ?_
    exact mm_leave (fun x hx => by cases hx) (by rw [show kc_start C = (.inr 1, C) from if_neg n4]; exact kc_thrown A 1)
theorem kC_erase (A : kc_at h x C) (o : kc_ok C) (hm : h.1 + 1 ≤ mm_Cm Γ) (hs : h.2.1 + 6 ≤ mm_Sm Γ) (k n : Int32) : mm_Ev Γ l (d + 10) mC_erase [.ref x, .int k, .int n] h (kc_D x h (kc_erase C k n)) := by
  show mm_W Γ l mC_erase (d + 10) _ 0 [some (.ref x), some (.int k), some (.int n), none] [] h
  refine mm_aload_n dC_erase_0 rfl rfl ?_
  refine mm_v0 dC_erase_1 lC_51 A.1.1 (by decide) (Nat.le_of_ble_eq_true rfl) (kC_sheet A o) ?_
  refine mm_astore_n dC_erase_4 rfl (by decide) rfl ?_
  refine mm_aload_n dC_erase_5 rfl rfl ?_
  refine mm_iload_n dC_erase_6 rfl rfl ?_
  refine mm_iload_n dC_erase_7 rfl rfl ?_
  refine mm_v2 dC_erase_8 lC_98 (kc_atS A o).1 rfl rfl (by decide) (Nat.le_of_ble_eq_true rfl) (kS_has (kc_atS A o) (kc_okS o) k n) ?_
  by_cases n11 : ks_hasI (kc_S C) k n = true
  · refine mm_s1 dC_erase_11 lC_59 rfl (by decide) (Nat.le_of_ble_eq_true rfl) (kC_needA_t n11) ?_
    refine mm_aload_n dC_erase_14 rfl rfl ?_
    refine mm_getf dC_erase_15 fC_43 A.1.1 rfl ?_
    refine mm_if_ne_b (tgt := 38) dC_erase_18 (by decide) (fun q18 => ?_) (fun q18 => ?_)
    · refine mm_iconst (v := nI 0) dC_erase_38 (by decide) ?_
      refine mm_s1t dC_erase_39 lC_66 rfl (by decide) (Nat.le_of_ble_eq_true rfl) (kC_needS_f (b := false) rfl hm hs) ?_
      exact mm_leave (fun x hx => by cases hx) (by rw [show kc_erase C k n = (.inr 1, C) from (if_pos n11).trans (if_neg (mm_nb (by simp [q18])))]; exact kc_thrown A 1)
    · refine mm_aload_n dC_erase_21 rfl rfl ?_
      refine mm_aload_n dC_erase_22 rfl rfl ?_
      refine mm_iload_n dC_erase_23 rfl rfl ?_
      refine mm_iload_n dC_erase_24 rfl rfl ?_
      refine mm_v2 dC_erase_25 lC_101 (kc_atS A o).1 rfl rfl (by decide) (Nat.le_of_ble_eq_true rfl) (kS_areaOf (kc_atS A o) (kc_okS o) k n) ?_
      refine mm_v1 dC_erase_28 lC_104 (kc_atS A o).1 rfl (by decide) (Nat.le_of_ble_eq_true rfl) (kS_isOdd (kc_atS A o) (kc_okS o) _) ?_
      refine mm_if_ne_b (tgt := 38) dC_erase_31 (by decide) (fun q31 => ?_) (fun q31 => ?_)
      · refine mm_iconst (v := nI 0) dC_erase_38 (by decide) ?_
        refine mm_s1t dC_erase_39 lC_66 rfl (by decide) (Nat.le_of_ble_eq_true rfl) (kC_needS_f (b := false) rfl hm hs) ?_
        exact mm_leave (fun x hx => by cases hx) (by rw [show kc_erase C k n = (.inr 1, C) from (if_pos n11).trans (if_neg (mm_nb (by simp [q18, q31])))]; exact kc_thrown A 1)
      · refine mm_iconst (v := nI 1) dC_erase_34 (by decide) ?_
        refine mm_goto (tgt := 39) dC_erase_35 (by decide) ?_
        refine mm_s1 dC_erase_39 lC_66 rfl (by decide) (Nat.le_of_ble_eq_true rfl) (kC_needS_t (b := true) rfl) ?_
        refine mm_iload_n dC_erase_42 rfl rfl ?_
        refine mm_iconst (v := nI 2) dC_erase_43 (by decide) ?_
        refine mm_icmp_ne (tgt := 55) dC_erase_44 (by decide) (fun q44 => ?_) (fun q44 => ?_)
        · refine mm_iconst (v := nI 1) dC_erase_55 (by decide) ?_
          refine mm_goto (tgt := 60) dC_erase_56 (by decide) ?_
          refine mm_s1 dC_erase_60 lC_66 rfl (by decide) (Nat.le_of_ble_eq_true rfl) (kC_needS_t (b := true) rfl) ?_
          refine mm_aload_n dC_erase_63 rfl rfl ?_
          refine mm_v0 dC_erase_64 lC_69 A.1.1 (by decide) (Nat.le_of_ble_eq_true rfl) (kC_mayChange A o) ?_
          by_cases n67 : kc_mayCh C = true
          · refine mm_s1 dC_erase_67 lC_77 rfl (by decide) (Nat.le_of_ble_eq_true rfl) (kC_needR_t n67) ?_
            refine mm_aload_n dC_erase_70 rfl rfl ?_
            obtain ⟨k2, i, z, rfl, rfl, hk2, hi, hz⟩ := ks_hasI_true n11
            have hi13 := ks_len_le k2
            refine mm_v0 dC_erase_71 lC_80 A.1.1 (by decide) (Nat.le_of_ble_eq_true rfl) (kC_changed A o) ?_
            refine mm_iload_n dC_erase_74 rfl rfl ?_
            refine mm_iload_n dC_erase_75 rfl rfl ?_
            refine mm_v2 dC_erase_76 lC_110 (kc_chg_S A o).1 rfl rfl (by decide) (Nat.le_of_ble_eq_true rfl) (mm_deep (by omega) (kS_remove (d := 0) (kc_chg_S A o) (kc_okS o) (nI k2) (nI i) (x := some i) (fun _ => ⟨rfl, mm_sm_some (by omega)⟩))) ?_
            refine mm_aload_n dC_erase_79 rfl rfl ?_
            refine mm_getf dC_erase_80 fC_47 (kc_chg_to A o _).1.1 rfl ?_
            refine mm_ireturn dC_erase_83 rfl ?_
            rw [show kc_erase C (nI k2) (nI i) = _ from (if_pos n11).trans ((if_pos (by simp [q18, q31])).trans ((if_pos (by simp [q44])).trans (if_pos n67))), kc_n_nI (by omega)]
            exact kc_done A o _ _
          · refine mm_s1t dC_erase_67 lC_77 rfl (by decide) (Nat.le_of_ble_eq_true rfl) (kC_needR_f (mm_bf n67) hm hs) ?_
            exact mm_leave (fun x hx => by cases hx) (by rw [show kc_erase C k n = (.inr 2, C) from (if_pos n11).trans ((if_pos (by simp [q18, q31])).trans ((if_pos (by simp [q44])).trans (if_neg n67)))]; exact kc_thrown A 2)
        · obtain ⟨k2, i, z, e1, rfl, hk2, hi, hz⟩ := ks_hasI_true n11
          have hi13 := ks_len_le k2
          refine mm_aload_n dC_erase_47 rfl rfl ?_
          refine mm_iload_n dC_erase_48 rfl rfl ?_
          refine mm_v1 dC_erase_49 lC_107 (kc_atS A o).1 rfl (by decide) (Nat.le_of_ble_eq_true rfl) (kS_isHooked (kc_atS A o) (kc_okS o) (ln := i) (by omega)) ?_
          refine mm_if_ne_b (tgt := 59) dC_erase_52 (by decide) (fun q52 => ?_) (fun q52 => ?_)
          · refine mm_iconst (v := nI 0) dC_erase_59 (by decide) ?_
            refine mm_s1t dC_erase_60 lC_66 rfl (by decide) (Nat.le_of_ble_eq_true rfl) (kC_needS_f (b := false) rfl hm hs) ?_
            exact mm_leave (fun x hx => by cases hx) (by rw [show kc_erase C k (nI i) = (.inr 1, C) from (if_pos n11).trans ((if_pos (by simp [q18, q31])).trans (if_neg (mm_nb (by rw [nI_clamp (by omega)]; simp [q44, q52]))))]; exact kc_thrown A 1)
          · refine mm_iconst (v := nI 1) dC_erase_55 (by decide) ?_
            refine mm_goto (tgt := 60) dC_erase_56 (by decide) ?_
            refine mm_s1 dC_erase_60 lC_66 rfl (by decide) (Nat.le_of_ble_eq_true rfl) (kC_needS_t (b := true) rfl) ?_
            refine mm_aload_n dC_erase_63 rfl rfl ?_
            refine mm_v0 dC_erase_64 lC_69 A.1.1 (by decide) (Nat.le_of_ble_eq_true rfl) (kC_mayChange A o) ?_
            by_cases n67 : kc_mayCh C = true
            · refine mm_s1 dC_erase_67 lC_77 rfl (by decide) (Nat.le_of_ble_eq_true rfl) (kC_needR_t n67) ?_
              refine mm_aload_n dC_erase_70 rfl rfl ?_
              subst q44
              refine mm_v0 dC_erase_71 lC_80 A.1.1 (by decide) (Nat.le_of_ble_eq_true rfl) (kC_changed A o) ?_
              refine mm_iload_n dC_erase_74 rfl rfl ?_
              refine mm_iload_n dC_erase_75 rfl rfl ?_
              refine mm_v2 dC_erase_76 lC_110 (kc_chg_S A o).1 rfl rfl (by decide) (Nat.le_of_ble_eq_true rfl) (mm_deep (by omega) (kS_remove (d := 0) (kc_chg_S A o) (kc_okS o) (nI 2) (nI i) (x := some i) (fun _ => ⟨rfl, mm_sm_some (by omega)⟩))) ?_
              refine mm_aload_n dC_erase_79 rfl rfl ?_
              refine mm_getf dC_erase_80 fC_47 (kc_chg_to A o _).1.1 rfl ?_
              refine mm_ireturn dC_erase_83 rfl ?_
              rw [show kc_erase C (nI 2) (nI i) = _ from (if_pos n11).trans ((if_pos (by simp [q18, q31])).trans ((if_pos (by rw [nI_clamp (by omega)]; simp [q52])).trans (if_pos n67))), kc_n_nI (by omega)]
              exact kc_done A o _ _
            · refine mm_s1t dC_erase_67 lC_77 rfl (by decide) (Nat.le_of_ble_eq_true rfl) (kC_needR_f (mm_bf n67) hm hs) ?_
              exact mm_leave (fun x hx => by cases hx) (by rw [show kc_erase C k (nI i) = (.inr 2, C) from (if_pos n11).trans ((if_pos (by simp [q18, q31])).trans ((if_pos (by rw [nI_clamp (by omega)]; simp [q44, q52])).trans (if_neg n67)))]; exact kc_thrown A 2)
  · refine mm_s1t dC_erase_11 lC_59 rfl (by decide) (Nat.le_of_ble_eq_true rfl) (kC_needA_f (mm_bf n11) hm hs) ?_
    exact mm_leave (fun x hx => by cases hx) (by rw [show kc_erase C k n = (.inr 0, C) from if_neg n11]; exact kc_thrown A 0)
end KC2
