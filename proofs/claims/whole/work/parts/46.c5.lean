/-! Contracts of CutSheets: copy. Printed by wip/whole/spec/c5.py -/
theorem kc_id_u (f : Nat → Option Nat) (i : Nat) : ks_u (kc_id f i) i (some i) = kc_id f (i + 1) := by
  funext q
  unfold ks_u kc_id
  by_cases h1 : q = i
  · rw [if_pos h1, if_pos (by omega), h1]
  · rw [if_neg h1]
    by_cases h2 : q < i
    · rw [if_pos h2, if_pos (by omega)]
    · rw [if_neg h2, if_neg (by omega)]
theorem kc_id_0 (f : Nat → Option Nat) : kc_id f 0 = f := funext fun q => if_neg (Nat.not_lt_zero q)
section KC5
variable {Γ : mm_G} {l : Launch} {d : Nat} {h : mm_H} {x : Nat} {C : kc_C}
theorem kc_chg_1 (x : Nat) (h : mm_H) (C : kc_C) : (kc_chgH x h C).1 = h.1 := by
  unfold kc_chgH
  by_cases h1 : C.2.2.2.2.1 = true
  · rw [if_pos h1]
  · rw [if_neg h1]
    by_cases h2 : C.2.2.2.2.2 < 20
    · rw [if_pos h2]; rfl
    · rw [if_neg h2]
theorem kc_chg_2 (x : Nat) (h : mm_H) (C : kc_C) : (kc_chgH x h C).2.1 = h.2.1 := by
  unfold kc_chgH
  by_cases h1 : C.2.2.2.2.1 = true
  · rw [if_pos h1]
  · rw [if_neg h1]
    by_cases h2 : C.2.2.2.2.2 < 20
    · rw [if_pos h2]; rfl
    · rw [if_neg h2]
theorem kc_fr_tr {x : Nat} {h g g' : mm_H} (f : kc_fr x h g) (h1 : g.1 = h.1) (h2 : g.2.1 = h.2.1) (f' : kc_fr x g g') (h3 : g'.1 = g.1) (h4 : g'.2.1 = g.2.1) : kc_fr x h g' :=
  ⟨fun q hq => (f'.1 q hq).trans (f.1 q hq), by rw [h3, h1]; omega, by rw [h4, h2]; omega⟩
theorem kC_copy (A : kc_at h x C) (o : kc_ok C) (hm : h.1 + 1 ≤ mm_Cm Γ) (hs : h.2.1 + 6 ≤ mm_Sm Γ) (k n m : Int32) : mm_Ev Γ l (d + 50) mC_copy [.ref x, .int k, .int n, .int m] h (kc_D x h (kc_copy C k n m)) := by
  have hal := ks_area_lt (kc_okS o) k n
  show mm_W Γ l mC_copy (d + 50) _ 0 [some (.ref x), some (.int k), some (.int n), some (.int m), none, none] [] h
  refine mm_aload_n dC_copy_0 rfl rfl ?_
  refine mm_v0 dC_copy_1 lC_51 A.1.1 (by decide) (Nat.le_of_ble_eq_true rfl) (kC_sheet A o) ?_
  refine mm_astore dC_copy_4 (by decide) rfl ?_
  refine mm_aload dC_copy_6 rfl ?_
  refine mm_iload_n dC_copy_8 rfl rfl ?_
  refine mm_iload_n dC_copy_9 rfl rfl ?_
  refine mm_v2 dC_copy_10 lC_114 (kc_atS A o).1 rfl rfl (by decide) (Nat.le_of_ble_eq_true rfl) (mm_deep (by omega) (kS_hasPart (d := 0) (kc_atS A o) (kc_okS o) k n)) ?_
  refine mm_if_eq_b (tgt := 29) dC_copy_13 (by decide) (fun q13 => ?_) (fun q13 => ?_)
  · refine mm_iconst (v := nI 0) dC_copy_29 (by decide) ?_
    refine mm_s1t dC_copy_30 lC_59 rfl (by decide) (Nat.le_of_ble_eq_true rfl) (kC_needA_f (b := false) rfl hm hs) ?_
    exact mm_leave (fun x hx => by cases hx) (by rw [show kc_copy C k n m = (.inr 0, C) from if_neg (mm_nb (by simp [q13]))]; exact kc_thrown A 0)
  · refine mm_aload dC_copy_16 rfl ?_
    refine mm_iload_n dC_copy_18 rfl rfl ?_
    refine mm_v1 dC_copy_19 lC_55 (kc_atS A o).1 rfl (by decide) (Nat.le_of_ble_eq_true rfl) (mm_deep (by omega) (kS_hasArea (d := 0) (kc_atS A o) (kc_okS o) m)) ?_
    refine mm_if_eq_b (tgt := 29) dC_copy_22 (by decide) (fun q22 => ?_) (fun q22 => ?_)
    · refine mm_iconst (v := nI 0) dC_copy_29 (by decide) ?_
      refine mm_s1t dC_copy_30 lC_59 rfl (by decide) (Nat.le_of_ble_eq_true rfl) (kC_needA_f (b := false) rfl hm hs) ?_
      exact mm_leave (fun x hx => by cases hx) (by rw [show kc_copy C k n m = (.inr 0, C) from if_neg (mm_nb (by simp [q22]))]; exact kc_thrown A 0)
    · refine mm_iconst (v := nI 1) dC_copy_25 (by decide) ?_
      refine mm_goto (tgt := 30) dC_copy_26 (by decide) ?_
      refine mm_s1 dC_copy_30 lC_59 rfl (by decide) (Nat.le_of_ble_eq_true rfl) (kC_needA_t (b := true) rfl) ?_
      have e1 : (ks_partI (kc_S C) k n && ks_harI (kc_S C) m) = true := (by simp [q13, q22])
      obtain ⟨k1, n1, hk1, hn1, rfl, rfl⟩ := ks_partI_true q13
      have hl1 := ks_len_le k1
      obtain ⟨a, ha, rfl⟩ := ks_harI_true q22
      refine mm_aload_n dC_copy_33 rfl rfl ?_
      refine mm_getf dC_copy_34 fC_43 A.1.1 rfl ?_
      refine mm_if_ne_b (tgt := 60) dC_copy_37 (by decide) (fun q37 => ?_) (fun q37 => ?_)
      · refine mm_iconst (v := nI 0) dC_copy_60 (by decide) ?_
        refine mm_s1t dC_copy_61 lC_66 rfl (by decide) (Nat.le_of_ble_eq_true rfl) (kC_needS_f (b := false) rfl hm hs) ?_
        exact mm_leave (fun x hx => by cases hx) (by rw [show kc_copy C (nI k1) (nI n1) (nI a) = (.inr 1, C) from (if_pos e1).trans (if_neg (mm_nb (by simp [q37])))]; exact kc_thrown A 1)
      · refine mm_aload dC_copy_40 rfl ?_
        refine mm_iload_n dC_copy_42 rfl rfl ?_
        refine mm_aload dC_copy_43 rfl ?_
        refine mm_iload_n dC_copy_45 rfl rfl ?_
        refine mm_iload_n dC_copy_46 rfl rfl ?_
        refine mm_v2 dC_copy_47 lC_101 (kc_atS A o).1 rfl rfl (by decide) (Nat.le_of_ble_eq_true rfl) (mm_deep (by omega) (kS_areaOf (d := 0) (kc_atS A o) (kc_okS o) (nI k1) (nI n1))) ?_
        refine mm_v2 dC_copy_50 lC_117 (kc_atS A o).1 rfl rfl (by decide) (Nat.le_of_ble_eq_true rfl) (kS_isWithin (kc_atS A o) (kc_okS o) (x := some a) (mm_lt_some ha) (hal.sm (by decide))) ?_
        refine mm_if_eq_b (tgt := 60) dC_copy_53 (by decide) (fun q53 => ?_) (fun q53 => ?_)
        · refine mm_iconst (v := nI 0) dC_copy_60 (by decide) ?_
          refine mm_s1t dC_copy_61 lC_66 rfl (by decide) (Nat.le_of_ble_eq_true rfl) (kC_needS_f (b := false) rfl hm hs) ?_
          exact mm_leave (fun x hx => by cases hx) (by rw [show kc_copy C (nI k1) (nI n1) (nI a) = (.inr 1, C) from (if_pos e1).trans (if_neg (mm_nb (by rw [kc_n_nI (by omega)]; simp [q53])))]; exact kc_thrown A 1)
        · refine mm_iconst (v := nI 1) dC_copy_56 (by decide) ?_
          refine mm_goto (tgt := 61) dC_copy_57 (by decide) ?_
          refine mm_s1 dC_copy_61 lC_66 rfl (by decide) (Nat.le_of_ble_eq_true rfl) (kC_needS_t (b := true) rfl) ?_
          refine mm_iload_n dC_copy_64 rfl rfl ?_
          refine mm_iconst (v := nI 1) dC_copy_65 (by decide) ?_
          refine mm_icmp_ne (tgt := 79) dC_copy_66 (by decide) (fun q66 => ?_) (fun q66 => ?_)
          · refine mm_iconst (v := nI 1) dC_copy_79 (by decide) ?_
            refine mm_goto (tgt := 84) dC_copy_80 (by decide) ?_
            refine mm_s1 dC_copy_84 lC_66 rfl (by decide) (Nat.le_of_ble_eq_true rfl) (kC_needS_t (b := true) rfl) ?_
            refine mm_aload_n dC_copy_87 rfl rfl ?_
            refine mm_v0 dC_copy_88 lC_69 A.1.1 (by decide) (Nat.le_of_ble_eq_true rfl) (kC_mayChange A o) ?_
            refine mm_if_eq_b (tgt := 108) dC_copy_91 (by decide) (fun q91 => ?_) (fun q91 => ?_)
            · refine mm_iconst (v := nI 0) dC_copy_108 (by decide) ?_
              refine mm_s1t dC_copy_109 lC_77 rfl (by decide) (Nat.le_of_ble_eq_true rfl) (kC_needR_f (b := false) rfl hm hs) ?_
              exact mm_leave (fun x hx => by cases hx) (by rw [show kc_copy C (nI k1) (nI n1) (nI a) = (.inr 2, C) from (if_pos e1).trans ((if_pos (by rw [kc_n_nI (by omega)]; simp [q37, q53])).trans ((if_pos (by simp [q66])).trans (if_neg (mm_nb (by rw [kc_n_nI (by omega)]; simp [q91])))))]; exact kc_thrown A 2)
            · refine mm_aload dC_copy_94 rfl ?_
              refine mm_iload_n dC_copy_96 rfl rfl ?_
              refine mm_iload_n dC_copy_97 rfl rfl ?_
              refine mm_v2 dC_copy_98 lC_120 (kc_atS A o).1 rfl rfl (by decide) (Nat.le_of_ble_eq_true rfl) (mm_deep (by omega) (kS_room (d := 0) (kc_atS A o) (kc_okS o) (nI k1) (nI n1) (x := some n1) (fun _ => ⟨rfl, mm_sm_some (by omega)⟩))) ?_
              refine mm_if_eq_b (tgt := 108) dC_copy_101 (by decide) (fun q101 => ?_) (fun q101 => ?_)
              · refine mm_iconst (v := nI 0) dC_copy_108 (by decide) ?_
                refine mm_s1t dC_copy_109 lC_77 rfl (by decide) (Nat.le_of_ble_eq_true rfl) (kC_needR_f (b := false) rfl hm hs) ?_
                exact mm_leave (fun x hx => by cases hx) (by rw [show kc_copy C (nI k1) (nI n1) (nI a) = (.inr 2, C) from (if_pos e1).trans ((if_pos (by rw [kc_n_nI (by omega)]; simp [q37, q53])).trans ((if_pos (by simp [q66])).trans (if_neg (mm_nb (by rw [kc_n_nI (by omega)]; simp [q91, q101])))))]; exact kc_thrown A 2)
              · refine mm_iconst (v := nI 1) dC_copy_104 (by decide) ?_
                refine mm_goto (tgt := 109) dC_copy_105 (by decide) ?_
                refine mm_s1 dC_copy_109 lC_77 rfl (by decide) (Nat.le_of_ble_eq_true rfl) (kC_needR_t (b := true) rfl) ?_
                have eF : kc_copy C (nI k1) (nI n1) (nI a) = _ := (if_pos e1).trans ((if_pos (by rw [kc_n_nI (by omega)]; simp [q37, q53])).trans ((if_pos (by simp [q66])).trans (if_pos (by rw [kc_n_nI (by omega)]; simp [q91, q101]))))
                rw [eF, kc_n_nI (by omega), nI_clamp (by omega), nI_clamp (by omega)]
                clear eF
                have o1 : kc_ok (C.1, C.2.1, C.2.2.1, kc_id C.2.2.2.1 6, C.2.2.2.2) := o
                have A1 : kc_at (mm_up h (x + 165) (ks_arr 6 (kc_id C.2.2.2.1 6))) x (C.1, C.2.1, C.2.2.1, kc_id C.2.2.2.1 6, C.2.2.2.2) := kc_sf A (kc_id C.2.2.2.1 6)
                have hmv := kc_mv_le o1
                have hb : kc_b x (kc_mv (C.1, C.2.1, C.2.2.1, kc_id C.2.2.2.1 6, C.2.2.2.2)) = x + 2 + 6 * kc_mv (C.1, C.2.1, C.2.2.1, kc_id C.2.2.2.1 6, C.2.2.2.2) := rfl
                have eC := kS_addCopy (Γ := Γ) (l := l) (d := d + 9) (h := kc_chgH x (mm_up h (x + 165) (ks_arr 6 (kc_id C.2.2.2.1 6))) (C.1, C.2.1, C.2.2.1, kc_id C.2.2.2.1 6, C.2.2.2.2)) (b := kc_b x (kc_mv (C.1, C.2.1, C.2.2.1, kc_id C.2.2.2.1 6, C.2.2.2.2))) (sa := x + 165) (T := (kc_S C, kc_id C.2.2.2.1 6)) (kc_chg_S A1 o1).1 (by omega) ⟨kc_okS o, fun i hi => by show mm_lt (if i < 6 then some i else _) 6; rw [if_pos hi]; exact mm_lt_some hi⟩ hk1 hn1 (x := some a) (mm_lt_some ha)
                have eS : ks_set2 (kc_chgH x (mm_up h (x + 165) (ks_arr 6 (kc_id C.2.2.2.1 6))) (C.1, C.2.1, C.2.2.1, kc_id C.2.2.2.1 6, C.2.2.2.2)) (kc_b x (kc_mv (C.1, C.2.1, C.2.2.1, kc_id C.2.2.2.1 6, C.2.2.2.2))) (x + 165) (kc_S C, kc_id C.2.2.2.1 6) = kc_chgH x (mm_up h (x + 165) (ks_arr 6 (kc_id C.2.2.2.1 6))) (C.1, C.2.1, C.2.2.1, kc_id C.2.2.2.1 6, C.2.2.2.2) := k2_same (kc_chg_S A1 o1) (kc_chg_at A1 o1).2.2.2.2
                rw [eS] at eC
                have rest : mm_W Γ l mC_copy (d + 50) (kc_D x h (kc_int (ks_slot (kc_S C) k1), ((kc_new C (kc_copyT C k1 n1 (some a)).1).1, C.2.1, C.2.2.1, (kc_copyT C k1 n1 (some a)).2, C.2.2.2.2.1, kc_mv C))) 137 [some (.ref x), some (.int (nI k1)), some (.int (nI n1)), some (.int (nI a)), some (.ref (kc_b x C.2.2.2.2.2)), none] [] (mm_up h (x + 165) (ks_arr 6 (kc_id C.2.2.2.1 6))) := by
                  refine mm_aload_n dC_copy_137 rfl rfl ?_
                  refine mm_v0 dC_copy_138 lC_80 A1.1.1 (by decide) (Nat.le_of_ble_eq_true rfl) (mm_deep (by omega) (kC_changed (d := 0) A1 o1)) ?_
                  refine mm_iload_n dC_copy_141 rfl rfl ?_
                  refine mm_iload_n dC_copy_142 rfl rfl ?_
                  refine mm_iload_n dC_copy_143 rfl rfl ?_
                  refine mm_aload_n dC_copy_144 rfl rfl ?_
                  refine mm_getf dC_copy_145 fC_39 (kc_chg_at A1 o1).1.1 rfl ?_
                  refine mm_v4 dC_copy_148 lC_123 (kc_chg_S A1 o1).1 rfl rfl rfl rfl (by decide) (Nat.le_of_ble_eq_true rfl) (eC) ?_
                  refine mm_ireturn dC_copy_151 rfl ?_
                  refine ⟨rfl, ?_, ?_⟩
                  · exact kc_sf (kc_chg_to A1 o1 (kc_copyT C k1 n1 (some a)).1) (kc_copyT C k1 n1 (some a)).2
                  · exact kc_fsf (kc_fsheet (kc_fr_tr (kc_fsf (kc_fr_refl x h) _) rfl rfl (kc_chg_fr o1) (kc_chg_1 _ _ _) (kc_chg_2 _ _ _)) (Nat.lt_succ_of_le hmv) _) _
                have loop : ∀ (j i : Nat), i + j = 6 → mm_W Γ l mC_copy (d + 50) (kc_D x h (kc_int (ks_slot (kc_S C) k1), ((kc_new C (kc_copyT C k1 n1 (some a)).1).1, C.2.1, C.2.2.1, (kc_copyT C k1 n1 (some a)).2, C.2.2.2.2.1, kc_mv C))) 115 [some (.ref x), some (.int (nI k1)), some (.int (nI n1)), some (.int (nI a)), some (.ref (kc_b x C.2.2.2.2.2)), some (.int (nI i))] [] (mm_up h (x + 165) (ks_arr 6 (kc_id C.2.2.2.1 i))) := by
                  intro j
                  induction j with
                  | zero =>
                    intro i hi
                    have hi : i = 6 := by omega
                    subst hi
                    refine mm_iload dC_copy_115 rfl ?_
                    refine mm_bipush (v := nI 6) dC_copy_117 (by decide) ?_
                    refine mm_icmp_ge_T (tgt := 137) dC_copy_119 (by decide) (nI_le (by omega) (by omega)) ?_
                    exact mm_sub (fun i v hv => by
                      match i, hv with
                      | 0, hv => exact hv
                      | 1, hv => exact hv
                      | 2, hv => exact hv
                      | 3, hv => exact hv
                      | 4, hv => exact hv
                      | 5, hv => cases hv
                      | n + 6, hv => cases hv) rest
                  | succ j ih =>
                    intro i hi
                    have Ai := kc_sf A (kc_id C.2.2.2.1 i)
                    have hh := ih (i + 1) (by omega)
                    refine mm_iload dC_copy_115 rfl ?_
                    refine mm_bipush (v := nI 6) dC_copy_117 (by decide) ?_
                    refine mm_icmp_ge_F (tgt := 137) dC_copy_119 (by decide) (nI_ge (by omega) (by omega)) ?_
                    refine mm_aload_n dC_copy_122 rfl rfl ?_
                    refine mm_getf dC_copy_123 fC_39 Ai.1.1 rfl ?_
                    refine mm_iload dC_copy_126 rfl ?_
                    refine mm_iload dC_copy_128 rfl ?_
                    refine mm_iastore dC_copy_130 Ai.2.2.2.2 rfl (by omega) (by decide) ?_
                    refine mm_eqh (show mm_up h (x + 165) (ks_arr 6 (kc_id C.2.2.2.1 (i + 1))) = _ by rw [← kc_id_u, mm_up_up]; unfold ks_arr; rw [← ks_u_enc]; rfl) ?_
                    refine mm_iinc dC_copy_131 (by decide) rfl (mm_inc _) rfl ?_
                    refine mm_goto (tgt := 115) dC_copy_134 (by decide) ?_
                    exact hh
                refine mm_iconst (v := nI 0) dC_copy_112 (by decide) ?_
                refine mm_istore dC_copy_113 (by decide) rfl ?_
                have hh := loop 6 0 rfl
                rw [kc_id_0, mm_up_same h A.2.2.2.2] at hh
                exact hh
          · refine mm_aload dC_copy_69 rfl ?_
            refine mm_iload_n dC_copy_71 rfl rfl ?_
            refine mm_iload_n dC_copy_72 rfl rfl ?_
            refine mm_v2 dC_copy_73 lC_117 (kc_atS A o).1 rfl rfl (by decide) (Nat.le_of_ble_eq_true rfl) (kS_isWithin (kc_atS A o) (kc_okS o) (x := some a) (mm_lt_some ha) (y := some n1) (mm_sm_some (by omega))) ?_
            refine mm_if_ne_b (tgt := 83) dC_copy_76 (by decide) (fun q76 => ?_) (fun q76 => ?_)
            · refine mm_iconst (v := nI 0) dC_copy_83 (by decide) ?_
              refine mm_s1t dC_copy_84 lC_66 rfl (by decide) (Nat.le_of_ble_eq_true rfl) (kC_needS_f (b := false) rfl hm hs) ?_
              exact mm_leave (fun x hx => by cases hx) (by rw [show kc_copy C (nI k1) (nI n1) (nI a) = (.inr 1, C) from (if_pos e1).trans ((if_pos (by rw [kc_n_nI (by omega)]; simp [q37, q53])).trans (if_neg (mm_nb (by rw [kc_n_nI (by omega), kc_n_nI (by omega)]; simp [q66, q76]))))]; exact kc_thrown A 1)
            · refine mm_iconst (v := nI 1) dC_copy_79 (by decide) ?_
              refine mm_goto (tgt := 84) dC_copy_80 (by decide) ?_
              refine mm_s1 dC_copy_84 lC_66 rfl (by decide) (Nat.le_of_ble_eq_true rfl) (kC_needS_t (b := true) rfl) ?_
              refine mm_aload_n dC_copy_87 rfl rfl ?_
              refine mm_v0 dC_copy_88 lC_69 A.1.1 (by decide) (Nat.le_of_ble_eq_true rfl) (kC_mayChange A o) ?_
              refine mm_if_eq_b (tgt := 108) dC_copy_91 (by decide) (fun q91 => ?_) (fun q91 => ?_)
              · refine mm_iconst (v := nI 0) dC_copy_108 (by decide) ?_
                refine mm_s1t dC_copy_109 lC_77 rfl (by decide) (Nat.le_of_ble_eq_true rfl) (kC_needR_f (b := false) rfl hm hs) ?_
                exact mm_leave (fun x hx => by cases hx) (by rw [show kc_copy C (nI k1) (nI n1) (nI a) = (.inr 2, C) from (if_pos e1).trans ((if_pos (by rw [kc_n_nI (by omega)]; simp [q37, q53])).trans ((if_pos (by rw [kc_n_nI (by omega), kc_n_nI (by omega)]; simp [q76])).trans (if_neg (mm_nb (by rw [kc_n_nI (by omega)]; simp [q91])))))]; exact kc_thrown A 2)
              · refine mm_aload dC_copy_94 rfl ?_
                refine mm_iload_n dC_copy_96 rfl rfl ?_
                refine mm_iload_n dC_copy_97 rfl rfl ?_
                refine mm_v2 dC_copy_98 lC_120 (kc_atS A o).1 rfl rfl (by decide) (Nat.le_of_ble_eq_true rfl) (mm_deep (by omega) (kS_room (d := 0) (kc_atS A o) (kc_okS o) (nI k1) (nI n1) (x := some n1) (fun _ => ⟨rfl, mm_sm_some (by omega)⟩))) ?_
                refine mm_if_eq_b (tgt := 108) dC_copy_101 (by decide) (fun q101 => ?_) (fun q101 => ?_)
                · refine mm_iconst (v := nI 0) dC_copy_108 (by decide) ?_
                  refine mm_s1t dC_copy_109 lC_77 rfl (by decide) (Nat.le_of_ble_eq_true rfl) (kC_needR_f (b := false) rfl hm hs) ?_
                  exact mm_leave (fun x hx => by cases hx) (by rw [show kc_copy C (nI k1) (nI n1) (nI a) = (.inr 2, C) from (if_pos e1).trans ((if_pos (by rw [kc_n_nI (by omega)]; simp [q37, q53])).trans ((if_pos (by rw [kc_n_nI (by omega), kc_n_nI (by omega)]; simp [q76])).trans (if_neg (mm_nb (by rw [kc_n_nI (by omega)]; simp [q91, q101])))))]; exact kc_thrown A 2)
                · refine mm_iconst (v := nI 1) dC_copy_104 (by decide) ?_
                  refine mm_goto (tgt := 109) dC_copy_105 (by decide) ?_
                  refine mm_s1 dC_copy_109 lC_77 rfl (by decide) (Nat.le_of_ble_eq_true rfl) (kC_needR_t (b := true) rfl) ?_
                  have eF : kc_copy C (nI k1) (nI n1) (nI a) = _ := (if_pos e1).trans ((if_pos (by rw [kc_n_nI (by omega)]; simp [q37, q53])).trans ((if_pos (by rw [kc_n_nI (by omega), kc_n_nI (by omega)]; simp [q76])).trans (if_pos (by rw [kc_n_nI (by omega)]; simp [q91, q101]))))
                  rw [eF, kc_n_nI (by omega), nI_clamp (by omega), nI_clamp (by omega)]
                  clear eF
                  have o1 : kc_ok (C.1, C.2.1, C.2.2.1, kc_id C.2.2.2.1 6, C.2.2.2.2) := o
                  have A1 : kc_at (mm_up h (x + 165) (ks_arr 6 (kc_id C.2.2.2.1 6))) x (C.1, C.2.1, C.2.2.1, kc_id C.2.2.2.1 6, C.2.2.2.2) := kc_sf A (kc_id C.2.2.2.1 6)
                  have hmv := kc_mv_le o1
                  have hb : kc_b x (kc_mv (C.1, C.2.1, C.2.2.1, kc_id C.2.2.2.1 6, C.2.2.2.2)) = x + 2 + 6 * kc_mv (C.1, C.2.1, C.2.2.1, kc_id C.2.2.2.1 6, C.2.2.2.2) := rfl
                  have eC := kS_addCopy (Γ := Γ) (l := l) (d := d + 9) (h := kc_chgH x (mm_up h (x + 165) (ks_arr 6 (kc_id C.2.2.2.1 6))) (C.1, C.2.1, C.2.2.1, kc_id C.2.2.2.1 6, C.2.2.2.2)) (b := kc_b x (kc_mv (C.1, C.2.1, C.2.2.1, kc_id C.2.2.2.1 6, C.2.2.2.2))) (sa := x + 165) (T := (kc_S C, kc_id C.2.2.2.1 6)) (kc_chg_S A1 o1).1 (by omega) ⟨kc_okS o, fun i hi => by show mm_lt (if i < 6 then some i else _) 6; rw [if_pos hi]; exact mm_lt_some hi⟩ hk1 hn1 (x := some a) (mm_lt_some ha)
                  have eS : ks_set2 (kc_chgH x (mm_up h (x + 165) (ks_arr 6 (kc_id C.2.2.2.1 6))) (C.1, C.2.1, C.2.2.1, kc_id C.2.2.2.1 6, C.2.2.2.2)) (kc_b x (kc_mv (C.1, C.2.1, C.2.2.1, kc_id C.2.2.2.1 6, C.2.2.2.2))) (x + 165) (kc_S C, kc_id C.2.2.2.1 6) = kc_chgH x (mm_up h (x + 165) (ks_arr 6 (kc_id C.2.2.2.1 6))) (C.1, C.2.1, C.2.2.1, kc_id C.2.2.2.1 6, C.2.2.2.2) := k2_same (kc_chg_S A1 o1) (kc_chg_at A1 o1).2.2.2.2
                  rw [eS] at eC
                  have rest : mm_W Γ l mC_copy (d + 50) (kc_D x h (kc_int (ks_slot (kc_S C) k1), ((kc_new C (kc_copyT C k1 n1 (some a)).1).1, C.2.1, C.2.2.1, (kc_copyT C k1 n1 (some a)).2, C.2.2.2.2.1, kc_mv C))) 137 [some (.ref x), some (.int (nI k1)), some (.int (nI n1)), some (.int (nI a)), some (.ref (kc_b x C.2.2.2.2.2)), none] [] (mm_up h (x + 165) (ks_arr 6 (kc_id C.2.2.2.1 6))) := by
                    refine mm_aload_n dC_copy_137 rfl rfl ?_
                    refine mm_v0 dC_copy_138 lC_80 A1.1.1 (by decide) (Nat.le_of_ble_eq_true rfl) (mm_deep (by omega) (kC_changed (d := 0) A1 o1)) ?_
                    refine mm_iload_n dC_copy_141 rfl rfl ?_
                    refine mm_iload_n dC_copy_142 rfl rfl ?_
                    refine mm_iload_n dC_copy_143 rfl rfl ?_
                    refine mm_aload_n dC_copy_144 rfl rfl ?_
                    refine mm_getf dC_copy_145 fC_39 (kc_chg_at A1 o1).1.1 rfl ?_
                    refine mm_v4 dC_copy_148 lC_123 (kc_chg_S A1 o1).1 rfl rfl rfl rfl (by decide) (Nat.le_of_ble_eq_true rfl) (eC) ?_
                    refine mm_ireturn dC_copy_151 rfl ?_
                    refine ⟨rfl, ?_, ?_⟩
                    · exact kc_sf (kc_chg_to A1 o1 (kc_copyT C k1 n1 (some a)).1) (kc_copyT C k1 n1 (some a)).2
                    · exact kc_fsf (kc_fsheet (kc_fr_tr (kc_fsf (kc_fr_refl x h) _) rfl rfl (kc_chg_fr o1) (kc_chg_1 _ _ _) (kc_chg_2 _ _ _)) (Nat.lt_succ_of_le hmv) _) _
                  have loop : ∀ (j i : Nat), i + j = 6 → mm_W Γ l mC_copy (d + 50) (kc_D x h (kc_int (ks_slot (kc_S C) k1), ((kc_new C (kc_copyT C k1 n1 (some a)).1).1, C.2.1, C.2.2.1, (kc_copyT C k1 n1 (some a)).2, C.2.2.2.2.1, kc_mv C))) 115 [some (.ref x), some (.int (nI k1)), some (.int (nI n1)), some (.int (nI a)), some (.ref (kc_b x C.2.2.2.2.2)), some (.int (nI i))] [] (mm_up h (x + 165) (ks_arr 6 (kc_id C.2.2.2.1 i))) := by
                    intro j
                    induction j with
                    | zero =>
                      intro i hi
                      have hi : i = 6 := by omega
                      subst hi
                      refine mm_iload dC_copy_115 rfl ?_
                      refine mm_bipush (v := nI 6) dC_copy_117 (by decide) ?_
                      refine mm_icmp_ge_T (tgt := 137) dC_copy_119 (by decide) (nI_le (by omega) (by omega)) ?_
                      exact mm_sub (fun i v hv => by
                        match i, hv with
                        | 0, hv => exact hv
                        | 1, hv => exact hv
                        | 2, hv => exact hv
                        | 3, hv => exact hv
                        | 4, hv => exact hv
                        | 5, hv => cases hv
                        | n + 6, hv => cases hv) rest
                    | succ j ih =>
                      intro i hi
                      have Ai := kc_sf A (kc_id C.2.2.2.1 i)
                      have hh := ih (i + 1) (by omega)
                      refine mm_iload dC_copy_115 rfl ?_
                      refine mm_bipush (v := nI 6) dC_copy_117 (by decide) ?_
                      refine mm_icmp_ge_F (tgt := 137) dC_copy_119 (by decide) (nI_ge (by omega) (by omega)) ?_
                      refine mm_aload_n dC_copy_122 rfl rfl ?_
                      refine mm_getf dC_copy_123 fC_39 Ai.1.1 rfl ?_
                      refine mm_iload dC_copy_126 rfl ?_
                      refine mm_iload dC_copy_128 rfl ?_
                      refine mm_iastore dC_copy_130 Ai.2.2.2.2 rfl (by omega) (by decide) ?_
                      refine mm_eqh (show mm_up h (x + 165) (ks_arr 6 (kc_id C.2.2.2.1 (i + 1))) = _ by rw [← kc_id_u, mm_up_up]; unfold ks_arr; rw [← ks_u_enc]; rfl) ?_
                      refine mm_iinc dC_copy_131 (by decide) rfl (mm_inc _) rfl ?_
                      refine mm_goto (tgt := 115) dC_copy_134 (by decide) ?_
                      exact hh
                  refine mm_iconst (v := nI 0) dC_copy_112 (by decide) ?_
                  refine mm_istore dC_copy_113 (by decide) rfl ?_
                  have hh := loop 6 0 rfl
                  rw [kc_id_0, mm_up_same h A.2.2.2.2] at hh
                  exact hh
end KC5
