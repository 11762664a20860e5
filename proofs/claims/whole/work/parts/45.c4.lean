/-! Contracts of CutSheets: copy, wrap, unwrap, join, sever. Printed by wip/whole/spec/c4.py -/
theorem ks_has_line {S : ks_S} {f : Int32} (h : ks_hasI S (nI 2) f = true) : ∃ u : Nat, u < 6 ∧ f = nI u := by
  obtain ⟨k, i, a, e1, e2, h1, h2, h3⟩ := ks_hasI_true h
  have hk : 2 = k := (nI_eq (by decide) (by omega)).mp e1
  subst hk
  exact ⟨i, h2, e2⟩
theorem ks_has_cut {S : ks_S} {f : Int32} (h : ks_hasI S (nI 1) f = true) : ∃ u : Nat, u < 13 ∧ f = nI u := by
  obtain ⟨k, i, a, e1, e2, h1, h2, h3⟩ := ks_hasI_true h
  have hk : 1 = k := (nI_eq (by decide) (by omega)).mp e1
  subst hk
  exact ⟨i, h2, e2⟩
theorem ks_partI_true {S : ks_S} {k n : Int32} (h : ks_partI S k n = true) : ∃ k' n' : Nat, k' < 2 ∧ n' < ks_len k' ∧ k = nI k' ∧ n = nI n' := by
  unfold ks_partI at h
  rw [Bool.and_eq_true, decide_eq_true_eq] at h
  obtain ⟨k', i, a, e1, e2, h1, h2, h3⟩ := ks_hasI_true h.2
  refine ⟨k', i, ?_, h2, e1, e2⟩
  have h4 : ¬ k' = 2 := fun e => h.1 (by rw [e1, e])
  omega
section KC4
variable {Γ : mm_G} {l : Launch} {d : Nat} {h : mm_H} {x : Nat} {C : kc_C}
theorem kC_unwrap (A : kc_at h x C) (o : kc_ok C) (hm : h.1 + 1 ≤ mm_Cm Γ) (hs : h.2.1 + 6 ≤ mm_Sm Γ) (n : Int32) : mm_Ev Γ l (d + 10) mC_unwrap [.ref x, .int n] h (kc_D x h (kc_unwrap C n)) := by
  show mm_W Γ l mC_unwrap (d + 10) _ 0 [some (.ref x), some (.int n)] [] h
  refine mm_aload_n dC_unwrap_0 rfl rfl ?_
  refine mm_v0 dC_unwrap_1 lC_51 A.1.1 (by decide) (Nat.le_of_ble_eq_true rfl) (kC_sheet A o) ?_
  refine mm_iconst (v := nI 1) dC_unwrap_4 (by decide) ?_
  refine mm_iload_n dC_unwrap_5 rfl rfl ?_
  refine mm_v2 dC_unwrap_6 lC_98 (kc_atS A o).1 rfl rfl (by decide) (Nat.le_of_ble_eq_true rfl) (kS_has (kc_atS A o) (kc_okS o) (nI 1) n) ?_
  by_cases n9 : ks_hasI (kc_S C) (nI 1) n = true
  · refine mm_s1 dC_unwrap_9 lC_59 rfl (by decide) (Nat.le_of_ble_eq_true rfl) (kC_needA_t n9) ?_
    obtain ⟨c, hc, rfl⟩ := ks_has_cut n9
    refine mm_aload_n dC_unwrap_12 rfl rfl ?_
    refine mm_getf dC_unwrap_13 fC_43 A.1.1 rfl ?_
    refine mm_if_ne_b (tgt := 34) dC_unwrap_16 (by decide) (fun q16 => ?_) (fun q16 => ?_)
    · refine mm_iconst (v := nI 0) dC_unwrap_34 (by decide) ?_
      refine mm_s1t dC_unwrap_35 lC_66 rfl (by decide) (Nat.le_of_ble_eq_true rfl) (kC_needS_f (b := false) rfl hm hs) ?_
      exact mm_leave (fun x hx => by cases hx) (by rw [show kc_unwrap C (nI c) = (.inr 1, C) from (if_pos n9).trans (if_neg (mm_nb (by simp [q16])))]; exact kc_thrown A 1)
    · refine mm_aload_n dC_unwrap_19 rfl rfl ?_
      refine mm_v0 dC_unwrap_20 lC_51 A.1.1 (by decide) (Nat.le_of_ble_eq_true rfl) (kC_sheet A o) ?_
      refine mm_iload_n dC_unwrap_23 rfl rfl ?_
      refine mm_v1 dC_unwrap_24 lC_134 (kc_atS A o).1 rfl (by decide) (Nat.le_of_ble_eq_true rfl) (kS_alone (kc_atS A o) (kc_okS o) hc) ?_
      refine mm_if_eq_b (tgt := 34) dC_unwrap_27 (by decide) (fun q27 => ?_) (fun q27 => ?_)
      · refine mm_iconst (v := nI 0) dC_unwrap_34 (by decide) ?_
        refine mm_s1t dC_unwrap_35 lC_66 rfl (by decide) (Nat.le_of_ble_eq_true rfl) (kC_needS_f (b := false) rfl hm hs) ?_
        exact mm_leave (fun x hx => by cases hx) (by rw [show kc_unwrap C (nI c) = (.inr 1, C) from (if_pos n9).trans (if_neg (mm_nb (by rw [nI_clamp (by omega)]; simp [q16, q27])))]; exact kc_thrown A 1)
      · refine mm_iconst (v := nI 1) dC_unwrap_30 (by decide) ?_
        refine mm_goto (tgt := 35) dC_unwrap_31 (by decide) ?_
        refine mm_s1 dC_unwrap_35 lC_66 rfl (by decide) (Nat.le_of_ble_eq_true rfl) (kC_needS_t (b := true) rfl) ?_
        refine mm_aload_n dC_unwrap_38 rfl rfl ?_
        refine mm_v0 dC_unwrap_39 lC_69 A.1.1 (by decide) (Nat.le_of_ble_eq_true rfl) (kC_mayChange A o) ?_
        by_cases n42 : kc_mayCh C = true
        · refine mm_s1 dC_unwrap_42 lC_77 rfl (by decide) (Nat.le_of_ble_eq_true rfl) (kC_needR_t n42) ?_
          refine mm_aload_n dC_unwrap_45 rfl rfl ?_
          refine mm_v0 dC_unwrap_46 lC_80 A.1.1 (by decide) (Nat.le_of_ble_eq_true rfl) (kC_changed A o) ?_
          refine mm_iload_n dC_unwrap_49 rfl rfl ?_
          refine mm_v1 dC_unwrap_50 lC_137 (kc_chg_S A o).1 rfl (by decide) (Nat.le_of_ble_eq_true rfl) (kS_undouble (kc_chg_S A o) (kc_okS o) hc) ?_
          refine mm_aload_n dC_unwrap_53 rfl rfl ?_
          refine mm_getf dC_unwrap_54 fC_47 (kc_chg_to A o _).1.1 rfl ?_
          refine mm_ireturn dC_unwrap_57 rfl ?_
          rw [show kc_unwrap C (nI c) = _ from (if_pos n9).trans ((if_pos (by rw [nI_clamp (by omega)]; simp [q16, q27])).trans (if_pos n42)), nI_clamp (by omega)]
          exact kc_done A o _ _
        · refine mm_s1t dC_unwrap_42 lC_77 rfl (by decide) (Nat.le_of_ble_eq_true rfl) (kC_needR_f (mm_bf n42) hm hs) ?_
          exact mm_leave (fun x hx => by cases hx) (by rw [show kc_unwrap C (nI c) = (.inr 2, C) from (if_pos n9).trans ((if_pos (by rw [nI_clamp (by omega)]; simp [q16, q27])).trans (if_neg n42))]; exact kc_thrown A 2)
  · refine mm_s1t dC_unwrap_9 lC_59 rfl (by decide) (Nat.le_of_ble_eq_true rfl) (kC_needA_f (mm_bf n9) hm hs) ?_
    exact mm_leave (fun x hx => by cases hx) (by rw [show kc_unwrap C n = (.inr 0, C) from if_neg n9]; exact kc_thrown A 0)
theorem ks_ok_rehook {S : ks_S} (o : ks_ok S) {ln : Nat} {t y : Option Nat} (ht : mm_lt t 6) : ks_ok (ks_rehook S ln t y) := by
  obtain ⟨o1, o2, o3, o4⟩ := o
  refine ⟨o1, o2, fun i n hi e => ?_, o4⟩
  have e : ks_rh S ln t (ks_mask S y) 24 i = some n := e
  unfold ks_rh at e
  by_cases hq : i < 24 ∧ S.2.2.2.2 i = some ln ∧ ks_am (ks_mask S y) (S.1 (i / 2)) = true
  · rw [if_pos hq] at e; exact ht n e
  · rw [if_neg hq] at e; exact o3 i n hi e
theorem kC_join (A : kc_at h x C) (o : kc_ok C) (hm : h.1 + 1 ≤ mm_Cm Γ) (hs : h.2.1 + 6 ≤ mm_Sm Γ) (f s : Int32) : mm_Ev Γ l (d + 10) mC_join [.ref x, .int f, .int s] h (kc_D x h (kc_join C f s)) := by
  have hal := ks_area_lt (kc_okS o) (nI 2) f
  show mm_W Γ l mC_join (d + 10) _ 0 [some (.ref x), some (.int f), some (.int s), none, none, none] [] h
  refine mm_aload_n dC_join_0 rfl rfl ?_
  refine mm_v0 dC_join_1 lC_51 A.1.1 (by decide) (Nat.le_of_ble_eq_true rfl) (kC_sheet A o) ?_
  refine mm_astore_n dC_join_4 rfl (by decide) rfl ?_
  refine mm_aload_n dC_join_5 rfl rfl ?_
  refine mm_iconst (v := nI 2) dC_join_6 (by decide) ?_
  refine mm_iload_n dC_join_7 rfl rfl ?_
  refine mm_v2 dC_join_8 lC_98 (kc_atS A o).1 rfl rfl (by decide) (Nat.le_of_ble_eq_true rfl) (kS_has (kc_atS A o) (kc_okS o) (nI 2) f) ?_
  refine mm_if_eq_b (tgt := 32) dC_join_11 (by decide) (fun q11 => ?_) (fun q11 => ?_)
  · refine mm_iconst (v := nI 0) dC_join_32 (by decide) ?_
    refine mm_s1t dC_join_33 lC_59 rfl (by decide) (Nat.le_of_ble_eq_true rfl) (kC_needA_f (b := false) rfl hm hs) ?_
    exact mm_leave (fun x hx => by cases hx) (by rw [show kc_join C f s = (.inr 0, C) from if_neg (mm_nb (by simp [q11]))]; exact kc_thrown A 0)
  · refine mm_aload_n dC_join_14 rfl rfl ?_
    refine mm_iconst (v := nI 2) dC_join_15 (by decide) ?_
    refine mm_iload_n dC_join_16 rfl rfl ?_
    refine mm_v2 dC_join_17 lC_98 (kc_atS A o).1 rfl rfl (by decide) (Nat.le_of_ble_eq_true rfl) (kS_has (kc_atS A o) (kc_okS o) (nI 2) s) ?_
    refine mm_if_eq_b (tgt := 32) dC_join_20 (by decide) (fun q20 => ?_) (fun q20 => ?_)
    · refine mm_iconst (v := nI 0) dC_join_32 (by decide) ?_
      refine mm_s1t dC_join_33 lC_59 rfl (by decide) (Nat.le_of_ble_eq_true rfl) (kC_needA_f (b := false) rfl hm hs) ?_
      exact mm_leave (fun x hx => by cases hx) (by rw [show kc_join C f s = (.inr 0, C) from if_neg (mm_nb (by simp [q20]))]; exact kc_thrown A 0)
    · refine mm_iload_n dC_join_23 rfl rfl ?_
      refine mm_iload_n dC_join_24 rfl rfl ?_
      refine mm_icmp_eq (tgt := 32) dC_join_25 (by decide) (fun q25 => ?_) (fun q25 => ?_)
      · refine mm_iconst (v := nI 0) dC_join_32 (by decide) ?_
        refine mm_s1t dC_join_33 lC_59 rfl (by decide) (Nat.le_of_ble_eq_true rfl) (kC_needA_f (b := false) rfl hm hs) ?_
        exact mm_leave (fun x hx => by cases hx) (by rw [show kc_join C f s = (.inr 0, C) from if_neg (mm_nb (by simp [q25]))]; exact kc_thrown A 0)
      · refine mm_iconst (v := nI 1) dC_join_28 (by decide) ?_
        refine mm_goto (tgt := 33) dC_join_29 (by decide) ?_
        refine mm_s1 dC_join_33 lC_59 rfl (by decide) (Nat.le_of_ble_eq_true rfl) (kC_needA_t (b := true) rfl) ?_
        have e1 : (ks_hasI (kc_S C) (nI 2) f && (ks_hasI (kc_S C) (nI 2) s && decide (¬ f = s))) = true := (by simp [q11, q20, q25])
        obtain ⟨u, hu, rfl⟩ := ks_has_line q11
        obtain ⟨v, hv, rfl⟩ := ks_has_line q20
        refine mm_aload_n dC_join_36 rfl rfl ?_
        refine mm_iconst (v := nI 2) dC_join_37 (by decide) ?_
        refine mm_iload_n dC_join_38 rfl rfl ?_
        refine mm_v2 dC_join_39 lC_101 (kc_atS A o).1 rfl rfl (by decide) (Nat.le_of_ble_eq_true rfl) (kS_areaOf (kc_atS A o) (kc_okS o) (nI 2) (nI u)) ?_
        refine mm_istore dC_join_42 (by decide) rfl ?_
        refine mm_aload_n dC_join_44 rfl rfl ?_
        refine mm_getf dC_join_45 fC_43 A.1.1 rfl ?_
        refine mm_if_ne_b (tgt := 74) dC_join_48 (by decide) (fun q48 => ?_) (fun q48 => ?_)
        · refine mm_iconst (v := nI 0) dC_join_74 (by decide) ?_
          refine mm_s1t dC_join_75 lC_66 rfl (by decide) (Nat.le_of_ble_eq_true rfl) (kC_needS_f (b := false) rfl hm hs) ?_
          exact mm_leave (fun x hx => by cases hx) (by rw [show kc_join C (nI u) (nI v) = (.inr 1, C) from (if_pos e1).trans (if_neg (mm_nb (by simp [q48])))]; exact kc_thrown A 1)
        · refine mm_aload_n dC_join_51 rfl rfl ?_
          refine mm_iload dC_join_52 rfl ?_
          refine mm_v1 dC_join_54 lC_104 (kc_atS A o).1 rfl (by decide) (Nat.le_of_ble_eq_true rfl) (kS_isOdd (kc_atS A o) (kc_okS o) _) ?_
          refine mm_if_eq_b (tgt := 74) dC_join_57 (by decide) (fun q57 => ?_) (fun q57 => ?_)
          · refine mm_iconst (v := nI 0) dC_join_74 (by decide) ?_
            refine mm_s1t dC_join_75 lC_66 rfl (by decide) (Nat.le_of_ble_eq_true rfl) (kC_needS_f (b := false) rfl hm hs) ?_
            exact mm_leave (fun x hx => by cases hx) (by rw [show kc_join C (nI u) (nI v) = (.inr 1, C) from (if_pos e1).trans (if_neg (mm_nb (by simp [q57])))]; exact kc_thrown A 1)
          · refine mm_aload_n dC_join_60 rfl rfl ?_
            refine mm_iload_n dC_join_61 rfl rfl ?_
            refine mm_iload dC_join_62 rfl ?_
            refine mm_v2 dC_join_64 lC_90 (kc_atS A o).1 rfl rfl (by decide) (Nat.le_of_ble_eq_true rfl) (kS_reaches (kc_atS A o) (kc_okS o) (nI v) hal) ?_
            refine mm_if_eq_b (tgt := 74) dC_join_67 (by decide) (fun q67 => ?_) (fun q67 => ?_)
            · refine mm_iconst (v := nI 0) dC_join_74 (by decide) ?_
              refine mm_s1t dC_join_75 lC_66 rfl (by decide) (Nat.le_of_ble_eq_true rfl) (kC_needS_f (b := false) rfl hm hs) ?_
              exact mm_leave (fun x hx => by cases hx) (by rw [show kc_join C (nI u) (nI v) = (.inr 1, C) from (if_pos e1).trans (if_neg (mm_nb (by simp [q67])))]; exact kc_thrown A 1)
            · refine mm_iconst (v := nI 1) dC_join_70 (by decide) ?_
              refine mm_goto (tgt := 75) dC_join_71 (by decide) ?_
              refine mm_s1 dC_join_75 lC_66 rfl (by decide) (Nat.le_of_ble_eq_true rfl) (kC_needS_t (b := true) rfl) ?_
              refine mm_aload_n dC_join_78 rfl rfl ?_
              refine mm_v0 dC_join_79 lC_69 A.1.1 (by decide) (Nat.le_of_ble_eq_true rfl) (kC_mayChange A o) ?_
              by_cases n82 : kc_mayCh C = true
              · refine mm_s1 dC_join_82 lC_77 rfl (by decide) (Nat.le_of_ble_eq_true rfl) (kC_needR_t n82) ?_
                refine mm_aload_n dC_join_85 rfl rfl ?_
                refine mm_v0 dC_join_86 lC_80 A.1.1 (by decide) (Nat.le_of_ble_eq_true rfl) (kC_changed A o) ?_
                refine mm_astore dC_join_89 (by decide) rfl ?_
                refine mm_aload dC_join_91 rfl ?_
                refine mm_iload_n dC_join_93 rfl rfl ?_
                refine mm_iload_n dC_join_94 rfl rfl ?_
                refine mm_iload dC_join_95 rfl ?_
                refine mm_v3 dC_join_97 lC_141 (kc_chg_S A o).1 rfl rfl rfl (by decide) (Nat.le_of_ble_eq_true rfl) (kS_rehook (kc_chg_S A o) (kc_okS o) (by omega) (t := some v) (hal.sm (by decide))) ?_
                refine mm_aload dC_join_100 rfl ?_
                refine mm_iconst (v := nI 2) dC_join_102 (by decide) ?_
                refine mm_iload_n dC_join_103 rfl rfl ?_
                have A3 := ks_set_at (h := kc_chgH x h C) (b := kc_b x (kc_mv C)) (ks_rehook (kc_S C) u (some v) (ks_areaI (kc_S C) (nI 2) (nI u))) (kc_chg_S A o).1
                refine mm_v2 dC_join_104 lC_110 A3.1 rfl rfl (by decide) (Nat.le_of_ble_eq_true rfl) (mm_deep (by omega) (kS_remove (d := 0) A3 (ks_ok_rehook (kc_okS o) (mm_lt_some hv)) (nI 2) (nI u) (x := none) (fun hh => absurd hh (by decide)))) ?_
                rw [ks_set_set]
                refine mm_aload_n dC_join_107 rfl rfl ?_
                refine mm_getf dC_join_108 fC_47 (kc_chg_to A o _).1.1 rfl ?_
                refine mm_ireturn dC_join_111 rfl ?_
                rw [show kc_join C (nI u) (nI v) = _ from (if_pos e1).trans ((if_pos (by simp [q48, q57, q67])).trans (if_pos n82)), nI_clamp (by omega), kc_n_nI (by omega)]
                exact kc_done A o _ _
              · refine mm_s1t dC_join_82 lC_77 rfl (by decide) (Nat.le_of_ble_eq_true rfl) (kC_needR_f (mm_bf n82) hm hs) ?_
                exact mm_leave (fun x hx => by cases hx) (by rw [show kc_join C (nI u) (nI v) = (.inr 2, C) from (if_pos e1).trans ((if_pos (by simp [q48, q57, q67])).trans (if_neg n82))]; exact kc_thrown A 2)
theorem kC_sever (A : kc_at h x C) (o : kc_ok C) (hm : h.1 + 1 ≤ mm_Cm Γ) (hs : h.2.1 + 6 ≤ mm_Sm Γ) (n m : Int32) : mm_Ev Γ l (d + 10) mC_sever [.ref x, .int n, .int m] h (kc_D x h (kc_sever C n m)) := by
  have hf := ks_freeN_le (kc_S C) 2
  show mm_W Γ l mC_sever (d + 10) _ 0 [some (.ref x), some (.int n), some (.int m), none, none, none] [] h
  refine mm_aload_n dC_sever_0 rfl rfl ?_
  refine mm_v0 dC_sever_1 lC_51 A.1.1 (by decide) (Nat.le_of_ble_eq_true rfl) (kC_sheet A o) ?_
  refine mm_astore_n dC_sever_4 rfl (by decide) rfl ?_
  refine mm_aload_n dC_sever_5 rfl rfl ?_
  refine mm_iconst (v := nI 2) dC_sever_6 (by decide) ?_
  refine mm_iload_n dC_sever_7 rfl rfl ?_
  refine mm_v2 dC_sever_8 lC_98 (kc_atS A o).1 rfl rfl (by decide) (Nat.le_of_ble_eq_true rfl) (kS_has (kc_atS A o) (kc_okS o) (nI 2) n) ?_
  refine mm_if_eq_b (tgt := 26) dC_sever_11 (by decide) (fun q11 => ?_) (fun q11 => ?_)
  · refine mm_iconst (v := nI 0) dC_sever_26 (by decide) ?_
    refine mm_s1t dC_sever_27 lC_59 rfl (by decide) (Nat.le_of_ble_eq_true rfl) (kC_needA_f (b := false) rfl hm hs) ?_
    exact mm_leave (fun x hx => by cases hx) (by rw [show kc_sever C n m = (.inr 0, C) from if_neg (mm_nb (by simp [q11]))]; exact kc_thrown A 0)
  · refine mm_aload_n dC_sever_14 rfl rfl ?_
    refine mm_iload_n dC_sever_15 rfl rfl ?_
    refine mm_v1 dC_sever_16 lC_55 (kc_atS A o).1 rfl (by decide) (Nat.le_of_ble_eq_true rfl) (kS_hasArea (kc_atS A o) (kc_okS o) m) ?_
    refine mm_if_eq_b (tgt := 26) dC_sever_19 (by decide) (fun q19 => ?_) (fun q19 => ?_)
    · refine mm_iconst (v := nI 0) dC_sever_26 (by decide) ?_
      refine mm_s1t dC_sever_27 lC_59 rfl (by decide) (Nat.le_of_ble_eq_true rfl) (kC_needA_f (b := false) rfl hm hs) ?_
      exact mm_leave (fun x hx => by cases hx) (by rw [show kc_sever C n m = (.inr 0, C) from if_neg (mm_nb (by simp [q19]))]; exact kc_thrown A 0)
    · refine mm_iconst (v := nI 1) dC_sever_22 (by decide) ?_
      refine mm_goto (tgt := 27) dC_sever_23 (by decide) ?_
      refine mm_s1 dC_sever_27 lC_59 rfl (by decide) (Nat.le_of_ble_eq_true rfl) (kC_needA_t (b := true) rfl) ?_
      have e1 : (ks_hasI (kc_S C) (nI 2) n && ks_harI (kc_S C) m) = true := (by simp [q11, q19])
      obtain ⟨u, hu, rfl⟩ := ks_has_line q11
      obtain ⟨a, ha, rfl⟩ := ks_harI_true q19
      refine mm_aload_n dC_sever_30 rfl rfl ?_
      refine mm_getf dC_sever_31 fC_43 A.1.1 rfl ?_
      refine mm_if_ne_b (tgt := 58) dC_sever_34 (by decide) (fun q34 => ?_) (fun q34 => ?_)
      · refine mm_iconst (v := nI 0) dC_sever_58 (by decide) ?_
        refine mm_s1t dC_sever_59 lC_66 rfl (by decide) (Nat.le_of_ble_eq_true rfl) (kC_needS_f (b := false) rfl hm hs) ?_
        exact mm_leave (fun x hx => by cases hx) (by rw [show kc_sever C (nI u) (nI a) = (.inr 1, C) from (if_pos e1).trans (if_neg (mm_nb (by simp [q34])))]; exact kc_thrown A 1)
      · refine mm_aload_n dC_sever_37 rfl rfl ?_
        refine mm_iload_n dC_sever_38 rfl rfl ?_
        refine mm_v1 dC_sever_39 lC_104 (kc_atS A o).1 rfl (by decide) (Nat.le_of_ble_eq_true rfl) (kS_isOdd (kc_atS A o) (kc_okS o) _) ?_
        refine mm_if_ne_b (tgt := 58) dC_sever_42 (by decide) (fun q42 => ?_) (fun q42 => ?_)
        · refine mm_iconst (v := nI 0) dC_sever_58 (by decide) ?_
          refine mm_s1t dC_sever_59 lC_66 rfl (by decide) (Nat.le_of_ble_eq_true rfl) (kC_needS_f (b := false) rfl hm hs) ?_
          exact mm_leave (fun x hx => by cases hx) (by rw [show kc_sever C (nI u) (nI a) = (.inr 1, C) from (if_pos e1).trans (if_neg (mm_nb (by simp [q42])))]; exact kc_thrown A 1)
        · refine mm_aload_n dC_sever_45 rfl rfl ?_
          refine mm_iload_n dC_sever_46 rfl rfl ?_
          refine mm_iload_n dC_sever_47 rfl rfl ?_
          refine mm_v2 dC_sever_48 lC_90 (kc_atS A o).1 rfl rfl (by decide) (Nat.le_of_ble_eq_true rfl) (kS_reaches (kc_atS A o) (kc_okS o) (nI u) (x := some a) (mm_lt_some ha)) ?_
          refine mm_if_eq_b (tgt := 58) dC_sever_51 (by decide) (fun q51 => ?_) (fun q51 => ?_)
          · refine mm_iconst (v := nI 0) dC_sever_58 (by decide) ?_
            refine mm_s1t dC_sever_59 lC_66 rfl (by decide) (Nat.le_of_ble_eq_true rfl) (kC_needS_f (b := false) rfl hm hs) ?_
            exact mm_leave (fun x hx => by cases hx) (by rw [show kc_sever C (nI u) (nI a) = (.inr 1, C) from (if_pos e1).trans (if_neg (mm_nb (by rw [kc_n_nI (by omega)]; simp [q51])))]; exact kc_thrown A 1)
          · refine mm_iconst (v := nI 1) dC_sever_54 (by decide) ?_
            refine mm_goto (tgt := 59) dC_sever_55 (by decide) ?_
            refine mm_s1 dC_sever_59 lC_66 rfl (by decide) (Nat.le_of_ble_eq_true rfl) (kC_needS_t (b := true) rfl) ?_
            refine mm_aload_n dC_sever_62 rfl rfl ?_
            refine mm_v0 dC_sever_63 lC_69 A.1.1 (by decide) (Nat.le_of_ble_eq_true rfl) (kC_mayChange A o) ?_
            refine mm_if_eq_b (tgt := 81) dC_sever_66 (by decide) (fun q66 => ?_) (fun q66 => ?_)
            · refine mm_iconst (v := nI 0) dC_sever_81 (by decide) ?_
              refine mm_s1t dC_sever_82 lC_77 rfl (by decide) (Nat.le_of_ble_eq_true rfl) (kC_needR_f (b := false) rfl hm hs) ?_
              exact mm_leave (fun x hx => by cases hx) (by rw [show kc_sever C (nI u) (nI a) = (.inr 2, C) from (if_pos e1).trans ((if_pos (by rw [kc_n_nI (by omega)]; simp [q34, q42, q51])).trans (if_neg (mm_nb (by simp [q66]))))]; exact kc_thrown A 2)
            · refine mm_aload_n dC_sever_69 rfl rfl ?_
              refine mm_iconst (v := nI 2) dC_sever_70 (by decide) ?_
              refine mm_v1 dC_sever_71 lC_73 (kc_atS A o).1 rfl (by decide) (Nat.le_of_ble_eq_true rfl) (kS_free (kc_atS A o) (kc_okS o) (by decide)) ?_
              refine mm_if_le_n (tgt := 81) dC_sever_74 (by decide) (by omega) (fun q74 => ?_) (fun q74 => ?_)
              · refine mm_iconst (v := nI 0) dC_sever_81 (by decide) ?_
                refine mm_s1t dC_sever_82 lC_77 rfl (by decide) (Nat.le_of_ble_eq_true rfl) (kC_needR_f (b := false) rfl hm hs) ?_
                exact mm_leave (fun x hx => by cases hx) (by rw [show kc_sever C (nI u) (nI a) = (.inr 2, C) from (if_pos e1).trans ((if_pos (by rw [kc_n_nI (by omega)]; simp [q34, q42, q51])).trans (if_neg (mm_nb (by simp [q66, q74]))))]; exact kc_thrown A 2)
              · refine mm_iconst (v := nI 1) dC_sever_77 (by decide) ?_
                refine mm_goto (tgt := 82) dC_sever_78 (by decide) ?_
                refine mm_s1 dC_sever_82 lC_77 rfl (by decide) (Nat.le_of_ble_eq_true rfl) (kC_needR_t (b := true) rfl) ?_
                refine mm_aload_n dC_sever_85 rfl rfl ?_
                refine mm_v0 dC_sever_86 lC_80 A.1.1 (by decide) (Nat.le_of_ble_eq_true rfl) (kC_changed A o) ?_
                refine mm_astore dC_sever_89 (by decide) rfl ?_
                refine mm_aload dC_sever_91 rfl ?_
                refine mm_iconst (v := nI 2) dC_sever_93 (by decide) ?_
                refine mm_iload_n dC_sever_94 rfl rfl ?_
                refine mm_v2 dC_sever_95 lC_83 (kc_chg_S A o).1 rfl rfl (by decide) (Nat.le_of_ble_eq_true rfl) (kS_add (kc_chg_S A o) (kc_okS o) (by decide) (x := some a)) ?_
                refine mm_istore dC_sever_98 (by decide) rfl ?_
                refine mm_aload dC_sever_100 rfl ?_
                refine mm_iload_n dC_sever_102 rfl rfl ?_
                refine mm_iload dC_sever_103 rfl ?_
                refine mm_iload_n dC_sever_105 rfl rfl ?_
                have A3 := ks_set_at (h := kc_chgH x h C) (b := kc_b x (kc_mv C)) (ks_add (kc_S C) 2 (some a)) (kc_chg_S A o).1
                refine mm_v3 dC_sever_106 lC_141 A3.1 rfl rfl rfl (by decide) (Nat.le_of_ble_eq_true rfl) (kS_rehook A3 (ks_ok_add (kc_okS o) (by decide) (mm_lt_some ha)) (ln := u) (by omega) (t := ks_slot (kc_S C) 2) (x := some a) (mm_sm_some (by omega))) ?_
                rw [ks_set_set]
                refine mm_iload dC_sever_109 rfl ?_
                refine mm_ireturn dC_sever_111 rfl ?_
                rw [show kc_sever C (nI u) (nI a) = _ from (if_pos e1).trans ((if_pos (by rw [kc_n_nI (by omega)]; simp [q34, q42, q51])).trans (if_pos (by simp [q66]; omega))), nI_clamp (by omega), kc_n_nI (by omega)]
                exact kc_done A o _ _
theorem kC_wrap (A : kc_at h x C) (o : kc_ok C) (hm : h.1 + 1 ≤ mm_Cm Γ) (hs : h.2.1 + 6 ≤ mm_Sm Γ) (k n : Int32) : mm_Ev Γ l (d + 10) mC_wrap [.ref x, .int k, .int n] h (kc_D x h (kc_wrap C k n)) := by
  have hf := ks_freeN_le (kc_S C) 1
  show mm_W Γ l mC_wrap (d + 10) _ 0 [some (.ref x), some (.int k), some (.int n), none, none, none, none] [] h
  by_cases hk : k = nI 2
  · have e0 : kc_wrap C k n = if ks_harI (kc_S C) n = true then if (!C.2.2.2.2.1) = true then if (kc_mayCh C && decide (2 ≤ ks_freeN (kc_S C) 1)) = true then (kc_int (ks_slot (kc_S C) 1), kc_new C (ks_add (ks_add (kc_S C) 1 (kc_n n)) 1 (ks_slot (kc_S C) 1))) else (.inr 2, C) else (.inr 1, C) else (.inr 0, C) := by
      unfold kc_wrap kc_wrapS
      rw [if_pos hk, if_pos hk, if_pos hk]
    rw [e0]
    refine mm_aload_n dC_wrap_0 rfl rfl ?_
    refine mm_v0 dC_wrap_1 lC_51 A.1.1 (by decide) (Nat.le_of_ble_eq_true rfl) (kC_sheet A o) ?_
    refine mm_astore_n dC_wrap_4 rfl (by decide) rfl ?_
    refine mm_iload_n dC_wrap_5 rfl rfl ?_
    refine mm_iconst (v := nI 2) dC_wrap_6 (by decide) ?_
    refine mm_icmp_ne_F (tgt := 18) dC_wrap_7 (by decide) hk ?_
    refine mm_aload_n dC_wrap_10 rfl rfl ?_
    refine mm_iload_n dC_wrap_11 rfl rfl ?_
    refine mm_v1 dC_wrap_12 lC_55 (kc_atS A o).1 rfl (by decide) (Nat.le_of_ble_eq_true rfl) (kS_hasArea (kc_atS A o) (kc_okS o) n) ?_
    refine mm_goto (tgt := 24) dC_wrap_15 (by decide) ?_
    by_cases n24 : ks_harI (kc_S C) n = true
    · refine mm_s1 dC_wrap_24 lC_59 rfl (by decide) (Nat.le_of_ble_eq_true rfl) (kC_needA_t n24) ?_
      refine mm_aload_n dC_wrap_27 rfl rfl ?_
      refine mm_getf dC_wrap_28 fC_43 A.1.1 rfl ?_
      refine mm_if_ne_b (tgt := 38) dC_wrap_31 (by decide) (fun q31 => ?_) (fun q31 => ?_)
      · refine mm_iconst (v := nI 0) dC_wrap_38 (by decide) ?_
        refine mm_s1t dC_wrap_39 lC_66 rfl (by decide) (Nat.le_of_ble_eq_true rfl) (kC_needS_f (b := false) rfl hm hs) ?_
        exact mm_leave (fun x hx => by cases hx) (by rw [if_pos n24, if_neg (by rw [q31]; decide)]; exact kc_thrown A 1)
      · refine mm_iconst (v := nI 1) dC_wrap_34 (by decide) ?_
        refine mm_goto (tgt := 39) dC_wrap_35 (by decide) ?_
        refine mm_s1 dC_wrap_39 lC_66 rfl (by decide) (Nat.le_of_ble_eq_true rfl) (kC_needS_t (b := true) rfl) ?_
        refine mm_aload_n dC_wrap_42 rfl rfl ?_
        refine mm_v0 dC_wrap_43 lC_69 A.1.1 (by decide) (Nat.le_of_ble_eq_true rfl) (kC_mayChange A o) ?_
        refine mm_if_eq_b (tgt := 62) dC_wrap_46 (by decide) (fun q46 => ?_) (fun q46 => ?_)
        · refine mm_iconst (v := nI 0) dC_wrap_62 (by decide) ?_
          refine mm_s1t dC_wrap_63 lC_77 rfl (by decide) (Nat.le_of_ble_eq_true rfl) (kC_needR_f (b := false) rfl hm hs) ?_
          exact mm_leave (fun x hx => by cases hx) (by rw [if_pos n24, if_pos (by rw [q31]; rfl), if_neg (mm_nb (by simp [q46]))]; exact kc_thrown A 2)
        · refine mm_aload_n dC_wrap_49 rfl rfl ?_
          refine mm_iconst (v := nI 1) dC_wrap_50 (by decide) ?_
          refine mm_v1 dC_wrap_51 lC_73 (kc_atS A o).1 rfl (by decide) (Nat.le_of_ble_eq_true rfl) (kS_free (kc_atS A o) (kc_okS o) (by decide)) ?_
          refine mm_iconst (v := nI 2) dC_wrap_54 (by decide) ?_
          refine mm_icmp_lt_n (tgt := 62) dC_wrap_55 (by decide) (by omega) (by decide) (fun q55 => ?_) (fun q55 => ?_)
          · refine mm_iconst (v := nI 0) dC_wrap_62 (by decide) ?_
            refine mm_s1t dC_wrap_63 lC_77 rfl (by decide) (Nat.le_of_ble_eq_true rfl) (kC_needR_f (b := false) rfl hm hs) ?_
            exact mm_leave (fun x hx => by cases hx) (by rw [if_pos n24, if_pos (by rw [q31]; rfl), if_neg (mm_nb (by simp [q46]; omega))]; exact kc_thrown A 2)
          · refine mm_iconst (v := nI 1) dC_wrap_58 (by decide) ?_
            refine mm_goto (tgt := 63) dC_wrap_59 (by decide) ?_
            refine mm_s1 dC_wrap_63 lC_77 rfl (by decide) (Nat.le_of_ble_eq_true rfl) (kC_needR_t (b := true) rfl) ?_
            refine mm_aload_n dC_wrap_66 rfl rfl ?_
            obtain ⟨a, ha, rfl⟩ := ks_harI_true n24
            rw [if_pos n24, if_pos (by rw [q31]; rfl), if_pos (by simp [q46]; omega), kc_n_nI (by omega)]
            refine mm_v0 dC_wrap_67 lC_80 A.1.1 (by decide) (Nat.le_of_ble_eq_true rfl) (kC_changed A o) ?_
            refine mm_astore dC_wrap_70 (by decide) rfl ?_
            refine mm_aload dC_wrap_72 rfl ?_
            refine mm_iconst (v := nI 1) dC_wrap_74 (by decide) ?_
            refine mm_iload_n dC_wrap_75 rfl rfl ?_
            refine mm_iconst (v := nI 2) dC_wrap_76 (by decide) ?_
            refine mm_icmp_ne_F (tgt := 84) dC_wrap_77 (by decide) hk ?_
            refine mm_iload_n dC_wrap_80 rfl rfl ?_
            refine mm_goto (tgt := 91) dC_wrap_81 (by decide) ?_
            refine mm_v2 dC_wrap_91 lC_83 (kc_chg_S A o).1 rfl rfl (by decide) (Nat.le_of_ble_eq_true rfl) (kS_add (kc_chg_S A o) (kc_okS o) (by decide) (x := some a)) ?_
            refine mm_istore dC_wrap_94 (by decide) rfl ?_
            refine mm_aload dC_wrap_96 rfl ?_
            refine mm_iconst (v := nI 1) dC_wrap_98 (by decide) ?_
            refine mm_iload dC_wrap_99 rfl ?_
            have A3 := ks_set_at (h := kc_chgH x h C) (b := kc_b x (kc_mv C)) (ks_add (kc_S C) 1 (some a)) (kc_chg_S A o).1
            refine mm_v2 dC_wrap_101 lC_83 A3.1 rfl rfl (by decide) (Nat.le_of_ble_eq_true rfl) (kS_add A3 (ks_ok_add (kc_okS o) (by decide) (mm_lt_some ha)) (by decide) (x := ks_slot (kc_S C) 1)) ?_
            rw [ks_set_set]
            refine mm_istore dC_wrap_104 (by decide) rfl ?_
            refine mm_iload_n dC_wrap_106 rfl rfl ?_
            refine mm_iconst (v := nI 2) dC_wrap_107 (by decide) ?_
            refine mm_icmp_eq_T (tgt := 120) dC_wrap_108 (by decide) hk ?_
            refine mm_iload dC_wrap_120 rfl ?_
            refine mm_ireturn dC_wrap_122 rfl ?_
            exact kc_done A o _ _
    · refine mm_s1t dC_wrap_24 lC_59 rfl (by decide) (Nat.le_of_ble_eq_true rfl) (kC_needA_f (mm_bf n24) hm hs) ?_
      exact mm_leave (fun x hx => by cases hx) (by rw [if_neg n24]; exact kc_thrown A 0)
  · have e0 : kc_wrap C k n = if ks_partI (kc_S C) k n = true then if (!C.2.2.2.2.1) = true then if (kc_mayCh C && decide (2 ≤ ks_freeN (kc_S C) 1)) = true then (kc_int (ks_slot (kc_S C) 1), kc_new C (ks_putI (ks_add (ks_add (kc_S C) 1 (ks_areaI (kc_S C) k n)) 1 (ks_slot (kc_S C) 1)) k n (ks_slot (ks_add (kc_S C) 1 (ks_areaI (kc_S C) k n)) 1))) else (.inr 2, C) else (.inr 1, C) else (.inr 0, C) := by
      unfold kc_wrap kc_wrapS
      rw [if_neg hk, if_neg hk, if_neg hk]
    rw [e0]
    have hal := ks_area_lt (kc_okS o) k n
    have o1 := ks_ok_add (kc_okS o) (k := 1) (by decide) hal
    have o2 := ks_ok_add o1 (k := 1) (by decide) (x := ks_slot (kc_S C) 1) ks_slot_lt
    refine mm_aload_n dC_wrap_0 rfl rfl ?_
    refine mm_v0 dC_wrap_1 lC_51 A.1.1 (by decide) (Nat.le_of_ble_eq_true rfl) (kC_sheet A o) ?_
    refine mm_astore_n dC_wrap_4 rfl (by decide) rfl ?_
    refine mm_iload_n dC_wrap_5 rfl rfl ?_
    refine mm_iconst (v := nI 2) dC_wrap_6 (by decide) ?_
    refine mm_icmp_ne_T (tgt := 18) dC_wrap_7 (by decide) hk ?_
    refine mm_aload_n dC_wrap_18 rfl rfl ?_
    refine mm_iload_n dC_wrap_19 rfl rfl ?_
    refine mm_iload_n dC_wrap_20 rfl rfl ?_
    refine mm_v2 dC_wrap_21 lC_114 (kc_atS A o).1 rfl rfl (by decide) (Nat.le_of_ble_eq_true rfl) (kS_hasPart (kc_atS A o) (kc_okS o) k n) ?_
    by_cases n24 : ks_partI (kc_S C) k n = true
    · refine mm_s1 dC_wrap_24 lC_59 rfl (by decide) (Nat.le_of_ble_eq_true rfl) (kC_needA_t n24) ?_
      refine mm_aload_n dC_wrap_27 rfl rfl ?_
      refine mm_getf dC_wrap_28 fC_43 A.1.1 rfl ?_
      refine mm_if_ne_b (tgt := 38) dC_wrap_31 (by decide) (fun q31 => ?_) (fun q31 => ?_)
      · refine mm_iconst (v := nI 0) dC_wrap_38 (by decide) ?_
        refine mm_s1t dC_wrap_39 lC_66 rfl (by decide) (Nat.le_of_ble_eq_true rfl) (kC_needS_f (b := false) rfl hm hs) ?_
        exact mm_leave (fun x hx => by cases hx) (by rw [if_pos n24, if_neg (by rw [q31]; decide)]; exact kc_thrown A 1)
      · refine mm_iconst (v := nI 1) dC_wrap_34 (by decide) ?_
        refine mm_goto (tgt := 39) dC_wrap_35 (by decide) ?_
        refine mm_s1 dC_wrap_39 lC_66 rfl (by decide) (Nat.le_of_ble_eq_true rfl) (kC_needS_t (b := true) rfl) ?_
        refine mm_aload_n dC_wrap_42 rfl rfl ?_
        refine mm_v0 dC_wrap_43 lC_69 A.1.1 (by decide) (Nat.le_of_ble_eq_true rfl) (kC_mayChange A o) ?_
        refine mm_if_eq_b (tgt := 62) dC_wrap_46 (by decide) (fun q46 => ?_) (fun q46 => ?_)
        · refine mm_iconst (v := nI 0) dC_wrap_62 (by decide) ?_
          refine mm_s1t dC_wrap_63 lC_77 rfl (by decide) (Nat.le_of_ble_eq_true rfl) (kC_needR_f (b := false) rfl hm hs) ?_
          exact mm_leave (fun x hx => by cases hx) (by rw [if_pos n24, if_pos (by rw [q31]; rfl), if_neg (mm_nb (by simp [q46]))]; exact kc_thrown A 2)
        · refine mm_aload_n dC_wrap_49 rfl rfl ?_
          refine mm_iconst (v := nI 1) dC_wrap_50 (by decide) ?_
          refine mm_v1 dC_wrap_51 lC_73 (kc_atS A o).1 rfl (by decide) (Nat.le_of_ble_eq_true rfl) (kS_free (kc_atS A o) (kc_okS o) (by decide)) ?_
          refine mm_iconst (v := nI 2) dC_wrap_54 (by decide) ?_
          refine mm_icmp_lt_n (tgt := 62) dC_wrap_55 (by decide) (by omega) (by decide) (fun q55 => ?_) (fun q55 => ?_)
          · refine mm_iconst (v := nI 0) dC_wrap_62 (by decide) ?_
            refine mm_s1t dC_wrap_63 lC_77 rfl (by decide) (Nat.le_of_ble_eq_true rfl) (kC_needR_f (b := false) rfl hm hs) ?_
            exact mm_leave (fun x hx => by cases hx) (by rw [if_pos n24, if_pos (by rw [q31]; rfl), if_neg (mm_nb (by simp [q46]; omega))]; exact kc_thrown A 2)
          · refine mm_iconst (v := nI 1) dC_wrap_58 (by decide) ?_
            refine mm_goto (tgt := 63) dC_wrap_59 (by decide) ?_
            refine mm_s1 dC_wrap_63 lC_77 rfl (by decide) (Nat.le_of_ble_eq_true rfl) (kC_needR_t (b := true) rfl) ?_
            refine mm_aload_n dC_wrap_66 rfl rfl ?_
            rw [if_pos n24, if_pos (by rw [q31]; rfl), if_pos (by simp [q46]; omega)]
            refine mm_v0 dC_wrap_67 lC_80 A.1.1 (by decide) (Nat.le_of_ble_eq_true rfl) (kC_changed A o) ?_
            refine mm_astore dC_wrap_70 (by decide) rfl ?_
            refine mm_aload dC_wrap_72 rfl ?_
            refine mm_iconst (v := nI 1) dC_wrap_74 (by decide) ?_
            refine mm_iload_n dC_wrap_75 rfl rfl ?_
            refine mm_iconst (v := nI 2) dC_wrap_76 (by decide) ?_
            refine mm_icmp_ne_T (tgt := 84) dC_wrap_77 (by decide) hk ?_
            refine mm_aload dC_wrap_84 rfl ?_
            refine mm_iload_n dC_wrap_86 rfl rfl ?_
            refine mm_iload_n dC_wrap_87 rfl rfl ?_
            refine mm_v2 dC_wrap_88 lC_101 (kc_chg_S A o).1 rfl rfl (by decide) (Nat.le_of_ble_eq_true rfl) (kS_areaOf (kc_chg_S A o) (kc_okS o) k n) ?_
            refine mm_v2 dC_wrap_91 lC_83 (kc_chg_S A o).1 rfl rfl (by decide) (Nat.le_of_ble_eq_true rfl) (kS_add (kc_chg_S A o) (kc_okS o) (by decide)) ?_
            refine mm_istore dC_wrap_94 (by decide) rfl ?_
            refine mm_aload dC_wrap_96 rfl ?_
            refine mm_iconst (v := nI 1) dC_wrap_98 (by decide) ?_
            refine mm_iload dC_wrap_99 rfl ?_
            have A3 := ks_set_at (h := kc_chgH x h C) (b := kc_b x (kc_mv C)) (ks_add (kc_S C) 1 (ks_areaI (kc_S C) k n)) (kc_chg_S A o).1
            refine mm_v2 dC_wrap_101 lC_83 A3.1 rfl rfl (by decide) (Nat.le_of_ble_eq_true rfl) (kS_add A3 o1 (by decide) (x := ks_slot (kc_S C) 1)) ?_
            rw [ks_set_set]
            have A4 := ks_set_at (h := kc_chgH x h C) (b := kc_b x (kc_mv C)) (ks_add (ks_add (kc_S C) 1 (ks_areaI (kc_S C) k n)) 1 (ks_slot (kc_S C) 1)) (kc_chg_S A o).1
            refine mm_istore dC_wrap_104 (by decide) rfl ?_
            refine mm_iload_n dC_wrap_106 rfl rfl ?_
            refine mm_iconst (v := nI 2) dC_wrap_107 (by decide) ?_
            refine mm_icmp_eq_F (tgt := 120) dC_wrap_108 (by decide) hk ?_
            refine mm_aload dC_wrap_111 rfl ?_
            refine mm_iload_n dC_wrap_113 rfl rfl ?_
            refine mm_iload_n dC_wrap_114 rfl rfl ?_
            refine mm_iload dC_wrap_115 rfl ?_
            refine mm_v3 dC_wrap_117 lC_130 A4.1 rfl rfl rfl (by decide) (Nat.le_of_ble_eq_true rfl) (kS_put A4 o2 k n (x := ks_slot (ks_add (kc_S C) 1 (ks_areaI (kc_S C) k n)) 1)) ?_
            rw [ks_set_set]
            refine mm_iload dC_wrap_120 rfl ?_
            refine mm_ireturn dC_wrap_122 rfl ?_
            exact kc_done A o _ _
    · refine mm_s1t dC_wrap_24 lC_59 rfl (by decide) (Nat.le_of_ble_eq_true rfl) (kC_needA_f (mm_bf n24) hm hs) ?_
      exact mm_leave (fun x hx => by cases hx) (by rw [if_neg n24]; exact kc_thrown A 0)
end KC4
