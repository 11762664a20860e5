/-! Contracts of the reference. Printed by wip/whole/spec/m2.py -/
section KM2
variable {Γ : mm_G} {l : Launch} {d : Nat} {h : mm_H} {m : Nat} {M : km_M}
theorem kM_amount {i j : Nat} (hj : i + j ≤ 67) (hs : ∀ k, i ≤ k → k < i + j → mm_sm (m_sh M k)) : mm_Ev Γ l d mM_amount [.ref m, .int (nI i), .int (nI (i + j))] (km_set h m M) (mm_is (.inl (some (.int (nI (km_amt (m_sh M) i j))))) (km_set h m M)) := by
  have loop : ∀ (r q e : Nat), i ≤ q → q + r = i + j → mm_W Γ l mM_amount d (mm_is (.inl (some (.int (nI (e + km_amt (m_sh M) q r))))) (km_set h m M)) 5 [some (.ref m), some (.int (nI i)), some (.int (nI (i + j))), some (.int (nI e)), some (.int (nI q))] [] (km_set h m M) := by
    intro r
    induction r with
    | zero =>
      intro q e h1 h2
      refine mm_iload dM_amount_5 rfl ?_
      refine mm_iload_n dM_amount_7 rfl rfl ?_
      refine mm_icmp_ge_T (tgt := 36) dM_amount_8 (by decide) (nI_le (by omega) (by omega)) ?_
      refine mm_iload_n dM_amount_36 rfl rfl ?_
      refine mm_ireturn dM_amount_37 rfl ?_
      exact ⟨rfl, rfl⟩
    | succ r ih =>
      intro q e h1 h2
      refine mm_iload dM_amount_5 rfl ?_
      refine mm_iload_n dM_amount_7 rfl rfl ?_
      refine mm_icmp_ge_F (tgt := 36) dM_amount_8 (by decide) (nI_ge (by omega) (by omega)) ?_
      refine mm_iload_n dM_amount_11 rfl rfl ?_
      refine mm_aload_n dM_amount_12 rfl rfl ?_
      refine mm_getf dM_amount_13 fM_7 (km_0 h m _) rfl ?_
      refine mm_iload dM_amount_16 rfl ?_
      refine mm_iaload dM_amount_18 (km_sh h m _) rfl (by omega) (by decide) ?_
      refine mm_iconst (v := -1) dM_amount_19 (by decide) ?_
      refine mm_icmp_eq_o (tgt := 27) dM_amount_20 (by decide) (hs q h1 (by omega)) (fun q20 => ?_) (fun q20 => ?_)
      · refine mm_iconst (v := nI 0) dM_amount_27 (by decide) ?_
        refine mm_iadd dM_amount_28 ?_
        refine mm_top (v' := .int (nI (e + 0))) (congrArg Value.int (nI_add e 0)) ?_
        refine mm_istore_n dM_amount_29 rfl (by decide) rfl ?_
        refine mm_iinc dM_amount_30 (by decide) rfl (mm_inc _) rfl ?_
        refine mm_goto (tgt := 5) dM_amount_33 (by decide) ?_
        have hh := ih (q + 1) (e + 0) (by omega) (by omega)
        rw [show e + km_amt (m_sh M) q (r + 1) = e + 0 + km_amt (m_sh M) (q + 1) r by rw [show km_amt (m_sh M) q (r + 1) = 0 + km_amt (m_sh M) (q + 1) r from congrArg (· + _) (if_pos q20)]; omega]
        exact hh
      · refine mm_iconst (v := nI 1) dM_amount_23 (by decide) ?_
        refine mm_goto (tgt := 28) dM_amount_24 (by decide) ?_
        refine mm_iadd dM_amount_28 ?_
        refine mm_top (v' := .int (nI (e + 1))) (congrArg Value.int (nI_add e 1)) ?_
        refine mm_istore_n dM_amount_29 rfl (by decide) rfl ?_
        refine mm_iinc dM_amount_30 (by decide) rfl (mm_inc _) rfl ?_
        refine mm_goto (tgt := 5) dM_amount_33 (by decide) ?_
        have hh := ih (q + 1) (e + 1) (by omega) (by omega)
        rw [show e + km_amt (m_sh M) q (r + 1) = e + 1 + km_amt (m_sh M) (q + 1) r by rw [show km_amt (m_sh M) q (r + 1) = 1 + km_amt (m_sh M) (q + 1) r from congrArg (· + _) (if_neg q20)]; omega]
        exact hh
  have hh := loop j i 0 (Nat.le_refl _) rfl
  rw [Nat.zero_add] at hh
  show mm_W Γ l mM_amount d _ 0 [some (.ref m), some (.int (nI i)), some (.int (nI (i + j))), none, none] [] _
  refine mm_iconst (v := nI 0) dM_amount_0 (by decide) ?_
  refine mm_istore_n dM_amount_1 rfl (by decide) rfl ?_
  refine mm_iload_n dM_amount_2 rfl rfl ?_
  refine mm_istore dM_amount_3 (by decide) rfl ?_
  exact hh
theorem kM_keep (hm : m_st M = true → m_mv M < 20) : mm_Ev Γ l d mM_keep [.ref m] (km_set h m M) (mm_is (.inl none) (km_set h m (km_keep M))) := by
  have loop : m_st M = true → ∀ (r i : Nat), i + r = 67 → mm_W Γ l mM_keep d (mm_is (.inl none) (km_set h m (km_keep M))) 9 [some (.ref m), some (.int (nI i))] [] (km_set h m (s_kp M (km_kc (m_kp M) (m_sh M) (67 * m_mv M) i))) := by
    intro hst r
    have h20 := hm hst
    induction r with
    | zero =>
      intro i hi
      have hi : i = 67 := by omega
      subst hi
      refine mm_iload_n dM_keep_9 rfl rfl ?_
      refine mm_bipush (v := nI 67) dM_keep_10 (by decide) ?_
      refine mm_icmp_ge_T (tgt := 41) dM_keep_12 (by decide) (nI_le (by omega) (by omega)) ?_
      refine mm_aload_n dM_keep_41 rfl rfl ?_
      refine mm_dup dM_keep_42 rfl ?_
      refine mm_getf dM_keep_43 fM_68 (km_0 h m _) rfl ?_
      refine mm_iconst (v := nI 1) dM_keep_46 (by decide) ?_
      refine mm_iadd dM_keep_47 ?_
      refine mm_top (v' := .int (nI (m_mv M + 1))) (congrArg Value.int (nI_add _ 1)) ?_
      refine mm_putf dM_keep_48 fM_68 rfl rfl rfl rfl (km_0 h m _) (Nat.le_of_ble_eq_true rfl) ?_
      refine mm_eqh (ku_mv h m _ (m_mv M + 1)).symm ?_
      refine mm_return dM_keep_51 rfl ?_
      exact km_fiv (if_pos hst)
    | succ r ih =>
      intro i hi
      have hh := ih (i + 1) (by omega)
      rw [← km_kc_u] at hh
      refine mm_iload_n dM_keep_9 rfl rfl ?_
      refine mm_bipush (v := nI 67) dM_keep_10 (by decide) ?_
      refine mm_icmp_ge_F (tgt := 41) dM_keep_12 (by decide) (nI_ge (by omega) (by omega)) ?_
      refine mm_aload_n dM_keep_15 rfl rfl ?_
      refine mm_getf dM_keep_16 fM_13 (km_0 h m _) rfl ?_
      refine mm_bipush (v := nI 67) dM_keep_19 (by decide) ?_
      refine mm_aload_n dM_keep_21 rfl rfl ?_
      refine mm_getf dM_keep_22 fM_68 (km_0 h m _) rfl ?_
      refine mm_imul dM_keep_25 ?_
      refine mm_iload_n dM_keep_26 rfl rfl ?_
      refine mm_iadd dM_keep_27 ?_
      refine mm_aload_n dM_keep_28 rfl rfl ?_
      refine mm_getf dM_keep_29 fM_7 (km_0 h m _) rfl ?_
      refine mm_iload_n dM_keep_32 rfl rfl ?_
      refine mm_iaload dM_keep_33 (km_sh h m _) rfl (by omega) (by decide) ?_
      refine mm_iastore dM_keep_34 (km_kp h m _) (by rw [pk_mul, nI_add]) (by show 67 * m_mv M + i < 1407; omega) (by decide) ?_
      refine mm_eqh (kv_kp h m _ _ _).symm ?_
      refine mm_iinc dM_keep_35 (by decide) rfl (mm_inc _) rfl ?_
      refine mm_goto (tgt := 9) dM_keep_38 (by decide) ?_
      exact hh
  show mm_W Γ l mM_keep d _ 0 [some (.ref m), none] [] _
  refine mm_aload_n dM_keep_0 rfl rfl ?_
  refine mm_getf dM_keep_1 fM_64 (km_0 h m _) rfl ?_
  refine mm_if_eq_b (tgt := 51) dM_keep_4 (by decide) (fun q4 => ?_) (fun q4 => ?_)
  · refine mm_return dM_keep_51 rfl ?_
    exact km_fiv (if_neg (by rw [q4]; decide))
  · have hh := loop q4 67 0 rfl
    rw [km_kc_0] at hh
    refine mm_iconst (v := nI 0) dM_keep_7 (by decide) ?_
    refine mm_istore_n dM_keep_8 rfl (by decide) rfl ?_
    exact hh
theorem kM_checked (o : ks_ok (km_S M)) (hm : m_mv M ≤ 20) {a : Nat} (ha : kt_is (km_S M) a) (b : Bool) : mm_Ev Γ l (d + 1) mM_checked [.ref m, .int (nI a), .int (mm_bI b)] (km_set h m M) (mm_is (.inl (some (.int (nI (km_ck (km_S M) (m_st M) (m_mv M) a b))))) (km_set h m M)) := by
  have h12 := km_dp_le (km_S M) a
  show mm_W Γ l mM_checked (d + 1) _ 0 [some (.ref m), some (.int (nI a)), some (.int (mm_bI b))] [] _
  refine mm_aload_n dM_checked_0 rfl rfl ?_
  refine mm_getf dM_checked_1 fM_64 (km_0 h m _) rfl ?_
  refine mm_if_eq_b (tgt := 21) dM_checked_4 (by decide) (fun q4 => ?_) (fun q4 => ?_)
  · refine mm_iload_n dM_checked_21 rfl rfl ?_
    refine mm_if_ne_b (tgt := 41) dM_checked_22 (by decide) (fun q22 => ?_) (fun q22 => ?_)
    · refine mm_iconst (v := nI 3) dM_checked_41 (by decide) ?_
      refine mm_goto (tgt := 46) dM_checked_42 (by decide) ?_
      refine mm_ireturn dM_checked_46 rfl ?_
      exact ⟨by unfold km_ck; rw [if_neg (fun w => by rw [q4] at w; exact absurd w.1 (by decide)), if_pos (Or.inl q22)], rfl⟩
    · refine mm_aload_n dM_checked_25 rfl rfl ?_
      refine mm_getf dM_checked_26 fM_64 (km_0 h m _) rfl ?_
      refine mm_if_eq_b (tgt := 45) dM_checked_29 (by decide) (fun q29 => ?_) (fun q29 => ?_)
      · refine mm_iconst (v := nI 0) dM_checked_45 (by decide) ?_
        refine mm_ireturn dM_checked_46 rfl ?_
        exact ⟨by unfold km_ck; rw [if_neg (fun w => by rw [q4] at w; exact absurd w.1 (by decide)), if_neg (fun w => w.elim (fun w => by rw [q22] at w; cases w) (fun w => by have w := w.1; rw [q29] at w; cases w))], rfl⟩
      · refine mm_aload_n dM_checked_32 rfl rfl ?_
        refine mm_getf dM_checked_33 fM_68 (km_0 h m _) rfl ?_
        refine mm_bipush (v := nI 20) dM_checked_36 (by decide) ?_
        refine mm_icmp_ne_n (tgt := 45) dM_checked_38 (by decide) (by omega) (by decide) (fun q38 => ?_) (fun q38 => ?_)
        · refine mm_iconst (v := nI 0) dM_checked_45 (by decide) ?_
          refine mm_ireturn dM_checked_46 rfl ?_
          exact ⟨by unfold km_ck; rw [if_neg (fun w => by rw [q4] at w; exact absurd w.1 (by decide)), if_neg (fun w => w.elim (fun w => by rw [q22] at w; cases w) (fun w => q38 w.2))], rfl⟩
        · refine mm_iconst (v := nI 3) dM_checked_41 (by decide) ?_
          refine mm_goto (tgt := 46) dM_checked_42 (by decide) ?_
          refine mm_ireturn dM_checked_46 rfl ?_
          exact ⟨by unfold km_ck; rw [if_neg (fun w => by rw [q4] at w; exact absurd w.1 (by decide)), if_pos (Or.inr ⟨q29, q38⟩)], rfl⟩
  · refine mm_aload_n dM_checked_7 rfl rfl ?_
    refine mm_iload_n dM_checked_8 rfl rfl ?_
    refine mm_v1 dM_checked_9 lM_71 (km_0 h m _) rfl (by decide) (Nat.le_of_ble_eq_true rfl) (kM_depthOf o ha) ?_
    refine mm_top (v' := .int (nI (km_dp (km_S M) a))) rfl ?_
    refine mm_iconst (v := nI 2) dM_checked_12 (by decide) ?_
    refine mm_irem dM_checked_13 (by decide) ?_
    refine mm_top (v' := .int (nI (km_dp (km_S M) a % 2))) (congrArg Value.int (pk_rem (by omega) (by decide) (by decide))) ?_
    refine mm_if_ne_n (tgt := 21) dM_checked_14 (by decide) (by omega) (fun q14 => ?_) (fun q14 => ?_)
    · refine mm_iload_n dM_checked_21 rfl rfl ?_
      refine mm_if_ne_b (tgt := 41) dM_checked_22 (by decide) (fun q22 => ?_) (fun q22 => ?_)
      · refine mm_iconst (v := nI 3) dM_checked_41 (by decide) ?_
        refine mm_goto (tgt := 46) dM_checked_42 (by decide) ?_
        refine mm_ireturn dM_checked_46 rfl ?_
        exact ⟨by unfold km_ck; rw [if_neg (fun w => q14 w.2), if_pos (Or.inl q22)], rfl⟩
      · refine mm_aload_n dM_checked_25 rfl rfl ?_
        refine mm_getf dM_checked_26 fM_64 (km_0 h m _) rfl ?_
        refine mm_if_eq_b (tgt := 45) dM_checked_29 (by decide) (fun q29 => ?_) (fun q29 => ?_)
        · refine mm_iconst (v := nI 0) dM_checked_45 (by decide) ?_
          refine mm_ireturn dM_checked_46 rfl ?_
          exact ⟨by unfold km_ck; rw [if_neg (fun w => q14 w.2), if_neg (fun w => w.elim (fun w => by rw [q22] at w; cases w) (fun w => by have w := w.1; rw [q29] at w; cases w))], rfl⟩
        · refine mm_aload_n dM_checked_32 rfl rfl ?_
          refine mm_getf dM_checked_33 fM_68 (km_0 h m _) rfl ?_
          refine mm_bipush (v := nI 20) dM_checked_36 (by decide) ?_
          refine mm_icmp_ne_n (tgt := 45) dM_checked_38 (by decide) (by omega) (by decide) (fun q38 => ?_) (fun q38 => ?_)
          · refine mm_iconst (v := nI 0) dM_checked_45 (by decide) ?_
            refine mm_ireturn dM_checked_46 rfl ?_
            exact ⟨by unfold km_ck; rw [if_neg (fun w => q14 w.2), if_neg (fun w => w.elim (fun w => by rw [q22] at w; cases w) (fun w => q38 w.2))], rfl⟩
          · refine mm_iconst (v := nI 3) dM_checked_41 (by decide) ?_
            refine mm_goto (tgt := 46) dM_checked_42 (by decide) ?_
            refine mm_ireturn dM_checked_46 rfl ?_
            exact ⟨by unfold km_ck; rw [if_neg (fun w => q14 w.2), if_pos (Or.inr ⟨q29, q38⟩)], rfl⟩
    · refine mm_iconst (v := nI 2) dM_checked_17 (by decide) ?_
      refine mm_goto (tgt := 46) dM_checked_18 (by decide) ?_
      refine mm_ireturn dM_checked_46 rfl ?_
      exact ⟨by unfold km_ck; rw [if_pos ⟨q4, q14⟩], rfl⟩
theorem kM_cut (o : kt_ok (km_S M)) (hm : m_mv M ≤ 20) (a : Int32) : mm_Ev Γ l (d + 1 + 1) mM_cut [.ref m, .int a] (km_set h m M) (mm_is (.inl (some (.int (nI (km_put M 1 a).1)))) (km_set h m (km_put M 1 a).2)) := by
  show mm_W Γ l mM_cut (d + 1 + 1) _ 0 [some (.ref m), some (.int a), none] [] _
  refine mm_aload_n dM_cut_0 rfl rfl ?_
  refine mm_aload_n dM_cut_1 rfl rfl ?_
  refine mm_iload_n dM_cut_2 rfl rfl ?_
  refine mm_v1 dM_cut_3 lM_60 (km_0 h m _) rfl (by decide) (Nat.le_of_ble_eq_true rfl) (kM_isArea o.1 a) ?_
  refine mm_if_ne_b (tgt := 13) dM_cut_6 (by decide) (fun q6 => ?_) (fun q6 => ?_)
  · obtain ⟨i, hi, rfl, ht⟩ := km_har o q6
    have cl : (nI i).toNatClampNeg = i := nI_clamp (by omega)
    have gd := ks_slot_gd (km_S M) 1
    have g2 : ks_len 1 = 13 := rfl
    refine mm_aload_n dM_cut_13 rfl rfl ?_
    refine mm_iload_n dM_cut_14 rfl rfl ?_
    refine mm_aload_n dM_cut_15 rfl rfl ?_
    refine mm_v0 dM_cut_16 lM_75 (km_0 h m _) (by decide) (Nat.le_of_ble_eq_true rfl) (kM_freeCut o.1) ?_
    refine mm_bipush (v := nI 13) dM_cut_19 (by decide) ?_
    refine mm_icmp_ne_n (tgt := 28) dM_cut_21 (by decide) (by have : km_new M 1 ≤ 13 := gd; exact Nat.lt_of_le_of_lt this (by decide)) (by decide) (fun q21 => ?_) (fun q21 => ?_)
    · refine mm_iconst (v := nI 0) dM_cut_28 (by decide) ?_
      refine mm_v2 dM_cut_29 lM_79 (km_0 h m _) rfl rfl (by decide) (Nat.le_of_ble_eq_true rfl) (kM_checked o.1 hm ht false) ?_
      have ce : km_ck (km_S M) (m_st M) (m_mv M) i false = km_ckA M 1 (nI i) := by unfold km_ckA km_fu; rw [cl, decide_eq_false (show ¬ (ks_slot (km_S M) 1).getD (ks_len 1) = ks_len 1 from q21)]
      rw [ce]
      refine mm_putf dM_cut_32 fM_56 rfl rfl rfl rfl (km_0 h m _) (Nat.le_of_ble_eq_true rfl) ?_
      refine mm_eqh (ku_th h m _ (km_ckA M 1 (nI i))).symm ?_
      refine mm_aload_n dM_cut_35 rfl rfl ?_
      refine mm_getf dM_cut_36 fM_56 (km_0 h m _) rfl ?_
      refine mm_if_eq_n (tgt := 44) dM_cut_39 (by decide) (by have : km_ckA M 1 (nI i) ≤ 3 := km_ck_le _ _ _ _ _; exact Nat.lt_of_le_of_lt this (by decide)) (fun q39 => ?_) (fun q39 => ?_)
      · have q39 : km_ckA M 1 (nI i) = 0 := q39
        have g3 := ks_gd_lt _ _ q21
        rw [q39]
        refine mm_aload_n dM_cut_44 rfl rfl ?_
        refine mm_v0 dM_cut_45 lM_83 (km_0 h m _) (by decide) (Nat.le_of_ble_eq_true rfl) (kM_keep (km_ckA_mv q39 hm)) ?_
        refine mm_aload_n dM_cut_48 rfl rfl ?_
        refine mm_v0 dM_cut_49 lM_75 (km_0 h m _) (by decide) (Nat.le_of_ble_eq_true rfl) (kM_freeCut (M := km_keep (s_th M 0)) (by rw [km_keep_S]; exact o.1)) ?_
        refine mm_top (v' := .int (nI (km_new M 1))) (by rw [km_keep_S]; rfl) ?_
        refine mm_istore_n dM_cut_52 rfl (by decide) rfl ?_
        refine mm_aload_n dM_cut_53 rfl rfl ?_
        refine mm_getf dM_cut_54 fM_7 (km_0 h m _) rfl ?_
        refine mm_iload_n dM_cut_57 rfl rfl ?_
        refine mm_iload_n dM_cut_58 rfl rfl ?_
        refine mm_iastore dM_cut_59 (km_sh h m _) rfl (Nat.lt_of_lt_of_le g3 (by decide)) (by decide) ?_
        refine mm_eqh (kv_sh h m _ _ (some i)).symm ?_
        refine mm_iload_n dM_cut_60 rfl rfl ?_
        refine mm_ireturn dM_cut_61 rfl ?_
        exact km_fin ((if_pos q6).trans ((if_pos q39).trans (by rw [cl]; simp only [km_off, Nat.zero_add]; rfl)))
      · have q39 : ¬ km_ckA M 1 (nI i) = 0 := q39
        refine mm_iconst (v := nI 0) dM_cut_42 (by decide) ?_
        refine mm_ireturn dM_cut_43 rfl ?_
        exact km_fin ((if_pos q6).trans (if_neg q39))
    · refine mm_iconst (v := nI 1) dM_cut_24 (by decide) ?_
      refine mm_goto (tgt := 29) dM_cut_25 (by decide) ?_
      refine mm_v2 dM_cut_29 lM_79 (km_0 h m _) rfl rfl (by decide) (Nat.le_of_ble_eq_true rfl) (kM_checked o.1 hm ht true) ?_
      have ce : km_ck (km_S M) (m_st M) (m_mv M) i true = km_ckA M 1 (nI i) := by unfold km_ckA km_fu; rw [cl, decide_eq_true (show (ks_slot (km_S M) 1).getD (ks_len 1) = ks_len 1 from q21)]
      rw [ce]
      refine mm_putf dM_cut_32 fM_56 rfl rfl rfl rfl (km_0 h m _) (Nat.le_of_ble_eq_true rfl) ?_
      refine mm_eqh (ku_th h m _ (km_ckA M 1 (nI i))).symm ?_
      refine mm_aload_n dM_cut_35 rfl rfl ?_
      refine mm_getf dM_cut_36 fM_56 (km_0 h m _) rfl ?_
      refine mm_if_eq_n (tgt := 44) dM_cut_39 (by decide) (by have : km_ckA M 1 (nI i) ≤ 3 := km_ck_le _ _ _ _ _; exact Nat.lt_of_le_of_lt this (by decide)) (fun q39 => ?_) (fun q39 => ?_)
      · have q39 : km_ckA M 1 (nI i) = 0 := q39
        exact absurd (ce.trans q39) (km_ck_full _ _ _ _)
        --stop
      · have q39 : ¬ km_ckA M 1 (nI i) = 0 := q39
        refine mm_iconst (v := nI 0) dM_cut_42 (by decide) ?_
        refine mm_ireturn dM_cut_43 rfl ?_
        exact km_fin ((if_pos q6).trans (if_neg q39))
  · refine mm_iconst (v := nI 1) dM_cut_9 (by decide) ?_
    refine mm_goto (tgt := 32) dM_cut_10 (by decide) ?_
    refine mm_putf dM_cut_32 fM_56 rfl rfl rfl rfl (km_0 h m _) (Nat.le_of_ble_eq_true rfl) ?_
    refine mm_eqh (ku_th h m _ 1).symm ?_
    refine mm_aload_n dM_cut_35 rfl rfl ?_
    refine mm_getf dM_cut_36 fM_56 (km_0 h m _) rfl ?_
    refine mm_if_eq_F (tgt := 44) dM_cut_39 (by decide) (show ¬ nI 1 = 0 by decide) ?_
    refine mm_iconst (v := nI 0) dM_cut_42 (by decide) ?_
    refine mm_ireturn dM_cut_43 rfl ?_
    exact km_fin (if_neg (by rw [q6]; decide))
theorem kM_line (o : kt_ok (km_S M)) (hm : m_mv M ≤ 20) (a : Int32) : mm_Ev Γ l (d + 1 + 1) mM_line [.ref m, .int a] (km_set h m M) (mm_is (.inl (some (.int (nI (km_put M 2 a).1)))) (km_set h m (km_put M 2 a).2)) := by
  show mm_W Γ l mM_line (d + 1 + 1) _ 0 [some (.ref m), some (.int a), none] [] _
  refine mm_aload_n dM_line_0 rfl rfl ?_
  refine mm_aload_n dM_line_1 rfl rfl ?_
  refine mm_iload_n dM_line_2 rfl rfl ?_
  refine mm_v1 dM_line_3 lM_60 (km_0 h m _) rfl (by decide) (Nat.le_of_ble_eq_true rfl) (kM_isArea o.1 a) ?_
  refine mm_if_ne_b (tgt := 13) dM_line_6 (by decide) (fun q6 => ?_) (fun q6 => ?_)
  · obtain ⟨i, hi, rfl, ht⟩ := km_har o q6
    have cl : (nI i).toNatClampNeg = i := nI_clamp (by omega)
    have gd := ks_slot_gd (km_S M) 2
    have g2 : ks_len 2 = 6 := rfl
    refine mm_aload_n dM_line_13 rfl rfl ?_
    refine mm_iload_n dM_line_14 rfl rfl ?_
    refine mm_aload_n dM_line_15 rfl rfl ?_
    refine mm_v0 dM_line_16 lM_86 (km_0 h m _) (by decide) (Nat.le_of_ble_eq_true rfl) (kM_freeLine o.1) ?_
    refine mm_bipush (v := nI 6) dM_line_19 (by decide) ?_
    refine mm_icmp_ne_n (tgt := 28) dM_line_21 (by decide) (by have : km_new M 2 ≤ 6 := gd; exact Nat.lt_of_le_of_lt this (by decide)) (by decide) (fun q21 => ?_) (fun q21 => ?_)
    · refine mm_iconst (v := nI 0) dM_line_28 (by decide) ?_
      refine mm_v2 dM_line_29 lM_79 (km_0 h m _) rfl rfl (by decide) (Nat.le_of_ble_eq_true rfl) (kM_checked o.1 hm ht false) ?_
      have ce : km_ck (km_S M) (m_st M) (m_mv M) i false = km_ckA M 2 (nI i) := by unfold km_ckA km_fu; rw [cl, decide_eq_false (show ¬ (ks_slot (km_S M) 2).getD (ks_len 2) = ks_len 2 from q21)]
      rw [ce]
      refine mm_putf dM_line_32 fM_56 rfl rfl rfl rfl (km_0 h m _) (Nat.le_of_ble_eq_true rfl) ?_
      refine mm_eqh (ku_th h m _ (km_ckA M 2 (nI i))).symm ?_
      refine mm_aload_n dM_line_35 rfl rfl ?_
      refine mm_getf dM_line_36 fM_56 (km_0 h m _) rfl ?_
      refine mm_if_eq_n (tgt := 44) dM_line_39 (by decide) (by have : km_ckA M 2 (nI i) ≤ 3 := km_ck_le _ _ _ _ _; exact Nat.lt_of_le_of_lt this (by decide)) (fun q39 => ?_) (fun q39 => ?_)
      · have q39 : km_ckA M 2 (nI i) = 0 := q39
        have g3 := ks_gd_lt _ _ q21
        rw [q39]
        refine mm_aload_n dM_line_44 rfl rfl ?_
        refine mm_v0 dM_line_45 lM_83 (km_0 h m _) (by decide) (Nat.le_of_ble_eq_true rfl) (kM_keep (km_ckA_mv q39 hm)) ?_
        refine mm_aload_n dM_line_48 rfl rfl ?_
        refine mm_v0 dM_line_49 lM_86 (km_0 h m _) (by decide) (Nat.le_of_ble_eq_true rfl) (kM_freeLine (M := km_keep (s_th M 0)) (by rw [km_keep_S]; exact o.1)) ?_
        refine mm_top (v' := .int (nI (km_new M 2))) (by rw [km_keep_S]; rfl) ?_
        refine mm_istore_n dM_line_52 rfl (by decide) rfl ?_
        refine mm_aload_n dM_line_53 rfl rfl ?_
        refine mm_getf dM_line_54 fM_7 (km_0 h m _) rfl ?_
        refine mm_bipush (v := nI 13) dM_line_57 (by decide) ?_
        refine mm_iload_n dM_line_59 rfl rfl ?_
        refine mm_iadd dM_line_60 ?_
        refine mm_iload_n dM_line_61 rfl rfl ?_
        refine mm_iastore dM_line_62 (km_sh h m _) (nI_add 13 _) (by have : km_new M 2 < 6 := g3; omega) (by decide) ?_
        refine mm_eqh (kv_sh h m _ _ (some i)).symm ?_
        refine mm_iload_n dM_line_63 rfl rfl ?_
        refine mm_ireturn dM_line_64 rfl ?_
        exact km_fin ((if_pos q6).trans ((if_pos q39).trans (by rw [cl]; simp only [km_off, Nat.zero_add]; rfl)))
      · have q39 : ¬ km_ckA M 2 (nI i) = 0 := q39
        refine mm_iconst (v := nI 0) dM_line_42 (by decide) ?_
        refine mm_ireturn dM_line_43 rfl ?_
        exact km_fin ((if_pos q6).trans (if_neg q39))
    · refine mm_iconst (v := nI 1) dM_line_24 (by decide) ?_
      refine mm_goto (tgt := 29) dM_line_25 (by decide) ?_
      refine mm_v2 dM_line_29 lM_79 (km_0 h m _) rfl rfl (by decide) (Nat.le_of_ble_eq_true rfl) (kM_checked o.1 hm ht true) ?_
      have ce : km_ck (km_S M) (m_st M) (m_mv M) i true = km_ckA M 2 (nI i) := by unfold km_ckA km_fu; rw [cl, decide_eq_true (show (ks_slot (km_S M) 2).getD (ks_len 2) = ks_len 2 from q21)]
      rw [ce]
      refine mm_putf dM_line_32 fM_56 rfl rfl rfl rfl (km_0 h m _) (Nat.le_of_ble_eq_true rfl) ?_
      refine mm_eqh (ku_th h m _ (km_ckA M 2 (nI i))).symm ?_
      refine mm_aload_n dM_line_35 rfl rfl ?_
      refine mm_getf dM_line_36 fM_56 (km_0 h m _) rfl ?_
      refine mm_if_eq_n (tgt := 44) dM_line_39 (by decide) (by have : km_ckA M 2 (nI i) ≤ 3 := km_ck_le _ _ _ _ _; exact Nat.lt_of_le_of_lt this (by decide)) (fun q39 => ?_) (fun q39 => ?_)
      · have q39 : km_ckA M 2 (nI i) = 0 := q39
        exact absurd (ce.trans q39) (km_ck_full _ _ _ _)
        --stop
      · have q39 : ¬ km_ckA M 2 (nI i) = 0 := q39
        refine mm_iconst (v := nI 0) dM_line_42 (by decide) ?_
        refine mm_ireturn dM_line_43 rfl ?_
        exact km_fin ((if_pos q6).trans (if_neg q39))
  · refine mm_iconst (v := nI 1) dM_line_9 (by decide) ?_
    refine mm_goto (tgt := 32) dM_line_10 (by decide) ?_
    refine mm_putf dM_line_32 fM_56 rfl rfl rfl rfl (km_0 h m _) (Nat.le_of_ble_eq_true rfl) ?_
    refine mm_eqh (ku_th h m _ 1).symm ?_
    refine mm_aload_n dM_line_35 rfl rfl ?_
    refine mm_getf dM_line_36 fM_56 (km_0 h m _) rfl ?_
    refine mm_if_eq_F (tgt := 44) dM_line_39 (by decide) (show ¬ nI 1 = 0 by decide) ?_
    refine mm_iconst (v := nI 0) dM_line_42 (by decide) ?_
    refine mm_ireturn dM_line_43 rfl ?_
    exact km_fin (if_neg (by rw [q6]; decide))
end KM2
