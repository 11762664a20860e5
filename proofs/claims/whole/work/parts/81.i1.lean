/-! Constructors. Printed by wip/whole/spec/i1.py -/
section KI1
variable {Γ : mm_G} {l : Launch} {d : Nat} {h : mm_H}
theorem kS_init (hm : h.1 + 6 ≤ mm_Cm Γ) (hs : h.2.1 + 72 ≤ mm_Sm Γ) : mm_Ev Γ l d mS_init [.ref h.1] (bl h 5 [.inr (3, mm_dfl 3)]) (mm_is (.inl none) (bl h 72 (kn_SL h.1 kn_S0))) := by
  have l3 : ∀ (j i : Nat), i + j = 6 → mm_W Γ l mS_init d (mm_is (.inl none) (bl h 72 (kn_SL h.1 kn_S0))) 88 [some (.ref h.1), some (.int (nI i))] [] (bl h 72 (kn_SL h.1 (kn_S 12 13 i))) := by
    intro j
    induction j with
    | zero =>
      intro i hi
      have hi : i = 6 := by omega
      subst hi
      refine mm_iload_n dS_init_88 rfl rfl ?_
      refine mm_bipush (v := nI 6) dS_init_89 (by decide) ?_
      refine mm_icmp_ge_T (tgt := 107) dS_init_91 (by decide) (nI_le (by omega) (by omega)) ?_
      refine mm_return dS_init_107 rfl ?_
      rw [kn_S_S0]; exact ⟨rfl, rfl⟩
    | succ j ih =>
      intro i hi
      refine mm_iload_n dS_init_88 rfl rfl ?_
      refine mm_bipush (v := nI 6) dS_init_89 (by decide) ?_
      refine mm_icmp_ge_F (tgt := 107) dS_init_91 (by decide) (nI_ge (by omega) (by omega)) ?_
      refine mm_aload_n dS_init_94 rfl rfl ?_
      refine mm_getf dS_init_95 fS_18 (bl_at0 rfl) rfl ?_
      refine mm_iload_n dS_init_98 rfl rfl ?_
      refine mm_iconst (v := -1) dS_init_99 (by decide) ?_
      refine mm_iastore dS_init_100 (bl_at (i := 3) rfl) rfl (by omega) (by decide) ?_
      refine mm_eqh (kn_set3 h 72 i (kn_S 12 13 i)).symm ?_
      refine mm_iinc dS_init_101 (by decide) rfl (mm_inc _) rfl ?_
      refine mm_goto (tgt := 88) dS_init_104 (by decide) ?_
      have e := kn_w_u 6 i
      refine mm_eqh (show bl h 72 (kn_SL h.1 (kn_S 12 13 (i + 1))) = _ from ?_) (ih (i + 1) (by omega))
      unfold kn_S
      rw [← e]
  have l2 : ∀ (j i : Nat), i + j = 13 → mm_W Γ l mS_init d (mm_is (.inl none) (bl h 72 (kn_SL h.1 kn_S0))) 67 [some (.ref h.1), some (.int (nI i))] [] (bl h 72 (kn_SL h.1 (kn_S 12 i 0))) := by
    intro j
    induction j with
    | zero =>
      intro i hi
      have hi : i = 13 := by omega
      subst hi
      refine mm_iload_n dS_init_67 rfl rfl ?_
      refine mm_bipush (v := nI 13) dS_init_68 (by decide) ?_
      refine mm_icmp_ge_T (tgt := 86) dS_init_70 (by decide) (nI_le (by omega) (by omega)) ?_
      refine mm_iconst (v := nI 0) dS_init_86 (by decide) ?_
      refine mm_istore_n dS_init_87 rfl (by decide) rfl ?_
      exact l3 6 0 rfl
    | succ j ih =>
      intro i hi
      refine mm_iload_n dS_init_67 rfl rfl ?_
      refine mm_bipush (v := nI 13) dS_init_68 (by decide) ?_
      refine mm_icmp_ge_F (tgt := 86) dS_init_70 (by decide) (nI_ge (by omega) (by omega)) ?_
      refine mm_aload_n dS_init_73 rfl rfl ?_
      refine mm_getf dS_init_74 fS_15 (bl_at0 rfl) rfl ?_
      refine mm_iload_n dS_init_77 rfl rfl ?_
      refine mm_iconst (v := -1) dS_init_78 (by decide) ?_
      refine mm_iastore dS_init_79 (bl_at (i := 2) rfl) rfl (by omega) (by decide) ?_
      refine mm_eqh (kn_set2 h 72 i (kn_S 12 i 0)).symm ?_
      refine mm_iinc dS_init_80 (by decide) rfl (mm_inc _) rfl ?_
      refine mm_goto (tgt := 67) dS_init_83 (by decide) ?_
      have e := kn_w_u 13 i
      refine mm_eqh (show bl h 72 (kn_SL h.1 (kn_S 12 (i + 1) 0)) = _ from ?_) (ih (i + 1) (by omega))
      unfold kn_S
      rw [← e]
  have l1 : ∀ (j i : Nat), i + j = 12 → mm_W Γ l mS_init d (mm_is (.inl none) (bl h 72 (kn_SL h.1 kn_S0))) 46 [some (.ref h.1), some (.int (nI i))] [] (bl h 72 (kn_SL h.1 (kn_S i 0 0))) := by
    intro j
    induction j with
    | zero =>
      intro i hi
      have hi : i = 12 := by omega
      subst hi
      refine mm_iload_n dS_init_46 rfl rfl ?_
      refine mm_bipush (v := nI 12) dS_init_47 (by decide) ?_
      refine mm_icmp_ge_T (tgt := 65) dS_init_49 (by decide) (nI_le (by omega) (by omega)) ?_
      refine mm_iconst (v := nI 0) dS_init_65 (by decide) ?_
      refine mm_istore_n dS_init_66 rfl (by decide) rfl ?_
      exact l2 13 0 rfl
    | succ j ih =>
      intro i hi
      refine mm_iload_n dS_init_46 rfl rfl ?_
      refine mm_bipush (v := nI 12) dS_init_47 (by decide) ?_
      refine mm_icmp_ge_F (tgt := 65) dS_init_49 (by decide) (nI_ge (by omega) (by omega)) ?_
      refine mm_aload_n dS_init_52 rfl rfl ?_
      refine mm_getf dS_init_53 fS_9 (bl_at0 rfl) rfl ?_
      refine mm_iload_n dS_init_56 rfl rfl ?_
      refine mm_iconst (v := -1) dS_init_57 (by decide) ?_
      refine mm_iastore dS_init_58 (bl_at (i := 1) rfl) rfl (by omega) (by decide) ?_
      refine mm_eqh (kn_set1 h 72 i (kn_S i 0 0)).symm ?_
      refine mm_iinc dS_init_59 (by decide) rfl (mm_inc _) rfl ?_
      refine mm_goto (tgt := 46) dS_init_62 (by decide) ?_
      have e := kn_w_u 12 i
      refine mm_eqh (show bl h 72 (kn_SL h.1 (kn_S (i + 1) 0 0)) = _ from ?_) (ih (i + 1) (by omega))
      unfold kn_S
      rw [← e]
  show mm_W Γ l mS_init d _ 0 [some (.ref h.1), none] [] _
  refine mm_aload_n dS_init_0 rfl rfl ?_
  refine mm_objInit dS_init_1 lS_3 kw_oi kw_oc (by decide) ?_
  refine mm_aload_n dS_init_4 rfl rfl ?_
  refine mm_bipush (v := nI 12) dS_init_5 (by decide) ?_
  refine mm_newarr dS_init_7 rfl (by decide) kw_ai (kn_ints (N := 12) (f := (fun i => mm_enc (kn_z 12 i))) (kn_z_0 12)) rfl (by decide) (by decide) (by show h.1 + 1 + 1 ≤ _; omega) (by show h.2.1 + 5 + 12 ≤ _; omega) ?_
  refine mm_eqh (bl_add _ _ _ _ _).symm ?_
  refine mm_putF dS_init_9 fS_9 rfl rfl rfl rfl rfl rfl (bl_at0 rfl) (Nat.le_of_ble_eq_true rfl) (kn_nest (by decide +kernel)) ?_
  refine mm_eqh (bl_up0 _ _ _ (Nat.le_of_ble_eq_true rfl) _).symm ?_
  refine mm_aload_n dS_init_12 rfl rfl ?_
  refine mm_bipush (v := nI 13) dS_init_13 (by decide) ?_
  refine mm_newarr dS_init_15 rfl (by decide) kw_ai (kn_ints (N := 13) (f := (fun i => mm_enc (kn_z 13 i))) (kn_z_0 13)) rfl (by decide) (by decide) (by show h.1 + 2 + 1 ≤ _; omega) (by show h.2.1 + 17 + 13 ≤ _; omega) ?_
  refine mm_eqh (bl_add _ _ _ _ _).symm ?_
  refine mm_putF dS_init_17 fS_15 rfl rfl rfl rfl rfl rfl (bl_at0 rfl) (Nat.le_of_ble_eq_true rfl) (kn_nest (by decide +kernel)) ?_
  refine mm_eqh (bl_up0 _ _ _ (Nat.le_of_ble_eq_true rfl) _).symm ?_
  refine mm_aload_n dS_init_20 rfl rfl ?_
  refine mm_bipush (v := nI 6) dS_init_21 (by decide) ?_
  refine mm_newarr dS_init_23 rfl (by decide) kw_ai (kn_ints (N := 6) (f := (fun i => mm_enc (kn_z 6 i))) (kn_z_0 6)) rfl (by decide) (by decide) (by show h.1 + 3 + 1 ≤ _; omega) (by show h.2.1 + 30 + 6 ≤ _; omega) ?_
  refine mm_eqh (bl_add _ _ _ _ _).symm ?_
  refine mm_putF dS_init_25 fS_18 rfl rfl rfl rfl rfl rfl (bl_at0 rfl) (Nat.le_of_ble_eq_true rfl) (kn_nest (by decide +kernel)) ?_
  refine mm_eqh (bl_up0 _ _ _ (Nat.le_of_ble_eq_true rfl) _).symm ?_
  refine mm_aload_n dS_init_28 rfl rfl ?_
  refine mm_bipush (v := nI 12) dS_init_29 (by decide) ?_
  refine mm_newarr dS_init_31 rfl (by decide) kw_ai (kn_ints (N := 12) (f := (fun _ => nI 0)) (fun _ _ => rfl)) rfl (by decide) (by decide) (by show h.1 + 4 + 1 ≤ _; omega) (by show h.2.1 + 36 + 12 ≤ _; omega) ?_
  refine mm_eqh (bl_add _ _ _ _ _).symm ?_
  refine mm_putF dS_init_33 fS_21 rfl rfl rfl rfl rfl rfl (bl_at0 rfl) (Nat.le_of_ble_eq_true rfl) (kn_nest (by decide +kernel)) ?_
  refine mm_eqh (bl_up0 _ _ _ (Nat.le_of_ble_eq_true rfl) _).symm ?_
  refine mm_aload_n dS_init_36 rfl rfl ?_
  refine mm_bipush (v := nI 24) dS_init_37 (by decide) ?_
  refine mm_newarr dS_init_39 rfl (by decide) kw_ai (kn_ints (N := 24) (f := (fun i => mm_enc (kn_z 24 i))) (kn_z_0 24)) rfl (by decide) (by decide) (by show h.1 + 5 + 1 ≤ _; omega) (by show h.2.1 + 48 + 24 ≤ _; omega) ?_
  refine mm_eqh (bl_add _ _ _ _ _).symm ?_
  refine mm_putF dS_init_41 fS_24 rfl rfl rfl rfl rfl rfl (bl_at0 rfl) (Nat.le_of_ble_eq_true rfl) (kn_nest (by decide +kernel)) ?_
  refine mm_eqh (bl_up0 _ _ _ (Nat.le_of_ble_eq_true rfl) _).symm ?_
  refine mm_iconst (v := nI 0) dS_init_44 (by decide) ?_
  refine mm_istore_n dS_init_45 rfl (by decide) rfl ?_
  refine mm_eqh (show bl h 72 (kn_SL h.1 (kn_S 0 0 0)) = _ from ?_) (l1 12 0 rfl)
  unfold kn_S
  rw [kn_w_0, kn_w_0, kn_w_0]
  rfl
theorem kR_init (hm : h.1 + 3 ≤ mm_Cm Γ) (hs : h.2.1 + 77 ≤ mm_Sm Γ) : mm_Ev Γ l d mR_init [.ref h.1] (bl h 5 [.inr (2, mm_dfl 2)]) (mm_is (.inl none) (bl h 77 (kn_RL h.1))) := by
  show mm_W Γ l mR_init d _ 0 [some (.ref h.1)] [] _
  refine mm_aload_n dR_init_0 rfl rfl ?_
  refine mm_objInit dR_init_1 lR_3 kw_oi kw_oc (by decide) ?_
  refine mm_aload_n dR_init_4 rfl rfl ?_
  refine mm_bipush (v := nI 66) dR_init_5 (by decide) ?_
  refine mm_newarr dR_init_7 rfl (by decide) kw_ai (kn_ints (N := 66) (f := (fun _ => nI 0)) (fun _ _ => rfl)) rfl (by decide) (by decide) (by show h.1 + 1 + 1 ≤ _; omega) (by show h.2.1 + 5 + 66 ≤ _; omega) ?_
  refine mm_eqh (bl_add _ _ _ _ _).symm ?_
  refine mm_putF dR_init_9 fR_9 rfl rfl rfl rfl rfl rfl (bl_at0 rfl) (Nat.le_of_ble_eq_true rfl) (kn_nest (by decide +kernel)) ?_
  refine mm_eqh (bl_up0 _ _ _ (Nat.le_of_ble_eq_true rfl) _).symm ?_
  refine mm_aload_n dR_init_12 rfl rfl ?_
  refine mm_iconst (v := nI 0) dR_init_13 (by decide) ?_
  refine mm_putf dR_init_14 fR_15 rfl rfl rfl rfl (bl_at0 rfl) (Nat.le_of_ble_eq_true rfl) ?_
  refine mm_eqh (bl_up0 _ _ _ (Nat.le_of_ble_eq_true rfl) _).symm ?_
  refine mm_aload_n dR_init_17 rfl rfl ?_
  refine mm_iconst (v := nI 0) dR_init_18 (by decide) ?_
  refine mm_putf dR_init_19 fR_19 rfl rfl rfl rfl (bl_at0 rfl) (Nat.le_of_ble_eq_true rfl) ?_
  refine mm_eqh (bl_up0 _ _ _ (Nat.le_of_ble_eq_true rfl) _).symm ?_
  refine mm_aload_n dR_init_22 rfl rfl ?_
  refine mm_bipush (v := nI 6) dR_init_23 (by decide) ?_
  refine mm_newarr dR_init_25 rfl (by decide) kw_ai (kn_ints (N := 6) (f := (fun i => mm_enc (kn_z 6 i))) (kn_z_0 6)) rfl (by decide) (by decide) (by show h.1 + 2 + 1 ≤ _; omega) (by show h.2.1 + 71 + 6 ≤ _; omega) ?_
  refine mm_eqh (bl_add _ _ _ _ _).symm ?_
  refine mm_putF dR_init_27 fR_22 rfl rfl rfl rfl rfl rfl (bl_at0 rfl) (Nat.le_of_ble_eq_true rfl) (kn_nest (by decide +kernel)) ?_
  refine mm_eqh (bl_up0 _ _ _ (Nat.le_of_ble_eq_true rfl) _).symm ?_
  refine mm_aload_n dR_init_30 rfl rfl ?_
  refine mm_iconst (v := nI 0) dR_init_31 (by decide) ?_
  refine mm_putf dR_init_32 fR_25 rfl rfl rfl rfl (bl_at0 rfl) (Nat.le_of_ble_eq_true rfl) ?_
  refine mm_eqh (bl_up0 _ _ _ (Nat.le_of_ble_eq_true rfl) _).symm ?_
  refine mm_return dR_init_35 rfl ?_
  exact ⟨rfl, rfl⟩
theorem kG_init {n : Nat} (hn : n < 1000) (hm : h.1 + 3 ≤ mm_Cm Γ) (hs : h.2.1 + (2 + 14 + n) ≤ mm_Sm Γ) : mm_Ev Γ l d mG_init [.ref h.1, .int (nI n)] (bl h 2 [.inr (0, mm_dfl 0)]) (mm_is (.inl none) (bl h (2 + 14 + n) (kn_GL h.1 n))) := by
  show mm_W Γ l mG_init d _ 0 [some (.ref h.1), some (.int (nI n))] [] _
  refine mm_aload_n dG_init_0 rfl rfl ?_
  refine mm_objInit dG_init_1 lG_3 kw_oi kw_oc (by decide) ?_
  refine mm_aload_n dG_init_4 rfl rfl ?_
  refine mm_bipush (v := nI 14) dG_init_5 (by decide) ?_
  refine mm_newarr dG_init_7 rfl (by decide) kw_ai (kn_ints (N := 14) (f := (fun _ => nI 0)) (fun _ _ => rfl)) rfl (by decide) (by decide) (by show h.1 + 1 + 1 ≤ _; omega) (by show h.2.1 + 2 + 14 ≤ _; omega) ?_
  refine mm_eqh (bl_add _ _ _ _ _).symm ?_
  refine mm_putF dG_init_9 fG_9 rfl rfl rfl rfl rfl rfl (bl_at0 rfl) (Nat.le_of_ble_eq_true rfl) (kn_nest (by decide +kernel)) ?_
  refine mm_eqh (bl_up0 _ _ _ (Nat.le_of_ble_eq_true rfl) _).symm ?_
  refine mm_aload_n dG_init_12 rfl rfl ?_
  refine mm_iload_n dG_init_13 rfl rfl ?_
  refine mm_newarr dG_init_14 rfl (by decide) kw_ai (kn_ints (N := n) (f := (fun _ => nI 0)) (fun _ _ => rfl)) rfl (by omega) (by decide) (by show h.1 + 2 + 1 ≤ _; omega) (by show h.2.1 + 16 + n ≤ _; omega) ?_
  refine mm_eqh (bl_add _ _ _ _ _).symm ?_
  refine mm_putF dG_init_16 fG_15 rfl rfl rfl rfl rfl rfl (bl_at0 rfl) (Nat.le_of_ble_eq_true rfl) (kn_nest (by decide +kernel)) ?_
  refine mm_eqh (bl_up0 _ _ _ (Nat.le_of_ble_eq_true rfl) _).symm ?_
  refine mm_return dG_init_19 rfl ?_
  exact ⟨rfl, rfl⟩
theorem kK_init (hm : h.1 + 14 ≤ mm_Cm Γ) (hs : h.2.1 + 135 ≤ mm_Sm Γ) : mm_Ev Γ l (d + 1) mK_init [.ref h.1] (bl h 9 [.inr (1, mm_dfl 1)]) (mm_is (.inl none) (bl h 135 (kn_KL h.1))) := by
  show mm_W Γ l mK_init (d + 1) _ 0 [some (.ref h.1)] [] _
  refine mm_aload_n dK_init_0 rfl rfl ?_
  refine mm_objInit dK_init_1 lK_3 kw_oi kw_oc (by decide) ?_
  refine mm_aload_n dK_init_4 rfl rfl ?_
  refine mm_new dK_init_5 cK_9 rfl rfl (by show h.1 + 1 + 1 ≤ _; omega) (by show h.2.1 + 9 + 2 ≤ _; omega) ?_
  refine mm_eqh (bl_one _ _ _).symm ?_
  refine mm_dup dK_init_8 rfl ?_
  refine mm_bipush (v := nI 6) dK_init_9 (by decide) ?_
  refine mm_i1 dK_init_11 lK_11 rfl (by decide) (Nat.le_of_ble_eq_true rfl) (kG_init (n := 6) (by decide) (by show h.1 + 1 + 3 ≤ _; omega) (by show h.2.1 + 9 + 22 ≤ _; omega)) ?_
  refine mm_eqh (bl_bl _ _ _ _ _).symm ?_
  refine mm_putF dK_init_14 fK_14 rfl rfl rfl rfl rfl rfl (bl_at0 rfl) (Nat.le_of_ble_eq_true rfl) (kn_nest (by decide +kernel)) ?_
  refine mm_eqh (bl_up0 _ _ _ (Nat.le_of_ble_eq_true rfl) _).symm ?_
  refine mm_aload_n dK_init_17 rfl rfl ?_
  refine mm_new dK_init_18 cK_9 rfl rfl (by show h.1 + 4 + 1 ≤ _; omega) (by show h.2.1 + 31 + 2 ≤ _; omega) ?_
  refine mm_eqh (bl_one _ _ _).symm ?_
  refine mm_dup dK_init_21 rfl ?_
  refine mm_bipush (v := nI 12) dK_init_22 (by decide) ?_
  refine mm_i1 dK_init_24 lK_11 rfl (by decide) (Nat.le_of_ble_eq_true rfl) (kG_init (n := 12) (by decide) (by show h.1 + 4 + 3 ≤ _; omega) (by show h.2.1 + 31 + 28 ≤ _; omega)) ?_
  refine mm_eqh (bl_bl _ _ _ _ _).symm ?_
  refine mm_putF dK_init_27 fK_20 rfl rfl rfl rfl rfl rfl (bl_at0 rfl) (Nat.le_of_ble_eq_true rfl) (kn_nest (by decide +kernel)) ?_
  refine mm_eqh (bl_up0 _ _ _ (Nat.le_of_ble_eq_true rfl) _).symm ?_
  refine mm_aload_n dK_init_30 rfl rfl ?_
  refine mm_new dK_init_31 cK_9 rfl rfl (by show h.1 + 7 + 1 ≤ _; omega) (by show h.2.1 + 59 + 2 ≤ _; omega) ?_
  refine mm_eqh (bl_one _ _ _).symm ?_
  refine mm_dup dK_init_34 rfl ?_
  refine mm_bipush (v := nI 12) dK_init_35 (by decide) ?_
  refine mm_i1 dK_init_37 lK_11 rfl (by decide) (Nat.le_of_ble_eq_true rfl) (kG_init (n := 12) (by decide) (by show h.1 + 7 + 3 ≤ _; omega) (by show h.2.1 + 59 + 28 ≤ _; omega)) ?_
  refine mm_eqh (bl_bl _ _ _ _ _).symm ?_
  refine mm_putF dK_init_40 fK_23 rfl rfl rfl rfl rfl rfl (bl_at0 rfl) (Nat.le_of_ble_eq_true rfl) (kn_nest (by decide +kernel)) ?_
  refine mm_eqh (bl_up0 _ _ _ (Nat.le_of_ble_eq_true rfl) _).symm ?_
  refine mm_aload_n dK_init_43 rfl rfl ?_
  refine mm_bipush (v := nI 6) dK_init_44 (by decide) ?_
  refine mm_newarr dK_init_46 rfl (by decide) kw_ai (kn_ints (N := 6) (f := (fun i => mm_enc (kn_z 6 i))) (kn_z_0 6)) rfl (by decide) (by decide) (by show h.1 + 10 + 1 ≤ _; omega) (by show h.2.1 + 87 + 6 ≤ _; omega) ?_
  refine mm_eqh (bl_add _ _ _ _ _).symm ?_
  refine mm_putF dK_init_48 fK_26 rfl rfl rfl rfl rfl rfl (bl_at0 rfl) (Nat.le_of_ble_eq_true rfl) (kn_nest (by decide +kernel)) ?_
  refine mm_eqh (bl_up0 _ _ _ (Nat.le_of_ble_eq_true rfl) _).symm ?_
  refine mm_aload_n dK_init_51 rfl rfl ?_
  refine mm_bipush (v := nI 12) dK_init_52 (by decide) ?_
  refine mm_newarr dK_init_54 rfl (by decide) kw_ai (kn_ints (N := 12) (f := (fun _ => nI 0)) (fun _ _ => rfl)) rfl (by decide) (by decide) (by show h.1 + 11 + 1 ≤ _; omega) (by show h.2.1 + 93 + 12 ≤ _; omega) ?_
  refine mm_eqh (bl_add _ _ _ _ _).symm ?_
  refine mm_putF dK_init_56 fK_30 rfl rfl rfl rfl rfl rfl (bl_at0 rfl) (Nat.le_of_ble_eq_true rfl) (kn_nest (by decide +kernel)) ?_
  refine mm_eqh (bl_up0 _ _ _ (Nat.le_of_ble_eq_true rfl) _).symm ?_
  refine mm_aload_n dK_init_59 rfl rfl ?_
  refine mm_bipush (v := nI 24) dK_init_60 (by decide) ?_
  refine mm_newarr dK_init_62 rfl (by decide) kw_ai (kn_ints (N := 24) (f := (fun i => mm_enc (kn_z 24 i))) (kn_z_0 24)) rfl (by decide) (by decide) (by show h.1 + 12 + 1 ≤ _; omega) (by show h.2.1 + 105 + 24 ≤ _; omega) ?_
  refine mm_eqh (bl_add _ _ _ _ _).symm ?_
  refine mm_putF dK_init_64 fK_33 rfl rfl rfl rfl rfl rfl (bl_at0 rfl) (Nat.le_of_ble_eq_true rfl) (kn_nest (by decide +kernel)) ?_
  refine mm_eqh (bl_up0 _ _ _ (Nat.le_of_ble_eq_true rfl) _).symm ?_
  refine mm_aload_n dK_init_67 rfl rfl ?_
  refine mm_bipush (v := nI 6) dK_init_68 (by decide) ?_
  refine mm_newarr dK_init_70 rfl (by decide) kw_ai (kn_ints (N := 6) (f := (fun _ => nI 0)) (fun _ _ => rfl)) rfl (by decide) (by decide) (by show h.1 + 13 + 1 ≤ _; omega) (by show h.2.1 + 129 + 6 ≤ _; omega) ?_
  refine mm_eqh (bl_add _ _ _ _ _).symm ?_
  refine mm_putF dK_init_72 fK_36 rfl rfl rfl rfl rfl rfl (bl_at0 rfl) (Nat.le_of_ble_eq_true rfl) (kn_nest (by decide +kernel)) ?_
  refine mm_eqh (bl_up0 _ _ _ (Nat.le_of_ble_eq_true rfl) _).symm ?_
  refine mm_aload_n dK_init_75 rfl rfl ?_
  refine mm_iconst (v := nI 1) dK_init_76 (by decide) ?_
  refine mm_putf dK_init_77 fK_39 rfl rfl rfl rfl (bl_at0 rfl) (Nat.le_of_ble_eq_true rfl) ?_
  refine mm_eqh (bl_up0 _ _ _ (Nat.le_of_ble_eq_true rfl) _).symm ?_
  refine mm_aload_n dK_init_80 rfl rfl ?_
  refine mm_iconst (v := nI 0) dK_init_81 (by decide) ?_
  refine mm_putf dK_init_82 fK_43 rfl rfl rfl rfl (bl_at0 rfl) (Nat.le_of_ble_eq_true rfl) ?_
  refine mm_eqh (bl_up0 _ _ _ (Nat.le_of_ble_eq_true rfl) _).symm ?_
  refine mm_return dK_init_85 rfl ?_
  exact ⟨rfl, rfl⟩
theorem kn_setM (h : mm_H) (s j i : Nat) : mm_up (bl h s (kn_ML h.1 (kn_M i))) (h.1 + 1) (.inl (0, 67, .inl (upd (fun i' => mm_enc (m_sh (kn_M i) i')) j (-1)))) = bl h s (kn_ML h.1 (s_sh (kn_M i) (ks_u (m_sh (kn_M i)) j none))) := by
  rw [bl_up _ _ _ (Nat.le_of_ble_eq_true rfl)]
  rw [show (-1 : Int32) = mm_enc none from rfl, ks_u_enc]
  rfl
theorem kM_init (hm : h.1 + 16 ≤ mm_Cm Γ) (hs : h.2.1 + 11332 ≤ mm_Sm Γ) : mm_Ev Γ l d mM_init [.ref h.1] (bl h 21 [.inr (5, mm_dfl 5)]) (mm_is (.inl none) (bl h 11332 (kn_ML h.1 (kn_M 67)))) := by
  have l1 : ∀ (j i : Nat), i + j = 67 → mm_W Γ l mM_init d (mm_is (.inl none) (bl h 11332 (kn_ML h.1 (kn_M 67)))) 128 [some (.ref h.1), some (.int (nI i))] [] (bl h 11332 (kn_ML h.1 (kn_M i))) := by
    intro j
    induction j with
    | zero =>
      intro i hi
      have hi : i = 67 := by omega
      subst hi
      refine mm_iload_n dM_init_128 rfl rfl ?_
      refine mm_bipush (v := nI 67) dM_init_129 (by decide) ?_
      refine mm_icmp_ge_T (tgt := 147) dM_init_131 (by decide) (nI_le (by omega) (by omega)) ?_
      refine mm_return dM_init_147 rfl ?_
      exact ⟨rfl, rfl⟩
    | succ j ih =>
      intro i hi
      refine mm_iload_n dM_init_128 rfl rfl ?_
      refine mm_bipush (v := nI 67) dM_init_129 (by decide) ?_
      refine mm_icmp_ge_F (tgt := 147) dM_init_131 (by decide) (nI_ge (by omega) (by omega)) ?_
      refine mm_aload_n dM_init_134 rfl rfl ?_
      refine mm_getf dM_init_135 fM_7 (bl_at0 (x := km_cell h.1 (kn_M i) 0) rfl) rfl ?_
      refine mm_iload_n dM_init_138 rfl rfl ?_
      refine mm_iconst (v := -1) dM_init_139 (by decide) ?_
      refine mm_iastore dM_init_140 (bl_at (i := 1) (x := km_cell h.1 (kn_M i) 1) rfl) rfl (by omega) (by decide) ?_
      refine mm_eqh (kn_setM h 11332 i i).symm ?_
      refine mm_iinc dM_init_141 (by decide) rfl (mm_inc _) rfl ?_
      refine mm_goto (tgt := 128) dM_init_144 (by decide) ?_
      refine mm_eqh (show bl h 11332 (kn_ML h.1 (kn_M (i + 1))) = _ from ?_) (ih (i + 1) (by omega))
      rw [show kn_M (i + 1) = s_sh (kn_M i) (ks_u (m_sh (kn_M i)) i none) from congrArg (s_sh (kn_M i)) (kn_w_u 67 i).symm]
  show mm_W Γ l mM_init d _ 0 [some (.ref h.1), none] [] _
  refine mm_aload_n dM_init_0 rfl rfl ?_
  refine mm_objInit dM_init_1 lM_1 kw_oi kw_oc (by decide) ?_
  refine mm_aload_n dM_init_4 rfl rfl ?_
  refine mm_bipush (v := nI 67) dM_init_5 (by decide) ?_
  refine mm_newarr dM_init_7 rfl (by decide) kw_ai (kn_ints (N := 67) (f := (fun i => mm_enc (kn_z 67 i))) (kn_z_0 67)) rfl (by decide) (by decide) (by show h.1 + 1 + 1 ≤ _; omega) (by show h.2.1 + 21 + 67 ≤ _; omega) ?_
  refine mm_eqh (bl_add _ _ _ _ _).symm ?_
  refine mm_putf dM_init_9 fM_7 rfl rfl rfl rfl (bl_at0 rfl) (Nat.le_of_ble_eq_true rfl) ?_
  refine mm_eqh (bl_up0 _ _ _ (Nat.le_of_ble_eq_true rfl) _).symm ?_
  refine mm_eqh (show bl h 88 [.inr (5, [.int (nI 0), .int (mm_bI false), .int (nI 0), .ref (h.1 + 1), .null, .int (nI 0), .null, .int (nI 0), .null, .null, .int (nI 0), .null, .null, .null, .null, .null, .null, .null, .null, .null, .null]), .inl (0, 67, .inl (fun i => mm_enc (kn_z 67 i)))] = _ from rfl) ?_
  refine mm_aload_n dM_init_12 rfl rfl ?_
  refine mm_sipush (v := nI 1407) dM_init_13 (by decide) ?_
  refine mm_newarr dM_init_16 rfl (by decide) kw_ai (kn_ints (N := 1407) (f := (fun _ => mm_enc (some 0))) (fun _ _ => rfl)) rfl (by decide) (by decide) (by show h.1 + 2 + 1 ≤ _; omega) (by show h.2.1 + 88 + 1407 ≤ _; omega) ?_
  refine mm_eqh (bl_add _ _ _ _ _).symm ?_
  refine mm_putf dM_init_18 fM_13 rfl rfl rfl rfl (bl_at0 rfl) (Nat.le_of_ble_eq_true rfl) ?_
  refine mm_eqh (bl_up0 _ _ _ (Nat.le_of_ble_eq_true rfl) _).symm ?_
  refine mm_eqh (show bl h 1495 [.inr (5, [.int (nI 0), .int (mm_bI false), .int (nI 0), .ref (h.1 + 1), .ref (h.1 + 2), .int (nI 0), .null, .int (nI 0), .null, .null, .int (nI 0), .null, .null, .null, .null, .null, .null, .null, .null, .null, .null]), .inl (0, 67, .inl (fun i => mm_enc (kn_z 67 i))), .inl (0, 1407, .inl (fun _ => mm_enc (some 0)))] = _ from rfl) ?_
  refine mm_aload_n dM_init_21 rfl rfl ?_
  refine mm_bipush (v := nI 70) dM_init_22 (by decide) ?_
  refine mm_newarr dM_init_24 rfl (by decide) kw_ai (kn_ints (N := 70) (f := (fun _ => nI 0)) (fun _ _ => rfl)) rfl (by decide) (by decide) (by show h.1 + 3 + 1 ≤ _; omega) (by show h.2.1 + 1495 + 70 ≤ _; omega) ?_
  refine mm_eqh (bl_add _ _ _ _ _).symm ?_
  refine mm_putf dM_init_26 fM_16 rfl rfl rfl rfl (bl_at0 rfl) (Nat.le_of_ble_eq_true rfl) ?_
  refine mm_eqh (bl_up0 _ _ _ (Nat.le_of_ble_eq_true rfl) _).symm ?_
  refine mm_eqh (show bl h 1565 [.inr (5, [.int (nI 0), .int (mm_bI false), .int (nI 0), .ref (h.1 + 1), .ref (h.1 + 2), .int (nI 0), .ref (h.1 + 3), .int (nI 0), .null, .null, .int (nI 0), .null, .null, .null, .null, .null, .null, .null, .null, .null, .null]), .inl (0, 67, .inl (fun i => mm_enc (kn_z 67 i))), .inl (0, 1407, .inl (fun _ => mm_enc (some 0))), .inl (0, 70, .inl (fun _ => nI 0))] = _ from rfl) ?_
  refine mm_aload_n dM_init_29 rfl rfl ?_
  refine mm_bipush (v := nI 70) dM_init_30 (by decide) ?_
  refine mm_newarr dM_init_32 rfl (by decide) kw_ai (kn_ints (N := 70) (f := (fun _ => nI 0)) (fun _ _ => rfl)) rfl (by decide) (by decide) (by show h.1 + 4 + 1 ≤ _; omega) (by show h.2.1 + 1565 + 70 ≤ _; omega) ?_
  refine mm_eqh (bl_add _ _ _ _ _).symm ?_
  refine mm_putf dM_init_34 fM_19 rfl rfl rfl rfl (bl_at0 rfl) (Nat.le_of_ble_eq_true rfl) ?_
  refine mm_eqh (bl_up0 _ _ _ (Nat.le_of_ble_eq_true rfl) _).symm ?_
  refine mm_eqh (show bl h 1635 [.inr (5, [.int (nI 0), .int (mm_bI false), .int (nI 0), .ref (h.1 + 1), .ref (h.1 + 2), .int (nI 0), .ref (h.1 + 3), .int (nI 0), .ref (h.1 + 4), .null, .int (nI 0), .null, .null, .null, .null, .null, .null, .null, .null, .null, .null]), .inl (0, 67, .inl (fun i => mm_enc (kn_z 67 i))), .inl (0, 1407, .inl (fun _ => mm_enc (some 0))), .inl (0, 70, .inl (fun _ => nI 0)), .inl (0, 70, .inl (fun _ => nI 0))] = _ from rfl) ?_
  refine mm_aload_n dM_init_37 rfl rfl ?_
  refine mm_bipush (v := nI 6) dM_init_38 (by decide) ?_
  refine mm_newarr dM_init_40 rfl (by decide) kw_ai (kn_ints (N := 6) (f := (fun _ => mm_enc (some 0))) (fun _ _ => rfl)) rfl (by decide) (by decide) (by show h.1 + 5 + 1 ≤ _; omega) (by show h.2.1 + 1635 + 6 ≤ _; omega) ?_
  refine mm_eqh (bl_add _ _ _ _ _).symm ?_
  refine mm_putf dM_init_42 fM_22 rfl rfl rfl rfl (bl_at0 rfl) (Nat.le_of_ble_eq_true rfl) ?_
  refine mm_eqh (bl_up0 _ _ _ (Nat.le_of_ble_eq_true rfl) _).symm ?_
  refine mm_eqh (show bl h 1641 [.inr (5, [.int (nI 0), .int (mm_bI false), .int (nI 0), .ref (h.1 + 1), .ref (h.1 + 2), .int (nI 0), .ref (h.1 + 3), .int (nI 0), .ref (h.1 + 4), .ref (h.1 + 5), .int (nI 0), .null, .null, .null, .null, .null, .null, .null, .null, .null, .null]), .inl (0, 67, .inl (fun i => mm_enc (kn_z 67 i))), .inl (0, 1407, .inl (fun _ => mm_enc (some 0))), .inl (0, 70, .inl (fun _ => nI 0)), .inl (0, 70, .inl (fun _ => nI 0)), .inl (0, 6, .inl (fun _ => mm_enc (some 0)))] = _ from rfl) ?_
  refine mm_aload_n dM_init_45 rfl rfl ?_
  refine mm_bipush (v := nI 14) dM_init_46 (by decide) ?_
  refine mm_newarr dM_init_48 rfl (by decide) kw_ai (kn_ints (N := 14) (f := (fun _ => nI 0)) (fun _ _ => rfl)) rfl (by decide) (by decide) (by show h.1 + 6 + 1 ≤ _; omega) (by show h.2.1 + 1641 + 14 ≤ _; omega) ?_
  refine mm_eqh (bl_add _ _ _ _ _).symm ?_
  refine mm_putf dM_init_50 fM_25 rfl rfl rfl rfl (bl_at0 rfl) (Nat.le_of_ble_eq_true rfl) ?_
  refine mm_eqh (bl_up0 _ _ _ (Nat.le_of_ble_eq_true rfl) _).symm ?_
  refine mm_eqh (show bl h 1655 [.inr (5, [.int (nI 0), .int (mm_bI false), .int (nI 0), .ref (h.1 + 1), .ref (h.1 + 2), .int (nI 0), .ref (h.1 + 3), .int (nI 0), .ref (h.1 + 4), .ref (h.1 + 5), .int (nI 0), .ref (h.1 + 6), .null, .null, .null, .null, .null, .null, .null, .null, .null]), .inl (0, 67, .inl (fun i => mm_enc (kn_z 67 i))), .inl (0, 1407, .inl (fun _ => mm_enc (some 0))), .inl (0, 70, .inl (fun _ => nI 0)), .inl (0, 70, .inl (fun _ => nI 0)), .inl (0, 6, .inl (fun _ => mm_enc (some 0))), .inl (0, 14, .inl (fun _ => nI 0))] = _ from rfl) ?_
  refine mm_aload_n dM_init_53 rfl rfl ?_
  refine mm_bipush (v := nI 14) dM_init_54 (by decide) ?_
  refine mm_newarr dM_init_56 rfl (by decide) kw_ai (kn_ints (N := 14) (f := (fun _ => nI 0)) (fun _ _ => rfl)) rfl (by decide) (by decide) (by show h.1 + 7 + 1 ≤ _; omega) (by show h.2.1 + 1655 + 14 ≤ _; omega) ?_
  refine mm_eqh (bl_add _ _ _ _ _).symm ?_
  refine mm_putf dM_init_58 fM_28 rfl rfl rfl rfl (bl_at0 rfl) (Nat.le_of_ble_eq_true rfl) ?_
  refine mm_eqh (bl_up0 _ _ _ (Nat.le_of_ble_eq_true rfl) _).symm ?_
  refine mm_eqh (show bl h 1669 [.inr (5, [.int (nI 0), .int (mm_bI false), .int (nI 0), .ref (h.1 + 1), .ref (h.1 + 2), .int (nI 0), .ref (h.1 + 3), .int (nI 0), .ref (h.1 + 4), .ref (h.1 + 5), .int (nI 0), .ref (h.1 + 6), .ref (h.1 + 7), .null, .null, .null, .null, .null, .null, .null, .null]), .inl (0, 67, .inl (fun i => mm_enc (kn_z 67 i))), .inl (0, 1407, .inl (fun _ => mm_enc (some 0))), .inl (0, 70, .inl (fun _ => nI 0)), .inl (0, 70, .inl (fun _ => nI 0)), .inl (0, 6, .inl (fun _ => mm_enc (some 0))), .inl (0, 14, .inl (fun _ => nI 0)), .inl (0, 14, .inl (fun _ => nI 0))] = _ from rfl) ?_
  refine mm_aload_n dM_init_61 rfl rfl ?_
  refine mm_sipush (v := nI 9477) dM_init_62 (by decide) ?_
  refine mm_newarr dM_init_65 rfl (by decide) kw_az (kn_bools (N := 9477) (f := (fun _ => mm_bI false)) (fun _ _ => rfl)) rfl (by decide) (by decide) (by show h.1 + 8 + 1 ≤ _; omega) (by show h.2.1 + 1669 + 9477 ≤ _; omega) ?_
  refine mm_eqh (bl_add _ _ _ _ _).symm ?_
  refine mm_putf dM_init_67 fM_31 rfl rfl rfl rfl (bl_at0 rfl) (Nat.le_of_ble_eq_true rfl) ?_
  refine mm_eqh (bl_up0 _ _ _ (Nat.le_of_ble_eq_true rfl) _).symm ?_
  refine mm_eqh (show bl h 11146 [.inr (5, [.int (nI 0), .int (mm_bI false), .int (nI 0), .ref (h.1 + 1), .ref (h.1 + 2), .int (nI 0), .ref (h.1 + 3), .int (nI 0), .ref (h.1 + 4), .ref (h.1 + 5), .int (nI 0), .ref (h.1 + 6), .ref (h.1 + 7), .ref (h.1 + 8), .null, .null, .null, .null, .null, .null, .null]), .inl (0, 67, .inl (fun i => mm_enc (kn_z 67 i))), .inl (0, 1407, .inl (fun _ => mm_enc (some 0))), .inl (0, 70, .inl (fun _ => nI 0)), .inl (0, 70, .inl (fun _ => nI 0)), .inl (0, 6, .inl (fun _ => mm_enc (some 0))), .inl (0, 14, .inl (fun _ => nI 0)), .inl (0, 14, .inl (fun _ => nI 0)), .inl (1, 9477, .inl (fun _ => mm_bI false))] = _ from rfl) ?_
  refine mm_aload_n dM_init_70 rfl rfl ?_
  refine mm_bipush (v := nI 13) dM_init_71 (by decide) ?_
  refine mm_newarr dM_init_73 rfl (by decide) kw_ai (kn_ints (N := 13) (f := (fun _ => nI 0)) (fun _ _ => rfl)) rfl (by decide) (by decide) (by show h.1 + 9 + 1 ≤ _; omega) (by show h.2.1 + 11146 + 13 ≤ _; omega) ?_
  refine mm_eqh (bl_add _ _ _ _ _).symm ?_
  refine mm_putf dM_init_75 fM_35 rfl rfl rfl rfl (bl_at0 rfl) (Nat.le_of_ble_eq_true rfl) ?_
  refine mm_eqh (bl_up0 _ _ _ (Nat.le_of_ble_eq_true rfl) _).symm ?_
  refine mm_eqh (show bl h 11159 [.inr (5, [.int (nI 0), .int (mm_bI false), .int (nI 0), .ref (h.1 + 1), .ref (h.1 + 2), .int (nI 0), .ref (h.1 + 3), .int (nI 0), .ref (h.1 + 4), .ref (h.1 + 5), .int (nI 0), .ref (h.1 + 6), .ref (h.1 + 7), .ref (h.1 + 8), .ref (h.1 + 9), .null, .null, .null, .null, .null, .null]), .inl (0, 67, .inl (fun i => mm_enc (kn_z 67 i))), .inl (0, 1407, .inl (fun _ => mm_enc (some 0))), .inl (0, 70, .inl (fun _ => nI 0)), .inl (0, 70, .inl (fun _ => nI 0)), .inl (0, 6, .inl (fun _ => mm_enc (some 0))), .inl (0, 14, .inl (fun _ => nI 0)), .inl (0, 14, .inl (fun _ => nI 0)), .inl (1, 9477, .inl (fun _ => mm_bI false)), .inl (0, 13, .inl (fun _ => nI 0))] = _ from rfl) ?_
  refine mm_aload_n dM_init_78 rfl rfl ?_
  refine mm_bipush (v := nI 6) dM_init_79 (by decide) ?_
  refine mm_newarr dM_init_81 rfl (by decide) kw_ai (kn_ints (N := 6) (f := (fun _ => mm_enc (some 0))) (fun _ _ => rfl)) rfl (by decide) (by decide) (by show h.1 + 10 + 1 ≤ _; omega) (by show h.2.1 + 11159 + 6 ≤ _; omega) ?_
  refine mm_eqh (bl_add _ _ _ _ _).symm ?_
  refine mm_putf dM_init_83 fM_38 rfl rfl rfl rfl (bl_at0 rfl) (Nat.le_of_ble_eq_true rfl) ?_
  refine mm_eqh (bl_up0 _ _ _ (Nat.le_of_ble_eq_true rfl) _).symm ?_
  refine mm_eqh (show bl h 11165 [.inr (5, [.int (nI 0), .int (mm_bI false), .int (nI 0), .ref (h.1 + 1), .ref (h.1 + 2), .int (nI 0), .ref (h.1 + 3), .int (nI 0), .ref (h.1 + 4), .ref (h.1 + 5), .int (nI 0), .ref (h.1 + 6), .ref (h.1 + 7), .ref (h.1 + 8), .ref (h.1 + 9), .ref (h.1 + 10), .null, .null, .null, .null, .null]), .inl (0, 67, .inl (fun i => mm_enc (kn_z 67 i))), .inl (0, 1407, .inl (fun _ => mm_enc (some 0))), .inl (0, 70, .inl (fun _ => nI 0)), .inl (0, 70, .inl (fun _ => nI 0)), .inl (0, 6, .inl (fun _ => mm_enc (some 0))), .inl (0, 14, .inl (fun _ => nI 0)), .inl (0, 14, .inl (fun _ => nI 0)), .inl (1, 9477, .inl (fun _ => mm_bI false)), .inl (0, 13, .inl (fun _ => nI 0)), .inl (0, 6, .inl (fun _ => mm_enc (some 0)))] = _ from rfl) ?_
  refine mm_aload_n dM_init_86 rfl rfl ?_
  refine mm_bipush (v := nI 70) dM_init_87 (by decide) ?_
  refine mm_newarr dM_init_89 rfl (by decide) kw_ai (kn_ints (N := 70) (f := (fun _ => nI 0)) (fun _ _ => rfl)) rfl (by decide) (by decide) (by show h.1 + 11 + 1 ≤ _; omega) (by show h.2.1 + 11165 + 70 ≤ _; omega) ?_
  refine mm_eqh (bl_add _ _ _ _ _).symm ?_
  refine mm_putf dM_init_91 fM_41 rfl rfl rfl rfl (bl_at0 rfl) (Nat.le_of_ble_eq_true rfl) ?_
  refine mm_eqh (bl_up0 _ _ _ (Nat.le_of_ble_eq_true rfl) _).symm ?_
  refine mm_eqh (show bl h 11235 [.inr (5, [.int (nI 0), .int (mm_bI false), .int (nI 0), .ref (h.1 + 1), .ref (h.1 + 2), .int (nI 0), .ref (h.1 + 3), .int (nI 0), .ref (h.1 + 4), .ref (h.1 + 5), .int (nI 0), .ref (h.1 + 6), .ref (h.1 + 7), .ref (h.1 + 8), .ref (h.1 + 9), .ref (h.1 + 10), .ref (h.1 + 11), .null, .null, .null, .null]), .inl (0, 67, .inl (fun i => mm_enc (kn_z 67 i))), .inl (0, 1407, .inl (fun _ => mm_enc (some 0))), .inl (0, 70, .inl (fun _ => nI 0)), .inl (0, 70, .inl (fun _ => nI 0)), .inl (0, 6, .inl (fun _ => mm_enc (some 0))), .inl (0, 14, .inl (fun _ => nI 0)), .inl (0, 14, .inl (fun _ => nI 0)), .inl (1, 9477, .inl (fun _ => mm_bI false)), .inl (0, 13, .inl (fun _ => nI 0)), .inl (0, 6, .inl (fun _ => mm_enc (some 0))), .inl (0, 70, .inl (fun _ => nI 0))] = _ from rfl) ?_
  refine mm_aload_n dM_init_94 rfl rfl ?_
  refine mm_bipush (v := nI 6) dM_init_95 (by decide) ?_
  refine mm_newarr dM_init_97 rfl (by decide) kw_ai (kn_ints (N := 6) (f := (fun _ => nI 0)) (fun _ _ => rfl)) rfl (by decide) (by decide) (by show h.1 + 12 + 1 ≤ _; omega) (by show h.2.1 + 11235 + 6 ≤ _; omega) ?_
  refine mm_eqh (bl_add _ _ _ _ _).symm ?_
  refine mm_putf dM_init_99 fM_44 rfl rfl rfl rfl (bl_at0 rfl) (Nat.le_of_ble_eq_true rfl) ?_
  refine mm_eqh (bl_up0 _ _ _ (Nat.le_of_ble_eq_true rfl) _).symm ?_
  refine mm_eqh (show bl h 11241 [.inr (5, [.int (nI 0), .int (mm_bI false), .int (nI 0), .ref (h.1 + 1), .ref (h.1 + 2), .int (nI 0), .ref (h.1 + 3), .int (nI 0), .ref (h.1 + 4), .ref (h.1 + 5), .int (nI 0), .ref (h.1 + 6), .ref (h.1 + 7), .ref (h.1 + 8), .ref (h.1 + 9), .ref (h.1 + 10), .ref (h.1 + 11), .ref (h.1 + 12), .null, .null, .null]), .inl (0, 67, .inl (fun i => mm_enc (kn_z 67 i))), .inl (0, 1407, .inl (fun _ => mm_enc (some 0))), .inl (0, 70, .inl (fun _ => nI 0)), .inl (0, 70, .inl (fun _ => nI 0)), .inl (0, 6, .inl (fun _ => mm_enc (some 0))), .inl (0, 14, .inl (fun _ => nI 0)), .inl (0, 14, .inl (fun _ => nI 0)), .inl (1, 9477, .inl (fun _ => mm_bI false)), .inl (0, 13, .inl (fun _ => nI 0)), .inl (0, 6, .inl (fun _ => mm_enc (some 0))), .inl (0, 70, .inl (fun _ => nI 0)), .inl (0, 6, .inl (fun _ => nI 0))] = _ from rfl) ?_
  refine mm_aload_n dM_init_102 rfl rfl ?_
  refine mm_bipush (v := nI 12) dM_init_103 (by decide) ?_
  refine mm_newarr dM_init_105 rfl (by decide) kw_ai (kn_ints (N := 12) (f := (fun _ => nI 0)) (fun _ _ => rfl)) rfl (by decide) (by decide) (by show h.1 + 13 + 1 ≤ _; omega) (by show h.2.1 + 11241 + 12 ≤ _; omega) ?_
  refine mm_eqh (bl_add _ _ _ _ _).symm ?_
  refine mm_putf dM_init_107 fM_47 rfl rfl rfl rfl (bl_at0 rfl) (Nat.le_of_ble_eq_true rfl) ?_
  refine mm_eqh (bl_up0 _ _ _ (Nat.le_of_ble_eq_true rfl) _).symm ?_
  refine mm_eqh (show bl h 11253 [.inr (5, [.int (nI 0), .int (mm_bI false), .int (nI 0), .ref (h.1 + 1), .ref (h.1 + 2), .int (nI 0), .ref (h.1 + 3), .int (nI 0), .ref (h.1 + 4), .ref (h.1 + 5), .int (nI 0), .ref (h.1 + 6), .ref (h.1 + 7), .ref (h.1 + 8), .ref (h.1 + 9), .ref (h.1 + 10), .ref (h.1 + 11), .ref (h.1 + 12), .ref (h.1 + 13), .null, .null]), .inl (0, 67, .inl (fun i => mm_enc (kn_z 67 i))), .inl (0, 1407, .inl (fun _ => mm_enc (some 0))), .inl (0, 70, .inl (fun _ => nI 0)), .inl (0, 70, .inl (fun _ => nI 0)), .inl (0, 6, .inl (fun _ => mm_enc (some 0))), .inl (0, 14, .inl (fun _ => nI 0)), .inl (0, 14, .inl (fun _ => nI 0)), .inl (1, 9477, .inl (fun _ => mm_bI false)), .inl (0, 13, .inl (fun _ => nI 0)), .inl (0, 6, .inl (fun _ => mm_enc (some 0))), .inl (0, 70, .inl (fun _ => nI 0)), .inl (0, 6, .inl (fun _ => nI 0)), .inl (0, 12, .inl (fun _ => nI 0))] = _ from rfl) ?_
  refine mm_aload_n dM_init_110 rfl rfl ?_
  refine mm_bipush (v := nI 12) dM_init_111 (by decide) ?_
  refine mm_newarr dM_init_113 rfl (by decide) kw_ai (kn_ints (N := 12) (f := (fun _ => nI 0)) (fun _ _ => rfl)) rfl (by decide) (by decide) (by show h.1 + 14 + 1 ≤ _; omega) (by show h.2.1 + 11253 + 12 ≤ _; omega) ?_
  refine mm_eqh (bl_add _ _ _ _ _).symm ?_
  refine mm_putf dM_init_115 fM_50 rfl rfl rfl rfl (bl_at0 rfl) (Nat.le_of_ble_eq_true rfl) ?_
  refine mm_eqh (bl_up0 _ _ _ (Nat.le_of_ble_eq_true rfl) _).symm ?_
  refine mm_eqh (show bl h 11265 [.inr (5, [.int (nI 0), .int (mm_bI false), .int (nI 0), .ref (h.1 + 1), .ref (h.1 + 2), .int (nI 0), .ref (h.1 + 3), .int (nI 0), .ref (h.1 + 4), .ref (h.1 + 5), .int (nI 0), .ref (h.1 + 6), .ref (h.1 + 7), .ref (h.1 + 8), .ref (h.1 + 9), .ref (h.1 + 10), .ref (h.1 + 11), .ref (h.1 + 12), .ref (h.1 + 13), .ref (h.1 + 14), .null]), .inl (0, 67, .inl (fun i => mm_enc (kn_z 67 i))), .inl (0, 1407, .inl (fun _ => mm_enc (some 0))), .inl (0, 70, .inl (fun _ => nI 0)), .inl (0, 70, .inl (fun _ => nI 0)), .inl (0, 6, .inl (fun _ => mm_enc (some 0))), .inl (0, 14, .inl (fun _ => nI 0)), .inl (0, 14, .inl (fun _ => nI 0)), .inl (1, 9477, .inl (fun _ => mm_bI false)), .inl (0, 13, .inl (fun _ => nI 0)), .inl (0, 6, .inl (fun _ => mm_enc (some 0))), .inl (0, 70, .inl (fun _ => nI 0)), .inl (0, 6, .inl (fun _ => nI 0)), .inl (0, 12, .inl (fun _ => nI 0)), .inl (0, 12, .inl (fun _ => nI 0))] = _ from rfl) ?_
  refine mm_aload_n dM_init_118 rfl rfl ?_
  refine mm_bipush (v := nI 67) dM_init_119 (by decide) ?_
  refine mm_newarr dM_init_121 rfl (by decide) kw_ai (kn_ints (N := 67) (f := (fun _ => mm_enc (some 0))) (fun _ _ => rfl)) rfl (by decide) (by decide) (by show h.1 + 15 + 1 ≤ _; omega) (by show h.2.1 + 11265 + 67 ≤ _; omega) ?_
  refine mm_eqh (bl_add _ _ _ _ _).symm ?_
  refine mm_putf dM_init_123 fM_53 rfl rfl rfl rfl (bl_at0 rfl) (Nat.le_of_ble_eq_true rfl) ?_
  refine mm_eqh (bl_up0 _ _ _ (Nat.le_of_ble_eq_true rfl) _).symm ?_
  refine mm_eqh (show bl h 11332 [.inr (5, [.int (nI 0), .int (mm_bI false), .int (nI 0), .ref (h.1 + 1), .ref (h.1 + 2), .int (nI 0), .ref (h.1 + 3), .int (nI 0), .ref (h.1 + 4), .ref (h.1 + 5), .int (nI 0), .ref (h.1 + 6), .ref (h.1 + 7), .ref (h.1 + 8), .ref (h.1 + 9), .ref (h.1 + 10), .ref (h.1 + 11), .ref (h.1 + 12), .ref (h.1 + 13), .ref (h.1 + 14), .ref (h.1 + 15)]), .inl (0, 67, .inl (fun i => mm_enc (kn_z 67 i))), .inl (0, 1407, .inl (fun _ => mm_enc (some 0))), .inl (0, 70, .inl (fun _ => nI 0)), .inl (0, 70, .inl (fun _ => nI 0)), .inl (0, 6, .inl (fun _ => mm_enc (some 0))), .inl (0, 14, .inl (fun _ => nI 0)), .inl (0, 14, .inl (fun _ => nI 0)), .inl (1, 9477, .inl (fun _ => mm_bI false)), .inl (0, 13, .inl (fun _ => nI 0)), .inl (0, 6, .inl (fun _ => mm_enc (some 0))), .inl (0, 70, .inl (fun _ => nI 0)), .inl (0, 6, .inl (fun _ => nI 0)), .inl (0, 12, .inl (fun _ => nI 0)), .inl (0, 12, .inl (fun _ => nI 0)), .inl (0, 67, .inl (fun _ => mm_enc (some 0)))] = _ from rfl) ?_
  refine mm_iconst (v := nI 0) dM_init_126 (by decide) ?_
  refine mm_istore_n dM_init_127 rfl (by decide) rfl ?_
  refine mm_eqh (show bl h 11332 (kn_ML h.1 (kn_M 0)) = _ from ?_) (l1 67 0 rfl)
  unfold kn_M
  rw [kn_w_0]
  rfl
end KI1
