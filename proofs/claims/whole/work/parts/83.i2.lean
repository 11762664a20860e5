/-! The class's constructor. Printed by wip/whole/spec/i2.py -/
section KI2
variable {Γ : mm_G} {l : Launch} {d : Nat} {h : mm_H}
set_option maxHeartbeats 1000000 in
theorem kC_init (hm : h.1 + 166 ≤ mm_Cm Γ) (hs : h.2.1 + 2049 ≤ mm_Sm Γ) : mm_Ev Γ l (d + 1 + 1) mC_init [.ref h.1] (bl h 9 [.inr (4, mm_dfl 4)]) (kn_DC h) := by
  have tail : ∀ (g : mm_H) (x1 : Option Value), kn_I h 21 g → mm_W Γ l mC_init (d + 1 + 1) (kn_DC h) 40 [some (.ref h.1), x1] [] g := by
    intro g x1 I
    have fin := kn_end I
    obtain ⟨I1, I2, I3, -, -, -⟩ := I
    have I1 : g.1 = h.1 + 128 := I1
    have I2 : g.2.1 = h.2.1 + 1542 := I2
    have lt : h.1 < g.1 := by omega
    refine mm_aload_n dC_init_40 rfl rfl ?_
    refine mm_new dC_init_41 cC_16 rfl rfl (by show g.1 + 0 + 1 ≤ _; omega) (by show g.2.1 + 0 + 5 ≤ _; omega) ?_
    refine mm_eqh (bl_one _ _ _).symm ?_
    refine mm_dup dC_init_44 rfl ?_
    refine mm_i0 dC_init_45 lC_18 (by decide) (Nat.le_of_ble_eq_true rfl) (kR_init (h := g) (by show g.1 + 0 + 3 ≤ _; omega) (by show g.2.1 + 0 + 77 ≤ _; omega)) ?_
    refine mm_top (v' := .ref (h.1 + 128)) (congrArg Value.ref (show g.1 = _ by omega)) ?_
    refine mm_putF dC_init_48 fC_19 rfl rfl rfl rfl rfl rfl ((bl_old g _ _ lt).trans I3) (Nat.le_of_ble_eq_true rfl) (kn_nest (by decide +kernel)) ?_
    refine mm_eqh (show bl (mm_up g h.1 (.inr (4, [.ref (h.1 + 1), .ref (h.1 + 128), .null, .null, .null, .null, .null, .int (nI 0), .int (nI 0)]))) 77 (kn_RL (h.1 + 128)) = _ from ?_) ?_
    · rw [I1, bl_upold g _ _ lt]; rfl
    refine mm_aload_n dC_init_51 rfl rfl ?_
    refine mm_new dC_init_52 cC_16 rfl rfl (by show g.1 + 3 + 1 ≤ _; omega) (by show g.2.1 + 77 + 5 ≤ _; omega) ?_
    refine mm_eqh (bl_one _ _ _).symm ?_
    refine mm_dup dC_init_55 rfl ?_
    refine mm_i0 dC_init_56 lC_18 (by decide) (Nat.le_of_ble_eq_true rfl) (kR_init (h := (bl (mm_up g h.1 (.inr (4, [.ref (h.1 + 1), .ref (h.1 + 128), .null, .null, .null, .null, .null, .int (nI 0), .int (nI 0)]))) 77 (kn_RL (h.1 + 128)))) (by show g.1 + 3 + 3 ≤ _; omega) (by show g.2.1 + 77 + 77 ≤ _; omega)) ?_
    refine mm_eqh (show bl (mm_up g h.1 (.inr (4, [.ref (h.1 + 1), .ref (h.1 + 128), .null, .null, .null, .null, .null, .int (nI 0), .int (nI 0)]))) 154 (kn_RL (h.1 + 128) ++ kn_RL (h.1 + 131)) = _ from ?_) ?_
    · rw [bl_bl]
      show _ = bl _ _ (_ ++ kn_RL (g.1 + 3))
      rw [I1]
    refine mm_top (v' := .ref (h.1 + 131)) (congrArg Value.ref (show g.1 + 3 = _ by omega)) ?_
    refine mm_putF dC_init_59 fC_23 rfl rfl rfl rfl rfl rfl ((bl_old (mm_up g h.1 _) _ _ lt).trans (mm_up_at g h.1 _)) (Nat.le_of_ble_eq_true rfl) (kn_nest (by decide +kernel)) ?_
    refine mm_eqh (show bl (mm_up g h.1 (.inr (4, [.ref (h.1 + 1), .ref (h.1 + 128), .ref (h.1 + 131), .null, .null, .null, .null, .int (nI 0), .int (nI 0)]))) 154 (kn_RL (h.1 + 128) ++ kn_RL (h.1 + 131)) = _ from ?_) ?_
    · rw [bl_upold (mm_up g h.1 _) _ _ lt, kn_upup]; rfl
    refine mm_aload_n dC_init_62 rfl rfl ?_
    refine mm_new dC_init_63 cC_16 rfl rfl (by show g.1 + 6 + 1 ≤ _; omega) (by show g.2.1 + 154 + 5 ≤ _; omega) ?_
    refine mm_eqh (bl_one _ _ _).symm ?_
    refine mm_dup dC_init_66 rfl ?_
    refine mm_i0 dC_init_67 lC_18 (by decide) (Nat.le_of_ble_eq_true rfl) (kR_init (h := (bl (mm_up g h.1 (.inr (4, [.ref (h.1 + 1), .ref (h.1 + 128), .ref (h.1 + 131), .null, .null, .null, .null, .int (nI 0), .int (nI 0)]))) 154 (kn_RL (h.1 + 128) ++ kn_RL (h.1 + 131)))) (by show g.1 + 6 + 3 ≤ _; omega) (by show g.2.1 + 154 + 77 ≤ _; omega)) ?_
    refine mm_eqh (show bl (mm_up g h.1 (.inr (4, [.ref (h.1 + 1), .ref (h.1 + 128), .ref (h.1 + 131), .null, .null, .null, .null, .int (nI 0), .int (nI 0)]))) 231 (kn_RL (h.1 + 128) ++ kn_RL (h.1 + 131) ++ kn_RL (h.1 + 134)) = _ from ?_) ?_
    · rw [bl_bl]
      show _ = bl _ _ (_ ++ kn_RL (g.1 + 6))
      rw [I1]
    refine mm_top (v' := .ref (h.1 + 134)) (congrArg Value.ref (show g.1 + 6 = _ by omega)) ?_
    refine mm_putF dC_init_70 fC_26 rfl rfl rfl rfl rfl rfl ((bl_old (mm_up g h.1 _) _ _ lt).trans (mm_up_at g h.1 _)) (Nat.le_of_ble_eq_true rfl) (kn_nest (by decide +kernel)) ?_
    refine mm_eqh (show bl (mm_up g h.1 (.inr (4, [.ref (h.1 + 1), .ref (h.1 + 128), .ref (h.1 + 131), .ref (h.1 + 134), .null, .null, .null, .int (nI 0), .int (nI 0)]))) 231 (kn_RL (h.1 + 128) ++ kn_RL (h.1 + 131) ++ kn_RL (h.1 + 134)) = _ from ?_) ?_
    · rw [bl_upold (mm_up g h.1 _) _ _ lt, kn_upup]; rfl
    refine mm_aload_n dC_init_73 rfl rfl ?_
    refine mm_new dC_init_74 cC_29 rfl rfl (by show g.1 + 9 + 1 ≤ _; omega) (by show g.2.1 + 231 + 9 ≤ _; omega) ?_
    refine mm_eqh (bl_one _ _ _).symm ?_
    refine mm_dup dC_init_77 rfl ?_
    refine mm_i0 dC_init_78 lC_31 (by decide) (Nat.le_of_ble_eq_true rfl) (kK_init (h := (bl (mm_up g h.1 (.inr (4, [.ref (h.1 + 1), .ref (h.1 + 128), .ref (h.1 + 131), .ref (h.1 + 134), .null, .null, .null, .int (nI 0), .int (nI 0)]))) 231 (kn_RL (h.1 + 128) ++ kn_RL (h.1 + 131) ++ kn_RL (h.1 + 134)))) (by show g.1 + 9 + 14 ≤ _; omega) (by show g.2.1 + 231 + 135 ≤ _; omega)) ?_
    refine mm_eqh (show bl (mm_up g h.1 (.inr (4, [.ref (h.1 + 1), .ref (h.1 + 128), .ref (h.1 + 131), .ref (h.1 + 134), .null, .null, .null, .int (nI 0), .int (nI 0)]))) 366 (kn_RL (h.1 + 128) ++ kn_RL (h.1 + 131) ++ kn_RL (h.1 + 134) ++ kn_KL (h.1 + 137)) = _ from ?_) ?_
    · rw [bl_bl]
      show _ = bl _ _ (_ ++ kn_KL (g.1 + 9))
      rw [I1]
    refine mm_top (v' := .ref (h.1 + 137)) (congrArg Value.ref (show g.1 + 9 = _ by omega)) ?_
    refine mm_putF dC_init_81 fC_32 rfl rfl rfl rfl rfl rfl ((bl_old (mm_up g h.1 _) _ _ lt).trans (mm_up_at g h.1 _)) (Nat.le_of_ble_eq_true rfl) (kn_nest (by decide +kernel)) ?_
    refine mm_eqh (show bl (mm_up g h.1 (.inr (4, [.ref (h.1 + 1), .ref (h.1 + 128), .ref (h.1 + 131), .ref (h.1 + 134), .ref (h.1 + 137), .null, .null, .int (nI 0), .int (nI 0)]))) 366 (kn_RL (h.1 + 128) ++ kn_RL (h.1 + 131) ++ kn_RL (h.1 + 134) ++ kn_KL (h.1 + 137)) = _ from ?_) ?_
    · rw [bl_upold (mm_up g h.1 _) _ _ lt, kn_upup]; rfl
    refine mm_aload_n dC_init_84 rfl rfl ?_
    refine mm_new dC_init_85 cC_29 rfl rfl (by show g.1 + 23 + 1 ≤ _; omega) (by show g.2.1 + 366 + 9 ≤ _; omega) ?_
    refine mm_eqh (bl_one _ _ _).symm ?_
    refine mm_dup dC_init_88 rfl ?_
    refine mm_i0 dC_init_89 lC_31 (by decide) (Nat.le_of_ble_eq_true rfl) (kK_init (h := (bl (mm_up g h.1 (.inr (4, [.ref (h.1 + 1), .ref (h.1 + 128), .ref (h.1 + 131), .ref (h.1 + 134), .ref (h.1 + 137), .null, .null, .int (nI 0), .int (nI 0)]))) 366 (kn_RL (h.1 + 128) ++ kn_RL (h.1 + 131) ++ kn_RL (h.1 + 134) ++ kn_KL (h.1 + 137)))) (by show g.1 + 23 + 14 ≤ _; omega) (by show g.2.1 + 366 + 135 ≤ _; omega)) ?_
    refine mm_eqh (show bl (mm_up g h.1 (.inr (4, [.ref (h.1 + 1), .ref (h.1 + 128), .ref (h.1 + 131), .ref (h.1 + 134), .ref (h.1 + 137), .null, .null, .int (nI 0), .int (nI 0)]))) 501 (kn_RL (h.1 + 128) ++ kn_RL (h.1 + 131) ++ kn_RL (h.1 + 134) ++ kn_KL (h.1 + 137) ++ kn_KL (h.1 + 151)) = _ from ?_) ?_
    · rw [bl_bl]
      show _ = bl _ _ (_ ++ kn_KL (g.1 + 23))
      rw [I1]
    refine mm_top (v' := .ref (h.1 + 151)) (congrArg Value.ref (show g.1 + 23 = _ by omega)) ?_
    refine mm_putF dC_init_92 fC_36 rfl rfl rfl rfl rfl rfl ((bl_old (mm_up g h.1 _) _ _ lt).trans (mm_up_at g h.1 _)) (Nat.le_of_ble_eq_true rfl) (kn_nest (by decide +kernel)) ?_
    refine mm_eqh (show bl (mm_up g h.1 (.inr (4, [.ref (h.1 + 1), .ref (h.1 + 128), .ref (h.1 + 131), .ref (h.1 + 134), .ref (h.1 + 137), .ref (h.1 + 151), .null, .int (nI 0), .int (nI 0)]))) 501 (kn_RL (h.1 + 128) ++ kn_RL (h.1 + 131) ++ kn_RL (h.1 + 134) ++ kn_KL (h.1 + 137) ++ kn_KL (h.1 + 151)) = _ from ?_) ?_
    · rw [bl_upold (mm_up g h.1 _) _ _ lt, kn_upup]; rfl
    refine mm_aload_n dC_init_95 rfl rfl ?_
    refine mm_bipush (v := nI 6) dC_init_96 (by decide) ?_
    refine mm_newarr dC_init_98 rfl (by decide) kw_ai (kn_ints (N := 6) (f := fun i => mm_enc (kn_z 6 i)) (kn_z_0 6)) rfl (by decide) (by decide) (by show g.1 + 37 + 1 ≤ _; omega) (by show g.2.1 + 501 + 6 ≤ _; omega) ?_
    refine mm_eqh (bl_add _ _ _ _ _).symm ?_
    refine mm_top (v' := .ref (h.1 + 165)) (congrArg Value.ref (show g.1 + 37 = _ by omega)) ?_
    refine mm_putF dC_init_100 fC_39 rfl rfl rfl rfl rfl rfl ((bl_old (mm_up g h.1 _) _ _ lt).trans (mm_up_at g h.1 _)) (Nat.le_of_ble_eq_true rfl) (kn_nest (by decide +kernel)) ?_
    refine mm_eqh (show bl (mm_up g h.1 (.inr (4, [.ref (h.1 + 1), .ref (h.1 + 128), .ref (h.1 + 131), .ref (h.1 + 134), .ref (h.1 + 137), .ref (h.1 + 151), .ref (h.1 + 165), .int (nI 0), .int (nI 0)]))) 507 (kn_CL h.1) = _ from ?_) ?_
    · rw [bl_upold (mm_up g h.1 _) _ _ lt, kn_upup]; rfl
    refine mm_aload_n dC_init_103 rfl rfl ?_
    refine mm_iconst (v := nI 1) dC_init_104 (by decide) ?_
    refine mm_putf dC_init_105 fC_43 rfl rfl rfl rfl ((bl_old (mm_up g h.1 _) _ _ lt).trans (mm_up_at g h.1 _)) (Nat.le_of_ble_eq_true rfl) ?_
    refine mm_eqh (show bl (mm_up g h.1 (.inr (4, [.ref (h.1 + 1), .ref (h.1 + 128), .ref (h.1 + 131), .ref (h.1 + 134), .ref (h.1 + 137), .ref (h.1 + 151), .ref (h.1 + 165), .int (mm_bI true), .int (nI 0)]))) 507 (kn_CL h.1) = _ from ?_) ?_
    · rw [bl_upold (mm_up g h.1 _) _ _ lt, kn_upup]; rfl
    refine mm_aload_n dC_init_108 rfl rfl ?_
    refine mm_iconst (v := nI 0) dC_init_109 (by decide) ?_
    refine mm_putf dC_init_110 fC_47 rfl rfl rfl rfl ((bl_old (mm_up g h.1 _) _ _ lt).trans (mm_up_at g h.1 _)) (Nat.le_of_ble_eq_true rfl) ?_
    refine mm_eqh (show bl (mm_up g h.1 (.inr (4, [.ref (h.1 + 1), .ref (h.1 + 128), .ref (h.1 + 131), .ref (h.1 + 134), .ref (h.1 + 137), .ref (h.1 + 151), .ref (h.1 + 165), .int (mm_bI true), .int (nI 0)]))) 507 (kn_CL h.1) = _ from ?_) ?_
    · rw [bl_upold (mm_up g h.1 _) _ _ lt, kn_upup]; rfl
    refine mm_return dC_init_113 rfl ?_
    exact fin
  have loop : ∀ (j i : Nat) (g : mm_H), i + j = 21 → kn_I h i g → mm_W Γ l mC_init (d + 1 + 1) (kn_DC h) 15 [some (.ref h.1), some (.int (nI i))] [] g := by
    intro j
    induction j with
    | zero =>
      intro i g hi I
      have hi : i = 21 := by omega
      subst hi
      refine mm_iload_n dC_init_15 rfl rfl ?_
      refine mm_bipush (v := nI 20) dC_init_16 (by decide) ?_
      refine mm_icmp_gt_T (tgt := 40) dC_init_18 (by decide) (nI_lt (by decide) (by decide)) ?_
      exact tail g _ I
    | succ j ih =>
      intro i g hi I
      have In := kn_I_next I
      obtain ⟨I1, I2, I3, I4, I5, I6⟩ := I
      have hb : kc_b h.1 i = g.1 := by unfold kc_b; omega
      refine mm_iload_n dC_init_15 rfl rfl ?_
      refine mm_bipush (v := nI 20) dC_init_16 (by decide) ?_
      refine mm_icmp_gt_F (tgt := 40) dC_init_18 (by decide) (nI_nlt (by omega) (by omega)) ?_
      refine mm_aload_n dC_init_21 rfl rfl ?_
      refine mm_getf dC_init_22 fC_11 I3 rfl ?_
      refine mm_iload_n dC_init_25 rfl rfl ?_
      refine mm_new dC_init_26 cC_9 rfl rfl (by omega) (by show g.2.1 + 5 ≤ _; omega) ?_
      refine mm_eqh (bl_one _ _ _).symm ?_
      refine mm_dup dC_init_29 rfl ?_
      refine mm_i0 dC_init_30 lC_15 (by decide) (Nat.le_of_ble_eq_true rfl) (kS_init (h := g) (by omega) (by omega)) ?_
      refine mm_aastore dC_init_33 ((bl_old g _ _ (by omega)).trans I4) (bl_at0 rfl) rfl (by omega) (by decide) ?_
      refine mm_eqh (show mm_up (bl g 72 (kn_SL g.1 kn_S0)) (h.1 + 1) (kn_row h.1 (i + 1)) = _ from ?_) ?_
      · unfold kn_row; rw [← kn_row_up h.1 i, hb]
      refine mm_iinc dC_init_34 (by decide) rfl (mm_inc _) rfl ?_
      refine mm_goto (tgt := 15) dC_init_37 (by decide) ?_
      exact ih (i + 1) _ (by omega) In
  show mm_W Γ l mC_init (d + 1 + 1) _ 0 [some (.ref h.1), none] [] _
  refine mm_aload_n dC_init_0 rfl rfl ?_
  refine mm_objInit dC_init_1 lC_3 kw_oi kw_oc (by decide) ?_
  refine mm_aload_n dC_init_4 rfl rfl ?_
  refine mm_bipush (v := nI 21) dC_init_5 (by decide) ?_
  refine mm_anew dC_init_7 (N := 21) (mm_in 87 (by decide +kernel) rfl) kw_ao rfl (by decide) (by show h.1 + 1 + 1 ≤ _; omega) (by show h.2.1 + 9 + 21 ≤ _; omega) ?_
  refine mm_eqh (bl_add _ _ _ _ _).symm ?_
  refine mm_putF dC_init_10 fC_11 rfl rfl rfl rfl rfl rfl (bl_at0 rfl) (Nat.le_of_ble_eq_true rfl) (kn_nest (by decide +kernel)) ?_
  refine mm_eqh (bl_up0 _ _ _ (Nat.le_of_ble_eq_true rfl) _).symm ?_
  refine mm_iconst (v := nI 0) dC_init_13 (by decide) ?_
  refine mm_istore_n dC_init_14 rfl (by decide) rfl ?_
  refine loop 21 0 _ rfl ⟨rfl, rfl, bl_at0 rfl, (bl_at (i := 1) rfl).trans ?_, fun j hj => absurd hj (by omega), fun q hq => bl_old _ _ _ hq⟩
  unfold kn_row
  congr 6
end KI2
