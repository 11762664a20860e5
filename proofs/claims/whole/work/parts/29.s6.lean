/-! Contracts of Sheet: taking over. Printed by wip/whole/spec/s6.py -/
theorem ks_at_other {h : mm_H} {b b2 : Nat} {S2 : ks_S} (S : ks_S) (a2 : ks_at h b2 S2) (hd : b + 5 < b2 ∨ b2 + 5 < b) : ks_at (ks_set h b S) b2 S2 := by
  obtain ⟨a0, a1, a2, a3, a4, a5⟩ := a2
  exact ⟨by rw [ks_set_out _ _ _ (by omega)]; exact a0, by rw [ks_set_out _ _ _ (by omega)]; exact a1, by rw [ks_set_out _ _ _ (by omega)]; exact a2, by rw [ks_set_out _ _ _ (by omega)]; exact a3, by rw [ks_set_out _ _ _ (by omega)]; exact a4, by rw [ks_set_out _ _ _ (by omega)]; exact a5⟩
section KS6
variable {Γ : mm_G} {l : Launch} {d : Nat} {h : mm_H} {b b2 : Nat} {S S2 : ks_S}
theorem kS_takeOver (a : ks_at h b S) (a2 : ks_at h b2 S2) (hd : b + 5 < b2 ∨ b2 + 5 < b) : mm_Ev Γ l d mS_takeOver [.ref b, .ref b2] h (mm_is (.inl none) (ks_set h b S2)) := by
  show mm_W Γ l mS_takeOver d _ 0 [some (.ref b), some (.ref b2)] [] h
  refine mm_aload_n dS_takeOver_0 rfl rfl ?_
  refine mm_getf dS_takeOver_1 fS_9 a2.1 rfl ?_
  refine mm_iconst (v := nI 0) dS_takeOver_4 (by decide) ?_
  refine mm_aload_n dS_takeOver_5 rfl rfl ?_
  refine mm_getf dS_takeOver_6 fS_9 a.1 rfl ?_
  refine mm_iconst (v := nI 0) dS_takeOver_9 (by decide) ?_
  refine mm_bipush (v := nI 12) dS_takeOver_10 (by decide) ?_
  refine mm_copyi dS_takeOver_12 lS_27 kw_nat kw_sta kw_ini a2.2.1 a.2.1 rfl (by decide) (by decide) (by decide) (by decide) ?_
  refine mm_cong (mm_up_at _ _ _) (g := fun i => mm_enc (S2.1 i)) (fun i hi => sb_cpy0 hi) ?_
  rw [mm_up_up]
  refine mm_eqh (ks_up_row a (k := 0) (by decide) S2.1).symm ?_
  have a00 := ks_set_at (b := b) (S2.1, S.2) a.1
  have a02 := ks_at_other (b := b) (S2.1, S.2) a2 hd
  refine mm_aload_n dS_takeOver_15 rfl rfl ?_
  refine mm_getf dS_takeOver_16 fS_15 a02.1 rfl ?_
  refine mm_iconst (v := nI 0) dS_takeOver_19 (by decide) ?_
  refine mm_aload_n dS_takeOver_20 rfl rfl ?_
  refine mm_getf dS_takeOver_21 fS_15 a00.1 rfl ?_
  refine mm_iconst (v := nI 0) dS_takeOver_24 (by decide) ?_
  refine mm_bipush (v := nI 13) dS_takeOver_25 (by decide) ?_
  refine mm_copyi dS_takeOver_27 lS_27 kw_nat kw_sta kw_ini a02.2.2.1 a00.2.2.1 rfl (by decide) (by decide) (by decide) (by decide) ?_
  refine mm_cong (mm_up_at _ _ _) (g := fun i => mm_enc (S2.2.1 i)) (fun i hi => sb_cpy0 hi) ?_
  rw [mm_up_up]
  refine mm_eqh (ks_up_row a00 (k := 1) (by decide) S2.2.1).symm ?_
  have a10 := ks_set_at (b := b) (S2.1, S2.2.1, S.2.2) a00.1
  have a12 := ks_at_other (b := b) (S2.1, S2.2.1, S.2.2) a02 hd
  refine mm_aload_n dS_takeOver_30 rfl rfl ?_
  refine mm_getf dS_takeOver_31 fS_18 a12.1 rfl ?_
  refine mm_iconst (v := nI 0) dS_takeOver_34 (by decide) ?_
  refine mm_aload_n dS_takeOver_35 rfl rfl ?_
  refine mm_getf dS_takeOver_36 fS_18 a10.1 rfl ?_
  refine mm_iconst (v := nI 0) dS_takeOver_39 (by decide) ?_
  refine mm_bipush (v := nI 6) dS_takeOver_40 (by decide) ?_
  refine mm_copyi dS_takeOver_42 lS_27 kw_nat kw_sta kw_ini a12.2.2.2.1 a10.2.2.2.1 rfl (by decide) (by decide) (by decide) (by decide) ?_
  refine mm_cong (mm_up_at _ _ _) (g := fun i => mm_enc (S2.2.2.1 i)) (fun i hi => sb_cpy0 hi) ?_
  rw [mm_up_up]
  refine mm_eqh (ks_up_row a10 (k := 2) (by decide) S2.2.2.1).symm ?_
  have a20 := ks_set_at (b := b) (S2.1, S2.2.1, S2.2.2.1, S.2.2.2) a10.1
  have a22 := ks_at_other (b := b) (S2.1, S2.2.1, S2.2.2.1, S.2.2.2) a12 hd
  refine mm_aload_n dS_takeOver_45 rfl rfl ?_
  refine mm_getf dS_takeOver_46 fS_21 a22.1 rfl ?_
  refine mm_iconst (v := nI 0) dS_takeOver_49 (by decide) ?_
  refine mm_aload_n dS_takeOver_50 rfl rfl ?_
  refine mm_getf dS_takeOver_51 fS_21 a20.1 rfl ?_
  refine mm_iconst (v := nI 0) dS_takeOver_54 (by decide) ?_
  refine mm_bipush (v := nI 12) dS_takeOver_55 (by decide) ?_
  refine mm_copyi dS_takeOver_57 lS_27 kw_nat kw_sta kw_ini a22.2.2.2.2.1 a20.2.2.2.2.1 rfl (by decide) (by decide) (by decide) (by decide) ?_
  refine mm_cong (mm_up_at _ _ _) (g := fun i => nI (S2.2.2.2.1 i)) (fun i hi => sb_cpy0 hi) ?_
  rw [mm_up_up]
  refine mm_eqh (ks_up_sign a20 S2.2.2.2.1).symm ?_
  have a30 := ks_set_at (b := b) (S2.1, S2.2.1, S2.2.2.1, S2.2.2.2.1, S.2.2.2.2) a20.1
  have a32 := ks_at_other (b := b) (S2.1, S2.2.1, S2.2.2.1, S2.2.2.2.1, S.2.2.2.2) a22 hd
  refine mm_aload_n dS_takeOver_60 rfl rfl ?_
  refine mm_getf dS_takeOver_61 fS_24 a32.1 rfl ?_
  refine mm_iconst (v := nI 0) dS_takeOver_64 (by decide) ?_
  refine mm_aload_n dS_takeOver_65 rfl rfl ?_
  refine mm_getf dS_takeOver_66 fS_24 a30.1 rfl ?_
  refine mm_iconst (v := nI 0) dS_takeOver_69 (by decide) ?_
  refine mm_bipush (v := nI 24) dS_takeOver_70 (by decide) ?_
  refine mm_copyi dS_takeOver_72 lS_27 kw_nat kw_sta kw_ini a32.2.2.2.2.2 a30.2.2.2.2.2 rfl (by decide) (by decide) (by decide) (by decide) ?_
  refine mm_cong (mm_up_at _ _ _) (g := fun i => mm_enc (S2.2.2.2.2 i)) (fun i hi => sb_cpy0 hi) ?_
  rw [mm_up_up]
  refine mm_eqh (ks_up_hook a30 S2.2.2.2.2).symm ?_
  refine mm_return dS_takeOver_75 rfl ?_
  exact ⟨rfl, by rw [ks_set_set, ks_set_set, ks_set_set, ks_set_set]⟩
end KS6
