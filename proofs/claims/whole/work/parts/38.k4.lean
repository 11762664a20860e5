/-! Contracts of Look: arrange. Printed by wip/whole/spec/k4.py -/
theorem bk_sub (h : mm_H) (b : Nat) {n : Nat} (c c' : Nat → mm_E) {i m : Nat} (hi : i + m ≤ n) : bk_set (bk_set h b n c) (b + i) m c' = bk_set h b n (fun j => if i ≤ j ∧ j < i + m then c' (j - i) else c j) := by
  refine ks_set_ext rfl rfl fun q => ?_
  show (if b + i ≤ q ∧ q < b + i + m then some (c' (q - (b + i))) else if b ≤ q ∧ q < b + n then some (c (q - b)) else _) = if b ≤ q ∧ q < b + n then some (if i ≤ q - b ∧ q - b < i + m then c' (q - b - i) else c (q - b)) else _
  by_cases h1 : b + i ≤ q ∧ q < b + i + m
  · rw [if_pos h1, if_pos (by omega), if_pos (by omega), show q - (b + i) = q - b - i by omega]
  · rw [if_neg h1]
    by_cases h2 : b ≤ q ∧ q < b + n
    · rw [if_pos h2, if_pos h2, if_neg (by omega)]
    · rw [if_neg h2, if_neg h2]
section KK3
variable {Γ : mm_G} {l : Launch} {d : Nat} {h : mm_H} {k b : Nat} {K : kl_K} {S : ks_S}
theorem kl_g1 (K : kl_K) (L : kg_G) : bk_set (kl_set h k K) (k + 1) 3 (kg_cell (k + 1) 6 L) = kl_set h k ((L, K.1.2), K.2) := by
  unfold kl_set
  rw [bk_sub _ _ _ _ (by decide)]
  exact bk_cong (kl_14 rfl rfl rfl rfl rfl rfl rfl rfl rfl rfl rfl rfl rfl rfl)
theorem kl_g2 (K : kl_K) (L : kg_G) : bk_set (kl_set h k K) (k + 4) 3 (kg_cell (k + 4) 12 L) = kl_set h k ((K.1.1, L, K.1.2.2), K.2) := by
  unfold kl_set
  rw [bk_sub _ _ _ _ (by decide)]
  exact bk_cong (kl_14 rfl rfl rfl rfl rfl rfl rfl rfl rfl rfl rfl rfl rfl rfl)
theorem kl_g3 (K : kl_K) (L : kg_G) : bk_set (kl_set h k K) (k + 7) 3 (kg_cell (k + 7) 12 L) = kl_set h k ((K.1.1, K.1.2.1, L), K.2) := by
  unfold kl_set
  rw [bk_sub _ _ _ _ (by decide)]
  exact bk_cong (kl_14 rfl rfl rfl rfl rfl rfl rfl rfl rfl rfl rfl rfl rfl rfl)
def kl_ha (K : kl_K) (f : Nat → Option Nat) : kl_K := (K.1, f, K.2.2)
theorem kl_up_ha (K : kl_K) (f : Nat → Option Nat) : mm_up (kl_set h k K) (k + 10) (ks_arr 6 f) = kl_set h k (kl_ha K f) := by
  refine kl_up (i := 10) (by decide) rfl ?_
  exact kl_14 (fun _ => rfl) (fun _ => rfl) (fun _ => rfl) (fun _ => rfl) (fun _ => rfl) (fun _ => rfl) (fun _ => rfl) (fun _ => rfl) (fun _ => rfl) (fun _ => rfl) (fun h => absurd rfl h) (fun _ => rfl) (fun _ => rfl) (fun _ => rfl)
theorem kl_up_sg (K : kl_K) (f : Nat → Nat) : mm_up (kl_set h k K) (k + 11) (kg_ar 12 f) = kl_set h k (K.1, K.2.1, f, K.2.2.2) := by
  refine kl_up (i := 11) (by decide) rfl ?_
  exact kl_14 (fun _ => rfl) (fun _ => rfl) (fun _ => rfl) (fun _ => rfl) (fun _ => rfl) (fun _ => rfl) (fun _ => rfl) (fun _ => rfl) (fun _ => rfl) (fun _ => rfl) (fun _ => rfl) (fun h => absurd rfl h) (fun _ => rfl) (fun _ => rfl)
theorem kl_up_hk (K : kl_K) (f : Nat → Option Nat) : mm_up (kl_set h k K) (k + 12) (ks_arr 24 f) = kl_set h k (K.1, K.2.1, K.2.2.1, f, K.2.2.2.2) := by
  refine kl_up (i := 12) (by decide) rfl ?_
  exact kl_14 (fun _ => rfl) (fun _ => rfl) (fun _ => rfl) (fun _ => rfl) (fun _ => rfl) (fun _ => rfl) (fun _ => rfl) (fun _ => rfl) (fun _ => rfl) (fun _ => rfl) (fun _ => rfl) (fun _ => rfl) (fun h => absurd rfl h) (fun _ => rfl)
def kl_hook (S : ks_S) (n : Nat) : Option Nat := if ks_hooked S n = true then S.2.2.1 n else none
def kl_hooks (S : ks_S) (f : Nat → Option Nat) (i : Nat) : Nat → Option Nat := fun q => if q < i then kl_hook S q else f q
def kl_arr (S : ks_S) (K : kl_K) : kl_K := ((kg_arr (kl_hooks S K.2.1 6) 6 6 K.1.1, kg_arr S.1 12 12 K.1.2.1, kg_arr S.2.1 13 12 K.1.2.2), kl_hooks S K.2.1 6, S.2.2.2.1, S.2.2.2.2, K.2.2.2.2)
theorem kl_hooks_u (S : ks_S) (f : Nat → Option Nat) (i : Nat) : ks_u (kl_hooks S f i) i (kl_hook S i) = kl_hooks S f (i + 1) := by
  funext q
  unfold ks_u kl_hooks
  by_cases h1 : q = i
  · rw [if_pos h1, if_pos (by omega), h1]
  · rw [if_neg h1]
    by_cases h2 : q < i
    · rw [if_pos h2, if_pos (by omega)]
    · rw [if_neg h2, if_neg (by omega)]
theorem ks_at_look {h : mm_H} {b k : Nat} {S : ks_S} (K : kl_K) (a : ks_at h b S) (hd : k + 13 < b ∨ b + 5 < k) : ks_at (kl_set h k K) b S := by
  obtain ⟨a0, a1, a2, a3, a4, a5⟩ := a
  unfold kl_set
  exact ⟨by rw [bk_out _ _ (by omega)]; exact a0, by rw [bk_out _ _ (by omega)]; exact a1, by rw [bk_out _ _ (by omega)]; exact a2, by rw [bk_out _ _ (by omega)]; exact a3, by rw [bk_out _ _ (by omega)]; exact a4, by rw [bk_out _ _ (by omega)]; exact a5⟩
theorem kK_arrange (a : ks_at h b S) (os : ks_ok S) (hd : k + 13 < b ∨ b + 5 < k) : mm_Ev Γ l (d + 1) mK_arrange [.ref k, .ref b] (kl_set h k K) (mm_is (.inl none) (kl_set h k (kl_arr S K))) := by
  have hsm : ∀ i, i < 6 → mm_sm (kl_hooks S K.2.1 6 i) := by
    intro i hi
    unfold kl_hooks kl_hook
    rw [if_pos hi]
    by_cases hq : ks_hooked S i = true
    · rw [if_pos hq]; exact os.sm (k := 2) hi
    · rw [if_neg hq]; exact mm_sm_none
  have e1 : mm_Ev Γ l d mG_arrange [.ref (k + 1), .ref (k + 10)] (kl_set h k (kl_ha K (kl_hooks S K.2.1 6))) (mm_is (.inl none) (kl_set h k ((kg_arr (kl_hooks S K.2.1 6) 6 6 K.1.1, K.1.2), kl_hooks S K.2.1 6, K.2.2))) := by
    have hh := kG_arrange (Γ := Γ) (l := l) (d := d) (h := kl_set h k (kl_ha K (kl_hooks S K.2.1 6))) (g := k + 1) (c := k + 10) (most := 6) (n := 6) (f := kl_hooks S K.2.1 6) K.1.1 (kl_at h k _ (i := 10) (by decide)) (by omega) hsm (by decide) (by decide)
    rw [kl_g1, kl_g1] at hh
    exact hh
  have e2 : mm_Ev Γ l d mG_arrange [.ref (k + 4), .ref (b + 1)] (kl_set h k ((kg_arr (kl_hooks S K.2.1 6) 6 6 K.1.1, K.1.2), kl_hooks S K.2.1 6, K.2.2)) (mm_is (.inl none) (kl_set h k ((kg_arr (kl_hooks S K.2.1 6) 6 6 K.1.1, kg_arr S.1 12 12 K.1.2.1, K.1.2.2), kl_hooks S K.2.1 6, K.2.2))) := by
    have hh := kG_arrange (Γ := Γ) (l := l) (d := d) (h := kl_set h k ((kg_arr (kl_hooks S K.2.1 6) 6 6 K.1.1, K.1.2), kl_hooks S K.2.1 6, K.2.2)) (g := k + 4) (c := b + 1) (most := 12) (n := 12) (f := S.1) K.1.2.1 (ks_at_look _ a hd).2.1 (by omega) (fun i hi => os.sm (k := 0) hi) (by decide) (by decide)
    rw [kl_g2, kl_g2] at hh
    exact hh
  have e3 : mm_Ev Γ l d mG_arrange [.ref (k + 7), .ref (b + 2)] (kl_set h k ((kg_arr (kl_hooks S K.2.1 6) 6 6 K.1.1, kg_arr S.1 12 12 K.1.2.1, K.1.2.2), kl_hooks S K.2.1 6, K.2.2)) (mm_is (.inl none) (kl_set h k ((kg_arr (kl_hooks S K.2.1 6) 6 6 K.1.1, kg_arr S.1 12 12 K.1.2.1, kg_arr S.2.1 13 12 K.1.2.2), kl_hooks S K.2.1 6, K.2.2))) := by
    have hh := kG_arrange (Γ := Γ) (l := l) (d := d) (h := kl_set h k ((kg_arr (kl_hooks S K.2.1 6) 6 6 K.1.1, kg_arr S.1 12 12 K.1.2.1, K.1.2.2), kl_hooks S K.2.1 6, K.2.2)) (g := k + 7) (c := b + 2) (most := 12) (n := 13) (f := S.2.1) K.1.2.2 (ks_at_look _ a hd).2.2.1 (by omega) (fun i hi => os.sm (k := 1) hi) (by decide) (by decide)
    rw [kl_g3, kl_g3] at hh
    exact hh
  have rest : mm_W Γ l mK_arrange (d + 1) (mm_is (.inl none) (kl_set h k (kl_arr S K))) 38 [some (.ref k), some (.ref b), none] [] (kl_set h k (kl_ha K (kl_hooks S K.2.1 6))) := by
    have b6 := ks_at_look (kl_ha K (kl_hooks S K.2.1 6)) a hd
    have b7 := ks_at_look ((kg_arr (kl_hooks S K.2.1 6) 6 6 K.1.1, K.1.2), kl_hooks S K.2.1 6, K.2.2) a hd
    have b8 := ks_at_look ((kg_arr (kl_hooks S K.2.1 6) 6 6 K.1.1, kg_arr S.1 12 12 K.1.2.1, K.1.2.2), kl_hooks S K.2.1 6, K.2.2) a hd
    have b9 := ks_at_look ((kg_arr (kl_hooks S K.2.1 6) 6 6 K.1.1, kg_arr S.1 12 12 K.1.2.1, kg_arr S.2.1 13 12 K.1.2.2), kl_hooks S K.2.1 6, K.2.2) a hd
    have b10 := ks_at_look ((kg_arr (kl_hooks S K.2.1 6) 6 6 K.1.1, kg_arr S.1 12 12 K.1.2.1, kg_arr S.2.1 13 12 K.1.2.2), kl_hooks S K.2.1 6, S.2.2.2.1, K.2.2.2) a hd
    refine mm_aload_n dK_arrange_38 rfl rfl ?_
    refine mm_getf dK_arrange_39 fK_14 (kl_at0 h k (kl_ha K (kl_hooks S K.2.1 6))) rfl ?_
    refine mm_aload_n dK_arrange_42 rfl rfl ?_
    refine mm_getf dK_arrange_43 fK_26 (kl_at0 h k (kl_ha K (kl_hooks S K.2.1 6))) rfl ?_
    refine mm_v1 dK_arrange_46 lK_55 (kl_at h k (kl_ha K (kl_hooks S K.2.1 6)) (i := 1) (by decide)) rfl (by decide) (Nat.le_of_ble_eq_true rfl) (e1) ?_
    refine mm_aload_n dK_arrange_49 rfl rfl ?_
    refine mm_getf dK_arrange_50 fK_20 (kl_at0 h k ((kg_arr (kl_hooks S K.2.1 6) 6 6 K.1.1, K.1.2), kl_hooks S K.2.1 6, K.2.2)) rfl ?_
    refine mm_aload_n dK_arrange_53 rfl rfl ?_
    refine mm_getf dK_arrange_54 fK_59 b7.1 rfl ?_
    refine mm_v1 dK_arrange_57 lK_55 (kl_at h k ((kg_arr (kl_hooks S K.2.1 6) 6 6 K.1.1, K.1.2), kl_hooks S K.2.1 6, K.2.2) (i := 4) (by decide)) rfl (by decide) (Nat.le_of_ble_eq_true rfl) (e2) ?_
    refine mm_aload_n dK_arrange_60 rfl rfl ?_
    refine mm_getf dK_arrange_61 fK_23 (kl_at0 h k ((kg_arr (kl_hooks S K.2.1 6) 6 6 K.1.1, kg_arr S.1 12 12 K.1.2.1, K.1.2.2), kl_hooks S K.2.1 6, K.2.2)) rfl ?_
    refine mm_aload_n dK_arrange_64 rfl rfl ?_
    refine mm_getf dK_arrange_65 fK_62 b8.1 rfl ?_
    refine mm_v1 dK_arrange_68 lK_55 (kl_at h k ((kg_arr (kl_hooks S K.2.1 6) 6 6 K.1.1, kg_arr S.1 12 12 K.1.2.1, K.1.2.2), kl_hooks S K.2.1 6, K.2.2) (i := 7) (by decide)) rfl (by decide) (Nat.le_of_ble_eq_true rfl) (e3) ?_
    refine mm_aload_n dK_arrange_71 rfl rfl ?_
    refine mm_getf dK_arrange_72 fK_65 b9.1 rfl ?_
    refine mm_iconst (v := nI 0) dK_arrange_75 (by decide) ?_
    refine mm_aload_n dK_arrange_76 rfl rfl ?_
    refine mm_getf dK_arrange_77 fK_30 (kl_at0 h k ((kg_arr (kl_hooks S K.2.1 6) 6 6 K.1.1, kg_arr S.1 12 12 K.1.2.1, kg_arr S.2.1 13 12 K.1.2.2), kl_hooks S K.2.1 6, K.2.2)) rfl ?_
    refine mm_iconst (v := nI 0) dK_arrange_80 (by decide) ?_
    refine mm_bipush (v := nI 12) dK_arrange_81 (by decide) ?_
    refine mm_copyi dK_arrange_83 lK_68 kw_nat kw_sta kw_ini b9.2.2.2.2.1 (kl_at h k ((kg_arr (kl_hooks S K.2.1 6) 6 6 K.1.1, kg_arr S.1 12 12 K.1.2.1, kg_arr S.2.1 13 12 K.1.2.2), kl_hooks S K.2.1 6, K.2.2) (i := 11) (by decide)) rfl (by decide) (by decide) (by decide) (by decide) ?_
    refine mm_cong (mm_up_at _ _ _) (g := fun i => nI (S.2.2.2.1 i)) (fun i hi => sb_cpy0 hi) ?_
    rw [mm_up_up]
    refine mm_eqh (kl_up_sg ((kg_arr (kl_hooks S K.2.1 6) 6 6 K.1.1, kg_arr S.1 12 12 K.1.2.1, kg_arr S.2.1 13 12 K.1.2.2), kl_hooks S K.2.1 6, K.2.2) S.2.2.2.1).symm ?_
    refine mm_aload_n dK_arrange_86 rfl rfl ?_
    refine mm_getf dK_arrange_87 fK_74 b10.1 rfl ?_
    refine mm_iconst (v := nI 0) dK_arrange_90 (by decide) ?_
    refine mm_aload_n dK_arrange_91 rfl rfl ?_
    refine mm_getf dK_arrange_92 fK_33 (kl_at0 h k ((kg_arr (kl_hooks S K.2.1 6) 6 6 K.1.1, kg_arr S.1 12 12 K.1.2.1, kg_arr S.2.1 13 12 K.1.2.2), kl_hooks S K.2.1 6, S.2.2.2.1, K.2.2.2)) rfl ?_
    refine mm_iconst (v := nI 0) dK_arrange_95 (by decide) ?_
    refine mm_bipush (v := nI 24) dK_arrange_96 (by decide) ?_
    refine mm_copyi dK_arrange_98 lK_68 kw_nat kw_sta kw_ini b10.2.2.2.2.2 (kl_at h k ((kg_arr (kl_hooks S K.2.1 6) 6 6 K.1.1, kg_arr S.1 12 12 K.1.2.1, kg_arr S.2.1 13 12 K.1.2.2), kl_hooks S K.2.1 6, S.2.2.2.1, K.2.2.2) (i := 12) (by decide)) rfl (by decide) (by decide) (by decide) (by decide) ?_
    refine mm_cong (mm_up_at _ _ _) (g := fun i => mm_enc (S.2.2.2.2 i)) (fun i hi => sb_cpy0 hi) ?_
    rw [mm_up_up]
    refine mm_eqh (kl_up_hk ((kg_arr (kl_hooks S K.2.1 6) 6 6 K.1.1, kg_arr S.1 12 12 K.1.2.1, kg_arr S.2.1 13 12 K.1.2.2), kl_hooks S K.2.1 6, S.2.2.2.1, K.2.2.2) S.2.2.2.2).symm ?_
    refine mm_return dK_arrange_101 rfl ?_
    exact ⟨rfl, rfl⟩
  have loop : ∀ (j i : Nat), i + j = 6 → mm_W Γ l mK_arrange (d + 1) (mm_is (.inl none) (kl_set h k (kl_arr S K))) 2 [some (.ref k), some (.ref b), some (.int (nI i))] [] (kl_set h k (kl_ha K (kl_hooks S K.2.1 i))) := by
    intro j
    induction j with
    | zero =>
      intro i hi
      have hi : i = 6 := by omega
      subst hi
      refine mm_iload_n dK_arrange_2 rfl rfl ?_
      refine mm_bipush (v := nI 6) dK_arrange_3 (by decide) ?_
      refine mm_icmp_ge_T (tgt := 38) dK_arrange_5 (by decide) (nI_le (by omega) (by omega)) ?_
      exact mm_sub (fun i v hv => by
        match i, hv with
        | 0, hv => exact hv
        | 1, hv => exact hv
        | 2, hv => cases hv
        | n + 3, hv => cases hv) rest
    | succ j ih =>
      intro i hi
      have bi := ks_at_look (kl_ha K (kl_hooks S K.2.1 i)) a hd
      have hh := ih (i + 1) (by omega)
      refine mm_iload_n dK_arrange_2 rfl rfl ?_
      refine mm_bipush (v := nI 6) dK_arrange_3 (by decide) ?_
      refine mm_icmp_ge_F (tgt := 38) dK_arrange_5 (by decide) (nI_ge (by omega) (by omega)) ?_
      refine mm_aload_n dK_arrange_8 rfl rfl ?_
      refine mm_getf dK_arrange_9 fK_26 (kl_at0 h k (kl_ha K (kl_hooks S K.2.1 i))) rfl ?_
      refine mm_iload_n dK_arrange_12 rfl rfl ?_
      refine mm_aload_n dK_arrange_13 rfl rfl ?_
      refine mm_iload_n dK_arrange_14 rfl rfl ?_
      refine mm_v1 dK_arrange_15 lK_46 bi.1 rfl (by decide) (Nat.le_of_ble_eq_true rfl) (kS_isHooked bi os (ln := i) (by omega)) ?_
      refine mm_if_eq_b (tgt := 30) dK_arrange_18 (by decide) (fun q18 => ?_) (fun q18 => ?_)
      · refine mm_iconst (v := -1) dK_arrange_30 (by decide) ?_
        refine mm_top (v' := .int (mm_enc (kl_hook S i))) (congrArg Value.int (by unfold kl_hook; rw [if_neg (by rw [q18]; decide)]; rfl)) ?_
        refine mm_iastore dK_arrange_31 (kl_at h k (kl_ha K (kl_hooks S K.2.1 i)) (i := 10) (by decide)) rfl (by omega) (by decide) ?_
        refine mm_eqh (show kl_set h k (kl_ha K (kl_hooks S K.2.1 (i + 1))) = _ by rw [← kl_hooks_u, show kl_ha K (ks_u (kl_hooks S K.2.1 i) i (kl_hook S i)) = kl_ha (kl_ha K (kl_hooks S K.2.1 i)) (ks_u (kl_hooks S K.2.1 i) i (kl_hook S i)) from rfl, ← kl_up_ha]; unfold ks_arr; rw [← ks_u_enc]; rfl) ?_
        refine mm_iinc dK_arrange_32 (by decide) rfl (mm_inc _) rfl ?_
        refine mm_goto (tgt := 2) dK_arrange_35 (by decide) ?_
        exact hh
      · refine mm_aload_n dK_arrange_21 rfl rfl ?_
        refine mm_getf dK_arrange_22 fK_52 bi.1 rfl ?_
        refine mm_iload_n dK_arrange_25 rfl rfl ?_
        refine mm_iaload dK_arrange_26 bi.2.2.2.1 rfl (by omega) (by decide) ?_
        refine mm_goto (tgt := 31) dK_arrange_27 (by decide) ?_
        refine mm_top (v' := .int (mm_enc (kl_hook S i))) (congrArg Value.int (by unfold kl_hook; rw [if_pos q18])) ?_
        refine mm_iastore dK_arrange_31 (kl_at h k (kl_ha K (kl_hooks S K.2.1 i)) (i := 10) (by decide)) rfl (by omega) (by decide) ?_
        refine mm_eqh (show kl_set h k (kl_ha K (kl_hooks S K.2.1 (i + 1))) = _ by rw [← kl_hooks_u, show kl_ha K (ks_u (kl_hooks S K.2.1 i) i (kl_hook S i)) = kl_ha (kl_ha K (kl_hooks S K.2.1 i)) (ks_u (kl_hooks S K.2.1 i) i (kl_hook S i)) from rfl, ← kl_up_ha]; unfold ks_arr; rw [← ks_u_enc]; rfl) ?_
        refine mm_iinc dK_arrange_32 (by decide) rfl (mm_inc _) rfl ?_
        refine mm_goto (tgt := 2) dK_arrange_35 (by decide) ?_
        exact hh
  show mm_W Γ l mK_arrange (d + 1) _ 0 [some (.ref k), some (.ref b), none] [] _
  refine mm_iconst (v := nI 0) dK_arrange_0 (by decide) ?_
  refine mm_istore_n dK_arrange_1 rfl (by decide) rfl ?_
  have hh := loop 6 0 rfl
  rw [show kl_ha K (kl_hooks S K.2.1 0) = K by unfold kl_ha kl_hooks; rw [show (fun q => if q < 0 then kl_hook S q else K.2.1 q) = K.2.1 from funext fun q => if_neg (Nat.not_lt_zero q)]] at hh
  exact hh
end KK3
