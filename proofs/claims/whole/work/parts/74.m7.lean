/-! Contracts of the reference. Printed by wip/whole/spec/m7.py -/
section KM7
variable {Γ : mm_G} {l : Launch} {d : Nat} {h : mm_H} {m : Nat} {M : km_M}
theorem kM_add (hr : m_rd M < 70) (t : Nat) : mm_Ev Γ l d mM_add [.ref m, .int (nI t)] (km_set h m M) (mm_is (.inl none) (km_set h m (ke_M M (ke_adds (m_tk M, m_rd M) [t])))) := by
  show mm_W Γ l mM_add d _ 0 [some (.ref m), some (.int (nI t))] [] _
  refine mm_aload_n dM_add_0 rfl rfl ?_
  refine mm_getf dM_add_1 fM_16 (km_0 h m _) rfl ?_
  refine mm_aload_n dM_add_4 rfl rfl ?_
  refine mm_getf dM_add_5 fM_151 (km_0 h m _) rfl ?_
  refine mm_iload_n dM_add_8 rfl rfl ?_
  refine mm_iastore dM_add_9 (km_tk h m _) rfl (by omega) (by decide) ?_
  refine mm_eqh (kv_tk h m _ _ t).symm ?_
  refine mm_aload_n dM_add_10 rfl rfl ?_
  refine mm_dup dM_add_11 rfl ?_
  refine mm_getf dM_add_12 fM_151 (km_0 h m _) rfl ?_
  refine mm_iconst (v := nI 1) dM_add_15 (by decide) ?_
  refine mm_iadd dM_add_16 ?_
  refine mm_top (v' := .int (nI (m_rd M + 1))) (congrArg Value.int (nI_add (m_rd M) 1)) ?_
  refine mm_putf dM_add_17 fM_151 rfl rfl rfl rfl (km_0 h m _) (Nat.le_of_ble_eq_true rfl) ?_
  refine mm_eqh (ku_rd h m _ (m_rd M + 1)).symm ?_
  refine mm_return dM_add_20 rfl ?_
  exact ⟨rfl, rfl⟩
theorem kM_readSpot {s g : Nat} (hs : s < 12) (hg4 : g < 4) (hg : m_sh M (31 + s) = some g) (hh : ∀ k, k < kc_places g → ∃ n, n < 6 ∧ m_sh M (43 + 2 * s + k) = some n ∧ ¬ m_sh M (13 + n) = none) (hr : m_rd M + (ke_sp (km_S M) s).length ≤ 70) : mm_Ev Γ l (d + 1) mM_readSpot [.ref m, .int (nI s)] (km_set h m M) (mm_is (.inl none) (km_set h m (ke_M M (ke_adds (m_tk M, m_rd M) (ke_sp (km_S M) s))))) := by
  have eg : (km_S M).2.2.2.1 s = g := by
    have e : (km_S M).2.2.2.1 s = (m_sh M (31 + s)).getD 0 := if_pos hs
    rw [e, hg]; rfl
  have pl := kc_places_le hg4
  have el : (ke_sp (km_S M) s).length = kc_places g + 1 := by unfold ke_sp; rw [eg, List.length_cons, ke_hk_len]
  have loop : ∀ (D : mm_D) (R' : ke_R), D (.inl none) (km_set h m (ke_M M R')) → ∀ (j i : Nat) (R1 : ke_R), i + j = kc_places g → R1.2 + j ≤ 70 → ke_adds R1 (ke_hk (km_S M) s i j) = R' → mm_W Γ l mM_readSpot (d + 1) D 20 [some (.ref m), some (.int (nI s)), some (.int (nI g)), some (.int (nI i))] [] (km_set h m (ke_M M R1)) := by
    intro D R' hD j
    induction j with
    | zero =>
      intro i R1 hi h7 e
      have e : R1 = R' := e
      subst e
      refine mm_iload_n dM_readSpot_20 rfl rfl ?_
      refine mm_aload_n dM_readSpot_21 rfl rfl ?_
      refine mm_iload_n dM_readSpot_22 rfl rfl ?_
      refine mm_v1 dM_readSpot_23 lM_96 (km_0 h m _) rfl (by decide) (Nat.le_of_ble_eq_true rfl) (kM_places (by omega)) ?_
      refine mm_icmp_ge_T (tgt := 55) dM_readSpot_26 (by decide) (nI_le (by omega) (by omega)) ?_
      refine mm_return dM_readSpot_55 rfl ?_
      exact hD
    | succ j ih =>
      intro i R1 hi h7 e
      obtain ⟨n, hn6, hn, -⟩ := hh i (by omega)
      have hn2 : ((km_S M).2.2.2.2 (2 * s + i)).getD 0 = n := by
        have e9 : (km_S M).2.2.2.2 (2 * s + i) = m_sh M (43 + (2 * s + i)) := kz_h (m_sh M) (by omega)
        rw [e9, ← Nat.add_assoc, hn]; rfl
      have e : ke_adds (ke_adds R1 [100 + n]) (ke_hk (km_S M) s (i + 1) j) = R' := by
        rw [← e, ← hn2]
        rfl
      refine mm_iload_n dM_readSpot_20 rfl rfl ?_
      refine mm_aload_n dM_readSpot_21 rfl rfl ?_
      refine mm_iload_n dM_readSpot_22 rfl rfl ?_
      refine mm_v1 dM_readSpot_23 lM_96 (km_0 h m _) rfl (by decide) (Nat.le_of_ble_eq_true rfl) (kM_places (by omega)) ?_
      refine mm_icmp_ge_F (tgt := 55) dM_readSpot_26 (by decide) (nI_ge (by omega) (by omega)) ?_
      refine mm_aload_n dM_readSpot_29 rfl rfl ?_
      refine mm_bipush (v := nI 100) dM_readSpot_30 (by decide) ?_
      refine mm_aload_n dM_readSpot_32 rfl rfl ?_
      refine mm_getf dM_readSpot_33 fM_7 (km_0 h m _) rfl ?_
      refine mm_bipush (v := nI 43) dM_readSpot_36 (by decide) ?_
      refine mm_iconst (v := nI 2) dM_readSpot_38 (by decide) ?_
      refine mm_iload_n dM_readSpot_39 rfl rfl ?_
      refine mm_imul dM_readSpot_40 ?_
      refine mm_iadd dM_readSpot_41 ?_
      refine mm_iload_n dM_readSpot_42 rfl rfl ?_
      refine mm_iadd dM_readSpot_43 ?_
      refine mm_iaload dM_readSpot_44 (km_sh h m _) (by rw [pk_mul, nI_add, nI_add]) (by omega) (by decide) ?_
      refine mm_top (v' := .int (nI n)) (congrArg Value.int (by show mm_enc (m_sh M (43 + 2 * s + i)) = nI n; rw [hn]; rfl)) ?_
      refine mm_iadd dM_readSpot_45 ?_
      refine mm_top (v' := .int (nI (100 + n))) (congrArg Value.int (nI_add 100 n)) ?_
      refine mm_v1 dM_readSpot_46 lM_154 (km_0 h m _) rfl (by decide) (Nat.le_of_ble_eq_true rfl) (kM_add (M := ke_M M R1) (by show R1.2 < 70; omega) (100 + n)) ?_
      refine mm_iinc dM_readSpot_49 (by decide) rfl (mm_inc _) rfl ?_
      refine mm_goto (tgt := 20) dM_readSpot_52 (by decide) ?_
      exact ih (i + 1) (ke_adds R1 [100 + n]) (by omega) (by show R1.2 + 1 + j ≤ 70; omega) e
  show mm_W Γ l mM_readSpot (d + 1) _ 0 [some (.ref m), some (.int (nI s)), none, none] [] _
  refine mm_aload_n dM_readSpot_0 rfl rfl ?_
  refine mm_getf dM_readSpot_1 fM_7 (km_0 h m _) rfl ?_
  refine mm_bipush (v := nI 31) dM_readSpot_4 (by decide) ?_
  refine mm_iload_n dM_readSpot_6 rfl rfl ?_
  refine mm_iadd dM_readSpot_7 ?_
  refine mm_iaload dM_readSpot_8 (km_sh h m _) (nI_add 31 s) (by omega) (by decide) ?_
  refine mm_top (v' := .int (nI g)) (congrArg Value.int (by rw [hg]; rfl)) ?_
  refine mm_istore_n dM_readSpot_9 rfl (by decide) rfl ?_
  refine mm_aload_n dM_readSpot_10 rfl rfl ?_
  refine mm_bipush (v := nI 10) dM_readSpot_11 (by decide) ?_
  refine mm_iload_n dM_readSpot_13 rfl rfl ?_
  refine mm_iadd dM_readSpot_14 ?_
  refine mm_top (v' := .int (nI (10 + g))) (congrArg Value.int (nI_add 10 g)) ?_
  refine mm_v1 dM_readSpot_15 lM_154 (km_0 h m _) rfl (by decide) (Nat.le_of_ble_eq_true rfl) (kM_add (by omega) (10 + g)) ?_
  refine mm_iconst (v := nI 0) dM_readSpot_18 (by decide) ?_
  refine mm_istore_n dM_readSpot_19 rfl (by decide) rfl ?_
  exact loop _ _ ⟨rfl, rfl⟩ (kc_places g) 0 (ke_adds (m_tk M, m_rd M) [10 + g]) (Nat.zero_add _) (by show m_rd M + 1 + kc_places g ≤ 70; omega) (by unfold ke_sp; rw [eg]; rfl)
theorem kM_readOwn (o : ks_ok (km_S M)) (hw : ke_raw (m_sh M)) {a : Nat} (ha : a < 13) (hr : m_rd M + (ke_own (km_S M) a).length ≤ 70) : mm_Ev Γ l (d + 1 + 1) mM_readOwn [.ref m, .int (nI a)] (km_set h m M) (mm_is (.inl none) (km_set h m (ke_M M (ke_adds (m_tk M, m_rd M) (ke_own (km_S M) a))))) := by
  have l2 : ∀ (D : mm_D) (R' : ke_R), D (.inl none) (km_set h m (ke_M M R')) → ∀ (j i : Nat) (R1 : ke_R), i + j = 12 → R1.2 + (ke_spL (km_S M) a i j).length ≤ 70 → ke_adds R1 (ke_spL (km_S M) a i j) = R' → mm_W Γ l mM_readOwn (d + 1 + 1) D 37 [some (.ref m), some (.int (nI a)), some (.int (nI i))] [] (km_set h m (ke_M M R1)) := by
    intro D R' hD j
    induction j with
    | zero =>
      intro i R1 hi h7 e
      have e : R1 = R' := e
      subst e
      refine mm_iload_n dM_readOwn_37 rfl rfl ?_
      refine mm_bipush (v := nI 12) dM_readOwn_38 (by decide) ?_
      refine mm_icmp_ge_T (tgt := 67) dM_readOwn_40 (by decide) (nI_le (by omega) (by omega)) ?_
      refine mm_return dM_readOwn_67 rfl ?_
      exact hD
    | succ j ih =>
      intro i R1 hi h7 e
      have hz : (km_S M).1 i = m_sh M (19 + i) := kz_s _ (by omega)
      refine mm_iload_n dM_readOwn_37 rfl rfl ?_
      refine mm_bipush (v := nI 12) dM_readOwn_38 (by decide) ?_
      refine mm_icmp_ge_F (tgt := 67) dM_readOwn_40 (by decide) (nI_ge (by omega) (by omega)) ?_
      refine mm_aload_n dM_readOwn_43 rfl rfl ?_
      refine mm_getf dM_readOwn_44 fM_7 (km_0 h m _) rfl ?_
      refine mm_bipush (v := nI 19) dM_readOwn_47 (by decide) ?_
      refine mm_iload_n dM_readOwn_49 rfl rfl ?_
      refine mm_iadd dM_readOwn_50 ?_
      refine mm_iaload dM_readOwn_51 (km_sh h m _) (nI_add 19 i) (by omega) (by decide) ?_
      refine mm_iload_n dM_readOwn_52 rfl rfl ?_
      refine mm_icmp_ne_k (tgt := 61) dM_readOwn_53 (by decide) (kz_sms o (by omega)) (by omega) (fun q53 => ?_) (fun q53 => ?_)
      · rw [ke_spL_f (fun w => q53 (hz.symm.trans w))] at h7 e
        refine mm_iinc dM_readOwn_61 (by decide) rfl (mm_inc _) rfl ?_
        refine mm_goto (tgt := 37) dM_readOwn_64 (by decide) ?_
        exact ih (i + 1) R1 (by omega) h7 e
      · rw [ke_spL_t (hz.trans q53)] at h7 e
        rw [List.length_append] at h7
        rw [ke_adds_app] at e
        obtain ⟨g, hg4, hg, hk⟩ := hw i (by omega) (by have q53 : m_sh M (19 + i) = some a := q53; rw [q53]; exact fun w => nomatch w)
        refine mm_aload_n dM_readOwn_56 rfl rfl ?_
        refine mm_iload_n dM_readOwn_57 rfl rfl ?_
        refine mm_v1 dM_readOwn_58 lM_157 (km_0 h m _) rfl (by decide) (Nat.le_of_ble_eq_true rfl) (kM_readSpot (M := ke_M M R1) (by omega) hg4 hg hk (by show R1.2 + (ke_sp (km_S M) i).length ≤ 70; omega)) ?_
        refine mm_iinc dM_readOwn_61 (by decide) rfl (mm_inc _) rfl ?_
        refine mm_goto (tgt := 37) dM_readOwn_64 (by decide) ?_
        exact ih (i + 1) (ke_adds R1 (ke_sp (km_S M) i)) (by omega) (by rw [ke_adds_n]; omega) e
  have l1 : ∀ (D : mm_D) (R' : ke_R), D (.inl none) (km_set h m (ke_M M R')) → ∀ (j i : Nat) (R1 : ke_R), i + j = 6 → R1.2 + (ke_lnL (km_S M) a i j ++ ke_spL (km_S M) a 0 12).length ≤ 70 → ke_adds R1 (ke_lnL (km_S M) a i j ++ ke_spL (km_S M) a 0 12) = R' → mm_W Γ l mM_readOwn (d + 1 + 1) D 2 [some (.ref m), some (.int (nI a)), some (.int (nI i))] [] (km_set h m (ke_M M R1)) := by
    intro D R' hD j
    induction j with
    | zero =>
      intro i R1 hi h7 e
      refine mm_iload_n dM_readOwn_2 rfl rfl ?_
      refine mm_bipush (v := nI 6) dM_readOwn_3 (by decide) ?_
      refine mm_icmp_ge_T (tgt := 35) dM_readOwn_5 (by decide) (nI_le (by omega) (by omega)) ?_
      refine mm_iconst (v := nI 0) dM_readOwn_35 (by decide) ?_
      refine mm_istore_n dM_readOwn_36 rfl (by decide) rfl ?_
      exact l2 D R' hD 12 0 R1 rfl h7 e
    | succ j ih =>
      intro i R1 hi h7 e
      have hz : (km_S M).2.2.1 i = m_sh M (13 + i) := kz_l _ (by omega)
      refine mm_iload_n dM_readOwn_2 rfl rfl ?_
      refine mm_bipush (v := nI 6) dM_readOwn_3 (by decide) ?_
      refine mm_icmp_ge_F (tgt := 35) dM_readOwn_5 (by decide) (nI_ge (by omega) (by omega)) ?_
      refine mm_aload_n dM_readOwn_8 rfl rfl ?_
      refine mm_getf dM_readOwn_9 fM_7 (km_0 h m _) rfl ?_
      refine mm_bipush (v := nI 13) dM_readOwn_12 (by decide) ?_
      refine mm_iload_n dM_readOwn_14 rfl rfl ?_
      refine mm_iadd dM_readOwn_15 ?_
      refine mm_iaload dM_readOwn_16 (km_sh h m _) (nI_add 13 i) (by omega) (by decide) ?_
      refine mm_iload_n dM_readOwn_17 rfl rfl ?_
      refine mm_icmp_ne_k (tgt := 29) dM_readOwn_18 (by decide) (kz_sml o (by omega)) (by omega) (fun q18 => ?_) (fun q18 => ?_)
      · rw [ke_lnL_f (fun w => q18 (hz.symm.trans w))] at h7 e
        refine mm_iinc dM_readOwn_29 (by decide) rfl (mm_inc _) rfl ?_
        refine mm_goto (tgt := 2) dM_readOwn_32 (by decide) ?_
        exact ih (i + 1) R1 (by omega) h7 e
      · rw [ke_lnL_t (hz.trans q18), List.cons_append] at h7 e
        rw [List.length_cons] at h7
        rw [ke_adds_cons] at e
        refine mm_aload_n dM_readOwn_21 rfl rfl ?_
        refine mm_bipush (v := nI 100) dM_readOwn_22 (by decide) ?_
        refine mm_iload_n dM_readOwn_24 rfl rfl ?_
        refine mm_iadd dM_readOwn_25 ?_
        refine mm_top (v' := .int (nI (100 + i))) (congrArg Value.int (nI_add 100 i)) ?_
        refine mm_v1 dM_readOwn_26 lM_154 (km_0 h m _) rfl (by decide) (Nat.le_of_ble_eq_true rfl) (kM_add (M := ke_M M R1) (by show R1.2 < 70; omega) (100 + i)) ?_
        refine mm_iinc dM_readOwn_29 (by decide) rfl (mm_inc _) rfl ?_
        refine mm_goto (tgt := 2) dM_readOwn_32 (by decide) ?_
        exact ih (i + 1) (ke_adds R1 [100 + i]) (by omega) (by show R1.2 + 1 + _ ≤ 70; omega) e
  show mm_W Γ l mM_readOwn (d + 1 + 1) _ 0 [some (.ref m), some (.int (nI a)), none] [] _
  refine mm_iconst (v := nI 0) dM_readOwn_0 (by decide) ?_
  refine mm_istore_n dM_readOwn_1 rfl (by decide) rfl ?_
  exact l1 _ _ ⟨rfl, rfl⟩ 6 0 (m_tk M, m_rd M) rfl hr rfl
set_option maxHeartbeats 2000000 in
theorem kM_readArea (o : kt_ok (km_S M)) (hw : ke_raw (m_sh M)) {a : Nat} (ha : kt_is (km_S M) a) (hr : (ke_area (km_S M) 13 a).length ≤ 70) :
    mm_Ev Γ l (d + 1 + 1 + 1) mM_readArea [.ref m, .int (nI a)] (km_set h m M) (km_D h m (fun v M' => v = none ∧ (m_tk M', m_rd M') = ke_adds (m_tk M, 0) (ke_area (km_S M) 13 a) ∧ ke_V M' = ke_V M)) := by
  have a13 := ha.1
  have H : ∀ (D : mm_D) (q i top : Nat) (x2 x3 : Option Value) (M2 : km_M), m_op M2 = q → 1 ≤ q → q ≤ 14 → m_pl M2 (q - 1) = top → m_rc M2 (q - 1) = i → mm_W Γ l mM_readArea (d + 1 + 1 + 1) D 62 [some (.ref m), some (.int (nI a)), some (.int (nI top)), some (.int (nI (i + 1)))] [] (km_set h m M2) → mm_W Γ l mM_readArea (d + 1 + 1 + 1) D 29 [some (.ref m), some (.int (nI a)), x2, x3] [] (km_set h m M2) := by
    intro D q i top x2 x3 M2 hop hq1 hq2 hpl hrc cont
    refine mm_aload_n dM_readArea_29 rfl rfl ?_
    refine mm_getf dM_readArea_30 fM_139 (km_0 h m _) rfl ?_
    refine mm_if_le_F (tgt := 170) dM_readArea_33 (by decide) (by rw [hop]; exact fun w => by have w : nI q ≤ nI 0 := w; rw [nI_leI (by omega) (by decide)] at w; omega) ?_
    refine mm_aload_n dM_readArea_36 rfl rfl ?_
    refine mm_getf dM_readArea_37 fM_25 (km_0 h m _) rfl ?_
    refine mm_aload_n dM_readArea_40 rfl rfl ?_
    refine mm_getf dM_readArea_41 fM_139 (km_0 h m _) rfl ?_
    refine mm_iconst (v := nI 1) dM_readArea_44 (by decide) ?_
    refine mm_isub dM_readArea_45 ?_
    refine mm_iaload dM_readArea_46 (km_pl h m _) (by rw [hop]; exact pk_sub hq1) (by omega) (by decide) ?_
    refine mm_top (v' := .int (nI top)) (by rw [← hpl]) ?_
    refine mm_istore_n dM_readArea_47 rfl (by decide) rfl ?_
    refine mm_aload_n dM_readArea_48 rfl rfl ?_
    refine mm_getf dM_readArea_49 fM_28 (km_0 h m _) rfl ?_
    refine mm_aload_n dM_readArea_52 rfl rfl ?_
    refine mm_getf dM_readArea_53 fM_139 (km_0 h m _) rfl ?_
    refine mm_iconst (v := nI 1) dM_readArea_56 (by decide) ?_
    refine mm_isub dM_readArea_57 ?_
    refine mm_iaload dM_readArea_58 (km_rc h m _) (by rw [hop]; exact pk_sub hq1) (by omega) (by decide) ?_
    refine mm_top (v' := .int (nI i)) (by rw [← hrc]) ?_
    refine mm_iconst (v := nI 1) dM_readArea_59 (by decide) ?_
    refine mm_iadd dM_readArea_60 ?_
    refine mm_top (v' := .int (nI (i + 1))) (congrArg Value.int (nI_add i 1)) ?_
    refine mm_istore_n dM_readArea_61 rfl (by decide) rfl ?_
    exact cont
  have K : ∀ (f : Nat) (D : mm_D) (j i q e0 top : Nat) (M1 : km_M) (R2 : ke_R), ke_St (km_S M) e0 q M1 → 1 ≤ q → f + q = 13 → i + j = 13 → 1 ≤ i → m_pl M1 (q - 1) = top → ke_V M1 = ke_V M →
      m_rd M1 + (ke_kids (ke_area (km_S M) f) (km_S M) top i j ++ (if 1 < q then [2] else [])).length ≤ 70 →
      ke_adds (m_tk M1, m_rd M1) (ke_kids (ke_area (km_S M) f) (km_S M) top i j ++ (if 1 < q then [2] else [])) = R2 →
      (∀ (M2 : km_M) (x2 x3 : Option Value), (m_tk M2, m_rd M2) = R2 → ke_V M2 = ke_V M → m_op M2 = q - 1 → (∀ p, p < q - 1 → m_pl M2 p = m_pl M1 p ∧ m_rc M2 p = m_rc M1 p) → mm_W Γ l mM_readArea (d + 1 + 1 + 1) D 29 [some (.ref m), some (.int (nI a)), x2, x3] [] (km_set h m M2)) →
      mm_W Γ l mM_readArea (d + 1 + 1 + 1) D 62 [some (.ref m), some (.int (nI a)), some (.int (nI top)), some (.int (nI i))] [] (km_set h m M1) := by
    intro f
    induction f with
    | zero =>
      intro D j
      induction j with
      | zero =>
        intro i q e0 top M1 R2 st hq1 hf hi hi1 htop hV hlen ek cont
        obtain ⟨hop, hst⟩ := st
        have esh : m_sh M1 = m_sh M := congrArg (fun z => z.2.1) hV
        have eS : km_S M1 = km_S M := congrArg kz esh
        obtain ⟨s1, s3⟩ := hst (q - 1) (by omega)
        rw [htop] at s1 s3
        have d12 := km_dp_le (km_S M) top
        have hi : i = 13 := by omega
        subst hi
        have below : ∀ p, p < q - 1 → ks_un (m_rc M1) (q - 1) 13 p = m_rc M1 p := fun p hp => if_neg (by omega)
        refine mm_iload_n dM_readArea_62 rfl rfl ?_
        refine mm_bipush (v := nI 13) dM_readArea_63 (by decide) ?_
        refine mm_icmp_ge_T (tgt := 84) dM_readArea_65 (by decide) (nI_le (by omega) (by omega)) ?_
        refine mm_aload_n dM_readArea_84 rfl rfl ?_
        refine mm_getf dM_readArea_85 fM_28 (km_0 h m _) rfl ?_
        refine mm_aload_n dM_readArea_88 rfl rfl ?_
        refine mm_getf dM_readArea_89 fM_139 (km_0 h m _) rfl ?_
        refine mm_iconst (v := nI 1) dM_readArea_92 (by decide) ?_
        refine mm_isub dM_readArea_93 ?_
        refine mm_iload_n dM_readArea_94 rfl rfl ?_
        refine mm_iastore dM_readArea_95 (km_rc h m _) (by show nI (m_op M1) - nI 1 = nI (q - 1); rw [hop]; exact pk_sub hq1) (by omega) (by decide) ?_
        refine mm_eqh (kv_rc h m _ _ 13).symm ?_
        refine mm_iload_n dM_readArea_96 rfl rfl ?_
        refine mm_bipush (v := nI 13) dM_readArea_97 (by decide) ?_
        refine mm_icmp_ne_F (tgt := 127) dM_readArea_99 (by decide) rfl ?_
        refine mm_aload_n dM_readArea_102 rfl rfl ?_
        refine mm_dup dM_readArea_103 rfl ?_
        refine mm_getf dM_readArea_104 fM_139 (km_0 h m _) rfl ?_
        refine mm_iconst (v := nI 1) dM_readArea_107 (by decide) ?_
        refine mm_isub dM_readArea_108 ?_
        refine mm_top (v' := .int (nI (q - 1))) (congrArg Value.int (by show nI (m_op M1) - nI 1 = nI (q - 1); rw [hop]; exact pk_sub hq1)) ?_
        refine mm_putf dM_readArea_109 fM_139 rfl rfl rfl rfl (km_0 h m _) (Nat.le_of_ble_eq_true rfl) ?_
        refine mm_eqh (ku_op h m _ (q - 1)).symm ?_
        refine mm_aload_n dM_readArea_112 rfl rfl ?_
        refine mm_getf dM_readArea_113 fM_139 (km_0 h m _) rfl ?_
        refine mm_if_le_n (tgt := 167) dM_readArea_116 (by decide) (by show q - 1 < 2 ^ 31; omega) (fun q116 => ?_) (fun q116 => ?_)
        · have q116 : q - 1 = 0 := q116
          rw [if_neg (by omega)] at ek
          refine mm_goto (tgt := 29) dM_readArea_167 (by decide) ?_
          exact cont _ _ _ ek hV rfl (fun p hp => ⟨rfl, below p hp⟩)
        · have q116 : 0 < q - 1 := q116
          rw [if_pos (by omega)] at ek hlen
          refine mm_aload_n dM_readArea_119 rfl rfl ?_
          refine mm_iconst (v := nI 2) dM_readArea_120 (by decide) ?_
          refine mm_eqh (show km_set h m (s_op (s_rc M1 (ks_un (m_rc M1) (q - 1) 13)) (q - 1)) = _ from rfl) ?_
          refine mm_v1 dM_readArea_121 lM_154 (km_0 h m _) rfl (by decide) (Nat.le_of_ble_eq_true rfl) (kM_add (M := (s_op (s_rc M1 (ks_un (m_rc M1) (q - 1) 13)) (q - 1))) (by show m_rd M1 < 70; have h9 : m_rd M1 + 1 ≤ 70 := hlen; omega) 2) ?_
          refine mm_goto (tgt := 167) dM_readArea_124 (by decide) ?_
          refine mm_goto (tgt := 29) dM_readArea_167 (by decide) ?_
          exact cont _ _ _ ek hV rfl (fun p hp => ⟨rfl, below p hp⟩)
      | succ j ihj =>
        intro i q e0 top M1 R2 st hq1 hf hi hi1 htop hV hlen ek cont
        obtain ⟨hop, hst⟩ := st
        have esh : m_sh M1 = m_sh M := congrArg (fun z => z.2.1) hV
        have eS : km_S M1 = km_S M := congrArg kz esh
        obtain ⟨s1, s3⟩ := hst (q - 1) (by omega)
        rw [htop] at s1 s3
        have d12 := km_dp_le (km_S M) top
        have hz : (km_S M).2.1 i = m_sh M i := kz_c _ (by omega)
        refine mm_iload_n dM_readArea_62 rfl rfl ?_
        refine mm_bipush (v := nI 13) dM_readArea_63 (by decide) ?_
        refine mm_icmp_ge_F (tgt := 84) dM_readArea_65 (by decide) (nI_ge (by omega) (by omega)) ?_
        refine mm_aload_n dM_readArea_68 rfl rfl ?_
        refine mm_getf dM_readArea_69 fM_7 (km_0 h m _) rfl ?_
        refine mm_iload_n dM_readArea_72 rfl rfl ?_
        refine mm_iaload dM_readArea_73 (km_sh h m _) rfl (by omega) (by decide) ?_
        refine mm_iload_n dM_readArea_74 rfl rfl ?_
        refine mm_icmp_eq_k (tgt := 84) dM_readArea_75 (by decide) (by rw [esh]; exact kz_smc o.1 (by omega)) (by omega) (fun q75 => ?_) (fun q75 => ?_)
        · have hcut : (km_S M).2.1 i = some top := by rw [hz, ← esh]; exact q75
          have dch := km_dp_child o (by omega) hcut
          have dle := km_dp_le (km_S M) i
          exact absurd dle (by omega)
        · refine mm_iinc dM_readArea_78 (by decide) rfl (mm_inc _) rfl ?_
          refine mm_goto (tgt := 62) dM_readArea_81 (by decide) ?_
          rw [ke_kids_f (by rw [hz, ← esh]; exact q75)] at hlen ek
          exact ihj (i + 1) q e0 top M1 R2 ⟨hop, hst⟩ hq1 hf (by omega) (by omega) htop hV hlen ek cont
    | succ f ihf =>
      intro D j
      induction j with
      | zero =>
        intro i q e0 top M1 R2 st hq1 hf hi hi1 htop hV hlen ek cont
        obtain ⟨hop, hst⟩ := st
        have esh : m_sh M1 = m_sh M := congrArg (fun z => z.2.1) hV
        have eS : km_S M1 = km_S M := congrArg kz esh
        obtain ⟨s1, s3⟩ := hst (q - 1) (by omega)
        rw [htop] at s1 s3
        have d12 := km_dp_le (km_S M) top
        have hi : i = 13 := by omega
        subst hi
        have below : ∀ p, p < q - 1 → ks_un (m_rc M1) (q - 1) 13 p = m_rc M1 p := fun p hp => if_neg (by omega)
        refine mm_iload_n dM_readArea_62 rfl rfl ?_
        refine mm_bipush (v := nI 13) dM_readArea_63 (by decide) ?_
        refine mm_icmp_ge_T (tgt := 84) dM_readArea_65 (by decide) (nI_le (by omega) (by omega)) ?_
        refine mm_aload_n dM_readArea_84 rfl rfl ?_
        refine mm_getf dM_readArea_85 fM_28 (km_0 h m _) rfl ?_
        refine mm_aload_n dM_readArea_88 rfl rfl ?_
        refine mm_getf dM_readArea_89 fM_139 (km_0 h m _) rfl ?_
        refine mm_iconst (v := nI 1) dM_readArea_92 (by decide) ?_
        refine mm_isub dM_readArea_93 ?_
        refine mm_iload_n dM_readArea_94 rfl rfl ?_
        refine mm_iastore dM_readArea_95 (km_rc h m _) (by show nI (m_op M1) - nI 1 = nI (q - 1); rw [hop]; exact pk_sub hq1) (by omega) (by decide) ?_
        refine mm_eqh (kv_rc h m _ _ 13).symm ?_
        refine mm_iload_n dM_readArea_96 rfl rfl ?_
        refine mm_bipush (v := nI 13) dM_readArea_97 (by decide) ?_
        refine mm_icmp_ne_F (tgt := 127) dM_readArea_99 (by decide) rfl ?_
        refine mm_aload_n dM_readArea_102 rfl rfl ?_
        refine mm_dup dM_readArea_103 rfl ?_
        refine mm_getf dM_readArea_104 fM_139 (km_0 h m _) rfl ?_
        refine mm_iconst (v := nI 1) dM_readArea_107 (by decide) ?_
        refine mm_isub dM_readArea_108 ?_
        refine mm_top (v' := .int (nI (q - 1))) (congrArg Value.int (by show nI (m_op M1) - nI 1 = nI (q - 1); rw [hop]; exact pk_sub hq1)) ?_
        refine mm_putf dM_readArea_109 fM_139 rfl rfl rfl rfl (km_0 h m _) (Nat.le_of_ble_eq_true rfl) ?_
        refine mm_eqh (ku_op h m _ (q - 1)).symm ?_
        refine mm_aload_n dM_readArea_112 rfl rfl ?_
        refine mm_getf dM_readArea_113 fM_139 (km_0 h m _) rfl ?_
        refine mm_if_le_n (tgt := 167) dM_readArea_116 (by decide) (by show q - 1 < 2 ^ 31; omega) (fun q116 => ?_) (fun q116 => ?_)
        · have q116 : q - 1 = 0 := q116
          rw [if_neg (by omega)] at ek
          refine mm_goto (tgt := 29) dM_readArea_167 (by decide) ?_
          exact cont _ _ _ ek hV rfl (fun p hp => ⟨rfl, below p hp⟩)
        · have q116 : 0 < q - 1 := q116
          rw [if_pos (by omega)] at ek hlen
          refine mm_aload_n dM_readArea_119 rfl rfl ?_
          refine mm_iconst (v := nI 2) dM_readArea_120 (by decide) ?_
          refine mm_eqh (show km_set h m (s_op (s_rc M1 (ks_un (m_rc M1) (q - 1) 13)) (q - 1)) = _ from rfl) ?_
          refine mm_v1 dM_readArea_121 lM_154 (km_0 h m _) rfl (by decide) (Nat.le_of_ble_eq_true rfl) (kM_add (M := (s_op (s_rc M1 (ks_un (m_rc M1) (q - 1) 13)) (q - 1))) (by show m_rd M1 < 70; have h9 : m_rd M1 + 1 ≤ 70 := hlen; omega) 2) ?_
          refine mm_goto (tgt := 167) dM_readArea_124 (by decide) ?_
          refine mm_goto (tgt := 29) dM_readArea_167 (by decide) ?_
          exact cont _ _ _ ek hV rfl (fun p hp => ⟨rfl, below p hp⟩)
      | succ j ihj =>
        intro i q e0 top M1 R2 st hq1 hf hi hi1 htop hV hlen ek cont
        obtain ⟨hop, hst⟩ := st
        have esh : m_sh M1 = m_sh M := congrArg (fun z => z.2.1) hV
        have eS : km_S M1 = km_S M := congrArg kz esh
        obtain ⟨s1, s3⟩ := hst (q - 1) (by omega)
        rw [htop] at s1 s3
        have d12 := km_dp_le (km_S M) top
        have hz : (km_S M).2.1 i = m_sh M i := kz_c _ (by omega)
        refine mm_iload_n dM_readArea_62 rfl rfl ?_
        refine mm_bipush (v := nI 13) dM_readArea_63 (by decide) ?_
        refine mm_icmp_ge_F (tgt := 84) dM_readArea_65 (by decide) (nI_ge (by omega) (by omega)) ?_
        refine mm_aload_n dM_readArea_68 rfl rfl ?_
        refine mm_getf dM_readArea_69 fM_7 (km_0 h m _) rfl ?_
        refine mm_iload_n dM_readArea_72 rfl rfl ?_
        refine mm_iaload dM_readArea_73 (km_sh h m _) rfl (by omega) (by decide) ?_
        refine mm_iload_n dM_readArea_74 rfl rfl ?_
        refine mm_icmp_eq_k (tgt := 84) dM_readArea_75 (by decide) (by rw [esh]; exact kz_smc o.1 (by omega)) (by omega) (fun q75 => ?_) (fun q75 => ?_)
        · have hcut : (km_S M).2.1 i = some top := by rw [hz, ← esh]; exact q75
          have dch := km_dp_child o (by omega) hcut
          have dle := km_dp_le (km_S M) i
          rw [ke_kids_t hcut] at hlen ek
          have e1 : (1 :: (ke_area (km_S M) (f + 1) i ++ [2]) ++ ke_kids (ke_area (km_S M) (f + 1)) (km_S M) top (i + 1) j) ++ (if 1 < q then [2] else []) = 1 :: (ke_own (km_S M) i ++ ((ke_kids (ke_area (km_S M) f) (km_S M) i 1 12 ++ [2]) ++ (ke_kids (ke_area (km_S M) (f + 1)) (km_S M) top (i + 1) j ++ (if 1 < q then [2] else [])))) := by
            show (1 :: ((ke_own (km_S M) i ++ ke_kids (ke_area (km_S M) f) (km_S M) i 1 12) ++ [2]) ++ _) ++ _ = _
            simp only [List.cons_append, List.append_assoc]
          rw [e1] at hlen ek
          rw [ke_adds_cons, ke_adds_app, ke_adds_app] at ek
          rw [List.length_cons, List.length_append, List.length_append] at hlen
          obtain ⟨Ra, eRa⟩ : ∃ R, R = ke_adds (ke_adds (m_tk M1, m_rd M1) [1]) (ke_own (km_S M) i) := ⟨_, rfl⟩
          have nRa : Ra.2 = m_rd M1 + 1 + (ke_own (km_S M) i).length := by rw [eRa, ke_adds_n]; rfl
          rw [← eRa] at ek
          refine mm_aload_n dM_readArea_84 rfl rfl ?_
          refine mm_getf dM_readArea_85 fM_28 (km_0 h m _) rfl ?_
          refine mm_aload_n dM_readArea_88 rfl rfl ?_
          refine mm_getf dM_readArea_89 fM_139 (km_0 h m _) rfl ?_
          refine mm_iconst (v := nI 1) dM_readArea_92 (by decide) ?_
          refine mm_isub dM_readArea_93 ?_
          refine mm_iload_n dM_readArea_94 rfl rfl ?_
          refine mm_iastore dM_readArea_95 (km_rc h m _) (by show nI (m_op M1) - nI 1 = nI (q - 1); rw [hop]; exact pk_sub hq1) (by omega) (by decide) ?_
          refine mm_eqh (kv_rc h m _ _ i).symm ?_
          refine mm_iload_n dM_readArea_96 rfl rfl ?_
          refine mm_bipush (v := nI 13) dM_readArea_97 (by decide) ?_
          refine mm_icmp_ne_T (tgt := 127) dM_readArea_99 (by decide) (fun w => by have := (nI_eq (by omega) (by decide)).mp w; omega) ?_
          refine mm_aload_n dM_readArea_127 rfl rfl ?_
          refine mm_iconst (v := nI 1) dM_readArea_128 (by decide) ?_
          refine mm_v1 dM_readArea_129 lM_154 (km_0 h m _) rfl (by decide) (Nat.le_of_ble_eq_true rfl) (kM_add (M := (s_rc M1 (ks_un (m_rc M1) (q - 1) i))) (by show m_rd M1 < 70; omega) 1) ?_
          refine mm_aload_n dM_readArea_132 rfl rfl ?_
          refine mm_iload_n dM_readArea_133 rfl rfl ?_
          refine mm_v1 dM_readArea_134 lM_160 (km_0 h m _) rfl (by decide) (Nat.le_of_ble_eq_true rfl) (kM_readOwn (M := (ke_M (s_rc M1 (ks_un (m_rc M1) (q - 1) i)) (ke_adds (m_tk M1, m_rd M1) [1]))) (a := i) (by show ks_ok (km_S M1); rw [eS]; exact o.1) (by show ke_raw (m_sh M1); rw [esh]; exact hw) (by omega) (by show m_rd M1 + 1 + (ke_own (km_S M1) i).length ≤ 70; rw [eS]; omega)) ?_
          refine mm_eqh (show km_set h m (ke_M (s_rc M1 (ks_un (m_rc M1) (q - 1) i)) Ra) = _ from congrArg (fun z => km_set h m (ke_M (s_rc M1 (ks_un (m_rc M1) (q - 1) i)) z)) (show Ra = ke_adds (ke_adds (m_tk M1, m_rd M1) [1]) (ke_own (km_S M1) i) by rw [eRa, eS])) ?_
          refine mm_aload_n dM_readArea_137 rfl rfl ?_
          refine mm_getf dM_readArea_138 fM_25 (km_0 h m _) rfl ?_
          refine mm_aload_n dM_readArea_141 rfl rfl ?_
          refine mm_getf dM_readArea_142 fM_139 (km_0 h m _) rfl ?_
          refine mm_iload_n dM_readArea_145 rfl rfl ?_
          refine mm_iastore dM_readArea_146 (km_pl h m _) (by show nI (m_op M1) = nI q; rw [hop]) (by omega) (by decide) ?_
          refine mm_eqh (kv_pl h m _ _ i).symm ?_
          refine mm_aload_n dM_readArea_147 rfl rfl ?_
          refine mm_getf dM_readArea_148 fM_28 (km_0 h m _) rfl ?_
          refine mm_aload_n dM_readArea_151 rfl rfl ?_
          refine mm_getf dM_readArea_152 fM_139 (km_0 h m _) rfl ?_
          refine mm_iconst (v := nI 0) dM_readArea_155 (by decide) ?_
          refine mm_iastore dM_readArea_156 (km_rc h m _) (by show nI (m_op M1) = nI q; rw [hop]) (by omega) (by decide) ?_
          refine mm_eqh (kv_rc h m _ _ 0).symm ?_
          refine mm_aload_n dM_readArea_157 rfl rfl ?_
          refine mm_dup dM_readArea_158 rfl ?_
          refine mm_getf dM_readArea_159 fM_139 (km_0 h m _) rfl ?_
          refine mm_iconst (v := nI 1) dM_readArea_162 (by decide) ?_
          refine mm_iadd dM_readArea_163 ?_
          refine mm_top (v' := .int (nI (q + 1))) (by show Value.int (nI (m_op M1) + nI 1) = _; rw [hop, nI_add]) ?_
          refine mm_putf dM_readArea_164 fM_139 rfl rfl rfl rfl (km_0 h m _) (Nat.le_of_ble_eq_true rfl) ?_
          refine mm_eqh (ku_op h m _ (q + 1)).symm ?_
          refine mm_goto (tgt := 29) dM_readArea_167 (by decide) ?_
          have pA : ∀ p, p < q → ks_un (m_pl M1) q i p = m_pl M1 p := fun p hp => if_neg (by omega)
          have pB : ks_un (m_pl M1) q i q = i := if_pos rfl
          refine H D (q + 1) 0 i _ _ _ rfl (by omega) (by omega) pB (show ks_un (ks_un (m_rc M1) (q - 1) i) q 0 q = 0 from if_pos rfl) ?_
          refine ihf D 12 1 (q + 1) e0 i _ (ke_adds Ra (ke_kids (ke_area (km_S M) f) (km_S M) i 1 12 ++ [2])) ⟨rfl, fun p hp => ?_⟩ (by omega) (by omega) rfl (Nat.le_refl _) pB hV ?_ ?_ ?_
          · show ks_un (m_pl M1) q i p < 13 ∧ km_dp (km_S M) (ks_un (m_pl M1) q i p) = e0 + p
            by_cases hpq : p < q
            · rw [pA p hpq]; exact hst p hpq
            · have hpq : p = q := by omega
              subst hpq
              rw [pB]; exact ⟨by omega, by omega⟩
          · rw [if_pos (by omega)]
            show Ra.2 + _ ≤ 70
            omega
          · rw [if_pos (by omega)]; rfl
          · intro M2 y2 y3 g1 g3 g4 g5
            have g4 : m_op M2 = q := g4
            have g5 : ∀ p, p < q → m_pl M2 p = m_pl M1 p ∧ m_rc M2 p = ks_un (ks_un (m_rc M1) (q - 1) i) q 0 p := fun p hp => by
              have g := g5 p hp
              have e1 : m_pl M2 p = ks_un (m_pl M1) q i p := g.1
              rw [pA p hp] at e1
              exact ⟨e1, g.2⟩
            have gT := g5 (q - 1) (by omega)
            rw [htop] at gT
            have rci : m_rc M2 (q - 1) = i := gT.2.trans ((if_neg (by omega)).trans (if_pos rfl))
            have nd : m_rd M2 = Ra.2 + (ke_kids (ke_area (km_S M) f) (km_S M) i 1 12 ++ [2]).length := by rw [← ke_adds_n, ← g1]
            refine H D q i top _ _ M2 g4 hq1 (by omega) gT.1 rci ?_
            refine ihj (i + 1) q e0 top M2 R2 ⟨g4, fun p hp => ?_⟩ hq1 hf (by omega) (by omega) gT.1 g3 (by rw [nd]; omega) (by rw [g1]; exact ek) ?_
            · rw [(g5 p hp).1]; exact hst p hp
            · intro M3 z2 z3 k1 k3 k4 k5
              refine cont M3 z2 z3 k1 k3 k4 (fun p hp => ?_)
              have g := g5 p (by omega)
              have k := k5 p hp
              exact ⟨k.1.trans g.1, k.2.trans (g.2.trans ((if_neg (by omega)).trans (if_neg (by omega))))⟩
        · refine mm_iinc dM_readArea_78 (by decide) rfl (mm_inc _) rfl ?_
          refine mm_goto (tgt := 62) dM_readArea_81 (by decide) ?_
          rw [ke_kids_f (by rw [hz, ← esh]; exact q75)] at hlen ek
          exact ihj (i + 1) q e0 top M1 R2 ⟨hop, hst⟩ hq1 hf (by omega) (by omega) htop hV hlen ek cont
  have hr2 : (ke_own (km_S M) a ++ ke_kids (ke_area (km_S M) 12) (km_S M) a 1 12).length ≤ 70 := hr
  rw [List.length_append] at hr2
  obtain ⟨Ra, eRa⟩ : ∃ R, R = ke_adds (m_tk M, 0) (ke_own (km_S M) a) := ⟨_, rfl⟩
  have nRa : Ra.2 = (ke_own (km_S M) a).length := by rw [eRa, ke_adds_n]; show 0 + _ = _; omega
  show mm_W Γ l mM_readArea (d + 1 + 1 + 1) _ 0 [some (.ref m), some (.int (nI a)), none, none] [] _
  refine mm_aload_n dM_readArea_0 rfl rfl ?_
  refine mm_iconst (v := nI 0) dM_readArea_1 (by decide) ?_
  refine mm_putf dM_readArea_2 fM_151 rfl rfl rfl rfl (km_0 h m _) (Nat.le_of_ble_eq_true rfl) ?_
  refine mm_eqh (ku_rd h m _ 0).symm ?_
  refine mm_aload_n dM_readArea_5 rfl rfl ?_
  refine mm_iload_n dM_readArea_6 rfl rfl ?_
  refine mm_v1 dM_readArea_7 lM_160 (km_0 h m _) rfl (by decide) (Nat.le_of_ble_eq_true rfl) (kM_readOwn (M := s_rd M 0) o.1 hw a13 (by show 0 + (ke_own (km_S M) a).length ≤ 70; omega)) ?_
  refine mm_eqh (show km_set h m (ke_M M Ra) = _ from congrArg (fun z => km_set h m (ke_M M z)) eRa) ?_
  refine mm_aload_n dM_readArea_10 rfl rfl ?_
  refine mm_iconst (v := nI 1) dM_readArea_11 (by decide) ?_
  refine mm_putf dM_readArea_12 fM_139 rfl rfl rfl rfl (km_0 h m _) (Nat.le_of_ble_eq_true rfl) ?_
  refine mm_eqh (ku_op h m _ 1).symm ?_
  refine mm_aload_n dM_readArea_15 rfl rfl ?_
  refine mm_getf dM_readArea_16 fM_25 (km_0 h m _) rfl ?_
  refine mm_iconst (v := nI 0) dM_readArea_19 (by decide) ?_
  refine mm_iload_n dM_readArea_20 rfl rfl ?_
  refine mm_iastore dM_readArea_21 (km_pl h m _) rfl (by omega) (by decide) ?_
  refine mm_eqh (kv_pl h m _ _ a).symm ?_
  refine mm_aload_n dM_readArea_22 rfl rfl ?_
  refine mm_getf dM_readArea_23 fM_28 (km_0 h m _) rfl ?_
  refine mm_iconst (v := nI 0) dM_readArea_26 (by decide) ?_
  refine mm_iconst (v := nI 0) dM_readArea_27 (by decide) ?_
  refine mm_iastore dM_readArea_28 (km_rc h m _) rfl (by omega) (by decide) ?_
  refine mm_eqh (kv_rc h m _ _ 0).symm ?_
  have pB : ks_un (m_pl M) 0 a 0 = a := if_pos rfl
  refine H _ 1 0 a _ _ _ rfl (Nat.le_refl _) (by decide) pB (show ks_un (m_rc M) 0 0 0 = 0 from if_pos rfl) ?_
  refine K 12 _ 12 1 1 (km_dp (km_S M) a) a _ (ke_adds Ra (ke_kids (ke_area (km_S M) 12) (km_S M) a 1 12)) ⟨rfl, fun p hp => ?_⟩ (Nat.le_refl _) rfl rfl (Nat.le_refl _) pB rfl ?_ ?_ ?_
  · have hp : p = 0 := by omega
    subst hp
    show ks_un (m_pl M) 0 a 0 < 13 ∧ km_dp (km_S M) (ks_un (m_pl M) 0 a 0) = km_dp (km_S M) a + 0
    rw [pB]; exact ⟨a13, rfl⟩
  · rw [if_neg (by decide), List.append_nil]
    show Ra.2 + _ ≤ 70
    omega
  · rw [if_neg (by decide), List.append_nil]; rfl
  · intro M2 x2 x3 g1 g3 g4 g5
    have g4 : m_op M2 = 0 := g4
    refine mm_aload_n dM_readArea_29 rfl rfl ?_
    refine mm_getf dM_readArea_30 fM_139 (km_0 h m _) rfl ?_
    refine mm_if_le_T (tgt := 170) dM_readArea_33 (by decide) (by rw [g4]; decide) ?_
    refine mm_return dM_readArea_170 rfl ?_
    exact ⟨_, M2, rfl, rfl, rfl, g1.trans (by rw [eRa, ← ke_adds_app]; rfl), g3⟩
end KM7
