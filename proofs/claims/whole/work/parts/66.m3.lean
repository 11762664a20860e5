/-! Contracts of the reference. Printed by wip/whole/spec/m3.py -/
theorem mm_b01 {b : Bool} (h : b = true) : mm_bI b = nI 1 := by rw [h]; rfl
theorem ks_part_no {S : ks_S} {k n : Int32} (h0 : ¬ k = 0) (h1 : ¬ k = nI 1) : ks_partI S k n = false := by
  cases hp : ks_partI S k n with
  | false => rfl
  | true =>
    unfold ks_partI at hp
    rw [Bool.and_eq_true, decide_eq_true_eq] at hp
    obtain ⟨k', i, x, e1, e2, g1, g2, g3⟩ := ks_hasI_true hp.2
    exfalso
    match k', g1, e1 with
    | 0, _, e1 => exact h0 e1
    | 1, _, e1 => exact h1 e1
    | 2, _, e1 => exact hp.1 e1
    | n + 3, g, _ => exact absurd g (by omega)
theorem km_mh_n {S : ks_S} {a : Nat} {f : Int32} (h : km_mh S a f = true) : ∃ i : Nat, i < 6 ∧ f = nI i := by
  unfold km_mh at h
  rw [Bool.and_eq_true] at h
  obtain ⟨i, x, hi, e, -⟩ := ks_hasI_k (k := 2) (by decide) h.1
  exact ⟨i, hi, e⟩
theorem km_no_row {S : ks_S} {k i : Nat} (hk : k < 3) (hi : i < ks_len k) (h : ks_hasI S (nI k) (nI i) = false) : ks_row S k i = none := by
  have hl := ks_len_le k
  rw [ks_hasI_n (by omega) (by omega)] at h
  cases hx : ks_row S k i with
  | none => rfl
  | some x => rw [ks_has_iff.mpr ⟨hk, hi, x, hx⟩] at h; cases h
section KM3
variable {Γ : mm_G} {l : Launch} {d : Nat} {h : mm_H} {m : Nat} {M : km_M}
theorem kM_mayHook (o : kt_ok (km_S M)) {a : Nat} (ha : kt_is (km_S M) a) (n : Int32) : mm_Ev Γ l (d + 1) mM_mayHook [.ref m, .int (nI a), .int n] (km_set h m M) (mm_is (.inl (some (.int (mm_bI (km_mh (km_S M) a n))))) (km_set h m M)) := by
  show mm_W Γ l mM_mayHook (d + 1) _ 0 [some (.ref m), some (.int (nI a)), some (.int n)] [] _
  refine mm_aload_n dM_mayHook_0 rfl rfl ?_
  refine mm_iload_n dM_mayHook_1 rfl rfl ?_
  refine mm_v1 dM_mayHook_2 lM_89 (km_0 h m _) rfl (by decide) (Nat.le_of_ble_eq_true rfl) (kM_isLine o.1 n) ?_
  refine mm_if_eq_b (tgt := 29) dM_mayHook_5 (by decide) (fun q5 => ?_) (fun q5 => ?_)
  · refine mm_iconst (v := nI 0) dM_mayHook_29 (by decide) ?_
    refine mm_zreturn dM_mayHook_30 rfl rfl ?_
    exact mm_f0 (by unfold km_mh; rw [q5]; rfl)
  · obtain ⟨i, x, hi, rfl, hx⟩ := ks_hasI_k (k := 2) (by decide) q5
    have hi : i < 6 := hi
    have hx : (km_S M).2.2.1 i = some x := hx
    have hx2 : m_sh M (13 + i) = some x := (kz_l _ hi).symm.trans hx
    have x13 := o.1.1 2 i x hi hx
    refine mm_aload_n dM_mayHook_8 rfl rfl ?_
    refine mm_iload_n dM_mayHook_9 rfl rfl ?_
    refine mm_aload_n dM_mayHook_10 rfl rfl ?_
    refine mm_getf dM_mayHook_11 fM_7 (km_0 h m _) rfl ?_
    refine mm_bipush (v := nI 13) dM_mayHook_14 (by decide) ?_
    refine mm_iload_n dM_mayHook_16 rfl rfl ?_
    refine mm_iadd dM_mayHook_17 ?_
    refine mm_iaload dM_mayHook_18 (km_sh h m _) (nI_add 13 i) (by omega) (by decide) ?_
    refine mm_top (v' := .int (nI x)) (congrArg Value.int (show mm_enc (m_sh M (13 + i)) = nI x by rw [hx2]; rfl)) ?_
    refine mm_v2 dM_mayHook_19 lM_92 (km_0 h m _) rfl rfl (by decide) (Nat.le_of_ble_eq_true rfl) (kM_isWithin o.1 ha (by omega)) ?_
    refine mm_if_eq_b (tgt := 29) dM_mayHook_22 (by decide) (fun q22 => ?_) (fun q22 => ?_)
    · refine mm_iconst (v := nI 0) dM_mayHook_29 (by decide) ?_
      refine mm_zreturn dM_mayHook_30 rfl rfl ?_
      exact mm_f0 (by unfold km_mh; rw [q5, ks_areaI_t (k := 2) (by decide) hi hx]; exact q22)
    · refine mm_iconst (v := nI 1) dM_mayHook_25 (by decide) ?_
      refine mm_goto (tgt := 30) dM_mayHook_26 (by decide) ?_
      refine mm_zreturn dM_mayHook_30 rfl rfl ?_
      exact mm_f1 (by unfold km_mh; rw [q5, ks_areaI_t (k := 2) (by decide) hi hx]; exact q22)
set_option maxHeartbeats 1000000 in
theorem kM_spot (o : kt_ok (km_S M)) (hm : m_mv M ≤ 20) (a sg f s : Int32) : mm_Ev Γ l (d + 1 + 1) mM_spot [.ref m, .int a, .int sg, .int f, .int s] (km_set h m M) (mm_is (.inl (some (.int (nI (km_spot M a sg f s).1)))) (km_set h m (km_spot M a sg f s).2)) := by
  have bad : ∀ v : Int32, km_bad (km_S M) a sg f s = true → mm_W Γ l mM_spot (d + 1 + 1) (mm_is (.inl (some (.int (nI (km_spot M a sg f s).1)))) (km_set h m (km_spot M a sg f s).2)) 65 [some (.ref m), some (.int a), some (.int sg), some (.int f), some (.int s), some (.int v), none] [] (km_set h m M) := by
    intro v hb
    refine mm_iconst (v := nI 1) dM_spot_65 (by decide) ?_
    refine mm_goto (tgt := 70) dM_spot_66 (by decide) ?_
    refine mm_istore dM_spot_70 (by decide) rfl ?_
    refine mm_aload_n dM_spot_72 rfl rfl ?_
    refine mm_iload dM_spot_73 rfl ?_
    refine mm_if_eq_F (tgt := 82) dM_spot_75 (by decide) (show ¬ nI 1 = 0 by decide) ?_
    refine mm_iconst (v := nI 1) dM_spot_78 (by decide) ?_
    refine mm_goto (tgt := 101) dM_spot_79 (by decide) ?_
    refine mm_putf dM_spot_101 fM_56 rfl rfl rfl rfl (km_0 h m _) (Nat.le_of_ble_eq_true rfl) ?_
    refine mm_eqh (ku_th h m _ 1).symm ?_
    refine mm_aload_n dM_spot_104 rfl rfl ?_
    refine mm_getf dM_spot_105 fM_56 (km_0 h m _) rfl ?_
    refine mm_if_eq_F (tgt := 113) dM_spot_108 (by decide) (show ¬ nI 1 = 0 by decide) ?_
    refine mm_iconst (v := nI 0) dM_spot_111 (by decide) ?_
    refine mm_ireturn dM_spot_112 rfl ?_
    exact km_fin (if_pos hb)
  have good : ∀ (i g : Nat), a = nI i → sg = nI g → i < 13 → g < 4 → kt_is (km_S M) i → (0 < kc_places g → ∃ f' : Nat, f' < 6 ∧ f = nI f') → (1 < kc_places g → ∃ s' : Nat, s' < 6 ∧ s = nI s') → km_bad (km_S M) a sg f s = false → mm_W Γ l mM_spot (d + 1 + 1) (mm_is (.inl (some (.int (nI (km_spot M a sg f s).1)))) (km_set h m (km_spot M a sg f s).2)) 69 [some (.ref m), some (.int a), some (.int sg), some (.int f), some (.int s), some (.int (nI 0)), none] [] (km_set h m M) := by
    intro i g ea eg hi hg ht hf hs hb
    subst ea eg
    have cl : (nI i).toNatClampNeg = i := nI_clamp (by omega)
    have cg : (nI g).toNatClampNeg = g := nI_clamp (by omega)
    have gd := ks_slot_gd (km_S M) 0
    have g2 : ks_len 0 = 12 := rfl
    have pl := kc_places_le hg
    refine mm_iconst (v := nI 0) dM_spot_69 (by decide) ?_
    refine mm_istore dM_spot_70 (by decide) rfl ?_
    refine mm_aload_n dM_spot_72 rfl rfl ?_
    refine mm_iload dM_spot_73 rfl ?_
    refine mm_if_eq_T (tgt := 82) dM_spot_75 (by decide) rfl ?_
    refine mm_aload_n dM_spot_82 rfl rfl ?_
    refine mm_iload_n dM_spot_83 rfl rfl ?_
    refine mm_aload_n dM_spot_84 rfl rfl ?_
    refine mm_v0 dM_spot_85 lM_102 (km_0 h m _) (by decide) (Nat.le_of_ble_eq_true rfl) (kM_freeSpot o.1) ?_
    refine mm_bipush (v := nI 12) dM_spot_88 (by decide) ?_
    refine mm_icmp_ne_n (tgt := 97) dM_spot_90 (by decide) (by have : km_new M 0 ≤ 12 := gd; exact Nat.lt_of_le_of_lt this (by decide)) (by decide) (fun q90 => ?_) (fun q90 => ?_)
    · refine mm_iconst (v := nI 0) dM_spot_97 (by decide) ?_
      refine mm_v2 dM_spot_98 lM_79 (km_0 h m _) rfl rfl (by decide) (Nat.le_of_ble_eq_true rfl) (kM_checked o.1 hm ht false) ?_
      have ce : km_ck (km_S M) (m_st M) (m_mv M) i false = km_ckA M 0 (nI i) := by unfold km_ckA km_fu; rw [cl, decide_eq_false (show ¬ (ks_slot (km_S M) 0).getD (ks_len 0) = ks_len 0 from q90)]
      rw [ce]
      refine mm_putf dM_spot_101 fM_56 rfl rfl rfl rfl (km_0 h m _) (Nat.le_of_ble_eq_true rfl) ?_
      refine mm_eqh (ku_th h m _ (km_ckA M 0 (nI i))).symm ?_
      refine mm_aload_n dM_spot_104 rfl rfl ?_
      refine mm_getf dM_spot_105 fM_56 (km_0 h m _) rfl ?_
      refine mm_if_eq_n (tgt := 113) dM_spot_108 (by decide) (by have : km_ckA M 0 (nI i) ≤ 3 := km_ck_le _ _ _ _ _; exact Nat.lt_of_le_of_lt this (by decide)) (fun q108 => ?_) (fun q108 => ?_)
      · have q108 : km_ckA M 0 (nI i) = 0 := q108
        have g3 := ks_gd_lt _ _ q90
        have g4 : km_new M 0 < 12 := g3
        rw [q108]
        refine mm_aload_n dM_spot_113 rfl rfl ?_
        refine mm_v0 dM_spot_114 lM_83 (km_0 h m _) (by decide) (Nat.le_of_ble_eq_true rfl) (kM_keep (km_ckA_mv q108 hm)) ?_
        refine mm_aload_n dM_spot_117 rfl rfl ?_
        
        refine mm_v0 dM_spot_118 lM_102 (km_0 h m _) (by decide) (Nat.le_of_ble_eq_true rfl) (kM_freeSpot (M := km_keep (s_th M 0)) (by rw [km_keep_S]; exact o.1)) ?_
        refine mm_top (v' := .int (nI (km_new M 0))) (by rw [km_keep_S]; rfl) ?_
        refine mm_istore dM_spot_121 (by decide) rfl ?_
        refine mm_aload_n dM_spot_123 rfl rfl ?_
        refine mm_getf dM_spot_124 fM_7 (km_0 h m _) rfl ?_
        refine mm_bipush (v := nI 19) dM_spot_127 (by decide) ?_
        refine mm_iload dM_spot_129 rfl ?_
        refine mm_iadd dM_spot_131 ?_
        refine mm_iload_n dM_spot_132 rfl rfl ?_
        refine mm_iastore dM_spot_133 (km_sh h m _) (nI_add 19 _) (by omega) (by decide) ?_
        refine mm_eqh (kv_sh h m _ _ (some i)).symm ?_
        refine mm_aload_n dM_spot_134 rfl rfl ?_
        refine mm_getf dM_spot_135 fM_7 (km_0 h m _) rfl ?_
        refine mm_bipush (v := nI 31) dM_spot_138 (by decide) ?_
        refine mm_iload dM_spot_140 rfl ?_
        refine mm_iadd dM_spot_142 ?_
        refine mm_iload_n dM_spot_143 rfl rfl ?_
        refine mm_iastore dM_spot_144 (km_sh h m _) (nI_add 31 _) (by omega) (by decide) ?_
        refine mm_eqh (kv_sh h m _ _ (some g)).symm ?_
        refine mm_aload_n dM_spot_145 rfl rfl ?_
        refine mm_getf dM_spot_146 fM_7 (km_0 h m _) rfl ?_
        refine mm_bipush (v := nI 43) dM_spot_149 (by decide) ?_
        refine mm_iconst (v := nI 2) dM_spot_151 (by decide) ?_
        refine mm_iload dM_spot_152 rfl ?_
        refine mm_imul dM_spot_154 ?_
        refine mm_iadd dM_spot_155 ?_
        refine mm_aload_n dM_spot_156 rfl rfl ?_
        refine mm_iload_n dM_spot_157 rfl rfl ?_
        refine mm_v1 dM_spot_158 lM_96 (km_0 h m _) rfl (by decide) (Nat.le_of_ble_eq_true rfl) (kM_places (by omega)) ?_
        refine mm_if_le_n (tgt := 168) dM_spot_161 (by decide) (by omega) (fun q161 => ?_) (fun q161 => ?_)
        · refine mm_iconst (v := -1) dM_spot_168 (by decide) ?_
          refine mm_iastore dM_spot_169 (km_sh h m _) (by rw [pk_mul, nI_add]) (by omega) (by decide) ?_
          refine mm_eqh (kv_sh h m _ _ none).symm ?_
          refine mm_aload_n dM_spot_170 rfl rfl ?_
          refine mm_getf dM_spot_171 fM_7 (km_0 h m _) rfl ?_
          refine mm_bipush (v := nI 43) dM_spot_174 (by decide) ?_
          refine mm_iconst (v := nI 2) dM_spot_176 (by decide) ?_
          refine mm_iload dM_spot_177 rfl ?_
          refine mm_imul dM_spot_179 ?_
          refine mm_iadd dM_spot_180 ?_
          refine mm_iconst (v := nI 1) dM_spot_181 (by decide) ?_
          refine mm_iadd dM_spot_182 ?_
          refine mm_aload_n dM_spot_183 rfl rfl ?_
          refine mm_iload_n dM_spot_184 rfl rfl ?_
          refine mm_v1 dM_spot_185 lM_96 (km_0 h m _) rfl (by decide) (Nat.le_of_ble_eq_true rfl) (kM_places (by omega)) ?_
          refine mm_iconst (v := nI 1) dM_spot_188 (by decide) ?_
          refine mm_icmp_le_n (tgt := 197) dM_spot_189 (by decide) (by omega) (by decide) (fun q189 => ?_) (fun q189 => ?_)
          · refine mm_iconst (v := -1) dM_spot_197 (by decide) ?_
            refine mm_iastore dM_spot_198 (km_sh h m _) (by rw [pk_mul, nI_add, nI_add]) (by omega) (by decide) ?_
            refine mm_eqh (kv_sh h m _ _ none).symm ?_
            refine mm_iload dM_spot_199 rfl ?_
            refine mm_ireturn dM_spot_201 rfl ?_
            refine km_fin ((if_neg (by rw [hb]; decide)).trans ((if_pos q108).trans ?_))
            rw [cl, cg, show km_hk (kc_places g) 0 f = none from if_neg (by omega), show km_hk (kc_places g) 1 s = none from if_neg (by omega)]
            rfl
          · obtain ⟨s', hs', rfl⟩ := hs q189
            refine mm_iload dM_spot_192 rfl ?_
            refine mm_goto (tgt := 198) dM_spot_194 (by decide) ?_
            refine mm_iastore dM_spot_198 (km_sh h m _) (by rw [pk_mul, nI_add, nI_add]) (by omega) (by decide) ?_
            refine mm_eqh (kv_sh h m _ _ (some s')).symm ?_
            refine mm_iload dM_spot_199 rfl ?_
            refine mm_ireturn dM_spot_201 rfl ?_
            refine km_fin ((if_neg (by rw [hb]; decide)).trans ((if_pos q108).trans ?_))
            rw [cl, cg, show km_hk (kc_places g) 0 f = none from if_neg (by omega), show km_hk (kc_places g) 1 (nI s') = some s' from (if_pos q189).trans (by rw [nI_clamp (by omega)])]
            rfl
        · obtain ⟨f', hf', rfl⟩ := hf q161
          refine mm_iload_n dM_spot_164 rfl rfl ?_
          refine mm_goto (tgt := 169) dM_spot_165 (by decide) ?_
          refine mm_iastore dM_spot_169 (km_sh h m _) (by rw [pk_mul, nI_add]) (by omega) (by decide) ?_
          refine mm_eqh (kv_sh h m _ _ (some f')).symm ?_
          refine mm_aload_n dM_spot_170 rfl rfl ?_
          refine mm_getf dM_spot_171 fM_7 (km_0 h m _) rfl ?_
          refine mm_bipush (v := nI 43) dM_spot_174 (by decide) ?_
          refine mm_iconst (v := nI 2) dM_spot_176 (by decide) ?_
          refine mm_iload dM_spot_177 rfl ?_
          refine mm_imul dM_spot_179 ?_
          refine mm_iadd dM_spot_180 ?_
          refine mm_iconst (v := nI 1) dM_spot_181 (by decide) ?_
          refine mm_iadd dM_spot_182 ?_
          refine mm_aload_n dM_spot_183 rfl rfl ?_
          refine mm_iload_n dM_spot_184 rfl rfl ?_
          refine mm_v1 dM_spot_185 lM_96 (km_0 h m _) rfl (by decide) (Nat.le_of_ble_eq_true rfl) (kM_places (by omega)) ?_
          refine mm_iconst (v := nI 1) dM_spot_188 (by decide) ?_
          refine mm_icmp_le_n (tgt := 197) dM_spot_189 (by decide) (by omega) (by decide) (fun q189 => ?_) (fun q189 => ?_)
          · refine mm_iconst (v := -1) dM_spot_197 (by decide) ?_
            refine mm_iastore dM_spot_198 (km_sh h m _) (by rw [pk_mul, nI_add, nI_add]) (by omega) (by decide) ?_
            refine mm_eqh (kv_sh h m _ _ none).symm ?_
            refine mm_iload dM_spot_199 rfl ?_
            refine mm_ireturn dM_spot_201 rfl ?_
            refine km_fin ((if_neg (by rw [hb]; decide)).trans ((if_pos q108).trans ?_))
            rw [cl, cg, show km_hk (kc_places g) 0 (nI f') = some f' from (if_pos q161).trans (by rw [nI_clamp (by omega)]), show km_hk (kc_places g) 1 s = none from if_neg (by omega)]
            rfl
          · obtain ⟨s', hs', rfl⟩ := hs q189
            refine mm_iload dM_spot_192 rfl ?_
            refine mm_goto (tgt := 198) dM_spot_194 (by decide) ?_
            refine mm_iastore dM_spot_198 (km_sh h m _) (by rw [pk_mul, nI_add, nI_add]) (by omega) (by decide) ?_
            refine mm_eqh (kv_sh h m _ _ (some s')).symm ?_
            refine mm_iload dM_spot_199 rfl ?_
            refine mm_ireturn dM_spot_201 rfl ?_
            refine km_fin ((if_neg (by rw [hb]; decide)).trans ((if_pos q108).trans ?_))
            rw [cl, cg, show km_hk (kc_places g) 0 (nI f') = some f' from (if_pos q161).trans (by rw [nI_clamp (by omega)]), show km_hk (kc_places g) 1 (nI s') = some s' from (if_pos q189).trans (by rw [nI_clamp (by omega)])]
            rfl
      · have q108 : ¬ km_ckA M 0 (nI i) = 0 := q108
        refine mm_iconst (v := nI 0) dM_spot_111 (by decide) ?_
        refine mm_ireturn dM_spot_112 rfl ?_
        exact km_fin ((if_neg (by rw [hb]; decide)).trans (if_neg q108))
    · refine mm_iconst (v := nI 1) dM_spot_93 (by decide) ?_
      refine mm_goto (tgt := 98) dM_spot_94 (by decide) ?_
      refine mm_v2 dM_spot_98 lM_79 (km_0 h m _) rfl rfl (by decide) (Nat.le_of_ble_eq_true rfl) (kM_checked o.1 hm ht true) ?_
      have ce : km_ck (km_S M) (m_st M) (m_mv M) i true = km_ckA M 0 (nI i) := by unfold km_ckA km_fu; rw [cl, decide_eq_true (show (ks_slot (km_S M) 0).getD (ks_len 0) = ks_len 0 from q90)]
      rw [ce]
      refine mm_putf dM_spot_101 fM_56 rfl rfl rfl rfl (km_0 h m _) (Nat.le_of_ble_eq_true rfl) ?_
      refine mm_eqh (ku_th h m _ (km_ckA M 0 (nI i))).symm ?_
      refine mm_aload_n dM_spot_104 rfl rfl ?_
      refine mm_getf dM_spot_105 fM_56 (km_0 h m _) rfl ?_
      refine mm_if_eq_n (tgt := 113) dM_spot_108 (by decide) (by have : km_ckA M 0 (nI i) ≤ 3 := km_ck_le _ _ _ _ _; exact Nat.lt_of_le_of_lt this (by decide)) (fun q108 => ?_) (fun q108 => ?_)
      · have q108 : km_ckA M 0 (nI i) = 0 := q108
        exact absurd (ce.trans q108) (km_ck_full _ _ _ _)
        --stop
      · have q108 : ¬ km_ckA M 0 (nI i) = 0 := q108
        refine mm_iconst (v := nI 0) dM_spot_111 (by decide) ?_
        refine mm_ireturn dM_spot_112 rfl ?_
        exact km_fin ((if_neg (by rw [hb]; decide)).trans (if_neg q108))
  show mm_W Γ l mM_spot (d + 1 + 1) _ 0 [some (.ref m), some (.int a), some (.int sg), some (.int f), some (.int s), none, none] [] _
  refine mm_aload_n dM_spot_0 rfl rfl ?_
  refine mm_iload_n dM_spot_1 rfl rfl ?_
  refine mm_v1 dM_spot_2 lM_60 (km_0 h m _) rfl (by decide) (Nat.le_of_ble_eq_true rfl) (kM_isArea o.1 a) ?_
  refine mm_if_eq_b (tgt := 17) dM_spot_5 (by decide) (fun q5 => ?_) (fun q5 => ?_)
  · refine mm_iconst (v := nI 1) dM_spot_17 (by decide) ?_
    refine mm_goto (tgt := 22) dM_spot_18 (by decide) ?_
    refine mm_istore dM_spot_22 (by decide) rfl ?_
    refine mm_iload dM_spot_24 rfl ?_
    refine mm_if_ne_T (tgt := 65) dM_spot_26 (by decide) (show ¬ nI 1 = 0 by decide) ?_
    exact bad _ (by simp [km_bad, q5])
  · obtain ⟨i, hi, rfl, ht⟩ := km_har o q5
    have cl : (nI i).toNatClampNeg = i := nI_clamp (by omega)
    refine mm_iload_n dM_spot_8 rfl rfl ?_
    refine mm_if_lt (tgt := 17) dM_spot_9 (by decide) (fun q9 => ?_) (fun q9 => ?_)
    · refine mm_iconst (v := nI 1) dM_spot_17 (by decide) ?_
      refine mm_goto (tgt := 22) dM_spot_18 (by decide) ?_
      refine mm_istore dM_spot_22 (by decide) rfl ?_
      refine mm_iload dM_spot_24 rfl ?_
      refine mm_if_ne_T (tgt := 65) dM_spot_26 (by decide) (show ¬ nI 1 = 0 by decide) ?_
      exact bad _ (by simp [km_bad, show ¬ (0 ≤ sg) from fun w => by rw [Int32.le_iff_toInt_le] at w; rw [Int32.lt_iff_toInt_lt] at q9; omega])
    · obtain ⟨g, hg', rfl⟩ := nI_of q9
      have cg : (nI g).toNatClampNeg = g := nI_clamp hg'
      refine mm_iload_n dM_spot_12 rfl rfl ?_
      refine mm_iconst (v := nI 3) dM_spot_13 (by decide) ?_
      refine mm_icmp_le (tgt := 21) dM_spot_14 (by decide) (fun q14 => ?_) (fun q14 => ?_)
      · have hg : g < 4 := by rw [nI_leI hg' (by decide)] at q14; omega
        have pl := kc_places_le hg
        refine mm_iconst (v := nI 0) dM_spot_21 (by decide) ?_
        refine mm_istore dM_spot_22 (by decide) rfl ?_
        refine mm_iload dM_spot_24 rfl ?_
        refine mm_if_ne_F (tgt := 65) dM_spot_26 (by decide) rfl ?_
        refine mm_aload_n dM_spot_29 rfl rfl ?_
        refine mm_iload_n dM_spot_30 rfl rfl ?_
        refine mm_v1 dM_spot_31 lM_96 (km_0 h m _) rfl (by decide) (Nat.le_of_ble_eq_true rfl) (kM_places hg') ?_
        refine mm_if_le_n (tgt := 46) dM_spot_34 (by decide) (by omega) (fun q34 => ?_) (fun q34 => ?_)
        · refine mm_aload_n dM_spot_46 rfl rfl ?_
          refine mm_iload_n dM_spot_47 rfl rfl ?_
          refine mm_v1 dM_spot_48 lM_96 (km_0 h m _) rfl (by decide) (Nat.le_of_ble_eq_true rfl) (kM_places hg') ?_
          refine mm_iconst (v := nI 1) dM_spot_51 (by decide) ?_
          refine mm_icmp_le_n (tgt := 69) dM_spot_52 (by decide) (by omega) (by decide) (fun q52 => ?_) (fun q52 => ?_)
          · exact good i g rfl rfl hi hg ht (fun w => absurd w (by omega)) (fun w => absurd w (by omega)) (by simp [km_bad, cg, cl, q5, nI_pos' hg', q14, show ¬ 0 < kc_places g by omega, show ¬ 1 < kc_places g by omega])
          · refine mm_aload_n dM_spot_55 rfl rfl ?_
            refine mm_iload_n dM_spot_56 rfl rfl ?_
            refine mm_iload dM_spot_57 rfl ?_
            refine mm_v2 dM_spot_59 lM_99 (km_0 h m _) rfl rfl (by decide) (Nat.le_of_ble_eq_true rfl) (kM_mayHook o ht s) ?_
            refine mm_if_ne_b (tgt := 69) dM_spot_62 (by decide) (fun q62 => ?_) (fun q62 => ?_)
            · exact good i g rfl rfl hi hg ht (fun w => absurd w (by omega)) (fun _ => km_mh_n q62) (by simp [km_bad, cg, cl, q5, nI_pos' hg', q14, show ¬ 0 < kc_places g by omega, q52, q62])
            · exact bad _ (by simp [km_bad, cg, cl, q52, q62])
        · refine mm_aload_n dM_spot_37 rfl rfl ?_
          refine mm_iload_n dM_spot_38 rfl rfl ?_
          refine mm_iload_n dM_spot_39 rfl rfl ?_
          refine mm_v2 dM_spot_40 lM_99 (km_0 h m _) rfl rfl (by decide) (Nat.le_of_ble_eq_true rfl) (kM_mayHook o ht f) ?_
          refine mm_if_eq_b (tgt := 65) dM_spot_43 (by decide) (fun q43 => ?_) (fun q43 => ?_)
          · exact bad _ (by simp [km_bad, cg, cl, q34, q43])
          · refine mm_aload_n dM_spot_46 rfl rfl ?_
            refine mm_iload_n dM_spot_47 rfl rfl ?_
            refine mm_v1 dM_spot_48 lM_96 (km_0 h m _) rfl (by decide) (Nat.le_of_ble_eq_true rfl) (kM_places hg') ?_
            refine mm_iconst (v := nI 1) dM_spot_51 (by decide) ?_
            refine mm_icmp_le_n (tgt := 69) dM_spot_52 (by decide) (by omega) (by decide) (fun q52 => ?_) (fun q52 => ?_)
            · exact good i g rfl rfl hi hg ht (fun _ => km_mh_n q43) (fun w => absurd w (by omega)) (by simp [km_bad, cg, cl, q5, nI_pos' hg', q14, q34, q43, show ¬ 1 < kc_places g by omega])
            · refine mm_aload_n dM_spot_55 rfl rfl ?_
              refine mm_iload_n dM_spot_56 rfl rfl ?_
              refine mm_iload dM_spot_57 rfl ?_
              refine mm_v2 dM_spot_59 lM_99 (km_0 h m _) rfl rfl (by decide) (Nat.le_of_ble_eq_true rfl) (kM_mayHook o ht s) ?_
              refine mm_if_ne_b (tgt := 69) dM_spot_62 (by decide) (fun q62 => ?_) (fun q62 => ?_)
              · exact good i g rfl rfl hi hg ht (fun _ => km_mh_n q43) (fun _ => km_mh_n q62) (by simp [km_bad, cg, cl, q5, nI_pos' hg', q14, q34, q43, q52, q62])
              · exact bad _ (by simp [km_bad, cg, cl, q52, q62])
      · refine mm_iconst (v := nI 1) dM_spot_17 (by decide) ?_
        refine mm_goto (tgt := 22) dM_spot_18 (by decide) ?_
        refine mm_istore dM_spot_22 (by decide) rfl ?_
        refine mm_iload dM_spot_24 rfl ?_
        refine mm_if_ne_T (tgt := 65) dM_spot_26 (by decide) (show ¬ nI 1 = 0 by decide) ?_
        exact bad _ (by simp [km_bad, q14])
theorem kM_start : mm_Ev Γ l d mM_start [.ref m] (km_set h m M) (mm_is (.inl none) (km_set h m (km_start M))) := by
  have loop : m_st M = false → ∀ (r i : Nat), i + r = 67 → mm_W Γ l mM_start d (mm_is (.inl none) (km_set h m (km_start M))) 30 [some (.ref m), some (.int (nI i))] [] (km_set h m (s_kp (s_st (s_th M 0) true) (km_kc (m_kp M) (m_sh M) 0 i))) := by
    intro hst r
    induction r with
    | zero =>
      intro i hi
      have hi : i = 67 := by omega
      subst hi
      refine mm_iload_n dM_start_30 rfl rfl ?_
      refine mm_bipush (v := nI 67) dM_start_31 (by decide) ?_
      refine mm_icmp_ge_T (tgt := 54) dM_start_33 (by decide) (nI_le (by omega) (by omega)) ?_
      refine mm_return dM_start_54 rfl ?_
      exact km_fiv (if_neg (by rw [hst]; decide))
    | succ r ih =>
      intro i hi
      have hh := ih (i + 1) (by omega)
      rw [← km_kc_u, Nat.zero_add] at hh
      refine mm_iload_n dM_start_30 rfl rfl ?_
      refine mm_bipush (v := nI 67) dM_start_31 (by decide) ?_
      refine mm_icmp_ge_F (tgt := 54) dM_start_33 (by decide) (nI_ge (by omega) (by omega)) ?_
      refine mm_aload_n dM_start_36 rfl rfl ?_
      refine mm_getf dM_start_37 fM_13 (km_0 h m _) rfl ?_
      refine mm_iload_n dM_start_40 rfl rfl ?_
      refine mm_aload_n dM_start_41 rfl rfl ?_
      refine mm_getf dM_start_42 fM_7 (km_0 h m _) rfl ?_
      refine mm_iload_n dM_start_45 rfl rfl ?_
      refine mm_iaload dM_start_46 (km_sh h m _) rfl (by omega) (by decide) ?_
      refine mm_iastore dM_start_47 (km_kp h m _) rfl (by omega) (by decide) ?_
      refine mm_eqh (kv_kp h m _ _ (m_sh M i)).symm ?_
      refine mm_iinc dM_start_48 (by decide) rfl (mm_inc _) rfl ?_
      refine mm_goto (tgt := 30) dM_start_51 (by decide) ?_
      exact hh
  show mm_W Γ l mM_start d _ 0 [some (.ref m), none] [] _
  refine mm_aload_n dM_start_0 rfl rfl ?_
  refine mm_aload_n dM_start_1 rfl rfl ?_
  refine mm_getf dM_start_2 fM_64 (km_0 h m _) rfl ?_
  refine mm_if_eq_b (tgt := 12) dM_start_5 (by decide) (fun q5 => ?_) (fun q5 => ?_)
  · refine mm_iconst (v := nI 0) dM_start_12 (by decide) ?_
    refine mm_putf dM_start_13 fM_56 rfl rfl rfl rfl (km_0 h m _) (Nat.le_of_ble_eq_true rfl) ?_
    refine mm_eqh (ku_th h m _ 0).symm ?_
    refine mm_aload_n dM_start_16 rfl rfl ?_
    refine mm_getf dM_start_17 fM_56 (km_0 h m _) rfl ?_
    refine mm_if_ne_F (tgt := 54) dM_start_20 (by decide) rfl ?_
    refine mm_aload_n dM_start_23 rfl rfl ?_
    refine mm_iconst (v := nI 1) dM_start_24 (by decide) ?_
    refine mm_putf dM_start_25 fM_64 rfl rfl rfl rfl (km_0 h m _) (Nat.le_of_ble_eq_true rfl) ?_
    refine mm_eqh (ku_st h m _ true).symm ?_
    have hh := loop q5 67 0 rfl
    rw [km_kc_0] at hh
    refine mm_iconst (v := nI 0) dM_start_28 (by decide) ?_
    refine mm_istore_n dM_start_29 rfl (by decide) rfl ?_
    exact hh
  · refine mm_iconst (v := nI 1) dM_start_8 (by decide) ?_
    refine mm_goto (tgt := 13) dM_start_9 (by decide) ?_
    refine mm_putf dM_start_13 fM_56 rfl rfl rfl rfl (km_0 h m _) (Nat.le_of_ble_eq_true rfl) ?_
    refine mm_eqh (ku_th h m _ 1).symm ?_
    refine mm_aload_n dM_start_16 rfl rfl ?_
    refine mm_getf dM_start_17 fM_56 (km_0 h m _) rfl ?_
    refine mm_if_ne_T (tgt := 54) dM_start_20 (by decide) (show ¬ nI 1 = 0 by decide) ?_
    refine mm_return dM_start_54 rfl ?_
    exact km_fiv (if_pos q5)
theorem kM_removeSpot {s : Nat} (hs : s < 12) : mm_Ev Γ l d mM_removeSpot [.ref m, .int (nI s)] (km_set h m M) (mm_is (.inl none) (km_set h m (km_rmS M s))) := by
  show mm_W Γ l mM_removeSpot d _ 0 [some (.ref m), some (.int (nI s))] [] _
  refine mm_aload_n dM_removeSpot_0 rfl rfl ?_
  refine mm_getf dM_removeSpot_1 fM_7 (km_0 h m _) rfl ?_
  refine mm_bipush (v := nI 19) dM_removeSpot_4 (by decide) ?_
  refine mm_iload_n dM_removeSpot_6 rfl rfl ?_
  refine mm_iadd dM_removeSpot_7 ?_
  refine mm_iconst (v := -1) dM_removeSpot_8 (by decide) ?_
  refine mm_iastore dM_removeSpot_9 (km_sh h m _) (nI_add 19 s) (by omega) (by decide) ?_
  refine mm_eqh (kv_sh h m _ _ none).symm ?_
  refine mm_aload_n dM_removeSpot_10 rfl rfl ?_
  refine mm_getf dM_removeSpot_11 fM_7 (km_0 h m _) rfl ?_
  refine mm_bipush (v := nI 31) dM_removeSpot_14 (by decide) ?_
  refine mm_iload_n dM_removeSpot_16 rfl rfl ?_
  refine mm_iadd dM_removeSpot_17 ?_
  refine mm_iconst (v := -1) dM_removeSpot_18 (by decide) ?_
  refine mm_iastore dM_removeSpot_19 (km_sh h m _) (nI_add 31 s) (by omega) (by decide) ?_
  refine mm_eqh (kv_sh h m _ _ none).symm ?_
  refine mm_aload_n dM_removeSpot_20 rfl rfl ?_
  refine mm_getf dM_removeSpot_21 fM_7 (km_0 h m _) rfl ?_
  refine mm_bipush (v := nI 43) dM_removeSpot_24 (by decide) ?_
  refine mm_iconst (v := nI 2) dM_removeSpot_26 (by decide) ?_
  refine mm_iload_n dM_removeSpot_27 rfl rfl ?_
  refine mm_imul dM_removeSpot_28 ?_
  refine mm_iadd dM_removeSpot_29 ?_
  refine mm_iconst (v := -1) dM_removeSpot_30 (by decide) ?_
  refine mm_iastore dM_removeSpot_31 (km_sh h m _) (by rw [pk_mul, nI_add]) (by omega) (by decide) ?_
  refine mm_eqh (kv_sh h m _ _ none).symm ?_
  refine mm_aload_n dM_removeSpot_32 rfl rfl ?_
  refine mm_getf dM_removeSpot_33 fM_7 (km_0 h m _) rfl ?_
  refine mm_bipush (v := nI 43) dM_removeSpot_36 (by decide) ?_
  refine mm_iconst (v := nI 2) dM_removeSpot_38 (by decide) ?_
  refine mm_iload_n dM_removeSpot_39 rfl rfl ?_
  refine mm_imul dM_removeSpot_40 ?_
  refine mm_iadd dM_removeSpot_41 ?_
  refine mm_iconst (v := nI 1) dM_removeSpot_42 (by decide) ?_
  refine mm_iadd dM_removeSpot_43 ?_
  refine mm_iconst (v := -1) dM_removeSpot_44 (by decide) ?_
  refine mm_iastore dM_removeSpot_45 (km_sh h m _) (by rw [pk_mul, nI_add, nI_add]) (by omega) (by decide) ?_
  refine mm_eqh (kv_sh h m _ _ none).symm ?_
  refine mm_return dM_removeSpot_46 rfl ?_
  exact ⟨rfl, rfl⟩
theorem kM_isHooked (o : ks_ok (km_S M)) {n : Nat} (hn : n < 6) : mm_Ev Γ l d mM_isHooked [.ref m, .int (nI n)] (km_set h m M) (mm_is (.inl (some (.int (mm_bI (km_hkd M n))))) (km_set h m M)) := by
  have loop : ∀ (r q : Nat) (b : Bool), 43 ≤ q → q + r = 67 → mm_W Γ l mM_isHooked d (mm_is (.inl (some (.int (mm_bI (b || ks_any (fun q => decide (m_sh M q = some n)) q r))))) (km_set h m M)) 5 [some (.ref m), some (.int (nI n)), some (.int (mm_bI b)), some (.int (nI q))] [] (km_set h m M) := by
    intro r
    induction r with
    | zero =>
      intro q b h1 h2
      refine mm_iload_n dM_isHooked_5 rfl rfl ?_
      refine mm_bipush (v := nI 67) dM_isHooked_6 (by decide) ?_
      refine mm_icmp_ge_T (tgt := 37) dM_isHooked_8 (by decide) (nI_le (by omega) (by omega)) ?_
      refine mm_iload_n dM_isHooked_37 rfl rfl ?_
      refine mm_zreturn dM_isHooked_38 rfl (by cases b <;> rfl) ?_
      exact ⟨by show _ = Sum.inl (some (Value.int (mm_bI (b || false)))); rw [Bool.or_false], rfl⟩
    | succ r ih =>
      intro q b h1 h2
      have hq : mm_sm (m_sh M q) := by
        have e := kz_h (m_sh M) (i := q - 43) (by omega)
        rw [show 43 + (q - 43) = q by omega] at e
        rw [← e]
        exact (o.hk (i := q - 43) (by omega)).sm (by decide)
      refine mm_iload_n dM_isHooked_5 rfl rfl ?_
      refine mm_bipush (v := nI 67) dM_isHooked_6 (by decide) ?_
      refine mm_icmp_ge_F (tgt := 37) dM_isHooked_8 (by decide) (nI_ge (by omega) (by omega)) ?_
      refine mm_iload_n dM_isHooked_11 rfl rfl ?_
      refine mm_if_ne_b (tgt := 25) dM_isHooked_12 (by decide) (fun q12 => ?_) (fun q12 => ?_)
      · refine mm_iconst (v := nI 1) dM_isHooked_25 (by decide) ?_
        refine mm_goto (tgt := 30) dM_isHooked_26 (by decide) ?_
        refine mm_istore_n dM_isHooked_30 rfl (by decide) rfl ?_
        refine mm_iinc dM_isHooked_31 (by decide) rfl (mm_inc _) rfl ?_
        refine mm_goto (tgt := 5) dM_isHooked_34 (by decide) ?_
        have hh := ih (q + 1) true (by omega) (by omega)
        rw [show (b || ks_any (fun q => decide (m_sh M q = some n)) q (r + 1)) = (true || ks_any (fun q => decide (m_sh M q = some n)) (q + 1) r) by rw [q12]; rfl]
        exact hh
      · refine mm_aload_n dM_isHooked_15 rfl rfl ?_
        refine mm_getf dM_isHooked_16 fM_7 (km_0 h m _) rfl ?_
        refine mm_iload_n dM_isHooked_19 rfl rfl ?_
        refine mm_iaload dM_isHooked_20 (km_sh h m _) rfl (by omega) (by decide) ?_
        refine mm_iload_n dM_isHooked_21 rfl rfl ?_
        refine mm_icmp_ne_k (tgt := 29) dM_isHooked_22 (by decide) hq (by omega) (fun q22 => ?_) (fun q22 => ?_)
        · refine mm_iconst (v := nI 0) dM_isHooked_29 (by decide) ?_
          refine mm_istore_n dM_isHooked_30 rfl (by decide) rfl ?_
          refine mm_iinc dM_isHooked_31 (by decide) rfl (mm_inc _) rfl ?_
          refine mm_goto (tgt := 5) dM_isHooked_34 (by decide) ?_
          have hh := ih (q + 1) false (by omega) (by omega)
          rw [show (b || ks_any (fun q => decide (m_sh M q = some n)) q (r + 1)) = (false || ks_any (fun q => decide (m_sh M q = some n)) (q + 1) r) by rw [q12]; exact if_neg (show ¬ decide (m_sh M q = some n) = true by rw [decide_eq_false q22]; decide)]
          exact hh
        · refine mm_iconst (v := nI 1) dM_isHooked_25 (by decide) ?_
          refine mm_goto (tgt := 30) dM_isHooked_26 (by decide) ?_
          refine mm_istore_n dM_isHooked_30 rfl (by decide) rfl ?_
          refine mm_iinc dM_isHooked_31 (by decide) rfl (mm_inc _) rfl ?_
          refine mm_goto (tgt := 5) dM_isHooked_34 (by decide) ?_
          have hh := ih (q + 1) true (by omega) (by omega)
          rw [show (b || ks_any (fun q => decide (m_sh M q = some n)) q (r + 1)) = (true || ks_any (fun q => decide (m_sh M q = some n)) (q + 1) r) by rw [q12]; exact if_pos (decide_eq_true q22)]
          exact hh
  have hh := loop 24 43 false (Nat.le_refl _) rfl
  show mm_W Γ l mM_isHooked d _ 0 [some (.ref m), some (.int (nI n)), none, none] [] _
  refine mm_iconst (v := nI 0) dM_isHooked_0 (by decide) ?_
  refine mm_istore_n dM_isHooked_1 rfl (by decide) rfl ?_
  refine mm_bipush (v := nI 43) dM_isHooked_2 (by decide) ?_
  refine mm_istore_n dM_isHooked_4 rfl (by decide) rfl ?_
  exact hh
theorem kM_noPart (o : ks_ok (km_S M)) (k n : Int32) : mm_Ev Γ l (d + 1 + 1) mM_noPart [.ref m, .int k, .int n] (km_set h m M) (mm_is (.inl (some (.int (mm_bI (!ks_partI (km_S M) k n))))) (km_set h m M)) := by
  show mm_W Γ l mM_noPart (d + 1 + 1) _ 0 [some (.ref m), some (.int k), some (.int n)] [] _
  refine mm_iload_n dM_noPart_0 rfl rfl ?_
  refine mm_if_ne (tgt := 20) dM_noPart_1 (by decide) (fun q1 => ?_) (fun q1 => ?_)
  · refine mm_iload_n dM_noPart_20 rfl rfl ?_
    refine mm_iconst (v := nI 1) dM_noPart_21 (by decide) ?_
    refine mm_icmp_ne (tgt := 33) dM_noPart_22 (by decide) (fun q22 => ?_) (fun q22 => ?_)
    · refine mm_iconst (v := nI 1) dM_noPart_33 (by decide) ?_
      refine mm_goto (tgt := 38) dM_noPart_34 (by decide) ?_
      refine mm_zreturn dM_noPart_38 rfl rfl ?_
      exact mm_f1 (by rw [ks_part_no q1 q22]; rfl)
    · subst q22
      refine mm_aload_n dM_noPart_25 rfl rfl ?_
      refine mm_iload_n dM_noPart_26 rfl rfl ?_
      refine mm_v1 dM_noPart_27 lM_112 (km_0 h m _) rfl (by decide) (Nat.le_of_ble_eq_true rfl) (kM_isCut o n) ?_
      refine mm_if_ne_b (tgt := 37) dM_noPart_30 (by decide) (fun q30 => ?_) (fun q30 => ?_)
      · refine mm_iconst (v := nI 0) dM_noPart_37 (by decide) ?_
        refine mm_zreturn dM_noPart_38 rfl rfl ?_
        exact mm_f0 (by unfold ks_partI; rw [decide_eq_true (by decide), q30]; rfl)
      · refine mm_iconst (v := nI 1) dM_noPart_33 (by decide) ?_
        refine mm_goto (tgt := 38) dM_noPart_34 (by decide) ?_
        refine mm_zreturn dM_noPart_38 rfl rfl ?_
        exact mm_f1 (by unfold ks_partI; rw [decide_eq_true (by decide), q30]; rfl)
  · subst q1
    refine mm_aload_n dM_noPart_4 rfl rfl ?_
    refine mm_iload_n dM_noPart_5 rfl rfl ?_
    refine mm_v1 dM_noPart_6 lM_105 (km_0 h m _) rfl (by decide) (Nat.le_of_ble_eq_true rfl) (kM_isSpot o n) ?_
    refine mm_if_ne_b (tgt := 16) dM_noPart_9 (by decide) (fun q9 => ?_) (fun q9 => ?_)
    · refine mm_iconst (v := nI 0) dM_noPart_16 (by decide) ?_
      refine mm_goto (tgt := 38) dM_noPart_17 (by decide) ?_
      refine mm_zreturn dM_noPart_38 rfl rfl ?_
      exact mm_f0 (by unfold ks_partI; rw [decide_eq_true (by decide), show ks_hasI (km_S M) 0 n = _ from q9]; rfl)
    · refine mm_iconst (v := nI 1) dM_noPart_12 (by decide) ?_
      refine mm_goto (tgt := 38) dM_noPart_13 (by decide) ?_
      refine mm_zreturn dM_noPart_38 rfl rfl ?_
      exact mm_f1 (by unfold ks_partI; rw [decide_eq_true (by decide), show ks_hasI (km_S M) 0 n = _ from q9]; rfl)
theorem kM_areaOf {k i : Nat} (hk : k < 3) (hi : i < ks_len k) : mm_Ev Γ l d mM_areaOf [.ref m, .int (nI k), .int (nI i)] (km_set h m M) (mm_is (.inl (some (.int (mm_enc (ks_row (km_S M) k i))))) (km_set h m M)) := by
  match k, hk, hi with
  | 0, _, hi =>
    have hi : i < 12 := hi
    show mm_W Γ l mM_areaOf d _ 0 [some (.ref m), some (.int (nI 0)), some (.int (nI i))] [] _
    refine mm_iload_n dM_areaOf_0 rfl rfl ?_
    refine mm_if_ne_F (tgt := 16) dM_areaOf_1 (by decide) rfl ?_
    refine mm_aload_n dM_areaOf_4 rfl rfl ?_
    refine mm_getf dM_areaOf_5 fM_7 (km_0 h m _) rfl ?_
    refine mm_bipush (v := nI 19) dM_areaOf_8 (by decide) ?_
    refine mm_iload_n dM_areaOf_10 rfl rfl ?_
    refine mm_iadd dM_areaOf_11 ?_
    refine mm_iaload dM_areaOf_12 (km_sh h m _) (nI_add 19 i) (by omega) (by decide) ?_
    refine mm_goto (tgt := 39) dM_areaOf_13 (by decide) ?_
    refine mm_ireturn dM_areaOf_39 rfl ?_
    exact ⟨by rw [show ks_row (km_S M) 0 i = m_sh M (19 + i) from kz_s _ hi], rfl⟩
  | 1, _, hi =>
    have hi : i < 13 := hi
    show mm_W Γ l mM_areaOf d _ 0 [some (.ref m), some (.int (nI 1)), some (.int (nI i))] [] _
    refine mm_iload_n dM_areaOf_0 rfl rfl ?_
    refine mm_if_ne_T (tgt := 16) dM_areaOf_1 (by decide) (show ¬ nI 1 = 0 by decide) ?_
    refine mm_iload_n dM_areaOf_16 rfl rfl ?_
    refine mm_iconst (v := nI 1) dM_areaOf_17 (by decide) ?_
    refine mm_icmp_ne_F (tgt := 30) dM_areaOf_18 (by decide) rfl ?_
    refine mm_aload_n dM_areaOf_21 rfl rfl ?_
    refine mm_getf dM_areaOf_22 fM_7 (km_0 h m _) rfl ?_
    refine mm_iload_n dM_areaOf_25 rfl rfl ?_
    refine mm_iaload dM_areaOf_26 (km_sh h m _) rfl (by omega) (by decide) ?_
    refine mm_goto (tgt := 39) dM_areaOf_27 (by decide) ?_
    refine mm_ireturn dM_areaOf_39 rfl ?_
    exact ⟨by rw [show ks_row (km_S M) 1 i = m_sh M i from kz_c _ hi], rfl⟩
  | 2, _, hi =>
    have hi : i < 6 := hi
    show mm_W Γ l mM_areaOf d _ 0 [some (.ref m), some (.int (nI 2)), some (.int (nI i))] [] _
    refine mm_iload_n dM_areaOf_0 rfl rfl ?_
    refine mm_if_ne_T (tgt := 16) dM_areaOf_1 (by decide) (show ¬ nI 2 = 0 by decide) ?_
    refine mm_iload_n dM_areaOf_16 rfl rfl ?_
    refine mm_iconst (v := nI 1) dM_areaOf_17 (by decide) ?_
    refine mm_icmp_ne_T (tgt := 30) dM_areaOf_18 (by decide) (show ¬ nI 2 = nI 1 by decide) ?_
    refine mm_aload_n dM_areaOf_30 rfl rfl ?_
    refine mm_getf dM_areaOf_31 fM_7 (km_0 h m _) rfl ?_
    refine mm_bipush (v := nI 13) dM_areaOf_34 (by decide) ?_
    refine mm_iload_n dM_areaOf_36 rfl rfl ?_
    refine mm_iadd dM_areaOf_37 ?_
    refine mm_iaload dM_areaOf_38 (km_sh h m _) (nI_add 13 i) (by omega) (by decide) ?_
    refine mm_ireturn dM_areaOf_39 rfl ?_
    exact ⟨by rw [show ks_row (km_S M) 2 i = m_sh M (13 + i) from kz_l _ hi], rfl⟩
  | n + 3, h, _ => exact absurd h (by omega)
theorem kM_removeCut (o : kt_ok (km_S M)) {c : Nat} (hc : c < 13) : mm_Ev Γ l (d + 1 + 1) mM_removeCut [.ref m, .int (nI c)] (km_set h m M) (mm_is (.inl none) (km_set h m (km_rcA M c))) := by
  have l4 : ∀ (D : mm_D) (R : km_M), D (.inl none) (km_set h m R) → ∀ (j i : Nat) (M1 : km_M), i + j = 13 → km_rcC i j M1 = R → (∀ q, i ≤ q → q < 13 → m_nn M1 q < 2) → mm_W Γ l mM_removeCut (d + 1 + 1) D 137 [some (.ref m), some (.int (nI c)), some (.int (nI i))] [] (km_set h m M1) := by
    intro D R hD j
    induction j with
    | zero =>
      intro i M1 hi e hn
      have e : M1 = R := e
      subst e
      refine mm_iload_n dM_removeCut_137 rfl rfl ?_
      refine mm_bipush (v := nI 13) dM_removeCut_138 (by decide) ?_
      refine mm_icmp_ge_T (tgt := 175) dM_removeCut_140 (by decide) (nI_le (by omega) (by omega)) ?_
      refine mm_return dM_removeCut_175 rfl ?_
      exact hD
    | succ j ih =>
      intro i M1 hi e hn
      have hn1 := hn i (by omega) (by omega)
      refine mm_iload_n dM_removeCut_137 rfl rfl ?_
      refine mm_bipush (v := nI 13) dM_removeCut_138 (by decide) ?_
      refine mm_icmp_ge_F (tgt := 175) dM_removeCut_140 (by decide) (nI_ge (by omega) (by omega)) ?_
      refine mm_aload_n dM_removeCut_143 rfl rfl ?_
      refine mm_getf dM_removeCut_144 fM_7 (km_0 h m _) rfl ?_
      refine mm_iload_n dM_removeCut_147 rfl rfl ?_
      refine mm_aload_n dM_removeCut_148 rfl rfl ?_
      refine mm_getf dM_removeCut_149 fM_35 (km_0 h m _) rfl ?_
      refine mm_iload_n dM_removeCut_152 rfl rfl ?_
      refine mm_iaload dM_removeCut_153 (km_nn h m _) rfl (by omega) (by decide) ?_
      refine mm_iconst (v := nI 1) dM_removeCut_154 (by decide) ?_
      refine mm_icmp_ne_n (tgt := 162) dM_removeCut_155 (by decide) (by omega) (by decide) (fun q155 => ?_) (fun q155 => ?_)
      · refine mm_aload_n dM_removeCut_162 rfl rfl ?_
        refine mm_getf dM_removeCut_163 fM_7 (km_0 h m _) rfl ?_
        refine mm_iload_n dM_removeCut_166 rfl rfl ?_
        refine mm_iaload dM_removeCut_167 (km_sh h m _) rfl (by omega) (by decide) ?_
        refine mm_iastore dM_removeCut_168 (km_sh h m _) rfl (by omega) (by decide) ?_
        refine mm_eqh (kv_sh h m _ _ (m_sh M1 i)).symm ?_
        refine mm_iinc dM_removeCut_169 (by decide) rfl (mm_inc _) rfl ?_
        refine mm_goto (tgt := 137) dM_removeCut_172 (by decide) ?_
        exact ih (i + 1) _ (by omega) (by rw [← e]; show _ = km_rcC (i + 1) j (km_st M1 i (if m_nn M1 i = 1 then none else m_sh M1 i)); rw [if_neg q155]; rfl) (fun q g1 g2 => hn q (by omega) g2)
      · refine mm_iconst (v := -1) dM_removeCut_158 (by decide) ?_
        refine mm_goto (tgt := 168) dM_removeCut_159 (by decide) ?_
        refine mm_iastore dM_removeCut_168 (km_sh h m _) rfl (by omega) (by decide) ?_
        refine mm_eqh (kv_sh h m _ _ none).symm ?_
        refine mm_iinc dM_removeCut_169 (by decide) rfl (mm_inc _) rfl ?_
        refine mm_goto (tgt := 137) dM_removeCut_172 (by decide) ?_
        exact ih (i + 1) _ (by omega) (by rw [← e]; show _ = km_rcC (i + 1) j (km_st M1 i (if m_nn M1 i = 1 then none else m_sh M1 i)); rw [if_pos q155]; rfl) (fun q g1 g2 => hn q (by omega) g2)
  have l3 : ∀ (D : mm_D) (R : km_M), D (.inl none) (km_set h m R) → ∀ (j i : Nat) (M1 : km_M), i + j = 13 → km_rcC 1 12 (km_rcN c i j M1) = R → kt_ok (km_S M1) → (∀ q, 1 ≤ q → q < i → m_nn M1 q < 2) → mm_W Γ l mM_removeCut (d + 1 + 1) D 95 [some (.ref m), some (.int (nI c)), some (.int (nI i))] [] (km_set h m M1) := by
    intro D R hD j
    induction j with
    | zero =>
      intro i M1 hi e o1 hn
      have hi : i = 13 := by omega
      subst hi
      refine mm_iload_n dM_removeCut_95 rfl rfl ?_
      refine mm_bipush (v := nI 13) dM_removeCut_96 (by decide) ?_
      refine mm_icmp_ge_T (tgt := 135) dM_removeCut_98 (by decide) (nI_le (by omega) (by omega)) ?_
      refine mm_iconst (v := nI 1) dM_removeCut_135 (by decide) ?_
      refine mm_istore_n dM_removeCut_136 rfl (by decide) rfl ?_
      exact l4 D R hD 12 1 M1 rfl e (fun q g1 g2 => hn q g1 g2)
    | succ j ih =>
      intro i M1 hi e o1 hn
      have hgo : ∀ v, km_rcNat M1 c i = v → v < 2 → mm_W Γ l mM_removeCut (d + 1 + 1) D 95 [some (.ref m), some (.int (nI c)), some (.int (nI (i + 1)))] [] (km_set h m (s_nn M1 (ks_un (m_nn M1) i v))) := by
        intro v hv h2
        refine ih (i + 1) _ (by omega) (by rw [← e, km_rcN_s, hv]) o1 (fun q g1 g2 => ?_)
        show ks_un (m_nn M1) i v q < 2
        unfold ks_un
        by_cases g : q = i
        · rw [if_pos g]; exact h2
        · rw [if_neg g]; exact hn q g1 (by omega)
      refine mm_iload_n dM_removeCut_95 rfl rfl ?_
      refine mm_bipush (v := nI 13) dM_removeCut_96 (by decide) ?_
      refine mm_icmp_ge_F (tgt := 135) dM_removeCut_98 (by decide) (nI_ge (by omega) (by omega)) ?_
      refine mm_aload_n dM_removeCut_101 rfl rfl ?_
      refine mm_getf dM_removeCut_102 fM_35 (km_0 h m _) rfl ?_
      refine mm_iload_n dM_removeCut_105 rfl rfl ?_
      refine mm_aload_n dM_removeCut_106 rfl rfl ?_
      refine mm_iload_n dM_removeCut_107 rfl rfl ?_
      refine mm_v1 dM_removeCut_108 lM_112 (km_0 h m _) rfl (by decide) (Nat.le_of_ble_eq_true rfl) (kM_isCut o1.1 (nI i)) ?_
      refine mm_if_eq_b (tgt := 127) dM_removeCut_111 (by decide) (fun q111 => ?_) (fun q111 => ?_)
      · have q111 : ks_has (km_S M1) 1 i = false := (ks_hasI_n (by decide) (by omega)).symm.trans q111
        refine mm_iconst (v := nI 0) dM_removeCut_127 (by decide) ?_
        refine mm_iastore dM_removeCut_128 (km_nn h m _) rfl (by omega) (by decide) ?_
        refine mm_eqh (kv_nn h m _ _ 0).symm ?_
        refine mm_iinc dM_removeCut_129 (by decide) rfl (mm_inc _) rfl ?_
        refine mm_goto (tgt := 95) dM_removeCut_132 (by decide) ?_
        exact hgo 0 (if_neg (by rw [q111]; exact Bool.false_ne_true)) (by decide)
      · have q111 : ks_has (km_S M1) 1 i = true := (ks_hasI_n (by decide) (by omega)).symm.trans q111
        have hk := o1.2.2 i (by omega) (Or.inr (fun w => by obtain ⟨-, -, x, hx⟩ := ks_has_iff.mp q111; have hx : (km_S M1).2.1 i = some x := hx; rw [w] at hx; cases hx))
        refine mm_aload_n dM_removeCut_114 rfl rfl ?_
        refine mm_iload_n dM_removeCut_115 rfl rfl ?_
        refine mm_iload_n dM_removeCut_116 rfl rfl ?_
        refine mm_v2 dM_removeCut_117 lM_92 (km_0 h m _) rfl rfl (by decide) (Nat.le_of_ble_eq_true rfl) (kM_isWithin o1.1 hk (by omega)) ?_
        refine mm_if_eq_b (tgt := 127) dM_removeCut_120 (by decide) (fun q120 => ?_) (fun q120 => ?_)
        · refine mm_iconst (v := nI 0) dM_removeCut_127 (by decide) ?_
          refine mm_iastore dM_removeCut_128 (km_nn h m _) rfl (by omega) (by decide) ?_
          refine mm_eqh (kv_nn h m _ _ 0).symm ?_
          refine mm_iinc dM_removeCut_129 (by decide) rfl (mm_inc _) rfl ?_
          refine mm_goto (tgt := 95) dM_removeCut_132 (by decide) ?_
          exact hgo 0 (if_neg (by rw [q111, q120]; decide)) (by decide)
        · refine mm_iconst (v := nI 1) dM_removeCut_123 (by decide) ?_
          refine mm_goto (tgt := 128) dM_removeCut_124 (by decide) ?_
          refine mm_iastore dM_removeCut_128 (km_nn h m _) rfl (by omega) (by decide) ?_
          refine mm_eqh (kv_nn h m _ _ 1).symm ?_
          refine mm_iinc dM_removeCut_129 (by decide) rfl (mm_inc _) rfl ?_
          refine mm_goto (tgt := 95) dM_removeCut_132 (by decide) ?_
          exact hgo 1 (if_pos (by rw [q111, q120]; rfl)) (by decide)
  have l2 : ∀ (D : mm_D) (R : km_M), D (.inl none) (km_set h m R) → ∀ (j i : Nat) (M1 : km_M), i + j = 6 → km_rcC 1 12 (km_rcN c 1 12 (km_rcL c i j M1)) = R → kt_ok (km_S M1) → mm_W Γ l mM_removeCut (d + 1 + 1) D 46 [some (.ref m), some (.int (nI c)), some (.int (nI i))] [] (km_set h m M1) := by
    intro D R hD j
    induction j with
    | zero =>
      intro i M1 hi e o1
      have hi : i = 6 := by omega
      subst hi
      refine mm_iload_n dM_removeCut_46 rfl rfl ?_
      refine mm_bipush (v := nI 6) dM_removeCut_47 (by decide) ?_
      refine mm_icmp_ge_T (tgt := 93) dM_removeCut_49 (by decide) (nI_le (by omega) (by omega)) ?_
      refine mm_iconst (v := nI 1) dM_removeCut_93 (by decide) ?_
      refine mm_istore_n dM_removeCut_94 rfl (by decide) rfl ?_
      exact l3 D R hD 12 1 M1 rfl e o1 (fun q g1 g2 => absurd g2 (by omega))
    | succ j ih =>
      intro i M1 hi e o1
      have no : ks_in (km_S M1) ((km_S M1).2.2.1 i) (some c) = false → mm_W Γ l mM_removeCut (d + 1 + 1) D 46 [some (.ref m), some (.int (nI c)), some (.int (nI (i + 1)))] [] (km_set h m M1) := by
        intro hf
        refine ih (i + 1) M1 (by omega) ?_ o1
        rw [← e, km_rcL_f hf]
      have yes : ks_in (km_S M1) ((km_S M1).2.2.1 i) (some c) = true → mm_W Γ l mM_removeCut (d + 1 + 1) D 46 [some (.ref m), some (.int (nI c)), some (.int (nI (i + 1)))] [] (km_set h m (km_st M1 (13 + i) none)) := by
        intro hf
        refine ih (i + 1) _ (by omega) ?_ (kt_ok_rmL o1 (by omega))
        rw [← e, km_rcL_t hf]
      refine mm_iload_n dM_removeCut_46 rfl rfl ?_
      refine mm_bipush (v := nI 6) dM_removeCut_47 (by decide) ?_
      refine mm_icmp_ge_F (tgt := 93) dM_removeCut_49 (by decide) (nI_ge (by omega) (by omega)) ?_
      refine mm_aload_n dM_removeCut_52 rfl rfl ?_
      refine mm_iload_n dM_removeCut_53 rfl rfl ?_
      refine mm_v1 dM_removeCut_54 lM_89 (km_0 h m _) rfl (by decide) (Nat.le_of_ble_eq_true rfl) (kM_isLine o1.1 (nI i)) ?_
      refine mm_if_eq_b (tgt := 87) dM_removeCut_57 (by decide) (fun q57 => ?_) (fun q57 => ?_)
      · refine mm_iinc dM_removeCut_87 (by decide) rfl (mm_inc _) rfl ?_
        refine mm_goto (tgt := 46) dM_removeCut_90 (by decide) ?_
        exact no (by rw [show (km_S M1).2.2.1 i = none from km_no_row (k := 2) (by decide) (by show i < 6; omega) q57]; rfl)
      · obtain ⟨i2, x, hi2, e2, hx⟩ := ks_hasI_k (k := 2) (by decide) q57
        have e2 := (nI_eq (by omega) (by have := ks_len_le 2; omega)).mp e2
        subst e2
        have hx : (km_S M1).2.2.1 i = some x := hx
        have hx2 : m_sh M1 (13 + i) = some x := (kz_l _ hi2).symm.trans hx
        have hk := o1.2.1 2 i x (by decide) hi2 hx
        refine mm_aload_n dM_removeCut_60 rfl rfl ?_
        refine mm_aload_n dM_removeCut_61 rfl rfl ?_
        refine mm_getf dM_removeCut_62 fM_7 (km_0 h m _) rfl ?_
        refine mm_bipush (v := nI 13) dM_removeCut_65 (by decide) ?_
        refine mm_iload_n dM_removeCut_67 rfl rfl ?_
        refine mm_iadd dM_removeCut_68 ?_
        refine mm_iaload dM_removeCut_69 (km_sh h m _) (nI_add 13 i) (by omega) (by decide) ?_
        refine mm_top (v' := .int (nI x)) (congrArg Value.int (show mm_enc (m_sh M1 (13 + i)) = nI x by rw [hx2]; rfl)) ?_
        refine mm_iload_n dM_removeCut_70 rfl rfl ?_
        refine mm_v2 dM_removeCut_71 lM_92 (km_0 h m _) rfl rfl (by decide) (Nat.le_of_ble_eq_true rfl) (kM_isWithin o1.1 hk (by omega)) ?_
        refine mm_if_eq_b (tgt := 87) dM_removeCut_74 (by decide) (fun q74 => ?_) (fun q74 => ?_)
        · refine mm_iinc dM_removeCut_87 (by decide) rfl (mm_inc _) rfl ?_
          refine mm_goto (tgt := 46) dM_removeCut_90 (by decide) ?_
          exact no (by rw [hx]; exact q74)
        · refine mm_aload_n dM_removeCut_77 rfl rfl ?_
          refine mm_getf dM_removeCut_78 fM_7 (km_0 h m _) rfl ?_
          refine mm_bipush (v := nI 13) dM_removeCut_81 (by decide) ?_
          refine mm_iload_n dM_removeCut_83 rfl rfl ?_
          refine mm_iadd dM_removeCut_84 ?_
          refine mm_iconst (v := -1) dM_removeCut_85 (by decide) ?_
          refine mm_iastore dM_removeCut_86 (km_sh h m _) (nI_add 13 i) (by omega) (by decide) ?_
          refine mm_eqh (kv_sh h m _ _ none).symm ?_
          refine mm_iinc dM_removeCut_87 (by decide) rfl (mm_inc _) rfl ?_
          refine mm_goto (tgt := 46) dM_removeCut_90 (by decide) ?_
          exact yes (by rw [hx]; exact q74)
  have l1 : ∀ (D : mm_D) (R : km_M), D (.inl none) (km_set h m R) → ∀ (j i : Nat) (M1 : km_M), i + j = 12 → km_rcC 1 12 (km_rcN c 1 12 (km_rcL c 0 6 (km_rcS c i j M1))) = R → kt_ok (km_S M1) → mm_W Γ l mM_removeCut (d + 1 + 1) D 2 [some (.ref m), some (.int (nI c)), some (.int (nI i))] [] (km_set h m M1) := by
    intro D R hD j
    induction j with
    | zero =>
      intro i M1 hi e o1
      have hi : i = 12 := by omega
      subst hi
      refine mm_iload_n dM_removeCut_2 rfl rfl ?_
      refine mm_bipush (v := nI 12) dM_removeCut_3 (by decide) ?_
      refine mm_icmp_ge_T (tgt := 44) dM_removeCut_5 (by decide) (nI_le (by omega) (by omega)) ?_
      refine mm_iconst (v := nI 0) dM_removeCut_44 (by decide) ?_
      refine mm_istore_n dM_removeCut_45 rfl (by decide) rfl ?_
      exact l2 D R hD 6 0 M1 rfl e o1
    | succ j ih =>
      intro i M1 hi e o1
      have no : ks_in (km_S M1) ((km_S M1).1 i) (some c) = false → mm_W Γ l mM_removeCut (d + 1 + 1) D 2 [some (.ref m), some (.int (nI c)), some (.int (nI (i + 1)))] [] (km_set h m M1) := by
        intro hf
        refine ih (i + 1) M1 (by omega) ?_ o1
        rw [← e, km_rcS_f hf]
      have yes : ks_in (km_S M1) ((km_S M1).1 i) (some c) = true → mm_W Γ l mM_removeCut (d + 1 + 1) D 2 [some (.ref m), some (.int (nI c)), some (.int (nI (i + 1)))] [] (km_set h m (km_rmS M1 i)) := by
        intro hf
        refine ih (i + 1) _ (by omega) ?_ (kt_ok_rmS o1 (by omega))
        rw [← e, km_rcS_t hf]
      refine mm_iload_n dM_removeCut_2 rfl rfl ?_
      refine mm_bipush (v := nI 12) dM_removeCut_3 (by decide) ?_
      refine mm_icmp_ge_F (tgt := 44) dM_removeCut_5 (by decide) (nI_ge (by omega) (by omega)) ?_
      refine mm_aload_n dM_removeCut_8 rfl rfl ?_
      refine mm_iload_n dM_removeCut_9 rfl rfl ?_
      refine mm_v1 dM_removeCut_10 lM_105 (km_0 h m _) rfl (by decide) (Nat.le_of_ble_eq_true rfl) (kM_isSpot o1.1 (nI i)) ?_
      refine mm_if_eq_b (tgt := 38) dM_removeCut_13 (by decide) (fun q13 => ?_) (fun q13 => ?_)
      · refine mm_iinc dM_removeCut_38 (by decide) rfl (mm_inc _) rfl ?_
        refine mm_goto (tgt := 2) dM_removeCut_41 (by decide) ?_
        exact no (by rw [show (km_S M1).1 i = none from km_no_row (k := 0) (by decide) (by show i < 12; omega) q13]; rfl)
      · obtain ⟨i2, x, hi2, e2, hx⟩ := ks_hasI_k (k := 0) (by decide) q13
        have e2 := (nI_eq (by omega) (by have := ks_len_le 0; omega)).mp e2
        subst e2
        have hx : (km_S M1).1 i = some x := hx
        have hx2 : m_sh M1 (19 + i) = some x := (kz_s _ hi2).symm.trans hx
        have hk := o1.2.1 0 i x (by decide) hi2 hx
        refine mm_aload_n dM_removeCut_16 rfl rfl ?_
        refine mm_aload_n dM_removeCut_17 rfl rfl ?_
        refine mm_getf dM_removeCut_18 fM_7 (km_0 h m _) rfl ?_
        refine mm_bipush (v := nI 19) dM_removeCut_21 (by decide) ?_
        refine mm_iload_n dM_removeCut_23 rfl rfl ?_
        refine mm_iadd dM_removeCut_24 ?_
        refine mm_iaload dM_removeCut_25 (km_sh h m _) (nI_add 19 i) (by omega) (by decide) ?_
        refine mm_top (v' := .int (nI x)) (congrArg Value.int (show mm_enc (m_sh M1 (19 + i)) = nI x by rw [hx2]; rfl)) ?_
        refine mm_iload_n dM_removeCut_26 rfl rfl ?_
        refine mm_v2 dM_removeCut_27 lM_92 (km_0 h m _) rfl rfl (by decide) (Nat.le_of_ble_eq_true rfl) (kM_isWithin o1.1 hk (by omega)) ?_
        refine mm_if_eq_b (tgt := 38) dM_removeCut_30 (by decide) (fun q30 => ?_) (fun q30 => ?_)
        · refine mm_iinc dM_removeCut_38 (by decide) rfl (mm_inc _) rfl ?_
          refine mm_goto (tgt := 2) dM_removeCut_41 (by decide) ?_
          exact no (by rw [hx]; exact q30)
        · refine mm_aload_n dM_removeCut_33 rfl rfl ?_
          refine mm_iload_n dM_removeCut_34 rfl rfl ?_
          refine mm_v1 dM_removeCut_35 lM_108 (km_0 h m _) rfl (by decide) (Nat.le_of_ble_eq_true rfl) (kM_removeSpot (by omega)) ?_
          refine mm_iinc dM_removeCut_38 (by decide) rfl (mm_inc _) rfl ?_
          refine mm_goto (tgt := 2) dM_removeCut_41 (by decide) ?_
          exact yes (by rw [hx]; exact q30)
  show mm_W Γ l mM_removeCut (d + 1 + 1) _ 0 [some (.ref m), some (.int (nI c)), none] [] _
  refine mm_iconst (v := nI 0) dM_removeCut_0 (by decide) ?_
  refine mm_istore_n dM_removeCut_1 rfl (by decide) rfl ?_
  exact l1 _ _ ⟨rfl, rfl⟩ 12 0 M rfl rfl o
end KM3
