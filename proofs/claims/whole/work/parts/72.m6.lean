/-! Contracts of the reference. Printed by wip/whole/spec/m6.py -/
section KM6
variable {Γ : mm_G} {l : Launch} {d : Nat} {h : mm_H} {m : Nat} {M : km_M}
theorem kM_copySpot {T' : kd_T} (o : kd_ok (m_sh M, m_nl M)) {s a : Nat} (hs : s < 12) (ha : a < 13) (e : kd_spot (m_sh M, m_nl M) s a = some T') : mm_Ev Γ l (d + 1) mM_copySpot [.ref m, .int (nI s), .int (nI a)] (km_set h m M) (mm_is (.inl none) (km_set h m (kd_M M T'))) := by
  have inn : ∀ (D : mm_D) (n k : Nat) (T1 : kd_T) (x5 : Option Value), n < 12 → k < 2 → kd_ok T1 →
      (∀ x5', mm_W Γ l mM_copySpot (d + 1) D 36 [some (.ref m), some (.int (nI s)), some (.int (nI a)), some (.int (nI n)), some (.int (nI (k + 1))), x5'] [] (km_set h m (kd_M M (kd_put T1 (43 + 2 * n + k) (kd_nh T1 (T1.1 (43 + 2 * s + k))))))) →
      mm_W Γ l mM_copySpot (d + 1) D 36 [some (.ref m), some (.int (nI s)), some (.int (nI a)), some (.int (nI n)), some (.int (nI k)), x5] [] (km_set h m (kd_M M T1)) := by
    intro D n k T1 x5 hn hk o1 cont
    have hl : mm_lt (T1.1 (43 + 2 * s + k)) 6 := by
      rw [Nat.add_assoc]
      exact kd_hk o1 (by omega)
    have hsm := hl.sm (n := 6) (by decide)
    refine mm_iload dM_copySpot_36 rfl ?_
    refine mm_iconst (v := nI 2) dM_copySpot_38 (by decide) ?_
    refine mm_icmp_ge_F (tgt := 107) dM_copySpot_39 (by decide) (nI_ge (by omega) (by omega)) ?_
    refine mm_aload_n dM_copySpot_42 rfl rfl ?_
    refine mm_getf dM_copySpot_43 fM_7 (km_0 h m _) rfl ?_
    refine mm_bipush (v := nI 43) dM_copySpot_46 (by decide) ?_
    refine mm_iconst (v := nI 2) dM_copySpot_48 (by decide) ?_
    refine mm_iload_n dM_copySpot_49 rfl rfl ?_
    refine mm_imul dM_copySpot_50 ?_
    refine mm_iadd dM_copySpot_51 ?_
    refine mm_iload dM_copySpot_52 rfl ?_
    refine mm_iadd dM_copySpot_54 ?_
    refine mm_iaload dM_copySpot_55 (km_sh h m _) (by rw [pk_mul, nI_add, nI_add]) (by omega) (by decide) ?_
    refine mm_istore dM_copySpot_56 (by decide) rfl ?_
    refine mm_aload_n dM_copySpot_58 rfl rfl ?_
    refine mm_getf dM_copySpot_59 fM_7 (km_0 h m _) rfl ?_
    refine mm_bipush (v := nI 43) dM_copySpot_62 (by decide) ?_
    refine mm_iconst (v := nI 2) dM_copySpot_64 (by decide) ?_
    refine mm_iload_n dM_copySpot_65 rfl rfl ?_
    refine mm_imul dM_copySpot_66 ?_
    refine mm_iadd dM_copySpot_67 ?_
    refine mm_iload dM_copySpot_68 rfl ?_
    refine mm_iadd dM_copySpot_70 ?_
    refine mm_iload dM_copySpot_71 rfl ?_
    refine mm_iconst (v := -1) dM_copySpot_73 (by decide) ?_
    refine mm_icmp_eq_o (tgt := 98) dM_copySpot_74 (by decide) hsm (fun q74 => ?_) (fun q74 => ?_)
    · have q74 : T1.1 (43 + 2 * s + k) = none := q74
      refine mm_iload dM_copySpot_98 rfl ?_
      refine mm_iastore dM_copySpot_100 (km_sh h m _) (by rw [pk_mul, nI_add, nI_add]) (by omega) (by decide) ?_
      refine mm_eqh (kv_sh h m _ _ (T1.1 (43 + 2 * s + k))).symm ?_
      refine mm_iinc dM_copySpot_101 (by decide) rfl (mm_inc _) rfl ?_
      refine mm_goto (tgt := 36) dM_copySpot_104 (by decide) ?_
      have hh := cont (some (.int (mm_enc (T1.1 (43 + 2 * s + k)))))
      rw [show kd_nh T1 (T1.1 (43 + 2 * s + k)) = T1.1 (43 + 2 * s + k) by rw [q74]; rfl] at hh
      exact hh
    · obtain ⟨x, hx⟩ := Option.ne_none_iff_exists'.mp q74
      have hx : T1.1 (43 + 2 * s + k) = some x := hx
      have hx6 := hl x hx
      refine mm_aload_n dM_copySpot_77 rfl rfl ?_
      refine mm_getf dM_copySpot_78 fM_38 (km_0 h m _) rfl ?_
      refine mm_iload dM_copySpot_81 rfl ?_
      refine mm_iaload dM_copySpot_83 (km_nl h m _) (by show mm_enc (T1.1 (43 + 2 * s + k)) = nI x; rw [hx]; rfl) (by omega) (by decide) ?_
      refine mm_iconst (v := -1) dM_copySpot_84 (by decide) ?_
      refine mm_icmp_eq_o (tgt := 98) dM_copySpot_85 (by decide) ((o1.2 x hx6).sm (by decide)) (fun q85 => ?_) (fun q85 => ?_)
      · refine mm_iload dM_copySpot_98 rfl ?_
        refine mm_iastore dM_copySpot_100 (km_sh h m _) (by rw [pk_mul, nI_add, nI_add]) (by omega) (by decide) ?_
        refine mm_eqh (kv_sh h m _ _ (T1.1 (43 + 2 * s + k))).symm ?_
        refine mm_iinc dM_copySpot_101 (by decide) rfl (mm_inc _) rfl ?_
        refine mm_goto (tgt := 36) dM_copySpot_104 (by decide) ?_
        have hh := cont (some (.int (mm_enc (T1.1 (43 + 2 * s + k)))))
        rw [show kd_nh T1 (T1.1 (43 + 2 * s + k)) = (T1.1 (43 + 2 * s + k)) by rw [hx]; exact if_pos q85] at hh
        exact hh
      · refine mm_aload_n dM_copySpot_88 rfl rfl ?_
        refine mm_getf dM_copySpot_89 fM_38 (km_0 h m _) rfl ?_
        refine mm_iload dM_copySpot_92 rfl ?_
        refine mm_iaload dM_copySpot_94 (km_nl h m _) (by show mm_enc (T1.1 (43 + 2 * s + k)) = nI x; rw [hx]; rfl) (by omega) (by decide) ?_
        refine mm_goto (tgt := 100) dM_copySpot_95 (by decide) ?_
        refine mm_iastore dM_copySpot_100 (km_sh h m _) (by rw [pk_mul, nI_add, nI_add]) (by omega) (by decide) ?_
        refine mm_eqh (kv_sh h m _ _ (T1.2 x)).symm ?_
        refine mm_iinc dM_copySpot_101 (by decide) rfl (mm_inc _) rfl ?_
        refine mm_goto (tgt := 36) dM_copySpot_104 (by decide) ?_
        have hh := cont (some (.int (mm_enc (T1.1 (43 + 2 * s + k)))))
        rw [show kd_nh T1 (T1.1 (43 + 2 * s + k)) = (T1.2 x) by rw [hx]; exact if_neg q85] at hh
        exact hh
  obtain ⟨n, en⟩ : ∃ n, n = kd_new (m_sh M, m_nl M) 0 := ⟨_, rfl⟩
  unfold kd_spot at e
  rw [← en] at e
  by_cases hn : n < 12
  · rw [if_pos hn] at e
    have e := (Option.some.inj e).symm
    have o1 := kd_ok_sp1 (n := n) o hn hs ha
    have o2 := kd_ok_sp2 (n := n) (s := s) o1 hn hs
    subst e
    show mm_W Γ l mM_copySpot (d + 1) _ 0 [some (.ref m), some (.int (nI s)), some (.int (nI a)), none, none, none] [] _
    refine mm_aload_n dM_copySpot_0 rfl rfl ?_
    refine mm_v0 dM_copySpot_1 lM_102 (km_0 h m _) (by decide) (Nat.le_of_ble_eq_true rfl) (kM_freeSpot o.1) ?_
    refine mm_top (v' := .int (nI n)) (by rw [en]; rfl) ?_
    refine mm_istore_n dM_copySpot_4 rfl (by decide) rfl ?_
    refine mm_aload_n dM_copySpot_5 rfl rfl ?_
    refine mm_getf dM_copySpot_6 fM_7 (km_0 h m _) rfl ?_
    refine mm_bipush (v := nI 19) dM_copySpot_9 (by decide) ?_
    refine mm_iload_n dM_copySpot_11 rfl rfl ?_
    refine mm_iadd dM_copySpot_12 ?_
    refine mm_iload_n dM_copySpot_13 rfl rfl ?_
    refine mm_iastore dM_copySpot_14 (km_sh h m _) (nI_add 19 n) (by omega) (by decide) ?_
    refine mm_eqh (kv_sh h m _ _ (some a)).symm ?_
    refine mm_aload_n dM_copySpot_15 rfl rfl ?_
    refine mm_getf dM_copySpot_16 fM_7 (km_0 h m _) rfl ?_
    refine mm_bipush (v := nI 31) dM_copySpot_19 (by decide) ?_
    refine mm_iload_n dM_copySpot_21 rfl rfl ?_
    refine mm_iadd dM_copySpot_22 ?_
    refine mm_aload_n dM_copySpot_23 rfl rfl ?_
    refine mm_getf dM_copySpot_24 fM_7 (km_0 h m _) rfl ?_
    refine mm_bipush (v := nI 31) dM_copySpot_27 (by decide) ?_
    refine mm_iload_n dM_copySpot_29 rfl rfl ?_
    refine mm_iadd dM_copySpot_30 ?_
    refine mm_iaload dM_copySpot_31 (km_sh h m _) (nI_add 31 s) (by omega) (by decide) ?_
    refine mm_top (v' := .int (mm_enc (m_sh M (31 + s)))) (congrArg (fun z => Value.int (mm_enc z)) (if_neg (by omega))) ?_
    refine mm_iastore dM_copySpot_32 (km_sh h m _) (nI_add 31 n) (by omega) (by decide) ?_
    refine mm_eqh (kv_sh h m _ _ (m_sh M (31 + s))).symm ?_
    refine mm_eqh (show km_set h m (kd_M M (kd_sp1 (m_sh M, m_nl M) n s a)) = _ from rfl) ?_
    refine mm_iconst (v := nI 0) dM_copySpot_33 (by decide) ?_
    refine mm_istore dM_copySpot_34 (by decide) rfl ?_
    refine inn _ n 0 _ none hn (by decide) o1 fun y5 => ?_
    refine inn _ n 1 (kd_sp2 (kd_sp1 (m_sh M, m_nl M) n s a) n s) y5 hn (by decide) o2 fun z5 => ?_
    refine mm_iload dM_copySpot_36 rfl ?_
    refine mm_iconst (v := nI 2) dM_copySpot_38 (by decide) ?_
    refine mm_icmp_ge_T (tgt := 107) dM_copySpot_39 (by decide) (show nI 2 ≤ nI 2 by decide) ?_
    refine mm_return dM_copySpot_107 rfl ?_
    exact ⟨rfl, rfl⟩
  · rw [if_neg hn] at e
    cases e
theorem kM_copyArea {T' : kd_T} (o : kd_ok (m_sh M, m_nl M)) {b c a : Nat} (hb : b + 67 ≤ 1407) (hkp : ∀ q, q < 1407 → mm_sm (m_kp M q)) (hc : c < 13) (ha : a < 13) (e : kd_cpA (m_kp M) b c a (m_sh M, m_nl M) = some T') : mm_Ev Γ l (d + 1 + 1) mM_copyArea [.ref m, .int (nI c), .int (nI a), .int (nI b)] (km_set h m M) (mm_is (.inl none) (km_set h m (kd_M M T'))) := by
  have l2 : ∀ (D : mm_D), D (.inl none) (km_set h m (kd_M M T')) → ∀ (j i : Nat) (T1 : kd_T), i + j = 12 → kd_ok T1 → kd_cpS (m_kp M) b c a i j T1 = some T' → mm_W Γ l mM_copyArea (d + 1 + 1) D 62 [some (.ref m), some (.int (nI c)), some (.int (nI a)), some (.int (nI b)), some (.int (nI i))] [] (km_set h m (kd_M M T1)) := by
    intro D hD j
    induction j with
    | zero =>
      intro i T1 hi o1 e1
      have e1 : T1 = T' := Option.some.inj e1
      subst e1
      refine mm_iload dM_copyArea_62 rfl ?_
      refine mm_bipush (v := nI 12) dM_copyArea_64 (by decide) ?_
      refine mm_icmp_ge_T (tgt := 98) dM_copyArea_66 (by decide) (nI_le (by omega) (by omega)) ?_
      refine mm_return dM_copyArea_98 rfl ?_
      exact hD
    | succ j ih =>
      intro i T1 hi o1 e1
      have hq : mm_sm (m_kp M (b + 19 + i)) := hkp _ (by omega)
      refine mm_iload dM_copyArea_62 rfl ?_
      refine mm_bipush (v := nI 12) dM_copyArea_64 (by decide) ?_
      refine mm_icmp_ge_F (tgt := 98) dM_copyArea_66 (by decide) (nI_ge (by omega) (by omega)) ?_
      refine mm_aload_n dM_copyArea_69 rfl rfl ?_
      refine mm_getf dM_copyArea_70 fM_13 (km_0 h m _) rfl ?_
      refine mm_iload_n dM_copyArea_73 rfl rfl ?_
      refine mm_bipush (v := nI 19) dM_copyArea_74 (by decide) ?_
      refine mm_iadd dM_copyArea_76 ?_
      refine mm_iload dM_copyArea_77 rfl ?_
      refine mm_iadd dM_copyArea_79 ?_
      refine mm_iaload dM_copyArea_80 (km_kp h m _) (by rw [nI_add, nI_add]) (by show b + 19 + i < 1407; omega) (by decide) ?_
      refine mm_iload_n dM_copyArea_81 rfl rfl ?_
      refine mm_icmp_ne_k (tgt := 92) dM_copyArea_82 (by decide) hq (by omega) (fun q82 => ?_) (fun q82 => ?_)
      · refine mm_iinc dM_copyArea_92 (by decide) rfl (mm_inc _) rfl ?_
        refine mm_goto (tgt := 62) dM_copyArea_95 (by decide) ?_
        rw [show kd_cpS (m_kp M) b c a i (j + 1) T1 = kd_cpS (m_kp M) b c a (i + 1) j T1 from if_neg q82] at e1
        exact ih (i + 1) T1 (by omega) o1 e1
      · rw [show kd_cpS (m_kp M) b c a i (j + 1) T1 = (kd_spot T1 i a).bind (kd_cpS (m_kp M) b c a (i + 1) j) from if_pos q82] at e1
        obtain ⟨T2, e2, e3⟩ := Option.bind_eq_some_iff.mp e1
        refine mm_aload_n dM_copyArea_85 rfl rfl ?_
        refine mm_iload dM_copyArea_86 rfl ?_
        refine mm_iload_n dM_copyArea_88 rfl rfl ?_
        refine mm_v2 dM_copyArea_89 lM_131 (km_0 h m _) rfl rfl (by decide) (Nat.le_of_ble_eq_true rfl) (kM_copySpot (M := kd_M M T1) o1 (by omega) ha e2) ?_
        refine mm_iinc dM_copyArea_92 (by decide) rfl (mm_inc _) rfl ?_
        refine mm_goto (tgt := 62) dM_copyArea_95 (by decide) ?_
        exact ih (i + 1) T2 (by omega) (kd_ok_spot o1 (by omega) ha e2) e3
  have l1 : ∀ (D : mm_D), D (.inl none) (km_set h m (kd_M M T')) → ∀ (j i : Nat) (T1 T2 : kd_T), i + j = 6 → kd_ok T1 → kd_cpL (m_kp M) b c a i j T1 = some T2 → kd_cpS (m_kp M) b c a 0 12 T2 = some T' → mm_W Γ l mM_copyArea (d + 1 + 1) D 3 [some (.ref m), some (.int (nI c)), some (.int (nI a)), some (.int (nI b)), some (.int (nI i))] [] (km_set h m (kd_M M T1)) := by
    intro D hD j
    induction j with
    | zero =>
      intro i T1 T2 hi o1 e1 e2
      have e1 : T1 = T2 := Option.some.inj e1
      subst e1
      refine mm_iload dM_copyArea_3 rfl ?_
      refine mm_bipush (v := nI 6) dM_copyArea_5 (by decide) ?_
      refine mm_icmp_ge_T (tgt := 59) dM_copyArea_7 (by decide) (nI_le (by omega) (by omega)) ?_
      refine mm_iconst (v := nI 0) dM_copyArea_59 (by decide) ?_
      refine mm_istore dM_copyArea_60 (by decide) rfl ?_
      exact l2 D hD 12 0 T1 rfl o1 e2
    | succ j ih =>
      intro i T1 T2 hi o1 e1 e2
      have hq : mm_sm (m_kp M (b + 13 + i)) := hkp _ (by omega)
      refine mm_iload dM_copyArea_3 rfl ?_
      refine mm_bipush (v := nI 6) dM_copyArea_5 (by decide) ?_
      refine mm_icmp_ge_F (tgt := 59) dM_copyArea_7 (by decide) (nI_ge (by omega) (by omega)) ?_
      refine mm_aload_n dM_copyArea_10 rfl rfl ?_
      refine mm_getf dM_copyArea_11 fM_13 (km_0 h m _) rfl ?_
      refine mm_iload_n dM_copyArea_14 rfl rfl ?_
      refine mm_bipush (v := nI 13) dM_copyArea_15 (by decide) ?_
      refine mm_iadd dM_copyArea_17 ?_
      refine mm_iload dM_copyArea_18 rfl ?_
      refine mm_iadd dM_copyArea_20 ?_
      refine mm_iaload dM_copyArea_21 (km_kp h m _) (by rw [nI_add, nI_add]) (by show b + 13 + i < 1407; omega) (by decide) ?_
      refine mm_iload_n dM_copyArea_22 rfl rfl ?_
      refine mm_icmp_ne_k (tgt := 53) dM_copyArea_23 (by decide) hq (by omega) (fun q23 => ?_) (fun q23 => ?_)
      · refine mm_iinc dM_copyArea_53 (by decide) rfl (mm_inc _) rfl ?_
        refine mm_goto (tgt := 3) dM_copyArea_56 (by decide) ?_
        rw [show kd_cpL (m_kp M) b c a i (j + 1) T1 = kd_cpL (m_kp M) b c a (i + 1) j T1 from if_neg q23] at e1
        exact ih (i + 1) T1 T2 (by omega) o1 e1 e2
      · rw [show kd_cpL (m_kp M) b c a i (j + 1) T1 = (kd_ln T1 i a).bind (kd_cpL (m_kp M) b c a (i + 1) j) from if_pos q23] at e1
        obtain ⟨T3, e3, e4⟩ := Option.bind_eq_some_iff.mp e1
        have o3 := kd_ok_ln o1 ha e3
        obtain ⟨n, en⟩ : ∃ n, n = kd_new T1 2 := ⟨_, rfl⟩
        unfold kd_ln at e3
        rw [← en] at e3
        by_cases hn : n < 6
        · rw [if_pos hn] at e3
          have e3 := (Option.some.inj e3).symm
          subst e3
          refine mm_aload_n dM_copyArea_26 rfl rfl ?_
          refine mm_getf dM_copyArea_27 fM_38 (km_0 h m _) rfl ?_
          refine mm_iload dM_copyArea_30 rfl ?_
          refine mm_aload_n dM_copyArea_32 rfl rfl ?_
          refine mm_v0 dM_copyArea_33 lM_86 (km_0 h m _) (by decide) (Nat.le_of_ble_eq_true rfl) (kM_freeLine (M := kd_M M T1) o1.1) ?_
          refine mm_top (v' := .int (nI n)) (by rw [en]; rfl) ?_
          refine mm_iastore dM_copyArea_36 (km_nl h m _) rfl (by omega) (by decide) ?_
          refine mm_eqh (kv_nl h m _ _ (some n)).symm ?_
          refine mm_aload_n dM_copyArea_37 rfl rfl ?_
          refine mm_getf dM_copyArea_38 fM_7 (km_0 h m _) rfl ?_
          refine mm_bipush (v := nI 13) dM_copyArea_41 (by decide) ?_
          refine mm_aload_n dM_copyArea_43 rfl rfl ?_
          refine mm_getf dM_copyArea_44 fM_38 (km_0 h m _) rfl ?_
          refine mm_iload dM_copyArea_47 rfl ?_
          refine mm_iaload dM_copyArea_49 (km_nl h m _) rfl (by omega) (by decide) ?_
          refine mm_top (v' := .int (nI n)) (congrArg (fun z => Value.int (mm_enc z)) (show ks_u T1.2 i (some n) i = some n from if_pos rfl)) ?_
          refine mm_iadd dM_copyArea_50 ?_
          refine mm_iload_n dM_copyArea_51 rfl rfl ?_
          refine mm_iastore dM_copyArea_52 (km_sh h m _) (nI_add 13 n) (by omega) (by decide) ?_
          refine mm_eqh (kv_sh h m _ _ (some a)).symm ?_
          refine mm_iinc dM_copyArea_53 (by decide) rfl (mm_inc _) rfl ?_
          refine mm_goto (tgt := 3) dM_copyArea_56 (by decide) ?_
          exact ih (i + 1) (ks_u T1.1 (13 + n) (some a), ks_u T1.2 i (some n)) T2 (by omega) o3 e4 e2
        · rw [if_neg hn] at e3; cases e3
  obtain ⟨T1, e1, e2⟩ := Option.bind_eq_some_iff.mp e
  show mm_W Γ l mM_copyArea (d + 1 + 1) _ 0 [some (.ref m), some (.int (nI c)), some (.int (nI a)), some (.int (nI b)), none] [] _
  refine mm_iconst (v := nI 0) dM_copyArea_0 (by decide) ?_
  refine mm_istore dM_copyArea_1 (by decide) rfl ?_
  exact l1 _ ⟨rfl, rfl⟩ 6 0 (m_sh M, m_nl M) T1 rfl o e1 e2
end KM6
