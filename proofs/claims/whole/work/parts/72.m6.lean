/-! Contracts of the reference. Printed by wip/whole/spec/m6.py -/
theorem km_smg {M : km_M} (o : ks_ok (km_S M)) {q : Nat} (h1 : 31 ≤ q) (h2 : q < 43) : mm_sm (m_sh M q) := fun n e => by
  have h := o.2.1 (q - 31) (by omega)
  have e2 : (km_S M).2.2.2.1 (q - 31) = (m_sh M (31 + (q - 31))).getD 0 := if_pos (by omega)
  rw [e2, show 31 + (q - 31) = q by omega, e] at h
  have h : n < 4 := h
  omega
section KM6
variable {Γ : mm_G} {l : Launch} {d : Nat} {h : mm_H} {m : Nat} {M : km_M}
theorem kM_copySpot {T' : kd_T} (o : kd_ok (m_sh M, m_nl M)) {s a : Nat} (hs : s < 12) (ha : a < 13) (e : kd_spot (m_sh M, m_nl M) s a = some T') : mm_Ev Γ l (d + 1) mM_copySpot [.ref m, .int (nI s), .int (nI a)] (km_set h m M) (mm_is (.inl none) (km_set h m (kd_M M T'))) := by
  have inn : ∀ (D : mm_D) (n k : Nat) (T1 : kd_T) (x5 : Option Value), n < 12 → k < 2 → kd_ok T1 →
      (∀ x5', mm_W Γ l mM_copySpot (d + 1) D 36 [some (.ref m), some (.int (nI s)), some (.int (nI a)), some (.int (nI n)), some (.int (nI (k + 1))), x5'] [] (km_set h m (kd_M M (kd_put T1 (43 + 2 * n + k) (kd_nh T1 (T1.1 (43 + 2 * s + k))))))) →
      mm_W Γ l mM_copySpot (d + 1) D 36 [some (.ref m), some (.int (nI s)), some (.int (nI a)), some (.int (nI n)), some (.int (nI k)), x5] [] (km_set h m (kd_M M T1)) := by
    intro D n k T1 x5 hn hk o1 cont
    have hl : mm_lt (T1.1 (43 + 2 * s + k)) 6 := by
      rw [Nat.add_assoc]
      exact kd_hk o1 (by omega)
    have hsm := hl.sm (n := 6) (by decide)
    refine mm_iload dM_copySpot_36 rfl ?_
    refine mm_iconst (v := nI 2) dM_copySpot_38 (by decide) ?_
    refine mm_icmp_ge_F (tgt := 107) dM_copySpot_39 (by decide) (nI_ge (by omega) (by omega)) ?_
    refine mm_aload_n dM_copySpot_42 rfl rfl ?_
    refine mm_getf dM_copySpot_43 fM_7 (km_0 h m _) rfl ?_
    refine mm_bipush (v := nI 43) dM_copySpot_46 (by decide) ?_
    refine mm_iconst (v := nI 2) dM_copySpot_48 (by decide) ?_
    refine mm_iload_n dM_copySpot_49 rfl rfl ?_
    refine mm_imul dM_copySpot_50 ?_
    refine mm_iadd dM_copySpot_51 ?_
    refine mm_iload dM_copySpot_52 rfl ?_
    refine mm_iadd dM_copySpot_54 ?_
    refine mm_iaload dM_copySpot_55 (km_sh h m _) (by rw [pk_mul, nI_add, nI_add]) (by omega) (by decide) ?_
    refine mm_istore dM_copySpot_56 (by decide) rfl ?_
    refine mm_aload_n dM_copySpot_58 rfl rfl ?_
    refine mm_getf dM_copySpot_59 fM_7 (km_0 h m _) rfl ?_
    refine mm_bipush (v := nI 43) dM_copySpot_62 (by decide) ?_
    refine mm_iconst (v := nI 2) dM_copySpot_64 (by decide) ?_
    refine mm_iload_n dM_copySpot_65 rfl rfl ?_
    refine mm_imul dM_copySpot_66 ?_
    refine mm_iadd dM_copySpot_67 ?_
    refine mm_iload dM_copySpot_68 rfl ?_
    refine mm_iadd dM_copySpot_70 ?_
    refine mm_iload dM_copySpot_71 rfl ?_
    refine mm_iconst (v := -1) dM_copySpot_73 (by decide) ?_
    refine mm_icmp_eq_o (tgt := 98) dM_copySpot_74 (by decide) hsm (fun q74 => ?_) (fun q74 => ?_)
    · have q74 : T1.1 (43 + 2 * s + k) = none := q74
      refine mm_iload dM_copySpot_98 rfl ?_
      refine mm_iastore dM_copySpot_100 (km_sh h m _) (by rw [pk_mul, nI_add, nI_add]) (by omega) (by decide) ?_
      refine mm_eqh (kv_sh h m _ _ (T1.1 (43 + 2 * s + k))).symm ?_
      refine mm_iinc dM_copySpot_101 (by decide) rfl (mm_inc _) rfl ?_
      refine mm_goto (tgt := 36) dM_copySpot_104 (by decide) ?_
      have hh := cont (some (.int (mm_enc (T1.1 (43 + 2 * s + k)))))
      rw [show kd_nh T1 (T1.1 (43 + 2 * s + k)) = T1.1 (43 + 2 * s + k) by rw [q74]; rfl] at hh
      exact hh
    · obtain ⟨x, hx⟩ := Option.ne_none_iff_exists'.mp q74
      have hx : T1.1 (43 + 2 * s + k) = some x := hx
      have hx6 := hl x hx
      refine mm_aload_n dM_copySpot_77 rfl rfl ?_
      refine mm_getf dM_copySpot_78 fM_38 (km_0 h m _) rfl ?_
      refine mm_iload dM_copySpot_81 rfl ?_
      refine mm_iaload dM_copySpot_83 (km_nl h m _) (by show mm_enc (T1.1 (43 + 2 * s + k)) = nI x; rw [hx]; rfl) (by omega) (by decide) ?_
      refine mm_iconst (v := -1) dM_copySpot_84 (by decide) ?_
      refine mm_icmp_eq_o (tgt := 98) dM_copySpot_85 (by decide) ((o1.2 x hx6).sm (by decide)) (fun q85 => ?_) (fun q85 => ?_)
      · refine mm_iload dM_copySpot_98 rfl ?_
        refine mm_iastore dM_copySpot_100 (km_sh h m _) (by rw [pk_mul, nI_add, nI_add]) (by omega) (by decide) ?_
        refine mm_eqh (kv_sh h m _ _ (T1.1 (43 + 2 * s + k))).symm ?_
        refine mm_iinc dM_copySpot_101 (by decide) rfl (mm_inc _) rfl ?_
        refine mm_goto (tgt := 36) dM_copySpot_104 (by decide) ?_
        have hh := cont (some (.int (mm_enc (T1.1 (43 + 2 * s + k)))))
        rw [show kd_nh T1 (T1.1 (43 + 2 * s + k)) = (T1.1 (43 + 2 * s + k)) by rw [hx]; exact if_pos q85] at hh
        exact hh
      · refine mm_aload_n dM_copySpot_88 rfl rfl ?_
        refine mm_getf dM_copySpot_89 fM_38 (km_0 h m _) rfl ?_
        refine mm_iload dM_copySpot_92 rfl ?_
        refine mm_iaload dM_copySpot_94 (km_nl h m _) (by show mm_enc (T1.1 (43 + 2 * s + k)) = nI x; rw [hx]; rfl) (by omega) (by decide) ?_
        refine mm_goto (tgt := 100) dM_copySpot_95 (by decide) ?_
        refine mm_iastore dM_copySpot_100 (km_sh h m _) (by rw [pk_mul, nI_add, nI_add]) (by omega) (by decide) ?_
        refine mm_eqh (kv_sh h m _ _ (T1.2 x)).symm ?_
        refine mm_iinc dM_copySpot_101 (by decide) rfl (mm_inc _) rfl ?_
        refine mm_goto (tgt := 36) dM_copySpot_104 (by decide) ?_
        have hh := cont (some (.int (mm_enc (T1.1 (43 + 2 * s + k)))))
        rw [show kd_nh T1 (T1.1 (43 + 2 * s + k)) = (T1.2 x) by rw [hx]; exact if_neg q85] at hh
        exact hh
  obtain ⟨n, en⟩ : ∃ n, n = kd_new (m_sh M, m_nl M) 0 := ⟨_, rfl⟩
  unfold kd_spot at e
  rw [← en] at e
  by_cases hn : n < 12
  · rw [if_pos hn] at e
    have e := (Option.some.inj e).symm
    have o1 := kd_ok_sp1 (n := n) o hn hs ha
    have o2 := kd_ok_sp2 (n := n) (s := s) o1 hn hs
    subst e
    show mm_W Γ l mM_copySpot (d + 1) _ 0 [some (.ref m), some (.int (nI s)), some (.int (nI a)), none, none, none] [] _
    refine mm_aload_n dM_copySpot_0 rfl rfl ?_
    refine mm_v0 dM_copySpot_1 lM_102 (km_0 h m _) (by decide) (Nat.le_of_ble_eq_true rfl) (kM_freeSpot o.1) ?_
    refine mm_top (v' := .int (nI n)) (by rw [en]; rfl) ?_
    refine mm_istore_n dM_copySpot_4 rfl (by decide) rfl ?_
    refine mm_aload_n dM_copySpot_5 rfl rfl ?_
    refine mm_getf dM_copySpot_6 fM_7 (km_0 h m _) rfl ?_
    refine mm_bipush (v := nI 19) dM_copySpot_9 (by decide) ?_
    refine mm_iload_n dM_copySpot_11 rfl rfl ?_
    refine mm_iadd dM_copySpot_12 ?_
    refine mm_iload_n dM_copySpot_13 rfl rfl ?_
    refine mm_iastore dM_copySpot_14 (km_sh h m _) (nI_add 19 n) (by omega) (by decide) ?_
    refine mm_eqh (kv_sh h m _ _ (some a)).symm ?_
    refine mm_aload_n dM_copySpot_15 rfl rfl ?_
    refine mm_getf dM_copySpot_16 fM_7 (km_0 h m _) rfl ?_
    refine mm_bipush (v := nI 31) dM_copySpot_19 (by decide) ?_
    refine mm_iload_n dM_copySpot_21 rfl rfl ?_
    refine mm_iadd dM_copySpot_22 ?_
    refine mm_aload_n dM_copySpot_23 rfl rfl ?_
    refine mm_getf dM_copySpot_24 fM_7 (km_0 h m _) rfl ?_
    refine mm_bipush (v := nI 31) dM_copySpot_27 (by decide) ?_
    refine mm_iload_n dM_copySpot_29 rfl rfl ?_
    refine mm_iadd dM_copySpot_30 ?_
    refine mm_iaload dM_copySpot_31 (km_sh h m _) (nI_add 31 s) (by omega) (by decide) ?_
    refine mm_top (v' := .int (mm_enc (m_sh M (31 + s)))) (congrArg (fun z => Value.int (mm_enc z)) (if_neg (by omega))) ?_
    refine mm_iastore dM_copySpot_32 (km_sh h m _) (nI_add 31 n) (by omega) (by decide) ?_
    refine mm_eqh (kv_sh h m _ _ (m_sh M (31 + s))).symm ?_
    refine mm_eqh (show km_set h m (kd_M M (kd_sp1 (m_sh M, m_nl M) n s a)) = _ from rfl) ?_
    refine mm_iconst (v := nI 0) dM_copySpot_33 (by decide) ?_
    refine mm_istore dM_copySpot_34 (by decide) rfl ?_
    refine inn _ n 0 _ none hn (by decide) o1 fun y5 => ?_
    refine inn _ n 1 (kd_sp2 (kd_sp1 (m_sh M, m_nl M) n s a) n s) y5 hn (by decide) o2 fun z5 => ?_
    refine mm_iload dM_copySpot_36 rfl ?_
    refine mm_iconst (v := nI 2) dM_copySpot_38 (by decide) ?_
    refine mm_icmp_ge_T (tgt := 107) dM_copySpot_39 (by decide) (show nI 2 ≤ nI 2 by decide) ?_
    refine mm_return dM_copySpot_107 rfl ?_
    exact ⟨rfl, rfl⟩
  · rw [if_neg hn] at e
    cases e
theorem kM_copyArea {T' : kd_T} (o : kd_ok (m_sh M, m_nl M)) {b c a : Nat} (hb : b + 67 ≤ 1407) (hkp : ∀ q, q < 1407 → mm_sm (m_kp M q)) (hc : c < 13) (ha : a < 13) (e : kd_cpA (m_kp M) b c a (m_sh M, m_nl M) = some T') : mm_Ev Γ l (d + 1 + 1) mM_copyArea [.ref m, .int (nI c), .int (nI a), .int (nI b)] (km_set h m M) (mm_is (.inl none) (km_set h m (kd_M M T'))) := by
  have l2 : ∀ (D : mm_D), D (.inl none) (km_set h m (kd_M M T')) → ∀ (j i : Nat) (T1 : kd_T), i + j = 12 → kd_ok T1 → kd_cpS (m_kp M) b c a i j T1 = some T' → mm_W Γ l mM_copyArea (d + 1 + 1) D 62 [some (.ref m), some (.int (nI c)), some (.int (nI a)), some (.int (nI b)), some (.int (nI i))] [] (km_set h m (kd_M M T1)) := by
    intro D hD j
    induction j with
    | zero =>
      intro i T1 hi o1 e1
      have e1 : T1 = T' := Option.some.inj e1
      subst e1
      refine mm_iload dM_copyArea_62 rfl ?_
      refine mm_bipush (v := nI 12) dM_copyArea_64 (by decide) ?_
      refine mm_icmp_ge_T (tgt := 98) dM_copyArea_66 (by decide) (nI_le (by omega) (by omega)) ?_
      refine mm_return dM_copyArea_98 rfl ?_
      exact hD
    | succ j ih =>
      intro i T1 hi o1 e1
      have hq : mm_sm (m_kp M (b + 19 + i)) := hkp _ (by omega)
      refine mm_iload dM_copyArea_62 rfl ?_
      refine mm_bipush (v := nI 12) dM_copyArea_64 (by decide) ?_
      refine mm_icmp_ge_F (tgt := 98) dM_copyArea_66 (by decide) (nI_ge (by omega) (by omega)) ?_
      refine mm_aload_n dM_copyArea_69 rfl rfl ?_
      refine mm_getf dM_copyArea_70 fM_13 (km_0 h m _) rfl ?_
      refine mm_iload_n dM_copyArea_73 rfl rfl ?_
      refine mm_bipush (v := nI 19) dM_copyArea_74 (by decide) ?_
      refine mm_iadd dM_copyArea_76 ?_
      refine mm_iload dM_copyArea_77 rfl ?_
      refine mm_iadd dM_copyArea_79 ?_
      refine mm_iaload dM_copyArea_80 (km_kp h m _) (by rw [nI_add, nI_add]) (by show b + 19 + i < 1407; omega) (by decide) ?_
      refine mm_iload_n dM_copyArea_81 rfl rfl ?_
      refine mm_icmp_ne_k (tgt := 92) dM_copyArea_82 (by decide) hq (by omega) (fun q82 => ?_) (fun q82 => ?_)
      · refine mm_iinc dM_copyArea_92 (by decide) rfl (mm_inc _) rfl ?_
        refine mm_goto (tgt := 62) dM_copyArea_95 (by decide) ?_
        rw [show kd_cpS (m_kp M) b c a i (j + 1) T1 = kd_cpS (m_kp M) b c a (i + 1) j T1 from if_neg q82] at e1
        exact ih (i + 1) T1 (by omega) o1 e1
      · rw [show kd_cpS (m_kp M) b c a i (j + 1) T1 = (kd_spot T1 i a).bind (kd_cpS (m_kp M) b c a (i + 1) j) from if_pos q82] at e1
        obtain ⟨T2, e2, e3⟩ := Option.bind_eq_some_iff.mp e1
        refine mm_aload_n dM_copyArea_85 rfl rfl ?_
        refine mm_iload dM_copyArea_86 rfl ?_
        refine mm_iload_n dM_copyArea_88 rfl rfl ?_
        refine mm_v2 dM_copyArea_89 lM_131 (km_0 h m _) rfl rfl (by decide) (Nat.le_of_ble_eq_true rfl) (kM_copySpot (M := kd_M M T1) o1 (by omega) ha e2) ?_
        refine mm_iinc dM_copyArea_92 (by decide) rfl (mm_inc _) rfl ?_
        refine mm_goto (tgt := 62) dM_copyArea_95 (by decide) ?_
        exact ih (i + 1) T2 (by omega) (kd_ok_spot o1 (by omega) ha e2) e3
  have l1 : ∀ (D : mm_D), D (.inl none) (km_set h m (kd_M M T')) → ∀ (j i : Nat) (T1 T2 : kd_T), i + j = 6 → kd_ok T1 → kd_cpL (m_kp M) b c a i j T1 = some T2 → kd_cpS (m_kp M) b c a 0 12 T2 = some T' → mm_W Γ l mM_copyArea (d + 1 + 1) D 3 [some (.ref m), some (.int (nI c)), some (.int (nI a)), some (.int (nI b)), some (.int (nI i))] [] (km_set h m (kd_M M T1)) := by
    intro D hD j
    induction j with
    | zero =>
      intro i T1 T2 hi o1 e1 e2
      have e1 : T1 = T2 := Option.some.inj e1
      subst e1
      refine mm_iload dM_copyArea_3 rfl ?_
      refine mm_bipush (v := nI 6) dM_copyArea_5 (by decide) ?_
      refine mm_icmp_ge_T (tgt := 59) dM_copyArea_7 (by decide) (nI_le (by omega) (by omega)) ?_
      refine mm_iconst (v := nI 0) dM_copyArea_59 (by decide) ?_
      refine mm_istore dM_copyArea_60 (by decide) rfl ?_
      exact l2 D hD 12 0 T1 rfl o1 e2
    | succ j ih =>
      intro i T1 T2 hi o1 e1 e2
      have hq : mm_sm (m_kp M (b + 13 + i)) := hkp _ (by omega)
      refine mm_iload dM_copyArea_3 rfl ?_
      refine mm_bipush (v := nI 6) dM_copyArea_5 (by decide) ?_
      refine mm_icmp_ge_F (tgt := 59) dM_copyArea_7 (by decide) (nI_ge (by omega) (by omega)) ?_
      refine mm_aload_n dM_copyArea_10 rfl rfl ?_
      refine mm_getf dM_copyArea_11 fM_13 (km_0 h m _) rfl ?_
      refine mm_iload_n dM_copyArea_14 rfl rfl ?_
      refine mm_bipush (v := nI 13) dM_copyArea_15 (by decide) ?_
      refine mm_iadd dM_copyArea_17 ?_
      refine mm_iload dM_copyArea_18 rfl ?_
      refine mm_iadd dM_copyArea_20 ?_
      refine mm_iaload dM_copyArea_21 (km_kp h m _) (by rw [nI_add, nI_add]) (by show b + 13 + i < 1407; omega) (by decide) ?_
      refine mm_iload_n dM_copyArea_22 rfl rfl ?_
      refine mm_icmp_ne_k (tgt := 53) dM_copyArea_23 (by decide) hq (by omega) (fun q23 => ?_) (fun q23 => ?_)
      · refine mm_iinc dM_copyArea_53 (by decide) rfl (mm_inc _) rfl ?_
        refine mm_goto (tgt := 3) dM_copyArea_56 (by decide) ?_
        rw [show kd_cpL (m_kp M) b c a i (j + 1) T1 = kd_cpL (m_kp M) b c a (i + 1) j T1 from if_neg q23] at e1
        exact ih (i + 1) T1 T2 (by omega) o1 e1 e2
      · rw [show kd_cpL (m_kp M) b c a i (j + 1) T1 = (kd_ln T1 i a).bind (kd_cpL (m_kp M) b c a (i + 1) j) from if_pos q23] at e1
        obtain ⟨T3, e3, e4⟩ := Option.bind_eq_some_iff.mp e1
        have o3 := kd_ok_ln o1 ha e3
        obtain ⟨n, en⟩ : ∃ n, n = kd_new T1 2 := ⟨_, rfl⟩
        unfold kd_ln at e3
        rw [← en] at e3
        by_cases hn : n < 6
        · rw [if_pos hn] at e3
          have e3 := (Option.some.inj e3).symm
          subst e3
          refine mm_aload_n dM_copyArea_26 rfl rfl ?_
          refine mm_getf dM_copyArea_27 fM_38 (km_0 h m _) rfl ?_
          refine mm_iload dM_copyArea_30 rfl ?_
          refine mm_aload_n dM_copyArea_32 rfl rfl ?_
          refine mm_v0 dM_copyArea_33 lM_86 (km_0 h m _) (by decide) (Nat.le_of_ble_eq_true rfl) (kM_freeLine (M := kd_M M T1) o1.1) ?_
          refine mm_top (v' := .int (nI n)) (by rw [en]; rfl) ?_
          refine mm_iastore dM_copyArea_36 (km_nl h m _) rfl (by omega) (by decide) ?_
          refine mm_eqh (kv_nl h m _ _ (some n)).symm ?_
          refine mm_aload_n dM_copyArea_37 rfl rfl ?_
          refine mm_getf dM_copyArea_38 fM_7 (km_0 h m _) rfl ?_
          refine mm_bipush (v := nI 13) dM_copyArea_41 (by decide) ?_
          refine mm_aload_n dM_copyArea_43 rfl rfl ?_
          refine mm_getf dM_copyArea_44 fM_38 (km_0 h m _) rfl ?_
          refine mm_iload dM_copyArea_47 rfl ?_
          refine mm_iaload dM_copyArea_49 (km_nl h m _) rfl (by omega) (by decide) ?_
          refine mm_top (v' := .int (nI n)) (congrArg (fun z => Value.int (mm_enc z)) (show ks_u T1.2 i (some n) i = some n from if_pos rfl)) ?_
          refine mm_iadd dM_copyArea_50 ?_
          refine mm_iload_n dM_copyArea_51 rfl rfl ?_
          refine mm_iastore dM_copyArea_52 (km_sh h m _) (nI_add 13 n) (by omega) (by decide) ?_
          refine mm_eqh (kv_sh h m _ _ (some a)).symm ?_
          refine mm_iinc dM_copyArea_53 (by decide) rfl (mm_inc _) rfl ?_
          refine mm_goto (tgt := 3) dM_copyArea_56 (by decide) ?_
          exact ih (i + 1) (ks_u T1.1 (13 + n) (some a), ks_u T1.2 i (some n)) T2 (by omega) o3 e4 e2
        · rw [if_neg hn] at e3; cases e3
  obtain ⟨T1, e1, e2⟩ := Option.bind_eq_some_iff.mp e
  show mm_W Γ l mM_copyArea (d + 1 + 1) _ 0 [some (.ref m), some (.int (nI c)), some (.int (nI a)), some (.int (nI b)), none] [] _
  refine mm_iconst (v := nI 0) dM_copyArea_0 (by decide) ?_
  refine mm_istore dM_copyArea_1 (by decide) rfl ?_
  exact l1 _ ⟨rfl, rfl⟩ 6 0 (m_sh M, m_nl M) T1 rfl o e1 e2
set_option maxHeartbeats 2000000 in
theorem kM_copyCut {T' : kd_T} (o : kd_ok (m_sh M, m_nl M)) {c a b : Nat} (hb : b = 67 * (m_mv M - 1)) (h1 : 1 ≤ m_mv M) (h20 : m_mv M ≤ 20) (hkp : ∀ q, q < 1407 → mm_sm (m_kp M q)) {S0 : ks_S} (hS : kz (fun q => m_kp M (b + q)) = S0) (k0 : kt_ok S0) (hc : c < 13) (hc1 : 1 ≤ km_dp S0 c) (ha : a < 13) (e : kd_cp (m_kp M) b 12 c a (m_sh M, m_nl M) = some T') :
    mm_Ev Γ l (d + 1 + 1 + 1) mM_copyCut [.ref m, .int (nI c), .int (nI a)] (km_set h m M) (km_D h m (fun v M' => v = some (.int (nI (kd_new (m_sh M, m_nl M) 1))) ∧ m_sh M' = T'.1 ∧ km_V M' = km_V M)) := by
  have hb67 : b + 67 ≤ 1407 := by omega
  have H : ∀ (D : mm_D) (made q i top : Nat) (x5 x6 x7 : Option Value) (M2 : km_M), m_op M2 = q → 1 ≤ q → q ≤ 13 → m_pl M2 (q - 1) = top → m_rc M2 (q - 1) = i → mm_W Γ l mM_copyCut (d + 1 + 1 + 1) D 94 [some (.ref m), some (.int (nI c)), some (.int (nI a)), some (.int (nI b)), some (.int (nI made)), some (.int (nI top)), some (.int (nI (i + 1))), x7] [] (km_set h m M2) → mm_W Γ l mM_copyCut (d + 1 + 1 + 1) D 59 [some (.ref m), some (.int (nI c)), some (.int (nI a)), some (.int (nI b)), some (.int (nI made)), x5, x6, x7] [] (km_set h m M2) := by
    intro D made q i top x5 x6 x7 M2 hop hq1 hq2 hpl hrc cont
    refine mm_aload_n dM_copyCut_59 rfl rfl ?_
    refine mm_getf dM_copyCut_60 fM_139 (km_0 h m _) rfl ?_
    refine mm_if_le_F (tgt := 226) dM_copyCut_63 (by decide) (by rw [hop]; exact fun w => by have w : nI q ≤ nI 0 := w; rw [nI_leI (by omega) (by decide)] at w; omega) ?_
    refine mm_aload_n dM_copyCut_66 rfl rfl ?_
    refine mm_getf dM_copyCut_67 fM_25 (km_0 h m _) rfl ?_
    refine mm_aload_n dM_copyCut_70 rfl rfl ?_
    refine mm_getf dM_copyCut_71 fM_139 (km_0 h m _) rfl ?_
    refine mm_iconst (v := nI 1) dM_copyCut_74 (by decide) ?_
    refine mm_isub dM_copyCut_75 ?_
    refine mm_iaload dM_copyCut_76 (km_pl h m _) (by rw [hop]; exact pk_sub hq1) (by omega) (by decide) ?_
    refine mm_top (v' := .int (nI top)) (by rw [← hpl]) ?_
    refine mm_istore dM_copyCut_77 (by decide) rfl ?_
    refine mm_aload_n dM_copyCut_79 rfl rfl ?_
    refine mm_getf dM_copyCut_80 fM_28 (km_0 h m _) rfl ?_
    refine mm_aload_n dM_copyCut_83 rfl rfl ?_
    refine mm_getf dM_copyCut_84 fM_139 (km_0 h m _) rfl ?_
    refine mm_iconst (v := nI 1) dM_copyCut_87 (by decide) ?_
    refine mm_isub dM_copyCut_88 ?_
    refine mm_iaload dM_copyCut_89 (km_rc h m _) (by rw [hop]; exact pk_sub hq1) (by omega) (by decide) ?_
    refine mm_top (v' := .int (nI i)) (by rw [← hrc]) ?_
    refine mm_iconst (v := nI 1) dM_copyCut_90 (by decide) ?_
    refine mm_iadd dM_copyCut_91 ?_
    refine mm_top (v' := .int (nI (i + 1))) (congrArg Value.int (nI_add i 1)) ?_
    refine mm_istore dM_copyCut_92 (by decide) rfl ?_
    exact cont
  have K : ∀ (f : Nat) (D : mm_D) (made j i q e0 top : Nat) (x7 : Option Value) (M1 : km_M) (T2 : kd_T), kd_St S0 e0 q M1 → 1 ≤ q → 1 ≤ e0 → f + q = 12 → i + j = 13 → 1 ≤ i → m_pl M1 (q - 1) = top → kd_ok (m_sh M1, m_nl M1) → km_V M1 = km_V M →
      kd_kids (kd_cp (m_kp M) b f) (m_kp M) b top (m_nn M1 top) i j (m_sh M1, m_nl M1) = some T2 →
      (∀ (M2 : km_M) (x5 x6 x7 : Option Value), m_sh M2 = T2.1 → m_nl M2 = T2.2 → km_V M2 = km_V M → m_op M2 = q - 1 → (∀ p, p < q - 1 → m_pl M2 p = m_pl M1 p ∧ m_rc M2 p = m_rc M1 p ∧ m_nn M2 (m_pl M1 p) = m_nn M1 (m_pl M1 p)) → mm_W Γ l mM_copyCut (d + 1 + 1 + 1) D 59 [some (.ref m), some (.int (nI c)), some (.int (nI a)), some (.int (nI b)), some (.int (nI made)), x5, x6, x7] [] (km_set h m M2)) →
      mm_W Γ l mM_copyCut (d + 1 + 1 + 1) D 94 [some (.ref m), some (.int (nI c)), some (.int (nI a)), some (.int (nI b)), some (.int (nI made)), some (.int (nI top)), some (.int (nI i)), x7] [] (km_set h m M1) := by
    intro f
    induction f with
    | zero =>
      intro D made j
      induction j with
      | zero =>
        intro i q e0 top x7 M1 T2 st hq1 he0 hf hi hi1 htop o1 hV ek cont
        obtain ⟨hop, hst⟩ := st
        have ekp : m_kp M1 = m_kp M := congrArg (fun z => z.2.2.2.2.2) hV
        obtain ⟨s1, s2, s3⟩ := hst (q - 1) (by omega)
        rw [htop] at s1 s2 s3
        have d12 := km_dp_le S0 top
        have hi : i = 13 := by omega
        subst hi
        have ek : (m_sh M1, m_nl M1) = T2 := Option.some.inj ek
        refine mm_iload dM_copyCut_94 rfl ?_
        refine mm_bipush (v := nI 13) dM_copyCut_96 (by decide) ?_
        refine mm_icmp_ge_T (tgt := 121) dM_copyCut_98 (by decide) (nI_le (by omega) (by omega)) ?_
        refine mm_aload_n dM_copyCut_121 rfl rfl ?_
        refine mm_getf dM_copyCut_122 fM_28 (km_0 h m _) rfl ?_
        refine mm_aload_n dM_copyCut_125 rfl rfl ?_
        refine mm_getf dM_copyCut_126 fM_139 (km_0 h m _) rfl ?_
        refine mm_iconst (v := nI 1) dM_copyCut_129 (by decide) ?_
        refine mm_isub dM_copyCut_130 ?_
        refine mm_iload dM_copyCut_131 rfl ?_
        refine mm_iastore dM_copyCut_133 (km_rc h m _) (by show nI (m_op M1) - nI 1 = nI (q - 1); rw [hop]; exact pk_sub hq1) (by omega) (by decide) ?_
        refine mm_eqh (kv_rc h m _ _ 13).symm ?_
        refine mm_iload dM_copyCut_134 rfl ?_
        refine mm_bipush (v := nI 13) dM_copyCut_136 (by decide) ?_
        refine mm_icmp_ne_F (tgt := 154) dM_copyCut_138 (by decide) rfl ?_
        refine mm_aload_n dM_copyCut_141 rfl rfl ?_
        refine mm_dup dM_copyCut_142 rfl ?_
        refine mm_getf dM_copyCut_143 fM_139 (km_0 h m _) rfl ?_
        refine mm_iconst (v := nI 1) dM_copyCut_146 (by decide) ?_
        refine mm_isub dM_copyCut_147 ?_
        refine mm_top (v' := .int (nI (q - 1))) (congrArg Value.int (by show nI (m_op M1) - nI 1 = nI (q - 1); rw [hop]; exact pk_sub hq1)) ?_
        refine mm_putf dM_copyCut_148 fM_139 rfl rfl rfl rfl (km_0 h m _) (Nat.le_of_ble_eq_true rfl) ?_
        refine mm_eqh (ku_op h m _ (q - 1)).symm ?_
        refine mm_goto (tgt := 223) dM_copyCut_151 (by decide) ?_
        refine mm_goto (tgt := 59) dM_copyCut_223 (by decide) ?_
        refine cont _ _ _ _ (congrArg (fun z => z.1) ek) (congrArg (fun z => z.2) ek) hV rfl (fun p hp => ⟨rfl, ?_, rfl⟩)
        show ks_un (m_rc M1) (q - 1) 13 p = m_rc M1 p
        exact if_neg (by omega)
      | succ j ihj =>
        intro i q e0 top x7 M1 T2 st hq1 he0 hf hi hi1 htop o1 hV ek cont
        obtain ⟨hop, hst⟩ := st
        have ekp : m_kp M1 = m_kp M := congrArg (fun z => z.2.2.2.2.2) hV
        obtain ⟨s1, s2, s3⟩ := hst (q - 1) (by omega)
        rw [htop] at s1 s2 s3
        have d12 := km_dp_le S0 top
        refine mm_iload dM_copyCut_94 rfl ?_
        refine mm_bipush (v := nI 13) dM_copyCut_96 (by decide) ?_
        refine mm_icmp_ge_F (tgt := 121) dM_copyCut_98 (by decide) (nI_ge (by omega) (by omega)) ?_
        refine mm_aload_n dM_copyCut_101 rfl rfl ?_
        refine mm_getf dM_copyCut_102 fM_13 (km_0 h m _) rfl ?_
        refine mm_iload_n dM_copyCut_105 rfl rfl ?_
        refine mm_iload dM_copyCut_106 rfl ?_
        refine mm_iadd dM_copyCut_108 ?_
        refine mm_iaload dM_copyCut_109 (km_kp h m _) (nI_add b i) (by omega) (by decide) ?_
        refine mm_iload dM_copyCut_110 rfl ?_
        refine mm_icmp_eq_k (tgt := 121) dM_copyCut_112 (by decide) (by rw [ekp]; exact hkp _ (by omega)) (by omega) (fun q112 => ?_) (fun q112 => ?_)
        · have hcut : S0.2.1 i = some top := by rw [← hS, kz_c _ (by omega)]; show m_kp M (b + i) = some top; rw [← ekp]; exact q112
          have dch := km_dp_child k0 (by omega) hcut
          have dle := km_dp_le S0 i
          exact absurd dle (by omega)
        · refine mm_iinc dM_copyCut_115 (by decide) rfl (mm_inc _) rfl ?_
          refine mm_goto (tgt := 94) dM_copyCut_118 (by decide) ?_
          rw [show kd_kids (kd_cp (m_kp M) b 0) (m_kp M) b top (m_nn M1 top) i (j + 1) (m_sh M1, m_nl M1) = kd_kids (kd_cp (m_kp M) b 0) (m_kp M) b top (m_nn M1 top) (i + 1) j (m_sh M1, m_nl M1) from if_neg (by rw [← ekp]; exact q112)] at ek
          exact ihj (i + 1) q e0 top x7 M1 T2 ⟨hop, hst⟩ hq1 he0 hf (by omega) (by omega) htop o1 hV ek cont
    | succ f ihf =>
      intro D made j
      induction j with
      | zero =>
        intro i q e0 top x7 M1 T2 st hq1 he0 hf hi hi1 htop o1 hV ek cont
        obtain ⟨hop, hst⟩ := st
        have ekp : m_kp M1 = m_kp M := congrArg (fun z => z.2.2.2.2.2) hV
        obtain ⟨s1, s2, s3⟩ := hst (q - 1) (by omega)
        rw [htop] at s1 s2 s3
        have d12 := km_dp_le S0 top
        have hi : i = 13 := by omega
        subst hi
        have ek : (m_sh M1, m_nl M1) = T2 := Option.some.inj ek
        refine mm_iload dM_copyCut_94 rfl ?_
        refine mm_bipush (v := nI 13) dM_copyCut_96 (by decide) ?_
        refine mm_icmp_ge_T (tgt := 121) dM_copyCut_98 (by decide) (nI_le (by omega) (by omega)) ?_
        refine mm_aload_n dM_copyCut_121 rfl rfl ?_
        refine mm_getf dM_copyCut_122 fM_28 (km_0 h m _) rfl ?_
        refine mm_aload_n dM_copyCut_125 rfl rfl ?_
        refine mm_getf dM_copyCut_126 fM_139 (km_0 h m _) rfl ?_
        refine mm_iconst (v := nI 1) dM_copyCut_129 (by decide) ?_
        refine mm_isub dM_copyCut_130 ?_
        refine mm_iload dM_copyCut_131 rfl ?_
        refine mm_iastore dM_copyCut_133 (km_rc h m _) (by show nI (m_op M1) - nI 1 = nI (q - 1); rw [hop]; exact pk_sub hq1) (by omega) (by decide) ?_
        refine mm_eqh (kv_rc h m _ _ 13).symm ?_
        refine mm_iload dM_copyCut_134 rfl ?_
        refine mm_bipush (v := nI 13) dM_copyCut_136 (by decide) ?_
        refine mm_icmp_ne_F (tgt := 154) dM_copyCut_138 (by decide) rfl ?_
        refine mm_aload_n dM_copyCut_141 rfl rfl ?_
        refine mm_dup dM_copyCut_142 rfl ?_
        refine mm_getf dM_copyCut_143 fM_139 (km_0 h m _) rfl ?_
        refine mm_iconst (v := nI 1) dM_copyCut_146 (by decide) ?_
        refine mm_isub dM_copyCut_147 ?_
        refine mm_top (v' := .int (nI (q - 1))) (congrArg Value.int (by show nI (m_op M1) - nI 1 = nI (q - 1); rw [hop]; exact pk_sub hq1)) ?_
        refine mm_putf dM_copyCut_148 fM_139 rfl rfl rfl rfl (km_0 h m _) (Nat.le_of_ble_eq_true rfl) ?_
        refine mm_eqh (ku_op h m _ (q - 1)).symm ?_
        refine mm_goto (tgt := 223) dM_copyCut_151 (by decide) ?_
        refine mm_goto (tgt := 59) dM_copyCut_223 (by decide) ?_
        refine cont _ _ _ _ (congrArg (fun z => z.1) ek) (congrArg (fun z => z.2) ek) hV rfl (fun p hp => ⟨rfl, ?_, rfl⟩)
        show ks_un (m_rc M1) (q - 1) 13 p = m_rc M1 p
        exact if_neg (by omega)
      | succ j ihj =>
        intro i q e0 top x7 M1 T2 st hq1 he0 hf hi hi1 htop o1 hV ek cont
        obtain ⟨hop, hst⟩ := st
        have ekp : m_kp M1 = m_kp M := congrArg (fun z => z.2.2.2.2.2) hV
        obtain ⟨s1, s2, s3⟩ := hst (q - 1) (by omega)
        rw [htop] at s1 s2 s3
        have d12 := km_dp_le S0 top
        refine mm_iload dM_copyCut_94 rfl ?_
        refine mm_bipush (v := nI 13) dM_copyCut_96 (by decide) ?_
        refine mm_icmp_ge_F (tgt := 121) dM_copyCut_98 (by decide) (nI_ge (by omega) (by omega)) ?_
        refine mm_aload_n dM_copyCut_101 rfl rfl ?_
        refine mm_getf dM_copyCut_102 fM_13 (km_0 h m _) rfl ?_
        refine mm_iload_n dM_copyCut_105 rfl rfl ?_
        refine mm_iload dM_copyCut_106 rfl ?_
        refine mm_iadd dM_copyCut_108 ?_
        refine mm_iaload dM_copyCut_109 (km_kp h m _) (nI_add b i) (by omega) (by decide) ?_
        refine mm_iload dM_copyCut_110 rfl ?_
        refine mm_icmp_eq_k (tgt := 121) dM_copyCut_112 (by decide) (by rw [ekp]; exact hkp _ (by omega)) (by omega) (fun q112 => ?_) (fun q112 => ?_)
        · have hcut : S0.2.1 i = some top := by rw [← hS, kz_c _ (by omega)]; show m_kp M (b + i) = some top; rw [← ekp]; exact q112
          have dch := km_dp_child k0 (by omega) hcut
          have dle := km_dp_le S0 i
          rw [show kd_kids (kd_cp (m_kp M) b (f + 1)) (m_kp M) b top (m_nn M1 top) i (j + 1) (m_sh M1, m_nl M1) = (kd_cp (m_kp M) b (f + 1) i (m_nn M1 top) (m_sh M1, m_nl M1)).bind (kd_kids (kd_cp (m_kp M) b (f + 1)) (m_kp M) b top (m_nn M1 top) (i + 1) j) from if_pos (by rw [← ekp]; exact q112)] at ek
          obtain ⟨T4, ek1, ek2⟩ := Option.bind_eq_some_iff.mp ek
          have o4 : kd_ok T4 := kd_ok_cp (f + 1) i _ _ _ s2 o1 ek1
          obtain ⟨n, en⟩ : ∃ n, n = kd_new (m_sh M1, m_nl M1) 1 := ⟨_, rfl⟩
          have ek1 : (if kd_new (m_sh M1, m_nl M1) 1 < 13 then (kd_cpA (m_kp M) b i (kd_new (m_sh M1, m_nl M1) 1) (kd_put (m_sh M1, m_nl M1) (kd_new (m_sh M1, m_nl M1) 1) (some (m_nn M1 top)))).bind (kd_kids (kd_cp (m_kp M) b f) (m_kp M) b i (kd_new (m_sh M1, m_nl M1) 1) 1 12) else none) = some T4 := ek1
          have n1 : 1 ≤ n := by rw [en]; exact kd_new1_pos _
          rw [← en] at ek1
          by_cases hn : n < 13
          · rw [if_pos hn] at ek1
            obtain ⟨T3, ek3, ek4⟩ := Option.bind_eq_some_iff.mp ek1
            have op := kd_ok_put1 (T := (m_sh M1, m_nl M1)) (a := m_nn M1 top) o1 n1 hn s2
            have o3 := kd_ok_cpA hn op ek3
            refine mm_aload_n dM_copyCut_121 rfl rfl ?_
            refine mm_getf dM_copyCut_122 fM_28 (km_0 h m _) rfl ?_
            refine mm_aload_n dM_copyCut_125 rfl rfl ?_
            refine mm_getf dM_copyCut_126 fM_139 (km_0 h m _) rfl ?_
            refine mm_iconst (v := nI 1) dM_copyCut_129 (by decide) ?_
            refine mm_isub dM_copyCut_130 ?_
            refine mm_iload dM_copyCut_131 rfl ?_
            refine mm_iastore dM_copyCut_133 (km_rc h m _) (by show nI (m_op M1) - nI 1 = nI (q - 1); rw [hop]; exact pk_sub hq1) (by omega) (by decide) ?_
            refine mm_eqh (kv_rc h m _ _ i).symm ?_
            refine mm_iload dM_copyCut_134 rfl ?_
            refine mm_bipush (v := nI 13) dM_copyCut_136 (by decide) ?_
            refine mm_icmp_ne_T (tgt := 154) dM_copyCut_138 (by decide) (fun w => by have := (nI_eq (by omega) (by decide)).mp w; omega) ?_
            refine mm_aload_n dM_copyCut_154 rfl rfl ?_
            refine mm_v0 dM_copyCut_155 lM_75 (km_0 h m _) (by decide) (Nat.le_of_ble_eq_true rfl) (kM_freeCut (M := s_rc M1 (ks_un (m_rc M1) (q - 1) i)) o1.1) ?_
            refine mm_top (v' := .int (nI n)) (by rw [en]; rfl) ?_
            refine mm_istore dM_copyCut_158 (by decide) rfl ?_
            refine mm_aload_n dM_copyCut_160 rfl rfl ?_
            refine mm_getf dM_copyCut_161 fM_7 (km_0 h m _) rfl ?_
            refine mm_iload dM_copyCut_164 rfl ?_
            refine mm_aload_n dM_copyCut_166 rfl rfl ?_
            refine mm_getf dM_copyCut_167 fM_35 (km_0 h m _) rfl ?_
            refine mm_iload dM_copyCut_170 rfl ?_
            refine mm_iaload dM_copyCut_172 (km_nn h m _) rfl (by omega) (by decide) ?_
            refine mm_iastore dM_copyCut_173 (km_sh h m _) rfl (by omega) (by decide) ?_
            refine mm_eqh (kv_sh h m _ _ (some (m_nn M1 top))).symm ?_
            refine mm_aload_n dM_copyCut_174 rfl rfl ?_
            refine mm_getf dM_copyCut_175 fM_35 (km_0 h m _) rfl ?_
            refine mm_iload dM_copyCut_178 rfl ?_
            refine mm_iload dM_copyCut_180 rfl ?_
            refine mm_iastore dM_copyCut_182 (km_nn h m _) rfl (by omega) (by decide) ?_
            refine mm_eqh (kv_nn h m _ _ n).symm ?_
            refine mm_aload_n dM_copyCut_183 rfl rfl ?_
            refine mm_iload dM_copyCut_184 rfl ?_
            refine mm_iload dM_copyCut_186 rfl ?_
            refine mm_iload_n dM_copyCut_188 rfl rfl ?_
            refine mm_eqh (show km_set h m (s_nn (s_sh (s_rc M1 (ks_un (m_rc M1) (q - 1) i)) (ks_u (m_sh M1) n (some (m_nn M1 top)))) (ks_un (m_nn M1) i n)) = _ from rfl) ?_
            refine mm_v3 dM_copyCut_189 lM_135 (km_0 h m _) rfl rfl rfl (by decide) (Nat.le_of_ble_eq_true rfl) (kM_copyArea (M := (s_nn (s_sh (s_rc M1 (ks_un (m_rc M1) (q - 1) i)) (ks_u (m_sh M1) n (some (m_nn M1 top)))) (ks_un (m_nn M1) i n))) (T' := T3) op hb67 (by show ∀ q, q < 1407 → mm_sm (m_kp M1 q); rw [ekp]; exact hkp) (by omega) hn (by show kd_cpA (m_kp M1) b i n _ = _; rw [ekp]; exact ek3)) ?_
            refine mm_aload_n dM_copyCut_192 rfl rfl ?_
            refine mm_getf dM_copyCut_193 fM_25 (km_0 h m _) rfl ?_
            refine mm_aload_n dM_copyCut_196 rfl rfl ?_
            refine mm_getf dM_copyCut_197 fM_139 (km_0 h m _) rfl ?_
            refine mm_iload dM_copyCut_200 rfl ?_
            refine mm_iastore dM_copyCut_202 (km_pl h m _) (by show nI (m_op M1) = nI q; rw [hop]) (by omega) (by decide) ?_
            refine mm_eqh (kv_pl h m _ _ i).symm ?_
            refine mm_aload_n dM_copyCut_203 rfl rfl ?_
            refine mm_getf dM_copyCut_204 fM_28 (km_0 h m _) rfl ?_
            refine mm_aload_n dM_copyCut_207 rfl rfl ?_
            refine mm_getf dM_copyCut_208 fM_139 (km_0 h m _) rfl ?_
            refine mm_iconst (v := nI 0) dM_copyCut_211 (by decide) ?_
            refine mm_iastore dM_copyCut_212 (km_rc h m _) (by show nI (m_op M1) = nI q; rw [hop]) (by omega) (by decide) ?_
            refine mm_eqh (kv_rc h m _ _ 0).symm ?_
            refine mm_aload_n dM_copyCut_213 rfl rfl ?_
            refine mm_dup dM_copyCut_214 rfl ?_
            refine mm_getf dM_copyCut_215 fM_139 (km_0 h m _) rfl ?_
            refine mm_iconst (v := nI 1) dM_copyCut_218 (by decide) ?_
            refine mm_iadd dM_copyCut_219 ?_
            refine mm_top (v' := .int (nI (q + 1))) (by show Value.int (nI (m_op M1) + nI 1) = _; rw [hop, nI_add]) ?_
            refine mm_putf dM_copyCut_220 fM_139 rfl rfl rfl rfl (km_0 h m _) (Nat.le_of_ble_eq_true rfl) ?_
            refine mm_eqh (ku_op h m _ (q + 1)).symm ?_
            refine mm_goto (tgt := 59) dM_copyCut_223 (by decide) ?_
            have ne : ∀ p, p < q → ¬ m_pl M1 p = i := fun p hp w => by
              have := (hst p hp).2.2
              rw [w] at this
              omega
            have pA : ∀ p, p < q → ks_un (m_pl M1) q i p = m_pl M1 p := fun p hp => if_neg (by omega)
            have pB : ks_un (m_pl M1) q i q = i := if_pos rfl
            have nA : ∀ p, p < q → ks_un (m_nn M1) i n (m_pl M1 p) = m_nn M1 (m_pl M1 p) := fun p hp => if_neg (ne p hp)
            have nB : ks_un (m_nn M1) i n i = n := if_pos rfl
            refine H D made (q + 1) 0 i _ _ _ _ rfl (by omega) (by omega) pB (if_pos rfl) ?_
            refine ihf D made 12 1 (q + 1) e0 i _ _ T4 ⟨rfl, fun p hp => ?_⟩ (by omega) he0 (by omega) rfl (Nat.le_refl _) pB o3 hV ?_ ?_
            · show ks_un (m_pl M1) q i p < 13 ∧ ks_un (m_nn M1) i n (ks_un (m_pl M1) q i p) < 13 ∧ km_dp S0 (ks_un (m_pl M1) q i p) = e0 + p
              by_cases hpq : p < q
              · rw [pA p hpq, nA p hpq]; exact hst p hpq
              · have hpq : p = q := by omega
                subst hpq
                rw [pB, nB]; exact ⟨by omega, hn, by omega⟩
            · show kd_kids (kd_cp (m_kp M) b f) (m_kp M) b i (ks_un (m_nn M1) i n i) 1 12 T3 = some T4
              rw [nB]; exact ek4
            · intro M2 y5 y6 y7 g1 g2 g3 g4 g5
              have g4 : m_op M2 = q := g4
              have g5 : ∀ p, p < q → m_pl M2 p = m_pl M1 p ∧ m_rc M2 p = ks_un (ks_un (m_rc M1) (q - 1) i) q 0 p ∧ m_nn M2 (m_pl M1 p) = m_nn M1 (m_pl M1 p) := fun p hp => by
                have g := g5 p hp
                have e1 : m_pl M2 p = ks_un (m_pl M1) q i p := g.1
                have e3 : m_nn M2 (ks_un (m_pl M1) q i p) = ks_un (m_nn M1) i n (ks_un (m_pl M1) q i p) := g.2.2
                rw [pA p hp] at e1 e3
                rw [nA p hp] at e3
                exact ⟨e1, g.2.1, e3⟩
              have gT := g5 (q - 1) (by omega)
              rw [htop] at gT
              have rci : m_rc M2 (q - 1) = i := gT.2.1.trans ((if_neg (by omega)).trans (if_pos rfl))
              refine H D made q i top _ _ _ M2 g4 hq1 (by omega) gT.1 rci ?_
              refine ihj (i + 1) q e0 top _ M2 T2 ⟨g4, fun p hp => ?_⟩ hq1 he0 hf (by omega) (by omega) gT.1 (by rw [g1, g2]; exact o4) g3 ?_ ?_
              · have g := g5 p hp
                rw [g.1, g.2.2]; exact hst p hp
              · rw [gT.2.2, g1, g2]; exact ek2
              · intro M3 z5 z6 z7 k1 k2 k3 k4 k5
                refine cont M3 z5 z6 z7 k1 k2 k3 k4 (fun p hp => ?_)
                have g := g5 p (by omega)
                have k := k5 p hp
                rw [g.1] at k
                refine ⟨k.1, k.2.1.trans (g.2.1.trans ((if_neg (by omega)).trans (if_neg (by omega)))), k.2.2.trans g.2.2⟩
          · rw [if_neg hn] at ek1; cases ek1
        · refine mm_iinc dM_copyCut_115 (by decide) rfl (mm_inc _) rfl ?_
          refine mm_goto (tgt := 94) dM_copyCut_118 (by decide) ?_
          rw [show kd_kids (kd_cp (m_kp M) b (f + 1)) (m_kp M) b top (m_nn M1 top) i (j + 1) (m_sh M1, m_nl M1) = kd_kids (kd_cp (m_kp M) b (f + 1)) (m_kp M) b top (m_nn M1 top) (i + 1) j (m_sh M1, m_nl M1) from if_neg (by rw [← ekp]; exact q112)] at ek
          exact ihj (i + 1) q e0 top x7 M1 T2 ⟨hop, hst⟩ hq1 he0 hf (by omega) (by omega) htop o1 hV ek cont
  obtain ⟨n, en⟩ : ∃ n, n = kd_new (m_sh M, m_nl M) 1 := ⟨_, rfl⟩
  have n1 : 1 ≤ n := by rw [en]; exact kd_new1_pos _
  have e : (if kd_new (m_sh M, m_nl M) 1 < 13 then (kd_cpA (m_kp M) b c (kd_new (m_sh M, m_nl M) 1) (kd_put (m_sh M, m_nl M) (kd_new (m_sh M, m_nl M) 1) (some a))).bind (kd_kids (kd_cp (m_kp M) b 11) (m_kp M) b c (kd_new (m_sh M, m_nl M) 1) 1 12) else none) = some T' := e
  rw [← en] at e ⊢
  by_cases hn : n < 13
  · rw [if_pos hn] at e
    obtain ⟨T3, ek3, ek4⟩ := Option.bind_eq_some_iff.mp e
    have op := kd_ok_put1 (T := (m_sh M, m_nl M)) (a := a) o n1 hn ha
    have o3 := kd_ok_cpA hn op ek3
    show mm_W Γ l mM_copyCut (d + 1 + 1 + 1) _ 0 [some (.ref m), some (.int (nI c)), some (.int (nI a)), none, none, none, none, none] [] _
    refine mm_bipush (v := nI 67) dM_copyCut_0 (by decide) ?_
    refine mm_aload_n dM_copyCut_2 rfl rfl ?_
    refine mm_getf dM_copyCut_3 fM_68 (km_0 h m _) rfl ?_
    refine mm_iconst (v := nI 1) dM_copyCut_6 (by decide) ?_
    refine mm_isub dM_copyCut_7 ?_
    refine mm_top (v' := .int (nI (m_mv M - 1))) (congrArg Value.int (pk_sub h1)) ?_
    refine mm_imul dM_copyCut_8 ?_
    refine mm_top (v' := .int (nI b)) (by rw [hb, ← pk_mul]) ?_
    refine mm_istore_n dM_copyCut_9 rfl (by decide) rfl ?_
    refine mm_aload_n dM_copyCut_10 rfl rfl ?_
    refine mm_v0 dM_copyCut_11 lM_75 (km_0 h m _) (by decide) (Nat.le_of_ble_eq_true rfl) (kM_freeCut o.1) ?_
    refine mm_top (v' := .int (nI n)) (by rw [en]; rfl) ?_
    refine mm_istore dM_copyCut_14 (by decide) rfl ?_
    refine mm_aload_n dM_copyCut_16 rfl rfl ?_
    refine mm_getf dM_copyCut_17 fM_7 (km_0 h m _) rfl ?_
    refine mm_iload dM_copyCut_20 rfl ?_
    refine mm_iload_n dM_copyCut_22 rfl rfl ?_
    refine mm_iastore dM_copyCut_23 (km_sh h m _) rfl (by omega) (by decide) ?_
    refine mm_eqh (kv_sh h m _ _ (some a)).symm ?_
    refine mm_aload_n dM_copyCut_24 rfl rfl ?_
    refine mm_iload_n dM_copyCut_25 rfl rfl ?_
    refine mm_iload dM_copyCut_26 rfl ?_
    refine mm_iload_n dM_copyCut_28 rfl rfl ?_
    refine mm_eqh (show km_set h m (s_sh M (ks_u (m_sh M) n (some a))) = _ from rfl) ?_
    refine mm_v3 dM_copyCut_29 lM_135 (km_0 h m _) rfl rfl rfl (by decide) (Nat.le_of_ble_eq_true rfl) (kM_copyArea (M := (s_sh M (ks_u (m_sh M) n (some a)))) (T' := T3) op hb67 hkp hc hn ek3) ?_
    refine mm_aload_n dM_copyCut_32 rfl rfl ?_
    refine mm_iconst (v := nI 1) dM_copyCut_33 (by decide) ?_
    refine mm_putf dM_copyCut_34 fM_139 rfl rfl rfl rfl (km_0 h m _) (Nat.le_of_ble_eq_true rfl) ?_
    refine mm_eqh (ku_op h m _ 1).symm ?_
    refine mm_aload_n dM_copyCut_37 rfl rfl ?_
    refine mm_getf dM_copyCut_38 fM_25 (km_0 h m _) rfl ?_
    refine mm_iconst (v := nI 0) dM_copyCut_41 (by decide) ?_
    refine mm_iload_n dM_copyCut_42 rfl rfl ?_
    refine mm_iastore dM_copyCut_43 (km_pl h m _) rfl (by omega) (by decide) ?_
    refine mm_eqh (kv_pl h m _ _ c).symm ?_
    refine mm_aload_n dM_copyCut_44 rfl rfl ?_
    refine mm_getf dM_copyCut_45 fM_35 (km_0 h m _) rfl ?_
    refine mm_iload_n dM_copyCut_48 rfl rfl ?_
    refine mm_iload dM_copyCut_49 rfl ?_
    refine mm_iastore dM_copyCut_51 (km_nn h m _) rfl (by omega) (by decide) ?_
    refine mm_eqh (kv_nn h m _ _ n).symm ?_
    refine mm_aload_n dM_copyCut_52 rfl rfl ?_
    refine mm_getf dM_copyCut_53 fM_28 (km_0 h m _) rfl ?_
    refine mm_iconst (v := nI 0) dM_copyCut_56 (by decide) ?_
    refine mm_iconst (v := nI 0) dM_copyCut_57 (by decide) ?_
    refine mm_iastore dM_copyCut_58 (km_rc h m _) rfl (by omega) (by decide) ?_
    refine mm_eqh (kv_rc h m _ _ 0).symm ?_
    have pB : ks_un (m_pl M) 0 c 0 = c := if_pos rfl
    have nB : ks_un (m_nn M) c n c = n := if_pos rfl
    refine H _ n 1 0 c _ _ _ _ rfl (Nat.le_refl _) (by decide) pB (show ks_un (m_rc M) 0 0 0 = 0 from if_pos rfl) ?_
    refine K 11 _ n 12 1 1 (km_dp S0 c) c _ _ T' ⟨rfl, fun p hp => ?_⟩ (Nat.le_refl _) hc1 rfl rfl (Nat.le_refl _) pB o3 rfl ?_ ?_
    · have hp : p = 0 := by omega
      subst hp
      show ks_un (m_pl M) 0 c 0 < 13 ∧ ks_un (m_nn M) c n (ks_un (m_pl M) 0 c 0) < 13 ∧ km_dp S0 (ks_un (m_pl M) 0 c 0) = km_dp S0 c + 0
      rw [pB, nB]; exact ⟨hc, hn, rfl⟩
    · show kd_kids (kd_cp (m_kp M) b 11) (m_kp M) b c (ks_un (m_nn M) c n c) 1 12 T3 = some T'
      rw [nB]; exact ek4
    · intro M2 x5 x6 x7 g1 g2 g3 g4 g5
      have g4 : m_op M2 = 0 := g4
      refine mm_aload_n dM_copyCut_59 rfl rfl ?_
      refine mm_getf dM_copyCut_60 fM_139 (km_0 h m _) rfl ?_
      refine mm_if_le_T (tgt := 226) dM_copyCut_63 (by decide) (by rw [g4]; decide) ?_
      refine mm_iload dM_copyCut_226 rfl ?_
      refine mm_ireturn dM_copyCut_228 rfl ?_
      exact ⟨_, M2, rfl, rfl, rfl, g1, g3⟩
  · rw [if_neg hn] at e
    cases e
set_option maxHeartbeats 1000000 in
theorem kM_copy (o : kt_ok (km_S M)) (hm : m_mv M ≤ 20) (hkp : ∀ q, q < 1407 → mm_sm (m_kp M q)) (k n a : Int32) (T' : kd_T) (hT : (ks_partI (km_S M) k n && ks_harI (km_S M) a) = true → km_cpC M k.toNatClampNeg n.toNatClampNeg a.toNatClampNeg = 0 → km_cpR M k.toNatClampNeg n.toNatClampNeg a.toNatClampNeg = some T') :
    mm_Ev Γ l (d + 1 + 1 + 1 + 1) mM_copy [.ref m, .int k, .int n, .int a] (km_set h m M) (km_D h m (km_cpP M k n a T')) := by
  have bad : (ks_partI (km_S M) k n && ks_harI (km_S M) a) = false → mm_W Γ l mM_copy (d + 1 + 1 + 1 + 1) (km_D h m (km_cpP M k n a T')) 18 [some (.ref m), some (.int k), some (.int n), some (.int a), none, none, none] [.ref m] (km_set h m M) := by
    intro hb
    refine mm_iconst (v := nI 1) dM_copy_18 (by decide) ?_
    refine mm_goto (tgt := 23) dM_copy_19 (by decide) ?_
    refine mm_putf dM_copy_23 fM_56 rfl rfl rfl rfl (km_0 h m _) (Nat.le_of_ble_eq_true rfl) ?_
    refine mm_eqh (ku_th h m _ 1).symm ?_
    refine mm_aload_n dM_copy_26 rfl rfl ?_
    refine mm_getf dM_copy_27 fM_56 (km_0 h m _) rfl ?_
    refine mm_if_eq_F (tgt := 35) dM_copy_30 (by decide) (show ¬ nI 1 = 0 by decide) ?_
    refine mm_iconst (v := nI 0) dM_copy_33 (by decide) ?_
    refine mm_ireturn dM_copy_34 rfl ?_
    exact ⟨_, _, rfl, rfl, by unfold km_cpP; rw [if_neg (by rw [hb]; decide)]; exact ⟨rfl, rfl⟩⟩
  have good : ∀ (k' n' a' x : Nat), k = nI k' → n = nI n' → a = nI a' → k' < 2 → n' < ks_len k' → ks_row (km_S M) k' n' = some x → a' < 13 → kt_is (km_S M) a' → (ks_partI (km_S M) k n && ks_harI (km_S M) a) = true → mm_W Γ l mM_copy (d + 1 + 1 + 1 + 1) (km_D h m (km_cpP M k n a T')) 22 [some (.ref m), some (.int k), some (.int n), some (.int a), none, none, none] [.ref m] (km_set h m M) := by
    intro k' n' a' x ek en ea hk hn hx ha ka hb
    subst ek en ea
    have hl := ks_len_le k'
    have ck : (nI k').toNatClampNeg = k' := nI_clamp (by omega)
    have cn : (nI n').toNatClampNeg = n' := nI_clamp (by omega)
    have ca : (nI a').toNatClampNeg = a' := nI_clamp (by omega)
    rw [ck, cn, ca] at hT
    have hT := hT hb
    have hx13 := o.1.1 k' n' x hn hx
    have kx := o.2.1 k' n' x (by omega) hn hx
    have P0 : km_cpP M (nI k') (nI n') (nI a') T' = fun v M' => if km_cpC M k' n' a' = 0 then v = some (.int (nI (km_new M k'))) ∧ m_sh M' = T'.1 ∧ km_V M' = km_V (km_keep (s_th M 0)) else v = some (.int (nI 0)) ∧ M' = s_th M (km_cpC M k' n' a') := by
      funext v M'
      unfold km_cpP
      rw [if_pos hb, ck, cn, ca]
    rw [P0]
    have l1 : ∀ (M1 : km_M) (D : mm_D) (x4 x5 : Option Value), (mm_W Γ l mM_copy (d + 1 + 1 + 1 + 1) D 168 [some (.ref m), some (.int (nI k')), some (.int (nI n')), some (.int (nI a')), x4, x5, some (.int (nI 6))] [] (km_set h m (s_nl M1 (kd_nl0 (m_nl M1) 6)))) → ∀ (j i : Nat), i + j = 6 → mm_W Γ l mM_copy (d + 1 + 1 + 1 + 1) D 147 [some (.ref m), some (.int (nI k')), some (.int (nI n')), some (.int (nI a')), x4, x5, some (.int (nI i))] [] (km_set h m (s_nl M1 (kd_nl0 (m_nl M1) i))) := by
      intro M1 D x4 x5 cont j
      induction j with
      | zero =>
        intro i hi
        have hi : i = 6 := by omega
        subst hi
        refine mm_iload dM_copy_147 rfl ?_
        refine mm_bipush (v := nI 6) dM_copy_149 (by decide) ?_
        refine mm_icmp_ge_T (tgt := 168) dM_copy_151 (by decide) (nI_le (by omega) (by omega)) ?_
        exact cont
      | succ j ih =>
        intro i hi
        have hh := ih (i + 1) (by omega)
        rw [← kd_nl0_u] at hh
        refine mm_iload dM_copy_147 rfl ?_
        refine mm_bipush (v := nI 6) dM_copy_149 (by decide) ?_
        refine mm_icmp_ge_F (tgt := 168) dM_copy_151 (by decide) (nI_ge (by omega) (by omega)) ?_
        refine mm_aload_n dM_copy_154 rfl rfl ?_
        refine mm_getf dM_copy_155 fM_38 (km_0 h m _) rfl ?_
        refine mm_iload dM_copy_158 rfl ?_
        refine mm_iconst (v := -1) dM_copy_160 (by decide) ?_
        refine mm_iastore dM_copy_161 (km_nl h m _) rfl (by omega) (by decide) ?_
        refine mm_eqh (kv_nl h m _ _ none).symm ?_
        refine mm_iinc dM_copy_162 (by decide) rfl (mm_inc _) rfl ?_
        refine mm_goto (tgt := 147) dM_copy_165 (by decide) ?_
        exact hh
    have tail : ∀ x4 x5 : Option Value, mm_W Γ l mM_copy (d + 1 + 1 + 1 + 1) (km_D h m (fun v M' => if km_cpC M k' n' a' = 0 then v = some (.int (nI (km_new M k'))) ∧ m_sh M' = T'.1 ∧ km_V M' = km_V (km_keep (s_th M 0)) else v = some (.int (nI 0)) ∧ M' = s_th M (km_cpC M k' n' a'))) 128 [some (.ref m), some (.int (nI k')), some (.int (nI n')), some (.int (nI a')), x4, x5, none] [.int (nI (km_cpC M k' n' a')), .ref m] (km_set h m (s_th M 0)) := by
      intro x4 x5
      refine mm_putf dM_copy_128 fM_56 rfl rfl rfl rfl (km_0 h m _) (Nat.le_of_ble_eq_true rfl) ?_
      refine mm_eqh (ku_th h m _ (km_cpC M k' n' a')).symm ?_
      refine mm_aload_n dM_copy_131 rfl rfl ?_
      refine mm_getf dM_copy_132 fM_56 (km_0 h m _) rfl ?_
      refine mm_if_eq_n (tgt := 140) dM_copy_135 (by decide) (Nat.lt_of_le_of_lt (km_cpC_le M k' n' a') (by decide)) (fun q135 => ?_) (fun q135 => ?_)
      · have q135 : km_cpC M k' n' a' = 0 := q135
        obtain ⟨z1, z2, z3⟩ := km_cpC_0 q135
        have zst : m_st M = true := (Bool.and_eq_true_iff.mp z1).1
        have hR := hT q135
        have hM : s_th (s_th M 0) (km_cpC M k' n' a') = s_th M 0 := by rw [q135]; rfl
        rw [hM]
        refine mm_aload_n dM_copy_140 rfl rfl ?_
        refine mm_v0 dM_copy_141 lM_83 (km_0 h m _) (by decide) (Nat.le_of_ble_eq_true rfl) (kM_keep (M := s_th M 0) (fun _ => km_late_mv z3 hm)) ?_
        refine mm_iconst (v := nI 0) dM_copy_144 (by decide) ?_
        refine mm_istore dM_copy_145 (by decide) rfl ?_
        have eS : m_sh (km_keep (s_th M 0)) = m_sh M := km_keep_sh _
        have enl : m_nl (km_keep (s_th M 0)) = m_nl M := by unfold km_keep; split <;> rfl
        have e0 : (km_keep (s_th M 0)) = s_nl (km_keep (s_th M 0)) (kd_nl0 (m_nl (km_keep (s_th M 0))) 0) := by rw [kd_nl0_0]; rfl
        refine mm_eqh (congrArg (km_set h m) e0.symm) ?_
        refine l1 (km_keep (s_th M 0)) _ _ _ ?_ 6 0 rfl
        have hT0 : (m_sh (s_nl (km_keep (s_th M 0)) (kd_nl0 (m_nl (km_keep (s_th M 0))) 6)), m_nl (s_nl (km_keep (s_th M 0)) (kd_nl0 (m_nl (km_keep (s_th M 0))) 6))) = kd_T0 M := Prod.ext eS (by show kd_nl0 (m_nl (km_keep (s_th M 0))) 6 = kd_nl0 (m_nl M) 6; rw [enl])
        have ok0 : kd_ok (m_sh (s_nl (km_keep (s_th M 0)) (kd_nl0 (m_nl (km_keep (s_th M 0))) 6)), m_nl (s_nl (km_keep (s_th M 0)) (kd_nl0 (m_nl (km_keep (s_th M 0))) 6))) := by rw [hT0]; exact kd_ok_T0 o.1
        have done : ∀ v M', v = some (.int (nI (km_new M k'))) → m_sh M' = T'.1 → km_V M' = km_V (km_keep (s_th M 0)) → km_D h m (fun v M' => if km_cpC M k' n' a' = 0 then v = some (.int (nI (km_new M k'))) ∧ m_sh M' = T'.1 ∧ km_V M' = km_V (km_keep (s_th M 0)) else v = some (.int (nI 0)) ∧ M' = s_th M (km_cpC M k' n' a')) (.inl v) (km_set h m M') := fun v M' g1 g2 g3 => ⟨v, M', rfl, rfl, by show (if _ then _ else _); rw [if_pos q135]; exact ⟨g1, g2, g3⟩⟩
        by_cases hk0 : k' = 0
        · subst hk0
          have hR : kd_spot (kd_T0 M) n' a' = some T' := hR
          refine mm_iload_n dM_copy_168 rfl rfl ?_
          refine mm_iconst (v := nI 1) dM_copy_169 (by decide) ?_
          refine mm_icmp_ne_T (tgt := 180) dM_copy_170 (by decide) (show ¬ nI 0 = nI 1 by decide) ?_
          refine mm_aload_n dM_copy_180 rfl rfl ?_
          
          refine mm_v0 dM_copy_181 lM_102 (km_0 h m _) (by decide) (Nat.le_of_ble_eq_true rfl) (kM_freeSpot (M := (s_nl (km_keep (s_th M 0)) (kd_nl0 (m_nl (km_keep (s_th M 0))) 6))) ok0.1) ?_
          refine mm_top (v' := .int (nI (km_new M 0))) (by show Value.int (nI ((ks_slot (kz (m_sh (km_keep (s_th M 0)))) 0).getD 12)) = _; rw [eS]; rfl) ?_
          refine mm_istore dM_copy_184 (by decide) rfl ?_
          refine mm_aload_n dM_copy_186 rfl rfl ?_
          refine mm_iload_n dM_copy_187 rfl rfl ?_
          refine mm_iload_n dM_copy_188 rfl rfl ?_
          refine mm_v2 dM_copy_189 lM_131 (km_0 h m _) rfl rfl (by decide) (Nat.le_of_ble_eq_true rfl) (kM_copySpot (M := (s_nl (km_keep (s_th M 0)) (kd_nl0 (m_nl (km_keep (s_th M 0))) 6))) (T' := T') ok0 hn ha (by rw [hT0]; exact hR)) ?_
          refine mm_iload dM_copy_192 rfl ?_
          refine mm_ireturn dM_copy_194 rfl ?_
          exact done _ _ rfl rfl rfl
        · have hk1 : k' = 1 := by omega
          subst hk1
          have hn : n' < 13 := hn
          have hR : kd_cp (km_kc (m_kp M) (m_sh M) (67 * m_mv M) 67) (67 * m_mv M) 12 n' a' (kd_T0 M) = some T' := hR
          have ekp : m_kp (km_keep (s_th M 0)) = km_kc (m_kp M) (m_sh M) (67 * m_mv M) 67 := by unfold km_keep; rw [if_pos (show m_st (s_th M 0) = true from zst)]; rfl
          have emv : m_mv (km_keep (s_th M 0)) = m_mv M + 1 := by rw [km_keep_mv]; exact if_pos zst
          have hmv := km_late_mv z3 hm
          have hdp : 1 ≤ km_dp (km_S M) n' := by rw [km_dp_child o hn hx]; omega
          have hkp2 : ∀ q, q < 1407 → mm_sm (km_kc (m_kp M) (m_sh M) (67 * m_mv M) 67 q) := fun q hq => by
            unfold km_kc
            split
            · rename_i hq2
              by_cases g1 : q - 67 * m_mv M < 31
              · exact km_sm31 o.1 g1
              · by_cases g2 : q - 67 * m_mv M < 43
                · exact km_smg o.1 (by omega) g2
                · exact km_sm43 o.1 (by omega) (by omega)
            · exact hkp q hq
          refine mm_iload_n dM_copy_168 rfl rfl ?_
          refine mm_iconst (v := nI 1) dM_copy_169 (by decide) ?_
          refine mm_icmp_ne_F (tgt := 180) dM_copy_170 (by decide) rfl ?_
          refine mm_aload_n dM_copy_173 rfl rfl ?_
          refine mm_iload_n dM_copy_174 rfl rfl ?_
          refine mm_iload_n dM_copy_175 rfl rfl ?_
          refine mm_v2x dM_copy_176 lM_148 (km_0 h m _) rfl rfl (by decide) (Nat.le_of_ble_eq_true rfl) (kM_copyCut (M := (s_nl (km_keep (s_th M 0)) (kd_nl0 (m_nl (km_keep (s_th M 0))) 6))) (T' := T') (b := 67 * m_mv M) (S0 := km_S M) ok0 (by show 67 * m_mv M = 67 * (m_mv (km_keep (s_th M 0)) - 1); rw [emv]; rfl) (by show 1 ≤ m_mv (km_keep (s_th M 0)); rw [emv]; omega) (by show m_mv (km_keep (s_th M 0)) ≤ 20; rw [emv]; omega) (by show ∀ q, q < 1407 → mm_sm (m_kp (km_keep (s_th M 0)) q); rw [ekp]; exact hkp2) (by show kz (fun q => m_kp (km_keep (s_th M 0)) (67 * m_mv M + q)) = km_S M; rw [ekp]; exact kz_kc _ _ _) o hn hdp ha (by show kd_cp (m_kp (km_keep (s_th M 0))) _ _ _ _ _ = _; rw [ekp, hT0]; exact hR)) ?_
          rintro v M9 ⟨rfl, g1, g2⟩
          refine mm_ireturn dM_copy_179 rfl ?_
          exact done _ M9 (by rw [hT0]; rfl) g1 g2
      · have q135 : ¬ km_cpC M k' n' a' = 0 := q135
        refine mm_iconst (v := nI 0) dM_copy_138 (by decide) ?_
        refine mm_ireturn dM_copy_139 rfl ?_
        exact ⟨_, _, rfl, rfl, by show (if _ then _ else _); rw [if_neg q135]; exact ⟨rfl, rfl⟩⟩
    refine mm_iconst (v := nI 0) dM_copy_22 (by decide) ?_
    refine mm_putf dM_copy_23 fM_56 rfl rfl rfl rfl (km_0 h m _) (Nat.le_of_ble_eq_true rfl) ?_
    refine mm_eqh (ku_th h m _ 0).symm ?_
    refine mm_aload_n dM_copy_26 rfl rfl ?_
    refine mm_getf dM_copy_27 fM_56 (km_0 h m _) rfl ?_
    refine mm_if_eq_T (tgt := 35) dM_copy_30 (by decide) rfl ?_
    refine mm_aload_n dM_copy_35 rfl rfl ?_
    refine mm_getf dM_copy_36 fM_64 (km_0 h m _) rfl ?_
    refine mm_if_eq_b (tgt := 74) dM_copy_39 (by decide) (fun q39 => ?_) (fun q39 => ?_)
    · refine mm_iconst (v := nI 0) dM_copy_74 (by decide) ?_
      refine mm_istore dM_copy_75 (by decide) rfl ?_
      refine mm_iload_n dM_copy_77 rfl rfl ?_
      refine mm_if_ne_n (tgt := 98) dM_copy_78 (by decide) (by omega) (fun q78 => ?_) (fun q78 => ?_)
      · refine mm_aload_n dM_copy_98 rfl rfl ?_
        refine mm_iload_n dM_copy_99 rfl rfl ?_
        refine mm_v1 dM_copy_100 lM_145 (km_0 h m _) rfl (by decide) (Nat.le_of_ble_eq_true rfl) (kM_isRoomFor (M := s_th M 0) o (by omega)) ?_
        refine mm_istore dM_copy_103 (by decide) rfl ?_
        refine mm_aload_n dM_copy_105 rfl rfl ?_
        refine mm_iload dM_copy_106 rfl ?_
        refine mm_if_ne_F (tgt := 115) dM_copy_108 (by decide) rfl ?_
        refine mm_iconst (v := nI 2) dM_copy_111 (by decide) ?_
        refine mm_goto (tgt := 128) dM_copy_112 (by decide) ?_
        refine mm_top (v' := .int (nI (km_cpC M k' n' a'))) (by rw [show km_cpC M k' n' a' = 2 from if_neg (by rw [show km_may M k' n' a' = false from by unfold km_may; rw [show m_st M = false from q39]; rfl]; decide)]; first | done | rfl) ?_
        exact tail _ _
      · refine mm_aload_n dM_copy_81 rfl rfl ?_
        refine mm_v0 dM_copy_82 lM_102 (km_0 h m _) (by decide) (Nat.le_of_ble_eq_true rfl) (kM_freeSpot (M := s_th M 0) o.1) ?_
        refine mm_bipush (v := nI 12) dM_copy_85 (by decide) ?_
        refine mm_icmp_ge_n (tgt := 94) dM_copy_87 (by decide) (Nat.lt_of_le_of_lt (ks_slot_gd (km_S M) 0) (by decide)) (by decide) (fun q87 => ?_) (fun q87 => ?_)
        · refine mm_iconst (v := nI 0) dM_copy_94 (by decide) ?_
          refine mm_goto (tgt := 103) dM_copy_95 (by decide) ?_
          refine mm_istore dM_copy_103 (by decide) rfl ?_
          refine mm_aload_n dM_copy_105 rfl rfl ?_
          refine mm_iload dM_copy_106 rfl ?_
          refine mm_if_ne_F (tgt := 115) dM_copy_108 (by decide) rfl ?_
          refine mm_iconst (v := nI 2) dM_copy_111 (by decide) ?_
          refine mm_goto (tgt := 128) dM_copy_112 (by decide) ?_
          refine mm_top (v' := .int (nI (km_cpC M k' n' a'))) (by rw [show km_cpC M k' n' a' = 2 from if_neg (by rw [show km_may M k' n' a' = false from by unfold km_may; rw [show m_st M = false from q39]; rfl]; decide)]; first | done | rfl) ?_
          exact tail _ _
        · refine mm_iconst (v := nI 1) dM_copy_90 (by decide) ?_
          refine mm_goto (tgt := 103) dM_copy_91 (by decide) ?_
          refine mm_istore dM_copy_103 (by decide) rfl ?_
          refine mm_aload_n dM_copy_105 rfl rfl ?_
          refine mm_iload dM_copy_106 rfl ?_
          refine mm_if_ne_F (tgt := 115) dM_copy_108 (by decide) rfl ?_
          refine mm_iconst (v := nI 2) dM_copy_111 (by decide) ?_
          refine mm_goto (tgt := 128) dM_copy_112 (by decide) ?_
          refine mm_top (v' := .int (nI (km_cpC M k' n' a'))) (by rw [show km_cpC M k' n' a' = 2 from if_neg (by rw [show km_may M k' n' a' = false from by unfold km_may; rw [show m_st M = false from q39]; rfl]; decide)]; first | done | rfl) ?_
          exact tail _ _
    · refine mm_aload_n dM_copy_42 rfl rfl ?_
      refine mm_iload_n dM_copy_43 rfl rfl ?_
      refine mm_aload_n dM_copy_44 rfl rfl ?_
      refine mm_iload_n dM_copy_45 rfl rfl ?_
      refine mm_iload_n dM_copy_46 rfl rfl ?_
      refine mm_v2 dM_copy_47 lM_118 (km_0 h m _) rfl rfl (by decide) (Nat.le_of_ble_eq_true rfl) (kM_areaOf (M := s_th M 0) (by omega) hn) ?_
      refine mm_top (v' := .int (nI x)) (congrArg Value.int (by show mm_enc (ks_row (km_S M) k' n') = _; rw [hx]; rfl)) ?_
      refine mm_v2 dM_copy_50 lM_92 (km_0 h m _) rfl rfl (by decide) (Nat.le_of_ble_eq_true rfl) (kM_isWithin (M := s_th M 0) o.1 ka (by omega)) ?_
      refine mm_if_eq_b (tgt := 74) dM_copy_53 (by decide) (fun q53 => ?_) (fun q53 => ?_)
      · refine mm_iconst (v := nI 0) dM_copy_74 (by decide) ?_
        refine mm_istore dM_copy_75 (by decide) rfl ?_
        refine mm_iload_n dM_copy_77 rfl rfl ?_
        refine mm_if_ne_n (tgt := 98) dM_copy_78 (by decide) (by omega) (fun q78 => ?_) (fun q78 => ?_)
        · refine mm_aload_n dM_copy_98 rfl rfl ?_
          refine mm_iload_n dM_copy_99 rfl rfl ?_
          refine mm_v1 dM_copy_100 lM_145 (km_0 h m _) rfl (by decide) (Nat.le_of_ble_eq_true rfl) (kM_isRoomFor (M := s_th M 0) o (by omega)) ?_
          refine mm_istore dM_copy_103 (by decide) rfl ?_
          refine mm_aload_n dM_copy_105 rfl rfl ?_
          refine mm_iload dM_copy_106 rfl ?_
          refine mm_if_ne_F (tgt := 115) dM_copy_108 (by decide) rfl ?_
          refine mm_iconst (v := nI 2) dM_copy_111 (by decide) ?_
          refine mm_goto (tgt := 128) dM_copy_112 (by decide) ?_
          refine mm_top (v' := .int (nI (km_cpC M k' n' a'))) (by rw [show km_cpC M k' n' a' = 2 from if_neg (by rw [show km_may M k' n' a' = false from by unfold km_may; rw [hx, show ks_in (km_S M) (some a') (some x) = false from q53, Bool.false_and, Bool.and_false]]; decide)]; first | done | rfl) ?_
          exact tail _ _
        · refine mm_aload_n dM_copy_81 rfl rfl ?_
          refine mm_v0 dM_copy_82 lM_102 (km_0 h m _) (by decide) (Nat.le_of_ble_eq_true rfl) (kM_freeSpot (M := s_th M 0) o.1) ?_
          refine mm_bipush (v := nI 12) dM_copy_85 (by decide) ?_
          refine mm_icmp_ge_n (tgt := 94) dM_copy_87 (by decide) (Nat.lt_of_le_of_lt (ks_slot_gd (km_S M) 0) (by decide)) (by decide) (fun q87 => ?_) (fun q87 => ?_)
          · refine mm_iconst (v := nI 0) dM_copy_94 (by decide) ?_
            refine mm_goto (tgt := 103) dM_copy_95 (by decide) ?_
            refine mm_istore dM_copy_103 (by decide) rfl ?_
            refine mm_aload_n dM_copy_105 rfl rfl ?_
            refine mm_iload dM_copy_106 rfl ?_
            refine mm_if_ne_F (tgt := 115) dM_copy_108 (by decide) rfl ?_
            refine mm_iconst (v := nI 2) dM_copy_111 (by decide) ?_
            refine mm_goto (tgt := 128) dM_copy_112 (by decide) ?_
            refine mm_top (v' := .int (nI (km_cpC M k' n' a'))) (by rw [show km_cpC M k' n' a' = 2 from if_neg (by rw [show km_may M k' n' a' = false from by unfold km_may; rw [hx, show ks_in (km_S M) (some a') (some x) = false from q53, Bool.false_and, Bool.and_false]]; decide)]; first | done | rfl) ?_
            exact tail _ _
          · refine mm_iconst (v := nI 1) dM_copy_90 (by decide) ?_
            refine mm_goto (tgt := 103) dM_copy_91 (by decide) ?_
            refine mm_istore dM_copy_103 (by decide) rfl ?_
            refine mm_aload_n dM_copy_105 rfl rfl ?_
            refine mm_iload dM_copy_106 rfl ?_
            refine mm_if_ne_F (tgt := 115) dM_copy_108 (by decide) rfl ?_
            refine mm_iconst (v := nI 2) dM_copy_111 (by decide) ?_
            refine mm_goto (tgt := 128) dM_copy_112 (by decide) ?_
            refine mm_top (v' := .int (nI (km_cpC M k' n' a'))) (by rw [show km_cpC M k' n' a' = 2 from if_neg (by rw [show km_may M k' n' a' = false from by unfold km_may; rw [hx, show ks_in (km_S M) (some a') (some x) = false from q53, Bool.false_and, Bool.and_false]]; decide)]; first | done | rfl) ?_
            exact tail _ _
      · refine mm_iload_n dM_copy_56 rfl rfl ?_
        refine mm_iconst (v := nI 1) dM_copy_57 (by decide) ?_
        refine mm_icmp_ne_n (tgt := 70) dM_copy_58 (by decide) (by omega) (by decide) (fun q58 => ?_) (fun q58 => ?_)
        · refine mm_iconst (v := nI 1) dM_copy_70 (by decide) ?_
          refine mm_goto (tgt := 75) dM_copy_71 (by decide) ?_
          refine mm_istore dM_copy_75 (by decide) rfl ?_
          refine mm_iload_n dM_copy_77 rfl rfl ?_
          refine mm_if_ne_n (tgt := 98) dM_copy_78 (by decide) (by omega) (fun q78 => ?_) (fun q78 => ?_)
          · refine mm_aload_n dM_copy_98 rfl rfl ?_
            refine mm_iload_n dM_copy_99 rfl rfl ?_
            refine mm_v1 dM_copy_100 lM_145 (km_0 h m _) rfl (by decide) (Nat.le_of_ble_eq_true rfl) (kM_isRoomFor (M := s_th M 0) o (by omega)) ?_
            refine mm_istore dM_copy_103 (by decide) rfl ?_
            refine mm_aload_n dM_copy_105 rfl rfl ?_
            refine mm_iload dM_copy_106 rfl ?_
            refine mm_if_ne_T (tgt := 115) dM_copy_108 (by decide) (show ¬ nI 1 = 0 by decide) ?_
            refine mm_iload dM_copy_115 rfl ?_
            refine mm_if_ne_b (tgt := 124) dM_copy_117 (by decide) (fun q117 => ?_) (fun q117 => ?_)
            · refine mm_aload_n dM_copy_124 rfl rfl ?_
              refine mm_v0 dM_copy_125 lM_125 (km_0 h m _) (by decide) (Nat.le_of_ble_eq_true rfl) (kM_lateN (M := s_th M 0) hm) ?_
              refine mm_top (v' := .int (nI (km_cpC M k' n' a'))) (by rw [show km_cpC M k' n' a' = km_late M from (if_pos (show km_may M k' n' a' = true from by unfold km_may; rw [hx, show m_st M = true from q39, show ks_in (km_S M) (some a') (some x) = true from q53, decide_eq_false q58]; rfl)).trans (if_pos ((if_neg q78).trans q117))]; first | done | rfl) ?_
              exact tail _ _
            · refine mm_iconst (v := nI 3) dM_copy_120 (by decide) ?_
              refine mm_goto (tgt := 128) dM_copy_121 (by decide) ?_
              refine mm_top (v' := .int (nI (km_cpC M k' n' a'))) (by rw [show km_cpC M k' n' a' = 3 from (if_pos (show km_may M k' n' a' = true from by unfold km_may; rw [hx, show m_st M = true from q39, show ks_in (km_S M) (some a') (some x) = true from q53, decide_eq_false q58]; rfl)).trans (if_neg (by rw [show km_rm M k' n' = false from (if_neg q78).trans q117]; decide))]; first | done | rfl) ?_
              exact tail _ _
          · refine mm_aload_n dM_copy_81 rfl rfl ?_
            refine mm_v0 dM_copy_82 lM_102 (km_0 h m _) (by decide) (Nat.le_of_ble_eq_true rfl) (kM_freeSpot (M := s_th M 0) o.1) ?_
            refine mm_bipush (v := nI 12) dM_copy_85 (by decide) ?_
            refine mm_icmp_ge_n (tgt := 94) dM_copy_87 (by decide) (Nat.lt_of_le_of_lt (ks_slot_gd (km_S M) 0) (by decide)) (by decide) (fun q87 => ?_) (fun q87 => ?_)
            · refine mm_iconst (v := nI 0) dM_copy_94 (by decide) ?_
              refine mm_goto (tgt := 103) dM_copy_95 (by decide) ?_
              refine mm_istore dM_copy_103 (by decide) rfl ?_
              refine mm_aload_n dM_copy_105 rfl rfl ?_
              refine mm_iload dM_copy_106 rfl ?_
              refine mm_if_ne_T (tgt := 115) dM_copy_108 (by decide) (show ¬ nI 1 = 0 by decide) ?_
              refine mm_iload dM_copy_115 rfl ?_
              refine mm_if_ne_F (tgt := 124) dM_copy_117 (by decide) rfl ?_
              refine mm_iconst (v := nI 3) dM_copy_120 (by decide) ?_
              refine mm_goto (tgt := 128) dM_copy_121 (by decide) ?_
              refine mm_top (v' := .int (nI (km_cpC M k' n' a'))) (by rw [show km_cpC M k' n' a' = 3 from (if_pos (show km_may M k' n' a' = true from by unfold km_may; rw [hx, show m_st M = true from q39, show ks_in (km_S M) (some a') (some x) = true from q53, decide_eq_false q58]; rfl)).trans (if_neg (by rw [show km_rm M k' n' = false from (if_pos q78).trans (decide_eq_false (Nat.not_lt.mpr q87))]; decide))]; first | done | rfl) ?_
              exact tail _ _
            · refine mm_iconst (v := nI 1) dM_copy_90 (by decide) ?_
              refine mm_goto (tgt := 103) dM_copy_91 (by decide) ?_
              refine mm_istore dM_copy_103 (by decide) rfl ?_
              refine mm_aload_n dM_copy_105 rfl rfl ?_
              refine mm_iload dM_copy_106 rfl ?_
              refine mm_if_ne_T (tgt := 115) dM_copy_108 (by decide) (show ¬ nI 1 = 0 by decide) ?_
              refine mm_iload dM_copy_115 rfl ?_
              refine mm_if_ne_T (tgt := 124) dM_copy_117 (by decide) (show ¬ nI 1 = 0 by decide) ?_
              refine mm_aload_n dM_copy_124 rfl rfl ?_
              refine mm_v0 dM_copy_125 lM_125 (km_0 h m _) (by decide) (Nat.le_of_ble_eq_true rfl) (kM_lateN (M := s_th M 0) hm) ?_
              refine mm_top (v' := .int (nI (km_cpC M k' n' a'))) (by rw [show km_cpC M k' n' a' = km_late M from (if_pos (show km_may M k' n' a' = true from by unfold km_may; rw [hx, show m_st M = true from q39, show ks_in (km_S M) (some a') (some x) = true from q53, decide_eq_false q58]; rfl)).trans (if_pos ((if_pos q78).trans (decide_eq_true q87)))]; first | done | rfl) ?_
              exact tail _ _
        · refine mm_aload_n dM_copy_61 rfl rfl ?_
          refine mm_iload_n dM_copy_62 rfl rfl ?_
          refine mm_iload_n dM_copy_63 rfl rfl ?_
          refine mm_v2 dM_copy_64 lM_92 (km_0 h m _) rfl rfl (by decide) (Nat.le_of_ble_eq_true rfl) (kM_isWithin (M := s_th M 0) o.1 ka (by omega)) ?_
          refine mm_if_ne_b (tgt := 74) dM_copy_67 (by decide) (fun q67 => ?_) (fun q67 => ?_)
          · refine mm_iconst (v := nI 0) dM_copy_74 (by decide) ?_
            refine mm_istore dM_copy_75 (by decide) rfl ?_
            refine mm_iload_n dM_copy_77 rfl rfl ?_
            refine mm_if_ne_n (tgt := 98) dM_copy_78 (by decide) (by omega) (fun q78 => ?_) (fun q78 => ?_)
            · refine mm_aload_n dM_copy_98 rfl rfl ?_
              refine mm_iload_n dM_copy_99 rfl rfl ?_
              refine mm_v1 dM_copy_100 lM_145 (km_0 h m _) rfl (by decide) (Nat.le_of_ble_eq_true rfl) (kM_isRoomFor (M := s_th M 0) o (by omega)) ?_
              refine mm_istore dM_copy_103 (by decide) rfl ?_
              refine mm_aload_n dM_copy_105 rfl rfl ?_
              refine mm_iload dM_copy_106 rfl ?_
              refine mm_if_ne_F (tgt := 115) dM_copy_108 (by decide) rfl ?_
              refine mm_iconst (v := nI 2) dM_copy_111 (by decide) ?_
              refine mm_goto (tgt := 128) dM_copy_112 (by decide) ?_
              refine mm_top (v' := .int (nI (km_cpC M k' n' a'))) (by rw [show km_cpC M k' n' a' = 2 from if_neg (by rw [show km_may M k' n' a' = false from by unfold km_may; rw [hx, show m_st M = true from q39, show ks_in (km_S M) (some a') (some x) = true from q53, decide_eq_true q58, show ks_in (km_S M) (some a') (some n') = true from q67]; rfl]; decide)]; first | done | rfl) ?_
              exact tail _ _
            · refine mm_aload_n dM_copy_81 rfl rfl ?_
              refine mm_v0 dM_copy_82 lM_102 (km_0 h m _) (by decide) (Nat.le_of_ble_eq_true rfl) (kM_freeSpot (M := s_th M 0) o.1) ?_
              refine mm_bipush (v := nI 12) dM_copy_85 (by decide) ?_
              refine mm_icmp_ge_n (tgt := 94) dM_copy_87 (by decide) (Nat.lt_of_le_of_lt (ks_slot_gd (km_S M) 0) (by decide)) (by decide) (fun q87 => ?_) (fun q87 => ?_)
              · refine mm_iconst (v := nI 0) dM_copy_94 (by decide) ?_
                refine mm_goto (tgt := 103) dM_copy_95 (by decide) ?_
                refine mm_istore dM_copy_103 (by decide) rfl ?_
                refine mm_aload_n dM_copy_105 rfl rfl ?_
                refine mm_iload dM_copy_106 rfl ?_
                refine mm_if_ne_F (tgt := 115) dM_copy_108 (by decide) rfl ?_
                refine mm_iconst (v := nI 2) dM_copy_111 (by decide) ?_
                refine mm_goto (tgt := 128) dM_copy_112 (by decide) ?_
                refine mm_top (v' := .int (nI (km_cpC M k' n' a'))) (by rw [show km_cpC M k' n' a' = 2 from if_neg (by rw [show km_may M k' n' a' = false from by unfold km_may; rw [hx, show m_st M = true from q39, show ks_in (km_S M) (some a') (some x) = true from q53, decide_eq_true q58, show ks_in (km_S M) (some a') (some n') = true from q67]; rfl]; decide)]; first | done | rfl) ?_
                exact tail _ _
              · refine mm_iconst (v := nI 1) dM_copy_90 (by decide) ?_
                refine mm_goto (tgt := 103) dM_copy_91 (by decide) ?_
                refine mm_istore dM_copy_103 (by decide) rfl ?_
                refine mm_aload_n dM_copy_105 rfl rfl ?_
                refine mm_iload dM_copy_106 rfl ?_
                refine mm_if_ne_F (tgt := 115) dM_copy_108 (by decide) rfl ?_
                refine mm_iconst (v := nI 2) dM_copy_111 (by decide) ?_
                refine mm_goto (tgt := 128) dM_copy_112 (by decide) ?_
                refine mm_top (v' := .int (nI (km_cpC M k' n' a'))) (by rw [show km_cpC M k' n' a' = 2 from if_neg (by rw [show km_may M k' n' a' = false from by unfold km_may; rw [hx, show m_st M = true from q39, show ks_in (km_S M) (some a') (some x) = true from q53, decide_eq_true q58, show ks_in (km_S M) (some a') (some n') = true from q67]; rfl]; decide)]; first | done | rfl) ?_
                exact tail _ _
          · refine mm_iconst (v := nI 1) dM_copy_70 (by decide) ?_
            refine mm_goto (tgt := 75) dM_copy_71 (by decide) ?_
            refine mm_istore dM_copy_75 (by decide) rfl ?_
            refine mm_iload_n dM_copy_77 rfl rfl ?_
            refine mm_if_ne_n (tgt := 98) dM_copy_78 (by decide) (by omega) (fun q78 => ?_) (fun q78 => ?_)
            · refine mm_aload_n dM_copy_98 rfl rfl ?_
              refine mm_iload_n dM_copy_99 rfl rfl ?_
              refine mm_v1 dM_copy_100 lM_145 (km_0 h m _) rfl (by decide) (Nat.le_of_ble_eq_true rfl) (kM_isRoomFor (M := s_th M 0) o (by omega)) ?_
              refine mm_istore dM_copy_103 (by decide) rfl ?_
              refine mm_aload_n dM_copy_105 rfl rfl ?_
              refine mm_iload dM_copy_106 rfl ?_
              refine mm_if_ne_T (tgt := 115) dM_copy_108 (by decide) (show ¬ nI 1 = 0 by decide) ?_
              refine mm_iload dM_copy_115 rfl ?_
              refine mm_if_ne_b (tgt := 124) dM_copy_117 (by decide) (fun q117 => ?_) (fun q117 => ?_)
              · refine mm_aload_n dM_copy_124 rfl rfl ?_
                refine mm_v0 dM_copy_125 lM_125 (km_0 h m _) (by decide) (Nat.le_of_ble_eq_true rfl) (kM_lateN (M := s_th M 0) hm) ?_
                refine mm_top (v' := .int (nI (km_cpC M k' n' a'))) (by rw [show km_cpC M k' n' a' = km_late M from (if_pos (show km_may M k' n' a' = true from by unfold km_may; rw [hx, show m_st M = true from q39, show ks_in (km_S M) (some a') (some x) = true from q53, decide_eq_true q58, show ks_in (km_S M) (some a') (some n') = false from q67]; rfl)).trans (if_pos ((if_neg q78).trans q117))]; first | done | rfl) ?_
                exact tail _ _
              · refine mm_iconst (v := nI 3) dM_copy_120 (by decide) ?_
                refine mm_goto (tgt := 128) dM_copy_121 (by decide) ?_
                refine mm_top (v' := .int (nI (km_cpC M k' n' a'))) (by rw [show km_cpC M k' n' a' = 3 from (if_pos (show km_may M k' n' a' = true from by unfold km_may; rw [hx, show m_st M = true from q39, show ks_in (km_S M) (some a') (some x) = true from q53, decide_eq_true q58, show ks_in (km_S M) (some a') (some n') = false from q67]; rfl)).trans (if_neg (by rw [show km_rm M k' n' = false from (if_neg q78).trans q117]; decide))]; first | done | rfl) ?_
                exact tail _ _
            · refine mm_aload_n dM_copy_81 rfl rfl ?_
              refine mm_v0 dM_copy_82 lM_102 (km_0 h m _) (by decide) (Nat.le_of_ble_eq_true rfl) (kM_freeSpot (M := s_th M 0) o.1) ?_
              refine mm_bipush (v := nI 12) dM_copy_85 (by decide) ?_
              refine mm_icmp_ge_n (tgt := 94) dM_copy_87 (by decide) (Nat.lt_of_le_of_lt (ks_slot_gd (km_S M) 0) (by decide)) (by decide) (fun q87 => ?_) (fun q87 => ?_)
              · refine mm_iconst (v := nI 0) dM_copy_94 (by decide) ?_
                refine mm_goto (tgt := 103) dM_copy_95 (by decide) ?_
                refine mm_istore dM_copy_103 (by decide) rfl ?_
                refine mm_aload_n dM_copy_105 rfl rfl ?_
                refine mm_iload dM_copy_106 rfl ?_
                refine mm_if_ne_T (tgt := 115) dM_copy_108 (by decide) (show ¬ nI 1 = 0 by decide) ?_
                refine mm_iload dM_copy_115 rfl ?_
                refine mm_if_ne_F (tgt := 124) dM_copy_117 (by decide) rfl ?_
                refine mm_iconst (v := nI 3) dM_copy_120 (by decide) ?_
                refine mm_goto (tgt := 128) dM_copy_121 (by decide) ?_
                refine mm_top (v' := .int (nI (km_cpC M k' n' a'))) (by rw [show km_cpC M k' n' a' = 3 from (if_pos (show km_may M k' n' a' = true from by unfold km_may; rw [hx, show m_st M = true from q39, show ks_in (km_S M) (some a') (some x) = true from q53, decide_eq_true q58, show ks_in (km_S M) (some a') (some n') = false from q67]; rfl)).trans (if_neg (by rw [show km_rm M k' n' = false from (if_pos q78).trans (decide_eq_false (Nat.not_lt.mpr q87))]; decide))]; first | done | rfl) ?_
                exact tail _ _
              · refine mm_iconst (v := nI 1) dM_copy_90 (by decide) ?_
                refine mm_goto (tgt := 103) dM_copy_91 (by decide) ?_
                refine mm_istore dM_copy_103 (by decide) rfl ?_
                refine mm_aload_n dM_copy_105 rfl rfl ?_
                refine mm_iload dM_copy_106 rfl ?_
                refine mm_if_ne_T (tgt := 115) dM_copy_108 (by decide) (show ¬ nI 1 = 0 by decide) ?_
                refine mm_iload dM_copy_115 rfl ?_
                refine mm_if_ne_T (tgt := 124) dM_copy_117 (by decide) (show ¬ nI 1 = 0 by decide) ?_
                refine mm_aload_n dM_copy_124 rfl rfl ?_
                refine mm_v0 dM_copy_125 lM_125 (km_0 h m _) (by decide) (Nat.le_of_ble_eq_true rfl) (kM_lateN (M := s_th M 0) hm) ?_
                refine mm_top (v' := .int (nI (km_cpC M k' n' a'))) (by rw [show km_cpC M k' n' a' = km_late M from (if_pos (show km_may M k' n' a' = true from by unfold km_may; rw [hx, show m_st M = true from q39, show ks_in (km_S M) (some a') (some x) = true from q53, decide_eq_true q58, show ks_in (km_S M) (some a') (some n') = false from q67]; rfl)).trans (if_pos ((if_pos q78).trans (decide_eq_true q87)))]; first | done | rfl) ?_
                exact tail _ _
  show mm_W Γ l mM_copy (d + 1 + 1 + 1 + 1) _ 0 [some (.ref m), some (.int k), some (.int n), some (.int a), none, none, none] [] _
  refine mm_aload_n dM_copy_0 rfl rfl ?_
  refine mm_aload_n dM_copy_1 rfl rfl ?_
  refine mm_iload_n dM_copy_2 rfl rfl ?_
  refine mm_iload_n dM_copy_3 rfl rfl ?_
  refine mm_v2 dM_copy_4 lM_115 (km_0 h m _) rfl rfl (by decide) (Nat.le_of_ble_eq_true rfl) (kM_noPart o.1 k n) ?_
  refine mm_if_ne_b (tgt := 18) dM_copy_7 (by decide) (fun q7 => ?_) (fun q7 => ?_)
  · have hp : ks_partI (km_S M) k n = false := by
      cases hq : ks_partI (km_S M) k n with
      | false => rfl
      | true => rw [hq] at q7; cases q7
    exact bad (by rw [hp]; rfl)
  · have hp : ks_partI (km_S M) k n = true := by
      cases hq : ks_partI (km_S M) k n with
      | true => rfl
      | false => rw [hq] at q7; cases q7
    refine mm_aload_n dM_copy_10 rfl rfl ?_
    refine mm_iload_n dM_copy_11 rfl rfl ?_
    refine mm_v1 dM_copy_12 lM_60 (km_0 h m _) rfl (by decide) (Nat.le_of_ble_eq_true rfl) (kM_isArea o.1 a) ?_
    refine mm_if_ne_b (tgt := 22) dM_copy_15 (by decide) (fun q15 => ?_) (fun q15 => ?_)
    · obtain ⟨k', n', x, e1, e2, g1, g2, g3⟩ := ks_hasI_true (Bool.and_eq_true_iff.mp hp).2
      obtain ⟨a', ha, ea, ka⟩ := km_har o q15
      exact good k' n' a' x e1 e2 ea (by have := of_decide_eq_true (Bool.and_eq_true_iff.mp hp).1; rcases Nat.lt_or_ge k' 2 with g | g; exact g; exact absurd (by rw [e1, show k' = 2 by omega]) this) g2 g3 ha ka (by rw [hp, q15]; rfl)
    · exact bad (by rw [hp, q15]; rfl)
end KM6
