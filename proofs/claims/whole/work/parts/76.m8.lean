/-! Contracts of the reference. Printed by wip/whole/spec/m8.py -/
section KM8
variable {Γ : mm_G} {l : Launch} {d : Nat} {h : mm_H} {m : Nat} {M : km_M}
def ke_readP (M : km_M) (a : Int32) (v : Option Value) (M' : km_M) : Prop := (ks_harI (km_S M) a = true ∧ v = some (.int (nI (ke_area (km_S M) 13 a.toNatClampNeg).length)) ∧ ke_is M' (ke_area (km_S M) 13 a.toNatClampNeg) ∧ ke_V M' = ke_V (s_th M 0)) ∨ (ks_harI (km_S M) a = false ∧ v = some (.int (nI 0)) ∧ M' = s_th M 1)
theorem kM_read (o : kt_ok (km_S M)) (hw : ke_raw (m_sh M)) (hr : ke_short (km_S M)) (a : Int32) : mm_Ev Γ l (d + 1 + 1 + 1 + 1) mM_read [.ref m, .int a] (km_set h m M) (km_D h m (ke_readP M a)) := by
  show mm_W Γ l mM_read (d + 1 + 1 + 1 + 1) _ 0 [some (.ref m), some (.int a)] [] _
  refine mm_aload_n dM_read_0 rfl rfl ?_
  refine mm_aload_n dM_read_1 rfl rfl ?_
  refine mm_iload_n dM_read_2 rfl rfl ?_
  refine mm_v1 dM_read_3 lM_60 (km_0 h m _) rfl (by decide) (Nat.le_of_ble_eq_true rfl) (kM_isArea o.1 a) ?_
  refine mm_if_eq_b (tgt := 13) dM_read_6 (by decide) (fun q6 => ?_) (fun q6 => ?_)
  · refine mm_iconst (v := nI 1) dM_read_13 (by decide) ?_
    refine mm_putf dM_read_14 fM_56 rfl rfl rfl rfl (km_0 h m _) (Nat.le_of_ble_eq_true rfl) ?_
    refine mm_eqh (ku_th h m _ 1).symm ?_
    refine mm_aload_n dM_read_17 rfl rfl ?_
    refine mm_getf dM_read_18 fM_56 (km_0 h m _) rfl ?_
    refine mm_if_eq_F (tgt := 26) dM_read_21 (by decide) (show ¬ nI 1 = 0 by decide) ?_
    refine mm_iconst (v := nI 0) dM_read_24 (by decide) ?_
    refine mm_ireturn dM_read_25 rfl ?_
    exact ⟨_, _, rfl, rfl, Or.inr ⟨q6, rfl, rfl⟩⟩
  · obtain ⟨i, hi, rfl, ht⟩ := km_har o q6
    have cl : (nI i).toNatClampNeg = i := nI_clamp (by omega)
    refine mm_iconst (v := nI 0) dM_read_9 (by decide) ?_
    refine mm_goto (tgt := 14) dM_read_10 (by decide) ?_
    refine mm_putf dM_read_14 fM_56 rfl rfl rfl rfl (km_0 h m _) (Nat.le_of_ble_eq_true rfl) ?_
    refine mm_eqh (ku_th h m _ 0).symm ?_
    refine mm_aload_n dM_read_17 rfl rfl ?_
    refine mm_getf dM_read_18 fM_56 (km_0 h m _) rfl ?_
    refine mm_if_eq_T (tgt := 26) dM_read_21 (by decide) rfl ?_
    refine mm_aload_n dM_read_26 rfl rfl ?_
    refine mm_iload_n dM_read_27 rfl rfl ?_
    refine mm_v1x dM_read_28 lM_163 (km_0 h m _) rfl (by decide) (Nat.le_of_ble_eq_true rfl) (kM_readArea (M := s_th M 0) o hw ht (hr _ ht)) ?_
    rintro v M1 ⟨rfl, g1, g2⟩
    refine mm_aload_n dM_read_31 rfl rfl ?_
    refine mm_getf dM_read_32 fM_151 (km_0 h m _) rfl ?_
    refine mm_ireturn dM_read_35 rfl ?_
    have gi := ke_is_adds g1
    exact ⟨_, M1, rfl, rfl, Or.inl ⟨q6, by rw [cl, gi.1]; rfl, by rw [cl]; exact gi, g2⟩⟩
set_option maxHeartbeats 1000000 in
theorem kM_readPart (o : kt_ok (km_S M)) (hw : ke_raw (m_sh M)) (hr : ke_short (km_S M)) {k n x : Nat} (hk : k < 2) (hn : n < ks_len k) (hx : ks_row (km_S M) k n = some x) :
    mm_Ev Γ l (d + 1 + 1 + 1 + 1) mM_readPart [.ref m, .int (nI k), .int (nI n)] (km_set h m M) (km_D h m (fun v M' => v = none ∧ ke_is M' (ke_part (km_S M) k n) ∧ ke_V M' = ke_V M)) := by
  have hl := ks_len_le k
  have loop : ∀ (D : mm_D) (L : List Nat), (∀ M' : km_M, ke_is M' L → ke_V M' = ke_V M → D (.inl none) (km_set h m M')) → ∀ (ts : List Nat) (i e : Nat) (R : Nat → Option Nat) (x5 : Option Value) (M1 : km_M) (pre : List Nat), ke_V M1 = ke_V M → m_rd M1 = i + ts.length → i + ts.length ≤ 70 → pre.length = i → ke_hasL (m_tk M1) 0 pre → ke_hasL (m_tk M1) i ts → (∀ t, t ∈ ts → ke_tok (km_S M) t) → (∀ q, q < 6 → m_rn M1 q = R q ∧ mm_lt (R q) 100) → e ≤ i → pre ++ ke_ren (km_S M) n ts R e = L → mm_W Γ l mM_readPart (d + 1 + 1 + 1 + 1) D 49 [some (.ref m), some (.int (nI k)), some (.int (nI n)), some (.int (nI e)), some (.int (nI i)), x5] [] (km_set h m M1) := by
    intro D L hD ts
    induction ts with
    | nil =>
      intro i e R x5 M1 pre hV hrd h70 hp1 hp2 ht htk hR he eL
      have eL : pre ++ [] = L := eL
      rw [List.append_nil] at eL
      subst eL
      have hrd : m_rd M1 = i := hrd
      refine mm_iload dM_readPart_49 rfl ?_
      refine mm_aload_n dM_readPart_51 rfl rfl ?_
      refine mm_getf dM_readPart_52 fM_151 (km_0 h m _) rfl ?_
      refine mm_icmp_ge_T (tgt := 139) dM_readPart_55 (by decide) (by rw [hrd]; exact nI_le (by omega) (by omega)) ?_
      refine mm_return dM_readPart_139 rfl ?_
      exact hD M1 ⟨by rw [hrd, hp1], hp2⟩ hV
    | cons t ts ih =>
      intro i e R x5 M1 pre hV hrd h70 hp1 hp2 ht htk hR he eL
      have hrd : m_rd M1 = i + (ts.length + 1) := hrd
      have h70 : i + (ts.length + 1) ≤ 70 := h70
      have esh : m_sh M1 = m_sh M := congrArg (fun z => z.2.1) hV
      have eS : km_S M1 = km_S M := congrArg kz esh
      have h0 := ke_hasL_hd ht
      have h1 := ke_hasL_tl ht
      have htk' : ∀ y, y ∈ ts → ke_tok (km_S M) y := fun y hy => htk y (List.mem_cons_of_mem _ hy)
      have fwd : ∀ (v : Nat) (x5 : Option Value) (M2 : km_M) (R2 : Nat → Option Nat) (e2 : Nat), M2 = s_tk M2 (m_tk M2) → ke_V M2 = ke_V M → m_rd M2 = m_rd M1 → (∀ q, ¬ q = i → m_tk M2 q = m_tk M1 q) → m_tk M2 i = v → (∀ q, q < 6 → m_rn M2 q = R2 q ∧ mm_lt (R2 q) 100) → e2 ≤ i + 1 → ke_ren (km_S M) n (t :: ts) R e = v :: ke_ren (km_S M) n ts R2 e2 → mm_W Γ l mM_readPart (d + 1 + 1 + 1 + 1) D 49 [some (.ref m), some (.int (nI k)), some (.int (nI n)), some (.int (nI e2)), some (.int (nI (i + 1))), x5] [] (km_set h m M2) := by
        intro v x5 M2 R2 e2 _ g1 g2 g3 g4 g5 g6 g7
        refine ih (i + 1) e2 R2 x5 M2 (pre ++ [v]) g1 (by rw [g2, hrd]; omega) (by omega) (by rw [List.length_append, hp1]; rfl) ?_ ?_ htk' g5 g6 ?_
        · exact ke_hasL_snoc (ke_hasL_eq hp2 (fun q hq => g3 _ (by omega))) (by rw [hp1, Nat.zero_add]; exact g4)
        · exact ke_hasL_eq h1 (fun q hq => g3 _ (by omega))
        · rw [List.append_assoc]
          show pre ++ (v :: ke_ren (km_S M) n ts R2 e2) = L
          rw [← g7]; exact eL
      by_cases h100 : 100 ≤ t
      · obtain ⟨q, hq6, hqt, hql⟩ : ∃ q, q < 6 ∧ t = 100 + q ∧ ¬ (km_S M).2.2.1 q = none := by
          rcases htk t List.mem_cons_self with h | h
          · exact absurd h (by omega)
          · exact h
        have tq : t - 100 = q := by omega
        obtain ⟨a0, ha0⟩ : ∃ a0, (km_S M).2.2.1 q = some a0 := by
          cases hz : (km_S M).2.2.1 q with
          | none => exact absurd hz hql
          | some a0 => exact ⟨a0, rfl⟩
        have hz : m_sh M1 (13 + q) = some a0 := by rw [esh, ← kz_l (m_sh M) hq6]; exact ha0
        have hta := o.2.1 2 q a0 (by decide) hq6 ha0
        refine mm_iload dM_readPart_49 rfl ?_
        refine mm_aload_n dM_readPart_51 rfl rfl ?_
        refine mm_getf dM_readPart_52 fM_151 (km_0 h m _) rfl ?_
        refine mm_icmp_ge_F (tgt := 139) dM_readPart_55 (by decide) (by rw [hrd]; exact nI_ge (by omega) (by omega)) ?_
        refine mm_aload_n dM_readPart_58 rfl rfl ?_
        refine mm_getf dM_readPart_59 fM_16 (km_0 h m _) rfl ?_
        refine mm_iload dM_readPart_62 rfl ?_
        refine mm_iaload dM_readPart_64 (km_tk h m _) rfl (by omega) (by decide) ?_
        refine mm_top (v' := .int (nI t)) (congrArg Value.int (by rw [h0])) ?_
        refine mm_bipush (v := nI 100) dM_readPart_65 (by decide) ?_
        refine mm_isub dM_readPart_67 ?_
        refine mm_top (v' := .int (nI q)) (congrArg Value.int (show nI t - nI 100 = nI q by rw [← tq]; exact pk_sub h100)) ?_
        refine mm_istore dM_readPart_68 (by decide) rfl ?_
        refine mm_iload dM_readPart_70 rfl ?_
        refine mm_if_lt_F (tgt := 133) dM_readPart_72 (by decide) (nI_pos (by omega)) ?_
        refine mm_aload_n dM_readPart_75 rfl rfl ?_
        refine mm_aload_n dM_readPart_76 rfl rfl ?_
        refine mm_getf dM_readPart_77 fM_7 (km_0 h m _) rfl ?_
        refine mm_bipush (v := nI 13) dM_readPart_80 (by decide) ?_
        refine mm_iload dM_readPart_82 rfl ?_
        refine mm_iadd dM_readPart_84 ?_
        refine mm_iaload dM_readPart_85 (km_sh h m _) (nI_add 13 q) (by omega) (by decide) ?_
        refine mm_top (v' := .int (nI a0)) (congrArg Value.int (by rw [hz]; rfl)) ?_
        refine mm_iload_n dM_readPart_86 rfl rfl ?_
        refine mm_v2 dM_readPart_87 lM_92 (km_0 h m _) rfl rfl (by decide) (Nat.le_of_ble_eq_true rfl) (kM_isWithin (by rw [eS]; exact o.1) (by rw [eS]; exact hta) (by omega)) ?_
        refine mm_if_eq_b (tgt := 133) dM_readPart_90 (by decide) (fun q90 => ?_) (fun q90 => ?_)
        · rw [eS] at q90
          refine mm_iinc dM_readPart_133 (by decide) rfl (mm_inc _) rfl ?_
          refine mm_goto (tgt := 49) dM_readPart_136 (by decide) ?_
          exact fwd t _ M1 R e rfl hV rfl (fun _ _ => rfl) h0 hR (by omega) (ke_ren_f (fun w => by have w := w.2; rw [tq, ha0] at w; rw [q90] at w; cases w))
        · rw [eS] at q90
          have cc : 100 ≤ t ∧ ks_in (km_S M) ((km_S M).2.2.1 (t - 100)) (some n) = true := ⟨h100, by rw [tq, ha0]; exact q90⟩
          refine mm_aload_n dM_readPart_93 rfl rfl ?_
          refine mm_getf dM_readPart_94 fM_22 (km_0 h m _) rfl ?_
          refine mm_iload dM_readPart_97 rfl ?_
          refine mm_iaload dM_readPart_99 (km_rn h m _) rfl (by omega) (by decide) ?_
          refine mm_iconst (v := -1) dM_readPart_100 (by decide) ?_
          refine mm_icmp_ne_o (tgt := 115) dM_readPart_101 (by decide) (by rw [(hR q hq6).1]; exact (hR q hq6).2.sm (by decide)) (fun q101 => ?_) (fun q101 => ?_)
          · obtain ⟨v, hv⟩ : ∃ v, R q = some v := by
              cases hv : R q with
              | none => exact absurd ((hR q hq6).1.trans hv) q101
              | some v => exact ⟨v, rfl⟩
            have hv1 := (hR q hq6).1.trans hv
            refine mm_aload_n dM_readPart_115 rfl rfl ?_
            refine mm_getf dM_readPart_116 fM_16 (km_0 h m _) rfl ?_
            refine mm_iload dM_readPart_119 rfl ?_
            refine mm_sipush (v := nI 200) dM_readPart_121 (by decide) ?_
            refine mm_aload_n dM_readPart_124 rfl rfl ?_
            refine mm_getf dM_readPart_125 fM_22 (km_0 h m _) rfl ?_
            refine mm_iload dM_readPart_128 rfl ?_
            refine mm_iaload dM_readPart_130 (km_rn h m _) rfl (by omega) (by decide) ?_
            refine mm_top (v' := .int (nI v)) (congrArg Value.int (by rw [hv1]; rfl)) ?_
            refine mm_iadd dM_readPart_131 ?_
            refine mm_top (v' := .int (nI (200 + v))) (congrArg Value.int (nI_add 200 _)) ?_
            refine mm_iastore dM_readPart_132 (km_tk h m _) rfl (by omega) (by decide) ?_
            refine mm_eqh (kv_tk h m _ _ (200 + v)).symm ?_
            refine mm_iinc dM_readPart_133 (by decide) rfl (mm_inc _) rfl ?_
            refine mm_goto (tgt := 49) dM_readPart_136 (by decide) ?_
            exact fwd (200 + v) _ (s_tk M1 (ks_un (m_tk M1) i (200 + v))) R e rfl hV rfl (fun p hp => if_neg hp) (if_pos rfl) hR (by omega) (ke_ren_s cc (by rw [tq]; exact hv))
          · rw [(hR q hq6).1] at q101
            refine mm_aload_n dM_readPart_104 rfl rfl ?_
            refine mm_getf dM_readPart_105 fM_22 (km_0 h m _) rfl ?_
            refine mm_iload dM_readPart_108 rfl ?_
            refine mm_iload_n dM_readPart_110 rfl rfl ?_
            refine mm_iastore dM_readPart_111 (km_rn h m _) rfl (by omega) (by decide) ?_
            refine mm_eqh (kv_rn h m _ _ (some e)).symm ?_
            refine mm_iinc dM_readPart_112 (by decide) rfl (mm_inc _) rfl ?_
            refine mm_aload_n dM_readPart_115 rfl rfl ?_
            refine mm_getf dM_readPart_116 fM_16 (km_0 h m _) rfl ?_
            refine mm_iload dM_readPart_119 rfl ?_
            refine mm_sipush (v := nI 200) dM_readPart_121 (by decide) ?_
            refine mm_aload_n dM_readPart_124 rfl rfl ?_
            refine mm_getf dM_readPart_125 fM_22 (km_0 h m _) rfl ?_
            refine mm_iload dM_readPart_128 rfl ?_
            refine mm_iaload dM_readPart_130 (km_rn h m _) rfl (by omega) (by decide) ?_
            refine mm_top (v' := .int (nI e)) (congrArg Value.int (show mm_enc (ks_u (m_rn M1) q (some e) q) = nI e by rw [show ks_u (m_rn M1) q (some e) q = some e from if_pos rfl]; rfl)) ?_
            refine mm_iadd dM_readPart_131 ?_
            refine mm_top (v' := .int (nI (200 + e))) (congrArg Value.int (nI_add 200 _)) ?_
            refine mm_iastore dM_readPart_132 (km_tk h m _) rfl (by omega) (by decide) ?_
            refine mm_eqh (kv_tk h m _ _ (200 + e)).symm ?_
            refine mm_iinc dM_readPart_133 (by decide) rfl (mm_inc _) rfl ?_
            refine mm_goto (tgt := 49) dM_readPart_136 (by decide) ?_
            refine fwd (200 + e) _ (s_tk (s_rn M1 (ks_u (m_rn M1) q (some e))) (ks_un (m_tk M1) i (200 + e))) (ks_u R q (some e)) (e + 1) rfl hV rfl (fun p hp => if_neg hp) (if_pos rfl) (fun p hp => ?_) (by omega) (by have := ke_ren_n (ts := ts) (rn := R) (n := e) cc (by rw [tq]; exact q101); rw [tq] at this; exact this)
            show ks_u (m_rn M1) q (some e) p = ks_u R q (some e) p ∧ _
            unfold ks_u
            by_cases hpq : p = q
            · rw [if_pos hpq, if_pos hpq]; exact ⟨rfl, mm_lt_some (by omega)⟩
            · rw [if_neg hpq, if_neg hpq]; exact hR p hp
      · have hng : nI t - nI 100 < 0 := ke_lt100 (by omega)
        refine mm_iload dM_readPart_49 rfl ?_
        refine mm_aload_n dM_readPart_51 rfl rfl ?_
        refine mm_getf dM_readPart_52 fM_151 (km_0 h m _) rfl ?_
        refine mm_icmp_ge_F (tgt := 139) dM_readPart_55 (by decide) (by rw [hrd]; exact nI_ge (by omega) (by omega)) ?_
        refine mm_aload_n dM_readPart_58 rfl rfl ?_
        refine mm_getf dM_readPart_59 fM_16 (km_0 h m _) rfl ?_
        refine mm_iload dM_readPart_62 rfl ?_
        refine mm_iaload dM_readPart_64 (km_tk h m _) rfl (by omega) (by decide) ?_
        refine mm_top (v' := .int (nI t)) (congrArg Value.int (by rw [h0])) ?_
        refine mm_bipush (v := nI 100) dM_readPart_65 (by decide) ?_
        refine mm_isub dM_readPart_67 ?_
        refine mm_istore dM_readPart_68 (by decide) rfl ?_
        refine mm_iload dM_readPart_70 rfl ?_
        refine mm_if_lt_T (tgt := 133) dM_readPart_72 (by decide) hng ?_
        refine mm_iinc dM_readPart_133 (by decide) rfl (mm_inc _) rfl ?_
        refine mm_goto (tgt := 49) dM_readPart_136 (by decide) ?_
        exact fwd t _ M1 R e rfl hV rfl (fun _ _ => rfl) h0 hR (by omega) (ke_ren_f (fun w => h100 w.1))
  have rn : ∀ (D : mm_D) (M1 : km_M) (x5 : Option Value), (∀ M2 : km_M, ke_V M2 = ke_V M1 → m_rd M2 = m_rd M1 → m_tk M2 = m_tk M1 → (∀ q, q < 6 → m_rn M2 q = none) → mm_W Γ l mM_readPart (d + 1 + 1 + 1 + 1) D 46 [some (.ref m), some (.int (nI k)), some (.int (nI n)), some (.int (nI 0)), some (.int (nI 6)), x5] [] (km_set h m M2)) → ∀ (j i : Nat), i + j = 6 → mm_W Γ l mM_readPart (d + 1 + 1 + 1 + 1) D 25 [some (.ref m), some (.int (nI k)), some (.int (nI n)), some (.int (nI 0)), some (.int (nI i)), x5] [] (km_set h m (s_rn M1 (kd_nl0 (m_rn M1) i))) := by
    intro D M1 x5 cont j
    induction j with
    | zero =>
      intro i hi
      have hi : i = 6 := by omega
      subst hi
      refine mm_iload dM_readPart_25 rfl ?_
      refine mm_bipush (v := nI 6) dM_readPart_27 (by decide) ?_
      refine mm_icmp_ge_T (tgt := 46) dM_readPart_29 (by decide) (nI_le (by omega) (by omega)) ?_
      exact cont _ rfl rfl rfl (fun q hq => if_pos hq)
    | succ j ih =>
      intro i hi
      refine mm_iload dM_readPart_25 rfl ?_
      refine mm_bipush (v := nI 6) dM_readPart_27 (by decide) ?_
      refine mm_icmp_ge_F (tgt := 46) dM_readPart_29 (by decide) (nI_ge (by omega) (by omega)) ?_
      refine mm_aload_n dM_readPart_32 rfl rfl ?_
      refine mm_getf dM_readPart_33 fM_22 (km_0 h m _) rfl ?_
      refine mm_iload dM_readPart_36 rfl ?_
      refine mm_iconst (v := -1) dM_readPart_38 (by decide) ?_
      refine mm_iastore dM_readPart_39 (km_rn h m _) rfl (by omega) (by decide) ?_
      refine mm_eqh (kv_rn h m _ _ none).symm ?_
      refine mm_iinc dM_readPart_40 (by decide) rfl (mm_inc _) rfl ?_
      refine mm_goto (tgt := 25) dM_readPart_43 (by decide) ?_
      refine mm_eqh (congrArg (fun z => km_set h m (s_rn M1 z)) (kd_nl0_u (m_rn M1) i)).symm ?_
      exact ih (i + 1) (by omega)
  show mm_W Γ l mM_readPart (d + 1 + 1 + 1 + 1) _ 0 [some (.ref m), some (.int (nI k)), some (.int (nI n)), none, none, none] [] _
  refine mm_iload_n dM_readPart_0 rfl rfl ?_
  refine mm_if_ne_n (tgt := 15) dM_readPart_1 (by decide) (by omega) (fun q1 => ?_) (fun q1 => ?_)
  · have k1 : k = 1 := by omega
    subst k1
    have hn13 : n < 13 := hn
    have hx : (km_S M).2.1 n = some x := hx
    have hti := o.2.2 n hn13 (Or.inr (by rw [hx]; exact fun w => nomatch w))
    refine mm_aload_n dM_readPart_15 rfl rfl ?_
    refine mm_iload_n dM_readPart_16 rfl rfl ?_
    refine mm_v1x dM_readPart_17 lM_163 (km_0 h m _) rfl (by decide) (Nat.le_of_ble_eq_true rfl) (kM_readArea o hw hti (hr _ hti)) ?_
    rintro v M1 ⟨rfl, g1, g2⟩
    have gi := ke_is_adds g1
    refine mm_iconst (v := nI 0) dM_readPart_20 (by decide) ?_
    refine mm_istore_n dM_readPart_21 rfl (by decide) rfl ?_
    refine mm_iconst (v := nI 0) dM_readPart_22 (by decide) ?_
    refine mm_istore dM_readPart_23 (by decide) rfl ?_
    refine mm_eqh (congrArg (fun z => km_set h m (s_rn M1 z)) (kd_nl0_0 (m_rn M1)).symm) ?_
    refine rn _ M1 _ (fun M2 e1 e2 e3 e4 => ?_) 6 0 rfl
    have hs := hr _ hti
    refine mm_iconst (v := nI 0) dM_readPart_46 (by decide) ?_
    refine mm_istore dM_readPart_47 (by decide) rfl ?_
    exact loop _ (ke_part (km_S M) 1 n) (fun M' a b => ⟨_, M', rfl, rfl, rfl, a, b⟩) (ke_area (km_S M) 13 n) 0 0 (fun _ => none) _ M2 [] (e1.trans g2) (by rw [e2, gi.1]; omega) (by omega) rfl (ke_hasL_nil _ _) (by rw [e3]; exact gi.2) (ke_tok_area hw 13 n) (fun q hq => ⟨e4 q hq, mm_lt_none⟩) (Nat.le_refl _) rfl
  · subst q1
    have hn12 : n < 12 := hn
    have hx : (km_S M).1 n = some x := hx
    obtain ⟨g, hg4, hg, hh⟩ := hw n hn12 (by rw [← kz_s (m_sh M) hn12]; show ¬ (km_S M).1 n = none; rw [hx]; exact fun w => nomatch w)
    have l3 := ke_sp_len o.1 hn12
    refine mm_aload_n dM_readPart_4 rfl rfl ?_
    refine mm_iconst (v := nI 0) dM_readPart_5 (by decide) ?_
    refine mm_putf dM_readPart_6 fM_151 rfl rfl rfl rfl (km_0 h m _) (Nat.le_of_ble_eq_true rfl) ?_
    refine mm_eqh (ku_rd h m _ 0).symm ?_
    refine mm_aload_n dM_readPart_9 rfl rfl ?_
    refine mm_iload_n dM_readPart_10 rfl rfl ?_
    refine mm_v1 dM_readPart_11 lM_157 (km_0 h m _) rfl (by decide) (Nat.le_of_ble_eq_true rfl) (kM_readSpot (M := s_rd M 0) hn12 hg4 hg hh (by show 0 + (ke_sp (km_S M) n).length ≤ 70; omega)) ?_
    refine mm_return dM_readPart_14 rfl ?_
    exact ⟨_, _, rfl, rfl, rfl, ke_is_adds (M := M) rfl, rfl⟩
theorem kM_isAlike (o : kt_ok (km_S M)) (hw : ke_raw (m_sh M)) (hr : ke_short (km_S M)) {k n x : Nat} (hk : k < 2) (hn : n < ks_len k) (hx : ks_row (km_S M) k n = some x) {O : List Nat} (hO : ke_isO M O) (hO1 : ∀ t, t ∈ O → t < 1000) (hO2 : O.length ≤ 70) :
    mm_Ev Γ l (d + 1 + 1 + 1 + 1 + 1) mM_isAlike [.ref m, .int (nI k), .int (nI n)] (km_set h m M) (km_D h m (fun v M' => v = some (.int (mm_bI (decide (ke_part (km_S M) k n = O)))) ∧ ke_V M' = ke_V M)) := by
  have hp := ke_part_lt o.1 hw (fun a h1 h2 => hr a (o.2.2 a h2 h1)) hk hn (fun h1 => by subst h1; have hx : (km_S M).2.1 n = some x := hx; show ¬ (km_S M).2.1 n = none; rw [hx]; exact fun w => nomatch w)
  obtain ⟨hq1, hq2⟩ := hp
  obtain ⟨L, eL⟩ : ∃ L, L = ke_part (km_S M) k n := ⟨_, rfl⟩
  have hp1 : ∀ t, t ∈ L → t < 1000 := by rw [eL]; exact hq1
  have hp2 : L.length ≤ 70 := by rw [eL]; exact hq2
  rw [← eL]
  have out : ∀ (D : mm_D) (M1 : km_M) (i : Nat), m_rd M1 ≤ 70 → i ≤ 71 → D (.inl (some (.int (nI 0)))) (km_set h m M1) → mm_W Γ l mM_isAlike (d + 1 + 1 + 1 + 1 + 1) D 26 [some (.ref m), some (.int (nI k)), some (.int (nI n)), some (.int (nI 0)), some (.int (nI i))] [] (km_set h m M1) := by
    intro D M1 i h1 h2 hD
    refine mm_iload dM_isAlike_26 rfl ?_
    refine mm_aload_n dM_isAlike_28 rfl rfl ?_
    refine mm_getf dM_isAlike_29 fM_151 (km_0 h m _) rfl ?_
    refine mm_icmp_ge_n (tgt := 68) dM_isAlike_32 (by decide) (by omega) (by omega) (fun q32 => ?_) (fun q32 => ?_)
    · refine mm_iload_n dM_isAlike_68 rfl rfl ?_
      refine mm_zreturn dM_isAlike_69 rfl rfl ?_
      exact hD
    · refine mm_iload_n dM_isAlike_35 rfl rfl ?_
      refine mm_if_eq_T (tgt := 68) dM_isAlike_36 (by decide) rfl ?_
      refine mm_iload_n dM_isAlike_68 rfl rfl ?_
      refine mm_zreturn dM_isAlike_69 rfl rfl ?_
      exact hD
  have loop : ∀ (D : mm_D) (M1 : km_M), ke_is M1 L → ke_isO M1 O → L.length = O.length → D (.inl (some (.int (mm_bI (decide (L = O)))))) (km_set h m M1) → ∀ (j i : Nat), i + j = L.length → (∀ q, q < i → L[q]? = O[q]?) → mm_W Γ l mM_isAlike (d + 1 + 1 + 1 + 1 + 1) D 26 [some (.ref m), some (.int (nI k)), some (.int (nI n)), some (.int (nI 1)), some (.int (nI i))] [] (km_set h m M1) := by
    intro D M1 h1 h2 h3 hD j
    induction j with
    | zero =>
      intro i hi he
      have e : L = O := ke_ext h3 (fun q hq => he q (by omega))
      rw [decide_eq_true e] at hD
      refine mm_iload dM_isAlike_26 rfl ?_
      refine mm_aload_n dM_isAlike_28 rfl rfl ?_
      refine mm_getf dM_isAlike_29 fM_151 (km_0 h m _) rfl ?_
      refine mm_icmp_ge_T (tgt := 68) dM_isAlike_32 (by decide) (by rw [h1.1]; exact nI_le (by omega) (by omega)) ?_
      refine mm_iload_n dM_isAlike_68 rfl rfl ?_
      refine mm_zreturn dM_isAlike_69 rfl rfl ?_
      exact hD
    | succ j ih =>
      intro i hi he
      obtain ⟨t, ht, htm⟩ := ke_get (L := L) (p := i) (by omega)
      obtain ⟨u, hu, hum⟩ := ke_get (L := O) (p := i) (by omega)
      have et := h1.2 i t ht
      have eu := h2.2 i u hu
      rw [Nat.zero_add] at et eu
      have lt := hp1 t htm
      have lu := hO1 u hum
      refine mm_iload dM_isAlike_26 rfl ?_
      refine mm_aload_n dM_isAlike_28 rfl rfl ?_
      refine mm_getf dM_isAlike_29 fM_151 (km_0 h m _) rfl ?_
      refine mm_icmp_ge_F (tgt := 68) dM_isAlike_32 (by decide) (by rw [h1.1]; exact nI_ge (by omega) (by omega)) ?_
      refine mm_iload_n dM_isAlike_35 rfl rfl ?_
      refine mm_if_eq_F (tgt := 68) dM_isAlike_36 (by decide) (show ¬ nI 1 = 0 by decide) ?_
      refine mm_aload_n dM_isAlike_39 rfl rfl ?_
      refine mm_getf dM_isAlike_40 fM_16 (km_0 h m _) rfl ?_
      refine mm_iload dM_isAlike_43 rfl ?_
      refine mm_iaload dM_isAlike_45 (km_tk h m _) rfl (by omega) (by decide) ?_
      refine mm_aload_n dM_isAlike_46 rfl rfl ?_
      refine mm_getf dM_isAlike_47 fM_19 (km_0 h m _) rfl ?_
      refine mm_iload dM_isAlike_50 rfl ?_
      refine mm_iaload dM_isAlike_52 (km_ot h m _) rfl (by omega) (by decide) ?_
      refine mm_icmp_ne_n (tgt := 60) dM_isAlike_53 (by decide) (by rw [et]; omega) (by rw [eu]; omega) (fun q53 => ?_) (fun q53 => ?_)
      · rw [et, eu] at q53
        have ne : ¬ L = O := fun w => by rw [w, hu] at ht; exact q53 (Option.some.inj ht).symm
        rw [decide_eq_false ne] at hD
        refine mm_iconst (v := nI 0) dM_isAlike_60 (by decide) ?_
        refine mm_istore_n dM_isAlike_61 rfl (by decide) rfl ?_
        refine mm_iinc dM_isAlike_62 (by decide) rfl (mm_inc _) rfl ?_
        refine mm_goto (tgt := 26) dM_isAlike_65 (by decide) ?_
        exact out D M1 (i + 1) (by rw [h1.1]; exact hp2) (by omega) hD
      · rw [et, eu] at q53
        refine mm_iconst (v := nI 1) dM_isAlike_56 (by decide) ?_
        refine mm_goto (tgt := 61) dM_isAlike_57 (by decide) ?_
        refine mm_istore_n dM_isAlike_61 rfl (by decide) rfl ?_
        refine mm_iinc dM_isAlike_62 (by decide) rfl (mm_inc _) rfl ?_
        refine mm_goto (tgt := 26) dM_isAlike_65 (by decide) ?_
        exact ih (i + 1) (by omega) (fun p hp => by
          by_cases hpi : p = i
          · rw [hpi, ht, hu, q53]
          · exact he p (by omega))
  show mm_W Γ l mM_isAlike (d + 1 + 1 + 1 + 1 + 1) _ 0 [some (.ref m), some (.int (nI k)), some (.int (nI n)), none, none] [] _
  refine mm_aload_n dM_isAlike_0 rfl rfl ?_
  refine mm_iload_n dM_isAlike_1 rfl rfl ?_
  refine mm_iload_n dM_isAlike_2 rfl rfl ?_
  refine mm_v2x dM_isAlike_3 lM_166 (km_0 h m _) rfl rfl (by decide) (Nat.le_of_ble_eq_true rfl) (kM_readPart o hw hr hk hn hx) ?_
  rintro v M1 ⟨rfl, g1, g2⟩
  rw [← eL] at g1
  have g3 : ke_isO M1 O := ⟨(congrArg (fun z => z.1.2.2.2) g2).trans hO.1, by rw [show m_ot M1 = m_ot M from congrArg (fun z => z.2.2.2.1) g2]; exact hO.2⟩
  refine mm_aload_n dM_isAlike_6 rfl rfl ?_
  refine mm_getf dM_isAlike_7 fM_151 (km_0 h m _) rfl ?_
  refine mm_aload_n dM_isAlike_10 rfl rfl ?_
  refine mm_getf dM_isAlike_11 fM_169 (km_0 h m _) rfl ?_
  refine mm_icmp_ne_n (tgt := 21) dM_isAlike_14 (by decide) (by rw [g1.1]; omega) (by rw [g3.1]; omega) (fun q14 => ?_) (fun q14 => ?_)
  · rw [g1.1, g3.1] at q14
    refine mm_iconst (v := nI 0) dM_isAlike_21 (by decide) ?_
    refine mm_istore_n dM_isAlike_22 rfl (by decide) rfl ?_
    refine mm_iconst (v := nI 0) dM_isAlike_23 (by decide) ?_
    refine mm_istore dM_isAlike_24 (by decide) rfl ?_
    exact out _ M1 0 (by rw [g1.1]; exact hp2) (by decide) ⟨_, M1, rfl, rfl, by rw [decide_eq_false (fun w => q14 (congrArg List.length w))]; rfl, g2⟩
  · rw [g1.1, g3.1] at q14
    refine mm_iconst (v := nI 1) dM_isAlike_17 (by decide) ?_
    refine mm_goto (tgt := 22) dM_isAlike_18 (by decide) ?_
    refine mm_istore_n dM_isAlike_22 rfl (by decide) rfl ?_
    refine mm_iconst (v := nI 0) dM_isAlike_23 (by decide) ?_
    refine mm_istore dM_isAlike_24 (by decide) rfl ?_
    exact loop _ M1 g1 g3 q14 ⟨_, M1, rfl, rfl, rfl, g2⟩ L.length 0 (Nat.zero_add _) (fun q hq => absurd hq (by omega))
theorem ke_any_c {p : Nat → Bool} {i j : Nat} : ks_any p i (j + 1) = (p i || ks_any p (i + 1) j) := by
  show (if p i = true then true else ks_any p (i + 1) j) = _
  cases p i <;> rfl
set_option maxHeartbeats 1000000 in
theorem kM_hasOther (o : kt_ok (km_S M)) (hw : ke_raw (m_sh M)) (hr : ke_short (km_S M)) {k n x : Nat} (hk : k < 2) (hn : n < ks_len k) (hx : ks_row (km_S M) k n = some x) :
    mm_Ev Γ l (d + 1 + 1 + 1 + 1 + 1 + 1) mM_hasOther [.ref m, .int (nI k), .int (nI n)] (km_set h m M) (km_D h m (fun v M' => v = some (.int (mm_bI (ke_other (km_S M) k n))) ∧ ke_W M' = ke_W M)) := by
  have hl := ks_len_le k
  have hp := ke_part_lt o.1 hw (fun a h1 h2 => hr a (o.2.2 a h2 h1)) hk hn (fun h1 => by subst h1; have hx : (km_S M).2.1 n = some x := hx; show ¬ (km_S M).2.1 n = none; rw [hx]; exact fun w => nomatch w)
  obtain ⟨hq1, hq2⟩ := hp
  obtain ⟨L, eL⟩ : ∃ L, L = ke_part (km_S M) k n := ⟨_, rfl⟩
  have hp1 : ∀ t, t ∈ L → t < 1000 := by rw [eL]; exact hq1
  have hp2 : L.length ≤ 70 := by rw [eL]; exact hq2
  have hxk := o.2.1 k n x (by omega) hn hx
  have ea : ks_areaI (km_S M) (nI k) (nI n) = some x := ks_areaI_t (by omega) hn hx
  obtain ⟨p, ep⟩ : ∃ p, p = fun i => kc_may (km_S M) k n i (ks_areaI (km_S M) (nI k) (nI n)) && decide (ke_part (km_S M) k i = ke_part (km_S M) k n) := ⟨_, rfl⟩
  have eo : ke_other (km_S M) k n = ks_any p k 12 := by rw [ep]; rfl
  rw [eo]
  have loop : ∀ (D : mm_D) (B : Bool), (∀ M' : km_M, ke_W M' = ke_W M → D (.inl (some (.int (mm_bI B)))) (km_set h m M')) → ∀ (j i : Nat) (b : Bool) (x6 : Option Value) (M1 : km_M), i + j = k + 12 → k ≤ i → ke_W M1 = ke_W M → ke_isO M1 L → (b || ks_any p i j) = B → mm_W Γ l mM_hasOther (d + 1 + 1 + 1 + 1 + 1 + 1) D 55 [some (.ref m), some (.int (nI k)), some (.int (nI n)), some (.int (nI x)), some (.int (mm_bI b)), some (.int (nI i)), x6] [] (km_set h m M1) := by
    intro D B hD j
    induction j with
    | zero =>
      intro i b x6 M1 hi hki hW hO eB
      have eB : (b || false) = B := eB
      rw [Bool.or_false] at eB
      subst eB
      refine mm_iload dM_hasOther_55 rfl ?_
      refine mm_iload_n dM_hasOther_57 rfl rfl ?_
      refine mm_if_ne_n (tgt := 66) dM_hasOther_58 (by decide) (by omega) (fun q58 => ?_) (fun q58 => ?_)
      · have k1 : k = 1 := by omega
        subst k1
        refine mm_bipush (v := nI 13) dM_hasOther_66 (by decide) ?_
        refine mm_icmp_ge_T (tgt := 146) dM_hasOther_68 (by decide) (nI_le (by omega) (by omega)) ?_
        refine mm_iload dM_hasOther_146 rfl ?_
        refine mm_zreturn dM_hasOther_148 rfl (by cases b <;> rfl) ?_
        exact hD M1 hW
      · subst q58
        refine mm_bipush (v := nI 12) dM_hasOther_61 (by decide) ?_
        refine mm_goto (tgt := 68) dM_hasOther_63 (by decide) ?_
        refine mm_icmp_ge_T (tgt := 146) dM_hasOther_68 (by decide) (nI_le (by omega) (by omega)) ?_
        refine mm_iload dM_hasOther_146 rfl ?_
        refine mm_zreturn dM_hasOther_148 rfl (by cases b <;> rfl) ?_
        exact hD M1 hW
    | succ j ih =>
      intro i b x6 M1 hi hki hW hO eB
      have esh : m_sh M1 = m_sh M := congrArg (fun z => z.2.1) hW
      have eS : km_S M1 = km_S M := congrArg kz esh
      have o1 : kt_ok (km_S M1) := by rw [eS]; exact o
      rw [ke_any_c] at eB
      have ns : ks_hasI (km_S M1) (nI k) (nI i) = false → p i = false := fun w => by
        rw [ep]
        show (decide (¬ i = n) && ((decide (¬ nI k = nI 2) && ks_hasI (km_S M) (nI k) (nI i)) && _) && _) = false
        rw [← eS, w, Bool.and_false, Bool.false_and, Bool.and_false, Bool.false_and]
      have is : ks_hasI (km_S M1) (nI k) (nI i) = true → ∃ y, i < ks_len k ∧ ks_row (km_S M) k i = some y := fun w => by
        obtain ⟨i2, y, h1, h2, h3⟩ := ks_hasI_k (by omega) w
        have h2 := (nI_eq (by omega) (by omega)).mp h2
        subst h2
        rw [eS] at h3
        exact ⟨y, h1, h3⟩
      have pe : ∀ y, ks_hasI (km_S M1) (nI k) (nI i) = true → i < ks_len k → ks_row (km_S M) k i = some y → p i = (decide (¬ i = n) && (ks_in (km_S M) (some x) (some y) && decide (ke_part (km_S M) k i = ke_part (km_S M) k n))) := fun y w1 w2 w3 => by
        rw [ep]
        show (decide (¬ i = n) && ((decide (¬ nI k = nI 2) && ks_hasI (km_S M) (nI k) (nI i)) && ks_in (km_S M) (ks_areaI (km_S M) (nI k) (nI n)) (ks_areaI (km_S M) (nI k) (nI i))) && decide (ke_part (km_S M) k i = ke_part (km_S M) k n)) = _
        rw [ea, ks_areaI_t (by omega) w2 w3, ← eS, w1, decide_eq_true (show ¬ nI k = nI 2 from fun w => by have := (nI_eq (by omega) (by omega)).mp w; omega), Bool.true_and, Bool.true_and, Bool.and_assoc]
      have fwd : ∀ (b2 : Bool) (x6 : Option Value) (M2 : km_M), ke_W M2 = ke_W M → ke_isO M2 L → b2 = (b || p i) → mm_W Γ l mM_hasOther (d + 1 + 1 + 1 + 1 + 1 + 1) D 55 [some (.ref m), some (.int (nI k)), some (.int (nI n)), some (.int (nI x)), some (.int (mm_bI b2)), some (.int (nI (i + 1))), x6] [] (km_set h m M2) := by
        intro b2 x6 M2 g1 g2 g3
        refine ih (i + 1) b2 x6 M2 (by omega) (by omega) g1 g2 ?_
        rw [g3, Bool.or_assoc]; exact eB
      refine mm_iload dM_hasOther_55 rfl ?_
      refine mm_iload_n dM_hasOther_57 rfl rfl ?_
      refine mm_if_ne_n (tgt := 66) dM_hasOther_58 (by decide) (by omega) (fun q58 => ?_) (fun q58 => ?_)
      · have k1 : k = 1 := by omega
        subst k1
        refine mm_bipush (v := nI 13) dM_hasOther_66 (by decide) ?_
        refine mm_icmp_ge_F (tgt := 146) dM_hasOther_68 (by decide) (nI_ge (by omega) (by omega)) ?_
        refine mm_iload_n dM_hasOther_71 rfl rfl ?_
        refine mm_if_ne_T (tgt := 84) dM_hasOther_72 (by decide) (show ¬ nI 1 = 0 by decide) ?_
        refine mm_aload_n dM_hasOther_84 rfl rfl ?_
        refine mm_iload dM_hasOther_85 rfl ?_
        refine mm_v1 dM_hasOther_87 lM_112 (km_0 h m _) rfl (by decide) (Nat.le_of_ble_eq_true rfl) (kM_isCut o1.1 (nI i)) ?_
        refine mm_istore dM_hasOther_90 (by decide) rfl ?_
        refine mm_iload dM_hasOther_92 rfl ?_
        refine mm_if_ne_b (tgt := 133) dM_hasOther_94 (by decide) (fun q94 => ?_) (fun q94 => ?_)
        · refine mm_iconst (v := nI 1) dM_hasOther_133 (by decide) ?_
          refine mm_goto (tgt := 138) dM_hasOther_134 (by decide) ?_
          refine mm_istore dM_hasOther_138 (by decide) rfl ?_
          refine mm_iinc dM_hasOther_140 (by decide) rfl (mm_inc _) rfl ?_
          refine mm_goto (tgt := 55) dM_hasOther_143 (by decide) ?_
          exact fwd true _ M1 hW hO (by rw [q94]; rfl)
        · refine mm_iload dM_hasOther_97 rfl ?_
          refine mm_if_eq_b (tgt := 137) dM_hasOther_99 (by decide) (fun q99 => ?_) (fun q99 => ?_)
          · refine mm_iconst (v := nI 0) dM_hasOther_137 (by decide) ?_
            refine mm_istore dM_hasOther_138 (by decide) rfl ?_
            refine mm_iinc dM_hasOther_140 (by decide) rfl (mm_inc _) rfl ?_
            refine mm_goto (tgt := 55) dM_hasOther_143 (by decide) ?_
            exact fwd false _ M1 hW hO (by rw [q94, ns q99]; rfl)
          · obtain ⟨y, hy1, hy2⟩ := is q99
            have hyk := o.2.1 _ i y (by decide) hy1 hy2
            refine mm_iload dM_hasOther_102 rfl ?_
            refine mm_iload_n dM_hasOther_104 rfl rfl ?_
            refine mm_icmp_eq_n (tgt := 137) dM_hasOther_105 (by decide) (by omega) (by omega) (fun q105 => ?_) (fun q105 => ?_)
            · refine mm_iconst (v := nI 0) dM_hasOther_137 (by decide) ?_
              refine mm_istore dM_hasOther_138 (by decide) rfl ?_
              refine mm_iinc dM_hasOther_140 (by decide) rfl (mm_inc _) rfl ?_
              refine mm_goto (tgt := 55) dM_hasOther_143 (by decide) ?_
              exact fwd false _ M1 hW hO (by rw [q94, pe y q99 hy1 hy2, decide_eq_false (fun w => w q105)]; rfl)
            · refine mm_aload_n dM_hasOther_108 rfl rfl ?_
              refine mm_iload_n dM_hasOther_109 rfl rfl ?_
              refine mm_aload_n dM_hasOther_110 rfl rfl ?_
              refine mm_iload_n dM_hasOther_111 rfl rfl ?_
              refine mm_iload dM_hasOther_112 rfl ?_
              refine mm_v2 dM_hasOther_114 lM_118 (km_0 h m _) rfl rfl (by decide) (Nat.le_of_ble_eq_true rfl) (kM_areaOf (by decide) hy1) ?_
              refine mm_top (v' := .int (nI y)) (congrArg Value.int (by rw [eS, hy2]; rfl)) ?_
              refine mm_v2 dM_hasOther_117 lM_92 (km_0 h m _) rfl rfl (by decide) (Nat.le_of_ble_eq_true rfl) (kM_isWithin o1.1 (by rw [eS]; exact hxk) (by have := hyk.1; omega)) ?_
              refine mm_if_eq_b (tgt := 137) dM_hasOther_120 (by decide) (fun q120 => ?_) (fun q120 => ?_)
              · refine mm_iconst (v := nI 0) dM_hasOther_137 (by decide) ?_
                refine mm_istore dM_hasOther_138 (by decide) rfl ?_
                refine mm_iinc dM_hasOther_140 (by decide) rfl (mm_inc _) rfl ?_
                refine mm_goto (tgt := 55) dM_hasOther_143 (by decide) ?_
                exact fwd false _ M1 hW hO (by rw [q94, pe y q99 hy1 hy2, ← eS, q120, Bool.false_and, Bool.and_false]; rfl)
              · refine mm_aload_n dM_hasOther_123 rfl rfl ?_
                refine mm_iload_n dM_hasOther_124 rfl rfl ?_
                refine mm_iload dM_hasOther_125 rfl ?_
                refine mm_v2x dM_hasOther_127 lM_172 (km_0 h m _) rfl rfl (by decide) (Nat.le_of_ble_eq_true rfl) (kM_isAlike (M := M1) o1 (by rw [esh]; exact hw) (by rw [eS]; exact hr) hk hy1 (by rw [eS]; exact hy2) hO hp1 hp2) ?_
                rintro v M2 ⟨rfl, g2⟩
                have hW2 : ke_W M2 = ke_W M := (ke_W_of g2).trans hW
                have hO2 : ke_isO M2 L := ⟨(congrArg (fun z => z.1.2.2.2) g2).trans hO.1, by rw [show m_ot M2 = m_ot M1 from congrArg (fun z => z.2.2.2.1) g2]; exact hO.2⟩
                refine mm_if_eq_b (tgt := 137) dM_hasOther_130 (by decide) (fun q130 => ?_) (fun q130 => ?_)
                · refine mm_iconst (v := nI 0) dM_hasOther_137 (by decide) ?_
                  refine mm_istore dM_hasOther_138 (by decide) rfl ?_
                  refine mm_iinc dM_hasOther_140 (by decide) rfl (mm_inc _) rfl ?_
                  refine mm_goto (tgt := 55) dM_hasOther_143 (by decide) ?_
                  exact fwd false _ M2 hW2 hO2 (by rw [q94, pe y q99 hy1 hy2, ← eL, ← eS, q130, Bool.and_false, Bool.and_false]; rfl)
                · refine mm_iconst (v := nI 1) dM_hasOther_133 (by decide) ?_
                  refine mm_goto (tgt := 138) dM_hasOther_134 (by decide) ?_
                  refine mm_istore dM_hasOther_138 (by decide) rfl ?_
                  refine mm_iinc dM_hasOther_140 (by decide) rfl (mm_inc _) rfl ?_
                  refine mm_goto (tgt := 55) dM_hasOther_143 (by decide) ?_
                  exact fwd true _ M2 hW2 hO2 (by rw [q94, pe y q99 hy1 hy2, ← eL, ← eS, q130, q120, decide_eq_true q105]; rfl)
      · subst q58
        refine mm_bipush (v := nI 12) dM_hasOther_61 (by decide) ?_
        refine mm_goto (tgt := 68) dM_hasOther_63 (by decide) ?_
        refine mm_icmp_ge_F (tgt := 146) dM_hasOther_68 (by decide) (nI_ge (by omega) (by omega)) ?_
        refine mm_iload_n dM_hasOther_71 rfl rfl ?_
        refine mm_if_ne_F (tgt := 84) dM_hasOther_72 (by decide) rfl ?_
        refine mm_aload_n dM_hasOther_75 rfl rfl ?_
        refine mm_iload dM_hasOther_76 rfl ?_
        refine mm_v1 dM_hasOther_78 lM_105 (km_0 h m _) rfl (by decide) (Nat.le_of_ble_eq_true rfl) (kM_isSpot o1.1 (nI i)) ?_
        refine mm_goto (tgt := 90) dM_hasOther_81 (by decide) ?_
        refine mm_istore dM_hasOther_90 (by decide) rfl ?_
        refine mm_iload dM_hasOther_92 rfl ?_
        refine mm_if_ne_b (tgt := 133) dM_hasOther_94 (by decide) (fun q94 => ?_) (fun q94 => ?_)
        · refine mm_iconst (v := nI 1) dM_hasOther_133 (by decide) ?_
          refine mm_goto (tgt := 138) dM_hasOther_134 (by decide) ?_
          refine mm_istore dM_hasOther_138 (by decide) rfl ?_
          refine mm_iinc dM_hasOther_140 (by decide) rfl (mm_inc _) rfl ?_
          refine mm_goto (tgt := 55) dM_hasOther_143 (by decide) ?_
          exact fwd true _ M1 hW hO (by rw [q94]; rfl)
        · refine mm_iload dM_hasOther_97 rfl ?_
          refine mm_if_eq_b (tgt := 137) dM_hasOther_99 (by decide) (fun q99 => ?_) (fun q99 => ?_)
          · refine mm_iconst (v := nI 0) dM_hasOther_137 (by decide) ?_
            refine mm_istore dM_hasOther_138 (by decide) rfl ?_
            refine mm_iinc dM_hasOther_140 (by decide) rfl (mm_inc _) rfl ?_
            refine mm_goto (tgt := 55) dM_hasOther_143 (by decide) ?_
            exact fwd false _ M1 hW hO (by rw [q94, ns q99]; rfl)
          · obtain ⟨y, hy1, hy2⟩ := is q99
            have hyk := o.2.1 _ i y (by decide) hy1 hy2
            refine mm_iload dM_hasOther_102 rfl ?_
            refine mm_iload_n dM_hasOther_104 rfl rfl ?_
            refine mm_icmp_eq_n (tgt := 137) dM_hasOther_105 (by decide) (by omega) (by omega) (fun q105 => ?_) (fun q105 => ?_)
            · refine mm_iconst (v := nI 0) dM_hasOther_137 (by decide) ?_
              refine mm_istore dM_hasOther_138 (by decide) rfl ?_
              refine mm_iinc dM_hasOther_140 (by decide) rfl (mm_inc _) rfl ?_
              refine mm_goto (tgt := 55) dM_hasOther_143 (by decide) ?_
              exact fwd false _ M1 hW hO (by rw [q94, pe y q99 hy1 hy2, decide_eq_false (fun w => w q105)]; rfl)
            · refine mm_aload_n dM_hasOther_108 rfl rfl ?_
              refine mm_iload_n dM_hasOther_109 rfl rfl ?_
              refine mm_aload_n dM_hasOther_110 rfl rfl ?_
              refine mm_iload_n dM_hasOther_111 rfl rfl ?_
              refine mm_iload dM_hasOther_112 rfl ?_
              refine mm_v2 dM_hasOther_114 lM_118 (km_0 h m _) rfl rfl (by decide) (Nat.le_of_ble_eq_true rfl) (kM_areaOf (by decide) hy1) ?_
              refine mm_top (v' := .int (nI y)) (congrArg Value.int (by rw [eS, hy2]; rfl)) ?_
              refine mm_v2 dM_hasOther_117 lM_92 (km_0 h m _) rfl rfl (by decide) (Nat.le_of_ble_eq_true rfl) (kM_isWithin o1.1 (by rw [eS]; exact hxk) (by have := hyk.1; omega)) ?_
              refine mm_if_eq_b (tgt := 137) dM_hasOther_120 (by decide) (fun q120 => ?_) (fun q120 => ?_)
              · refine mm_iconst (v := nI 0) dM_hasOther_137 (by decide) ?_
                refine mm_istore dM_hasOther_138 (by decide) rfl ?_
                refine mm_iinc dM_hasOther_140 (by decide) rfl (mm_inc _) rfl ?_
                refine mm_goto (tgt := 55) dM_hasOther_143 (by decide) ?_
                exact fwd false _ M1 hW hO (by rw [q94, pe y q99 hy1 hy2, ← eS, q120, Bool.false_and, Bool.and_false]; rfl)
              · refine mm_aload_n dM_hasOther_123 rfl rfl ?_
                refine mm_iload_n dM_hasOther_124 rfl rfl ?_
                refine mm_iload dM_hasOther_125 rfl ?_
                refine mm_v2x dM_hasOther_127 lM_172 (km_0 h m _) rfl rfl (by decide) (Nat.le_of_ble_eq_true rfl) (kM_isAlike (M := M1) o1 (by rw [esh]; exact hw) (by rw [eS]; exact hr) hk hy1 (by rw [eS]; exact hy2) hO hp1 hp2) ?_
                rintro v M2 ⟨rfl, g2⟩
                have hW2 : ke_W M2 = ke_W M := (ke_W_of g2).trans hW
                have hO2 : ke_isO M2 L := ⟨(congrArg (fun z => z.1.2.2.2) g2).trans hO.1, by rw [show m_ot M2 = m_ot M1 from congrArg (fun z => z.2.2.2.1) g2]; exact hO.2⟩
                refine mm_if_eq_b (tgt := 137) dM_hasOther_130 (by decide) (fun q130 => ?_) (fun q130 => ?_)
                · refine mm_iconst (v := nI 0) dM_hasOther_137 (by decide) ?_
                  refine mm_istore dM_hasOther_138 (by decide) rfl ?_
                  refine mm_iinc dM_hasOther_140 (by decide) rfl (mm_inc _) rfl ?_
                  refine mm_goto (tgt := 55) dM_hasOther_143 (by decide) ?_
                  exact fwd false _ M2 hW2 hO2 (by rw [q94, pe y q99 hy1 hy2, ← eL, ← eS, q130, Bool.and_false, Bool.and_false]; rfl)
                · refine mm_iconst (v := nI 1) dM_hasOther_133 (by decide) ?_
                  refine mm_goto (tgt := 138) dM_hasOther_134 (by decide) ?_
                  refine mm_istore dM_hasOther_138 (by decide) rfl ?_
                  refine mm_iinc dM_hasOther_140 (by decide) rfl (mm_inc _) rfl ?_
                  refine mm_goto (tgt := 55) dM_hasOther_143 (by decide) ?_
                  exact fwd true _ M2 hW2 hO2 (by rw [q94, pe y q99 hy1 hy2, ← eL, ← eS, q130, q120, decide_eq_true q105]; rfl)
  have cp : ∀ (D : mm_D) (M1 : km_M) (x5 x6 x7 : Option Value), m_rd M1 ≤ 70 → (∀ x3, mm_W Γ l mM_hasOther (d + 1 + 1 + 1 + 1 + 1 + 1) D 42 [some (.ref m), some (.int (nI k)), some (.int (nI n)), x3, x5, x6, x7] [] (km_set h m (s_ot M1 (ke_sv (m_ot M1) (m_tk M1) (m_rd M1))))) → ∀ (j i : Nat), i + j = m_rd M1 → mm_W Γ l mM_hasOther (d + 1 + 1 + 1 + 1 + 1 + 1) D 16 [some (.ref m), some (.int (nI k)), some (.int (nI n)), some (.int (nI i)), x5, x6, x7] [] (km_set h m (s_ot M1 (ke_sv (m_ot M1) (m_tk M1) i))) := by
    intro D M1 x5 x6 x7 h70 cont j
    induction j with
    | zero =>
      intro i hi
      have hi : i = m_rd M1 := by omega
      subst hi
      refine mm_iload_n dM_hasOther_16 rfl rfl ?_
      refine mm_aload_n dM_hasOther_17 rfl rfl ?_
      refine mm_getf dM_hasOther_18 fM_151 (km_0 h m _) rfl ?_
      refine mm_icmp_ge_T (tgt := 42) dM_hasOther_21 (by decide) (nI_le (Nat.le_refl _) (by show m_rd M1 < 2 ^ 31; omega)) ?_
      exact cont _
    | succ j ih =>
      intro i hi
      refine mm_iload_n dM_hasOther_16 rfl rfl ?_
      refine mm_aload_n dM_hasOther_17 rfl rfl ?_
      refine mm_getf dM_hasOther_18 fM_151 (km_0 h m _) rfl ?_
      refine mm_icmp_ge_F (tgt := 42) dM_hasOther_21 (by decide) (nI_ge (show i < m_rd M1 by omega) (by show m_rd M1 < 2 ^ 31; omega)) ?_
      refine mm_aload_n dM_hasOther_24 rfl rfl ?_
      refine mm_getf dM_hasOther_25 fM_19 (km_0 h m _) rfl ?_
      refine mm_iload_n dM_hasOther_28 rfl rfl ?_
      refine mm_aload_n dM_hasOther_29 rfl rfl ?_
      refine mm_getf dM_hasOther_30 fM_16 (km_0 h m _) rfl ?_
      refine mm_iload_n dM_hasOther_33 rfl rfl ?_
      refine mm_iaload dM_hasOther_34 (km_tk h m _) rfl (by omega) (by decide) ?_
      refine mm_iastore dM_hasOther_35 (km_ot h m _) rfl (by omega) (by decide) ?_
      refine mm_eqh (kv_ot h m _ _ (m_tk M1 i)).symm ?_
      refine mm_iinc dM_hasOther_36 (by decide) rfl (mm_inc _) rfl ?_
      refine mm_goto (tgt := 16) dM_hasOther_39 (by decide) ?_
      refine mm_eqh (congrArg (fun z => km_set h m (s_ot M1 z)) (ke_sv_u (m_ot M1) (m_tk M1) i)).symm ?_
      exact ih (i + 1) (by omega)
  show mm_W Γ l mM_hasOther (d + 1 + 1 + 1 + 1 + 1 + 1) _ 0 [some (.ref m), some (.int (nI k)), some (.int (nI n)), none, none, none, none] [] _
  refine mm_aload_n dM_hasOther_0 rfl rfl ?_
  refine mm_iload_n dM_hasOther_1 rfl rfl ?_
  refine mm_iload_n dM_hasOther_2 rfl rfl ?_
  refine mm_v2x dM_hasOther_3 lM_166 (km_0 h m _) rfl rfl (by decide) (Nat.le_of_ble_eq_true rfl) (kM_readPart o hw hr hk hn hx) ?_
  rintro v M1 ⟨rfl, g1, g2⟩
  rw [← eL] at g1
  have esh : m_sh M1 = m_sh M := congrArg (fun z => z.2.1) g2
  have eS : km_S M1 = km_S M := congrArg kz esh
  refine mm_aload_n dM_hasOther_6 rfl rfl ?_
  refine mm_aload_n dM_hasOther_7 rfl rfl ?_
  refine mm_getf dM_hasOther_8 fM_151 (km_0 h m _) rfl ?_
  refine mm_putf dM_hasOther_11 fM_169 rfl rfl rfl rfl (km_0 h m _) (Nat.le_of_ble_eq_true rfl) ?_
  refine mm_eqh (ku_od h m _ (m_rd M1)).symm ?_
  refine mm_iconst (v := nI 0) dM_hasOther_14 (by decide) ?_
  refine mm_istore_n dM_hasOther_15 rfl (by decide) rfl ?_
  refine mm_eqh (congrArg (fun z => km_set h m (s_ot (s_od M1 (m_rd M1)) z)) (ke_sv_0 (m_ot M1) (m_tk M1)).symm) ?_
  refine cp _ (s_od M1 (m_rd M1)) _ _ _ (by show m_rd M1 ≤ 70; rw [g1.1]; exact hp2) (fun x3 => ?_) (m_rd M1) 0 (Nat.zero_add _)
  refine mm_aload_n dM_hasOther_42 rfl rfl ?_
  refine mm_iload_n dM_hasOther_43 rfl rfl ?_
  refine mm_iload_n dM_hasOther_44 rfl rfl ?_
  refine mm_v2 dM_hasOther_45 lM_118 (km_0 h m _) rfl rfl (by decide) (Nat.le_of_ble_eq_true rfl) (kM_areaOf (by omega) hn) ?_
  refine mm_top (v' := .int (nI x)) (congrArg Value.int (show mm_enc (ks_row (km_S M1) k n) = nI x by rw [eS, hx]; rfl)) ?_
  refine mm_istore_n dM_hasOther_48 rfl (by decide) rfl ?_
  refine mm_iconst (v := nI 0) dM_hasOther_49 (by decide) ?_
  refine mm_istore dM_hasOther_50 (by decide) rfl ?_
  refine mm_iload_n dM_hasOther_52 rfl rfl ?_
  refine mm_istore dM_hasOther_53 (by decide) rfl ?_
  exact loop _ _ (fun M' e => ⟨_, M', rfl, rfl, rfl, e⟩) 12 k false _ _ rfl (Nat.le_refl _) (by show ke_W M1 = ke_W M; exact ke_W_of g2) ⟨g1.1, ke_hasL_eq g1.2 (fun q hq => if_pos (show 0 + q < m_rd M1 by rw [g1.1]; omega))⟩ rfl
theorem km_unT_le (M : km_M) (k n : Nat) : km_unT M k n ≤ 3 := by
  unfold km_unT km_late
  split
  · split <;> decide
  · decide
theorem ke_Vu_th {A B : km_M} (h : ke_Vu A (s_th B 0)) (c : Nat) : ke_Vu (s_th A c) (s_th B c) := ⟨rfl, h.st, h.mv, h.sh, h.kp, h.nn, h.rd, h.tk⟩
set_option maxHeartbeats 1000000 in
theorem kM_uncopy (o : kt_ok (km_S M)) (hw : ke_raw (m_sh M)) (hr : ke_short (km_S M)) (hm : m_mv M ≤ 20) (h70 : m_rd M ≤ 70) (k n : Int32) :
    mm_Ev Γ l (d + 1 + 1 + 1 + 1 + 1 + 1 + 1) mM_uncopy [.ref m, .int k, .int n] (km_set h m M) (km_D h m (ke_unP M k n)) := by
  have good : ∀ (k' n' x : Nat) (x3 x4 x5 : Option Value), k = nI k' → n = nI n' → k' < 2 → n' < ks_len k' → ks_row (km_S M) k' n' = some x → ks_partI (km_S M) k n = true → mm_W Γ l mM_uncopy (d + 1 + 1 + 1 + 1 + 1 + 1 + 1) (km_D h m (ke_unP M k n)) 27 [some (.ref m), some (.int k), some (.int n), x3, x4, x5] [] (km_set h m (s_th M 0)) := by
    intro k' n' x x3 x4 x5 ek en hk hn hx hpt
    subst ek en
    have hl := ks_len_le k'
    have ck : (nI k').toNatClampNeg = k' := nI_clamp (by omega)
    have cn : (nI n').toNatClampNeg = n' := nI_clamp (by omega)
    have eU : km_uncopy M (nI k') (nI n') = km_uncopyN M k' n' := (if_pos hpt).trans (by rw [ck, cn])
    have tail : ∀ (b : Bool) (x3 x5 : Option Value) (M3 : km_M), ke_Vu M3 (s_th M 0) → b = (m_st M && ke_other (km_S M) k' n') → mm_W Γ l mM_uncopy (d + 1 + 1 + 1 + 1 + 1 + 1 + 1) (km_D h m (ke_unP M (nI k') (nI n'))) 118 [some (.ref m), some (.int (nI k')), some (.int (nI n')), x3, some (.int (mm_bI b)), x5] [] (km_set h m M3) := by
      intro b x3 x5 M3 hV hb
      have emv : m_mv M3 = m_mv M := hV.mv
      have elt : km_late M3 = km_late M := by unfold km_late; rw [emv]
      have eS : km_S M3 = km_S M := congrArg kz hV.sh
      have bad : ∀ c, km_unT M k' n' = c → ¬ c = 0 → ke_unP M (nI k') (nI n') (some (.int (nI 0))) (s_th M3 c) := fun c e1 e2 => by
        have e : km_uncopy M (nI k') (nI n') = (0, s_th M c) := by rw [eU]; unfold km_uncopyN; rw [e1, if_neg e2]
        unfold ke_unP
        rw [e]
        exact ⟨rfl, ke_Vu_th hV c⟩
      have fine : ∀ X, km_unT M k' n' = 0 → X = km_erM (km_keep (s_th M3 0)) k' n' → ke_unP M (nI k') (nI n') (some (.int (nI (m_mv X)))) X := fun X e1 e2 => by
        have e : km_uncopy M (nI k') (nI n') = (m_mv (km_erM (km_keep (s_th M 0)) k' n'), km_erM (km_keep (s_th M 0)) k' n') := by rw [eU]; unfold km_uncopyN; rw [if_pos e1]
        have v : ke_Vu (km_erM (km_keep (s_th M3 0)) k' n') (km_erM (km_keep (s_th M 0)) k' n') := by
          have v0 := ke_Vu_keep (ke_Vu_th hV 0)
          unfold km_erM
          split
          · exact ke_Vu_rmS v0 _
          · split
            · exact ke_Vu_rcA v0 _
            · exact ke_Vu_st v0 _ _
        unfold ke_unP
        rw [e, e2]
        exact ⟨by rw [v.mv], v⟩
      refine mm_aload_n dM_uncopy_118 rfl rfl ?_
      refine mm_iload dM_uncopy_119 rfl ?_
      refine mm_if_ne_b (tgt := 128) dM_uncopy_121 (by decide) (fun q121 => ?_) (fun q121 => ?_)
      · refine mm_aload_n dM_uncopy_128 rfl rfl ?_
        refine mm_v0 dM_uncopy_129 lM_125 (km_0 h m _) (by decide) (Nat.le_of_ble_eq_true rfl) (kM_lateN (by rw [emv]; exact hm)) ?_
        refine mm_putf dM_uncopy_132 fM_56 rfl rfl rfl rfl (km_0 h m _) (Nat.le_of_ble_eq_true rfl) ?_
        refine mm_eqh (ku_th h m _ (km_late M3)).symm ?_
        refine mm_aload_n dM_uncopy_135 rfl rfl ?_
        refine mm_getf dM_uncopy_136 fM_56 (km_0 h m _) rfl ?_
        refine mm_if_eq_n (tgt := 144) dM_uncopy_139 (by decide) (show km_late M3 < 2 ^ 31 by unfold km_late; split <;> decide) (fun q139 => ?_) (fun q139 => ?_)
        · have q139 : km_late M3 = 0 := q139
          rw [q139]
          refine mm_aload_n dM_uncopy_144 rfl rfl ?_
          refine mm_v0 dM_uncopy_145 lM_83 (km_0 h m _) (by decide) (Nat.le_of_ble_eq_true rfl) (kM_keep (fun _ => by show m_mv M3 < 20; rw [emv]; rw [elt] at q139; exact km_late_mv q139 hm)) ?_
          refine mm_iload_n dM_uncopy_148 rfl rfl ?_
          refine mm_if_ne_n (tgt := 160) dM_uncopy_149 (by decide) (by omega) (fun q149 => ?_) (fun q149 => ?_)
          · refine mm_aload_n dM_uncopy_160 rfl rfl ?_
            refine mm_iload_n dM_uncopy_161 rfl rfl ?_
            have k1 : k' = 1 := by omega
            subst k1
            refine mm_v1 dM_uncopy_162 lM_128 (km_0 h m _) rfl (by decide) (Nat.le_of_ble_eq_true rfl) (kM_removeCut (M := km_keep (s_th M3 0)) (by rw [km_keep_S]; show kt_ok (km_S M3); rw [eS]; exact o) hn) ?_
            refine mm_aload_n dM_uncopy_165 rfl rfl ?_
            refine mm_getf dM_uncopy_166 fM_68 (km_0 h m _) rfl ?_
            refine mm_ireturn dM_uncopy_169 rfl ?_
            exact ⟨_, _, rfl, rfl, fine _ ((if_pos (Bool.and_eq_true_iff.mp (hb.symm.trans q121))).trans (elt.symm.trans q139)) (km_erM_1 _ _).symm⟩
          · subst q149
            refine mm_aload_n dM_uncopy_152 rfl rfl ?_
            refine mm_iload_n dM_uncopy_153 rfl rfl ?_
            refine mm_v1 dM_uncopy_154 lM_108 (km_0 h m _) rfl (by decide) (Nat.le_of_ble_eq_true rfl) (kM_removeSpot hn) ?_
            refine mm_goto (tgt := 165) dM_uncopy_157 (by decide) ?_
            refine mm_aload_n dM_uncopy_165 rfl rfl ?_
            refine mm_getf dM_uncopy_166 fM_68 (km_0 h m _) rfl ?_
            refine mm_ireturn dM_uncopy_169 rfl ?_
            exact ⟨_, _, rfl, rfl, fine _ ((if_pos (Bool.and_eq_true_iff.mp (hb.symm.trans q121))).trans (elt.symm.trans q139)) (km_erM_0 _ _).symm⟩
        · have q139 : ¬ km_late M3 = 0 := q139
          refine mm_iconst (v := nI 0) dM_uncopy_142 (by decide) ?_
          refine mm_ireturn dM_uncopy_143 rfl ?_
          exact ⟨_, _, rfl, rfl, bad _ ((if_pos (Bool.and_eq_true_iff.mp (hb.symm.trans q121))).trans elt.symm) q139⟩
      · refine mm_iconst (v := nI 2) dM_uncopy_124 (by decide) ?_
        refine mm_goto (tgt := 132) dM_uncopy_125 (by decide) ?_
        refine mm_putf dM_uncopy_132 fM_56 rfl rfl rfl rfl (km_0 h m _) (Nat.le_of_ble_eq_true rfl) ?_
        refine mm_eqh (ku_th h m _ 2).symm ?_
        refine mm_aload_n dM_uncopy_135 rfl rfl ?_
        refine mm_getf dM_uncopy_136 fM_56 (km_0 h m _) rfl ?_
        refine mm_if_eq_F (tgt := 144) dM_uncopy_139 (by decide) (show ¬ nI 2 = 0 by decide) ?_
        refine mm_iconst (v := nI 0) dM_uncopy_142 (by decide) ?_
        refine mm_ireturn dM_uncopy_143 rfl ?_
        exact ⟨_, _, rfl, rfl, bad 2 (if_neg (fun w => by rw [w.1, w.2, q121] at hb; cases hb)) (by decide)⟩
    have lb : ∀ (b : Bool) (sz : Nat) (M1 : km_M), sz ≤ 70 → (∀ x5, mm_W Γ l mM_uncopy (d + 1 + 1 + 1 + 1 + 1 + 1 + 1) (km_D h m (ke_unP M (nI k') (nI n'))) 118 [some (.ref m), some (.int (nI k')), some (.int (nI n')), some (.int (nI sz)), some (.int (mm_bI b)), x5] [] (km_set h m (s_tk M1 (ke_sv (m_tk M1) (m_hb M1) sz)))) → ∀ (j i : Nat), i + j = sz → mm_W Γ l mM_uncopy (d + 1 + 1 + 1 + 1 + 1 + 1 + 1) (km_D h m (ke_unP M (nI k') (nI n'))) 92 [some (.ref m), some (.int (nI k')), some (.int (nI n')), some (.int (nI sz)), some (.int (mm_bI b)), some (.int (nI i))] [] (km_set h m (s_tk M1 (ke_sv (m_tk M1) (m_hb M1) i))) := by
      intro b sz M1 h1 cont j
      induction j with
      | zero =>
        intro i hi
        have hi : i = sz := by omega
        subst hi
        refine mm_iload dM_uncopy_92 rfl ?_
        refine mm_iload_n dM_uncopy_94 rfl rfl ?_
        refine mm_icmp_ge_T (tgt := 118) dM_uncopy_95 (by decide) (nI_le (Nat.le_refl _) (by omega)) ?_
        exact cont _
      | succ j ih =>
        intro i hi
        refine mm_iload dM_uncopy_92 rfl ?_
        refine mm_iload_n dM_uncopy_94 rfl rfl ?_
        refine mm_icmp_ge_F (tgt := 118) dM_uncopy_95 (by decide) (nI_ge (by omega) (by omega)) ?_
        refine mm_aload_n dM_uncopy_98 rfl rfl ?_
        refine mm_getf dM_uncopy_99 fM_16 (km_0 h m _) rfl ?_
        refine mm_iload dM_uncopy_102 rfl ?_
        refine mm_aload_n dM_uncopy_104 rfl rfl ?_
        refine mm_getf dM_uncopy_105 fM_41 (km_0 h m _) rfl ?_
        refine mm_iload dM_uncopy_108 rfl ?_
        refine mm_iaload dM_uncopy_110 (km_hb h m _) rfl (by omega) (by decide) ?_
        refine mm_iastore dM_uncopy_111 (km_tk h m _) rfl (by omega) (by decide) ?_
        refine mm_eqh (kv_tk h m _ _ (m_hb M1 i)).symm ?_
        refine mm_iinc dM_uncopy_112 (by decide) rfl (mm_inc _) rfl ?_
        refine mm_goto (tgt := 92) dM_uncopy_115 (by decide) ?_
        refine mm_eqh (congrArg (fun z => km_set h m (s_tk M1 z)) (ke_sv_u (m_tk M1) (m_hb M1) i)).symm ?_
        exact ih (i + 1) (by omega)
    have la : ∀ (M1 : km_M) (x5 : Option Value), m_rd M1 ≤ 70 → (∀ x4, mm_W Γ l mM_uncopy (d + 1 + 1 + 1 + 1 + 1 + 1 + 1) (km_D h m (ke_unP M (nI k') (nI n'))) 61 [some (.ref m), some (.int (nI k')), some (.int (nI n')), some (.int (nI (m_rd M1))), x4, x5] [] (km_set h m (s_hb M1 (ke_sv (m_hb M1) (m_tk M1) (m_rd M1))))) → ∀ (j i : Nat), i + j = m_rd M1 → mm_W Γ l mM_uncopy (d + 1 + 1 + 1 + 1 + 1 + 1 + 1) (km_D h m (ke_unP M (nI k') (nI n'))) 35 [some (.ref m), some (.int (nI k')), some (.int (nI n')), some (.int (nI (m_rd M1))), some (.int (nI i)), x5] [] (km_set h m (s_hb M1 (ke_sv (m_hb M1) (m_tk M1) i))) := by
      intro M1 x5 h1 cont j
      induction j with
      | zero =>
        intro i hi
        have hi : i = m_rd M1 := by omega
        subst hi
        refine mm_iload dM_uncopy_35 rfl ?_
        refine mm_iload_n dM_uncopy_37 rfl rfl ?_
        refine mm_icmp_ge_T (tgt := 61) dM_uncopy_38 (by decide) (nI_le (Nat.le_refl _) (by omega)) ?_
        exact cont _
      | succ j ih =>
        intro i hi
        refine mm_iload dM_uncopy_35 rfl ?_
        refine mm_iload_n dM_uncopy_37 rfl rfl ?_
        refine mm_icmp_ge_F (tgt := 61) dM_uncopy_38 (by decide) (nI_ge (by omega) (by omega)) ?_
        refine mm_aload_n dM_uncopy_41 rfl rfl ?_
        refine mm_getf dM_uncopy_42 fM_41 (km_0 h m _) rfl ?_
        refine mm_iload dM_uncopy_45 rfl ?_
        refine mm_aload_n dM_uncopy_47 rfl rfl ?_
        refine mm_getf dM_uncopy_48 fM_16 (km_0 h m _) rfl ?_
        refine mm_iload dM_uncopy_51 rfl ?_
        refine mm_iaload dM_uncopy_53 (km_tk h m _) rfl (by omega) (by decide) ?_
        refine mm_iastore dM_uncopy_54 (km_hb h m _) rfl (by omega) (by decide) ?_
        refine mm_eqh (kv_hb h m _ _ (m_tk M1 i)).symm ?_
        refine mm_iinc dM_uncopy_55 (by decide) rfl (mm_inc _) rfl ?_
        refine mm_goto (tgt := 35) dM_uncopy_58 (by decide) ?_
        refine mm_eqh (congrArg (fun z => km_set h m (s_hb M1 z)) (ke_sv_u (m_hb M1) (m_tk M1) i)).symm ?_
        exact ih (i + 1) (by omega)
    have mid : ∀ (b : Bool) (x5 : Option Value) (M2 : km_M), ke_W M2 = ke_W (s_hb (s_th M 0) (ke_sv (m_hb M) (m_tk M) (m_rd M))) → b = (m_st M && ke_other (km_S M) k' n') → mm_W Γ l mM_uncopy (d + 1 + 1 + 1 + 1 + 1 + 1 + 1) (km_D h m (ke_unP M (nI k') (nI n'))) 84 [some (.ref m), some (.int (nI k')), some (.int (nI n')), some (.int (nI (m_rd M))), some (.int (mm_bI b)), x5] [] (km_set h m M2) := by
      intro b x5 M2 hW hb
      have ehb : m_hb M2 = ke_sv (m_hb M) (m_tk M) (m_rd M) := congrArg (fun z => z.2.2.2.1) hW
      refine mm_aload_n dM_uncopy_84 rfl rfl ?_
      refine mm_iload_n dM_uncopy_85 rfl rfl ?_
      refine mm_putf dM_uncopy_86 fM_151 rfl rfl rfl rfl (km_0 h m _) (Nat.le_of_ble_eq_true rfl) ?_
      refine mm_eqh (ku_rd h m _ (m_rd M)).symm ?_
      refine mm_iconst (v := nI 0) dM_uncopy_89 (by decide) ?_
      refine mm_istore dM_uncopy_90 (by decide) rfl ?_
      refine mm_eqh (congrArg (fun z => km_set h m (s_tk (s_rd M2 (m_rd M)) z)) (ke_sv_0 (m_tk M2) (m_hb M2)).symm) ?_
      refine lb b (m_rd M) (s_rd M2 (m_rd M)) h70 (fun x5 => ?_) (m_rd M) 0 (Nat.zero_add _)
      refine tail b _ _ _ ⟨congrArg (fun z => z.1.1) hW, congrArg (fun z => z.1.2.1) hW, congrArg (fun z => z.1.2.2) hW, congrArg (fun z => z.2.1) hW, congrArg (fun z => z.2.2.1) hW, congrArg (fun z => z.2.2.2.2) hW, rfl, fun i hi => ?_⟩ hb
      have hi : i < m_rd M := hi
      show ke_sv (m_tk M2) (m_hb M2) (m_rd M) i = m_tk M i
      unfold ke_sv
      rw [if_pos hi, ehb]
      exact if_pos hi
    refine mm_aload_n dM_uncopy_27 rfl rfl ?_
    refine mm_getf dM_uncopy_28 fM_151 (km_0 h m _) rfl ?_
    refine mm_istore_n dM_uncopy_31 rfl (by decide) rfl ?_
    refine mm_iconst (v := nI 0) dM_uncopy_32 (by decide) ?_
    refine mm_istore dM_uncopy_33 (by decide) rfl ?_
    refine mm_eqh (congrArg (fun z => km_set h m (s_hb (s_th M 0) z)) (ke_sv_0 (m_hb M) (m_tk M)).symm) ?_
    refine la (s_th M 0) _ h70 (fun x4 => ?_) (m_rd M) 0 (Nat.zero_add _)
    refine mm_aload_n dM_uncopy_61 rfl rfl ?_
    refine mm_getf dM_uncopy_62 fM_64 (km_0 h m _) rfl ?_
    refine mm_if_eq_b (tgt := 81) dM_uncopy_65 (by decide) (fun q65 => ?_) (fun q65 => ?_)
    · refine mm_iconst (v := nI 0) dM_uncopy_81 (by decide) ?_
      refine mm_istore dM_uncopy_82 (by decide) rfl ?_
      exact mid false _ _ rfl (by have q65 : m_st M = false := q65; rw [q65]; rfl)
    · refine mm_aload_n dM_uncopy_68 rfl rfl ?_
      refine mm_iload_n dM_uncopy_69 rfl rfl ?_
      refine mm_iload_n dM_uncopy_70 rfl rfl ?_
      refine mm_v2x dM_uncopy_71 lM_175 (km_0 h m _) rfl rfl (by decide) (Nat.le_of_ble_eq_true rfl) (kM_hasOther (M := s_hb (s_th M 0) (ke_sv (m_hb M) (m_tk M) (m_rd M))) o hw hr hk hn hx) ?_
      rintro v M2 ⟨rfl, g2⟩
      refine mm_if_eq_b (tgt := 81) dM_uncopy_74 (by decide) (fun q74 => ?_) (fun q74 => ?_)
      · refine mm_iconst (v := nI 0) dM_uncopy_81 (by decide) ?_
        refine mm_istore dM_uncopy_82 (by decide) rfl ?_
        exact mid false _ M2 g2 (by have q65 : m_st M = true := q65; have q74 : ke_other (km_S M) k' n' = false := q74; rw [q65, q74]; rfl)
      · refine mm_iconst (v := nI 1) dM_uncopy_77 (by decide) ?_
        refine mm_goto (tgt := 82) dM_uncopy_78 (by decide) ?_
        refine mm_istore dM_uncopy_82 (by decide) rfl ?_
        exact mid true _ M2 g2 (by have q65 : m_st M = true := q65; have q74 : ke_other (km_S M) k' n' = true := q74; rw [q65, q74]; rfl)
  show mm_W Γ l mM_uncopy (d + 1 + 1 + 1 + 1 + 1 + 1 + 1) _ 0 [some (.ref m), some (.int k), some (.int n), none, none, none] [] _
  refine mm_aload_n dM_uncopy_0 rfl rfl ?_
  refine mm_aload_n dM_uncopy_1 rfl rfl ?_
  refine mm_iload_n dM_uncopy_2 rfl rfl ?_
  refine mm_iload_n dM_uncopy_3 rfl rfl ?_
  refine mm_v2 dM_uncopy_4 lM_115 (km_0 h m _) rfl rfl (by decide) (Nat.le_of_ble_eq_true rfl) (kM_noPart o.1 k n) ?_
  refine mm_if_eq_b (tgt := 14) dM_uncopy_7 (by decide) (fun q7 => ?_) (fun q7 => ?_)
  · have hp : ks_partI (km_S M) k n = true := by cases hq : ks_partI (km_S M) k n with
      | true => rfl
      | false => rw [hq] at q7; cases q7
    refine mm_iconst (v := nI 0) dM_uncopy_14 (by decide) ?_
    refine mm_putf dM_uncopy_15 fM_56 rfl rfl rfl rfl (km_0 h m _) (Nat.le_of_ble_eq_true rfl) ?_
    refine mm_eqh (ku_th h m _ 0).symm ?_
    refine mm_aload_n dM_uncopy_18 rfl rfl ?_
    refine mm_getf dM_uncopy_19 fM_56 (km_0 h m _) rfl ?_
    refine mm_if_eq_T (tgt := 27) dM_uncopy_22 (by decide) rfl ?_
    obtain ⟨k', i, x, e1, e2, g1, g2, g3⟩ := ks_hasI_true (Bool.and_eq_true_iff.mp hp).2
    have hk2 : k' < 2 := by
      have h9 := of_decide_eq_true (Bool.and_eq_true_iff.mp hp).1
      have : ¬ k' = 2 := fun w => h9 (by rw [e1, w])
      omega
    exact good k' i x _ _ _ e1 e2 hk2 g2 g3 hp
  · have hp : ks_partI (km_S M) k n = false := by cases hq : ks_partI (km_S M) k n with
      | false => rfl
      | true => rw [hq] at q7; cases q7
    refine mm_iconst (v := nI 1) dM_uncopy_10 (by decide) ?_
    refine mm_goto (tgt := 15) dM_uncopy_11 (by decide) ?_
    refine mm_putf dM_uncopy_15 fM_56 rfl rfl rfl rfl (km_0 h m _) (Nat.le_of_ble_eq_true rfl) ?_
    refine mm_eqh (ku_th h m _ 1).symm ?_
    refine mm_aload_n dM_uncopy_18 rfl rfl ?_
    refine mm_getf dM_uncopy_19 fM_56 (km_0 h m _) rfl ?_
    refine mm_if_eq_F (tgt := 27) dM_uncopy_22 (by decide) (show ¬ nI 1 = 0 by decide) ?_
    refine mm_iconst (v := nI 0) dM_uncopy_25 (by decide) ?_
    refine mm_ireturn dM_uncopy_26 rfl ?_
    exact ⟨_, _, rfl, rfl, by
      have e : km_uncopy M k n = (0, s_th M 1) := if_neg (by rw [hp]; decide)
      unfold ke_unP
      rw [e]
      exact ⟨rfl, ke_Vu_refl _⟩⟩
end KM8
