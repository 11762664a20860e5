/-! Contracts of the reference. Printed by wip/whole/spec/m4.py -/
theorem km_only_sm (f : Nat → Option Nat) (c : Nat) : mm_sm (km_only f c) := fun n e => Nat.lt_of_lt_of_le (km_only_lt e).2.1 (by decide)
section KM4
variable {Γ : mm_G} {l : Launch} {d : Nat} {h : mm_H} {m : Nat} {M : km_M}
theorem kM_lateN (hm : m_mv M ≤ 20) : mm_Ev Γ l d mM_late [.ref m] (km_set h m M) (mm_is (.inl (some (.int (nI (km_late M))))) (km_set h m M)) := kM_late hm
set_option maxHeartbeats 1000000 in
theorem kM_erase (o : kt_ok (km_S M)) (hm : m_mv M ≤ 20) (k n : Int32) : mm_Ev Γ l (d + 1 + 1 + 1) mM_erase [.ref m, .int k, .int n] (km_set h m M) (mm_is (.inl (some (.int (nI (km_erase M k n).1)))) (km_set h m (km_erase M k n).2)) := by
  have bad : ∀ v : Int32, ks_hasI (km_S M) k n = false → mm_W Γ l mM_erase (d + 1 + 1 + 1) (mm_is (.inl (some (.int (nI (km_erase M k n).1)))) (km_set h m (km_erase M k n).2)) 33 [some (.ref m), some (.int k), some (.int n), some (.int v)] [.ref m] (km_set h m M) := by
    intro v hb
    refine mm_iconst (v := nI 1) dM_erase_33 (by decide) ?_
    refine mm_goto (tgt := 81) dM_erase_34 (by decide) ?_
    refine mm_putf dM_erase_81 fM_56 rfl rfl rfl rfl (km_0 h m _) (Nat.le_of_ble_eq_true rfl) ?_
    refine mm_eqh (ku_th h m _ 1).symm ?_
    refine mm_aload_n dM_erase_84 rfl rfl ?_
    refine mm_getf dM_erase_85 fM_56 (km_0 h m _) rfl ?_
    refine mm_if_eq_F (tgt := 93) dM_erase_88 (by decide) (show ¬ nI 1 = 0 by decide) ?_
    refine mm_iconst (v := nI 0) dM_erase_91 (by decide) ?_
    refine mm_ireturn dM_erase_92 rfl ?_
    exact km_fin (if_neg (by rw [hb]; decide))
  have good : ∀ (k' n' x : Nat) (v : Int32), k = nI k' → n = nI n' → k' < 3 → n' < ks_len k' → ks_row (km_S M) k' n' = some x → mm_W Γ l mM_erase (d + 1 + 1 + 1) (mm_is (.inl (some (.int (nI (km_erase M k n).1)))) (km_set h m (km_erase M k n).2)) 37 [some (.ref m), some (.int k), some (.int n), some (.int v)] [.ref m] (km_set h m M) := by
    intro k' n' x v ek en hk hn hx
    subst ek en
    have hl := ks_len_le k'
    have ck : (nI k').toNatClampNeg = k' := nI_clamp (by omega)
    have cn : (nI n').toNatClampNeg = n' := nI_clamp (by omega)
    have hx' := o.2.1 k' n' x hk hn hx
    have hl12 := km_dp_le (km_S M) x
    have hhas : ks_hasI (km_S M) (nI k') (nI n') = true := by rw [ks_hasI_n (by omega) (by omega)]; exact ks_has_iff.mpr ⟨hk, hn, x, hx⟩
    have tail : mm_W Γ l mM_erase (d + 1 + 1 + 1) (mm_is (.inl (some (.int (nI (km_erase M (nI k') (nI n')).1)))) (km_set h m (km_erase M (nI k') (nI n')).2)) 81 [some (.ref m), some (.int (nI k')), some (.int (nI n')), some (.int v)] [.int (nI (km_erT M k' n')), .ref m] (km_set h m M) := by
      refine mm_putf dM_erase_81 fM_56 rfl rfl rfl rfl (km_0 h m _) (Nat.le_of_ble_eq_true rfl) ?_
      refine mm_eqh (ku_th h m _ (km_erT M k' n')).symm ?_
      refine mm_aload_n dM_erase_84 rfl rfl ?_
      refine mm_getf dM_erase_85 fM_56 (km_0 h m _) rfl ?_
      refine mm_if_eq_n (tgt := 93) dM_erase_88 (by decide) (Nat.lt_of_le_of_lt (km_erT_le M k' n') (by decide)) (fun q88 => ?_) (fun q88 => ?_)
      · have q88 : km_erT M k' n' = 0 := q88
        have z0 := km_erT_0 q88
        rw [q88]
        refine mm_aload_n dM_erase_93 rfl rfl ?_
        refine mm_v0 dM_erase_94 lM_83 (km_0 h m _) (by decide) (Nat.le_of_ble_eq_true rfl) (kM_keep (fun _ => km_late_mv z0.2 hm)) ?_
        refine mm_iload_n dM_erase_97 rfl rfl ?_
        refine mm_if_ne_n (tgt := 109) dM_erase_98 (by decide) (by omega) (fun q98 => ?_) (fun q98 => ?_)
        · refine mm_iload_n dM_erase_109 rfl rfl ?_
          refine mm_iconst (v := nI 1) dM_erase_110 (by decide) ?_
          refine mm_icmp_ne_n (tgt := 122) dM_erase_111 (by decide) (by omega) (by decide) (fun q111 => ?_) (fun q111 => ?_)
          · have k2 : k' = 2 := by omega
            subst k2
            have hn : n' < 6 := hn
            refine mm_aload_n dM_erase_122 rfl rfl ?_
            refine mm_getf dM_erase_123 fM_7 (km_0 h m _) rfl ?_
            refine mm_bipush (v := nI 13) dM_erase_126 (by decide) ?_
            refine mm_iload_n dM_erase_128 rfl rfl ?_
            refine mm_iadd dM_erase_129 ?_
            refine mm_iconst (v := -1) dM_erase_130 (by decide) ?_
            refine mm_iastore dM_erase_131 (km_sh h m _) (nI_add 13 n') (by omega) (by decide) ?_
            refine mm_eqh (kv_sh h m _ _ none).symm ?_
            refine mm_aload_n dM_erase_132 rfl rfl ?_
            refine mm_getf dM_erase_133 fM_68 (km_0 h m _) rfl ?_
            refine mm_ireturn dM_erase_136 rfl ?_
            exact km_fin ((if_pos hhas).trans (by rw [ck, cn]; exact km_eraseN_t q88 (km_erM_2 _ _)))
          · subst q111
            refine mm_aload_n dM_erase_114 rfl rfl ?_
            refine mm_iload_n dM_erase_115 rfl rfl ?_
            refine mm_v1 dM_erase_116 lM_128 (km_0 h m _) rfl (by decide) (Nat.le_of_ble_eq_true rfl) (kM_removeCut (M := km_keep (s_th M 0)) (by rw [km_keep_S]; exact o) hn) ?_
            refine mm_goto (tgt := 132) dM_erase_119 (by decide) ?_
            refine mm_aload_n dM_erase_132 rfl rfl ?_
            refine mm_getf dM_erase_133 fM_68 (km_0 h m _) rfl ?_
            refine mm_ireturn dM_erase_136 rfl ?_
            exact km_fin ((if_pos hhas).trans (by rw [ck, cn]; exact km_eraseN_t q88 (km_erM_1 _ _)))
        · subst q98
          refine mm_aload_n dM_erase_101 rfl rfl ?_
          refine mm_iload_n dM_erase_102 rfl rfl ?_
          refine mm_v1 dM_erase_103 lM_108 (km_0 h m _) rfl (by decide) (Nat.le_of_ble_eq_true rfl) (kM_removeSpot hn) ?_
          refine mm_goto (tgt := 132) dM_erase_106 (by decide) ?_
          refine mm_aload_n dM_erase_132 rfl rfl ?_
          refine mm_getf dM_erase_133 fM_68 (km_0 h m _) rfl ?_
          refine mm_ireturn dM_erase_136 rfl ?_
          exact km_fin ((if_pos hhas).trans (by rw [ck, cn]; exact km_eraseN_t q88 (km_erM_0 _ _)))
      · have q88 : ¬ km_erT M k' n' = 0 := q88
        refine mm_iconst (v := nI 0) dM_erase_91 (by decide) ?_
        refine mm_ireturn dM_erase_92 rfl ?_
        exact km_fin ((if_pos hhas).trans (by rw [ck, cn]; exact if_neg q88))
    refine mm_aload_n dM_erase_37 rfl rfl ?_
    refine mm_getf dM_erase_38 fM_64 (km_0 h m _) rfl ?_
    refine mm_if_eq_b (tgt := 73) dM_erase_41 (by decide) (fun q41 => ?_) (fun q41 => ?_)
    · refine mm_iconst (v := nI 2) dM_erase_73 (by decide) ?_
      refine mm_goto (tgt := 81) dM_erase_74 (by decide) ?_
      refine mm_top (v' := .int (nI (km_erT M k' n'))) (by rw [show km_erT M k' n' = 2 from if_pos (Or.inl q41)]) ?_
      exact tail
    · refine mm_aload_n dM_erase_44 rfl rfl ?_
      refine mm_aload_n dM_erase_45 rfl rfl ?_
      refine mm_iload_n dM_erase_46 rfl rfl ?_
      refine mm_iload_n dM_erase_47 rfl rfl ?_
      refine mm_v2 dM_erase_48 lM_118 (km_0 h m _) rfl rfl (by decide) (Nat.le_of_ble_eq_true rfl) (kM_areaOf hk hn) ?_
      refine mm_top (v' := .int (nI x)) (congrArg Value.int (by rw [hx]; rfl)) ?_
      refine mm_v1 dM_erase_51 lM_71 (km_0 h m _) rfl (by decide) (Nat.le_of_ble_eq_true rfl) (kM_depthOf o.1 hx') ?_
      refine mm_top (v' := .int (nI (km_dp (km_S M) x))) rfl ?_
      refine mm_iconst (v := nI 2) dM_erase_54 (by decide) ?_
      refine mm_irem dM_erase_55 (by decide) ?_
      refine mm_top (v' := .int (nI (km_dp (km_S M) x % 2))) (congrArg Value.int (pk_rem (by omega) (by decide) (by decide))) ?_
      refine mm_iconst (v := nI 1) dM_erase_56 (by decide) ?_
      refine mm_icmp_eq_n (tgt := 73) dM_erase_57 (by decide) (by omega) (by decide) (fun q57 => ?_) (fun q57 => ?_)
      · refine mm_iconst (v := nI 2) dM_erase_73 (by decide) ?_
        refine mm_goto (tgt := 81) dM_erase_74 (by decide) ?_
        refine mm_top (v' := .int (nI (km_erT M k' n'))) (by rw [show km_erT M k' n' = 2 from if_pos (Or.inr (Or.inl (by rw [show (ks_row (km_S M) k' n').getD 0 = x by rw [hx]; rfl]; exact q57)))]) ?_
        exact tail
      · refine mm_iload_n dM_erase_60 rfl rfl ?_
        refine mm_iconst (v := nI 2) dM_erase_61 (by decide) ?_
        refine mm_icmp_ne_n (tgt := 77) dM_erase_62 (by decide) (by omega) (by decide) (fun q62 => ?_) (fun q62 => ?_)
        · refine mm_aload_n dM_erase_77 rfl rfl ?_
          refine mm_v0 dM_erase_78 lM_125 (km_0 h m _) (by decide) (Nat.le_of_ble_eq_true rfl) (kM_lateN hm) ?_
          refine mm_top (v' := .int (nI (km_erT M k' n'))) (by rw [show km_erT M k' n' = km_late M from if_neg (fun w => w.elim (fun w => by rw [q41] at w; cases w) (fun w => w.elim (fun w => q57 (by rw [show (ks_row (km_S M) k' n').getD 0 = x by rw [hx]; rfl] at w; exact w)) (fun w => q62 w.1)))]) ?_
          exact tail
        · refine mm_aload_n dM_erase_65 rfl rfl ?_
          refine mm_iload_n dM_erase_66 rfl rfl ?_
          refine mm_v1 dM_erase_67 lM_122 (km_0 h m _) rfl (by decide) (Nat.le_of_ble_eq_true rfl) (kM_isHooked o.1 (by have q62 := q62; subst q62; exact hn)) ?_
          refine mm_if_eq_b (tgt := 77) dM_erase_70 (by decide) (fun q70 => ?_) (fun q70 => ?_)
          · refine mm_aload_n dM_erase_77 rfl rfl ?_
            refine mm_v0 dM_erase_78 lM_125 (km_0 h m _) (by decide) (Nat.le_of_ble_eq_true rfl) (kM_lateN hm) ?_
            refine mm_top (v' := .int (nI (km_erT M k' n'))) (by rw [show km_erT M k' n' = km_late M from if_neg (fun w => w.elim (fun w => by rw [q41] at w; cases w) (fun w => w.elim (fun w => q57 (by rw [show (ks_row (km_S M) k' n').getD 0 = x by rw [hx]; rfl] at w; exact w)) (fun w => by have w := w.2; rw [q70] at w; cases w)))]) ?_
            exact tail
          · refine mm_iconst (v := nI 2) dM_erase_73 (by decide) ?_
            refine mm_goto (tgt := 81) dM_erase_74 (by decide) ?_
            refine mm_top (v' := .int (nI (km_erT M k' n'))) (by rw [show km_erT M k' n' = 2 from if_pos (Or.inr (Or.inr ⟨q62, q70⟩))]) ?_
            exact tail
  show mm_W Γ l mM_erase (d + 1 + 1 + 1) _ 0 [some (.ref m), some (.int k), some (.int n), none] [] _
  refine mm_iload_n dM_erase_0 rfl rfl ?_
  refine mm_iconst (v := nI 2) dM_erase_1 (by decide) ?_
  refine mm_icmp_ne (tgt := 21) dM_erase_2 (by decide) (fun q2 => ?_) (fun q2 => ?_)
  · refine mm_aload_n dM_erase_21 rfl rfl ?_
    refine mm_iload_n dM_erase_22 rfl rfl ?_
    refine mm_iload_n dM_erase_23 rfl rfl ?_
    refine mm_v2 dM_erase_24 lM_115 (km_0 h m _) rfl rfl (by decide) (Nat.le_of_ble_eq_true rfl) (kM_noPart o.1 k n) ?_
    refine mm_istore_n dM_erase_27 rfl (by decide) rfl ?_
    refine mm_aload_n dM_erase_28 rfl rfl ?_
    refine mm_iload_n dM_erase_29 rfl rfl ?_
    refine mm_if_eq_b (tgt := 37) dM_erase_30 (by decide) (fun q30 => ?_) (fun q30 => ?_)
    · have hp : ks_partI (km_S M) k n = true := by cases hq : ks_partI (km_S M) k n with
        | true => rfl
        | false => rw [hq] at q30; cases q30
      obtain ⟨k', i, x, e1, e2, g1, g2, g3⟩ := ks_hasI_true (Bool.and_eq_true_iff.mp hp).2
      exact good k' i x _ e1 e2 g1 g2 g3
    · exact bad _ (by cases hq : ks_hasI (km_S M) k n with
        | false => rfl
        | true => rw [show ks_partI (km_S M) k n = true from Bool.and_eq_true_iff.mpr ⟨decide_eq_true q2, hq⟩] at q30; cases q30)
  · refine mm_aload_n dM_erase_5 rfl rfl ?_
    refine mm_iload_n dM_erase_6 rfl rfl ?_
    refine mm_v1 dM_erase_7 lM_89 (km_0 h m _) rfl (by decide) (Nat.le_of_ble_eq_true rfl) (kM_isLine o.1 n) ?_
    refine mm_if_ne_b (tgt := 17) dM_erase_10 (by decide) (fun q10 => ?_) (fun q10 => ?_)
    · refine mm_iconst (v := nI 0) dM_erase_17 (by decide) ?_
      refine mm_goto (tgt := 27) dM_erase_18 (by decide) ?_
      refine mm_istore_n dM_erase_27 rfl (by decide) rfl ?_
      refine mm_aload_n dM_erase_28 rfl rfl ?_
      refine mm_iload_n dM_erase_29 rfl rfl ?_
      refine mm_if_eq_T (tgt := 37) dM_erase_30 (by decide) rfl ?_
      obtain ⟨i, x, hi, e, hx⟩ := ks_hasI_k (k := 2) (by decide) q10
      exact good 2 i x _ q2 e (by decide) hi hx
    · refine mm_iconst (v := nI 1) dM_erase_13 (by decide) ?_
      refine mm_goto (tgt := 27) dM_erase_14 (by decide) ?_
      refine mm_istore_n dM_erase_27 rfl (by decide) rfl ?_
      refine mm_aload_n dM_erase_28 rfl rfl ?_
      refine mm_iload_n dM_erase_29 rfl rfl ?_
      refine mm_if_eq_F (tgt := 37) dM_erase_30 (by decide) (show ¬ nI 1 = 0 by decide) ?_
      exact bad _ (by rw [q2]; exact q10)
theorem kM_only (o : ks_ok (km_S M)) {c : Nat} (hc : c < 13) : mm_Ev Γ l d mM_only [.ref m, .int (nI c)] (km_set h m M) (mm_is (.inl (some (.int (mm_enc (km_only (m_sh M) c))))) (km_set h m M)) := by
  have l2 : ∀ (D : mm_D) (fo : Option Nat), mm_sm fo → ∀ (j i n : Nat), i + j = 31 → 1 ≤ i → (D (.inl (some (.int (mm_enc (if km_on2 (m_sh M) c i j n = 1 then fo else none))))) (km_set h m M)) → n + 2 * j < 100 → mm_W Γ l mM_only d D 61 [some (.ref m), some (.int (nI c)), some (.int (mm_enc fo)), some (.int (nI n)), some (.int (nI i))] [] (km_set h m M) := by
    intro D fo hfo j
    induction j with
    | zero =>
      intro i n hi h1 hD hn
      refine mm_iload dM_only_61 rfl ?_
      refine mm_bipush (v := nI 31) dM_only_63 (by decide) ?_
      refine mm_icmp_ge_T (tgt := 93) dM_only_65 (by decide) (nI_le (by omega) (by omega)) ?_
      refine mm_iload_n dM_only_93 rfl rfl ?_
      refine mm_iconst (v := nI 1) dM_only_94 (by decide) ?_
      refine mm_icmp_ne_n (tgt := 102) dM_only_95 (by decide) (by omega) (by decide) (fun q95 => ?_) (fun q95 => ?_)
      · refine mm_iconst (v := -1) dM_only_102 (by decide) ?_
        refine mm_ireturn dM_only_103 rfl ?_
        rw [show km_on2 (m_sh M) c i 0 n = n from rfl, if_neg q95] at hD
        exact hD
      · refine mm_iload_n dM_only_98 rfl rfl ?_
        refine mm_goto (tgt := 103) dM_only_99 (by decide) ?_
        refine mm_ireturn dM_only_103 rfl ?_
        rw [show km_on2 (m_sh M) c i 0 n = n from rfl, if_pos q95] at hD
        exact hD
    | succ j ih =>
      intro i n hi h1 hD hn
      refine mm_iload dM_only_61 rfl ?_
      refine mm_bipush (v := nI 31) dM_only_63 (by decide) ?_
      refine mm_icmp_ge_F (tgt := 93) dM_only_65 (by decide) (nI_ge (by omega) (by omega)) ?_
      refine mm_iload_n dM_only_68 rfl rfl ?_
      refine mm_aload_n dM_only_69 rfl rfl ?_
      refine mm_getf dM_only_70 fM_7 (km_0 h m _) rfl ?_
      refine mm_iload dM_only_73 rfl ?_
      refine mm_iaload dM_only_75 (km_sh h m _) rfl (by omega) (by decide) ?_
      refine mm_iload_n dM_only_76 rfl rfl ?_
      refine mm_icmp_ne_k (tgt := 84) dM_only_77 (by decide) (km_sm31 o (by omega)) (by omega) (fun q77 => ?_) (fun q77 => ?_)
      · refine mm_iconst (v := nI 0) dM_only_84 (by decide) ?_
        refine mm_iadd dM_only_85 ?_
        refine mm_top (v' := .int (nI (n + 0))) (congrArg Value.int (nI_add n _)) ?_
        refine mm_istore_n dM_only_86 rfl (by decide) rfl ?_
        refine mm_iinc dM_only_87 (by decide) rfl (mm_inc _) rfl ?_
        refine mm_goto (tgt := 61) dM_only_90 (by decide) ?_
        refine ih (i + 1) _ (by omega) (by omega) ?_ (by omega)
        rw [km_on2_f q77] at hD
        exact hD
      · refine mm_iconst (v := nI 2) dM_only_80 (by decide) ?_
        refine mm_goto (tgt := 85) dM_only_81 (by decide) ?_
        refine mm_iadd dM_only_85 ?_
        refine mm_top (v' := .int (nI (n + 2))) (congrArg Value.int (nI_add n _)) ?_
        refine mm_istore_n dM_only_86 rfl (by decide) rfl ?_
        refine mm_iinc dM_only_87 (by decide) rfl (mm_inc _) rfl ?_
        refine mm_goto (tgt := 61) dM_only_90 (by decide) ?_
        refine ih (i + 1) _ (by omega) (by omega) ?_ (by omega)
        rw [km_on2_t q77] at hD
        exact hD
  have l1 : ∀ (D : mm_D) (j i : Nat) (T : Option Nat × Nat), i + j = 13 → 1 ≤ i → mm_sm T.1 → (D (.inl (some (.int (mm_enc (if km_on2 (m_sh M) c 13 18 (km_on1 (m_sh M) c i j T).2 = 1 then (km_on1 (m_sh M) c i j T).1 else none))))) (km_set h m M)) → T.2 + j < 40 → mm_W Γ l mM_only d D 7 [some (.ref m), some (.int (nI c)), some (.int (mm_enc T.1)), some (.int (nI T.2)), some (.int (nI i))] [] (km_set h m M) := by
    intro D j
    induction j with
    | zero =>
      intro i T hi h1 hT hD hn
      refine mm_iload dM_only_7 rfl ?_
      refine mm_bipush (v := nI 13) dM_only_9 (by decide) ?_
      refine mm_icmp_ge_T (tgt := 57) dM_only_11 (by decide) (nI_le (by omega) (by omega)) ?_
      refine mm_bipush (v := nI 13) dM_only_57 (by decide) ?_
      refine mm_istore dM_only_59 (by decide) rfl ?_
      exact l2 D T.1 hT 18 13 T.2 rfl (by decide) hD (by omega)
    | succ j ih =>
      intro i T hi h1 hT hD hn
      refine mm_iload dM_only_7 rfl ?_
      refine mm_bipush (v := nI 13) dM_only_9 (by decide) ?_
      refine mm_icmp_ge_F (tgt := 57) dM_only_11 (by decide) (nI_ge (by omega) (by omega)) ?_
      refine mm_iload_n dM_only_14 rfl rfl ?_
      refine mm_aload_n dM_only_15 rfl rfl ?_
      refine mm_getf dM_only_16 fM_7 (km_0 h m _) rfl ?_
      refine mm_iload dM_only_19 rfl ?_
      refine mm_iaload dM_only_21 (km_sh h m _) rfl (by omega) (by decide) ?_
      refine mm_iload_n dM_only_22 rfl rfl ?_
      refine mm_icmp_ne_k (tgt := 30) dM_only_23 (by decide) (km_sm31 o (by omega)) (by omega) (fun q23 => ?_) (fun q23 => ?_)
      · refine mm_iconst (v := nI 0) dM_only_30 (by decide) ?_
        refine mm_iadd dM_only_31 ?_
        refine mm_top (v' := .int (nI (T.2 + 0))) (congrArg Value.int (nI_add T.2 _)) ?_
        refine mm_istore_n dM_only_32 rfl (by decide) rfl ?_
        refine mm_aload_n dM_only_33 rfl rfl ?_
        refine mm_getf dM_only_34 fM_7 (km_0 h m _) rfl ?_
        refine mm_iload dM_only_37 rfl ?_
        refine mm_iaload dM_only_39 (km_sh h m _) rfl (by omega) (by decide) ?_
        refine mm_iload_n dM_only_40 rfl rfl ?_
        refine mm_icmp_ne_T (tgt := 49) dM_only_41 (by decide) (fun w => q23 ((mm_enc_some (km_sm31 o (by omega)) (by omega)).mp w)) ?_
        refine mm_iload_n dM_only_49 rfl rfl ?_
        refine mm_istore_n dM_only_50 rfl (by decide) rfl ?_
        refine mm_iinc dM_only_51 (by decide) rfl (mm_inc _) rfl ?_
        refine mm_goto (tgt := 7) dM_only_54 (by decide) ?_
        refine ih (i + 1) T (by omega) (by omega) hT ?_ (by first | omega | (simp only; omega))
        rw [km_on1_f q23] at hD
        exact hD
      · refine mm_iconst (v := nI 1) dM_only_26 (by decide) ?_
        refine mm_goto (tgt := 31) dM_only_27 (by decide) ?_
        refine mm_iadd dM_only_31 ?_
        refine mm_top (v' := .int (nI (T.2 + 1))) (congrArg Value.int (nI_add T.2 _)) ?_
        refine mm_istore_n dM_only_32 rfl (by decide) rfl ?_
        refine mm_aload_n dM_only_33 rfl rfl ?_
        refine mm_getf dM_only_34 fM_7 (km_0 h m _) rfl ?_
        refine mm_iload dM_only_37 rfl ?_
        refine mm_iaload dM_only_39 (km_sh h m _) rfl (by omega) (by decide) ?_
        refine mm_iload_n dM_only_40 rfl rfl ?_
        refine mm_icmp_ne_F (tgt := 49) dM_only_41 (by decide) (by rw [q23]; rfl) ?_
        refine mm_iload dM_only_44 rfl ?_
        refine mm_goto (tgt := 50) dM_only_46 (by decide) ?_
        refine mm_istore_n dM_only_50 rfl (by decide) rfl ?_
        refine mm_iinc dM_only_51 (by decide) rfl (mm_inc _) rfl ?_
        refine mm_goto (tgt := 7) dM_only_54 (by decide) ?_
        refine ih (i + 1) (some i, T.2 + 1) (by omega) (by omega) (mm_sm_some (by omega)) ?_ (by first | omega | (simp only; omega))
        rw [km_on1_t q23] at hD
        exact hD
  show mm_W Γ l mM_only d _ 0 [some (.ref m), some (.int (nI c)), none, none, none] [] _
  refine mm_iconst (v := -1) dM_only_0 (by decide) ?_
  refine mm_istore_n dM_only_1 rfl (by decide) rfl ?_
  refine mm_iconst (v := nI 0) dM_only_2 (by decide) ?_
  refine mm_istore_n dM_only_3 rfl (by decide) rfl ?_
  refine mm_iconst (v := nI 1) dM_only_4 (by decide) ?_
  refine mm_istore dM_only_5 (by decide) rfl ?_
  exact l1 _ 12 1 (none, 0) rfl (Nat.le_refl _) mm_sm_none ⟨rfl, rfl⟩ (by decide)
theorem kM_unwrap (o : kt_ok (km_S M)) (hm : m_mv M ≤ 20) (c : Int32) : mm_Ev Γ l (d + 1 + 1) mM_unwrap [.ref m, .int c] (km_set h m M) (mm_is (.inl (some (.int (nI (km_unwrap M c).1)))) (km_set h m (km_unwrap M c).2)) := by
  have l1 : ∀ (D : mm_D) (c' x : Nat) (a : Option Nat) (R : km_M), x < 13 → mm_sm a → D (.inl (some (.int (nI (m_mv R))))) (km_set h m R) → ∀ (j i : Nat) (M1 : km_M), i + j = 31 → km_ux x a i j M1 = R → (∀ q, i ≤ q → q < 31 → mm_sm (m_sh M1 q)) → mm_W Γ l mM_unwrap (d + 1 + 1) D 93 [some (.ref m), some (.int (nI c')), some (.int (nI x)), some (.int (mm_enc a)), some (.int (nI i))] [] (km_set h m M1) := by
    intro D c' x a R hx ha hD j
    induction j with
    | zero =>
      intro i M1 hi e hs
      have e : M1 = R := e
      subst e
      refine mm_iload dM_unwrap_93 rfl ?_
      refine mm_bipush (v := nI 31) dM_unwrap_95 (by decide) ?_
      refine mm_icmp_ge_T (tgt := 135) dM_unwrap_97 (by decide) (nI_le (by omega) (by omega)) ?_
      refine mm_aload_n dM_unwrap_135 rfl rfl ?_
      refine mm_getf dM_unwrap_136 fM_68 (km_0 h m _) rfl ?_
      refine mm_ireturn dM_unwrap_139 rfl ?_
      exact hD
    | succ j ih =>
      intro i M1 hi e hs
      have hs1 : ∀ o : Option Nat, ∀ q, i + 1 ≤ q → q < 31 → mm_sm (m_sh (km_st M1 i o) q) := fun o q g1 g2 => by
        show mm_sm (ks_u (m_sh M1) i o q)
        unfold ks_u
        rw [if_neg (by omega)]
        exact hs q (by omega) g2
      refine mm_iload dM_unwrap_93 rfl ?_
      refine mm_bipush (v := nI 31) dM_unwrap_95 (by decide) ?_
      refine mm_icmp_ge_F (tgt := 135) dM_unwrap_97 (by decide) (nI_ge (by omega) (by omega)) ?_
      refine mm_aload_n dM_unwrap_100 rfl rfl ?_
      refine mm_getf dM_unwrap_101 fM_7 (km_0 h m _) rfl ?_
      refine mm_iload dM_unwrap_104 rfl ?_
      refine mm_aload_n dM_unwrap_106 rfl rfl ?_
      refine mm_getf dM_unwrap_107 fM_7 (km_0 h m _) rfl ?_
      refine mm_iload dM_unwrap_110 rfl ?_
      refine mm_iaload dM_unwrap_112 (km_sh h m _) rfl (by omega) (by decide) ?_
      refine mm_iload_n dM_unwrap_113 rfl rfl ?_
      refine mm_icmp_ne_k (tgt := 121) dM_unwrap_114 (by decide) (hs i (Nat.le_refl _) (by omega)) (by omega) (fun q114 => ?_) (fun q114 => ?_)
      · refine mm_aload_n dM_unwrap_121 rfl rfl ?_
        refine mm_getf dM_unwrap_122 fM_7 (km_0 h m _) rfl ?_
        refine mm_iload dM_unwrap_125 rfl ?_
        refine mm_iaload dM_unwrap_127 (km_sh h m _) rfl (by omega) (by decide) ?_
        refine mm_iastore dM_unwrap_128 (km_sh h m _) rfl (by omega) (by decide) ?_
        refine mm_eqh (kv_sh h m _ _ (m_sh M1 i)).symm ?_
        refine mm_iinc dM_unwrap_129 (by decide) rfl (mm_inc _) rfl ?_
        refine mm_goto (tgt := 93) dM_unwrap_132 (by decide) ?_
        exact ih (i + 1) (km_st M1 i (m_sh M1 i)) (by omega) (by rw [← e, km_ux_f q114]) (hs1 _)
      · refine mm_iload_n dM_unwrap_117 rfl rfl ?_
        refine mm_goto (tgt := 128) dM_unwrap_118 (by decide) ?_
        refine mm_iastore dM_unwrap_128 (km_sh h m _) rfl (by omega) (by decide) ?_
        refine mm_eqh (kv_sh h m _ _ a).symm ?_
        refine mm_iinc dM_unwrap_129 (by decide) rfl (mm_inc _) rfl ?_
        refine mm_goto (tgt := 93) dM_unwrap_132 (by decide) ?_
        exact ih (i + 1) (km_st M1 i a) (by omega) (by rw [← e, km_ux_t q114]) (hs1 _)
  show mm_W Γ l mM_unwrap (d + 1 + 1) _ 0 [some (.ref m), some (.int c), none, none, none] [] _
  have tail : ∀ c' : Nat, c = nI c' → c' < 13 → ks_hasI (km_S M) (nI 1) c = true → mm_W Γ l mM_unwrap (d + 1 + 1) (mm_is (.inl (some (.int (nI (km_unwrap M c).1)))) (km_set h m (km_unwrap M c).2)) 53 [some (.ref m), some (.int c), some (.int (mm_enc (km_only (m_sh M) c'))), none, none] [.int (nI (km_uwT M c')), .ref m] (km_set h m (s_th M 0)) := by
    intro c' ec hc q6
    subst ec
    have cl : (nI c').toNatClampNeg = c' := nI_clamp (by omega)
    refine mm_putf dM_unwrap_53 fM_56 rfl rfl rfl rfl (km_0 h m _) (Nat.le_of_ble_eq_true rfl) ?_
    refine mm_eqh (ku_th h m _ (km_uwT M c')).symm ?_
    refine mm_aload_n dM_unwrap_56 rfl rfl ?_
    refine mm_getf dM_unwrap_57 fM_56 (km_0 h m _) rfl ?_
    refine mm_if_eq_n (tgt := 65) dM_unwrap_60 (by decide) (Nat.lt_of_le_of_lt (km_uwT_le M c') (by decide)) (fun q60 => ?_) (fun q60 => ?_)
    · have q60 : km_uwT M c' = 0 := q60
      obtain ⟨z1, ⟨x, hx⟩, z2⟩ := km_uwT_0 q60
      obtain ⟨x1, x2, x3⟩ := km_only_lt hx
      have hM : s_th (s_th M 0) (km_uwT M c') = s_th M 0 := by rw [q60]; rfl
      rw [hM, hx]
      refine mm_aload_n dM_unwrap_65 rfl rfl ?_
      refine mm_v0 dM_unwrap_66 lM_83 (km_0 h m _) (by decide) (Nat.le_of_ble_eq_true rfl) (kM_keep (M := s_th M 0) (fun _ => km_late_mv z2 hm)) ?_
      refine mm_aload_n dM_unwrap_69 rfl rfl ?_
      refine mm_getf dM_unwrap_70 fM_7 (km_0 h m _) rfl ?_
      refine mm_iload_n dM_unwrap_73 rfl rfl ?_
      refine mm_iaload dM_unwrap_74 (km_sh h m _) rfl (by omega) (by decide) ?_
      refine mm_istore_n dM_unwrap_75 rfl (by decide) rfl ?_
      refine mm_aload_n dM_unwrap_76 rfl rfl ?_
      refine mm_getf dM_unwrap_77 fM_7 (km_0 h m _) rfl ?_
      refine mm_iload_n dM_unwrap_80 rfl rfl ?_
      refine mm_iconst (v := -1) dM_unwrap_81 (by decide) ?_
      refine mm_iastore dM_unwrap_82 (km_sh h m _) rfl (by omega) (by decide) ?_
      refine mm_eqh (kv_sh h m _ _ none).symm ?_
      refine mm_aload_n dM_unwrap_83 rfl rfl ?_
      refine mm_getf dM_unwrap_84 fM_7 (km_0 h m _) rfl ?_
      refine mm_iload_n dM_unwrap_87 rfl rfl ?_
      refine mm_iconst (v := -1) dM_unwrap_88 (by decide) ?_
      refine mm_iastore dM_unwrap_89 (km_sh h m _) rfl (by omega) (by decide) ?_
      refine mm_eqh (kv_sh h m _ _ none).symm ?_
      refine mm_iconst (v := nI 1) dM_unwrap_90 (by decide) ?_
      refine mm_istore dM_unwrap_91 (by decide) rfl ?_
      have ek : m_sh (km_keep (s_th M 0)) = m_sh M := km_keep_sh _
      refine l1 _ c' x (m_sh (km_keep (s_th M 0)) c') _ x2 (by rw [ek]; exact km_sm31 o.1 (by omega)) (km_fin ((if_pos q6).trans (by rw [cl]; exact km_unwrapN_t q60 hx rfl))) 30 1 (km_st (km_st (km_keep (s_th M 0)) c' none) x none) rfl rfl (fun q g1 g2 => ?_)
      show mm_sm (ks_u (ks_u (m_sh (km_keep (s_th M 0))) c' none) x none q)
      rw [ek]
      unfold ks_u
      split
      · exact mm_sm_none
      · split
        · exact mm_sm_none
        · exact km_sm31 o.1 g2
    · have q60 : ¬ km_uwT M c' = 0 := q60
      refine mm_iconst (v := nI 0) dM_unwrap_63 (by decide) ?_
      refine mm_ireturn dM_unwrap_64 rfl ?_
      exact km_fin ((if_pos q6).trans (by rw [cl]; exact if_neg q60))
  refine mm_aload_n dM_unwrap_0 rfl rfl ?_
  refine mm_aload_n dM_unwrap_1 rfl rfl ?_
  refine mm_iload_n dM_unwrap_2 rfl rfl ?_
  refine mm_v1 dM_unwrap_3 lM_112 (km_0 h m _) rfl (by decide) (Nat.le_of_ble_eq_true rfl) (kM_isCut o.1 c) ?_
  refine mm_if_ne_b (tgt := 13) dM_unwrap_6 (by decide) (fun q6 => ?_) (fun q6 => ?_)
  · obtain ⟨c', x, hc, rfl, hx⟩ := ks_hasI_k (k := 1) (by decide) q6
    have hc : c' < 13 := hc
    refine mm_iconst (v := nI 0) dM_unwrap_13 (by decide) ?_
    refine mm_putf dM_unwrap_14 fM_56 rfl rfl rfl rfl (km_0 h m _) (Nat.le_of_ble_eq_true rfl) ?_
    refine mm_eqh (ku_th h m _ 0).symm ?_
    refine mm_aload_n dM_unwrap_17 rfl rfl ?_
    refine mm_getf dM_unwrap_18 fM_56 (km_0 h m _) rfl ?_
    refine mm_if_eq_T (tgt := 26) dM_unwrap_21 (by decide) rfl ?_
    refine mm_aload_n dM_unwrap_26 rfl rfl ?_
    refine mm_iload_n dM_unwrap_27 rfl rfl ?_
    refine mm_v1 dM_unwrap_28 lM_178 (km_0 h m _) rfl (by decide) (Nat.le_of_ble_eq_true rfl) (kM_only (M := s_th M 0) o.1 hc) ?_
    refine mm_istore_n dM_unwrap_31 rfl (by decide) rfl ?_
    refine mm_aload_n dM_unwrap_32 rfl rfl ?_
    refine mm_aload_n dM_unwrap_33 rfl rfl ?_
    refine mm_getf dM_unwrap_34 fM_64 (km_0 h m _) rfl ?_
    refine mm_if_eq_b (tgt := 45) dM_unwrap_37 (by decide) (fun q37 => ?_) (fun q37 => ?_)
    · refine mm_iconst (v := nI 2) dM_unwrap_45 (by decide) ?_
      refine mm_goto (tgt := 53) dM_unwrap_46 (by decide) ?_
      refine mm_top (v' := .int (nI (km_uwT M c'))) (by rw [show km_uwT M c' = 2 from if_pos (Or.inl q37)]; first | done | rfl) ?_
      exact tail c' rfl hc q6
    · refine mm_iload_n dM_unwrap_40 rfl rfl ?_
      refine mm_iconst (v := -1) dM_unwrap_41 (by decide) ?_
      refine mm_icmp_ne_o (tgt := 49) dM_unwrap_42 (by decide) (km_only_sm _ _) (fun q42 => ?_) (fun q42 => ?_)
      · refine mm_aload_n dM_unwrap_49 rfl rfl ?_
        refine mm_v0 dM_unwrap_50 lM_125 (km_0 h m _) (by decide) (Nat.le_of_ble_eq_true rfl) (kM_lateN (M := s_th M 0) hm) ?_
        refine mm_top (v' := .int (nI (km_uwT M c'))) (by rw [show km_uwT M c' = km_late M from if_neg (fun w => w.elim (fun w => by have q37 : m_st M = true := q37; rw [q37] at w; cases w) q42)]; first | done | rfl) ?_
        exact tail c' rfl hc q6
      · refine mm_iconst (v := nI 2) dM_unwrap_45 (by decide) ?_
        refine mm_goto (tgt := 53) dM_unwrap_46 (by decide) ?_
        refine mm_top (v' := .int (nI (km_uwT M c'))) (by rw [show km_uwT M c' = 2 from if_pos (Or.inr q42)]; first | done | rfl) ?_
        exact tail c' rfl hc q6
  · refine mm_iconst (v := nI 1) dM_unwrap_9 (by decide) ?_
    refine mm_goto (tgt := 14) dM_unwrap_10 (by decide) ?_
    refine mm_putf dM_unwrap_14 fM_56 rfl rfl rfl rfl (km_0 h m _) (Nat.le_of_ble_eq_true rfl) ?_
    refine mm_eqh (ku_th h m _ 1).symm ?_
    refine mm_aload_n dM_unwrap_17 rfl rfl ?_
    refine mm_getf dM_unwrap_18 fM_56 (km_0 h m _) rfl ?_
    refine mm_if_eq_F (tgt := 26) dM_unwrap_21 (by decide) (show ¬ nI 1 = 0 by decide) ?_
    refine mm_iconst (v := nI 0) dM_unwrap_24 (by decide) ?_
    refine mm_ireturn dM_unwrap_25 rfl ?_
    exact km_fin (if_neg (by rw [q6]; decide))
theorem kM_join (o : kt_ok (km_S M)) (hm : m_mv M ≤ 20) (f s : Int32) : mm_Ev Γ l (d + 1 + 1) mM_join [.ref m, .int f, .int s] (km_set h m M) (mm_is (.inl (some (.int (nI (km_join M f s).1)))) (km_set h m (km_join M f s).2)) := by
  have l1 : ∀ (D : mm_D) (x s' : Nat) (v3 : Value) (R : km_M), x < 6 → s' < 6 → D (.inl (some (.int (nI (m_mv R))))) (km_set h m R) → ∀ (j i : Nat) (M1 : km_M), i + j = 67 → km_ux x (some s') i j M1 = R → (∀ q, i ≤ q → q < 67 → mm_sm (m_sh M1 q)) → mm_W Γ l mM_join (d + 1 + 1) D 122 [some (.ref m), some (.int (nI x)), some (.int (nI s')), some v3, some (.int (nI i))] [] (km_set h m M1) := by
    intro D x s' v3 R hx hs' hD j
    induction j with
    | zero =>
      intro i M1 hi e hs
      have e : M1 = R := e
      subst e
      refine mm_iload dM_join_122 rfl ?_
      refine mm_bipush (v := nI 67) dM_join_124 (by decide) ?_
      refine mm_icmp_ge_T (tgt := 164) dM_join_126 (by decide) (nI_le (by omega) (by omega)) ?_
      refine mm_aload_n dM_join_164 rfl rfl ?_
      refine mm_getf dM_join_165 fM_68 (km_0 h m _) rfl ?_
      refine mm_ireturn dM_join_168 rfl ?_
      exact hD
    | succ j ih =>
      intro i M1 hi e hs
      have hs1 : ∀ o : Option Nat, ∀ q, i + 1 ≤ q → q < 67 → mm_sm (m_sh (km_st M1 i o) q) := fun o q g1 g2 => by
        show mm_sm (ks_u (m_sh M1) i o q)
        unfold ks_u
        rw [if_neg (by omega)]
        exact hs q (by omega) g2
      refine mm_iload dM_join_122 rfl ?_
      refine mm_bipush (v := nI 67) dM_join_124 (by decide) ?_
      refine mm_icmp_ge_F (tgt := 164) dM_join_126 (by decide) (nI_ge (by omega) (by omega)) ?_
      refine mm_aload_n dM_join_129 rfl rfl ?_
      refine mm_getf dM_join_130 fM_7 (km_0 h m _) rfl ?_
      refine mm_iload dM_join_133 rfl ?_
      refine mm_aload_n dM_join_135 rfl rfl ?_
      refine mm_getf dM_join_136 fM_7 (km_0 h m _) rfl ?_
      refine mm_iload dM_join_139 rfl ?_
      refine mm_iaload dM_join_141 (km_sh h m _) rfl (by omega) (by decide) ?_
      refine mm_iload_n dM_join_142 rfl rfl ?_
      refine mm_icmp_ne_k (tgt := 150) dM_join_143 (by decide) (hs i (Nat.le_refl _) (by omega)) (by omega) (fun q143 => ?_) (fun q143 => ?_)
      · refine mm_aload_n dM_join_150 rfl rfl ?_
        refine mm_getf dM_join_151 fM_7 (km_0 h m _) rfl ?_
        refine mm_iload dM_join_154 rfl ?_
        refine mm_iaload dM_join_156 (km_sh h m _) rfl (by omega) (by decide) ?_
        refine mm_iastore dM_join_157 (km_sh h m _) rfl (by omega) (by decide) ?_
        refine mm_eqh (kv_sh h m _ _ (m_sh M1 i)).symm ?_
        refine mm_iinc dM_join_158 (by decide) rfl (mm_inc _) rfl ?_
        refine mm_goto (tgt := 122) dM_join_161 (by decide) ?_
        exact ih (i + 1) (km_st M1 i (m_sh M1 i)) (by omega) (by rw [← e, km_ux_f q143]) (hs1 _)
      · refine mm_iload_n dM_join_146 rfl rfl ?_
        refine mm_goto (tgt := 157) dM_join_147 (by decide) ?_
        refine mm_iastore dM_join_157 (km_sh h m _) rfl (by omega) (by decide) ?_
        refine mm_eqh (kv_sh h m _ _ (some s')).symm ?_
        refine mm_iinc dM_join_158 (by decide) rfl (mm_inc _) rfl ?_
        refine mm_goto (tgt := 122) dM_join_161 (by decide) ?_
        exact ih (i + 1) (km_st M1 i (some s')) (by omega) (by rw [← e, km_ux_t q143]) (hs1 _)
  have bad : (ks_hasI (km_S M) (nI 2) f && (ks_hasI (km_S M) (nI 2) s && decide (¬ f = s))) = false → mm_W Γ l mM_join (d + 1 + 1) (mm_is (.inl (some (.int (nI (km_join M f s).1)))) (km_set h m (km_join M f s).2)) 22 [some (.ref m), some (.int f), some (.int s), none, none] [.ref m] (km_set h m M) := by
    intro hb
    refine mm_iconst (v := nI 1) dM_join_22 (by decide) ?_
    refine mm_goto (tgt := 27) dM_join_23 (by decide) ?_
    refine mm_putf dM_join_27 fM_56 rfl rfl rfl rfl (km_0 h m _) (Nat.le_of_ble_eq_true rfl) ?_
    refine mm_eqh (ku_th h m _ 1).symm ?_
    refine mm_aload_n dM_join_30 rfl rfl ?_
    refine mm_getf dM_join_31 fM_56 (km_0 h m _) rfl ?_
    refine mm_if_eq_F (tgt := 39) dM_join_34 (by decide) (show ¬ nI 1 = 0 by decide) ?_
    refine mm_iconst (v := nI 0) dM_join_37 (by decide) ?_
    refine mm_ireturn dM_join_38 rfl ?_
    exact km_fin (if_neg (by rw [hb]; decide))
  show mm_W Γ l mM_join (d + 1 + 1) _ 0 [some (.ref m), some (.int f), some (.int s), none, none] [] _
  have good : ∀ (f' s' x y : Nat), f = nI f' → s = nI s' → f' < 6 → s' < 6 → (km_S M).2.2.1 f' = some x → (km_S M).2.2.1 s' = some y → (ks_hasI (km_S M) (nI 2) f && (ks_hasI (km_S M) (nI 2) s && decide (¬ f = s))) = true → mm_W Γ l mM_join (d + 1 + 1) (mm_is (.inl (some (.int (nI (km_join M f s).1)))) (km_set h m (km_join M f s).2)) 26 [some (.ref m), some (.int f), some (.int s), none, none] [.ref m] (km_set h m M) := by
    intro f' s' x y ef es hf hs hx hy hb
    subst ef es
    have cf : (nI f').toNatClampNeg = f' := nI_clamp (by omega)
    have cs : (nI s').toNatClampNeg = s' := nI_clamp (by omega)
    have hx2 : m_sh M (13 + f') = some x := (kz_l _ hf).symm.trans hx
    have hy2 : m_sh M (13 + s') = some y := (kz_l _ hs).symm.trans hy
    have kx := o.2.1 2 f' x (by decide) hf hx
    have ky := o.2.1 2 s' y (by decide) hs hy
    have y13 := ky.1
    have hl12 := km_dp_le (km_S M) x
    have tail : mm_W Γ l mM_join (d + 1 + 1) (mm_is (.inl (some (.int (nI (km_join M (nI f') (nI s')).1)))) (km_set h m (km_join M (nI f') (nI s')).2)) 92 [some (.ref m), some (.int (nI f')), some (.int (nI s')), some (.int (nI x)), none] [.int (nI (km_joT M f' s')), .ref m] (km_set h m (s_th M 0)) := by
      refine mm_putf dM_join_92 fM_56 rfl rfl rfl rfl (km_0 h m _) (Nat.le_of_ble_eq_true rfl) ?_
      refine mm_eqh (ku_th h m _ (km_joT M f' s')).symm ?_
      refine mm_aload_n dM_join_95 rfl rfl ?_
      refine mm_getf dM_join_96 fM_56 (km_0 h m _) rfl ?_
      refine mm_if_eq_n (tgt := 104) dM_join_99 (by decide) (Nat.lt_of_le_of_lt (km_joT_le M f' s') (by decide)) (fun q99 => ?_) (fun q99 => ?_)
      · have q99 : km_joT M f' s' = 0 := q99
        have z0 := km_joT_0 q99
        have hM : s_th (s_th M 0) (km_joT M f' s') = s_th M 0 := by rw [q99]; rfl
        rw [hM]
        refine mm_aload_n dM_join_104 rfl rfl ?_
        refine mm_v0 dM_join_105 lM_83 (km_0 h m _) (by decide) (Nat.le_of_ble_eq_true rfl) (kM_keep (M := s_th M 0) (fun _ => km_late_mv z0.2 hm)) ?_
        refine mm_aload_n dM_join_108 rfl rfl ?_
        refine mm_getf dM_join_109 fM_7 (km_0 h m _) rfl ?_
        refine mm_bipush (v := nI 13) dM_join_112 (by decide) ?_
        refine mm_iload_n dM_join_114 rfl rfl ?_
        refine mm_iadd dM_join_115 ?_
        refine mm_iconst (v := -1) dM_join_116 (by decide) ?_
        refine mm_iastore dM_join_117 (km_sh h m _) (nI_add 13 f') (by omega) (by decide) ?_
        refine mm_eqh (kv_sh h m _ _ none).symm ?_
        refine mm_bipush (v := nI 43) dM_join_118 (by decide) ?_
        refine mm_istore dM_join_120 (by decide) rfl ?_
        have ek : m_sh (km_keep (s_th M 0)) = m_sh M := km_keep_sh _
        refine l1 _ f' s' _ _ hf hs (km_fin ((if_pos hb).trans (by rw [cf, cs]; exact km_joinN_t q99 rfl))) 24 43 (km_st (km_keep (s_th M 0)) (13 + f') none) rfl rfl (fun q g1 g2 => ?_)
        show mm_sm (ks_u (m_sh (km_keep (s_th M 0))) (13 + f') none q)
        rw [ek]
        unfold ks_u
        rw [if_neg (by omega)]
        exact km_sm43 o.1 g1 g2
      · have q99 : ¬ km_joT M f' s' = 0 := q99
        refine mm_iconst (v := nI 0) dM_join_102 (by decide) ?_
        refine mm_ireturn dM_join_103 rfl ?_
        exact km_fin ((if_pos hb).trans (by rw [cf, cs]; exact if_neg q99))
    refine mm_iconst (v := nI 0) dM_join_26 (by decide) ?_
    refine mm_putf dM_join_27 fM_56 rfl rfl rfl rfl (km_0 h m _) (Nat.le_of_ble_eq_true rfl) ?_
    refine mm_eqh (ku_th h m _ 0).symm ?_
    refine mm_aload_n dM_join_30 rfl rfl ?_
    refine mm_getf dM_join_31 fM_56 (km_0 h m _) rfl ?_
    refine mm_if_eq_T (tgt := 39) dM_join_34 (by decide) rfl ?_
    refine mm_aload_n dM_join_39 rfl rfl ?_
    refine mm_getf dM_join_40 fM_7 (km_0 h m _) rfl ?_
    refine mm_bipush (v := nI 13) dM_join_43 (by decide) ?_
    refine mm_iload_n dM_join_45 rfl rfl ?_
    refine mm_iadd dM_join_46 ?_
    refine mm_iaload dM_join_47 (km_sh h m _) (nI_add 13 f') (by omega) (by decide) ?_
    refine mm_top (v' := .int (nI x)) (congrArg Value.int (show mm_enc (m_sh M (13 + f')) = nI x by rw [hx2]; rfl)) ?_
    refine mm_istore_n dM_join_48 rfl (by decide) rfl ?_
    refine mm_aload_n dM_join_49 rfl rfl ?_
    refine mm_aload_n dM_join_50 rfl rfl ?_
    refine mm_getf dM_join_51 fM_64 (km_0 h m _) rfl ?_
    refine mm_if_eq_b (tgt := 84) dM_join_54 (by decide) (fun q54 => ?_) (fun q54 => ?_)
    · refine mm_iconst (v := nI 2) dM_join_84 (by decide) ?_
      refine mm_goto (tgt := 92) dM_join_85 (by decide) ?_
      refine mm_top (v' := .int (nI (km_joT M f' s'))) (by rw [show km_joT M f' s' = 2 from if_pos (Or.inl q54)]; first | done | rfl) ?_
      exact tail
    · refine mm_aload_n dM_join_57 rfl rfl ?_
      refine mm_iload_n dM_join_58 rfl rfl ?_
      refine mm_v1 dM_join_59 lM_71 (km_0 h m _) rfl (by decide) (Nat.le_of_ble_eq_true rfl) (kM_depthOf (M := s_th M 0) o.1 kx) ?_
      refine mm_top (v' := .int (nI (km_dp (km_S M) x))) rfl ?_
      refine mm_iconst (v := nI 2) dM_join_62 (by decide) ?_
      refine mm_irem dM_join_63 (by decide) ?_
      refine mm_top (v' := .int (nI (km_dp (km_S M) x % 2))) (congrArg Value.int (pk_rem (by omega) (by decide) (by decide))) ?_
      refine mm_if_eq_n (tgt := 84) dM_join_64 (by decide) (by omega) (fun q64 => ?_) (fun q64 => ?_)
      · refine mm_iconst (v := nI 2) dM_join_84 (by decide) ?_
        refine mm_goto (tgt := 92) dM_join_85 (by decide) ?_
        refine mm_top (v' := .int (nI (km_joT M f' s'))) (by rw [show km_joT M f' s' = 2 from if_pos (Or.inr (Or.inl (by rw [show ((km_S M).2.2.1 f').getD 0 = x by rw [hx]; rfl]; exact q64)))]; first | done | rfl) ?_
        exact tail
      · refine mm_aload_n dM_join_67 rfl rfl ?_
        refine mm_iload_n dM_join_68 rfl rfl ?_
        refine mm_aload_n dM_join_69 rfl rfl ?_
        refine mm_getf dM_join_70 fM_7 (km_0 h m _) rfl ?_
        refine mm_bipush (v := nI 13) dM_join_73 (by decide) ?_
        refine mm_iload_n dM_join_75 rfl rfl ?_
        refine mm_iadd dM_join_76 ?_
        refine mm_iaload dM_join_77 (km_sh h m _) (nI_add 13 s') (by omega) (by decide) ?_
        refine mm_top (v' := .int (nI y)) (congrArg Value.int (show mm_enc (m_sh M (13 + s')) = nI y by rw [hy2]; rfl)) ?_
        refine mm_v2 dM_join_78 lM_92 (km_0 h m _) rfl rfl (by decide) (Nat.le_of_ble_eq_true rfl) (kM_isWithin (M := s_th M 0) o.1 kx (by omega)) ?_
        refine mm_if_ne_b (tgt := 88) dM_join_81 (by decide) (fun q81 => ?_) (fun q81 => ?_)
        · refine mm_aload_n dM_join_88 rfl rfl ?_
          refine mm_v0 dM_join_89 lM_125 (km_0 h m _) (by decide) (Nat.le_of_ble_eq_true rfl) (kM_lateN (M := s_th M 0) hm) ?_
          refine mm_top (v' := .int (nI (km_joT M f' s'))) (by rw [show km_joT M f' s' = km_late M from if_neg (fun w => w.elim (fun w => by have q54 : m_st M = true := q54; rw [q54] at w; cases w) (fun w => w.elim (fun w => q64 (by rw [show ((km_S M).2.2.1 f').getD 0 = x by rw [hx]; rfl] at w; exact w)) (fun w => by rw [hx, hy] at w; have q81 : ks_in (km_S M) (some x) (some y) = true := q81; rw [q81] at w; cases w)))]; first | done | rfl) ?_
          exact tail
        · refine mm_iconst (v := nI 2) dM_join_84 (by decide) ?_
          refine mm_goto (tgt := 92) dM_join_85 (by decide) ?_
          refine mm_top (v' := .int (nI (km_joT M f' s'))) (by rw [show km_joT M f' s' = 2 from if_pos (Or.inr (Or.inr (by rw [hx, hy]; exact q81)))]; first | done | rfl) ?_
          exact tail
  refine mm_aload_n dM_join_0 rfl rfl ?_
  refine mm_aload_n dM_join_1 rfl rfl ?_
  refine mm_iload_n dM_join_2 rfl rfl ?_
  refine mm_v1 dM_join_3 lM_89 (km_0 h m _) rfl (by decide) (Nat.le_of_ble_eq_true rfl) (kM_isLine o.1 f) ?_
  refine mm_if_eq_b (tgt := 22) dM_join_6 (by decide) (fun q6 => ?_) (fun q6 => ?_)
  · exact bad (by rw [q6]; rfl)
  · refine mm_aload_n dM_join_9 rfl rfl ?_
    refine mm_iload_n dM_join_10 rfl rfl ?_
    refine mm_v1 dM_join_11 lM_89 (km_0 h m _) rfl (by decide) (Nat.le_of_ble_eq_true rfl) (kM_isLine o.1 s) ?_
    refine mm_if_eq_b (tgt := 22) dM_join_14 (by decide) (fun q14 => ?_) (fun q14 => ?_)
    · exact bad (by rw [q6, q14]; rfl)
    · refine mm_iload_n dM_join_17 rfl rfl ?_
      refine mm_iload_n dM_join_18 rfl rfl ?_
      refine mm_icmp_ne (tgt := 26) dM_join_19 (by decide) (fun q19 => ?_) (fun q19 => ?_)
      · obtain ⟨f', x, hf, ef, hx⟩ := ks_hasI_k (k := 2) (by decide) q6
        obtain ⟨s', y, hs, es, hy⟩ := ks_hasI_k (k := 2) (by decide) q14
        exact good f' s' x y ef es hf hs hx hy (by rw [q6, q14, decide_eq_true q19]; rfl)
      · exact bad (by rw [q6, q14, decide_eq_false (fun w => w q19)]; rfl)
theorem kM_back (hm : m_mv M ≤ 20) : mm_Ev Γ l d mM_back [.ref m] (km_set h m M) (mm_is (.inl (some (.int (nI (km_back M).1)))) (km_set h m (km_back M).2)) := by
  have l1 : ¬ m_mv M = 0 → ∀ (j i : Nat), i + j = 67 → mm_W Γ l mM_back d (mm_is (.inl (some (.int (nI (km_back M).1)))) (km_set h m (km_back M).2)) 37 [some (.ref m), some (.int (nI i))] [] (km_set h m (s_sh (s_mv (s_th M 0) (m_mv M - 1)) (km_bk (m_sh M) (m_kp M) (67 * (m_mv M - 1)) i))) := by
    intro h0 j
    induction j with
    | zero =>
      intro i hi
      have hi : i = 67 := by omega
      subst hi
      refine mm_iload_n dM_back_37 rfl rfl ?_
      refine mm_bipush (v := nI 67) dM_back_38 (by decide) ?_
      refine mm_icmp_ge_T (tgt := 69) dM_back_40 (by decide) (nI_le (by omega) (by omega)) ?_
      refine mm_aload_n dM_back_69 rfl rfl ?_
      refine mm_getf dM_back_70 fM_68 (km_0 h m _) rfl ?_
      refine mm_ireturn dM_back_73 rfl ?_
      exact km_fin (if_neg h0)
    | succ j ih =>
      intro i hi
      have hh := ih (i + 1) (by omega)
      rw [← km_bk_u] at hh
      refine mm_iload_n dM_back_37 rfl rfl ?_
      refine mm_bipush (v := nI 67) dM_back_38 (by decide) ?_
      refine mm_icmp_ge_F (tgt := 69) dM_back_40 (by decide) (nI_ge (by omega) (by omega)) ?_
      refine mm_aload_n dM_back_43 rfl rfl ?_
      refine mm_getf dM_back_44 fM_7 (km_0 h m _) rfl ?_
      refine mm_iload_n dM_back_47 rfl rfl ?_
      refine mm_aload_n dM_back_48 rfl rfl ?_
      refine mm_getf dM_back_49 fM_13 (km_0 h m _) rfl ?_
      refine mm_bipush (v := nI 67) dM_back_52 (by decide) ?_
      refine mm_aload_n dM_back_54 rfl rfl ?_
      refine mm_getf dM_back_55 fM_68 (km_0 h m _) rfl ?_
      refine mm_imul dM_back_58 ?_
      refine mm_iload_n dM_back_59 rfl rfl ?_
      refine mm_iadd dM_back_60 ?_
      refine mm_iaload dM_back_61 (km_kp h m _) (by rw [pk_mul, nI_add]) (by show 67 * (m_mv M - 1) + i < 1407; omega) (by decide) ?_
      refine mm_iastore dM_back_62 (km_sh h m _) rfl (by omega) (by decide) ?_
      refine mm_eqh (kv_sh h m _ _ (m_kp M (67 * (m_mv M - 1) + i))).symm ?_
      refine mm_iinc dM_back_63 (by decide) rfl (mm_inc _) rfl ?_
      refine mm_goto (tgt := 37) dM_back_66 (by decide) ?_
      exact hh
  show mm_W Γ l mM_back d _ 0 [some (.ref m), none] [] _
  refine mm_aload_n dM_back_0 rfl rfl ?_
  refine mm_aload_n dM_back_1 rfl rfl ?_
  refine mm_getf dM_back_2 fM_68 (km_0 h m _) rfl ?_
  refine mm_if_ne_n (tgt := 12) dM_back_5 (by decide) (by omega) (fun q5 => ?_) (fun q5 => ?_)
  · refine mm_iconst (v := nI 0) dM_back_12 (by decide) ?_
    refine mm_putf dM_back_13 fM_56 rfl rfl rfl rfl (km_0 h m _) (Nat.le_of_ble_eq_true rfl) ?_
    refine mm_eqh (ku_th h m _ 0).symm ?_
    refine mm_aload_n dM_back_16 rfl rfl ?_
    refine mm_getf dM_back_17 fM_56 (km_0 h m _) rfl ?_
    refine mm_if_eq_T (tgt := 25) dM_back_20 (by decide) rfl ?_
    refine mm_aload_n dM_back_25 rfl rfl ?_
    refine mm_dup dM_back_26 rfl ?_
    refine mm_getf dM_back_27 fM_68 (km_0 h m _) rfl ?_
    refine mm_iconst (v := nI 1) dM_back_30 (by decide) ?_
    refine mm_isub dM_back_31 ?_
    refine mm_top (v' := .int (nI (m_mv M - 1))) (congrArg Value.int (show nI (m_mv M) - nI 1 = nI (m_mv M - 1) from pk_sub (by omega))) ?_
    refine mm_putf dM_back_32 fM_68 rfl rfl rfl rfl (km_0 h m _) (Nat.le_of_ble_eq_true rfl) ?_
    refine mm_eqh (ku_mv h m _ (m_mv M - 1)).symm ?_
    have hh := l1 q5 67 0 rfl
    rw [km_bk_0] at hh
    refine mm_iconst (v := nI 0) dM_back_35 (by decide) ?_
    refine mm_istore_n dM_back_36 rfl (by decide) rfl ?_
    exact hh
  · refine mm_iconst (v := nI 1) dM_back_8 (by decide) ?_
    refine mm_goto (tgt := 13) dM_back_9 (by decide) ?_
    refine mm_putf dM_back_13 fM_56 rfl rfl rfl rfl (km_0 h m _) (Nat.le_of_ble_eq_true rfl) ?_
    refine mm_eqh (ku_th h m _ 1).symm ?_
    refine mm_aload_n dM_back_16 rfl rfl ?_
    refine mm_getf dM_back_17 fM_56 (km_0 h m _) rfl ?_
    refine mm_if_eq_F (tgt := 25) dM_back_20 (by decide) (show ¬ nI 1 = 0 by decide) ?_
    refine mm_iconst (v := nI 0) dM_back_23 (by decide) ?_
    refine mm_ireturn dM_back_24 rfl ?_
    exact km_fin (if_pos q5)
theorem kM_depth (o : kt_ok (km_S M)) (a : Int32) : mm_Ev Γ l (d + 1) mM_depth [.ref m, .int a] (km_set h m M) (mm_is (.inl (some (.int (nI (km_depth M a).1)))) (km_set h m (km_depth M a).2)) := by
  show mm_W Γ l mM_depth (d + 1) _ 0 [some (.ref m), some (.int a)] [] _
  refine mm_aload_n dM_depth_0 rfl rfl ?_
  refine mm_aload_n dM_depth_1 rfl rfl ?_
  refine mm_iload_n dM_depth_2 rfl rfl ?_
  refine mm_v1 dM_depth_3 lM_60 (km_0 h m _) rfl (by decide) (Nat.le_of_ble_eq_true rfl) (kM_isArea o.1 a) ?_
  refine mm_if_eq_b (tgt := 13) dM_depth_6 (by decide) (fun q6 => ?_) (fun q6 => ?_)
  · refine mm_iconst (v := nI 1) dM_depth_13 (by decide) ?_
    refine mm_putf dM_depth_14 fM_56 rfl rfl rfl rfl (km_0 h m _) (Nat.le_of_ble_eq_true rfl) ?_
    refine mm_eqh (ku_th h m _ 1).symm ?_
    refine mm_aload_n dM_depth_17 rfl rfl ?_
    refine mm_getf dM_depth_18 fM_56 (km_0 h m _) rfl ?_
    refine mm_if_ne_T (tgt := 32) dM_depth_21 (by decide) (show ¬ nI 1 = 0 by decide) ?_
    refine mm_iconst (v := nI 0) dM_depth_32 (by decide) ?_
    refine mm_ireturn dM_depth_33 rfl ?_
    exact km_fin (if_neg (by rw [q6]; decide))
  · obtain ⟨i, hi, rfl, ht⟩ := km_har o q6
    have cl : (nI i).toNatClampNeg = i := nI_clamp (by omega)
    refine mm_iconst (v := nI 0) dM_depth_9 (by decide) ?_
    refine mm_goto (tgt := 14) dM_depth_10 (by decide) ?_
    refine mm_putf dM_depth_14 fM_56 rfl rfl rfl rfl (km_0 h m _) (Nat.le_of_ble_eq_true rfl) ?_
    refine mm_eqh (ku_th h m _ 0).symm ?_
    refine mm_aload_n dM_depth_17 rfl rfl ?_
    refine mm_getf dM_depth_18 fM_56 (km_0 h m _) rfl ?_
    refine mm_if_ne_F (tgt := 32) dM_depth_21 (by decide) rfl ?_
    refine mm_aload_n dM_depth_24 rfl rfl ?_
    refine mm_iload_n dM_depth_25 rfl rfl ?_
    refine mm_v1 dM_depth_26 lM_71 (km_0 h m _) rfl (by decide) (Nat.le_of_ble_eq_true rfl) (kM_depthOf (M := s_th M 0) o.1 ht) ?_
    refine mm_goto (tgt := 33) dM_depth_29 (by decide) ?_
    refine mm_ireturn dM_depth_33 rfl ?_
    exact km_fin ((if_pos q6).trans (by rw [cl]; rfl))
theorem kM_token (hr : m_rd M ≤ 70) (i : Int32) : mm_Ev Γ l d mM_token [.ref m, .int i] (km_set h m M) (mm_is (.inl (some (.int (nI (km_token M i).1)))) (km_set h m (km_token M i).2)) := by
  show mm_W Γ l mM_token d _ 0 [some (.ref m), some (.int i)] [] _
  refine mm_aload_n dM_token_0 rfl rfl ?_
  refine mm_iload_n dM_token_1 rfl rfl ?_
  refine mm_if_lt (tgt := 13) dM_token_2 (by decide) (fun q2 => ?_) (fun q2 => ?_)
  · refine mm_iconst (v := nI 1) dM_token_13 (by decide) ?_
    refine mm_goto (tgt := 18) dM_token_14 (by decide) ?_
    refine mm_putf dM_token_18 fM_56 rfl rfl rfl rfl (km_0 h m _) (Nat.le_of_ble_eq_true rfl) ?_
    refine mm_eqh (ku_th h m _ 1).symm ?_
    refine mm_aload_n dM_token_21 rfl rfl ?_
    refine mm_getf dM_token_22 fM_56 (km_0 h m _) rfl ?_
    refine mm_if_ne_T (tgt := 37) dM_token_25 (by decide) (show ¬ nI 1 = 0 by decide) ?_
    refine mm_iconst (v := nI 0) dM_token_37 (by decide) ?_
    refine mm_ireturn dM_token_38 rfl ?_
    exact km_fin (if_neg (by rw [decide_eq_false (fun w => by rw [Int32.le_iff_toInt_le] at w; rw [Int32.lt_iff_toInt_lt] at q2; omega)]; exact Bool.false_ne_true))
  · obtain ⟨j, hj, rfl⟩ := nI_of q2
    have cl : (nI j).toNatClampNeg = j := nI_clamp hj
    refine mm_iload_n dM_token_5 rfl rfl ?_
    refine mm_aload_n dM_token_6 rfl rfl ?_
    refine mm_getf dM_token_7 fM_151 (km_0 h m _) rfl ?_
    refine mm_icmp_lt_n (tgt := 17) dM_token_10 (by decide) hj (by omega) (fun q10 => ?_) (fun q10 => ?_)
    · refine mm_iconst (v := nI 0) dM_token_17 (by decide) ?_
      refine mm_putf dM_token_18 fM_56 rfl rfl rfl rfl (km_0 h m _) (Nat.le_of_ble_eq_true rfl) ?_
      refine mm_eqh (ku_th h m _ 0).symm ?_
      refine mm_aload_n dM_token_21 rfl rfl ?_
      refine mm_getf dM_token_22 fM_56 (km_0 h m _) rfl ?_
      refine mm_if_ne_F (tgt := 37) dM_token_25 (by decide) rfl ?_
      refine mm_aload_n dM_token_28 rfl rfl ?_
      refine mm_getf dM_token_29 fM_16 (km_0 h m _) rfl ?_
      refine mm_iload_n dM_token_32 rfl rfl ?_
      refine mm_iaload dM_token_33 (km_tk h m _) rfl (by omega) (by decide) ?_
      refine mm_goto (tgt := 38) dM_token_34 (by decide) ?_
      refine mm_ireturn dM_token_38 rfl ?_
      exact km_fin ((if_pos (by rw [decide_eq_true (nI_pos' hj), decide_eq_true ((nI_ltI hj (by omega)).mpr q10)]; rfl)).trans (by rw [cl]; rfl))
    · refine mm_iconst (v := nI 1) dM_token_13 (by decide) ?_
      refine mm_goto (tgt := 18) dM_token_14 (by decide) ?_
      refine mm_putf dM_token_18 fM_56 rfl rfl rfl rfl (km_0 h m _) (Nat.le_of_ble_eq_true rfl) ?_
      refine mm_eqh (ku_th h m _ 1).symm ?_
      refine mm_aload_n dM_token_21 rfl rfl ?_
      refine mm_getf dM_token_22 fM_56 (km_0 h m _) rfl ?_
      refine mm_if_ne_T (tgt := 37) dM_token_25 (by decide) (show ¬ nI 1 = 0 by decide) ?_
      refine mm_iconst (v := nI 0) dM_token_37 (by decide) ?_
      refine mm_ireturn dM_token_38 rfl ?_
      exact km_fin (if_neg (by rw [decide_eq_false (p := nI j < nI (m_rd M)) (fun w => by rw [nI_ltI hj (by omega)] at w; omega), Bool.and_false]; exact Bool.false_ne_true))
theorem kM_count (o : ks_ok (km_S M)) (n : Int32) : mm_Ev Γ l (d + 1) mM_count [.ref m, .int n] (km_set h m M) (mm_is (.inl (some (.int (nI (km_count M n).1)))) (km_set h m (km_count M n).2)) := by
  show mm_W Γ l mM_count (d + 1) _ 0 [some (.ref m), some (.int n)] [] _
  refine mm_aload_n dM_count_0 rfl rfl ?_
  refine mm_iload_n dM_count_1 rfl rfl ?_
  refine mm_if_lt (tgt := 10) dM_count_2 (by decide) (fun q2 => ?_) (fun q2 => ?_)
  · refine mm_iconst (v := nI 1) dM_count_10 (by decide) ?_
    refine mm_goto (tgt := 15) dM_count_11 (by decide) ?_
    refine mm_putf dM_count_15 fM_56 rfl rfl rfl rfl (km_0 h m _) (Nat.le_of_ble_eq_true rfl) ?_
    refine mm_eqh (ku_th h m _ 1).symm ?_
    refine mm_aload_n dM_count_18 rfl rfl ?_
    refine mm_getf dM_count_19 fM_56 (km_0 h m _) rfl ?_
    refine mm_if_eq_F (tgt := 29) dM_count_22 (by decide) (show ¬ nI 1 = 0 by decide) ?_
    refine mm_iconst (v := nI 0) dM_count_25 (by decide) ?_
    refine mm_goto (tgt := 79) dM_count_26 (by decide) ?_
    refine mm_ireturn dM_count_79 rfl ?_
    exact km_fin (if_neg (by rw [decide_eq_false (fun w => by rw [Int32.le_iff_toInt_le] at w; rw [Int32.lt_iff_toInt_lt] at q2; omega)]; exact Bool.false_ne_true))
  · refine mm_iload_n dM_count_5 rfl rfl ?_
    refine mm_iconst (v := nI 3) dM_count_6 (by decide) ?_
    refine mm_icmp_le (tgt := 14) dM_count_7 (by decide) (fun q7 => ?_) (fun q7 => ?_)
    · refine mm_iconst (v := nI 0) dM_count_14 (by decide) ?_
      refine mm_putf dM_count_15 fM_56 rfl rfl rfl rfl (km_0 h m _) (Nat.le_of_ble_eq_true rfl) ?_
      refine mm_eqh (ku_th h m _ 0).symm ?_
      refine mm_aload_n dM_count_18 rfl rfl ?_
      refine mm_getf dM_count_19 fM_56 (km_0 h m _) rfl ?_
      refine mm_if_eq_T (tgt := 29) dM_count_22 (by decide) rfl ?_
      refine mm_iload_n dM_count_29 rfl rfl ?_
      refine mm_if_ne (tgt := 43) dM_count_30 (by decide) (fun q30 => ?_) (fun q30 => ?_)
      · refine mm_iload_n dM_count_43 rfl rfl ?_
        refine mm_iconst (v := nI 1) dM_count_44 (by decide) ?_
        refine mm_icmp_ne (tgt := 59) dM_count_45 (by decide) (fun q45 => ?_) (fun q45 => ?_)
        · refine mm_iload_n dM_count_59 rfl rfl ?_
          refine mm_iconst (v := nI 2) dM_count_60 (by decide) ?_
          refine mm_icmp_ne (tgt := 75) dM_count_61 (by decide) (fun q61 => ?_) (fun q61 => ?_)
          · refine mm_aload_n dM_count_75 rfl rfl ?_
            refine mm_getf dM_count_76 fM_68 (km_0 h m _) rfl ?_
            refine mm_ireturn dM_count_79 rfl ?_
            exact km_fin ((if_pos (by rw [decide_eq_true (ks_nneg q2), decide_eq_true q7]; rfl)).trans (congrArg (fun z => (z, s_th M 0)) ((if_neg q30).trans ((if_neg q45).trans (if_neg q61)))))
          · refine mm_aload_n dM_count_64 rfl rfl ?_
            refine mm_bipush (v := nI 13) dM_count_65 (by decide) ?_
            refine mm_bipush (v := nI 19) dM_count_67 (by decide) ?_
            refine mm_v2 dM_count_69 lM_142 (km_0 h m _) rfl rfl (by decide) (Nat.le_of_ble_eq_true rfl) (kM_amount (M := s_th M 0) (i := 13) (j := 6) (by decide) (fun k g1 g2 => km_sm31 o (by omega))) ?_
            refine mm_goto (tgt := 79) dM_count_72 (by decide) ?_
            refine mm_ireturn dM_count_79 rfl ?_
            exact km_fin ((if_pos (by rw [decide_eq_true (ks_nneg q2), decide_eq_true q7]; rfl)).trans (congrArg (fun z => (z, s_th M 0)) ((if_neg q30).trans ((if_neg q45).trans (if_pos q61)))))
        · refine mm_aload_n dM_count_48 rfl rfl ?_
          refine mm_bipush (v := nI 19) dM_count_49 (by decide) ?_
          refine mm_bipush (v := nI 31) dM_count_51 (by decide) ?_
          refine mm_v2 dM_count_53 lM_142 (km_0 h m _) rfl rfl (by decide) (Nat.le_of_ble_eq_true rfl) (kM_amount (M := s_th M 0) (i := 19) (j := 12) (by decide) (fun k g1 g2 => km_sm31 o (by omega))) ?_
          refine mm_goto (tgt := 79) dM_count_56 (by decide) ?_
          refine mm_ireturn dM_count_79 rfl ?_
          exact km_fin ((if_pos (by rw [decide_eq_true (ks_nneg q2), decide_eq_true q7]; rfl)).trans (congrArg (fun z => (z, s_th M 0)) ((if_neg q30).trans (if_pos q45))))
      · refine mm_aload_n dM_count_33 rfl rfl ?_
        refine mm_iconst (v := nI 1) dM_count_34 (by decide) ?_
        refine mm_bipush (v := nI 13) dM_count_35 (by decide) ?_
        refine mm_v2 dM_count_37 lM_142 (km_0 h m _) rfl rfl (by decide) (Nat.le_of_ble_eq_true rfl) (kM_amount (M := s_th M 0) (i := 1) (j := 12) (by decide) (fun k g1 g2 => km_sm31 o (by omega))) ?_
        refine mm_goto (tgt := 79) dM_count_40 (by decide) ?_
        refine mm_ireturn dM_count_79 rfl ?_
        exact km_fin ((if_pos (by rw [decide_eq_true (ks_nneg q2), decide_eq_true q7]; rfl)).trans (congrArg (fun z => (z, s_th M 0)) (if_pos q30)))
    · refine mm_iconst (v := nI 1) dM_count_10 (by decide) ?_
      refine mm_goto (tgt := 15) dM_count_11 (by decide) ?_
      refine mm_putf dM_count_15 fM_56 rfl rfl rfl rfl (km_0 h m _) (Nat.le_of_ble_eq_true rfl) ?_
      refine mm_eqh (ku_th h m _ 1).symm ?_
      refine mm_aload_n dM_count_18 rfl rfl ?_
      refine mm_getf dM_count_19 fM_56 (km_0 h m _) rfl ?_
      refine mm_if_eq_F (tgt := 29) dM_count_22 (by decide) (show ¬ nI 1 = 0 by decide) ?_
      refine mm_iconst (v := nI 0) dM_count_25 (by decide) ?_
      refine mm_goto (tgt := 79) dM_count_26 (by decide) ?_
      refine mm_ireturn dM_count_79 rfl ?_
      exact km_fin (if_neg (by rw [decide_eq_false q7, Bool.and_false]; exact Bool.false_ne_true))
set_option maxHeartbeats 1000000 in
theorem kM_wrap (o : kt_ok (km_S M)) (hm : m_mv M ≤ 20) (k n : Int32) : mm_Ev Γ l (d + 1 + 1 + 1) mM_wrap [.ref m, .int k, .int n] (km_set h m M) (mm_is (.inl (some (.int (nI (km_wrap M k n).1)))) (km_set h m (km_wrap M k n).2)) := by
  have bad : (if k = nI 2 then ks_harI (km_S M) n else ks_partI (km_S M) k n) = false → mm_W Γ l mM_wrap (d + 1 + 1 + 1) (mm_is (.inl (some (.int (nI (km_wrap M k n).1)))) (km_set h m (km_wrap M k n).2)) 36 [some (.ref m), some (.int k), some (.int n), none, none, none] [.int (nI 1), .ref m] (km_set h m M) := by
    intro hb
    refine mm_putf dM_wrap_36 fM_56 rfl rfl rfl rfl (km_0 h m _) (Nat.le_of_ble_eq_true rfl) ?_
    refine mm_eqh (ku_th h m _ 1).symm ?_
    refine mm_aload_n dM_wrap_39 rfl rfl ?_
    refine mm_getf dM_wrap_40 fM_56 (km_0 h m _) rfl ?_
    refine mm_if_eq_F (tgt := 48) dM_wrap_43 (by decide) (show ¬ nI 1 = 0 by decide) ?_
    refine mm_iconst (v := nI 0) dM_wrap_46 (by decide) ?_
    refine mm_ireturn dM_wrap_47 rfl ?_
    exact km_fin (if_neg (by rw [hb]; decide))
  have fin : ∀ (M1 : km_M) (a : Nat), M1 = km_keep (s_th M 0) → km_wrT M = 0 → a < 13 → (if k = nI 2 then ks_harI (km_S M) n else ks_partI (km_S M) k n) = true → km_wrA M k n = a → ((k = nI 2) ∨ ∃ k' n' : Nat, k = nI k' ∧ k' < 2 ∧ n = nI n' ∧ n' < ks_len k') → mm_W Γ l mM_wrap (d + 1 + 1 + 1) (mm_is (.inl (some (.int (nI (km_wrap M k n).1)))) (km_set h m (km_wrap M k n).2)) 111 [some (.ref m), some (.int k), some (.int n), none, none, none] [.int (nI a)] (km_set h m M1) := by
    intro M1 a e1 q87 ha hb ea hk
    obtain ⟨z1, z2, z3⟩ := km_wrT_0 q87
    have ek : m_sh M1 = m_sh M := by rw [e1]; exact km_keep_sh _
    have eS : km_S M1 = km_S M := congrArg kz ek
    obtain ⟨j, j0, j1, j2, j3, j4⟩ := km_slot1 (M := M1) (by rw [ek]; omega)
    have j1' : km_new M 1 = j := by unfold km_new at j1 ⊢; rw [← eS]; exact j1
    have am : km_amt (m_sh (km_st M1 j (some a))) 1 12 < 12 := by
      have e : km_amt (m_sh (km_st M1 j (some a))) 1 12 = km_amt (m_sh M1) 1 12 + 1 := km_amt_u j4 12 1 j2 j3
      rw [e, ek]; omega
    obtain ⟨i, i0, i1, i2, i3, i4⟩ := km_slot1 am
    have o2 : ks_ok (km_S (km_st M1 j (some a))) := by
      rw [km_st_S, kz_uc _ j3]
      have o1 : ks_ok (kz (m_sh M1)) := by rw [ek]; exact o.1
      refine ks_ok_put (k := 1) o1 (by decide) (fun q x hq e => ?_) (fun _ => (if_neg (by omega)).trans o1.2.2.2)
      rcases ks_u_cases e with ⟨_, g⟩ | ⟨_, g⟩
      · cases g; exact ha
      · exact o1.1 1 q x hq g
    have res : ∀ M', M' = km_wrM M1 k n a → mm_is (.inl (some (.int (nI (km_wrap M k n).1)))) (km_set h m (km_wrap M k n).2) (.inl (some (.int (nI j)))) (km_set h m M') := by
      intro M' e
      refine km_fin ((if_pos hb).trans ((if_pos q87).trans ?_))
      rw [e, ea, j1', e1]
    have w3 : km_wrM3 M1 a = km_st (km_st M1 j (some a)) i (some j) := by unfold km_wrM3 km_wrM2; rw [j1, i1]
    have w2 : km_new (km_wrM2 M1 a) 1 = i := by unfold km_wrM2; rw [j1]; exact i1
    refine mm_istore_n dM_wrap_111 rfl (by decide) rfl ?_
    refine mm_aload_n dM_wrap_112 rfl rfl ?_
    
    refine mm_v0 dM_wrap_113 lM_75 (km_0 h m _) (by decide) (Nat.le_of_ble_eq_true rfl) (kM_freeCut (M := M1) (by rw [eS]; exact o.1)) ?_
    refine mm_top (v' := .int (nI j)) (congrArg (fun z => Value.int (nI z)) j1) ?_
    refine mm_istore dM_wrap_116 (by decide) rfl ?_
    refine mm_aload_n dM_wrap_118 rfl rfl ?_
    refine mm_getf dM_wrap_119 fM_7 (km_0 h m _) rfl ?_
    refine mm_iload dM_wrap_122 rfl ?_
    refine mm_iload_n dM_wrap_124 rfl rfl ?_
    refine mm_iastore dM_wrap_125 (km_sh h m _) rfl (by omega) (by decide) ?_
    refine mm_eqh (kv_sh h m _ _ (some a)).symm ?_
    refine mm_aload_n dM_wrap_126 rfl rfl ?_
    refine mm_v0 dM_wrap_127 lM_75 (km_0 h m _) (by decide) (Nat.le_of_ble_eq_true rfl) (kM_freeCut (M := km_st M1 j (some a)) o2) ?_
    refine mm_top (v' := .int (nI i)) (congrArg (fun z => Value.int (nI z)) i1) ?_
    refine mm_istore dM_wrap_130 (by decide) rfl ?_
    refine mm_aload_n dM_wrap_132 rfl rfl ?_
    refine mm_getf dM_wrap_133 fM_7 (km_0 h m _) rfl ?_
    refine mm_iload dM_wrap_136 rfl ?_
    refine mm_iload dM_wrap_138 rfl ?_
    refine mm_iastore dM_wrap_140 (km_sh h m _) rfl (by omega) (by decide) ?_
    refine mm_eqh (kv_sh h m _ _ (some j)).symm ?_
    rcases hk with hk | ⟨k', n', rfl, hk', rfl, hn'⟩
    · subst hk
      refine mm_iload_n dM_wrap_141 rfl rfl ?_
      refine mm_iconst (v := nI 2) dM_wrap_142 (by decide) ?_
      refine mm_icmp_ge_T (tgt := 165) dM_wrap_143 (by decide) (show nI 2 ≤ nI 2 by decide) ?_
      refine mm_iload dM_wrap_165 rfl ?_
      refine mm_ireturn dM_wrap_167 rfl ?_
      exact res _ (by rw [km_wrM, if_pos rfl, w3]; rfl)
    · have hl := ks_len_le k'
      have ck : (nI n').toNatClampNeg = n' := nI_clamp (by omega)
      have k2 : ¬ nI k' = nI 2 := fun w => by have := (nI_eq (by omega) (by decide)).mp w; omega
      refine mm_iload_n dM_wrap_141 rfl rfl ?_
      refine mm_iconst (v := nI 2) dM_wrap_142 (by decide) ?_
      refine mm_icmp_ge_n (tgt := 165) dM_wrap_143 (by decide) (by omega) (by decide) (fun q143 => ?_) (fun q143 => ?_)
      · exact absurd q143 (by omega)
        --stop
      · refine mm_aload_n dM_wrap_146 rfl rfl ?_
        refine mm_getf dM_wrap_147 fM_7 (km_0 h m _) rfl ?_
        refine mm_iload_n dM_wrap_150 rfl rfl ?_
        refine mm_if_ne_n (tgt := 161) dM_wrap_151 (by decide) (by omega) (fun q151 => ?_) (fun q151 => ?_)
        · refine mm_iload_n dM_wrap_161 rfl rfl ?_
          refine mm_iload dM_wrap_162 rfl ?_
          refine mm_iastore dM_wrap_164 (km_sh h m _) rfl (by omega) (by decide) ?_
          refine mm_eqh (kv_sh h m _ _ (some i)).symm ?_
          refine mm_iload dM_wrap_165 rfl ?_
          refine mm_ireturn dM_wrap_167 rfl ?_
          exact res _ (by rw [km_wrM, if_neg k2, w3, w2, ck, if_neg (fun w => q151 ((nI_eq (by omega) (by decide)).mp w))]; rfl)
        · subst q151
          have hn9 : n' < 12 := hn'
          refine mm_bipush (v := nI 19) dM_wrap_154 (by decide) ?_
          refine mm_iload_n dM_wrap_156 rfl rfl ?_
          refine mm_iadd dM_wrap_157 ?_
          refine mm_goto (tgt := 162) dM_wrap_158 (by decide) ?_
          refine mm_iload dM_wrap_162 rfl ?_
          refine mm_iastore dM_wrap_164 (km_sh h m _) (nI_add 19 n') (by omega) (by decide) ?_
          refine mm_eqh (kv_sh h m _ _ (some i)).symm ?_
          refine mm_iload dM_wrap_165 rfl ?_
          refine mm_ireturn dM_wrap_167 rfl ?_
          exact res _ (by rw [km_wrM, if_neg k2, w3, w2, ck, if_pos rfl]; rfl)
  have good : (if k = nI 2 then ks_harI (km_S M) n else ks_partI (km_S M) k n) = true → mm_W Γ l mM_wrap (d + 1 + 1 + 1) (mm_is (.inl (some (.int (nI (km_wrap M k n).1)))) (km_set h m (km_wrap M k n).2)) 36 [some (.ref m), some (.int k), some (.int n), none, none, none] [.int (nI 0), .ref m] (km_set h m M) := by
    intro hb
    have tail : mm_W Γ l mM_wrap (d + 1 + 1 + 1) (mm_is (.inl (some (.int (nI (km_wrap M k n).1)))) (km_set h m (km_wrap M k n).2)) 80 [some (.ref m), some (.int k), some (.int n), none, none, none] [.int (nI (km_wrT M)), .ref m] (km_set h m (s_th M 0)) := by
      refine mm_putf dM_wrap_80 fM_56 rfl rfl rfl rfl (km_0 h m _) (Nat.le_of_ble_eq_true rfl) ?_
      refine mm_eqh (ku_th h m _ (km_wrT M)).symm ?_
      refine mm_aload_n dM_wrap_83 rfl rfl ?_
      refine mm_getf dM_wrap_84 fM_56 (km_0 h m _) rfl ?_
      refine mm_if_eq_n (tgt := 92) dM_wrap_87 (by decide) (Nat.lt_of_le_of_lt (km_wrT_le M) (by decide)) (fun q87 => ?_) (fun q87 => ?_)
      · have q87 : km_wrT M = 0 := q87
        have z0 := km_wrT_0 q87
        have hM : s_th (s_th M 0) (km_wrT M) = s_th M 0 := by rw [q87]; rfl
        rw [hM]
        refine mm_aload_n dM_wrap_92 rfl rfl ?_
        refine mm_v0 dM_wrap_93 lM_83 (km_0 h m _) (by decide) (Nat.le_of_ble_eq_true rfl) (kM_keep (M := s_th M 0) (fun _ => km_late_mv z0.2.2 hm)) ?_
        refine mm_iload_n dM_wrap_96 rfl rfl ?_
        refine mm_iconst (v := nI 2) dM_wrap_97 (by decide) ?_
        refine mm_icmp_ne (tgt := 105) dM_wrap_98 (by decide) (fun q98 => ?_) (fun q98 => ?_)
        · have hp : ks_partI (km_S M) k n = true := (if_neg q98).symm.trans hb
          obtain ⟨k', n', x, rfl, rfl, g1, g2, g3⟩ := ks_hasI_true (Bool.and_eq_true_iff.mp hp).2
          have hl := ks_len_le k'
          have ck : (nI k').toNatClampNeg = k' := nI_clamp (by omega)
          have cn : (nI n').toNatClampNeg = n' := nI_clamp (by omega)
          have g4 : ¬ k' = 2 := fun w => q98 (by rw [w])
          have x13 := o.1.1 k' n' x g2 g3
          refine mm_aload_n dM_wrap_105 rfl rfl ?_
          refine mm_iload_n dM_wrap_106 rfl rfl ?_
          refine mm_iload_n dM_wrap_107 rfl rfl ?_
          refine mm_v2 dM_wrap_108 lM_118 (km_0 h m _) rfl rfl (by decide) (Nat.le_of_ble_eq_true rfl) (kM_areaOf (M := km_keep (s_th M 0)) g1 g2) ?_
          refine mm_top (v' := .int (nI x)) (congrArg Value.int (by rw [km_keep_S]; show mm_enc (ks_row (km_S M) k' n') = nI x; rw [g3]; rfl)) ?_
          exact fin _ x rfl q87 x13 hb (by unfold km_wrA; rw [if_neg q98, ck, cn, g3]; rfl) (Or.inr ⟨k', n', rfl, by omega, rfl, g2⟩)
        · have hp : ks_harI (km_S M) n = true := (if_pos q98).symm.trans hb
          obtain ⟨i, hi, rfl⟩ := ks_harI_true hp
          refine mm_iload_n dM_wrap_101 rfl rfl ?_
          refine mm_goto (tgt := 111) dM_wrap_102 (by decide) ?_
          exact fin _ i rfl q87 hi hb (by unfold km_wrA; rw [if_pos q98, nI_clamp (by omega)]) (Or.inl q98)
      · have q87 : ¬ km_wrT M = 0 := q87
        refine mm_iconst (v := nI 0) dM_wrap_90 (by decide) ?_
        refine mm_ireturn dM_wrap_91 rfl ?_
        exact km_fin ((if_pos hb).trans (if_neg q87))
    refine mm_putf dM_wrap_36 fM_56 rfl rfl rfl rfl (km_0 h m _) (Nat.le_of_ble_eq_true rfl) ?_
    refine mm_eqh (ku_th h m _ 0).symm ?_
    refine mm_aload_n dM_wrap_39 rfl rfl ?_
    refine mm_getf dM_wrap_40 fM_56 (km_0 h m _) rfl ?_
    refine mm_if_eq_T (tgt := 48) dM_wrap_43 (by decide) rfl ?_
    refine mm_aload_n dM_wrap_48 rfl rfl ?_
    refine mm_aload_n dM_wrap_49 rfl rfl ?_
    refine mm_getf dM_wrap_50 fM_64 (km_0 h m _) rfl ?_
    refine mm_if_ne_b (tgt := 60) dM_wrap_53 (by decide) (fun q53 => ?_) (fun q53 => ?_)
    · refine mm_aload_n dM_wrap_60 rfl rfl ?_
      refine mm_iconst (v := nI 1) dM_wrap_61 (by decide) ?_
      refine mm_bipush (v := nI 13) dM_wrap_62 (by decide) ?_
      refine mm_v2 dM_wrap_64 lM_142 (km_0 h m _) rfl rfl (by decide) (Nat.le_of_ble_eq_true rfl) (kM_amount (M := s_th M 0) (i := 1) (j := 12) (by decide) (fun k g1 g2 => km_sm31 o.1 (by omega))) ?_
      refine mm_bipush (v := nI 10) dM_wrap_67 (by decide) ?_
      refine mm_icmp_le_n (tgt := 76) dM_wrap_69 (by decide) (Nat.lt_of_le_of_lt (km_amt_le _ _ _) (by decide)) (by decide) (fun q69 => ?_) (fun q69 => ?_)
      · refine mm_aload_n dM_wrap_76 rfl rfl ?_
        refine mm_v0 dM_wrap_77 lM_125 (km_0 h m _) (by decide) (Nat.le_of_ble_eq_true rfl) (kM_lateN (M := s_th M 0) hm) ?_
        refine mm_top (v' := .int (nI (km_wrT M))) (by rw [show km_wrT M = km_late M from (if_neg (fun w => by have q53 : m_st M = true := q53; rw [q53] at w; cases w)).trans (if_neg (Nat.not_lt.mpr q69))]; first | done | rfl) ?_
        exact tail
      · refine mm_iconst (v := nI 3) dM_wrap_72 (by decide) ?_
        refine mm_goto (tgt := 80) dM_wrap_73 (by decide) ?_
        refine mm_top (v' := .int (nI (km_wrT M))) (by rw [show km_wrT M = 3 from (if_neg (fun w => by have q53 : m_st M = true := q53; rw [q53] at w; cases w)).trans (if_pos q69)]; first | done | rfl) ?_
        exact tail
    · refine mm_iconst (v := nI 2) dM_wrap_56 (by decide) ?_
      refine mm_goto (tgt := 80) dM_wrap_57 (by decide) ?_
      refine mm_top (v' := .int (nI (km_wrT M))) (by rw [show km_wrT M = 2 from if_pos q53]; first | done | rfl) ?_
      exact tail
  show mm_W Γ l mM_wrap (d + 1 + 1 + 1) _ 0 [some (.ref m), some (.int k), some (.int n), none, none, none] [] _
  refine mm_aload_n dM_wrap_0 rfl rfl ?_
  refine mm_iload_n dM_wrap_1 rfl rfl ?_
  refine mm_iconst (v := nI 2) dM_wrap_2 (by decide) ?_
  refine mm_icmp_ne (tgt := 22) dM_wrap_3 (by decide) (fun q3 => ?_) (fun q3 => ?_)
  · refine mm_aload_n dM_wrap_22 rfl rfl ?_
    refine mm_iload_n dM_wrap_23 rfl rfl ?_
    refine mm_iload_n dM_wrap_24 rfl rfl ?_
    refine mm_v2 dM_wrap_25 lM_115 (km_0 h m _) rfl rfl (by decide) (Nat.le_of_ble_eq_true rfl) (kM_noPart o.1 k n) ?_
    refine mm_if_eq_b (tgt := 35) dM_wrap_28 (by decide) (fun q28 => ?_) (fun q28 => ?_)
    · refine mm_iconst (v := nI 0) dM_wrap_35 (by decide) ?_
      exact good ((if_neg q3).trans (by cases hq : ks_partI (km_S M) k n with
        | true => rfl
        | false => rw [hq] at q28; cases q28))
    · refine mm_iconst (v := nI 1) dM_wrap_31 (by decide) ?_
      refine mm_goto (tgt := 36) dM_wrap_32 (by decide) ?_
      exact bad ((if_neg q3).trans (by cases hq : ks_partI (km_S M) k n with
        | false => rfl
        | true => rw [hq] at q28; cases q28))
  · refine mm_aload_n dM_wrap_6 rfl rfl ?_
    refine mm_iload_n dM_wrap_7 rfl rfl ?_
    refine mm_v1 dM_wrap_8 lM_60 (km_0 h m _) rfl (by decide) (Nat.le_of_ble_eq_true rfl) (kM_isArea o.1 n) ?_
    refine mm_if_eq_b (tgt := 18) dM_wrap_11 (by decide) (fun q11 => ?_) (fun q11 => ?_)
    · refine mm_iconst (v := nI 1) dM_wrap_18 (by decide) ?_
      refine mm_goto (tgt := 36) dM_wrap_19 (by decide) ?_
      exact bad ((if_pos q3).trans q11)
    · refine mm_iconst (v := nI 0) dM_wrap_14 (by decide) ?_
      refine mm_goto (tgt := 36) dM_wrap_15 (by decide) ?_
      exact good ((if_pos q3).trans q11)
end KM4
