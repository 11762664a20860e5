/-! Contracts of the reference. Printed by wip/whole/spec/m11.py -/
theorem nI_dec (k : Nat) : nI (k + 1) + Int32.ofInt (-1) = nI k := by
  rw [nI_succ, Int32.add_assoc, show (1 : Int32) + Int32.ofInt (-1) = 0 by decide, Int32.add_zero]
theorem kj_lt {x y : Int32} (h : x < y) : ¬ y ≤ x := fun w => by
  rw [Int32.le_iff_toInt_le] at w
  have := Int32.lt_iff_toInt_lt.mp h
  omega
theorem kj_nlt {x y : Int32} (h : ¬ x < y) : y ≤ x := by
  rw [Int32.le_iff_toInt_le]
  rcases Int.lt_or_le x.toInt y.toInt with w | w
  · exact absurd (Int32.lt_iff_toInt_lt.mpr w) h
  · exact w
section KM11
variable {Γ : mm_G} {l : Launch} {d : Nat} {h : mm_H} {m : Nat} {M : km_M}
set_option maxHeartbeats 1000000 in
theorem kM_sheetHolds (o : kt_ok (km_S M)) (hw : ke_raw (m_sh M)) {T B : Nat} (hT : 0 < T) (hT3 : T ≤ 3) (hB : B < 2 ^ 31) :
    mm_Ev Γ l (d + 1 + 1 + 1) mM_sheetHolds [.ref m, .int (nI T), .int (nI B)] (km_set h m M) (km_D h m (fun v M' => v = some (.int (mm_bI (kh_say (m_sh M) T B))) ∧ ∃ H un os oc, M' = kh_M M H un os oc)) := by
  obtain ⟨all, eall⟩ : ∃ n, n = kh_u (km_S M) T 6 := ⟨_, rfl⟩
  have a7 : all ≤ 729 := by rw [eall]; exact kh_u_le (km_S M) hT3 hT 6
  have a0 : 0 < all := by rw [eall]; exact kh_u_pos (km_S M) hT 6
  have l3 : ∀ (D : mm_D) (k : Nat) (un : Nat → Nat), k ≤ 13 → (∀ n, n < 6 → un n = kh_u (km_S M) T n) → (∀ (H : Nat → Bool) (os oc : Nat → Nat) (x5 : Option Value), kh_ok (km_S M) T B k H → mm_W Γ l mM_sheetHolds (d + 1 + 1 + 1) D 97 [some (.ref m), some (.int (nI T)), some (.int (nI B)), some (.int (nI all)), some (.int (nI k)), x5] [] (km_set h m (kh_M M H un os oc))) → ∀ (j a : Nat) (H : Nat → Bool) (os oc : Nat → Nat), a + j = 13 → kh_ok (km_S M) T B (k + 1) H → kh_ok2 (km_S M) T B k a H → mm_W Γ l mM_sheetHolds (d + 1 + 1 + 1) D 55 [some (.ref m), some (.int (nI T)), some (.int (nI B)), some (.int (nI all)), some (.int (nI k)), some (.int (nI a))] [] (km_set h m (kh_M M H un os oc)) := by
    intro D k un hk hun cont j
    induction j with
    | zero =>
      intro a H os oc ha h1 h2
      refine mm_iload dM_sheetHolds_55 rfl ?_
      refine mm_bipush (v := nI 13) dM_sheetHolds_57 (by decide) ?_
      refine mm_icmp_ge_T (tgt := 97) dM_sheetHolds_59 (by decide) (nI_le (by omega) (by omega)) ?_
      refine cont H os oc _ (fun c c13 hc hd p hp => ?_)
      by_cases e : km_dp (km_S M) c = k
      · exact h2 c (by omega) c13 hc e p hp
      · exact h1 c c13 hc (by omega) p hp
    | succ j ih =>
      intro a H os oc ha h1 h2
      have h2s : (¬ ((a = 0 ∨ ¬ (km_S M).2.1 a = none) ∧ km_dp (km_S M) a = k)) → kh_ok2 (km_S M) T B k (a + 1) H := fun w c hc c13 hc2 hd p hp => by
        by_cases e : c = a
        · subst e; exact absurd ⟨hc2, hd⟩ w
        · exact h2 c (by omega) c13 hc2 hd p hp
      refine mm_iload dM_sheetHolds_55 rfl ?_
      refine mm_bipush (v := nI 13) dM_sheetHolds_57 (by decide) ?_
      refine mm_icmp_ge_F (tgt := 97) dM_sheetHolds_59 (by decide) (nI_ge (by omega) (by omega)) ?_
      refine mm_aload_n dM_sheetHolds_62 rfl rfl ?_
      refine mm_iload dM_sheetHolds_63 rfl ?_
      refine mm_v1 dM_sheetHolds_65 lM_60 (km_0 h m _) rfl (by decide) (Nat.le_of_ble_eq_true rfl) (kM_isArea (M := kh_M M H un os oc) o.1 (nI a)) ?_
      refine mm_if_eq_b (tgt := 91) dM_sheetHolds_68 (by decide) (fun q68 => ?_) (fun q68 => ?_)
      · have q68 : ks_harI (km_S M) (nI a) = false := q68
        refine mm_iinc dM_sheetHolds_91 (by decide) rfl (mm_inc _) rfl ?_
        refine mm_goto (tgt := 55) dM_sheetHolds_94 (by decide) ?_
        exact ih (a + 1) H os oc (by omega) h1 (h2s (fun w => ks_harI_no (by omega) q68 w.1))
      · have q68 : ks_harI (km_S M) (nI a) = true := q68
        obtain ⟨a', -, ea, hta⟩ := km_har o q68
        have ea := (nI_eq (by omega) (by have := hta.1; omega)).mp ea
        subst ea
        have d12 := km_dp_le (km_S M) a
        refine mm_aload_n dM_sheetHolds_71 rfl rfl ?_
        refine mm_iload dM_sheetHolds_72 rfl ?_
        refine mm_v1 dM_sheetHolds_74 lM_71 (km_0 h m _) rfl (by decide) (Nat.le_of_ble_eq_true rfl) (kM_depthOf (M := kh_M M H un os oc) o.1 hta) ?_
        refine mm_top (v' := .int (nI (km_dp (km_S M) a))) rfl ?_
        refine mm_iload dM_sheetHolds_77 rfl ?_
        refine mm_icmp_ne_n (tgt := 91) dM_sheetHolds_79 (by decide) (by omega) (by omega) (fun q79 => ?_) (fun q79 => ?_)
        · refine mm_iinc dM_sheetHolds_91 (by decide) rfl (mm_inc _) rfl ?_
          refine mm_goto (tgt := 55) dM_sheetHolds_94 (by decide) ?_
          exact ih (a + 1) H os oc (by omega) h1 (h2s (fun w => q79 w.2))
        · refine mm_aload_n dM_sheetHolds_82 rfl rfl ?_
          refine mm_iload dM_sheetHolds_83 rfl ?_
          refine mm_iload_n dM_sheetHolds_85 rfl rfl ?_
          refine mm_iload_n dM_sheetHolds_86 rfl rfl ?_
          refine mm_iload_n dM_sheetHolds_87 rfl rfl ?_
          have kids : ∀ c, c < 13 → (km_S M).2.1 c = some a → ¬ c = a ∧ ∀ p, p < all → H (729 * c + p) = kh (km_S M) T B (12 - k) c p := fun c c13 hc => by
            have e := km_dp_child o c13 hc
            refine ⟨fun w => by rw [w] at e; omega, fun p hp => ?_⟩
            rw [h1 c c13 (Or.inr (by rw [hc]; exact fun w => nomatch w)) (by omega) p (by rw [← eall]; exact hp), e, q79]
            rw [show 13 - (k + 1) = 12 - k by omega]
          refine mm_v4x dM_sheetHolds_88 lM_193 (km_0 h m _) rfl rfl rfl rfl (by decide) (Nat.le_of_ble_eq_true rfl) (kM_look (M := kh_M M H un os oc) (f := 12 - k) o hw (by omega) hT hT3 hB eall hun kids) ?_
          rintro v M1 ⟨rfl, H2, os2, oc2, rfl, k1, k2⟩
          refine mm_iinc dM_sheetHolds_91 (by decide) rfl (mm_inc _) rfl ?_
          refine mm_goto (tgt := 55) dM_sheetHolds_94 (by decide) ?_
          refine mm_eqh (congrArg (km_set h m) (kh_M_M M H H2 un os oc un os2 oc2).symm) ?_
          have k2 : ∀ q, (q < 729 * a ∨ 729 * a + all ≤ q) → H2 q = H q := k2
          refine ih (a + 1) H2 os2 oc2 (by omega) (fun c c13 hc hd p hp => ?_) (fun c hc c13 hc2 hd p hp => ?_)
          · have : ¬ c = a := fun w => by rw [w] at hd; omega
            rw [k2 _ (by rw [← eall] at hp; omega)]
            exact h1 c c13 hc hd p hp
          · by_cases e : c = a
            · subst e
              rw [k1 p (by rw [eall]; exact hp), q79, show 13 - k = 12 - k + 1 by omega]
              rfl
            · rw [k2 _ (by rw [← eall] at hp; omega)]
              exact h2 c (by omega) c13 hc2 hd p hp
  have l2 : ∀ (D : mm_D) (un : Nat → Nat), (∀ n, n < 6 → un n = kh_u (km_S M) T n) → (∀ (H : Nat → Bool) (os oc : Nat → Nat) (x4 x5 : Option Value), H 0 = kh_say (m_sh M) T B → mm_W Γ l mM_sheetHolds (d + 1 + 1 + 1) D 103 [some (.ref m), some (.int (nI T)), some (.int (nI B)), some (.int (nI all)), x4, x5] [] (km_set h m (kh_M M H un os oc))) → ∀ (k : Nat) (H : Nat → Bool) (os oc : Nat → Nat) (x5 : Option Value), k ≤ 13 → kh_ok (km_S M) T B (k + 1) H → mm_W Γ l mM_sheetHolds (d + 1 + 1 + 1) D 47 [some (.ref m), some (.int (nI T)), some (.int (nI B)), some (.int (nI all)), some (.int (nI k)), x5] [] (km_set h m (kh_M M H un os oc)) := by
    intro D un hun cont k
    induction k with
    | zero =>
      intro H os oc x5 hk h1
      refine mm_iload dM_sheetHolds_47 rfl ?_
      refine mm_if_lt_F (tgt := 103) dM_sheetHolds_49 (by decide) (nI_pos (by omega)) ?_
      refine mm_iconst (v := nI 0) dM_sheetHolds_52 (by decide) ?_
      refine mm_istore dM_sheetHolds_53 (by decide) rfl ?_
      refine l3 D 0 un hk hun (fun H os oc x5 k1 => ?_) 13 0 H os oc rfl h1 (fun c hc => absurd hc (by omega))
      refine mm_iinc dM_sheetHolds_97 (by decide) rfl (show nI 0 + Int32.ofInt (-1) = -1 by decide) rfl ?_
      refine mm_goto (tgt := 47) dM_sheetHolds_100 (by decide) ?_
      refine mm_iload dM_sheetHolds_47 rfl ?_
      refine mm_if_lt_T (tgt := 103) dM_sheetHolds_49 (by decide) (by decide) ?_
      refine cont H os oc _ _ ?_
      have e := k1 0 (by decide) (Or.inl rfl) (Nat.zero_le _) 0 (by rw [← eall]; exact a0)
      have z : km_dp (km_S M) 0 = 0 := by unfold km_dp; rw [o.1.2.2.2]; rfl
      rw [z] at e
      exact e
    | succ k ih =>
      intro H os oc x5 hk h1
      refine mm_iload dM_sheetHolds_47 rfl ?_
      refine mm_if_lt_F (tgt := 103) dM_sheetHolds_49 (by decide) (nI_pos (by omega)) ?_
      refine mm_iconst (v := nI 0) dM_sheetHolds_52 (by decide) ?_
      refine mm_istore dM_sheetHolds_53 (by decide) rfl ?_
      refine l3 D (k + 1) un hk hun (fun H os oc x5 k1 => ?_) 13 0 H os oc rfl h1 (fun c hc => absurd hc (by omega))
      refine mm_iinc dM_sheetHolds_97 (by decide) rfl (nI_dec k) rfl ?_
      refine mm_goto (tgt := 47) dM_sheetHolds_100 (by decide) ?_
      exact ih H os oc _ (by omega) k1
  have l1 : ∀ (D : mm_D) (x5 : Option Value), (∀ (un : Nat → Nat) (x4 : Option Value), (∀ n, n < 6 → un n = kh_u (km_S M) T n) → mm_W Γ l mM_sheetHolds (d + 1 + 1 + 1) D 43 [some (.ref m), some (.int (nI T)), some (.int (nI B)), some (.int (nI all)), x4, x5] [] (km_set h m (kh_M M (m_hd M) un (m_os M) (m_oc M)))) → ∀ (j i : Nat) (un : Nat → Nat), i + j = 6 → (∀ n, n < i → un n = kh_u (km_S M) T n) → mm_W Γ l mM_sheetHolds (d + 1 + 1 + 1) D 5 [some (.ref m), some (.int (nI T)), some (.int (nI B)), some (.int (nI (kh_u (km_S M) T i))), some (.int (nI i)), x5] [] (km_set h m (kh_M M (m_hd M) un (m_os M) (m_oc M))) := by
    intro D x5 cont j
    induction j with
    | zero =>
      intro i un hi h1
      have hi : i = 6 := by omega
      subst hi
      rw [← eall]
      refine mm_iload dM_sheetHolds_5 rfl ?_
      refine mm_bipush (v := nI 6) dM_sheetHolds_7 (by decide) ?_
      refine mm_icmp_ge_T (tgt := 43) dM_sheetHolds_9 (by decide) (nI_le (by omega) (by omega)) ?_
      exact cont un _ h1
    | succ j ih =>
      intro i un hi h1
      have h1s : ∀ n, n < i + 1 → ks_un un i (kh_u (km_S M) T i) n = kh_u (km_S M) T n := fun n hn => by
        unfold ks_un
        by_cases e : n = i
        · rw [if_pos e, e]
        · rw [if_neg e, h1 n (by omega)]
      refine mm_iload dM_sheetHolds_5 rfl ?_
      refine mm_bipush (v := nI 6) dM_sheetHolds_7 (by decide) ?_
      refine mm_icmp_ge_F (tgt := 43) dM_sheetHolds_9 (by decide) (nI_ge (by omega) (by omega)) ?_
      refine mm_aload_n dM_sheetHolds_12 rfl rfl ?_
      refine mm_getf dM_sheetHolds_13 fM_44 (km_0 h m _) rfl ?_
      refine mm_iload dM_sheetHolds_16 rfl ?_
      refine mm_iload_n dM_sheetHolds_18 rfl rfl ?_
      refine mm_iastore dM_sheetHolds_19 (km_un h m _) rfl (by omega) (by decide) ?_
      refine mm_eqh (kv_un h m _ _ (kh_u (km_S M) T i)).symm ?_
      refine mm_eqh (congrArg (km_set h m) (kh_M_un M (m_hd M) un (m_os M) (m_oc M) _).symm) ?_
      refine mm_iload_n dM_sheetHolds_20 rfl rfl ?_
      refine mm_aload_n dM_sheetHolds_21 rfl rfl ?_
      refine mm_iload dM_sheetHolds_22 rfl ?_
      refine mm_v1 dM_sheetHolds_24 lM_89 (km_0 h m _) rfl (by decide) (Nat.le_of_ble_eq_true rfl) (kM_isLine (M := kh_M M (m_hd M) (ks_un un i (kh_u (km_S M) T i)) (m_os M) (m_oc M)) o.1 (nI i)) ?_
      refine mm_if_eq_b (tgt := 34) dM_sheetHolds_27 (by decide) (fun q27 => ?_) (fun q27 => ?_)
      · have q27 : ks_hasI (km_S M) (nI 2) (nI i) = false := q27
        have en : (km_S M).2.2.1 i = none := ks_hasI_row (k := 2) (by decide) (show i < 6 by omega) q27
        refine mm_iconst (v := nI 1) dM_sheetHolds_34 (by decide) ?_
        refine mm_imul dM_sheetHolds_35 ?_
        refine mm_top (v' := .int (nI (kh_u (km_S M) T (i + 1)))) (congrArg Value.int ((pk_mul _ _).trans (by rw [kh_u_n en]))) ?_
        refine mm_istore_n dM_sheetHolds_36 rfl (by decide) rfl ?_
        refine mm_iinc dM_sheetHolds_37 (by decide) rfl (mm_inc _) rfl ?_
        refine mm_goto (tgt := 5) dM_sheetHolds_40 (by decide) ?_
        exact ih (i + 1) _ (by omega) h1s
      · have q27 : ks_hasI (km_S M) (nI 2) (nI i) = true := q27
        obtain ⟨i2, y, h9, e9, h8⟩ := ks_hasI_k (k := 2) (by decide) q27
        have h9 : i2 < 6 := h9
        have e9 := (nI_eq (by omega) (by omega)).mp e9
        subst e9
        have h8 : (km_S M).2.2.1 i = some y := h8
        refine mm_iload_n dM_sheetHolds_30 rfl rfl ?_
        refine mm_goto (tgt := 35) dM_sheetHolds_31 (by decide) ?_
        refine mm_imul dM_sheetHolds_35 ?_
        refine mm_top (v' := .int (nI (kh_u (km_S M) T (i + 1)))) (congrArg Value.int ((pk_mul _ _).trans (by rw [kh_u_s (by rw [h8]; exact fun w => nomatch w)]))) ?_
        refine mm_istore_n dM_sheetHolds_36 rfl (by decide) rfl ?_
        refine mm_iinc dM_sheetHolds_37 (by decide) rfl (mm_inc _) rfl ?_
        refine mm_goto (tgt := 5) dM_sheetHolds_40 (by decide) ?_
        exact ih (i + 1) _ (by omega) h1s
  show mm_W Γ l mM_sheetHolds (d + 1 + 1 + 1) _ 0 [some (.ref m), some (.int (nI T)), some (.int (nI B)), none, none, none] [] _
  refine mm_iconst (v := nI 1) dM_sheetHolds_0 (by decide) ?_
  refine mm_istore_n dM_sheetHolds_1 rfl (by decide) rfl ?_
  refine mm_iconst (v := nI 0) dM_sheetHolds_2 (by decide) ?_
  refine mm_istore dM_sheetHolds_3 (by decide) rfl ?_
  refine mm_eqh (congrArg (km_set h m) (kh_M_id M).symm) ?_
  refine l1 _ _ (fun un x4 hun => ?_) 6 0 (m_un M) rfl (fun n hn => absurd hn (by omega))
  refine mm_bipush (v := nI 13) dM_sheetHolds_43 (by decide) ?_
  refine mm_istore dM_sheetHolds_45 (by decide) rfl ?_
  refine l2 _ un hun (fun H os oc x4 x5 e0 => ?_) 13 (m_hd M) _ _ _ (Nat.le_refl _) (fun c _ _ hd => absurd hd (by have := km_dp_le (km_S M) c; omega))
  refine mm_aload_n dM_sheetHolds_103 rfl rfl ?_
  refine mm_getf dM_sheetHolds_104 fM_31 (km_0 h m _) rfl ?_
  refine mm_iconst (v := nI 0) dM_sheetHolds_107 (by decide) ?_
  refine mm_baload dM_sheetHolds_108 (km_hd h m _) rfl (by decide) (by decide) ?_
  refine mm_top (v' := .int (mm_bI (kh_say (m_sh M) T B))) (congrArg Value.int (show mm_bI (H 0) = _ by rw [e0])) ?_
  refine mm_zreturn dM_sheetHolds_109 rfl (mm_bI_narrow _) ?_
  exact ⟨_, _, rfl, rfl, rfl, H, un, os, oc, rfl⟩
theorem kM_change : mm_Ev Γ l d mM_change [.ref m] (km_set h m M) (mm_is (.inl none) (km_set h m (kh_N M (kj (m_sh M) (m_fs M) 67) (m_hd M) (m_un M) (m_os M) (m_oc M) (kj (m_fs M) (m_sh M) 67)))) := by
  have loop : ∀ (D : mm_D), (D (.inl none) (km_set h m (kh_N M (kj (m_sh M) (m_fs M) 67) (m_hd M) (m_un M) (m_os M) (m_oc M) (kj (m_fs M) (m_sh M) 67)))) → ∀ (j i : Nat) (x2 : Option Value), i + j = 67 → mm_W Γ l mM_change d D 2 [some (.ref m), some (.int (nI i)), x2] [] (km_set h m (kh_N M (kj (m_sh M) (m_fs M) i) (m_hd M) (m_un M) (m_os M) (m_oc M) (kj (m_fs M) (m_sh M) i))) := by
    intro D hD j
    induction j with
    | zero =>
      intro i x2 hi
      have hi : i = 67 := by omega
      subst hi
      refine mm_iload_n dM_change_2 rfl rfl ?_
      refine mm_bipush (v := nI 67) dM_change_3 (by decide) ?_
      refine mm_icmp_ge_T (tgt := 40) dM_change_5 (by decide) (nI_le (by omega) (by omega)) ?_
      refine mm_return dM_change_40 rfl ?_
      exact hD
    | succ j ih =>
      intro i x2 hi
      refine mm_iload_n dM_change_2 rfl rfl ?_
      refine mm_bipush (v := nI 67) dM_change_3 (by decide) ?_
      refine mm_icmp_ge_F (tgt := 40) dM_change_5 (by decide) (nI_ge (by omega) (by omega)) ?_
      refine mm_aload_n dM_change_8 rfl rfl ?_
      refine mm_getf dM_change_9 fM_53 (km_0 h m _) rfl ?_
      refine mm_iload_n dM_change_12 rfl rfl ?_
      refine mm_iaload dM_change_13 (km_fs h m _) rfl (by omega) (by decide) ?_
      refine mm_top (v' := .int (mm_enc (m_fs M i))) (congrArg (fun z => Value.int (mm_enc z)) (show kj (m_fs M) (m_sh M) i i = _ from kj_at _ _ _)) ?_
      refine mm_istore_n dM_change_14 rfl (by decide) rfl ?_
      refine mm_aload_n dM_change_15 rfl rfl ?_
      refine mm_getf dM_change_16 fM_53 (km_0 h m _) rfl ?_
      refine mm_iload_n dM_change_19 rfl rfl ?_
      refine mm_aload_n dM_change_20 rfl rfl ?_
      refine mm_getf dM_change_21 fM_7 (km_0 h m _) rfl ?_
      refine mm_iload_n dM_change_24 rfl rfl ?_
      refine mm_iaload dM_change_25 (km_sh h m _) rfl (by omega) (by decide) ?_
      refine mm_top (v' := .int (mm_enc (m_sh M i))) (congrArg (fun z => Value.int (mm_enc z)) (show kj (m_sh M) (m_fs M) i i = _ from kj_at _ _ _)) ?_
      refine mm_iastore dM_change_26 (km_fs h m _) rfl (by omega) (by decide) ?_
      refine mm_eqh (kv_fs h m _ _ (m_sh M i)).symm ?_
      refine mm_eqh (congrArg (km_set h m) (kh_N_fs M _ _ _ _ _ (kj (m_fs M) (m_sh M) i) (ks_u (kj (m_fs M) (m_sh M) i) i (m_sh M i))).symm) ?_
      rw [kj_u (m_fs M) (m_sh M) i]
      refine mm_aload_n dM_change_27 rfl rfl ?_
      refine mm_getf dM_change_28 fM_7 (km_0 h m _) rfl ?_
      refine mm_iload_n dM_change_31 rfl rfl ?_
      refine mm_iload_n dM_change_32 rfl rfl ?_
      refine mm_iastore dM_change_33 (km_sh h m _) rfl (by omega) (by decide) ?_
      refine mm_eqh (kv_sh h m _ _ (m_fs M i)).symm ?_
      refine mm_eqh (congrArg (km_set h m) (kh_N_sh M (kj (m_sh M) (m_fs M) i) _ _ _ _ _ (ks_u (kj (m_sh M) (m_fs M) i) i (m_fs M i))).symm) ?_
      rw [kj_u (m_sh M) (m_fs M) i]
      refine mm_iinc dM_change_34 (by decide) rfl (mm_inc _) rfl ?_
      refine mm_goto (tgt := 2) dM_change_37 (by decide) ?_
      exact ih (i + 1) _ (by omega)
  show mm_W Γ l mM_change d _ 0 [some (.ref m), none, none] [] _
  refine mm_iconst (v := nI 0) dM_change_0 (by decide) ?_
  refine mm_istore_n dM_change_1 rfl (by decide) rfl ?_
  refine mm_eqh (congrArg (km_set h m) (kh_N_id M).symm) ?_
  have hh := loop (mm_is (.inl none) (km_set h m (kh_N M (kj (m_sh M) (m_fs M) 67) (m_hd M) (m_un M) (m_os M) (m_oc M) (kj (m_fs M) (m_sh M) 67)))) ⟨rfl, rfl⟩ 67 0 none rfl
  rw [kj_0, kj_0] at hh
  exact hh
set_option maxHeartbeats 1000000 in
theorem kM_firstHolds (o : kt_ok (kz (km_first M))) (hw : ke_raw (km_first M)) {T B : Nat} (hm : m_mv M ≤ 20) (hT : 0 < T) (hT3 : T ≤ 3) (hB : B < 2 ^ 31) :
    mm_Ev Γ l (d + 1 + 1 + 1 + 1) mM_firstHolds [.ref m, .int (nI T), .int (nI B)] (km_set h m M) (km_D h m (fun v M' => v = some (.int (mm_bI (kh_say (km_first M) T B))) ∧ ∃ H un os oc fs, M' = kh_N M (m_sh M) H un os oc fs)) := by
  have loop : ∀ (D : mm_D), (∀ x3, mm_W Γ l mM_firstHolds (d + 1 + 1 + 1 + 1) D 42 [some (.ref m), some (.int (nI T)), some (.int (nI B)), x3] [] (km_set h m (kh_N M (m_sh M) (m_hd M) (m_un M) (m_os M) (m_oc M) (kj (m_fs M) (km_first M) 67)))) → ∀ (j i : Nat), i + j = 67 → mm_W Γ l mM_firstHolds (d + 1 + 1 + 1 + 1) D 2 [some (.ref m), some (.int (nI T)), some (.int (nI B)), some (.int (nI i))] [] (km_set h m (kh_N M (m_sh M) (m_hd M) (m_un M) (m_os M) (m_oc M) (kj (m_fs M) (km_first M) i))) := by
    intro D cont j
    induction j with
    | zero =>
      intro i hi
      have hi : i = 67 := by omega
      subst hi
      refine mm_iload_n dM_firstHolds_2 rfl rfl ?_
      refine mm_bipush (v := nI 67) dM_firstHolds_3 (by decide) ?_
      refine mm_icmp_ge_T (tgt := 42) dM_firstHolds_5 (by decide) (nI_le (by omega) (by omega)) ?_
      exact cont _
    | succ j ih =>
      intro i hi
      refine mm_iload_n dM_firstHolds_2 rfl rfl ?_
      refine mm_bipush (v := nI 67) dM_firstHolds_3 (by decide) ?_
      refine mm_icmp_ge_F (tgt := 42) dM_firstHolds_5 (by decide) (nI_ge (by omega) (by omega)) ?_
      refine mm_aload_n dM_firstHolds_8 rfl rfl ?_
      refine mm_getf dM_firstHolds_9 fM_53 (km_0 h m _) rfl ?_
      refine mm_iload_n dM_firstHolds_12 rfl rfl ?_
      refine mm_aload_n dM_firstHolds_13 rfl rfl ?_
      refine mm_getf dM_firstHolds_14 fM_68 (km_0 h m _) rfl ?_
      refine mm_if_ne_n (tgt := 29) dM_firstHolds_17 (by decide) (show m_mv M < 2 ^ 31 by omega) (fun q17 => ?_) (fun q17 => ?_)
      · have q17 : ¬ m_mv M = 0 := q17
        have ef : km_first M = m_kp M := if_neg q17
        refine mm_aload_n dM_firstHolds_29 rfl rfl ?_
        refine mm_getf dM_firstHolds_30 fM_13 (km_0 h m _) rfl ?_
        refine mm_iload_n dM_firstHolds_33 rfl rfl ?_
        refine mm_iaload dM_firstHolds_34 (km_kp h m _) rfl (by omega) (by decide) ?_
        refine mm_top (v' := .int (mm_enc (km_first M i))) (congrArg (fun z => Value.int (mm_enc z)) (show m_kp M i = _ by rw [ef])) ?_
        refine mm_iastore dM_firstHolds_35 (km_fs h m _) rfl (by omega) (by decide) ?_
        refine mm_eqh (kv_fs h m _ _ (km_first M i)).symm ?_
        refine mm_eqh (congrArg (km_set h m) (kh_N_fs M _ _ _ _ _ (kj (m_fs M) (km_first M) i) (ks_u (kj (m_fs M) (km_first M) i) i (km_first M i))).symm) ?_
        rw [kj_u (m_fs M) (km_first M) i]
        refine mm_iinc dM_firstHolds_36 (by decide) rfl (mm_inc _) rfl ?_
        refine mm_goto (tgt := 2) dM_firstHolds_39 (by decide) ?_
        exact ih (i + 1) (by omega)
      · have q17 : m_mv M = 0 := q17
        have ef : km_first M = m_sh M := if_pos q17
        refine mm_aload_n dM_firstHolds_20 rfl rfl ?_
        refine mm_getf dM_firstHolds_21 fM_7 (km_0 h m _) rfl ?_
        refine mm_iload_n dM_firstHolds_24 rfl rfl ?_
        refine mm_iaload dM_firstHolds_25 (km_sh h m _) rfl (by omega) (by decide) ?_
        refine mm_goto (tgt := 35) dM_firstHolds_26 (by decide) ?_
        refine mm_top (v' := .int (mm_enc (km_first M i))) (congrArg (fun z => Value.int (mm_enc z)) (show m_sh M i = _ by rw [ef])) ?_
        refine mm_iastore dM_firstHolds_35 (km_fs h m _) rfl (by omega) (by decide) ?_
        refine mm_eqh (kv_fs h m _ _ (km_first M i)).symm ?_
        refine mm_eqh (congrArg (km_set h m) (kh_N_fs M _ _ _ _ _ (kj (m_fs M) (km_first M) i) (ks_u (kj (m_fs M) (km_first M) i) i (km_first M i))).symm) ?_
        rw [kj_u (m_fs M) (km_first M) i]
        refine mm_iinc dM_firstHolds_36 (by decide) rfl (mm_inc _) rfl ?_
        refine mm_goto (tgt := 2) dM_firstHolds_39 (by decide) ?_
        exact ih (i + 1) (by omega)
  obtain ⟨fs1, efs1⟩ : ∃ f, f = kj (m_fs M) (km_first M) 67 := ⟨_, rfl⟩
  have e67 : ∀ q, q < 67 → km_first M q = kj (m_sh M) fs1 67 q := fun q hq => by
    rw [efs1]
    unfold kj
    rw [if_pos hq, if_pos hq]
  have eS : kz (kj (m_sh M) fs1 67) = kz (km_first M) := (kz_congr e67).symm
  show mm_W Γ l mM_firstHolds (d + 1 + 1 + 1 + 1) _ 0 [some (.ref m), some (.int (nI T)), some (.int (nI B)), none] [] _
  refine mm_iconst (v := nI 0) dM_firstHolds_0 (by decide) ?_
  refine mm_istore_n dM_firstHolds_1 rfl (by decide) rfl ?_
  refine mm_eqh (congrArg (km_set h m) (kh_N_id M).symm) ?_
  have hh := loop (km_D h m (fun v M' => v = some (.int (mm_bI (kh_say (km_first M) T B))) ∧ ∃ H un os oc fs, M' = kh_N M (m_sh M) H un os oc fs)) (fun x3 => ?_) 67 0 rfl
  · rw [kj_0] at hh
    exact hh
  · rw [← efs1]
    refine mm_aload_n dM_firstHolds_42 rfl rfl ?_
    refine mm_v0 dM_firstHolds_43 lM_196 (km_0 h m _) (by decide) (Nat.le_of_ble_eq_true rfl) (kM_change (M := (kh_N M (m_sh M) (m_hd M) (m_un M) (m_os M) (m_oc M) fs1))) ?_
    refine mm_eqh (congrArg (km_set h m) (kh_N_N M _ _ _ _ _ _ (kj (m_sh M) fs1 67) (m_hd M) (m_un M) (m_os M) (m_oc M) (kj fs1 (m_sh M) 67)).symm) ?_
    refine mm_aload_n dM_firstHolds_46 rfl rfl ?_
    refine mm_iload_n dM_firstHolds_47 rfl rfl ?_
    refine mm_iload_n dM_firstHolds_48 rfl rfl ?_
    refine mm_v2x dM_firstHolds_49 lM_199 (km_0 h m _) rfl rfl (by decide) (Nat.le_of_ble_eq_true rfl) (kM_sheetHolds (M := (kh_N M (kj (m_sh M) fs1 67) (m_hd M) (m_un M) (m_os M) (m_oc M) (kj fs1 (m_sh M) 67))) (by show kt_ok (kz (kj (m_sh M) fs1 67)); rw [eS]; exact o) (ke_raw_congr e67 hw) hT hT3 hB) ?_
    rintro v M1 ⟨rfl, H, un, os, oc, rfl⟩
    refine mm_eqh (congrArg (km_set h m) (kh_N_M M _ _ _ _ _ _ H un os oc).symm) ?_
    refine mm_istore_n dM_firstHolds_52 rfl (by decide) rfl ?_
    refine mm_aload_n dM_firstHolds_53 rfl rfl ?_
    refine mm_v0 dM_firstHolds_54 lM_196 (km_0 h m _) (by decide) (Nat.le_of_ble_eq_true rfl) (kM_change (M := (kh_N M (kj (m_sh M) fs1 67) H un os oc (kj fs1 (m_sh M) 67)))) ?_
    refine mm_eqh (congrArg (km_set h m) (kh_N_N M _ _ _ _ _ _ (kj (kj (m_sh M) fs1 67) (kj fs1 (m_sh M) 67) 67) H un os oc (kj (kj fs1 (m_sh M) 67) (kj (m_sh M) fs1 67) 67)).symm) ?_
    rw [kj_swap, kj_swap]
    refine mm_iload_n dM_firstHolds_57 rfl rfl ?_
    refine mm_zreturn dM_firstHolds_58 rfl (mm_bI_narrow _) ?_
    exact ⟨_, _, rfl, rfl, congrArg (fun z => some (Value.int (mm_bI (kh z T B 13 0 0)))) eS, H, un, os, oc, fs1, rfl⟩
theorem kh_say_lt {n : Int32} (h1 : nI 1 ≤ n) (h2 : n ≤ nI 3) : ∃ T : Nat, n = nI T ∧ 0 < T ∧ T ≤ 3 := by
  have h0 : ¬ n < 0 := fun w => by
    rw [Int32.le_iff_toInt_le] at h1
    have := Int32.lt_iff_toInt_lt.mp w
    have e : (nI 1).toInt = 1 := by decide
    have e2 : (0 : Int32).toInt = 0 := by decide
    omega
  obtain ⟨T, hT, rfl⟩ := nI_of h0
  rw [nI_leI (by decide) hT] at h1
  rw [nI_leI hT (by decide)] at h2
  exact ⟨T, rfl, by omega, h2⟩
set_option maxHeartbeats 1000000 in
theorem kM_holds (o : kt_ok (km_S M)) (hw : ke_raw (m_sh M)) (o1 : m_st M = true → kt_ok (kz (km_first M))) (hw1 : m_st M = true → ke_raw (km_first M)) (hm : m_mv M ≤ 20) (fi : Bool) (n b : Int32) :
    mm_Ev Γ l (d + 1 + 1 + 1 + 1 + 1) mM_holds [.ref m, .int (mm_bI fi), .int n, .int b] (km_set h m M) (km_D h m (fun v M' => v = some (.int (mm_bI (kh_hd M fi n b))) ∧ ∃ H un os oc fs, M' = kh_N (s_th M (kh_hdT M fi n b)) (m_sh M) H un os oc fs)) := by
  have tail : ∀ (c : Nat), c ≤ 2 → kh_hdT M fi n b = c → (c = 0 → (∃ T : Nat, n = nI T ∧ 0 < T ∧ T ≤ 3) ∧ (∃ B : Nat, b = nI B ∧ B < 2 ^ 31) ∧ (fi = true → m_st M = true)) → mm_W Γ l mM_holds (d + 1 + 1 + 1 + 1 + 1) (km_D h m (fun v M' => v = some (.int (mm_bI (kh_hd M fi n b))) ∧ ∃ H un os oc fs, M' = kh_N (s_th M (kh_hdT M fi n b)) (m_sh M) H un os oc fs)) 42 [some (.ref m), some (.int (mm_bI fi)), some (.int n), some (.int b)] [.int (nI c), .ref m] (km_set h m M) := by
    intro c hc ec hz
    have no : ¬ c = 0 → kh_hd M fi n b = false := fun w => by unfold kh_hd; rw [ec, if_neg w]
    rw [ec]
    refine mm_putf dM_holds_42 fM_56 rfl rfl rfl rfl (km_0 h m _) (Nat.le_of_ble_eq_true rfl) ?_
    refine mm_eqh (ku_th h m _ c).symm ?_
    refine mm_aload_n dM_holds_45 rfl rfl ?_
    refine mm_getf dM_holds_46 fM_56 (km_0 h m _) rfl ?_
    refine mm_if_ne_n (tgt := 81) dM_holds_49 (by decide) (show c < 2 ^ 31 by omega) (fun q49 => ?_) (fun q49 => ?_)
    · have q49 : ¬ c = 0 := q49
      refine mm_iconst (v := nI 0) dM_holds_81 (by decide) ?_
      refine mm_zreturn dM_holds_82 rfl rfl ?_
      exact ⟨_, _, rfl, rfl, by rw [no q49]; rfl, _, _, _, _, _, kh_N_id _⟩
    · have q49 : c = 0 := q49
      obtain ⟨⟨T, rfl, hT, hT3⟩, ⟨B, rfl, hB⟩, hst⟩ := hz q49
      subst q49
      have ek : kh_hd M fi (nI T) (nI B) = kh_say (if fi = true then km_first M else m_sh M) T B := by unfold kh_hd; rw [if_pos ec, nI_clamp (by omega), nI_clamp hB]
      refine mm_iload_n dM_holds_52 rfl rfl ?_
      refine mm_if_eq_b (tgt := 68) dM_holds_53 (by decide) (fun q53 => ?_) (fun q53 => ?_)
      · refine mm_aload_n dM_holds_68 rfl rfl ?_
        refine mm_iload_n dM_holds_69 rfl rfl ?_
        refine mm_iload_n dM_holds_70 rfl rfl ?_
        refine mm_v2x dM_holds_71 lM_199 (km_0 h m _) rfl rfl (by decide) (Nat.le_of_ble_eq_true rfl) (mm_deep (Nat.le_succ _) (kM_sheetHolds (M := s_th M 0) (d := d) o hw hT hT3 hB)) ?_
        rintro v M1 ⟨rfl, H, un, os, oc, rfl⟩
        refine mm_if_eq_b (tgt := 81) dM_holds_74 (by decide) (fun q74 => ?_) (fun q74 => ?_)
        · have q74 : kh_say (m_sh M) T B = false := q74
          refine mm_iconst (v := nI 0) dM_holds_81 (by decide) ?_
          refine mm_zreturn dM_holds_82 rfl rfl ?_
          exact ⟨_, _, rfl, rfl, by rw [ek, q53, if_neg (by decide), q74]; rfl, H, un, os, oc, m_fs M, rfl⟩
        · have q74 : kh_say (m_sh M) T B = true := q74
          refine mm_iconst (v := nI 1) dM_holds_77 (by decide) ?_
          refine mm_goto (tgt := 82) dM_holds_78 (by decide) ?_
          refine mm_zreturn dM_holds_82 rfl rfl ?_
          exact ⟨_, _, rfl, rfl, by rw [ek, q53, if_neg (by decide), q74]; rfl, H, un, os, oc, m_fs M, rfl⟩
      · refine mm_aload_n dM_holds_56 rfl rfl ?_
        refine mm_iload_n dM_holds_57 rfl rfl ?_
        refine mm_iload_n dM_holds_58 rfl rfl ?_
        refine mm_v2x dM_holds_59 lM_202 (km_0 h m _) rfl rfl (by decide) (Nat.le_of_ble_eq_true rfl) (kM_firstHolds (M := s_th M 0) (o1 (hst q53)) (hw1 (hst q53)) hm hT hT3 hB) ?_
        rintro v M1 ⟨rfl, H, un, os, oc, fs, rfl⟩
        refine mm_if_eq_b (tgt := 81) dM_holds_62 (by decide) (fun q62 => ?_) (fun q62 => ?_)
        · have q62 : kh_say (km_first M) T B = false := q62
          refine mm_iconst (v := nI 0) dM_holds_81 (by decide) ?_
          refine mm_zreturn dM_holds_82 rfl rfl ?_
          exact ⟨_, _, rfl, rfl, by rw [ek, q53, if_pos rfl, q62]; rfl, H, un, os, oc, fs, rfl⟩
        · have q62 : kh_say (km_first M) T B = true := q62
          refine mm_goto (tgt := 77) dM_holds_65 (by decide) ?_
          refine mm_iconst (v := nI 1) dM_holds_77 (by decide) ?_
          refine mm_goto (tgt := 82) dM_holds_78 (by decide) ?_
          refine mm_zreturn dM_holds_82 rfl rfl ?_
          exact ⟨_, _, rfl, rfl, by rw [ek, q53, if_pos rfl, q62]; rfl, H, un, os, oc, fs, rfl⟩
  show mm_W Γ l mM_holds (d + 1 + 1 + 1 + 1 + 1) _ 0 [some (.ref m), some (.int (mm_bI fi)), some (.int n), some (.int b)] [] _
  refine mm_aload_n dM_holds_0 rfl rfl ?_
  refine mm_iload_n dM_holds_1 rfl rfl ?_
  refine mm_iconst (v := nI 1) dM_holds_2 (by decide) ?_
  refine mm_icmp_lt (tgt := 22) dM_holds_3 (by decide) (fun q3 => ?_) (fun q3 => ?_)
  · refine mm_iconst (v := nI 1) dM_holds_22 (by decide) ?_
    refine mm_goto (tgt := 42) dM_holds_23 (by decide) ?_
    exact tail 1 (by decide) (if_neg (fun w => by
      rw [Bool.and_eq_true_iff, Bool.and_eq_true_iff, Bool.and_eq_true_iff] at w
      exact absurd (of_decide_eq_true w.1) (kj_lt q3))) (fun w => nomatch w)
  · refine mm_iload_n dM_holds_6 rfl rfl ?_
    refine mm_iconst (v := nI 3) dM_holds_7 (by decide) ?_
    refine mm_icmp_gt (tgt := 22) dM_holds_8 (by decide) (fun q8 => ?_) (fun q8 => ?_)
    · refine mm_iconst (v := nI 1) dM_holds_22 (by decide) ?_
      refine mm_goto (tgt := 42) dM_holds_23 (by decide) ?_
      exact tail 1 (by decide) (if_neg (fun w => by
        rw [Bool.and_eq_true_iff, Bool.and_eq_true_iff, Bool.and_eq_true_iff] at w
        exact absurd (of_decide_eq_true w.2.1) (kj_lt q8))) (fun w => nomatch w)
    · refine mm_iload_n dM_holds_11 rfl rfl ?_
      refine mm_if_lt (tgt := 22) dM_holds_12 (by decide) (fun q12 => ?_) (fun q12 => ?_)
      · refine mm_iconst (v := nI 1) dM_holds_22 (by decide) ?_
        refine mm_goto (tgt := 42) dM_holds_23 (by decide) ?_
        exact tail 1 (by decide) (if_neg (fun w => by
          rw [Bool.and_eq_true_iff, Bool.and_eq_true_iff, Bool.and_eq_true_iff] at w
          exact absurd (of_decide_eq_true w.2.2.1) (kj_lt q12))) (fun w => nomatch w)
      · refine mm_iload_n dM_holds_15 rfl rfl ?_
        refine mm_sipush (v := nI 16384) dM_holds_16 (by decide) ?_
        refine mm_icmp_lt (tgt := 26) dM_holds_19 (by decide) (fun q19 => ?_) (fun q19 => ?_)
        · refine mm_iload_n dM_holds_26 rfl rfl ?_
          refine mm_if_eq_b (tgt := 41) dM_holds_27 (by decide) (fun q27 => ?_) (fun q27 => ?_)
          · refine mm_iconst (v := nI 0) dM_holds_41 (by decide) ?_
            have rg : (decide (nI 1 ≤ n) && (decide (n ≤ nI 3) && (decide (0 ≤ b) && decide (b < nI 16384)))) = true := by
              rw [decide_eq_true (kj_nlt q3), decide_eq_true (kj_nlt q8), decide_eq_true (kj_nlt q12), decide_eq_true q19]; rfl
            exact tail 0 (by decide) ((if_pos rg).trans (if_neg (fun w => by rw [q27] at w; cases w.1))) (fun _ => ⟨kh_say_lt (kj_nlt q3) (kj_nlt q8), (by obtain ⟨B, hB, e⟩ := nI_of q12; exact ⟨B, e, hB⟩), fun w => by rw [q27] at w; cases w⟩)
          · refine mm_aload_n dM_holds_30 rfl rfl ?_
            refine mm_getf dM_holds_31 fM_64 (km_0 h m _) rfl ?_
            refine mm_if_ne_b (tgt := 41) dM_holds_34 (by decide) (fun q34 => ?_) (fun q34 => ?_)
            · refine mm_iconst (v := nI 0) dM_holds_41 (by decide) ?_
              have rg : (decide (nI 1 ≤ n) && (decide (n ≤ nI 3) && (decide (0 ≤ b) && decide (b < nI 16384)))) = true := by
                rw [decide_eq_true (kj_nlt q3), decide_eq_true (kj_nlt q8), decide_eq_true (kj_nlt q12), decide_eq_true q19]; rfl
              exact tail 0 (by decide) ((if_pos rg).trans (if_neg (fun w => by rw [q34] at w; cases w.2))) (fun _ => ⟨kh_say_lt (kj_nlt q3) (kj_nlt q8), (by obtain ⟨B, hB, e⟩ := nI_of q12; exact ⟨B, e, hB⟩), fun _ => q34⟩)
            · refine mm_iconst (v := nI 2) dM_holds_37 (by decide) ?_
              refine mm_goto (tgt := 42) dM_holds_38 (by decide) ?_
              have rg : (decide (nI 1 ≤ n) && (decide (n ≤ nI 3) && (decide (0 ≤ b) && decide (b < nI 16384)))) = true := by
                rw [decide_eq_true (kj_nlt q3), decide_eq_true (kj_nlt q8), decide_eq_true (kj_nlt q12), decide_eq_true q19]; rfl
              exact tail 2 (by decide) ((if_pos rg).trans (if_pos ⟨q27, q34⟩)) (fun w => nomatch w)
        · refine mm_iconst (v := nI 1) dM_holds_22 (by decide) ?_
          refine mm_goto (tgt := 42) dM_holds_23 (by decide) ?_
          exact tail 1 (by decide) (if_neg (fun w => by
            rw [Bool.and_eq_true_iff, Bool.and_eq_true_iff, Bool.and_eq_true_iff] at w
            exact q19 (of_decide_eq_true w.2.2.2))) (fun w => nomatch w)
theorem kh_N_first (M : km_M) (H : Nat → Bool) (un os oc : Nat → Nat) (fs : Nat → Option Nat) : km_first (kh_N M (m_sh M) H un os oc fs) = km_first M := rfl
set_option maxHeartbeats 1000000 in
theorem kM_refutes (o : kt_ok (km_S M)) (hw : ke_raw (m_sh M)) (o1 : m_st M = true → kt_ok (kz (km_first M))) (hw1 : m_st M = true → ke_raw (km_first M)) (hm : m_mv M ≤ 20) (n : Int32) :
    mm_Ev Γ l (d + 1 + 1 + 1 + 1 + 1) mM_refutes [.ref m, .int n] (km_set h m M) (km_D h m (fun v M' => v = some (.int (mm_enc (kh_rf M n))) ∧ ∃ H un os oc fs, M' = kh_N (s_th M (kh_rfT M n)) (m_sh M) H un os oc fs)) := by
  have loop : ∀ (T : Nat) (x : Option Nat), (T = 1 ∨ T = 2) → m_st M = true → n = nI T → kh_rfT M n = 0 → kh_rf M n = x → ∀ (j b : Nat) (M1 : km_M), b + j = 1024 → (∃ H un os oc fs, M1 = kh_N (s_th M 0) (m_sh M) H un os oc fs) → kh_fst (kh_rfp M T) b j = x → mm_W Γ l mM_refutes (d + 1 + 1 + 1 + 1 + 1) (km_D h m (fun v M' => v = some (.int (mm_enc (kh_rf M n))) ∧ ∃ H un os oc fs, M' = kh_N (s_th M (kh_rfT M n)) (m_sh M) H un os oc fs)) 55 [some (.ref m), some (.int (nI T)), some (.int (nI (kc_all T))), some (.int (nI b))] [] (km_set h m M1) := by
    intro T x hT hst en eT ex j
    rw [eT, ex]
    have hT0 : 0 < T := by omega
    have hT3 : T ≤ 3 := by omega
    induction j with
    | zero =>
      intro b M1 hb hM e
      have e : none = x := e
      subst e
      refine mm_iload_n dM_refutes_55 rfl rfl ?_
      refine mm_sipush (v := nI 1024) dM_refutes_56 (by decide) ?_
      refine mm_icmp_ge_T (tgt := 96) dM_refutes_59 (by decide) (nI_le (by omega) (by omega)) ?_
      refine mm_iconst (v := -1) dM_refutes_96 (by decide) ?_
      refine mm_ireturn dM_refutes_97 rfl ?_
      exact ⟨_, _, rfl, rfl, rfl, hM⟩
    | succ j ih =>
      intro b M1 hb hM e
      obtain ⟨H1, un1, os1, oc1, fs1, eM1⟩ := hM
      have fw : ∀ (M2 : km_M), (∃ H un os oc fs, M2 = kh_N (s_th M 0) (m_sh M) H un os oc fs) → kh_rfp M T b = false → mm_W Γ l mM_refutes (d + 1 + 1 + 1 + 1 + 1) (km_D h m (fun v M' => v = some (.int (mm_enc x)) ∧ ∃ H un os oc fs, M' = kh_N (s_th M 0) (m_sh M) H un os oc fs)) 55 [some (.ref m), some (.int (nI T)), some (.int (nI (kc_all T))), some (.int (nI (b + 1)))] [] (km_set h m M2) := by
        intro M2 g1 g2
        rw [kh_fst_f g2] at e
        exact ih (b + 1) M2 (by omega) g1 e
      subst eM1
      refine mm_iload_n dM_refutes_55 rfl rfl ?_
      refine mm_sipush (v := nI 1024) dM_refutes_56 (by decide) ?_
      refine mm_icmp_ge_F (tgt := 96) dM_refutes_59 (by decide) (nI_ge (by omega) (by omega)) ?_
      refine mm_iload_n dM_refutes_62 rfl rfl ?_
      refine mm_iload_n dM_refutes_63 rfl rfl ?_
      refine mm_iconst (v := -1) dM_refutes_64 (by decide) ?_
      refine mm_ixor dM_refutes_65 ?_
      refine mm_iand dM_refutes_66 ?_
      refine mm_if_ne (tgt := 90) dM_refutes_67 (by decide) (fun q67 => ?_) (fun q67 => ?_)
      · have q67 : ¬ nI b &&& (nI (kc_all T) ^^^ -1) = 0 := q67
        refine mm_iinc dM_refutes_90 (by decide) rfl (mm_inc _) rfl ?_
        refine mm_goto (tgt := 55) dM_refutes_93 (by decide) ?_
        exact fw _ ⟨H1, un1, os1, oc1, fs1, rfl⟩ (by unfold kh_rfp kc_inn; rw [decide_eq_false q67]; rfl)
      · have q67 : nI b &&& (nI (kc_all T) ^^^ -1) = 0 := q67
        refine mm_aload_n dM_refutes_70 rfl rfl ?_
        refine mm_iload_n dM_refutes_71 rfl rfl ?_
        refine mm_iload_n dM_refutes_72 rfl rfl ?_
        refine mm_v2x dM_refutes_73 lM_202 (km_0 h m _) rfl rfl (by decide) (Nat.le_of_ble_eq_true rfl) (kM_firstHolds (M := (kh_N (s_th M 0) (m_sh M) H1 un1 os1 oc1 fs1)) (o1 hst) (hw1 hst) hm hT0 hT3 (by omega)) ?_
        rintro v M2 ⟨rfl, H2, un2, os2, oc2, fs2, rfl⟩
        refine mm_eqh (congrArg (km_set h m) (kh_N_N (s_th M 0) (m_sh M) H1 un1 os1 oc1 fs1 (m_sh M) H2 un2 os2 oc2 fs2).symm) ?_
        refine mm_if_eq_b (tgt := 90) dM_refutes_76 (by decide) (fun q76 => ?_) (fun q76 => ?_)
        · have q76 : kh_say (km_first M) T b = false := q76
          refine mm_iinc dM_refutes_90 (by decide) rfl (mm_inc _) rfl ?_
          refine mm_goto (tgt := 55) dM_refutes_93 (by decide) ?_
          exact fw _ ⟨H2, un2, os2, oc2, fs2, rfl⟩ (by unfold kh_rfp; rw [q76, Bool.false_and, Bool.and_false])
        · have q76 : kh_say (km_first M) T b = true := q76
          refine mm_aload_n dM_refutes_79 rfl rfl ?_
          refine mm_iload_n dM_refutes_80 rfl rfl ?_
          refine mm_iload_n dM_refutes_81 rfl rfl ?_
          refine mm_v2x dM_refutes_82 lM_199 (km_0 h m _) rfl rfl (by decide) (Nat.le_of_ble_eq_true rfl) (mm_deep (Nat.le_succ _) (kM_sheetHolds (M := (kh_N (s_th M 0) (m_sh M) H2 un2 os2 oc2 fs2)) (d := d) o hw hT0 hT3 (by omega))) ?_
          rintro v M3 ⟨rfl, H3, un3, os3, oc3, rfl⟩
          refine mm_eqh (congrArg (km_set h m) (kh_N_M (s_th M 0) (m_sh M) H2 un2 os2 oc2 fs2 H3 un3 os3 oc3).symm) ?_
          refine mm_if_ne_b (tgt := 90) dM_refutes_85 (by decide) (fun q85 => ?_) (fun q85 => ?_)
          · have q85 : kh_say (m_sh M) T b = true := q85
            refine mm_iinc dM_refutes_90 (by decide) rfl (mm_inc _) rfl ?_
            refine mm_goto (tgt := 55) dM_refutes_93 (by decide) ?_
            exact fw _ ⟨H3, un3, os3, oc3, fs2, rfl⟩ (by unfold kh_rfp; rw [q85]; cases kc_inn (kc_all T) b <;> cases kh_say (km_first M) T b <;> rfl)
          · have q85 : kh_say (m_sh M) T b = false := q85
            refine mm_iload_n dM_refutes_88 rfl rfl ?_
            refine mm_ireturn dM_refutes_89 rfl ?_
            have hp : kh_rfp M T b = true := by unfold kh_rfp kc_inn; rw [decide_eq_true q67, q76, q85]; rfl
            rw [kh_fst_t hp] at e
            exact ⟨_, _, rfl, rfl, by rw [← e]; rfl, H3, un3, os3, oc3, fs2, rfl⟩
  show mm_W Γ l mM_refutes (d + 1 + 1 + 1 + 1 + 1) _ 0 [some (.ref m), some (.int n), none, none] [] _
  refine mm_aload_n dM_refutes_0 rfl rfl ?_
  refine mm_iload_n dM_refutes_1 rfl rfl ?_
  refine mm_iconst (v := nI 1) dM_refutes_2 (by decide) ?_
  refine mm_icmp_lt (tgt := 11) dM_refutes_3 (by decide) (fun q3 => ?_) (fun q3 => ?_)
  · have rt : kh_rfT M n = 1 := if_neg (fun w => by
      rcases Bool.or_eq_true_iff.mp w with w | w
      · have w := of_decide_eq_true w
        subst w
        exact absurd q3 (by decide)
      · have w := of_decide_eq_true w
        subst w
        exact absurd q3 (by decide))
    have rv : kh_rf M n = some 0 := by unfold kh_rf; rw [rt, if_neg (by decide)]
    refine mm_iconst (v := nI 1) dM_refutes_11 (by decide) ?_
    refine mm_goto (tgt := 27) dM_refutes_12 (by decide) ?_
    refine mm_putf dM_refutes_27 fM_56 rfl rfl rfl rfl (km_0 h m _) (Nat.le_of_ble_eq_true rfl) ?_
    refine mm_eqh (ku_th h m _ 1).symm ?_
    refine mm_aload_n dM_refutes_30 rfl rfl ?_
    refine mm_getf dM_refutes_31 fM_56 (km_0 h m _) rfl ?_
    refine mm_if_eq_F (tgt := 39) dM_refutes_34 (by decide) (show ¬ nI 1 = 0 by decide) ?_
    refine mm_iconst (v := nI 0) dM_refutes_37 (by decide) ?_
    refine mm_ireturn dM_refutes_38 rfl ?_
    exact ⟨_, _, rfl, rfl, by rw [rv]; rfl, m_hd M, m_un M, m_os M, m_oc M, m_fs M, by rw [rt]; rfl⟩
  · refine mm_iload_n dM_refutes_6 rfl rfl ?_
    refine mm_iconst (v := nI 2) dM_refutes_7 (by decide) ?_
    refine mm_icmp_le (tgt := 15) dM_refutes_8 (by decide) (fun q8 => ?_) (fun q8 => ?_)
    · obtain ⟨T, en, hT0, hT3⟩ := kh_say_lt (kj_nlt q3) (Int32.le_trans q8 (by decide))
      have hT2 : T = 1 ∨ T = 2 := by
        rw [en, nI_leI (by omega) (by decide)] at q8
        omega
      have rin : (decide (n = nI 1) || decide (n = nI 2)) = true := by
        rw [Bool.or_eq_true_iff]
        rcases hT2 with w | w
        · exact Or.inl (decide_eq_true (by rw [en, w]))
        · exact Or.inr (decide_eq_true (by rw [en, w]))
      refine mm_aload_n dM_refutes_15 rfl rfl ?_
      refine mm_getf dM_refutes_16 fM_64 (km_0 h m _) rfl ?_
      refine mm_if_ne_b (tgt := 26) dM_refutes_19 (by decide) (fun q19 => ?_) (fun q19 => ?_)
      · have rt : kh_rfT M n = 0 := (if_pos rin).trans (if_pos q19)
        refine mm_iconst (v := nI 0) dM_refutes_26 (by decide) ?_
        refine mm_putf dM_refutes_27 fM_56 rfl rfl rfl rfl (km_0 h m _) (Nat.le_of_ble_eq_true rfl) ?_
        refine mm_eqh (ku_th h m _ 0).symm ?_
        refine mm_aload_n dM_refutes_30 rfl rfl ?_
        refine mm_getf dM_refutes_31 fM_56 (km_0 h m _) rfl ?_
        refine mm_if_eq_T (tgt := 39) dM_refutes_34 (by decide) rfl ?_
        subst en
        refine mm_iload_n dM_refutes_39 rfl rfl ?_
        refine mm_iconst (v := nI 1) dM_refutes_40 (by decide) ?_
        refine mm_icmp_ne_n (tgt := 49) dM_refutes_41 (by decide) (by omega) (by decide) (fun q41 => ?_) (fun q41 => ?_)
        · have ea : kc_all T = 879 := if_neg q41
          refine mm_sipush (v := nI 879) dM_refutes_49 (by decide) ?_
          refine mm_istore_n dM_refutes_52 rfl (by decide) rfl ?_
          refine mm_iconst (v := nI 0) dM_refutes_53 (by decide) ?_
          refine mm_istore_n dM_refutes_54 rfl (by decide) rfl ?_
          have hh := loop T _ hT2 q19 rfl rt rfl 1024 0 (s_th M 0) rfl ⟨m_hd M, m_un M, m_os M, m_oc M, m_fs M, rfl⟩ (by unfold kh_rf; rw [if_pos rt, nI_clamp (by omega)])
          rw [ea] at hh
          exact hh
        · have ea : kc_all T = 39 := if_pos q41
          refine mm_bipush (v := nI 39) dM_refutes_44 (by decide) ?_
          refine mm_goto (tgt := 52) dM_refutes_46 (by decide) ?_
          refine mm_istore_n dM_refutes_52 rfl (by decide) rfl ?_
          refine mm_iconst (v := nI 0) dM_refutes_53 (by decide) ?_
          refine mm_istore_n dM_refutes_54 rfl (by decide) rfl ?_
          have hh := loop T _ hT2 q19 rfl rt rfl 1024 0 (s_th M 0) rfl ⟨m_hd M, m_un M, m_os M, m_oc M, m_fs M, rfl⟩ (by unfold kh_rf; rw [if_pos rt, nI_clamp (by omega)])
          rw [ea] at hh
          exact hh
      · have rt : kh_rfT M n = 2 := (if_pos rin).trans (if_neg (by rw [q19]; decide))
        have rv : kh_rf M n = some 0 := by unfold kh_rf; rw [rt, if_neg (by decide)]
        refine mm_iconst (v := nI 2) dM_refutes_22 (by decide) ?_
        refine mm_goto (tgt := 27) dM_refutes_23 (by decide) ?_
        refine mm_putf dM_refutes_27 fM_56 rfl rfl rfl rfl (km_0 h m _) (Nat.le_of_ble_eq_true rfl) ?_
        refine mm_eqh (ku_th h m _ 2).symm ?_
        refine mm_aload_n dM_refutes_30 rfl rfl ?_
        refine mm_getf dM_refutes_31 fM_56 (km_0 h m _) rfl ?_
        refine mm_if_eq_F (tgt := 39) dM_refutes_34 (by decide) (show ¬ nI 2 = 0 by decide) ?_
        refine mm_iconst (v := nI 0) dM_refutes_37 (by decide) ?_
        refine mm_ireturn dM_refutes_38 rfl ?_
        exact ⟨_, _, rfl, rfl, by rw [rv]; rfl, m_hd M, m_un M, m_os M, m_oc M, m_fs M, by rw [rt]; rfl⟩
    · have rt : kh_rfT M n = 1 := if_neg (fun w => by
        rcases Bool.or_eq_true_iff.mp w with w | w
        · have w := of_decide_eq_true w
          subst w
          exact absurd q8 (by decide)
        · have w := of_decide_eq_true w
          subst w
          exact absurd q8 (by decide))
      have rv : kh_rf M n = some 0 := by unfold kh_rf; rw [rt, if_neg (by decide)]
      refine mm_iconst (v := nI 1) dM_refutes_11 (by decide) ?_
      refine mm_goto (tgt := 27) dM_refutes_12 (by decide) ?_
      refine mm_putf dM_refutes_27 fM_56 rfl rfl rfl rfl (km_0 h m _) (Nat.le_of_ble_eq_true rfl) ?_
      refine mm_eqh (ku_th h m _ 1).symm ?_
      refine mm_aload_n dM_refutes_30 rfl rfl ?_
      refine mm_getf dM_refutes_31 fM_56 (km_0 h m _) rfl ?_
      refine mm_if_eq_F (tgt := 39) dM_refutes_34 (by decide) (show ¬ nI 1 = 0 by decide) ?_
      refine mm_iconst (v := nI 0) dM_refutes_37 (by decide) ?_
      refine mm_ireturn dM_refutes_38 rfl ?_
      exact ⟨_, _, rfl, rfl, by rw [rv]; rfl, m_hd M, m_un M, m_os M, m_oc M, m_fs M, by rw [rt]; rfl⟩
end KM11
