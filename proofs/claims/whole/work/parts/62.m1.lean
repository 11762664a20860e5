/-! Contracts of the reference: leaves. Printed by wip/whole/spec/m1.py -/
theorem kz_smc {f : Nat → Option Nat} (o : ks_ok (kz f)) {i : Nat} (hi : i < 13) : mm_sm (f i) := by
  rw [← kz_c f hi]; exact o.sm (k := 1) hi
theorem kz_sml {f : Nat → Option Nat} (o : ks_ok (kz f)) {i : Nat} (hi : i < 6) : mm_sm (f (13 + i)) := by
  rw [← kz_l f hi]; exact o.sm (k := 2) hi
theorem kz_sms {f : Nat → Option Nat} (o : ks_ok (kz f)) {i : Nat} (hi : i < 12) : mm_sm (f (19 + i)) := by
  rw [← kz_s f hi]; exact o.sm (k := 0) hi
theorem ks_hasI_f {S : ks_S} {k n : Nat} (hk : k < 3) (hn : n < 2 ^ 31) (h : ¬ n < ks_len k) : ks_hasI S (nI k) (nI n) = false := ks_has_f4 hk hn (by omega)
theorem ks_le0 {x : Int32} (h1 : ¬ x = 0) (h2 : x ≤ 0) : x < 0 := by
  rw [Int32.lt_iff_toInt_lt]
  rw [Int32.le_iff_toInt_le] at h2
  have h3 : ¬ x.toInt = (0 : Int32).toInt := fun e => h1 (Int32.toInt_inj.mp e)
  omega
section KM1
variable {Γ : mm_G} {l : Launch} {d : Nat} {h : mm_H} {m : Nat} {M : km_M}
theorem kM_thrown : mm_Ev Γ l d mM_thrown [.ref m] (km_set h m M) (mm_is (.inl (some (.int (nI (m_th M))))) (km_set h m M)) := by
  show mm_W Γ l mM_thrown d _ 0 [some (.ref m)] [] _
  refine mm_aload_n dM_thrown_0 rfl rfl ?_
  refine mm_getf dM_thrown_1 fM_56 (km_0 h m M) rfl ?_
  refine mm_ireturn dM_thrown_4 rfl ?_
  exact ⟨rfl, rfl⟩
theorem kM_isArea (o : ks_ok (km_S M)) (n : Int32) : mm_Ev Γ l d mM_isArea [.ref m, .int n] (km_set h m M) (mm_is (.inl (some (.int (mm_bI (ks_harI (km_S M) n))))) (km_set h m M)) := by
  show mm_W Γ l mM_isArea d _ 0 [some (.ref m), some (.int n)] [] _
  refine mm_iload_n dM_isArea_0 rfl rfl ?_
  refine mm_if_eq (tgt := 24) dM_isArea_1 (by decide) (fun q1 => ?_) (fun q1 => ?_)
  · refine mm_iconst (v := nI 1) dM_isArea_24 (by decide) ?_
    refine mm_goto (tgt := 29) dM_isArea_25 (by decide) ?_
    refine mm_zreturn dM_isArea_29 rfl rfl ?_
    exact mm_f1 (by simp [ks_harI, q1])
  · refine mm_iload_n dM_isArea_4 rfl rfl ?_
    refine mm_if_le (tgt := 28) dM_isArea_5 (by decide) (fun q5 => ?_) (fun q5 => ?_)
    · refine mm_iconst (v := nI 0) dM_isArea_28 (by decide) ?_
      refine mm_zreturn dM_isArea_29 rfl rfl ?_
      exact mm_f0 (by unfold ks_harI; rw [decide_eq_false q1, ks_has_f3 (ks_le0 q1 q5)]; rfl)
    · have q5' : ¬ n < 0 := fun w => q5 (by rw [Int32.le_iff_toInt_le]; have := Int32.lt_iff_toInt_lt.mp w; omega)
      obtain ⟨i, hi, rfl⟩ := nI_of q5'
      refine mm_iload_n dM_isArea_8 rfl rfl ?_
      refine mm_bipush (v := nI 13) dM_isArea_9 (by decide) ?_
      refine mm_icmp_ge_n (tgt := 28) dM_isArea_11 (by decide) hi (by decide) (fun q11 => ?_) (fun q11 => ?_)
      · refine mm_iconst (v := nI 0) dM_isArea_28 (by decide) ?_
        refine mm_zreturn dM_isArea_29 rfl rfl ?_
        exact mm_f0 (by unfold ks_harI; rw [decide_eq_false q1, ks_has_f4 (S := km_S M) (k := 1) (by decide) hi q11]; rfl)
      · refine mm_aload_n dM_isArea_14 rfl rfl ?_
        refine mm_getf dM_isArea_15 fM_7 (km_0 h m M) rfl ?_
        refine mm_iload_n dM_isArea_18 rfl rfl ?_
        refine mm_iaload dM_isArea_19 (km_sh h m M) rfl (by omega) (by decide) ?_
        refine mm_iconst (v := -1) dM_isArea_20 (by decide) ?_
        refine mm_icmp_eq_o (tgt := 28) dM_isArea_21 (by decide) (kz_smc o q11) (fun q21 => ?_) (fun q21 => ?_)
        · refine mm_iconst (v := nI 0) dM_isArea_28 (by decide) ?_
          refine mm_zreturn dM_isArea_29 rfl rfl ?_
          exact mm_f0 (by unfold ks_harI; rw [decide_eq_false q1, ks_has_f5 (S := km_S M) (k := 1) (by decide) hi ((kz_c _ q11).trans q21)]; rfl)
        · refine mm_iconst (v := nI 1) dM_isArea_24 (by decide) ?_
          refine mm_goto (tgt := 29) dM_isArea_25 (by decide) ?_
          refine mm_zreturn dM_isArea_29 rfl rfl ?_
          exact mm_f1 (by unfold ks_harI; rw [ks_has_t (S := km_S M) (k := 1) (by decide) q11 (fun e => q21 ((kz_c _ q11).symm.trans e)), Bool.or_true])
theorem kM_isCut (o : ks_ok (km_S M)) (n : Int32) : mm_Ev Γ l (d + 1) mM_isCut [.ref m, .int n] (km_set h m M) (mm_is (.inl (some (.int (mm_bI (ks_hasI (km_S M) (nI 1) n))))) (km_set h m M)) := by
  show mm_W Γ l mM_isCut (d + 1) _ 0 [some (.ref m), some (.int n)] [] _
  refine mm_iload_n dM_isCut_0 rfl rfl ?_
  refine mm_if_le (tgt := 16) dM_isCut_1 (by decide) (fun q1 => ?_) (fun q1 => ?_)
  · refine mm_iconst (v := nI 0) dM_isCut_16 (by decide) ?_
    refine mm_zreturn dM_isCut_17 rfl rfl ?_
    by_cases hz : n = 0
    · subst hz; exact mm_f0 (ks_has_f5 (n := 0) (by decide) (by decide) o.2.2.2)
    · exact mm_f0 (ks_has_f3 (ks_le0 hz q1))
  · refine mm_aload_n dM_isCut_4 rfl rfl ?_
    refine mm_iload_n dM_isCut_5 rfl rfl ?_
    refine mm_v1 dM_isCut_6 lM_60 (km_0 h m M) rfl (by decide) (Nat.le_of_ble_eq_true rfl) (kM_isArea o n) ?_
    refine mm_if_eq_b (tgt := 16) dM_isCut_9 (by decide) (fun q9 => ?_) (fun q9 => ?_)
    · refine mm_iconst (v := nI 0) dM_isCut_16 (by decide) ?_
      refine mm_zreturn dM_isCut_17 rfl rfl ?_
      unfold ks_harI at q9
      rw [decide_eq_false (fun e => q1 (by rw [e]; decide)), Bool.false_or] at q9
      exact mm_f0 q9
    · refine mm_iconst (v := nI 1) dM_isCut_12 (by decide) ?_
      refine mm_goto (tgt := 17) dM_isCut_13 (by decide) ?_
      refine mm_zreturn dM_isCut_17 rfl rfl ?_
      unfold ks_harI at q9
      rw [decide_eq_false (fun e => q1 (by rw [e]; decide)), Bool.false_or] at q9
      exact mm_f1 q9
theorem kM_isLine (o : ks_ok (km_S M)) (n : Int32) : mm_Ev Γ l d mM_isLine [.ref m, .int n] (km_set h m M) (mm_is (.inl (some (.int (mm_bI (ks_hasI (km_S M) (nI 2) n))))) (km_set h m M)) := by
  show mm_W Γ l mM_isLine d _ 0 [some (.ref m), some (.int n)] [] _
  refine mm_iload_n dM_isLine_0 rfl rfl ?_
  refine mm_if_lt (tgt := 27) dM_isLine_1 (by decide) (fun q1 => ?_) (fun q1 => ?_)
  · refine mm_iconst (v := nI 0) dM_isLine_27 (by decide) ?_
    refine mm_zreturn dM_isLine_28 rfl rfl ?_
    exact mm_f0 (ks_has_f3 q1)
  · obtain ⟨i, hi, rfl⟩ := nI_of q1
    refine mm_iload_n dM_isLine_4 rfl rfl ?_
    refine mm_bipush (v := nI 6) dM_isLine_5 (by decide) ?_
    refine mm_icmp_ge_n (tgt := 27) dM_isLine_7 (by decide) hi (by decide) (fun q7 => ?_) (fun q7 => ?_)
    · refine mm_iconst (v := nI 0) dM_isLine_27 (by decide) ?_
      refine mm_zreturn dM_isLine_28 rfl rfl ?_
      exact mm_f0 (ks_has_f4 (S := km_S M) (k := 2) (by decide) hi q7)
    · refine mm_aload_n dM_isLine_10 rfl rfl ?_
      refine mm_getf dM_isLine_11 fM_7 (km_0 h m M) rfl ?_
      refine mm_bipush (v := nI 13) dM_isLine_14 (by decide) ?_
      refine mm_iload_n dM_isLine_16 rfl rfl ?_
      refine mm_iadd dM_isLine_17 ?_
      refine mm_iaload dM_isLine_18 (km_sh h m M) (nI_add 13 i) (by omega) (by decide) ?_
      refine mm_iconst (v := -1) dM_isLine_19 (by decide) ?_
      refine mm_icmp_eq_o (tgt := 27) dM_isLine_20 (by decide) (kz_sml o q7) (fun q20 => ?_) (fun q20 => ?_)
      · refine mm_iconst (v := nI 0) dM_isLine_27 (by decide) ?_
        refine mm_zreturn dM_isLine_28 rfl rfl ?_
        exact mm_f0 (ks_has_f5 (S := km_S M) (k := 2) (by decide) hi ((kz_l _ q7).trans q20))
      · refine mm_iconst (v := nI 1) dM_isLine_23 (by decide) ?_
        refine mm_goto (tgt := 28) dM_isLine_24 (by decide) ?_
        refine mm_zreturn dM_isLine_28 rfl rfl ?_
        exact mm_f1 (ks_has_t (S := km_S M) (k := 2) (by decide) q7 (fun e => q20 ((kz_l _ q7).symm.trans e)))
theorem kM_isSpot (o : ks_ok (km_S M)) (n : Int32) : mm_Ev Γ l d mM_isSpot [.ref m, .int n] (km_set h m M) (mm_is (.inl (some (.int (mm_bI (ks_hasI (km_S M) (nI 0) n))))) (km_set h m M)) := by
  show mm_W Γ l mM_isSpot d _ 0 [some (.ref m), some (.int n)] [] _
  refine mm_iload_n dM_isSpot_0 rfl rfl ?_
  refine mm_if_lt (tgt := 27) dM_isSpot_1 (by decide) (fun q1 => ?_) (fun q1 => ?_)
  · refine mm_iconst (v := nI 0) dM_isSpot_27 (by decide) ?_
    refine mm_zreturn dM_isSpot_28 rfl rfl ?_
    exact mm_f0 (ks_has_f3 q1)
  · obtain ⟨i, hi, rfl⟩ := nI_of q1
    refine mm_iload_n dM_isSpot_4 rfl rfl ?_
    refine mm_bipush (v := nI 12) dM_isSpot_5 (by decide) ?_
    refine mm_icmp_ge_n (tgt := 27) dM_isSpot_7 (by decide) hi (by decide) (fun q7 => ?_) (fun q7 => ?_)
    · refine mm_iconst (v := nI 0) dM_isSpot_27 (by decide) ?_
      refine mm_zreturn dM_isSpot_28 rfl rfl ?_
      exact mm_f0 (ks_has_f4 (S := km_S M) (k := 0) (by decide) hi q7)
    · refine mm_aload_n dM_isSpot_10 rfl rfl ?_
      refine mm_getf dM_isSpot_11 fM_7 (km_0 h m M) rfl ?_
      refine mm_bipush (v := nI 19) dM_isSpot_14 (by decide) ?_
      refine mm_iload_n dM_isSpot_16 rfl rfl ?_
      refine mm_iadd dM_isSpot_17 ?_
      refine mm_iaload dM_isSpot_18 (km_sh h m M) (nI_add 19 i) (by omega) (by decide) ?_
      refine mm_iconst (v := -1) dM_isSpot_19 (by decide) ?_
      refine mm_icmp_eq_o (tgt := 27) dM_isSpot_20 (by decide) (kz_sms o q7) (fun q20 => ?_) (fun q20 => ?_)
      · refine mm_iconst (v := nI 0) dM_isSpot_27 (by decide) ?_
        refine mm_zreturn dM_isSpot_28 rfl rfl ?_
        exact mm_f0 (ks_has_f5 (S := km_S M) (k := 0) (by decide) hi ((kz_s _ q7).trans q20))
      · refine mm_iconst (v := nI 1) dM_isSpot_23 (by decide) ?_
        refine mm_goto (tgt := 28) dM_isSpot_24 (by decide) ?_
        refine mm_zreturn dM_isSpot_28 rfl rfl ?_
        exact mm_f1 (ks_has_t (S := km_S M) (k := 0) (by decide) q7 (fun e => q20 ((kz_s _ q7).symm.trans e)))
theorem kM_places {sg : Nat} (hs : sg < 2 ^ 31) : mm_Ev Γ l d mM_places [.ref m, .int (nI sg)] h (mm_is (.inl (some (.int (nI (kc_places sg))))) h) := by
  show mm_W Γ l mM_places d _ 0 [some (.ref m), some (.int (nI sg))] [] h
  refine mm_iload_n dM_places_0 rfl rfl ?_
  refine mm_iconst (v := nI 2) dM_places_1 (by decide) ?_
  refine mm_icmp_ge_n (tgt := 9) dM_places_2 (by decide) hs (by decide) (fun q2 => ?_) (fun q2 => ?_)
  · refine mm_iload_n dM_places_9 rfl rfl ?_
    refine mm_iconst (v := nI 1) dM_places_10 (by decide) ?_
    refine mm_isub dM_places_11 ?_
    refine mm_ireturn dM_places_12 rfl ?_
    exact ⟨by unfold kc_places; rw [if_neg (by omega), pk_sub (by omega)], rfl⟩
  · refine mm_iconst (v := nI 0) dM_places_5 (by decide) ?_
    refine mm_goto (tgt := 12) dM_places_6 (by decide) ?_
    refine mm_ireturn dM_places_12 rfl ?_
    exact ⟨by unfold kc_places; rw [if_pos (by omega)], rfl⟩
theorem kM_freeCut (o : ks_ok (km_S M)) : mm_Ev Γ l d mM_freeCut [.ref m] (km_set h m M) (mm_is (.inl (some (.int (nI ((ks_slot (km_S M) 1).getD 13))))) (km_set h m M)) := by
  have loop : ∀ (j i : Nat), i + j = 13 → mm_W Γ l mM_freeCut d (mm_is (.inl (some (.int (nI ((ks_free (ks_row (km_S M) 1) i j).getD 13))))) (km_set h m M)) 2 [some (.ref m), some (.int (nI i))] [] (km_set h m M) := by
    intro j
    induction j with
    | zero =>
      intro i hi
      have hi : i = 13 := by omega
      subst hi
      refine mm_iload_n dM_freeCut_2 rfl rfl ?_
      refine mm_bipush (v := nI 13) dM_freeCut_3 (by decide) ?_
      refine mm_icmp_ge_T (tgt := 24) dM_freeCut_5 (by decide) (nI_le (by omega) (by omega)) ?_
      refine mm_iload_n dM_freeCut_24 rfl rfl ?_
      refine mm_ireturn dM_freeCut_25 rfl ?_
      exact ⟨rfl, rfl⟩
    | succ j ih =>
      intro i hi
      refine mm_iload_n dM_freeCut_2 rfl rfl ?_
      refine mm_bipush (v := nI 13) dM_freeCut_3 (by decide) ?_
      refine mm_icmp_ge_F (tgt := 24) dM_freeCut_5 (by decide) (nI_ge (by omega) (by omega)) ?_
      refine mm_aload_n dM_freeCut_8 rfl rfl ?_
      refine mm_getf dM_freeCut_9 fM_7 (km_0 h m M) rfl ?_
      refine mm_iload_n dM_freeCut_12 rfl rfl ?_
      refine mm_iaload dM_freeCut_13 (km_sh h m M) rfl (by omega) (by decide) ?_
      refine mm_iconst (v := -1) dM_freeCut_14 (by decide) ?_
      refine mm_icmp_eq_o (tgt := 24) dM_freeCut_15 (by decide) (kz_smc o (by omega)) (fun q15 => ?_) (fun q15 => ?_)
      · refine mm_iload_n dM_freeCut_24 rfl rfl ?_
        refine mm_ireturn dM_freeCut_25 rfl ?_
        exact ⟨by rw [show ks_free (ks_row (km_S M) 1) i (j + 1) = some i from if_pos ((kz_c _ (by omega)).trans q15)]; rfl, rfl⟩
      · refine mm_iinc dM_freeCut_18 (by decide) rfl (mm_inc _) rfl ?_
        refine mm_goto (tgt := 2) dM_freeCut_21 (by decide) ?_
        rw [show ks_free (ks_row (km_S M) 1) i (j + 1) = ks_free (ks_row (km_S M) 1) (i + 1) j from if_neg (fun e => q15 ((kz_c _ (by omega)).symm.trans e))]
        exact ih (i + 1) (by omega)
  show mm_W Γ l mM_freeCut d _ 0 [some (.ref m), none] [] _
  refine mm_iconst (v := nI 1) dM_freeCut_0 (by decide) ?_
  refine mm_istore_n dM_freeCut_1 rfl (by decide) rfl ?_
  exact loop 12 1 rfl
theorem kM_freeLine (o : ks_ok (km_S M)) : mm_Ev Γ l d mM_freeLine [.ref m] (km_set h m M) (mm_is (.inl (some (.int (nI ((ks_slot (km_S M) 2).getD 6))))) (km_set h m M)) := by
  have loop : ∀ (j i : Nat), i + j = 6 → mm_W Γ l mM_freeLine d (mm_is (.inl (some (.int (nI ((ks_free (ks_row (km_S M) 2) i j).getD 6))))) (km_set h m M)) 2 [some (.ref m), some (.int (nI i))] [] (km_set h m M) := by
    intro j
    induction j with
    | zero =>
      intro i hi
      have hi : i = 6 := by omega
      subst hi
      refine mm_iload_n dM_freeLine_2 rfl rfl ?_
      refine mm_bipush (v := nI 6) dM_freeLine_3 (by decide) ?_
      refine mm_icmp_ge_T (tgt := 27) dM_freeLine_5 (by decide) (nI_le (by omega) (by omega)) ?_
      refine mm_iload_n dM_freeLine_27 rfl rfl ?_
      refine mm_ireturn dM_freeLine_28 rfl ?_
      exact ⟨rfl, rfl⟩
    | succ j ih =>
      intro i hi
      refine mm_iload_n dM_freeLine_2 rfl rfl ?_
      refine mm_bipush (v := nI 6) dM_freeLine_3 (by decide) ?_
      refine mm_icmp_ge_F (tgt := 27) dM_freeLine_5 (by decide) (nI_ge (by omega) (by omega)) ?_
      refine mm_aload_n dM_freeLine_8 rfl rfl ?_
      refine mm_getf dM_freeLine_9 fM_7 (km_0 h m M) rfl ?_
      refine mm_bipush (v := nI 13) dM_freeLine_12 (by decide) ?_
      refine mm_iload_n dM_freeLine_14 rfl rfl ?_
      refine mm_iadd dM_freeLine_15 ?_
      refine mm_iaload dM_freeLine_16 (km_sh h m M) (nI_add 13 i) (by omega) (by decide) ?_
      refine mm_iconst (v := -1) dM_freeLine_17 (by decide) ?_
      refine mm_icmp_eq_o (tgt := 27) dM_freeLine_18 (by decide) (kz_sml o (by omega)) (fun q18 => ?_) (fun q18 => ?_)
      · refine mm_iload_n dM_freeLine_27 rfl rfl ?_
        refine mm_ireturn dM_freeLine_28 rfl ?_
        exact ⟨by rw [show ks_free (ks_row (km_S M) 2) i (j + 1) = some i from if_pos ((kz_l _ (by omega)).trans q18)]; rfl, rfl⟩
      · refine mm_iinc dM_freeLine_21 (by decide) rfl (mm_inc _) rfl ?_
        refine mm_goto (tgt := 2) dM_freeLine_24 (by decide) ?_
        rw [show ks_free (ks_row (km_S M) 2) i (j + 1) = ks_free (ks_row (km_S M) 2) (i + 1) j from if_neg (fun e => q18 ((kz_l _ (by omega)).symm.trans e))]
        exact ih (i + 1) (by omega)
  show mm_W Γ l mM_freeLine d _ 0 [some (.ref m), none] [] _
  refine mm_iconst (v := nI 0) dM_freeLine_0 (by decide) ?_
  refine mm_istore_n dM_freeLine_1 rfl (by decide) rfl ?_
  exact loop 6 0 rfl
theorem kM_freeSpot (o : ks_ok (km_S M)) : mm_Ev Γ l d mM_freeSpot [.ref m] (km_set h m M) (mm_is (.inl (some (.int (nI ((ks_slot (km_S M) 0).getD 12))))) (km_set h m M)) := by
  have loop : ∀ (j i : Nat), i + j = 12 → mm_W Γ l mM_freeSpot d (mm_is (.inl (some (.int (nI ((ks_free (ks_row (km_S M) 0) i j).getD 12))))) (km_set h m M)) 2 [some (.ref m), some (.int (nI i))] [] (km_set h m M) := by
    intro j
    induction j with
    | zero =>
      intro i hi
      have hi : i = 12 := by omega
      subst hi
      refine mm_iload_n dM_freeSpot_2 rfl rfl ?_
      refine mm_bipush (v := nI 12) dM_freeSpot_3 (by decide) ?_
      refine mm_icmp_ge_T (tgt := 27) dM_freeSpot_5 (by decide) (nI_le (by omega) (by omega)) ?_
      refine mm_iload_n dM_freeSpot_27 rfl rfl ?_
      refine mm_ireturn dM_freeSpot_28 rfl ?_
      exact ⟨rfl, rfl⟩
    | succ j ih =>
      intro i hi
      refine mm_iload_n dM_freeSpot_2 rfl rfl ?_
      refine mm_bipush (v := nI 12) dM_freeSpot_3 (by decide) ?_
      refine mm_icmp_ge_F (tgt := 27) dM_freeSpot_5 (by decide) (nI_ge (by omega) (by omega)) ?_
      refine mm_aload_n dM_freeSpot_8 rfl rfl ?_
      refine mm_getf dM_freeSpot_9 fM_7 (km_0 h m M) rfl ?_
      refine mm_bipush (v := nI 19) dM_freeSpot_12 (by decide) ?_
      refine mm_iload_n dM_freeSpot_14 rfl rfl ?_
      refine mm_iadd dM_freeSpot_15 ?_
      refine mm_iaload dM_freeSpot_16 (km_sh h m M) (nI_add 19 i) (by omega) (by decide) ?_
      refine mm_iconst (v := -1) dM_freeSpot_17 (by decide) ?_
      refine mm_icmp_eq_o (tgt := 27) dM_freeSpot_18 (by decide) (kz_sms o (by omega)) (fun q18 => ?_) (fun q18 => ?_)
      · refine mm_iload_n dM_freeSpot_27 rfl rfl ?_
        refine mm_ireturn dM_freeSpot_28 rfl ?_
        exact ⟨by rw [show ks_free (ks_row (km_S M) 0) i (j + 1) = some i from if_pos ((kz_s _ (by omega)).trans q18)]; rfl, rfl⟩
      · refine mm_iinc dM_freeSpot_21 (by decide) rfl (mm_inc _) rfl ?_
        refine mm_goto (tgt := 2) dM_freeSpot_24 (by decide) ?_
        rw [show ks_free (ks_row (km_S M) 0) i (j + 1) = ks_free (ks_row (km_S M) 0) (i + 1) j from if_neg (fun e => q18 ((kz_s _ (by omega)).symm.trans e))]
        exact ih (i + 1) (by omega)
  show mm_W Γ l mM_freeSpot d _ 0 [some (.ref m), none] [] _
  refine mm_iconst (v := nI 0) dM_freeSpot_0 (by decide) ?_
  refine mm_istore_n dM_freeSpot_1 rfl (by decide) rfl ?_
  exact loop 12 0 rfl
theorem kM_isWithin (o : ks_ok (km_S M)) {x b : Nat} (hx : kt_is (km_S M) x) (hb : b < 2 ^ 31) : mm_Ev Γ l d mM_isWithin [.ref m, .int (nI x), .int (nI b)] (km_set h m M) (mm_is (.inl (some (.int (mm_bI (ks_in (km_S M) (some x) (some b)))))) (km_set h m M)) := by
  have loop : ∀ (j y : Nat), kt_path (km_S M) j y → y < 13 → mm_W Γ l mM_isWithin d (mm_is (.inl (some (.int (mm_bI (km_in (km_S M) b j y))))) (km_set h m M)) 2 [some (.ref m), some (.int (nI x)), some (.int (nI b)), some (.int (nI y))] [] (km_set h m M) := by
    intro j
    induction j with
    | zero =>
      intro y hy y13
      have hy : y = 0 := hy
      subst hy
      refine mm_iload_n dM_isWithin_2 rfl rfl ?_
      refine mm_iload_n dM_isWithin_3 rfl rfl ?_
      refine mm_icmp_eq_n (tgt := 21) dM_isWithin_4 (by decide) (by decide) hb (fun q4 => ?_) (fun q4 => ?_)
      · refine mm_iload_n dM_isWithin_21 rfl rfl ?_
        refine mm_iload_n dM_isWithin_22 rfl rfl ?_
        refine mm_icmp_ne_F (tgt := 30) dM_isWithin_23 (by decide) (congrArg nI q4) ?_
        refine mm_iconst (v := nI 1) dM_isWithin_26 (by decide) ?_
        refine mm_goto (tgt := 31) dM_isWithin_27 (by decide) ?_
        refine mm_zreturn dM_isWithin_31 rfl rfl ?_
        exact mm_f1 (decide_eq_true q4)
      · refine mm_iload_n dM_isWithin_7 rfl rfl ?_
        refine mm_if_eq_T (tgt := 21) dM_isWithin_8 (by decide) rfl ?_
        refine mm_iload_n dM_isWithin_21 rfl rfl ?_
        refine mm_iload_n dM_isWithin_22 rfl rfl ?_
        refine mm_icmp_ne_T (tgt := 30) dM_isWithin_23 (by decide) (fun w => q4 ((nI_eq (by decide) hb).mp w)) ?_
        refine mm_iconst (v := nI 0) dM_isWithin_30 (by decide) ?_
        refine mm_zreturn dM_isWithin_31 rfl rfl ?_
        exact mm_f0 (decide_eq_false q4)
    | succ j ih =>
      intro y hy y13
      refine mm_iload_n dM_isWithin_2 rfl rfl ?_
      refine mm_iload_n dM_isWithin_3 rfl rfl ?_
      refine mm_icmp_eq_n (tgt := 21) dM_isWithin_4 (by decide) (by omega) hb (fun q4 => ?_) (fun q4 => ?_)
      · refine mm_iload_n dM_isWithin_21 rfl rfl ?_
        refine mm_iload_n dM_isWithin_22 rfl rfl ?_
        refine mm_icmp_ne_F (tgt := 30) dM_isWithin_23 (by decide) (congrArg nI q4) ?_
        refine mm_iconst (v := nI 1) dM_isWithin_26 (by decide) ?_
        refine mm_goto (tgt := 31) dM_isWithin_27 (by decide) ?_
        refine mm_zreturn dM_isWithin_31 rfl rfl ?_
        exact mm_f1 (if_pos q4)
      · refine mm_iload_n dM_isWithin_7 rfl rfl ?_
        refine mm_if_eq_n (tgt := 21) dM_isWithin_8 (by decide) (by omega) (fun q8 => ?_) (fun q8 => ?_)
        · refine mm_iload_n dM_isWithin_21 rfl rfl ?_
          refine mm_iload_n dM_isWithin_22 rfl rfl ?_
          refine mm_icmp_ne_T (tgt := 30) dM_isWithin_23 (by decide) (fun w => q4 ((nI_eq (by omega) hb).mp w)) ?_
          refine mm_iconst (v := nI 0) dM_isWithin_30 (by decide) ?_
          refine mm_zreturn dM_isWithin_31 rfl rfl ?_
          exact mm_f0 ((if_neg q4).trans (if_pos q8))
        · obtain ⟨z, hz, hp⟩ := kt_path_s hy q8
          have z13 := o.1 1 y z y13 hz
          refine mm_aload_n dM_isWithin_11 rfl rfl ?_
          refine mm_getf dM_isWithin_12 fM_7 (km_0 h m M) rfl ?_
          refine mm_iload_n dM_isWithin_15 rfl rfl ?_
          refine mm_iaload dM_isWithin_16 (km_sh h m M) rfl (by omega) (by decide) ?_
          refine mm_top (v' := .int (nI z)) (congrArg Value.int (show mm_enc (m_sh M y) = nI z by rw [show m_sh M y = some z from (kz_c _ y13).symm.trans hz]; rfl)) ?_
          refine mm_istore_n dM_isWithin_17 rfl (by decide) rfl ?_
          refine mm_goto (tgt := 2) dM_isWithin_18 (by decide) ?_
          rw [show km_in (km_S M) b (j + 1) y = km_in (km_S M) b j z from (if_neg q4).trans ((if_neg q8).trans (by rw [hz]))]
          exact ih z hp z13
  have hh := loop 12 x hx.2 hx.1
  rw [km_in_meets o.2.2.2 12 x hx.2] at hh
  show mm_W Γ l mM_isWithin d _ 0 [some (.ref m), some (.int (nI x)), some (.int (nI b)), none] [] _
  refine mm_iload_n dM_isWithin_0 rfl rfl ?_
  refine mm_istore_n dM_isWithin_1 rfl (by decide) rfl ?_
  exact hh
theorem kM_depthOf (o : ks_ok (km_S M)) {x : Nat} (hx : kt_is (km_S M) x) : mm_Ev Γ l d mM_depthOf [.ref m, .int (nI x)] (km_set h m M) (mm_is (.inl (some (.int (nI (ks_ups (km_S M) 12 ((km_S M).2.1 x)))))) (km_set h m M)) := by
  have loop : ∀ (j y e : Nat), kt_path (km_S M) j y → y < 13 → mm_W Γ l mM_depthOf d (mm_is (.inl (some (.int (nI (e + km_dep (km_S M) j y))))) (km_set h m M)) 4 [some (.ref m), some (.int (nI x)), some (.int (nI e)), some (.int (nI y))] [] (km_set h m M) := by
    intro j
    induction j with
    | zero =>
      intro y e hy y13
      have hy : y = 0 := hy
      subst hy
      refine mm_iload_n dM_depthOf_4 rfl rfl ?_
      refine mm_if_eq_T (tgt := 21) dM_depthOf_5 (by decide) rfl ?_
      refine mm_iload_n dM_depthOf_21 rfl rfl ?_
      refine mm_ireturn dM_depthOf_22 rfl ?_
      exact ⟨rfl, rfl⟩
    | succ j ih =>
      intro y e hy y13
      refine mm_iload_n dM_depthOf_4 rfl rfl ?_
      refine mm_if_eq_n (tgt := 21) dM_depthOf_5 (by decide) (by omega) (fun q5 => ?_) (fun q5 => ?_)
      · refine mm_iload_n dM_depthOf_21 rfl rfl ?_
        refine mm_ireturn dM_depthOf_22 rfl ?_
        exact ⟨by rw [show km_dep (km_S M) (j + 1) y = 0 from if_pos q5]; rfl, rfl⟩
      · obtain ⟨z, hz, hp⟩ := kt_path_s hy q5
        have z13 := o.1 1 y z y13 hz
        refine mm_iinc dM_depthOf_8 (by decide) rfl (mm_inc _) rfl ?_
        refine mm_aload_n dM_depthOf_11 rfl rfl ?_
        refine mm_getf dM_depthOf_12 fM_7 (km_0 h m M) rfl ?_
        refine mm_iload_n dM_depthOf_15 rfl rfl ?_
        refine mm_iaload dM_depthOf_16 (km_sh h m M) rfl (by omega) (by decide) ?_
        refine mm_top (v' := .int (nI z)) (congrArg Value.int (show mm_enc (m_sh M y) = nI z by rw [show m_sh M y = some z from (kz_c _ y13).symm.trans hz]; rfl)) ?_
        refine mm_istore_n dM_depthOf_17 rfl (by decide) rfl ?_
        refine mm_goto (tgt := 4) dM_depthOf_18 (by decide) ?_
        have hh := ih z (e + 1) hp z13
        rw [show e + km_dep (km_S M) (j + 1) y = e + 1 + km_dep (km_S M) j z by rw [show km_dep (km_S M) (j + 1) y = km_dep (km_S M) j z + 1 from (if_neg q5).trans (by rw [hz])]; omega]
        exact hh
  have hh := loop 12 x 0 hx.2 hx.1
  rw [km_dep_ups o.2.2.2 12 x hx.2, Nat.zero_add] at hh
  show mm_W Γ l mM_depthOf d _ 0 [some (.ref m), some (.int (nI x)), none, none] [] _
  refine mm_iconst (v := nI 0) dM_depthOf_0 (by decide) ?_
  refine mm_istore_n dM_depthOf_1 rfl (by decide) rfl ?_
  refine mm_iload_n dM_depthOf_2 rfl rfl ?_
  refine mm_istore_n dM_depthOf_3 rfl (by decide) rfl ?_
  exact hh
theorem kM_late (hm : m_mv M ≤ 20) : mm_Ev Γ l d mM_late [.ref m] (km_set h m M) (mm_is (.inl (some (.int (nI (if m_mv M = 20 then 3 else 0))))) (km_set h m M)) := by
  show mm_W Γ l mM_late d _ 0 [some (.ref m)] [] _
  refine mm_aload_n dM_late_0 rfl rfl ?_
  refine mm_getf dM_late_1 fM_68 (km_0 h m M) rfl ?_
  refine mm_bipush (v := nI 20) dM_late_4 (by decide) ?_
  refine mm_icmp_ne_n (tgt := 13) dM_late_6 (by decide) (by omega) (by decide) (fun q6 => ?_) (fun q6 => ?_)
  · refine mm_iconst (v := nI 0) dM_late_13 (by decide) ?_
    refine mm_ireturn dM_late_14 rfl ?_
    exact ⟨by rw [if_neg q6], rfl⟩
  · refine mm_iconst (v := nI 3) dM_late_9 (by decide) ?_
    refine mm_goto (tgt := 14) dM_late_10 (by decide) ?_
    refine mm_ireturn dM_late_14 rfl ?_
    exact ⟨by rw [if_pos q6], rfl⟩
end KM1
