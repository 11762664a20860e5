/-! Contracts of Look. Printed by wip/whole/spec/k2.py -/
section KK1
variable {Γ : mm_G} {l : Launch} {d : Nat} {h : mm_H} {k : Nat} {K : kl_K} {t : Nat → Nat}
theorem kC_one (x : Nat) : mm_Ev Γ l d mC_bitOfOne [.int (nI x)] h (mm_is (.inl (some (.int (nI (2 + x))))) h) := by
  show mm_W Γ l mC_bitOfOne d _ 0 [some (.int (nI x))] [] h
  refine mm_iconst (v := nI 2) dC_bitOfOne_0 (by decide) ?_
  refine mm_iload_n dC_bitOfOne_1 rfl rfl ?_
  refine mm_iadd dC_bitOfOne_2 ?_
  refine mm_ireturn dC_bitOfOne_3 rfl ?_
  exact ⟨by rw [nI_add], rfl⟩
theorem kC_two (x y : Nat) : mm_Ev Γ l d mC_bitOfTwo [.int (nI x), .int (nI y)] h (mm_is (.inl (some (.int (nI (5 + 3 * x + y))))) h) := by
  show mm_W Γ l mC_bitOfTwo d _ 0 [some (.int (nI x)), some (.int (nI y))] [] h
  refine mm_iconst (v := nI 5) dC_bitOfTwo_0 (by decide) ?_
  refine mm_iconst (v := nI 3) dC_bitOfTwo_1 (by decide) ?_
  refine mm_iload_n dC_bitOfTwo_2 rfl rfl ?_
  refine mm_imul dC_bitOfTwo_3 ?_
  refine mm_iadd dC_bitOfTwo_4 ?_
  refine mm_iload_n dC_bitOfTwo_5 rfl rfl ?_
  refine mm_iadd dC_bitOfTwo_6 ?_
  refine mm_ireturn dC_bitOfTwo_7 rfl ?_
  exact ⟨by rw [pk_mul, nI_add, nI_add], rfl⟩
theorem kK_thingAt (ok : kl_ok K) {i : Nat} (hi : i < 24) : mm_Ev Γ l d mK_thingAt [.ref k, .int (nI i)] (kl_set h k (kl_th K t)) (mm_is (.inl (some (.int (nI (kl_thing K t i))))) (kl_set h k (kl_th K t))) := by
  have hl := ok.2.2.1 i hi
  show mm_W Γ l mK_thingAt d _ 0 [some (.ref k), some (.int (nI i)), none] [] _
  refine mm_aload_n dK_thingAt_0 rfl rfl ?_
  refine mm_getf dK_thingAt_1 fK_33 (kl_at0 h k (kl_th K t)) rfl ?_
  refine mm_iload_n dK_thingAt_4 rfl rfl ?_
  refine mm_iaload dK_thingAt_5 (kl_at h k (kl_th K t) (i := 12) (by decide)) rfl hi (by decide) ?_
  refine mm_istore_n dK_thingAt_6 rfl (by decide) rfl ?_
  refine mm_iload_n dK_thingAt_7 rfl rfl ?_
  refine mm_iconst (v := -1) dK_thingAt_8 (by decide) ?_
  refine mm_icmp_ne_o (tgt := 16) dK_thingAt_9 (by decide) (hl.sm (by decide)) (fun q9 => ?_) (fun q9 => ?_)
  · obtain ⟨n, hn⟩ := mm_some q9
    have hn : K.2.2.2.1 i = some n := hn
    refine mm_aload_n dK_thingAt_16 rfl rfl ?_
    refine mm_getf dK_thingAt_17 fK_36 (kl_at0 h k (kl_th K t)) rfl ?_
    refine mm_iload_n dK_thingAt_20 rfl rfl ?_
    refine mm_iaload dK_thingAt_21 (kl_at h k (kl_th K t) (i := 13) (by decide)) (j := n) (show mm_enc (K.2.2.2.1 i) = nI n by rw [hn]; rfl) (hl n hn) (by decide) ?_
    refine mm_ireturn dK_thingAt_22 rfl ?_
    exact ⟨by unfold kl_thing; rw [hn]; rfl, rfl⟩
  · refine mm_iconst (v := nI 0) dK_thingAt_12 (by decide) ?_
    refine mm_goto (tgt := 22) dK_thingAt_13 (by decide) ?_
    refine mm_ireturn dK_thingAt_22 rfl ?_
    exact ⟨by unfold kl_thing; rw [show K.2.2.2.1 i = none from q9], rfl⟩
theorem kK_bit (ok : kl_ok K) {s : Nat} (hs : s < 12) : mm_Ev Γ l (d + 1) mK_bitOfSpot [.ref k, .int (nI s)] (kl_set h k (kl_th K t)) (mm_is (.inl (some (.int (nI (kl_bit K t s))))) (kl_set h k (kl_th K t))) := by
  have h3 : K.2.2.1 s < 4 := ok.2.1 s hs
  show mm_W Γ l mK_bitOfSpot (d + 1) _ 0 [some (.ref k), some (.int (nI s)), none, none] [] _
  refine mm_aload_n dK_bitOfSpot_0 rfl rfl ?_
  refine mm_getf dK_bitOfSpot_1 fK_30 (kl_at0 h k (kl_th K t)) rfl ?_
  refine mm_iload_n dK_bitOfSpot_4 rfl rfl ?_
  refine mm_iaload dK_bitOfSpot_5 (kl_at h k (kl_th K t) (i := 11) (by decide)) rfl hs (by decide) ?_
  refine mm_istore_n dK_bitOfSpot_6 rfl (by decide) rfl ?_
  refine mm_iload_n dK_bitOfSpot_7 rfl rfl ?_
  refine mm_iconst (v := nI 2) dK_bitOfSpot_8 (by decide) ?_
  refine mm_icmp_ge_n (tgt := 14) dK_bitOfSpot_9 (by decide) (show K.2.2.1 s < 2 ^ 31 by omega) (by decide) (fun q9 => ?_) (fun q9 => ?_)
  · refine mm_aload_n dK_bitOfSpot_14 rfl rfl ?_
    refine mm_iconst (v := nI 2) dK_bitOfSpot_15 (by decide) ?_
    refine mm_iload_n dK_bitOfSpot_16 rfl rfl ?_
    refine mm_imul dK_bitOfSpot_17 ?_
    refine mm_top (v' := .int (nI (2 * s))) (congrArg Value.int (pk_mul 2 s)) ?_
    refine mm_v1 dK_bitOfSpot_18 lK_98 (kl_at0 h k (kl_th K t)) rfl (by decide) (Nat.le_of_ble_eq_true rfl) (kK_thingAt ok (by omega)) ?_
    refine mm_istore_n dK_bitOfSpot_21 rfl (by decide) rfl ?_
    refine mm_iload_n dK_bitOfSpot_22 rfl rfl ?_
    refine mm_iconst (v := nI 2) dK_bitOfSpot_23 (by decide) ?_
    refine mm_icmp_ne_n (tgt := 34) dK_bitOfSpot_24 (by decide) (show K.2.2.1 s < 2 ^ 31 by omega) (by decide) (fun q24 => ?_) (fun q24 => ?_)
    · refine mm_iload_n dK_bitOfSpot_34 rfl rfl ?_
      refine mm_aload_n dK_bitOfSpot_35 rfl rfl ?_
      refine mm_iconst (v := nI 2) dK_bitOfSpot_36 (by decide) ?_
      refine mm_iload_n dK_bitOfSpot_37 rfl rfl ?_
      refine mm_imul dK_bitOfSpot_38 ?_
      refine mm_iconst (v := nI 1) dK_bitOfSpot_39 (by decide) ?_
      refine mm_iadd dK_bitOfSpot_40 ?_
      refine mm_top (v' := .int (nI (2 * s + 1))) (congrArg Value.int (show nI 2 * nI s + nI 1 = _ by rw [pk_mul, nI_add])) ?_
      refine mm_v1 dK_bitOfSpot_41 lK_98 (kl_at0 h k (kl_th K t)) rfl (by decide) (Nat.le_of_ble_eq_true rfl) (kK_thingAt ok (by omega)) ?_
      refine mm_s2 dK_bitOfSpot_44 lK_104 rfl rfl (by decide) (Nat.le_of_ble_eq_true rfl) (kC_two _ _) ?_
      refine mm_ireturn dK_bitOfSpot_47 rfl ?_
      exact ⟨by unfold kl_bit; rw [if_neg (show ¬ K.2.2.1 s < 2 from Nat.not_lt.mpr q9), if_neg (show ¬ K.2.2.1 s = 2 from q24)], rfl⟩
    · refine mm_iload_n dK_bitOfSpot_27 rfl rfl ?_
      refine mm_s1 dK_bitOfSpot_28 lK_101 rfl (by decide) (Nat.le_of_ble_eq_true rfl) (kC_one _) ?_
      refine mm_goto (tgt := 47) dK_bitOfSpot_31 (by decide) ?_
      refine mm_ireturn dK_bitOfSpot_47 rfl ?_
      exact ⟨by unfold kl_bit; rw [if_neg (show ¬ K.2.2.1 s < 2 from Nat.not_lt.mpr q9), if_pos (show K.2.2.1 s = 2 from q24)], rfl⟩
  · refine mm_iload_n dK_bitOfSpot_12 rfl rfl ?_
    refine mm_ireturn dK_bitOfSpot_13 rfl ?_
    exact ⟨by unfold kl_bit; rw [if_pos (show K.2.2.1 s < 2 from q9)]; rfl, rfl⟩
theorem kK_spots (ok : kl_ok K) (ot : kl_okt t) {a : Nat} (ha : a < 13) : mm_Ev Γ l (d + 2) mK_areSpotsTrue [.ref k, .int (nI a)] (kl_set h k (kl_th K t)) (mm_is (.inl (some (.int (mm_bI (kl_spots K t a))))) (kl_set h k (kl_th K t))) := by
  obtain ⟨g1, g2⟩ := ok.1.2.1.1 a ha
  have gn := ok.1.2.1.2
  have hbits : K.2.2.2.2.2.2 < 2 ^ 31 := ok.2.2.2.2.2
  have loop : ∀ (j i : Nat), i + j = K.1.2.1.1 (a + 1) → mm_W Γ l mK_areSpotsTrue (d + 2) (mm_is (.inl (some (.int (mm_bI (!ks_any (fun i => !K.2.2.2.2.2.2.testBit (kl_bit K t (K.1.2.1.2 i))) i j))))) (kl_set h k (kl_th K t))) 10 [some (.ref k), some (.int (nI a)), some (.int (nI i))] [] (kl_set h k (kl_th K t)) := by
    intro j
    induction j with
    | zero =>
      intro i hi
      refine mm_iload_n dK_areSpotsTrue_10 rfl rfl ?_
      refine mm_aload_n dK_areSpotsTrue_11 rfl rfl ?_
      refine mm_getf dK_areSpotsTrue_12 fK_20 (kl_at0 h k (kl_th K t)) rfl ?_
      refine mm_getf dK_areSpotsTrue_15 fK_79 (kl_at h k (kl_th K t) (i := 4) (by decide)) rfl ?_
      refine mm_iload_n dK_areSpotsTrue_18 rfl rfl ?_
      refine mm_iconst (v := nI 1) dK_areSpotsTrue_19 (by decide) ?_
      refine mm_iadd dK_areSpotsTrue_20 ?_
      refine mm_iaload dK_areSpotsTrue_21 (kl_at h k (kl_th K t) (i := 5) (by decide)) (show nI a + nI 1 = nI (a + 1) from nI_add a 1) (by omega) (by decide) ?_
      refine mm_icmp_ge_T (tgt := 56) dK_areSpotsTrue_22 (by decide) (nI_le (a := K.1.2.1.1 (a + 1)) (by omega) (by omega)) ?_
      refine mm_iconst (v := nI 1) dK_areSpotsTrue_56 (by decide) ?_
      refine mm_zreturn dK_areSpotsTrue_57 rfl rfl ?_
      exact mm_f1 rfl
    | succ j ih =>
      intro i hi
      have hs := gn i (by omega)
      have hb := kl_bit_lt ok ot hs
      have hc : ks_any (fun i => !K.2.2.2.2.2.2.testBit (kl_bit K t (K.1.2.1.2 i))) i (j + 1) = if (!K.2.2.2.2.2.2.testBit (kl_bit K t (K.1.2.1.2 i))) = true then true else ks_any (fun i => !K.2.2.2.2.2.2.testBit (kl_bit K t (K.1.2.1.2 i))) (i + 1) j := rfl
      refine mm_iload_n dK_areSpotsTrue_10 rfl rfl ?_
      refine mm_aload_n dK_areSpotsTrue_11 rfl rfl ?_
      refine mm_getf dK_areSpotsTrue_12 fK_20 (kl_at0 h k (kl_th K t)) rfl ?_
      refine mm_getf dK_areSpotsTrue_15 fK_79 (kl_at h k (kl_th K t) (i := 4) (by decide)) rfl ?_
      refine mm_iload_n dK_areSpotsTrue_18 rfl rfl ?_
      refine mm_iconst (v := nI 1) dK_areSpotsTrue_19 (by decide) ?_
      refine mm_iadd dK_areSpotsTrue_20 ?_
      refine mm_iaload dK_areSpotsTrue_21 (kl_at h k (kl_th K t) (i := 5) (by decide)) (show nI a + nI 1 = nI (a + 1) from nI_add a 1) (by omega) (by decide) ?_
      refine mm_icmp_ge_F (tgt := 56) dK_areSpotsTrue_22 (by decide) (nI_ge (b := K.1.2.1.1 (a + 1)) (by omega) (by omega)) ?_
      refine mm_aload_n dK_areSpotsTrue_25 rfl rfl ?_
      refine mm_getf dK_areSpotsTrue_26 fK_43 (kl_at0 h k (kl_th K t)) rfl ?_
      refine mm_aload_n dK_areSpotsTrue_29 rfl rfl ?_
      refine mm_aload_n dK_areSpotsTrue_30 rfl rfl ?_
      refine mm_getf dK_areSpotsTrue_31 fK_20 (kl_at0 h k (kl_th K t)) rfl ?_
      refine mm_getf dK_areSpotsTrue_34 fK_82 (kl_at h k (kl_th K t) (i := 4) (by decide)) rfl ?_
      refine mm_iload_n dK_areSpotsTrue_37 rfl rfl ?_
      refine mm_iaload dK_areSpotsTrue_38 (kl_at h k (kl_th K t) (i := 6) (by decide)) rfl (by omega) (by decide) ?_
      refine mm_v1 dK_areSpotsTrue_39 lK_94 (kl_at0 h k (kl_th K t)) rfl (by decide) (Nat.le_of_ble_eq_true rfl) (kK_bit ok hs) ?_
      refine mm_ishr dK_areSpotsTrue_42 ?_
      refine mm_iconst (v := nI 1) dK_areSpotsTrue_43 (by decide) ?_
      refine mm_iand dK_areSpotsTrue_44 ?_
      refine mm_top (v' := .int (nI (if K.2.2.2.2.2.2.testBit (kl_bit K t (K.1.2.1.2 i)) then 1 else 0))) (congrArg Value.int (kb_one hbits hb)) ?_
      refine mm_if_ne_n (tgt := 50) dK_areSpotsTrue_45 (by decide) (by split <;> decide) (fun q45 => ?_) (fun q45 => ?_)
      · refine mm_iinc dK_areSpotsTrue_50 (by decide) rfl (mm_inc _) rfl ?_
        refine mm_goto (tgt := 10) dK_areSpotsTrue_53 (by decide) ?_
        rw [hc, if_neg (by cases ht : K.2.2.2.2.2.2.testBit (kl_bit K t (K.1.2.1.2 i)) with | true => decide | false => rw [ht] at q45; exact absurd rfl q45)]
        exact ih (i + 1) (by omega)
      · refine mm_iconst (v := nI 0) dK_areSpotsTrue_48 (by decide) ?_
        refine mm_zreturn dK_areSpotsTrue_49 rfl rfl ?_
        exact mm_f0 (by rw [hc, if_pos (by cases ht : K.2.2.2.2.2.2.testBit (kl_bit K t (K.1.2.1.2 i)) with | true => rw [ht] at q45; exact absurd q45 (by decide) | false => rfl)]; rfl)
  show mm_W Γ l mK_areSpotsTrue (d + 2) _ 0 [some (.ref k), some (.int (nI a)), none] [] _
  refine mm_aload_n dK_areSpotsTrue_0 rfl rfl ?_
  refine mm_getf dK_areSpotsTrue_1 fK_20 (kl_at0 h k (kl_th K t)) rfl ?_
  refine mm_getf dK_areSpotsTrue_4 fK_79 (kl_at h k (kl_th K t) (i := 4) (by decide)) rfl ?_
  refine mm_iload_n dK_areSpotsTrue_7 rfl rfl ?_
  refine mm_iaload dK_areSpotsTrue_8 (kl_at h k (kl_th K t) (i := 5) (by decide)) rfl (by omega) (by decide) ?_
  refine mm_istore_n dK_areSpotsTrue_9 rfl (by decide) rfl ?_
  exact loop (K.1.2.1.1 (a + 1) - K.1.2.1.1 a) (K.1.2.1.1 a) (by omega)
theorem kK_next (ok : kl_ok K) (ot : kl_okt t) {a : Nat} (ha : a < 13) : mm_Ev Γ l d mK_takeNextThings [.ref k, .int (nI a)] (kl_set h k (kl_th K t)) (mm_is (.inl none) (kl_set h k (kl_th K (kl_step K a t)))) := by
  obtain ⟨g1, g2⟩ := ok.1.1.1 a ha
  have gn := ok.1.1.2
  have h3 := ok.2.2.2.2.1
  have loop : ∀ (j i : Nat) (u : Nat → Nat), i + j = K.1.1.1 (a + 1) → kl_okt u → mm_W Γ l mK_takeNextThings d (mm_is (.inl none) (kl_set h k (kl_th K (kl_next K i j u)))) 10 [some (.ref k), some (.int (nI a)), some (.int (nI i)), none] [] (kl_set h k (kl_th K u)) := by
    intro j
    induction j with
    | zero =>
      intro i u hi ou
      refine mm_iload_n dK_takeNextThings_10 rfl rfl ?_
      refine mm_aload_n dK_takeNextThings_11 rfl rfl ?_
      refine mm_getf dK_takeNextThings_12 fK_14 (kl_at0 h k (kl_th K u)) rfl ?_
      refine mm_getf dK_takeNextThings_15 fK_79 (kl_at h k (kl_th K u) (i := 1) (by decide)) rfl ?_
      refine mm_iload_n dK_takeNextThings_18 rfl rfl ?_
      refine mm_iconst (v := nI 1) dK_takeNextThings_19 (by decide) ?_
      refine mm_iadd dK_takeNextThings_20 ?_
      refine mm_iaload dK_takeNextThings_21 (kl_at h k (kl_th K u) (i := 2) (by decide)) (show nI a + nI 1 = nI (a + 1) from nI_add a 1) (by omega) (by decide) ?_
      refine mm_icmp_ge_T (tgt := 72) dK_takeNextThings_22 (by decide) (nI_le (a := K.1.1.1 (a + 1)) (by omega) (by omega)) ?_
      refine mm_return dK_takeNextThings_72 rfl ?_
      exact ⟨rfl, rfl⟩
    | succ j ih =>
      intro i u hi ou
      have hs := gn i (by omega)
      have hu := ou _ hs
      have e2 : (kl_th K (ks_un u (K.1.1.2 i) (u (K.1.1.2 i) + 1))).2.2.2.2.1 (K.1.1.2 i) = u (K.1.1.2 i) + 1 := by show ks_un u (K.1.1.2 i) (u (K.1.1.2 i) + 1) (K.1.1.2 i) = _; unfold ks_un; rw [if_pos rfl]
      refine mm_iload_n dK_takeNextThings_10 rfl rfl ?_
      refine mm_aload_n dK_takeNextThings_11 rfl rfl ?_
      refine mm_getf dK_takeNextThings_12 fK_14 (kl_at0 h k (kl_th K u)) rfl ?_
      refine mm_getf dK_takeNextThings_15 fK_79 (kl_at h k (kl_th K u) (i := 1) (by decide)) rfl ?_
      refine mm_iload_n dK_takeNextThings_18 rfl rfl ?_
      refine mm_iconst (v := nI 1) dK_takeNextThings_19 (by decide) ?_
      refine mm_iadd dK_takeNextThings_20 ?_
      refine mm_iaload dK_takeNextThings_21 (kl_at h k (kl_th K u) (i := 2) (by decide)) (show nI a + nI 1 = nI (a + 1) from nI_add a 1) (by omega) (by decide) ?_
      refine mm_icmp_ge_F (tgt := 72) dK_takeNextThings_22 (by decide) (nI_ge (b := K.1.1.1 (a + 1)) (by omega) (by omega)) ?_
      refine mm_aload_n dK_takeNextThings_25 rfl rfl ?_
      refine mm_getf dK_takeNextThings_26 fK_14 (kl_at0 h k (kl_th K u)) rfl ?_
      refine mm_getf dK_takeNextThings_29 fK_82 (kl_at h k (kl_th K u) (i := 1) (by decide)) rfl ?_
      refine mm_iload_n dK_takeNextThings_32 rfl rfl ?_
      refine mm_iaload dK_takeNextThings_33 (kl_at h k (kl_th K u) (i := 3) (by decide)) rfl (by omega) (by decide) ?_
      refine mm_istore_n dK_takeNextThings_34 rfl (by decide) rfl ?_
      refine mm_aload_n dK_takeNextThings_35 rfl rfl ?_
      refine mm_getf dK_takeNextThings_36 fK_36 (kl_at0 h k (kl_th K u)) rfl ?_
      refine mm_iload_n dK_takeNextThings_39 rfl rfl ?_
      refine mm_dup2 dK_takeNextThings_40 rfl rfl ?_
      refine mm_iaload dK_takeNextThings_41 (kl_at h k (kl_th K u) (i := 13) (by decide)) rfl hs (by decide) ?_
      refine mm_iconst (v := nI 1) dK_takeNextThings_42 (by decide) ?_
      refine mm_iadd dK_takeNextThings_43 ?_
      refine mm_top (v' := .int (nI (u (K.1.1.2 i) + 1))) (congrArg Value.int (nI_add _ 1)) ?_
      refine mm_iastore dK_takeNextThings_44 (kl_at h k (kl_th K u) (i := 13) (by decide)) rfl hs (by decide) ?_
      refine mm_eqh (show kl_set h k (kl_th K (ks_un u (K.1.1.2 i) (u (K.1.1.2 i) + 1))) = _ by rw [show kl_th K (ks_un u (K.1.1.2 i) (u (K.1.1.2 i) + 1)) = kl_th (kl_th K u) (ks_un u (K.1.1.2 i) (u (K.1.1.2 i) + 1)) from rfl, ← kl_up_th]; unfold kg_ar; rw [← ks_un_enc]; rfl) ?_
      refine mm_aload_n dK_takeNextThings_45 rfl rfl ?_
      refine mm_getf dK_takeNextThings_46 fK_36 (kl_at0 h k (kl_th K (ks_un u (K.1.1.2 i) (u (K.1.1.2 i) + 1)))) rfl ?_
      refine mm_iload_n dK_takeNextThings_49 rfl rfl ?_
      refine mm_iaload dK_takeNextThings_50 (kl_at h k (kl_th K (ks_un u (K.1.1.2 i) (u (K.1.1.2 i) + 1))) (i := 13) (by decide)) rfl hs (by decide) ?_
      refine mm_top (v' := .int (nI (u (K.1.1.2 i) + 1))) (congrArg (fun z => Value.int (nI z)) e2) ?_
      refine mm_aload_n dK_takeNextThings_51 rfl rfl ?_
      refine mm_getf dK_takeNextThings_52 fK_39 (kl_at0 h k (kl_th K (ks_un u (K.1.1.2 i) (u (K.1.1.2 i) + 1)))) rfl ?_
      refine mm_icmp_ge_n (tgt := 59) dK_takeNextThings_55 (by decide) (by omega) (show K.2.2.2.2.2.1 < 2 ^ 31 by omega) (fun q55 => ?_) (fun q55 => ?_)
      · refine mm_aload_n dK_takeNextThings_59 rfl rfl ?_
        refine mm_getf dK_takeNextThings_60 fK_36 (kl_at0 h k (kl_th K (ks_un u (K.1.1.2 i) (u (K.1.1.2 i) + 1)))) rfl ?_
        refine mm_iload_n dK_takeNextThings_63 rfl rfl ?_
        refine mm_iconst (v := nI 0) dK_takeNextThings_64 (by decide) ?_
        refine mm_iastore dK_takeNextThings_65 (kl_at h k (kl_th K (ks_un u (K.1.1.2 i) (u (K.1.1.2 i) + 1))) (i := 13) (by decide)) rfl hs (by decide) ?_
        refine mm_eqh (show kl_set h k (kl_th K (ks_un u (K.1.1.2 i) 0)) = _ by rw [← ks_un_un u (K.1.1.2 i) (u (K.1.1.2 i) + 1) 0, show kl_th K (ks_un (ks_un u (K.1.1.2 i) (u (K.1.1.2 i) + 1)) (K.1.1.2 i) 0) = kl_th (kl_th K (ks_un u (K.1.1.2 i) (u (K.1.1.2 i) + 1))) (ks_un (ks_un u (K.1.1.2 i) (u (K.1.1.2 i) + 1)) (K.1.1.2 i) 0) from rfl, ← kl_up_th]; unfold kg_ar; rw [← ks_un_enc]; rfl) ?_
        refine mm_iinc dK_takeNextThings_66 (by decide) rfl (mm_inc _) rfl ?_
        refine mm_goto (tgt := 10) dK_takeNextThings_69 (by decide) ?_
        have hh := ih (i + 1) (ks_un u (K.1.1.2 i) 0) (by omega) (kl_okt_un ou _ (by decide))
        rw [show kl_next K (i + 1) j (ks_un u (K.1.1.2 i) 0) = kl_next K i (j + 1) u from (if_neg (show ¬ u (K.1.1.2 i) + 1 < K.2.2.2.2.2.1 from Nat.not_lt.mpr q55)).symm] at hh
        exact mm_sub (fun i v hv => by
          match i, hv with
          | 0, hv => exact hv
          | 1, hv => exact hv
          | 2, hv => exact hv
          | 3, hv => cases hv
          | n + 4, hv => cases hv) hh
      · refine mm_return dK_takeNextThings_58 rfl ?_
        exact ⟨rfl, by rw [show kl_next K i (j + 1) u = ks_un u (K.1.1.2 i) (u (K.1.1.2 i) + 1) from if_pos (show u (K.1.1.2 i) + 1 < K.2.2.2.2.2.1 from q55)]⟩
  show mm_W Γ l mK_takeNextThings d _ 0 [some (.ref k), some (.int (nI a)), none, none] [] _
  refine mm_aload_n dK_takeNextThings_0 rfl rfl ?_
  refine mm_getf dK_takeNextThings_1 fK_14 (kl_at0 h k (kl_th K t)) rfl ?_
  refine mm_getf dK_takeNextThings_4 fK_79 (kl_at h k (kl_th K t) (i := 1) (by decide)) rfl ?_
  refine mm_iload_n dK_takeNextThings_7 rfl rfl ?_
  refine mm_iaload dK_takeNextThings_8 (kl_at h k (kl_th K t) (i := 2) (by decide)) rfl (by omega) (by decide) ?_
  refine mm_istore_n dK_takeNextThings_9 rfl (by decide) rfl ?_
  exact loop (K.1.1.1 (a + 1) - K.1.1.1 a) (K.1.1.1 a) t (by omega) ot
end KK1
