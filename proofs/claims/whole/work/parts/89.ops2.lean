/-! Mathematics: spots; start, back, depth, token, count. -/
theorem kz_spotAt (f : Nat → Option Nat) {j : Nat} (hj : j < 12) (a g : Nat) (h1 h2 : Option Nat) : kz (ks_u (ks_u (ks_u (ks_u f (19 + j) (some a)) (31 + j) (some g)) (43 + 2 * j) h1) (43 + 2 * j + 1) h2) = ks_spotAt (kz f) j (some a) g h1 h2 := by
  rw [show 43 + 2 * j + 1 = 43 + (2 * j + 1) by omega, kz_uh _ (by omega), kz_uh _ (by omega), kz_ug _ hj, kz_us _ hj]
  rfl
theorem kq_hk_at {T : ks_S} (h : kq_hk T) {j a g : Nat} {h1 h2 : Option Nat} (hj : j < 12) (hk : ∀ k, k < 2 → (k < kc_places g → ∃ n b, n < 6 ∧ (if k = 0 then h1 else h2) = some n ∧ T.2.2.1 n = some b ∧ ∃ i, kt_it T.2.1 i a = some b) ∧ (kc_places g ≤ k → (if k = 0 then h1 else h2) = none)) : kq_hk (ks_spotAt T j (some a) g h1 h2) := by
  have hook : ∀ s k, k < 2 → (ks_spotAt T j (some a) g h1 h2).2.2.2.2 (2 * s + k) = if s = j then (if k = 0 then h1 else h2) else T.2.2.2.2 (2 * s + k) := fun s k hk2 => by
    show ks_u (ks_u T.2.2.2.2 (2 * j) h1) (2 * j + 1) h2 (2 * s + k) = _
    by_cases c : s = j
    · rw [if_pos c]
      by_cases c2 : k = 0
      · rw [if_pos c2, ks_u_ne _ _ (by omega), show 2 * s + k = 2 * j by omega, ks_u_at]
      · rw [if_neg c2, show 2 * s + k = 2 * j + 1 by omega, ks_u_at]
    · rw [if_neg c, ks_u_ne _ _ (by omega), ks_u_ne _ _ (by omega)]
  have sign : ∀ s, (ks_spotAt T j (some a) g h1 h2).2.2.2.1 s = if s = j then g else T.2.2.2.1 s := fun s => rfl
  have area : ∀ s, (ks_spotAt T j (some a) g h1 h2).1 s = if s = j then some a else T.1 s := fun s => rfl
  refine ⟨fun s b hs hb k hk2 => ?_, fun s k hs hk2 hb => ?_⟩
  · rw [hook s k hk2, sign s]
    rw [area s] at hb
    by_cases c : s = j
    · rw [if_pos c] at hb ⊢
      rw [if_pos c]
      cases hb
      exact hk k hk2
    · rw [if_neg c] at hb ⊢
      rw [if_neg c]
      exact h.1 s b hs hb k hk2
  · rw [hook s k hk2]
    rw [area s] at hb
    by_cases c : s = j
    · rw [if_pos c] at hb; cases hb
    · rw [if_neg c] at hb ⊢
      exact h.2 s k hs hk2 hb
theorem kq_e_at {S T : ks_S} (h : kq_e S T) {j g : Nat} (x h1 h2 : Option Nat) : kq_e (ks_spotAt S j x g h1 h2) (ks_spotAt T j x g h1 h2) := by
  obtain ⟨⟨e1, e2, e3⟩, e4⟩ := h
  refine ⟨⟨?_, e2, e3⟩, fun s hs hn => ?_⟩
  · show ks_u S.1 j x = ks_u T.1 j x
    rw [e1]
  · have hn : ¬ ks_u T.1 j x s = none := hn
    show ks_un S.2.2.2.1 j g s = ks_un T.2.2.2.1 j g s ∧ ∀ k, k < 2 → ks_u (ks_u S.2.2.2.2 (2 * j) h1) (2 * j + 1) h2 (2 * s + k) = ks_u (ks_u T.2.2.2.2 (2 * j) h1) (2 * j + 1) h2 (2 * s + k)
    by_cases c : s = j
    · refine ⟨by unfold ks_un; rw [if_pos c, if_pos c], fun k hk => ?_⟩
      by_cases c2 : k = 0
      · have hk0 : ∀ f : Nat → Option Nat, ks_u (ks_u f (2 * j) h1) (2 * j + 1) h2 (2 * j) = h1 := fun f => (ks_u_ne _ _ (by omega)).trans (ks_u_at _ _ _)
        rw [show 2 * s + k = 2 * j by omega, hk0, hk0]
      · rw [show 2 * s + k = 2 * j + 1 by omega, ks_u_at, ks_u_at]
    · rw [ks_u_ne _ _ c] at hn
      obtain ⟨g1, g2⟩ := e4 s hs hn
      refine ⟨by unfold ks_un; rw [if_neg c, if_neg c]; exact g1, fun k hk => ?_⟩
      rw [ks_u_ne _ _ (by omega), ks_u_ne _ _ (by omega), ks_u_ne _ _ (by omega), ks_u_ne _ _ (by omega)]
      exact g2 k hk
theorem kq_add_spot {S : ks_S} {f : Nat → Option Nat} {j a g : Nat} {h1 h2 : Option Nat} (h : kq S f) (hs : ks_slot S 0 = some j) (ha : kt_ar (kz f).2.1 a) (hg : g < 4) (l1 : mm_lt h1 6) (l2 : mm_lt h2 6)
    (hk : ∀ k, k < 2 → (k < kc_places g → ∃ n b, n < 6 ∧ (if k = 0 then h1 else h2) = some n ∧ (kz f).2.2.1 n = some b ∧ ∃ i, kt_it (kz f).2.1 i a = some b) ∧ (kc_places g ≤ k → (if k = 0 then h1 else h2) = none)) :
    kq (ks_addSpot S (some a) g h1 h2) (ks_u (ks_u (ks_u (ks_u f (19 + j) (some a)) (31 + j) (some g)) (43 + 2 * j) h1) (43 + 2 * j + 1) h2) := by
  obtain ⟨e, ⟨o, hk0⟩, h3⟩ := h
  obtain ⟨-, j12, -⟩ := ks_slot_some hs
  have j12 : j < 12 := j12
  have ea : ks_addSpot S (some a) g h1 h2 = ks_spotAt S j (some a) g h1 h2 := by unfold ks_addSpot; rw [hs]
  rw [ea]
  refine kq_mk (kz_spotAt f j12 a g h1 h2) (kq_e_at e _ _ _) (kt_ok_spotAt o (fun b hb => by cases hb; exact kt_ar_is o.1 (kt_ok_tr o) ha) hg l1 l2) (kq_hk_at hk0 j12 hk) (fun s hs2 w => ?_)
  rw [ks_u_ne _ _ (by omega), ks_u_ne _ _ (by omega)] at w ⊢
  by_cases c : s = j
  · rw [c, ks_u_at]; exact fun w => nomatch w
  · rw [ks_u_ne _ _ (by omega), ks_u_ne _ _ (by omega)] at w
    rw [ks_u_ne _ _ (by omega), ks_u_ne _ _ (by omega)]
    exact h3 s hs2 w
/-- a line that reaches an area -/
theorem kq_reach_t {T : ks_S} (o : kt_ok T) {a : Nat} (ha : kt_is T a) {n : Int32} (h : ks_reach T n (some a) = true) : ∃ i b, i < 6 ∧ n = nI i ∧ T.2.2.1 i = some b ∧ ∃ m, kt_it T.2.1 m a = some b := by
  unfold ks_reach at h
  obtain ⟨h1, h2⟩ := Bool.and_eq_true_iff.mp h
  obtain ⟨i, b, h3, rfl, h5⟩ := ks_hasI_k (k := 2) (by decide) h1
  have h3 : i < 6 := h3
  rw [ks_areaI_t (k := 2) (by decide) h3 h5] at h2
  exact ⟨i, b, h3, rfl, h5, (kt_in_it o.1 ha).mp h2⟩
theorem kq_spot {C : kc_C} {M : km_M} (h : kq_R C M) (a sg f s : Int32) : kq_st (fun k => k + 1) (kc_spot C a sg f s) (nI (km_spot M a sg f s).1) (km_spot M a sg f s).2 := by
  have h' := h
  obtain ⟨⟨ok, -⟩, ⟨h2, h3⟩, ⟨h4, -, -⟩, -⟩ := h'
  have e := h4.1.1
  have o := h4.2.1.1
  have oS : ks_ok (kc_S C) := ok.1 _ (by have := ok.2.1; omega)
  have e4 : decide (sg < nI 4) = decide (sg ≤ nI 3) := by
    have a1 : (nI 4).toInt = 4 := by decide
    have a2 : (nI 3).toInt = 3 := by decide
    by_cases c : sg < nI 4
    · rw [decide_eq_true c, decide_eq_true (by rw [Int32.le_iff_toInt_le]; rw [Int32.lt_iff_toInt_lt] at c; omega)]
    · rw [decide_eq_false c, decide_eq_false (fun w => c (by rw [Int32.lt_iff_toInt_lt]; rw [Int32.le_iff_toInt_le] at w; omega))]
  have bad : km_bad (km_S M) a sg f s = true → kq_st (fun k => k + 1) (.inr 0, C) (nI (km_spot M a sg f s).1) (km_spot M a sg f s).2 := fun w => by
    unfold km_spot
    rw [if_pos w]
    exact kq_bad h rfl
  have kb : km_bad (km_S M) a sg f s = !((ks_harI (km_S M) a && (decide (0 ≤ sg) && decide (sg ≤ nI 3))) && ((decide (¬ 0 < kc_places sg.toNatClampNeg) || ks_reach (km_S M) f (kc_n a)) && (decide (¬ 1 < kc_places sg.toNatClampNeg) || ks_reach (km_S M) s (kc_n a)))) := by
    unfold km_bad
    rw [Bool.and_assoc, Bool.and_assoc]
    rfl
  unfold kc_spot
  rw [kq_harI e, e4]
  by_cases c1 : (ks_harI (km_S M) a && (decide (0 ≤ sg) && decide (sg ≤ nI 3))) = true
  · rw [if_pos (show (ks_harI (kz (m_sh M)) a && (decide (0 ≤ sg) && decide (sg ≤ nI 3))) = true from c1)]
    obtain ⟨c11, c12⟩ := Bool.and_eq_true_iff.mp c1
    obtain ⟨c13, c14⟩ := Bool.and_eq_true_iff.mp c12
    obtain ⟨i, i13, rfl, hi⟩ := km_har o c11
    have cl : (nI i).toNatClampNeg = i := nI_clamp (by omega)
    have ei : kc_n (nI i) = some i := by unfold kc_n; rw [cl]
    obtain ⟨g, hg, rfl, cg⟩ := ks_nn (of_decide_eq_true c13)
    have g4 : g < 4 := by
      have := of_decide_eq_true c14
      rw [nI_leI hg (by decide)] at this
      omega
    have k2 := kc_places_le g4
    rw [cg, ei] at kb
    rw [cg]
    unfold kc_spotN
    rw [kq_reach e, ei]
    have d1 : decide (kc_places g < 1) = decide (¬ 0 < kc_places g) := by
      by_cases c : kc_places g < 1
      · rw [decide_eq_true c, decide_eq_true (by omega)]
      · rw [decide_eq_false c, decide_eq_false (by omega)]
    have d2 : decide (kc_places g < 2) = decide (¬ 1 < kc_places g) := by
      by_cases c : kc_places g < 2
      · rw [decide_eq_true c, decide_eq_true (by omega)]
      · rw [decide_eq_false c, decide_eq_false (by omega)]
    rw [d1, d2]
    by_cases c2 : (decide (¬ 0 < kc_places g) || ks_reach (km_S M) f (some i)) = true
    · rw [if_pos (show (decide (¬ 0 < kc_places g) || ks_reach (kz (m_sh M)) f (some i)) = true from c2)]
      by_cases c3 : (decide (¬ 1 < kc_places g) || ks_reach (km_S M) s (some i)) = true
      · rw [if_pos (show (decide (¬ 1 < kc_places g) || ks_reach (kz (m_sh M)) s (some i)) = true from c3)]
        have nb : ¬ km_bad (km_S M) (nI i) (nI g) f s = true := by rw [kb, c1, c2, c3]; decide
        unfold km_spot
        rw [if_neg nb]
        have ef : decide (0 < ks_freeN (kc_S C) 0) = !km_fu M 0 := by rw [kq_freeN e]; exact ks_free_slot o.1 0
        have eo : kc_mayIn C (nI i) = (C.2.2.2.2.1 || decide (km_dp (km_S M) i % 2 = 1)) := by unfold kc_mayIn ks_odd; rw [kq_depth e]; exact congrArg _ (ks_odd_dp o.1 i13)
        have ec : km_ckA M 0 (nI i) = if (!C.2.2.2.2.1) = true ∧ km_dp (km_S M) i % 2 = 0 then 2 else if km_fu M 0 = true ∨ ((!C.2.2.2.2.1) = true ∧ C.2.2.2.2.2 = 20) then 3 else 0 := by unfold km_ckA km_ck; rw [cl, h3, h2]
        have em : kc_mayCh C = (C.2.2.2.2.1 || decide (C.2.2.2.2.2 < 20)) := rfl
        rw [eo, ef]
        by_cases c4 : (C.2.2.2.2.1 || decide (km_dp (km_S M) i % 2 = 1)) = true
        · rw [if_pos c4]
          by_cases c5 : (kc_mayCh C && !km_fu M 0) = true
          · have c0 : km_ckA M 0 (nI i) = 0 := ec.trans (kq_ck0 c4 (by rw [← em]; exact c5))
            rw [if_pos c5, if_pos c0]
            obtain ⟨c6, c7⟩ := Bool.and_eq_true_iff.mp c5
            have c7 : ¬ (ks_slot (km_S M) 0).getD (ks_len 0) = ks_len 0 := fun w => by unfold km_fu at c7; rw [decide_eq_true w] at c7; cases c7
            obtain ⟨j, hj⟩ : ∃ j, ks_slot (km_S M) 0 = some j := by
              cases hj : ks_slot (km_S M) 0 with
              | none => rw [hj] at c7; exact absurd rfl c7
              | some j => exact ⟨j, rfl⟩
            have hjS : ks_slot (kc_S C) 0 = some j := by rw [kq_slot e]; exact hj
            have en : km_new M 0 = j := by unfold km_new; rw [hj]; rfl
            have hk1 : kc_hk 1 (kc_places g) f = km_hk (kc_places g) 0 f := by
              unfold kc_hk km_hk
              by_cases c : kc_places g < 1
              · rw [if_pos c, if_neg (by omega)]
              · rw [if_neg c, if_pos (by omega)]; rfl
            have hk2 : kc_hk 2 (kc_places g) s = km_hk (kc_places g) 1 s := by
              unfold kc_hk km_hk
              by_cases c : kc_places g < 2
              · rw [if_pos c, if_neg (by omega)]
              · rw [if_neg c, if_pos (by omega)]; rfl
            rw [hjS, en, cl, cg, hk1, hk2]
            have r1 : 0 < kc_places g → ∃ n b, n < 6 ∧ km_hk (kc_places g) 0 f = some n ∧ (km_S M).2.2.1 n = some b ∧ ∃ q, kt_it (km_S M).2.1 q i = some b := fun w => by
              rw [decide_eq_false (fun w2 => w2 w), Bool.false_or] at c2
              obtain ⟨n, b, n6, rfl, hb, hm⟩ := kq_reach_t o hi c2
              exact ⟨n, b, n6, by unfold km_hk; rw [if_pos w, nI_clamp (by omega)], hb, hm⟩
            have r2 : 1 < kc_places g → ∃ n b, n < 6 ∧ km_hk (kc_places g) 1 s = some n ∧ (km_S M).2.2.1 n = some b ∧ ∃ q, kt_it (km_S M).2.1 q i = some b := fun w => by
              rw [decide_eq_false (fun w2 => w2 w), Bool.false_or] at c3
              obtain ⟨n, b, n6, rfl, hb, hm⟩ := kq_reach_t o hi c3
              exact ⟨n, b, n6, by unfold km_hk; rw [if_pos w, nI_clamp (by omega)], hb, hm⟩
            have l1 : mm_lt (km_hk (kc_places g) 0 f) 6 := by
              by_cases w : 0 < kc_places g
              · obtain ⟨n, -, n6, h9, -⟩ := r1 w
                rw [h9]; exact mm_lt_some n6
              · unfold km_hk; rw [if_neg w]; exact mm_lt_none
            have l2 : mm_lt (km_hk (kc_places g) 1 s) 6 := by
              by_cases w : 1 < kc_places g
              · obtain ⟨n, -, n6, h9, -⟩ := r2 w
                rw [h9]; exact mm_lt_some n6
              · unfold km_hk; rw [if_neg w]; exact mm_lt_none
            refine kq_good2 h c6 (ks_ok_addSpot oS (mm_lt_some i13) g4 l1 l2) ?_ rfl rfl
            show kq _ (ks_u (ks_u (ks_u (ks_u (m_sh (km_keep (s_th M 0))) (19 + j) (some i)) (31 + j) (some g)) (43 + 2 * j) _) (43 + 2 * j + 1) _)
            rw [(km_keep_th M 0).2.2]
            refine kq_add_spot h4 hjS (kt_is_ar hi) g4 l1 l2 (fun k hk => ?_)
            by_cases k0 : k = 0
            · subst k0
              rw [if_pos rfl]
              exact ⟨r1, fun w => by unfold km_hk; rw [if_neg (by omega)]⟩
            · have k1 : k = 1 := by omega
              subst k1
              rw [if_neg (by decide)]
              exact ⟨r2, fun w => by unfold km_hk; rw [if_neg (by omega)]⟩
          · have c0 : km_ckA M 0 (nI i) = 3 := ec.trans (kq_ck3 ok.2.1 c4 (by rw [← em]; exact c5))
            rw [if_neg c5, if_neg (by rw [c0]; decide), c0]
            exact kq_bad h rfl
        · have c0 : km_ckA M 0 (nI i) = 2 := ec.trans (kq_ck2 c4)
          rw [if_neg c4, if_neg (by rw [c0]; decide), c0]
          exact kq_bad h rfl
      · rw [if_neg (show ¬ (decide (¬ 1 < kc_places g) || ks_reach (kz (m_sh M)) s (some i)) = true from c3)]
        refine bad ?_
        rw [kb, Bool.eq_false_iff.mpr c3, Bool.and_false, Bool.and_false]; rfl
    · rw [if_neg (show ¬ (decide (¬ 0 < kc_places g) || ks_reach (kz (m_sh M)) f (some i)) = true from c2)]
      refine bad ?_
      rw [kb, Bool.eq_false_iff.mpr c2, Bool.false_and, Bool.and_false]; rfl
  · rw [if_neg (show ¬ (ks_harI (kz (m_sh M)) a && (decide (0 ≤ sg) && decide (sg ≤ nI 3))) = true from c1)]
    refine bad ?_
    rw [kb, Bool.eq_false_iff.mpr c1, Bool.false_and]; rfl
theorem kq_start {C : kc_C} {M : km_M} (h : kq_R C M) : kq_st (fun _ => 1) (kc_start C) 0 (km_start M) := by
  have h' := h
  obtain ⟨⟨ok, h1⟩, ⟨h2, h3⟩, ⟨h4, h5, h6⟩, hL⟩ := h'
  unfold kc_start km_start
  cases hd : C.2.2.2.2.1 with
  | true =>
    have st : m_st M = false := by rw [h3, hd]; rfl
    have m0 := ok.2.2.1 hd
    rw [if_pos rfl, if_neg (by rw [st]; decide)]
    refine ⟨rfl, fun y w => (by cases w), ⟨⟨ok.1, ok.2.1, fun w => (by cases w), ok.2.2.2⟩, h1⟩, ⟨h2, rfl⟩, ⟨h4, fun i hi => ?_, fun q hq => ?_⟩, hL⟩
    · have hi : i < m_mv M := hi
      rw [h2, m0] at hi; exact absurd hi (by omega)
    · show mm_sm (km_kc (m_kp M) (m_sh M) 0 67 q)
      unfold km_kc
      split
      · exact kq_sm h4.2.1.1.1 _ (by omega)
      · exact h6 q hq
  | false =>
    have st : m_st M = true := by rw [h3, hd]; rfl
    rw [if_neg (by decide), if_pos st]
    exact kq_bad h rfl
theorem kq_back {C : kc_C} {M : km_M} (h : kq_R C M) : kq_st (fun _ => 1) (kc_back C) (nI (km_back M).1) (km_back M).2 := by
  have h' := h
  obtain ⟨⟨ok, h1⟩, ⟨h2, h3⟩, ⟨h4, h5, h6⟩, hL⟩ := h'
  unfold kc_back km_back
  rw [h2]
  by_cases c : 0 < C.2.2.2.2.2
  · rw [if_pos c, if_neg (by omega)]
    have e1 : m_mv (km_bkM M) = C.2.2.2.2.2 - 1 := by show m_mv M - 1 = _; rw [h2]
    refine ⟨rfl, fun y w => (by cases w; rfl), ⟨⟨ok.1, by have := ok.2.1; show C.2.2.2.2.2 - 1 ≤ 20; omega, fun w => by have := ok.2.2.1 w; show C.2.2.2.2.2 - 1 = 0; omega, ok.2.2.2⟩, h1⟩, ⟨e1, h3⟩, ⟨?_, fun i hi => ?_, h6⟩, hL⟩
    · show kq (C.1 (C.2.2.2.2.2 - 1)) (km_bk (m_sh M) (m_kp M) (67 * (m_mv M - 1)) 67)
      refine kq_congr (fun q hq => ?_) (h5 (C.2.2.2.2.2 - 1) (by omega))
      unfold km_bk
      rw [if_pos hq, h2]
    · have hi : i < m_mv (km_bkM M) := hi
      exact h5 i (by omega)
  · rw [if_neg c, if_pos (by omega)]
    exact kq_bad h rfl
theorem kq_depthA {C : kc_C} {M : km_M} (h : kq_R C M) (a : Int32) : kq_st (fun _ => 1) (kc_depth C a) (nI (km_depth M a).1) (km_depth M a).2 := by
  have e := h.2.2.1.1.1.1
  have o := h.2.2.1.1.2.1.1
  unfold kc_depth km_depth
  rw [kq_harI e, kq_depth e]
  by_cases c1 : ks_harI (km_S M) a = true
  · rw [if_pos (show ks_harI (kz (m_sh M)) a = true from c1), if_pos c1]
    obtain ⟨i, i13, rfl, hi⟩ := km_har o c1
    refine ⟨rfl, fun y w => ?_, kq_R_th h rfl rfl rfl rfl rfl (fun _ _ => rfl)⟩
    have w : kc_nat (ks_depth (kz (m_sh M)) (nI i)) = Sum.inl (some (Value.int y)) := w
    unfold kc_nat at w
    cases w
    show nI (ks_depth (kz (m_sh M)) (nI i)) = nI (km_dp (km_S M) (nI i).toNatClampNeg)
    rw [nI_clamp (by omega)]
    unfold ks_depth km_dp
    rw [ks_area_P o.1 i13]
    rfl
  · rw [if_neg (show ¬ ks_harI (kz (m_sh M)) a = true from c1), if_neg c1]
    exact kq_bad h rfl
theorem kq_token {C : kc_C} {M : km_M} (h : kq_R C M) (i : Int32) : kq_st (fun _ => 1) (kc_token C i) (nI (km_token M i).1) (km_token M i).2 := by
  have h' := h
  obtain ⟨-, -, -, L, l1, ⟨l2, l3⟩, l4, l5⟩ := h'
  unfold kc_token km_token
  rw [l2, l4]
  by_cases c : (decide (0 ≤ i) && decide (i < nI L.length)) = true
  · rw [if_pos c, if_pos c]
    refine ⟨rfl, fun y w => ?_, kq_R_th h rfl rfl rfl rfl rfl (fun _ _ => rfl)⟩
    obtain ⟨c1, c2⟩ := Bool.and_eq_true_iff.mp c
    obtain ⟨q, hq, rfl, cq⟩ := ks_nn (of_decide_eq_true c1)
    have c2 := of_decide_eq_true c2
    rw [nI_ltI hq (by omega)] at c2
    unfold kc_nat at w
    cases w
    rw [cq]
    obtain ⟨t, ht, -⟩ := ke_get c2
    have a1 := l3 q t ht
    have a2 := l5 q t ht
    rw [Nat.zero_add] at a1 a2
    rw [a1, a2]
  · rw [if_neg c, if_neg c]
    exact kq_bad h rfl
theorem km_amt_z {f : Nat → Option Nat} : km_amt f 1 12 = km_amt (kz f).2.1 1 12 ∧ km_amt f 13 6 = km_amt (kz f).2.2.1 0 6 ∧ km_amt f 19 12 = km_amt (kz f).1 0 12 := by
  refine ⟨km_amt_congr 12 1 1 (fun q hq => ?_), km_amt_congr 6 13 0 (fun q hq => ?_), km_amt_congr 12 19 0 (fun q hq => ?_)⟩
  · rw [kz_c f (by omega)]
  · rw [Nat.zero_add, kz_l f hq]
  · rw [Nat.zero_add, kz_s f hq]
theorem km_amt_many {f : Nat → Option Nat} (o : ks_ok (kz f)) : km_amt f 1 12 = ks_many (kz f) 1 8191 ∧ km_amt f 13 6 = ks_many (kz f) 2 8191 ∧ km_amt f 19 12 = ks_many (kz f) 0 8191 := by
  obtain ⟨z1, z2, z3⟩ := km_amt_z (f := f)
  exact ⟨z1.trans (ks_many_amt o 1).symm, z2.trans (ks_many_amt o 2).symm, z3.trans (ks_many_amt o 0).symm⟩
theorem kq_count {C : kc_C} {M : km_M} (h : kq_R C M) (n : Int32) : kq_st (fun _ => 1) (kc_count C n) (nI (km_count M n).1) (km_count M n).2 := by
  have h2 := h.2.1.1
  have e := h.2.2.1.1.1.1
  have o := h.2.2.1.1.2.1.1
  obtain ⟨a1, a2, a3⟩ := km_amt_many o.1
  unfold kc_count km_count
  rw [kq_many e]
  by_cases c : (decide (0 ≤ n) && decide (n ≤ nI 3)) = true
  · rw [if_pos c, if_pos c]
    refine ⟨rfl, fun y w => ?_, kq_R_th h rfl rfl rfl rfl rfl (fun _ _ => rfl)⟩
    unfold kc_nat at w
    cases w
    rw [a1, a2, a3, h2]
  · rw [if_neg c, if_neg c]
    exact kq_bad h rfl
