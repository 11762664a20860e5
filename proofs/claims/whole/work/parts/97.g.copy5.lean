/-! Mathematics: copy, class and reference. -/
theorem kq_copy {C : kc_C} {M : km_M} (h : kq_R C M) (k n a : Int32) : ∃ T' : kd_T, ((ks_partI (km_S M) k n && ks_harI (km_S M) a) = true → km_cpC M k.toNatClampNeg n.toNatClampNeg a.toNatClampNeg = 0 → km_cpR M k.toNatClampNeg n.toNatClampNeg a.toNatClampNeg = some T') ∧ ∀ v M', km_cpP M k n a T' v M' → ∃ b : Int32, v = some (.int b) ∧ kq_st (fun k => k + 1) (kc_copy C k n a) b M' := by
  have h4 := h.2.2.1.1
  have e := h4.1.1
  have o := h4.2.1.1
  have oS : ks_ok (kc_S C) := h.1.1.1 _ (by have := h.1.1.2.1; omega)
  have t := kt_ok_tr o
  by_cases c1 : (ks_partI (km_S M) k n && ks_harI (km_S M) a) = true
  · obtain ⟨c2, c3⟩ := Bool.and_eq_true_iff.mp c1
    obtain ⟨c4, c5⟩ := Bool.and_eq_true_iff.mp c2
    obtain ⟨k', n', x, rfl, rfl, hk, hn, hx⟩ := ks_hasI_true c5
    obtain ⟨i, i13, rfl, hi⟩ := km_har o c3
    have hl := ks_len_le k'
    have ck : (nI k').toNatClampNeg = k' := nI_clamp (by omega)
    have cn : (nI n').toNatClampNeg = n' := nI_clamp (by omega)
    have ci : (nI i).toNatClampNeg = i := nI_clamp (by omega)
    have hk2 : k' < 2 := by
      have : ¬ k' = 2 := fun w => (of_decide_eq_true c4) (by rw [w])
      omega
    have ix : kt_is (km_S M) x := o.2.1 k' n' x hk hn hx
    have ari := kt_is_ar hi
    have ekn : kc_n (nI n') = some n' := by unfold kc_n; rw [cn]
    have eki : kc_n (nI i) = some i := by unfold kc_n; rw [ci]
    have ea : ks_areaI (kc_S C) (nI k') (nI n') = some x := by rw [kq_areaI e]; exact ks_areaI_t hk hn hx
    have e1 : decide (¬ nI k' = nI 1) = decide (¬ k' = 1) := by
      by_cases c : k' = 1
      · rw [c]; rfl
      · rw [decide_eq_true c, decide_eq_true (show ¬ nI k' = nI 1 from fun w => c ((nI_eq (by omega) (by decide)).mp w))]
    have emay : km_may M k' n' i = (m_st M && (ks_in (km_S M) (some i) (some x) && !(decide (k' = 1) && ks_in (km_S M) (some i) (some n')))) := by unfold km_may; rw [hx]
    have eroom : ks_room (km_S M) (nI k') (some n') = km_rm M k' n' := by
      unfold km_rm
      by_cases k0 : k' = 0
      · subst k0
        rw [if_pos rfl]
        unfold ks_room
        rw [if_pos (show nI 0 = 0 from rfl), show decide (0 < ks_freeN (km_S M) 0) = _ from ks_free_slot o.1 0]
        unfold km_new
        have := ks_slot_gd (km_S M) 0
        have this : (ks_slot (km_S M) 0).getD 12 ≤ 12 := this
        show (!decide ((ks_slot (km_S M) 0).getD 12 = 12)) = decide ((ks_slot (km_S M) 0).getD 12 < 12)
        by_cases w : (ks_slot (km_S M) 0).getD 12 = 12
        · rw [decide_eq_true w, decide_eq_false (by omega)]; rfl
        · rw [decide_eq_false w, decide_eq_true (by omega)]; rfl
      · have k1 : k' = 1 := by omega
        subst k1
        rw [if_neg (by decide)]
        exact kf_room o hn hx
    have fbad : ∀ (cdv : Nat) (T' : kd_T) (R : kc_R), km_cpC M k' n' i = cdv → ¬ cdv = 0 → (∃ q, q + 1 = cdv ∧ R = (.inr q, C)) → ∀ v M', km_cpP M (nI k') (nI n') (nI i) T' v M' → ∃ b : Int32, v = some (.int b) ∧ kq_st (fun k => k + 1) R b M' := fun cdv T' R w1 w2 w3 v M' hP => by
      unfold km_cpP at hP
      rw [if_pos c1, ck, cn, ci, w1, if_neg w2] at hP
      obtain ⟨rfl, rfl⟩ := hP
      obtain ⟨q, hq, rfl⟩ := w3
      exact ⟨_, rfl, kq_bad h hq⟩
    have notz : ∀ (T' : kd_T) (cdv : Nat), km_cpC M k' n' i = cdv → ¬ cdv = 0 → ((ks_partI (km_S M) (nI k') (nI n') && ks_harI (km_S M) (nI i)) = true → km_cpC M (nI k').toNatClampNeg (nI n').toNatClampNeg (nI i).toNatClampNeg = 0 → km_cpR M (nI k').toNatClampNeg (nI n').toNatClampNeg (nI i).toNatClampNeg = some T') := fun T' cdv w1 w2 _ w3 => by
      rw [ck, cn, ci, w1] at w3
      exact absurd w3 w2
    have eC : kc_copy C (nI k') (nI n') (nI i) = if (!C.2.2.2.2.1 && ks_in (km_S M) (some i) (some x)) = true then (if (decide (¬ k' = 1) || !ks_in (km_S M) (some i) (some n')) = true then (if (kc_mayCh C && km_rm M k' n') = true then (kc_int (ks_slot (km_S M) k'), ((kc_new C (kc_copyT C k' n' (some i)).1).1, C.2.1, C.2.2.1, (kc_copyT C k' n' (some i)).2, C.2.2.2.2.1, kc_mv C)) else (.inr 2, C)) else (.inr 1, C)) else (.inr 1, C) := by
      unfold kc_copy
      rw [kq_partI e, kq_harI e, if_pos (show (ks_partI (kz (m_sh M)) (nI k') (nI n') && ks_harI (kz (m_sh M)) (nI i)) = true from c1), ea, eki, ekn, kq_in e, kq_room e, kq_slot e, e1, ck, cn, ← eroom]
      rfl
    rw [eC]
    cases hd : C.2.2.2.2.1 with
    | true =>
      have st : m_st M = false := by rw [h.2.1.2, hd]; rfl
      have w : km_cpC M k' n' i = 2 := by unfold km_cpC; rw [emay, st, Bool.false_and, if_neg (by decide)]
      rw [if_neg (show ¬ (!true && ks_in (km_S M) (some i) (some x)) = true from fun w => by cases w)]
      exact ⟨kd_T0 M, notz _ 2 w (by decide), fbad 2 _ _ w (by decide) ⟨1, rfl, rfl⟩⟩
    | false =>
      have st : m_st M = true := by rw [h.2.1.2, hd]; rfl
      rw [st, Bool.true_and] at emay
      cases hin : ks_in (km_S M) (some i) (some x) with
      | false =>
        have w : km_cpC M k' n' i = 2 := by unfold km_cpC; rw [emay, hin, Bool.false_and, if_neg (by decide)]
        rw [if_neg (show ¬ (!false && false) = true by decide)]
        exact ⟨kd_T0 M, notz _ 2 w (by decide), fbad 2 _ _ w (by decide) ⟨1, rfl, rfl⟩⟩
      | true =>
        rw [hin, Bool.true_and] at emay
        rw [if_pos (show (!false && true) = true from rfl)]
        by_cases c6 : (decide (¬ k' = 1) || !ks_in (km_S M) (some i) (some n')) = true
        · rw [if_pos c6]
          have hmay : km_may M k' n' i = true := by
            rw [emay]
            by_cases z : k' = 1
            · rw [decide_eq_false (fun w => w z), Bool.false_or] at c6
              rw [decide_eq_true z, Bool.true_and]; exact c6
            · rw [decide_eq_false z]; rfl
          cases hrm : km_rm M k' n' with
          | false =>
            have w : km_cpC M k' n' i = 3 := by unfold km_cpC; rw [if_pos hmay, hrm, if_neg (by decide)]
            rw [Bool.and_false, if_neg (show ¬ false = true by decide)]
            exact ⟨kd_T0 M, notz _ 3 w (by decide), fbad 3 _ _ w (by decide) ⟨2, rfl, rfl⟩⟩
          | true =>
            have w : km_cpC M k' n' i = km_late M := by unfold km_cpC; rw [if_pos hmay, hrm, if_pos rfl]
            rw [Bool.and_true, kc_may_st h hd]
            by_cases c7 : km_late M = 0
            · rw [decide_eq_true c7, if_pos rfl]
              rw [c7] at w
              have hm : kc_mayCh C = true := by rw [kc_may_st h hd]; exact decide_eq_true c7
              obtain ⟨q0, hq0⟩ := (kt_in_it o.1 hi).mp hin
              -- what stands for a line at first
              have st0 : ∀ l, l < 6 → kf_st (kd_nl0 (m_nl M) 6) l = l := fun l hl6 => by
                unfold kf_st kd_nl0
                rw [if_pos hl6]; rfl
              have sf0 : ∀ l, l < 6 → kc_id C.2.2.2.1 6 l = some (kf_st (kd_nl0 (m_nl M) 6) l) ∧ mm_lt (kd_nl0 (m_nl M) 6 l) 6 := fun l hl6 => by
                rw [st0 l hl6]
                refine ⟨if_pos hl6, ?_⟩
                unfold kd_nl0
                rw [if_pos hl6]; exact mm_lt_none
              have base : ∀ nn, kf_S (m_sh M) nn (kc_S C, kc_id C.2.2.2.1 6) (m_sh M, kd_nl0 (m_nl M) 6) := fun nn => ⟨h4, oS, sf0, fun _ _ _ => rfl, fun _ _ _ _ w => w⟩
              have key : ∃ T' : kd_T, km_cpR M k' n' i = some T' ∧ kq (kc_copyT C k' n' (some i)).1 T'.1 ∧ ks_ok (kc_copyT C k' n' (some i)).1 ∧ ∃ j, ks_slot (km_S M) k' = some j := by
                by_cases k0 : k' = 0
                · subst k0
                  have hn : n' < 12 := hn
                  have hx : (km_S M).1 n' = some x := hx
                  have hrm : decide (km_new M 0 < 12) = true := by unfold km_rm at hrm; rw [if_pos rfl] at hrm; exact hrm
                  have hlt := of_decide_eq_true hrm
                  obtain ⟨jj, hjj⟩ : ∃ j, ks_slot (km_S M) 0 = some j := by
                    cases hj : ks_slot (km_S M) 0 with
                    | none => unfold km_new at hlt; rw [hj] at hlt; exact absurd hlt (by decide)
                    | some j => exact ⟨j, rfl⟩
                  have nW : ∀ y, ¬ kf_W (m_sh M) 14 y := fun y w => by
                    obtain ⟨y13, m, hm⟩ := w
                    have := kt_it_lt t.2.1 m y 14 y13 hm
                    omega
                  have am0 : kf_am (kz (m_sh M)) 0 < 12 := by
                    have le := km_amt_le (ks_row (kz (m_sh M)) 0) 12 0
                    have : ¬ km_amt (ks_row (kz (m_sh M)) 0) 0 12 = 12 := fun w2 => by
                      have := (ks_free_none (f := ks_row (kz (m_sh M)) 0) 12 0).mpr w2
                      have this : ks_slot (km_S M) 0 = none := this
                      rw [hjj] at this; cases this
                    show km_amt (ks_row (kz (m_sh M)) 0) 0 12 < 12
                    omega
                  have hsc : kf_sc (m_sh M, kd_nl0 (m_nl M) 6) x i 6 := by
                    intro l b l6 hlb hcond
                    show ∃ b', kf_st (kd_nl0 (m_nl M) 6) l < 6 ∧ m_sh M (13 + kf_st (kd_nl0 (m_nl M) 6) l) = some b' ∧ ∃ m, kt_it (kz (m_sh M)).2.1 m i = some b'
                    rw [st0 l l6]
                    have way : ∃ m, kt_it (kz (m_sh M)).2.1 m x = some b := by
                      rcases hcond with ⟨m, hm⟩ | ⟨w, -⟩
                      · exact ⟨m + 1, hm⟩
                      · exact ⟨0, by rw [w]; rfl⟩
                    obtain ⟨m, hm⟩ := way
                    exact ⟨b, l6, hlb, q0 + m, kt_it_cat hq0 hm⟩
                  obtain ⟨U', v, g1, -, -, g2, -⟩ := kf_spot1 (nW i) (c := x) hn (base 14) ari hsc ((kz_s _ hn).symm.trans hx) am0
                  refine ⟨U', ?_, ?_, ?_, jj, hjj⟩
                  · unfold km_cpR; rw [if_pos rfl]; exact g1
                  · have := g2.1
                    unfold kc_copyT; rw [if_pos rfl]; exact this
                  · have := g2.2.1
                    unfold kc_copyT; rw [if_pos rfl]; exact this
                · have k1 : k' = 1 := by omega
                  subst k1
                  have hn : n' < 13 := hn
                  have hx : (km_S M).2.1 n' = some x := hx
                  have hnot : ks_in (km_S M) (some i) (some n') = false := by
                    rw [decide_eq_false (fun w => w rfl), Bool.false_or] at c6
                    cases z : ks_in (km_S M) (some i) (some n') with
                    | false => rfl
                    | true => rw [z] at c6; cases c6
                  have hroom : km_room M n' = true := by unfold km_rm at hrm; rw [if_neg (by decide)] at hrm; exact hrm
                  unfold km_room at hroom
                  obtain ⟨r1, r23⟩ := Bool.and_eq_true_iff.mp hroom
                  obtain ⟨r2, r3⟩ := Bool.and_eq_true_iff.mp r23
                  have r1 := of_decide_eq_true r1
                  have r2 := of_decide_eq_true r2
                  have r3 := of_decide_eq_true r3
                  obtain ⟨n1, n2, n3⟩ := kf_need (f0 := m_sh M) o hn hx 12
                  obtain ⟨z1, z2, z3⟩ := km_amt_z (f := m_sh M)
                  have y1 : kf_am (kz (m_sh M)) 1 = km_amt (m_sh M) 1 12 := z1.symm
                  have y2 : kf_am (kz (m_sh M)) 2 = km_amt (m_sh M) 13 6 := z2.symm
                  have y3 : kf_am (kz (m_sh M)) 0 = km_amt (m_sh M) 19 12 := z3.symm
                  obtain ⟨m, hm⟩ := t.2.2 n' hn (by rw [show (kz (m_sh M)).2.1 n' = some x from hx]; exact fun w => nomatch w)
                  have m1 : 1 ≤ m := by
                    cases m with
                    | zero =>
                      have : n' = 0 := Option.some.inj hm
                      rw [this, show (km_S M).2.1 0 = none from t.1] at hx; cases hx
                    | succ m => omega
                  have hnn : ¬ m_sh M n' = none := by rw [← kz_c (m_sh M) hn, show (kz (m_sh M)).2.1 n' = some x from hx]; exact fun w => nomatch w
                  have nWi : ¬ kf_W (m_sh M) n' i := fun w => by
                    obtain ⟨-, mm, hmm⟩ := w
                    have := (kt_in_it o.1 hi).mpr ⟨mm, hmm⟩
                    have this : ks_in (km_S M) (some i) (some n') = true := this
                    rw [hnot] at this; cases this
                  have hsc : kf_sc (m_sh M, kd_nl0 (m_nl M) 6) n' i 0 := by
                    intro l b l6 hlb hcond
                    show ∃ b', kf_st (kd_nl0 (m_nl M) 6) l < 6 ∧ m_sh M (13 + kf_st (kd_nl0 (m_nl M) 6) l) = some b' ∧ ∃ m, kt_it (kz (m_sh M)).2.1 m i = some b'
                    rw [st0 l l6]
                    rcases hcond with ⟨mm, hmm⟩ | ⟨-, w⟩
                    · have hmm : kt_it (kz (m_sh M)).2.1 (mm + 1) n' = some b := hmm
                      rw [kt_it_s (show (kz (m_sh M)).2.1 n' = some x from hx)] at hmm
                      exact ⟨b, l6, hlb, q0 + mm, kt_it_cat hq0 hmm⟩
                    · exact absurd w (by omega)
                  obtain ⟨jj, hjj⟩ := kf_slot (T := km_S M) (k := 1) (by
                    show kf_am (kz (m_sh M)) 1 < 12
                    have : 0 < km_rmC (km_S M) n' 1 12 := by
                      have : (ky (kz (m_sh M)).2.1 12 n').length ≥ 1 := by show _ + 1 ≥ 1; omega
                      have n1 : (ky (kz (m_sh M)).2.1 12 n').length ≤ km_rmC (km_S M) n' 1 12 := n1
                      omega
                    omega)
                  have n1 : (ky (kz (m_sh M)).2.1 12 n').length ≤ km_rmC (km_S M) n' 1 12 := n1
                  have n2 : kz_sum (fun y => kp_e (kz (m_sh M)).2.2.1 y 0 6) (ky (kz (m_sh M)).2.1 12 n') ≤ km_rmX (km_S M) (km_S M).2.2.1 n' 0 6 := n2
                  have n3 : kz_sum (fun y => kp_e (kz (m_sh M)).1 y 0 12) (ky (kz (m_sh M)).2.1 12 n') ≤ km_rmX (km_S M) (km_S M).1 n' 0 12 := n3
                  obtain ⟨U', g1, g2, -⟩ := kf_rec (f0 := m_sh M) (kp := km_kc (m_kp M) (m_sh M) (67 * m_mv M) 67) (n := n') (bb := 67 * m_mv M) (fun q hq => by
                    unfold km_kc
                    rw [if_pos (by omega), Nat.add_sub_cancel_left]) o hn hnn 12 n' i m (kc_S C, kc_id C.2.2.2.1 6) (m_sh M, kd_nl0 (m_nl M) 6) ⟨hn, 0, rfl⟩ hm (by omega) (base n') ari nWi hsc (by show kf_am (kz (m_sh M)) 1 + _ ≤ 12; omega) (by show kf_am (kz (m_sh M)) 2 + _ ≤ 6; omega) (by show kf_am (kz (m_sh M)) 0 + _ ≤ 12; omega)
                  refine ⟨U', ?_, ?_, ?_, jj, hjj⟩
                  · unfold km_cpR; rw [if_neg (by decide)]; exact g1
                  · have := g2.1
                    unfold kc_copyT; rw [if_neg (by decide)]; exact this
                  · have := g2.2.1
                    unfold kc_copyT; rw [if_neg (by decide)]; exact this
              obtain ⟨T', u1, u2, u3, jj, hjj⟩ := key
              refine ⟨T', fun _ _ => by rw [ck, cn, ci]; exact u1, fun v M' hP => ?_⟩
              unfold km_cpP at hP
              rw [if_pos c1, ck, cn, ci, w, if_pos rfl] at hP
              obtain ⟨rfl, p1, p2⟩ := hP
              refine ⟨_, rfl, ?_⟩
              have en : km_new M k' = jj := by unfold km_new; rw [hjj]; rfl
              rw [hjj, en]
              obtain ⟨kk1, kk2, kk3, kk4⟩ := km_keep_V (s_th M 0)
              obtain ⟨kk5, kk6, -⟩ := km_keep_th M 0
              have v1 : m_th M' = m_th (km_keep (s_th M 0)) := congrArg (fun z => z.1) p2
              have v2 : m_st M' = m_st (km_keep (s_th M 0)) := congrArg (fun z => z.2.1) p2
              have v3 : m_mv M' = m_mv (km_keep (s_th M 0)) := congrArg (fun z => z.2.2.1) p2
              have v4 : m_rd M' = m_rd (km_keep (s_th M 0)) := congrArg (fun z => z.2.2.2.1) p2
              have v5 : m_tk M' = m_tk (km_keep (s_th M 0)) := congrArg (fun z => z.2.2.2.2.1) p2
              have v6 : m_kp M' = m_kp (km_keep (s_th M 0)) := congrArg (fun z => z.2.2.2.2.2) p2
              rw [← hd]
              exact ⟨(v1.trans kk1).symm, fun y w => by unfold kc_int at w; cases w; rfl, kq_R_new h hm u3 (by rw [p1]; exact u2) (v2.trans kk2) (v3.trans kk5) (v6.trans kk6) (v4.trans kk3) (fun i _ => by rw [v5, kk4]; rfl)⟩
            · rw [decide_eq_false c7, if_neg (show ¬ false = true by decide)]
              rw [km_late_03 M c7] at w
              exact ⟨kd_T0 M, notz _ 3 w (by decide), fbad 3 _ _ w (by decide) ⟨2, rfl, rfl⟩⟩
        · rw [if_neg c6]
          have hmay : ¬ km_may M k' n' i = true := fun z => c6 (by
            rw [emay] at z
            by_cases q : k' = 1
            · rw [decide_eq_true q, Bool.true_and] at z
              rw [z, Bool.or_true]
            · rw [decide_eq_true q, Bool.true_or])
          have w : km_cpC M k' n' i = 2 := by unfold km_cpC; rw [if_neg hmay]
          exact ⟨kd_T0 M, notz _ 2 w (by decide), fbad 2 _ _ w (by decide) ⟨1, rfl, rfl⟩⟩
  · refine ⟨kd_T0 M, fun w => absurd w c1, fun v M' hP => ?_⟩
    unfold km_cpP at hP
    rw [if_neg c1] at hP
    obtain ⟨rfl, rfl⟩ := hP
    refine ⟨_, rfl, ?_⟩
    unfold kc_copy
    rw [kq_partI e, kq_harI e, if_neg (show ¬ (ks_partI (kz (m_sh M)) k n && ks_harI (kz (m_sh M)) a) = true from c1)]
    exact kq_bad h rfl
