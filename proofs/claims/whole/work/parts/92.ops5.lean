/-! Mathematics: join, sever. -/
theorem km_ux_q (x : Nat) (a : Option Nat) : ∀ (j i : Nat) (M : km_M), km_V (km_ux x a i j M) = km_V M ∧ ∀ q, m_sh (km_ux x a i j M) q = if (i ≤ q ∧ q < i + j) ∧ m_sh M q = some x then a else m_sh M q := by
  intro j
  induction j with
  | zero => exact fun i M => ⟨rfl, fun q => (if_neg (by omega)).symm⟩
  | succ j ih =>
    intro i M
    obtain ⟨g0, g1⟩ := ih (i + 1) (km_st M i (if m_sh M i = some x then a else m_sh M i))
    refine ⟨g0, fun q => ?_⟩
    have st : km_ux x a i (j + 1) M = km_ux x a (i + 1) j (km_st M i (if m_sh M i = some x then a else m_sh M i)) := rfl
    rw [st, g1 q]
    show (if (i + 1 ≤ q ∧ q < i + 1 + j) ∧ ks_u (m_sh M) i (if m_sh M i = some x then a else m_sh M i) q = some x then a else ks_u (m_sh M) i (if m_sh M i = some x then a else m_sh M i) q) = _
    by_cases h : q = i
    · subst h
      rw [if_neg (by omega), ks_u_at]
      by_cases c : m_sh M q = some x
      · rw [if_pos c, if_pos ⟨by omega, c⟩]
      · rw [if_neg c, if_neg (fun w => c w.2)]
    · rw [ks_u_ne _ _ h]
      by_cases c : (i + 1 ≤ q ∧ q < i + 1 + j) ∧ m_sh M q = some x
      · rw [if_pos c, if_pos ⟨by omega, c.2⟩]
      · rw [if_neg c, if_neg (fun w => c ⟨by omega, w.2⟩)]
/-- sheets that differ in a line's area and in hooks -/
theorem kz_hooks {f f' : Nat → Option Nat} (h1 : ∀ q, q < 43 → (q < 13 ∨ 19 ≤ q) → f' q = f q) : kz f' = ((kz f).1, (kz f).2.1, (kz f').2.2.1, (kz f).2.2.2.1, (kz f').2.2.2.2) := by
  refine Prod.ext (funext fun q => ?_) (Prod.ext (funext fun q => ?_) (Prod.ext rfl (Prod.ext (funext fun q => ?_) rfl)))
  · show (if q < 12 then f' (19 + q) else none) = (if q < 12 then f (19 + q) else none)
    split
    · exact h1 _ (by omega) (by omega)
    · rfl
  · show (if q < 13 then f' q else none) = (if q < 13 then f q else none)
    split
    · exact h1 _ (by omega) (by omega)
    · rfl
  · show (if q < 12 then (f' (31 + q)).getD 0 else 0) = (if q < 12 then (f (31 + q)).getD 0 else 0)
    split
    · rw [h1 _ (by omega) (by omega)]
    · rfl
theorem kq_join_S {S : ks_S} {M : km_M} {n v a b : Nat} (h : kq S (m_sh M)) (hn : n < 6) (hv : v < 6) (hnv : ¬ n = v) (ha : (km_S M).2.2.1 n = some a) (hb : (km_S M).2.2.1 v = some b) (hw : ∃ m, kt_it (km_S M).2.1 m a = some b) : kq (ks_remove (ks_rehook S n (some v) (some a)) (nI 2) (nI n) none) (m_sh (km_joM M n v)) := by
  obtain ⟨⟨e, e2⟩, ⟨o, hk⟩, h3⟩ := h
  obtain ⟨T, eT⟩ : ∃ T, T = kz (m_sh M) := ⟨_, rfl⟩
  have eM : km_S M = T := eT.symm
  rw [eM] at ha hb hw
  rw [← eT] at e e2 o hk
  obtain ⟨-, q1⟩ := km_ux_q n (some v) 24 43 (km_st M (13 + n) none)
  obtain ⟨f', ef⟩ : ∃ f', f' = m_sh (km_joM M n v) := ⟨_, rfl⟩
  have q2 : ∀ q, f' q = if (43 ≤ q ∧ q < 43 + 24) ∧ ks_u (m_sh M) (13 + n) none q = some n then some v else ks_u (m_sh M) (13 + n) none q := fun q => by rw [ef]; exact q1 q
  rw [← ef]
  have lo : ∀ q, q < 43 → ¬ q = 13 + n → f' q = m_sh M q := fun q hq c => by rw [q2, if_neg (by omega), ks_u_ne _ _ c]
  have ln : ∀ i, i < 6 → (kz f').2.2.1 i = if i = n then none else T.2.2.1 i := fun i hi => by
    rw [kz_l f' hi]
    by_cases c : i = n
    · rw [if_pos c, c, q2, if_neg (by omega), ks_u_at]
    · rw [if_neg c, lo _ (by omega) (by omega), eT, kz_l _ hi]
  have hkk : ∀ i, i < 24 → (kz f').2.2.2.2 i = if T.2.2.2.2 i = some n then some v else T.2.2.2.2 i := fun i hi => by
    rw [kz_h f' hi, q2, ks_u_ne _ _ (by omega), eT, kz_h _ hi]
    by_cases c : m_sh M (43 + i) = some n
    · rw [if_pos ⟨by omega, c⟩, if_pos c]
    · rw [if_neg (fun w => c w.2), if_neg c]
  have ez := kz_hooks (f := m_sh M) (f' := f') (fun q hq c => lo q hq (by omega))
  rw [← eT] at ez
  have l0 : ∀ q, 6 ≤ q → (kz f').2.2.1 q = none := fun q hq => if_neg (by omega)
  have eln : (kz f').2.2.1 = ks_u T.2.2.1 n none := by
    funext q
    by_cases c : q < 6
    · rw [ln q c]; rfl
    · rw [l0 q (by omega), ks_u_ne _ _ (by omega), eT]
      exact (if_neg c).symm
  have hasS : ks_hasI (ks_rehook S n (some v) (some a)) (nI 2) (nI n) = true := by
    rw [ks_hasI_n (by decide) (by omega)]
    refine (ks_has_iff (S := ks_rehook S n (some v) (some a)) (k := 2) (n := n)).mpr ⟨by decide, hn, a, ?_⟩
    show S.2.2.1 n = some a
    rw [e.2.2]; exact ha
  have eS : ks_remove (ks_rehook S n (some v) (some a)) (nI 2) (nI n) none = (S.1, S.2.1, ks_u S.2.2.1 n none, S.2.2.2.1, ks_rh S n (some v) (ks_mask S (some a)) 24) := by
    unfold ks_remove ks_putI
    rw [if_neg (show ¬ nI 2 = nI 1 by decide), if_pos hasS, show (nI 2).toNatClampNeg = 2 from nI_clamp (by decide), nI_clamp (by omega)]
    rfl
  rw [eS]
  refine kq_mk ez ⟨⟨e.1, e.2.1, ?_⟩, fun s hs w => ?_⟩ ?_ ⟨fun s x hs hx k hk2 => ?_, fun s k hs hk2 hx => ?_⟩ (fun s hs w => ?_)
  · rw [eln, ← e.2.2]
  · have w : ¬ T.1 s = none := w
    obtain ⟨g1, g2⟩ := e2 s hs w
    refine ⟨g1, fun k hk2 => ?_⟩
    show (if 2 * s + k < 24 ∧ S.2.2.2.2 (2 * s + k) = some n ∧ ks_am (ks_mask S (some a)) (S.1 ((2 * s + k) / 2)) = true then some v else S.2.2.2.2 (2 * s + k)) = (kz f').2.2.2.2 (2 * s + k)
    rw [hkk _ (by omega), g2 k hk2, show (2 * s + k) / 2 = s by omega, kq_mask e, e.1]
    by_cases c : T.2.2.2.2 (2 * s + k) = some n
    · rw [if_pos c]
      refine if_pos ⟨by omega, c, ?_⟩
      cases hx : T.1 s with
      | none => exact absurd hx w
      | some x =>
        rw [kq_am o (fun y hy => by cases hy; exact o.2.1 0 s x (by decide) hs hx) a, kt_in_it o.1 (o.2.1 0 s x (by decide) hs hx)]
        obtain ⟨r1, r2⟩ := hk.1 s x hs hx k hk2
        have hp : k < kc_places (T.2.2.2.1 s) := by
          rcases Nat.lt_or_ge k (kc_places (T.2.2.2.1 s)) with z | z
          · exact z
          · rw [r2 z] at c; cases c
        obtain ⟨n', b', -, h7, h8, h9⟩ := r1 hp
        rw [c] at h7
        cases h7
        rw [ha] at h8
        cases h8
        exact h9
    · rw [if_neg c, if_neg (fun z => c z.2.1)]
  · rw [eln]
    have o1 := kt_ok_line (S := T) o (j := n) (x := none) (fun z hz => nomatch hz)
    refine kt_ok_sub o rfl ?_ (fun k i z hk2 hi hz => ?_)
    · refine ⟨fun k i z hi hz => ?_, o.1.2.1, fun i z hi hz => ?_, o.1.2.2.2⟩
      · match k, hi, hz with
        | 0, hi, hz => exact o1.1.1 0 i z hi hz
        | 1, hi, hz => exact o1.1.1 1 i z hi hz
        | k + 2, hi, hz => exact o1.1.1 2 i z hi hz
      · have hz : (kz f').2.2.2.2 i = some z := hz
        rw [hkk i hi] at hz
        by_cases c : T.2.2.2.2 i = some n
        · rw [if_pos c] at hz; cases hz; exact hv
        · rw [if_neg c] at hz; exact o.1.2.2.1 i z hi hz
    · match k, hk2, hi, hz with
      | 0, _, hi, hz => exact o.2.1 0 i z (by decide) hi hz
      | 1, _, hi, hz => exact o.2.1 1 i z (by decide) hi hz
      | 2, _, hi, hz =>
        have hz : ks_u T.2.2.1 n none i = some z := hz
        by_cases c : i = n
        · rw [c, ks_u_at] at hz; cases hz
        · rw [ks_u_ne _ _ c] at hz; exact o.2.1 2 i z (by decide) hi hz
      | q + 3, hk2, _, _ => exact absurd hk2 (by omega)
  · have hx : T.1 s = some x := hx
    obtain ⟨r1, r2⟩ := hk.1 s x hs hx k hk2
    show (k < kc_places (T.2.2.2.1 s) → _) ∧ (kc_places (T.2.2.2.1 s) ≤ k → (kz f').2.2.2.2 (2 * s + k) = none)
    refine ⟨fun hp => ?_, fun hp => by rw [hkk _ (by omega), r2 hp]; rfl⟩
    obtain ⟨n', b', n6, h7, h8, j, h9⟩ := r1 hp
    show ∃ n b, n < 6 ∧ (kz f').2.2.2.2 (2 * s + k) = some n ∧ (kz f').2.2.1 n = some b ∧ ∃ j, kt_it T.2.1 j x = some b
    rw [hkk _ (by omega), h7]
    by_cases c : n' = n
    · subst c
      rw [ha] at h8
      cases h8
      obtain ⟨m, hm⟩ := hw
      exact ⟨v, b, hv, if_pos rfl, by rw [ln v hv, if_neg (fun w => hnv w.symm)]; exact hb, j + m, kt_it_cat h9 hm⟩
    · exact ⟨n', b', n6, if_neg (fun w => c (Option.some.inj w)), by rw [ln n' n6, if_neg c]; exact h8, j, h9⟩
  · have hx : T.1 s = none := hx
    show (kz f').2.2.2.2 (2 * s + k) = none
    rw [hkk _ (by omega), hk.2 s k hs hk2 hx]; rfl
  · rw [lo _ (by omega) (by omega)] at w
    rw [lo _ (by omega) (by omega)]
    exact h3 s hs w
theorem kq_join {C : kc_C} {M : km_M} (h : kq_R C M) (f s : Int32) : kq_st (fun k => k + 1) (kc_join C f s) (nI (km_join M f s).1) (km_join M f s).2 := by
  have h4 := h.2.2.1.1
  have e := h4.1.1
  have o := h4.2.1.1
  have oS : ks_ok (kc_S C) := h.1.1.1 _ (by have := h.1.1.2.1; omega)
  unfold kc_join km_join
  rw [kq_hasI e]
  by_cases c1 : (ks_hasI (km_S M) (nI 2) f && (ks_hasI (km_S M) (nI 2) s && decide (¬ f = s))) = true
  · rw [if_pos (show (ks_hasI (kz (m_sh M)) (nI 2) f && (ks_hasI (kz (m_sh M)) (nI 2) s && decide (¬ f = s))) = true from c1), if_pos c1]
    obtain ⟨c2, c34⟩ := Bool.and_eq_true_iff.mp c1
    obtain ⟨c3, c4d⟩ := Bool.and_eq_true_iff.mp c34
    have c4 := of_decide_eq_true c4d
    obtain ⟨n, a, hn, rfl, ha⟩ := ks_hasI_k (k := 2) (by decide) c2
    obtain ⟨v, b, hv, rfl, hb⟩ := ks_hasI_k (k := 2) (by decide) c3
    have hn : n < 6 := hn
    have hv : v < 6 := hv
    have ha : (km_S M).2.2.1 n = some a := ha
    have hb : (km_S M).2.2.1 v = some b := hb
    have cn : (nI n).toNatClampNeg = n := nI_clamp (by omega)
    have cv : (nI v).toNatClampNeg = v := nI_clamp (by omega)
    have ia : kt_is (km_S M) a := o.2.1 2 n a (by decide) hn ha
    have ea : ks_areaI (kc_S C) (nI 2) (nI n) = some a := by rw [kq_areaI e]; exact ks_areaI_t (k := 2) (by decide) hn ha
    have eo : ks_odd (kc_S C) (mm_enc (some a)) = decide (km_dp (km_S M) a % 2 = 1) := by
      unfold ks_odd
      rw [kq_depth e]
      exact ks_odd_dp o.1 ia.1
    have er : ks_reach (kc_S C) (nI v) (some a) = ks_in (km_S M) (some a) (some b) := by
      rw [kq_reach e]
      unfold ks_reach
      have c3' : ks_hasI (kz (m_sh M)) (nI 2) (nI v) = true := c3
      rw [c3', Bool.true_and, ks_areaI_t (S := kz (m_sh M)) (k := 2) (by decide) hv hb]
      rfl
    rw [ea, eo, er, cn, cv]
    unfold km_joinN
    have eT : km_joT M n v = if m_st M = false ∨ km_dp (km_S M) a % 2 = 0 ∨ ks_in (km_S M) (some a) (some b) = false then 2 else km_late M := by unfold km_joT; rw [ha, hb]; rfl
    by_cases c5 : (!C.2.2.2.2.1 && (decide (km_dp (km_S M) a % 2 = 1) && ks_in (km_S M) (some a) (some b))) = true
    · rw [if_pos c5]
      obtain ⟨c6, c7⟩ := Bool.and_eq_true_iff.mp c5
      obtain ⟨c7, c8⟩ := Bool.and_eq_true_iff.mp c7
      have c7 := of_decide_eq_true c7
      have hd : C.2.2.2.2.1 = false := by cases hd : C.2.2.2.2.1 with
        | false => rfl
        | true => rw [hd] at c6; cases c6
      have st : m_st M = true := by rw [h.2.1.2, hd]; rfl
      have eT2 : km_joT M n v = km_late M := by
        rw [eT, if_neg (fun w => w.elim (fun w => by rw [st] at w; cases w) (fun w => w.elim (fun w => by omega) (fun w => by rw [c8] at w; cases w)))]
      rw [eT2, kc_may_st h hd]
      by_cases c9 : km_late M = 0
      · rw [if_pos c9, decide_eq_true c9, if_pos rfl]
        have hm : kc_mayCh C = true := by rw [kc_may_st h hd]; exact decide_eq_true c9
        have ekv : kc_n (nI v) = some v := by unfold kc_n; rw [cv]
        rw [ekv]
        have kp := (km_keep_th M 0).2.2
        have eV : km_V (km_joM (km_keep (s_th M 0)) n v) = km_V (km_keep (s_th M 0)) := (km_ux_q n (some v) 24 43 (km_st (km_keep (s_th M 0)) (13 + n) none)).1
        refine kq_good2 h hm (ks_ok_putI (by rw [if_neg (by decide)]; exact ks_ok_rehook oS (mm_lt_some hv)) _ _ mm_lt_none) (kq_join_S (b := b) (by rw [kp]; exact h4) hn hv (fun w => c4 (by rw [w])) ?_ ?_ ?_) ?_ eV
        · show (kz (m_sh (km_keep (s_th M 0)))).2.2.1 n = some a
          rw [kp]; exact ha
        · show (kz (m_sh (km_keep (s_th M 0)))).2.2.1 v = some b
          rw [kp]; exact hb
        · show ∃ m, kt_it (kz (m_sh (km_keep (s_th M 0)))).2.1 m a = some b
          rw [kp]
          exact (kt_in_it o.1 ia).mp c8
        · show kc_nat (kc_mv C) = Sum.inl (some (Value.int (nI (m_mv (km_joM (km_keep (s_th M 0)) n v)))))
          rw [kq_V_mv eV, kc_mv_st h hm]
          rfl
      · rw [if_neg c9, decide_eq_false c9, if_neg (by decide), km_late_03 M c9]
        exact kq_bad h rfl
    · rw [if_neg c5]
      have e2 : km_joT M n v = 2 := by
        refine eT.trans (if_pos ?_)
        cases hd : C.2.2.2.2.1 with
        | true => exact Or.inl (by rw [h.2.1.2, hd]; rfl)
        | false =>
          refine Or.inr ?_
          rw [hd] at c5
          by_cases q : km_dp (km_S M) a % 2 = 1
          · refine Or.inr ?_
            cases z : ks_in (km_S M) (some a) (some b) with
            | false => rfl
            | true => rw [decide_eq_true q, z] at c5; exact absurd rfl c5
          · exact Or.inl (by omega)
      rw [e2, if_neg (by decide)]
      exact kq_bad h rfl
  · rw [if_neg (show ¬ (ks_hasI (kz (m_sh M)) (nI 2) f && (ks_hasI (kz (m_sh M)) (nI 2) s && decide (¬ f = s))) = true from c1), if_neg c1]
    exact kq_bad h rfl

theorem ks_in_P {S T : ks_S} (e : S.2.1 = T.2.1) : ks_in S = ks_in T := by
  funext x o
  unfold ks_in
  have : ks_meets S o = ks_meets T o := by
    funext f
    induction f with
    | zero => rfl
    | succ f ih =>
      funext y
      cases y with
      | none => rfl
      | some a =>
        show (if some a = o then true else ks_meets S o f (S.2.1 a)) = (if some a = o then true else ks_meets T o f (T.2.1 a))
        rw [ih, e]
  rw [this]
theorem km_sv_q (n v a : Nat) : ∀ (j i : Nat) (M : km_M), i + j = 12 → km_V (km_sv n v a i j M) = km_V M ∧ (∀ q, q < 43 + 2 * i → m_sh (km_sv n v a i j M) q = m_sh M q) ∧ ∀ s k, i ≤ s → s < 12 → k < 2 → m_sh (km_sv n v a i j M) (43 + (2 * s + k)) = if ks_in (km_S M) ((km_S M).1 s) (some a) = true ∧ m_sh M (43 + (2 * s + k)) = some n then some v else m_sh M (43 + (2 * s + k)) := by
  intro j
  induction j with
  | zero => exact fun i M hi => ⟨rfl, fun _ _ => rfl, fun s k h1 h2 => absurd h1 (by omega)⟩
  | succ j ih =>
    intro i M hi
    obtain ⟨M1, e1⟩ : ∃ X, X = km_sv1 n v a M i (43 + 2 * i) := ⟨_, rfl⟩
    obtain ⟨M2, e2⟩ : ∃ X, X = km_sv1 n v a M1 i (43 + 2 * i + 1) := ⟨_, rfl⟩
    have st : km_sv n v a i (j + 1) M = km_sv n v a (i + 1) j M2 := by rw [e2, e1]; rfl
    have q1 : ∀ q, m_sh M1 q = ks_u (m_sh M) (43 + 2 * i) (if ks_in (km_S M) ((km_S M).1 i) (some a) = true ∧ m_sh M (43 + 2 * i) = some n then some v else m_sh M (43 + 2 * i)) q := fun q => by rw [e1]; rfl
    have q2 : ∀ q, m_sh M2 q = ks_u (m_sh M1) (43 + 2 * i + 1) (if ks_in (km_S M1) ((km_S M1).1 i) (some a) = true ∧ m_sh M1 (43 + 2 * i + 1) = some n then some v else m_sh M1 (43 + 2 * i + 1)) q := fun q => by rw [e2]; rfl
    have V2 : km_V M2 = km_V M := by rw [e2, e1]; rfl
    have lo1 : ∀ q, q < 43 → m_sh M1 q = m_sh M q := fun q hq => by rw [q1, ks_u_ne _ _ (by omega)]
    have lo2 : ∀ q, q < 43 → m_sh M2 q = m_sh M q := fun q hq => by rw [q2, ks_u_ne _ _ (by omega), lo1 q hq]
    have same : ∀ X : km_M, (∀ q, q < 43 → m_sh X q = m_sh M q) → (km_S X).2.1 = (km_S M).2.1 ∧ (km_S X).1 = (km_S M).1 := fun X hX => by
      refine ⟨funext fun q => ?_, funext fun q => ?_⟩
      · show (if q < 13 then m_sh X q else none) = (if q < 13 then m_sh M q else none)
        split
        · exact hX _ (by omega)
        · rfl
      · show (if q < 12 then m_sh X (19 + q) else none) = (if q < 12 then m_sh M (19 + q) else none)
        split
        · exact hX _ (by omega)
        · rfl
    obtain ⟨s1, s2⟩ := same M1 lo1
    obtain ⟨s3, s4⟩ := same M2 lo2
    obtain ⟨g0, g1, g2⟩ := ih (i + 1) M2 (by omega)
    rw [st]
    refine ⟨g0.trans V2, fun q hq => ?_, fun s k h1 h2 h3 => ?_⟩
    · rw [g1 q (by omega), q2, ks_u_ne _ _ (by omega), q1, ks_u_ne _ _ (by omega)]
    · by_cases c : s = i
      · subst c
        rw [g1 _ (by omega)]
        by_cases k0 : k = 0
        · subst k0
          rw [q2, ks_u_ne _ _ (by omega), q1, show 43 + (2 * s + 0) = 43 + 2 * s by omega, ks_u_at]
        · have k1 : k = 1 := by omega
          subst k1
          rw [show 43 + (2 * s + 1) = 43 + 2 * s + 1 by omega, q2, ks_u_at, q1, ks_u_ne _ _ (by omega), ks_in_P s1, s2]
      · rw [g2 s k (by omega) h2 h3, ks_in_P s3, s4]
        have e9 : m_sh M2 (43 + (2 * s + k)) = m_sh M (43 + (2 * s + k)) := by rw [q2, ks_u_ne _ _ (by omega), q1, ks_u_ne _ _ (by omega)]
        rw [e9]
theorem kq_sever_S {S : ks_S} {M : km_M} {n j a : Nat} (h : kq S (m_sh M)) (hn : n < 6) (hj : ks_slot S 2 = some j) (ha : kt_ar (km_S M).2.1 a) : kq (ks_rehook (ks_add S 2 (some a)) n (some j) (some a)) (m_sh (km_sv n j a 0 12 (km_st M (13 + j) (some a)))) := by
  have h1 := kq_add_line h hj ha
  obtain ⟨-, j6, hjn⟩ := ks_slot_some hj
  have j6 : j < 6 := j6
  obtain ⟨S1, eS1⟩ : ∃ X, X = ks_add S 2 (some a) := ⟨_, rfl⟩
  obtain ⟨M1, eM1⟩ : ∃ X, X = km_st M (13 + j) (some a) := ⟨_, rfl⟩
  rw [← eS1] at h1
  have h1 : kq S1 (m_sh M1) := by rw [eM1]; exact h1
  rw [← eS1, ← eM1]
  have pa : kt_ar (km_S M1).2.1 a := by
    have : (km_S M1).2.1 = (km_S M).2.1 := by rw [eM1]; exact congrArg (fun z => z.2.1) (kz_ul (m_sh M) j6 (some a))
    rw [this]; exact ha
  have hl : (km_S M1).2.2.1 j = some a := by
    have : (km_S M1).2.2.1 = ks_u (km_S M).2.2.1 j (some a) := by rw [eM1]; exact congrArg (fun z => z.2.2.1) (kz_ul (m_sh M) j6 (some a))
    rw [this, ks_u_at]
  obtain ⟨⟨e, e2⟩, ⟨o, hk⟩, h3⟩ := h1
  obtain ⟨-, lo, q2⟩ := km_sv_q n j a 12 0 M1 rfl
  obtain ⟨f', ef⟩ : ∃ f', f' = m_sh (km_sv n j a 0 12 M1) := ⟨_, rfl⟩
  rw [← ef] at lo q2
  rw [← ef]
  have lo : ∀ q, q < 43 → f' q = m_sh M1 q := fun q hq => lo q (by omega)
  have ez := kz_hooks (f := m_sh M1) (f' := f') (fun q hq c => lo q hq)
  have eln : (kz f').2.2.1 = (kz (m_sh M1)).2.2.1 := by
    funext q
    show (if q < 6 then f' (13 + q) else none) = (if q < 6 then m_sh M1 (13 + q) else none)
    split
    · exact lo _ (by omega)
    · rfl
  rw [eln] at ez
  have hkk : ∀ s k, s < 12 → k < 2 → (kz f').2.2.2.2 (2 * s + k) = if ks_in (kz (m_sh M1)) ((kz (m_sh M1)).1 s) (some a) = true ∧ (kz (m_sh M1)).2.2.2.2 (2 * s + k) = some n then some j else (kz (m_sh M1)).2.2.2.2 (2 * s + k) := fun s k hs hk2 => by
    rw [kz_h f' (by omega), q2 s k (by omega) hs hk2, kz_h (m_sh M1) (by omega)]
    rfl
  refine kq_mk ez ⟨⟨e.1, e.2.1, e.2.2⟩, fun s hs w => ?_⟩ ?_ ⟨fun s x hs hx k hk2 => ?_, fun s k hs hk2 hx => ?_⟩ (fun s hs w => ?_)
  · have w : ¬ (kz (m_sh M1)).1 s = none := w
    obtain ⟨g1, g2⟩ := e2 s hs w
    refine ⟨g1, fun k hk2 => ?_⟩
    show (if 2 * s + k < 24 ∧ S1.2.2.2.2 (2 * s + k) = some n ∧ ks_am (ks_mask S1 (some a)) (S1.1 ((2 * s + k) / 2)) = true then some j else S1.2.2.2.2 (2 * s + k)) = (kz f').2.2.2.2 (2 * s + k)
    rw [hkk s k hs hk2, g2 k hk2, show (2 * s + k) / 2 = s by omega, kq_mask e, e.1, kq_am o (x := (kz (m_sh M1)).1 s) (fun y hy => o.2.1 0 s y (by decide) hs hy) a]
    by_cases c : ks_in (kz (m_sh M1)) ((kz (m_sh M1)).1 s) (some a) = true ∧ (kz (m_sh M1)).2.2.2.2 (2 * s + k) = some n
    · rw [if_pos c, if_pos ⟨by omega, c.2, c.1⟩]
    · rw [if_neg c, if_neg (fun z => c ⟨z.2.2, z.2.1⟩)]
  · refine kt_ok_sub o rfl ⟨fun k i z hi hz => ?_, o.1.2.1, fun i z hi hz => ?_, o.1.2.2.2⟩ (fun k i z hk2 hi hz => ?_)
    · match k, hi, hz with
      | 0, hi, hz => exact o.1.1 0 i z hi hz
      | 1, hi, hz => exact o.1.1 1 i z hi hz
      | k + 2, hi, hz => exact o.1.1 2 i z hi hz
    · have hz : (kz f').2.2.2.2 i = some z := hz
      rw [show i = 2 * (i / 2) + i % 2 by omega, hkk (i / 2) (i % 2) (by omega) (by omega)] at hz
      by_cases c : ks_in (kz (m_sh M1)) ((kz (m_sh M1)).1 (i / 2)) (some a) = true ∧ (kz (m_sh M1)).2.2.2.2 (2 * (i / 2) + i % 2) = some n
      · rw [if_pos c] at hz; cases hz; exact j6
      · rw [if_neg c, show 2 * (i / 2) + i % 2 = i by omega] at hz; exact o.1.2.2.1 i z hi hz
    · match k, hk2, hi, hz with
      | 0, _, hi, hz => exact o.2.1 0 i z (by decide) hi hz
      | 1, _, hi, hz => exact o.2.1 1 i z (by decide) hi hz
      | 2, _, hi, hz => exact o.2.1 2 i z (by decide) hi hz
      | q + 3, hk2, _, _ => exact absurd hk2 (by omega)
  · have hx : (kz (m_sh M1)).1 s = some x := hx
    obtain ⟨r1, r2⟩ := hk.1 s x hs hx k hk2
    show (k < kc_places ((kz (m_sh M1)).2.2.2.1 s) → _) ∧ (kc_places ((kz (m_sh M1)).2.2.2.1 s) ≤ k → (kz f').2.2.2.2 (2 * s + k) = none)
    refine ⟨fun hp => ?_, fun hp => by rw [hkk s k hs hk2, r2 hp, if_neg (fun z => by cases z.2)]⟩
    obtain ⟨n', b', n6, h7, h8, i, h9⟩ := r1 hp
    show ∃ n b, n < 6 ∧ (kz f').2.2.2.2 (2 * s + k) = some n ∧ (kz (m_sh M1)).2.2.1 n = some b ∧ ∃ j, kt_it (kz (m_sh M1)).2.1 j x = some b
    rw [hkk s k hs hk2, hx, h7]
    by_cases c : ks_in (kz (m_sh M1)) (some x) (some a) = true ∧ some n' = some n
    · rw [if_pos c]
      exact ⟨j, a, j6, rfl, hl, (kt_in_it o.1 (o.2.1 0 s x (by decide) hs hx)).mp c.1⟩
    · rw [if_neg c]
      exact ⟨n', b', n6, rfl, h8, i, h9⟩
  · have hx : (kz (m_sh M1)).1 s = none := hx
    show (kz f').2.2.2.2 (2 * s + k) = none
    rw [hkk s k hs hk2, hk.2 s k hs hk2 hx, if_neg (fun z => by cases z.2)]
  · rw [lo _ (by omega)] at w
    rw [lo _ (by omega)]
    exact h3 s hs w
theorem kq_sever {C : kc_C} {M : km_M} (h : kq_R C M) (n a : Int32) : kq_st (fun k => k + 1) (kc_sever C n a) (nI (km_sever M n a).1) (km_sever M n a).2 := by
  have h4 := h.2.2.1.1
  have e := h4.1.1
  have o := h4.2.1.1
  have oS : ks_ok (kc_S C) := h.1.1.1 _ (by have := h.1.1.2.1; omega)
  unfold kc_sever km_sever
  rw [kq_hasI e, kq_harI e]
  by_cases c1 : (ks_hasI (km_S M) (nI 2) n && ks_harI (km_S M) a) = true
  · rw [if_pos (show (ks_hasI (kz (m_sh M)) (nI 2) n && ks_harI (kz (m_sh M)) a) = true from c1), if_pos c1]
    obtain ⟨c2, c3⟩ := Bool.and_eq_true_iff.mp c1
    obtain ⟨i, b, hi, rfl, hb⟩ := ks_hasI_k (k := 2) (by decide) c2
    obtain ⟨x, x13, rfl, hx⟩ := km_har o c3
    have hi : i < 6 := hi
    have hb : (km_S M).2.2.1 i = some b := hb
    have ci : (nI i).toNatClampNeg = i := nI_clamp (by omega)
    have cx : (nI x).toNatClampNeg = x := nI_clamp (by omega)
    have ex : kc_n (nI x) = some x := by unfold kc_n; rw [cx]
    have eo : ks_odd (kc_S C) (nI x) = decide (km_dp (km_S M) x % 2 = 1) := by
      unfold ks_odd
      rw [kq_depth e]
      exact ks_odd_dp o.1 x13
    have er : ks_reach (kc_S C) (nI i) (some x) = ks_in (km_S M) (some x) (some b) := by
      rw [kq_reach e]
      unfold ks_reach
      have c2' : ks_hasI (kz (m_sh M)) (nI 2) (nI i) = true := c2
      rw [c2', Bool.true_and, ks_areaI_t (S := kz (m_sh M)) (k := 2) (by decide) hi hb]
      rfl
    have ef : decide (0 < ks_freeN (kc_S C) 2) = !km_fu M 2 := by rw [kq_freeN e]; exact ks_free_slot o.1 2
    rw [ex, eo, er, ef, ci, cx]
    unfold km_severN
    have eT : km_svT M i x = if m_st M = true ∧ km_dp (km_S M) x % 2 = 0 ∧ ks_in (km_S M) (some x) (some b) = true then (if km_fu M 2 = true then 3 else km_late M) else 2 := by unfold km_svT; rw [hb]
    by_cases c5 : (!C.2.2.2.2.1 && (!decide (km_dp (km_S M) x % 2 = 1) && ks_in (km_S M) (some x) (some b))) = true
    · rw [if_pos c5]
      obtain ⟨c6, c78⟩ := Bool.and_eq_true_iff.mp c5
      obtain ⟨c7, c8⟩ := Bool.and_eq_true_iff.mp c78
      have c7 : ¬ km_dp (km_S M) x % 2 = 1 := fun w => by rw [decide_eq_true w] at c7; cases c7
      have hd : C.2.2.2.2.1 = false := by cases hd : C.2.2.2.2.1 with
        | false => rfl
        | true => rw [hd] at c6; cases c6
      have st : m_st M = true := by rw [h.2.1.2, hd]; rfl
      have eT2 : km_svT M i x = if km_fu M 2 = true then 3 else km_late M := by rw [eT, if_pos ⟨st, by omega, c8⟩]
      rw [eT2, kc_may_st h hd]
      cases hf : km_fu M 2 with
      | true =>
        rw [if_pos (show true = true from rfl), Bool.not_true, Bool.and_false, if_neg (show ¬ false = true by decide), if_neg (show ¬ (3 : Nat) = 0 by decide)]
        exact kq_bad h rfl
      | false =>
        rw [if_neg (show ¬ false = true by decide), Bool.not_false, Bool.and_true]
        by_cases c9 : km_late M = 0
        · rw [if_pos c9, decide_eq_true c9, if_pos rfl]
          have hm : kc_mayCh C = true := by rw [kc_may_st h hd]; exact decide_eq_true c9
          obtain ⟨j, hj⟩ : ∃ j, ks_slot (km_S M) 2 = some j := by
            cases hj : ks_slot (km_S M) 2 with
            | none => unfold km_fu at hf; rw [hj] at hf; exact absurd rfl (of_decide_eq_false hf)
            | some j => exact ⟨j, rfl⟩
          have hjS : ks_slot (kc_S C) 2 = some j := by rw [kq_slot e]; exact hj
          have en : km_new M 2 = j := by unfold km_new; rw [hj]; rfl
          have kp := (km_keep_th M 0).2.2
          have en2 : km_new (km_keep (s_th M 0)) 2 = j := by
            unfold km_new
            rw [show km_S (km_keep (s_th M 0)) = km_S M from congrArg kz kp, hj]; rfl
          have eM : km_svM (km_keep (s_th M 0)) i x = km_sv i j x 0 12 (km_st (km_keep (s_th M 0)) (13 + j) (some x)) := by unfold km_svM; rw [en2]
          rw [hjS, en, eM]
          have j6 : j < 6 := (ks_slot_some hj).2.1
          refine kq_good2 h hm (ks_ok_rehook (ks_ok_add oS (by decide) (mm_lt_some x13)) (mm_lt_some j6)) (kq_sever_S (by rw [kp]; exact h4) hi hjS ?_) rfl (km_sv_q i j x 12 0 _ rfl).1
          show kt_ar (kz (m_sh (km_keep (s_th M 0)))).2.1 x
          rw [kp]
          exact kt_is_ar hx
        · rw [if_neg c9, decide_eq_false c9, if_neg (by decide), km_late_03 M c9]
          exact kq_bad h rfl
    · rw [if_neg c5]
      have e2 : km_svT M i x = 2 := by
        refine eT.trans (if_neg (fun w => c5 ?_))
        have hd : C.2.2.2.2.1 = false := by
          have := w.1
          rw [h.2.1.2] at this
          cases hd : C.2.2.2.2.1 with
          | false => rfl
          | true => rw [hd] at this; cases this
        rw [hd, w.2.2, decide_eq_false (by have := w.2.1; omega)]; rfl
      rw [e2, if_neg (by decide)]
      exact kq_bad h rfl
  · rw [if_neg (show ¬ (ks_hasI (kz (m_sh M)) (nI 2) n && ks_harI (kz (m_sh M)) a) = true from c1), if_neg c1]
    exact kq_bad h rfl
