/-! Mathematics: copies of spots. -/
/-- one spot is copied -/
theorem kf_spot1 {f0 : Nat → Option Nat} {n c j i : Nat} (nWj : ¬ kf_W f0 n j) {T : ks_T} {U : kd_T} (hi : i < 12) (hS : kf_S f0 n T U) (hj : kt_ar (kz U.1).2.1 j) (hsc : kf_sc U c j 6) (hc : U.1 (19 + i) = some c) (hr : kf_am (kz U.1) 0 < 12) :
    ∃ U' v, kd_spot U i j = some U' ∧ v < 12 ∧ ks_slot T.1 0 = some v ∧ kf_S f0 n (ks_copySpot T.1 T.2 i (some j), T.2) U' ∧ U'.2 = U.2 ∧ U.1 (19 + v) = none ∧ (∀ q, q < 31 → U'.1 q = ks_u U.1 (19 + v) (some j) q) ∧ kf_am (kz U'.1) 0 = kf_am (kz U.1) 0 + 1 := by
  obtain ⟨s1, s2, s3, s4, s5⟩ := hS
  obtain ⟨v, hv⟩ := kf_slot (T := kz U.1) (k := 0) hr
  obtain ⟨-, v12, vn⟩ := ks_slot_some hv
  have v12 : v < 12 := v12
  have vn : U.1 (19 + v) = none := (kz_s U.1 v12).symm.trans vn
  have hvS : ks_slot T.1 0 = some v := by rw [kq_slot s1.1.1]; exact hv
  have en : kd_new U 0 = v := by unfold kd_new; rw [hv]; rfl
  have iv : ¬ i = v := fun w => by rw [w, vn] at hc; cases hc
  have hci : (kz U.1).1 i = some c := (kz_s U.1 hi).trans hc
  obtain ⟨⟨e, e2⟩, ⟨o, hk⟩, h3⟩ := s1
  obtain ⟨g, hg⟩ : ∃ g, U.1 (31 + i) = some g := by
    cases hg : U.1 (31 + i) with
    | none => exact absurd hg (h3 i hi (by rw [hc]; exact fun w => nomatch w))
    | some g => exact ⟨g, rfl⟩
  have eg : (kz U.1).2.2.2.1 i = g := by
    have e : (kz U.1).2.2.2.1 i = (U.1 (31 + i)).getD 0 := if_pos hi
    rw [e, hg]; rfl
  have g4 : g < 4 := by rw [← eg]; exact o.1.2.1 i hi
  obtain ⟨sg, shk⟩ := e2 i hi (by rw [hci]; exact fun w => nomatch w)
  have h0 : T.1.2.2.2.2 (2 * i) = U.1 (43 + 2 * i) := by
    have := shk 0 (by decide)
    rw [Nat.add_zero, kz_h U.1 (by omega)] at this; exact this
  have h1 : T.1.2.2.2.2 (2 * i + 1) = U.1 (43 + 2 * i + 1) := by
    have := shk 1 (by decide)
    rw [kz_h U.1 (by omega)] at this; exact this
  have th : ∀ x, mm_lt x 6 → ks_th T.2 x = kd_nh U x := fun x hx => by
    cases x with
    | none => rfl
    | some y => rw [kf_nh]; exact (s3 y (hx y rfl)).1
  have l6 : ∀ q, q < 24 → mm_lt (U.1 (43 + q)) 6 := fun q hq y hy => o.1.2.2.1 q y hq ((kz_h U.1 hq).trans hy)
  obtain ⟨a1, ea1⟩ : ∃ x, x = kd_nh U (U.1 (43 + 2 * i)) := ⟨_, rfl⟩
  obtain ⟨a2, ea2⟩ : ∃ x, x = kd_nh U (U.1 (43 + 2 * i + 1)) := ⟨_, rfl⟩
  have eSpot : kd_spot U i j = some (ks_u (ks_u (ks_u (ks_u U.1 (19 + v) (some j)) (31 + v) (some g)) (43 + 2 * v) a1) (43 + 2 * v + 1) a2, U.2) := by
    unfold kd_spot
    rw [en, if_pos v12]
    congr 1
    have r1 : kd_sp1 U v i j = (ks_u (ks_u U.1 (19 + v) (some j)) (31 + v) (some g), U.2) := by
      show (ks_u (ks_u U.1 (19 + v) (some j)) (31 + v) (U.1 (31 + i)), U.2) = _
      rw [hg]
    have nh : ∀ (X : Nat → Option Nat) (x : Option Nat), kd_nh (X, U.2) x = kd_nh U x := fun X x => by
      cases x with
      | none => rfl
      | some y => rw [kf_nh, kf_nh]
    rw [r1]
    have r2 : kd_sp2 (ks_u (ks_u U.1 (19 + v) (some j)) (31 + v) (some g), U.2) v i = (ks_u (ks_u (ks_u U.1 (19 + v) (some j)) (31 + v) (some g)) (43 + 2 * v) a1, U.2) := by
      show (ks_u (ks_u (ks_u U.1 (19 + v) (some j)) (31 + v) (some g)) (43 + 2 * v) (kd_nh _ (ks_u (ks_u U.1 (19 + v) (some j)) (31 + v) (some g) (43 + 2 * i))), U.2) = _
      rw [ks_u_ne _ _ (show ¬ 43 + 2 * i = 31 + v by omega), ks_u_ne _ _ (show ¬ 43 + 2 * i = 19 + v by omega), nh, ← ea1]
    rw [r2]
    show (ks_u (ks_u (ks_u (ks_u U.1 (19 + v) (some j)) (31 + v) (some g)) (43 + 2 * v) a1) (43 + 2 * v + 1) (kd_nh _ (ks_u (ks_u (ks_u U.1 (19 + v) (some j)) (31 + v) (some g)) (43 + 2 * v) a1 (43 + 2 * i + 1))), U.2) = _
    rw [ks_u_ne _ _ (show ¬ 43 + 2 * i + 1 = 43 + 2 * v by omega), ks_u_ne _ _ (show ¬ 43 + 2 * i + 1 = 31 + v by omega), ks_u_ne _ _ (show ¬ 43 + 2 * i + 1 = 19 + v by omega), nh, ← ea2]
  have kU : kd_ok U := ⟨o.1, fun q hq => (s3 q hq).2⟩
  have b1 : mm_lt a1 6 := by rw [ea1]; exact kd_nh_lt kU (l6 (2 * i) (by omega))
  have b2 : mm_lt a2 6 := by rw [ea2]; exact kd_nh_lt kU (l6 (2 * i + 1) (by omega))
  have pl := kc_places_le g4
  have hkq : ∀ k, k < 2 → (k < kc_places g → ∃ n b, n < 6 ∧ (if k = 0 then a1 else a2) = some n ∧ (kz U.1).2.2.1 n = some b ∧ ∃ i, kt_it (kz U.1).2.1 i j = some b) ∧ (kc_places g ≤ k → (if k = 0 then a1 else a2) = none) := fun k hk2 => by
    obtain ⟨r1, r2⟩ := hk.1 i c hi hci k hk2
    rw [eg] at r1 r2
    have ea : (if k = 0 then a1 else a2) = kd_nh U ((kz U.1).2.2.2.2 (2 * i + k)) := by
      rw [kz_h U.1 (by omega)]
      by_cases k0 : k = 0
      · rw [if_pos k0, k0, ea1]; rfl
      · rw [if_neg k0, show k = 1 by omega, ea2]; rfl
    rw [ea]
    refine ⟨fun hp => ?_, fun hp => by rw [r2 hp]; rfl⟩
    obtain ⟨q, b, q6, h7, h8, m, h9⟩ := r1 hp
    rw [h7, kf_nh]
    rw [kz_l U.1 q6] at h8
    obtain ⟨b', x1, x2, x3⟩ := hsc q b q6 h8 (by
      cases m with
      | zero => exact Or.inr ⟨(Option.some.inj h9).symm, q6⟩
      | succ m => exact Or.inl ⟨m, h9⟩)
    exact ⟨kf_st U.2 q, b', x1, rfl, (kz_l U.1 x1).trans x2, x3⟩
  have eC : ks_copySpot T.1 T.2 i (some j) = ks_addSpot T.1 (some j) g a1 a2 := by
    unfold ks_copySpot
    rw [sg, eg, h0, h1, th (U.1 (43 + 2 * i)) (l6 (2 * i) (by omega)), th (U.1 (43 + 2 * i + 1)) (l6 (2 * i + 1) (by omega)), ← ea1, ← ea2]
  have nq := kq_add_spot ⟨⟨e, e2⟩, ⟨o, hk⟩, h3⟩ hvS hj g4 b1 b2 hkq
  have row : ∀ q, q < 31 → ks_u (ks_u (ks_u (ks_u U.1 (19 + v) (some j)) (31 + v) (some g)) (43 + 2 * v) a1) (43 + 2 * v + 1) a2 q = ks_u U.1 (19 + v) (some j) q := fun q hq => by rw [ks_u_ne _ _ (by omega), ks_u_ne _ _ (by omega), ks_u_ne _ _ (by omega)]
  refine ⟨_, v, eSpot, v12, hvS, ⟨?_, ?_, s3, fun q hq h => ?_, fun q y hq hy h => ?_⟩, rfl, vn, row, ?_⟩
  · rw [eC]; exact nq
  · rw [eC]; exact ks_ok_addSpot s2 (mm_lt_some hj.1) g4 b1 b2
  · refine (row q hq).trans ?_
    by_cases w : q = 19 + v
    · have := s4 q hq h
      rw [w, vn] at this
      rw [w, ← this] at h
      exact absurd rfl h
    · rw [ks_u_ne _ _ w]; exact s4 q hq h
  · have h := (row q hq).symm.trans h
    by_cases w : q = 19 + v
    · rw [w, ks_u_at] at h
      cases h
      exact absurd hy nWj
    · rw [ks_u_ne _ _ w] at h; exact s5 q y hq hy h
  · refine kf_am_u (k := 0) (a := j) hv ?_
    rw [kz_spotAt U.1 v12 j g a1 a2]
    rfl
/-- the spots of a cut are copied -/
theorem kf_cpS {f0 kp : Nat → Option Nat} {n bb c j : Nat} (hkp : ∀ q, q < 67 → kp (bb + q) = f0 q) (Wc : kf_W f0 n c) (nWj : ¬ kf_W f0 n j) : ∀ (k i : Nat) (T : ks_T) (U : kd_T), i + k = 12 → kf_S f0 n T U → kt_ar (kz U.1).2.1 j → kf_sc U c j 6 → kf_am (kz U.1) 0 + kp_e (kz f0).1 c i k ≤ 12 →
    ∃ U', kd_cpS kp bb c j i k U = some U' ∧ kf_S f0 n (ks_cpS c (some j) i k T) U' ∧ (∀ q, q < 19 → U'.1 q = U.1 q) ∧ (∀ q, q < 12 → (¬ U.1 (19 + q) = none → U'.1 (19 + q) = U.1 (19 + q)) ∧ (U.1 (19 + q) = none → U'.1 (19 + q) = none ∨ U'.1 (19 + q) = some j)) ∧ kf_sc U' c j 6 ∧ U'.2 = U.2 ∧ kf_am (kz U'.1) 0 = kf_am (kz U.1) 0 + kp_e (kz f0).1 c i k := by
  intro k
  induction k with
  | zero =>
    intro i T U hi hS hj hsc hr
    exact ⟨U, rfl, hS, fun _ _ => rfl, fun q _ => ⟨fun _ => rfl, fun w => Or.inl w⟩, hsc, rfl, rfl⟩
  | succ k ih =>
    intro i T U hi hS hj hsc hr
    have ek : kp (bb + 19 + i) = f0 (19 + i) := by rw [Nat.add_assoc]; exact hkp _ (by omega)
    have st1 : kd_cpS kp bb c j i (k + 1) U = if kp (bb + 19 + i) = some c then (kd_spot U i j).bind (kd_cpS kp bb c j (i + 1) k) else kd_cpS kp bb c j (i + 1) k U := rfl
    have st2 : ks_cpS c (some j) i (k + 1) T = ks_cpS c (some j) (i + 1) k (if T.1.1 i = some c then (ks_copySpot T.1 T.2 i (some j), T.2) else T) := rfl
    have eO : (kz f0).1 i = f0 (19 + i) := kz_s f0 (by omega)
    have eT : T.1.1 i = U.1 (19 + i) := by rw [hS.1.1.1.1]; exact kz_s U.1 (by omega)
    have ee : kp_e (kz f0).1 c i (k + 1) = (if (kz f0).1 i = some c then 1 else 0) + kp_e (kz f0).1 c (i + 1) k := rfl
    rw [st1, st2, ek, eT]
    rw [ee, eO] at hr ⊢
    by_cases cc : f0 (19 + i) = some c
    · have cu : U.1 (19 + i) = some c := (hS.2.2.2.1 _ (by omega) (by rw [cc]; exact fun w => nomatch w)).trans cc
      rw [if_pos cc] at hr ⊢
      rw [if_pos cc, if_pos cu]
      obtain ⟨U1, v, g1, v12, -, g2, g3, vn, g4, g5⟩ := kf_spot1 nWj (show i < 12 by omega) hS hj hsc cu (by omega)
      rw [g1]
      have eP : (kz U1.1).2.1 = (kz U.1).2.1 := by
        funext q
        show (if q < 13 then U1.1 q else none) = (if q < 13 then U.1 q else none)
        split
        · rw [g4 q (by omega), ks_u_ne _ _ (by omega)]
        · rfl
      have lo : ∀ q, q < 19 → U1.1 q = U.1 q := fun q hq => by rw [g4 q (by omega), ks_u_ne _ _ (by omega)]
      have hsc1 : kf_sc U1 c j 6 := by
        intro q b q6 hq hcond
        rw [lo _ (by omega)] at hq
        rw [eP] at hcond
        obtain ⟨b', x1, x2, m, x3⟩ := hsc q b q6 hq hcond
        rw [g3]
        exact ⟨b', x1, by rw [lo _ (by omega)]; exact x2, m, by rw [eP]; exact x3⟩
      obtain ⟨U', k1, k2, k3, k4, k5, k6, k7⟩ := ih (i + 1) _ U1 (by omega) g2 (by rw [eP]; exact hj) hsc1 (by omega)
      refine ⟨U', k1, k2, fun q hq => by rw [k3 q hq, lo q hq], fun q hq => ⟨fun h => ?_, fun h => ?_⟩, k5, k6.trans g3, by omega⟩
      · have w : ¬ q = v := fun w => by rw [w, vn] at h; exact h rfl
        have e9 : U1.1 (19 + q) = U.1 (19 + q) := by rw [g4 _ (by omega), ks_u_ne _ _ (by omega)]
        rw [(k4 q hq).1 (by rw [e9]; exact h), e9]
      · by_cases w : q = v
        · have e9 : U1.1 (19 + q) = some j := by rw [g4 _ (by omega), w, ks_u_at]
          exact Or.inr (by rw [(k4 q hq).1 (by rw [e9]; exact fun z => nomatch z), e9])
        · exact (k4 q hq).2 (by rw [g4 _ (by omega), ks_u_ne _ _ (by omega)]; exact h)
    · have cu : ¬ U.1 (19 + i) = some c := fun w => cc (hS.2.2.2.2 _ c (by omega) Wc w)
      rw [if_neg cc] at hr ⊢
      rw [if_neg cc, if_neg cu]
      rw [Nat.zero_add] at hr ⊢
      exact ih (i + 1) T U (by omega) hS hj hsc hr
