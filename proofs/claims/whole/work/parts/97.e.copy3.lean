/-! Mathematics: copies of cuts. -/
theorem kf_rec {f0 kp : Nat → Option Nat} {n bb : Nat} (hkp : ∀ q, q < 67 → kp (bb + q) = f0 q) (o0 : kt_ok (kz f0)) (n13 : n < 13) (hn : ¬ f0 n = none) : ∀ (f c x m : Nat) (T : ks_T) (U : kd_T), kf_W f0 n c → kt_it (kz f0).2.1 m c = some 0 → 13 ≤ m + f → kf_S f0 n T U → kt_ar (kz U.1).2.1 x → ¬ kf_W f0 n x → kf_sc U c x 0 →
    kf_am (kz U.1) 1 + (ky (kz f0).2.1 f c).length ≤ 12 → kf_am (kz U.1) 2 + kz_sum (fun y => kp_e (kz f0).2.2.1 y 0 6) (ky (kz f0).2.1 f c) ≤ 6 → kf_am (kz U.1) 0 + kz_sum (fun y => kp_e (kz f0).1 y 0 12) (ky (kz f0).2.1 f c) ≤ 12 →
    ∃ U', kd_cp kp bb f c x U = some U' ∧ kf_S f0 n (ks_cp f T c (some x)) U' ∧ kf_E U.1 U'.1 x ∧ (∀ q, q < 6 → (∀ y, f0 (13 + q) = some y → ¬ ∃ m, kt_it (kz f0).2.1 m y = some c) → U'.2 q = U.2 q) ∧
      kf_am (kz U'.1) 1 = kf_am (kz U.1) 1 + (ky (kz f0).2.1 f c).length ∧ kf_am (kz U'.1) 2 = kf_am (kz U.1) 2 + kz_sum (fun y => kp_e (kz f0).2.2.1 y 0 6) (ky (kz f0).2.1 f c) ∧ kf_am (kz U'.1) 0 = kf_am (kz U.1) 0 + kz_sum (fun y => kp_e (kz f0).1 y 0 12) (ky (kz f0).2.1 f c) := by
  have t0 := kt_ok_tr o0
  intro f
  induction f with
  | zero =>
    intro c x m T U Wc hm h13
    have := kt_short t0.1 t0.2.1 Wc.1 hm
    omega
  | succ f ih =>
    intro c x m T U Wc hm h13 hS hx nWx hsc r1 r2 r3
    obtain ⟨s1, s2, s3, s4, s5⟩ := hS
    have oU := s1.2.1.1
    have tU := kt_ok_tr oU
    have ar0 : ∀ y, kt_ar (kz f0).2.1 y → kt_ar (kz U.1).2.1 y := fun y hy => ⟨hy.1, hy.2.elim Or.inl (fun w => Or.inr (by
      rw [kz_c f0 hy.1] at w
      rw [kz_c U.1 hy.1, s4 y (by have := hy.1; omega) w]; exact w))⟩
    have ekl : (ky (kz f0).2.1 (f + 1) c).length = (ky_kids (ky (kz f0).2.1 f) (kz f0).2.1 c 1 12).length + 1 := rfl
    have e2l : kz_sum (fun y => kp_e (kz f0).2.2.1 y 0 6) (ky (kz f0).2.1 (f + 1) c) = kp_e (kz f0).2.2.1 c 0 6 + kz_sum (fun y => kp_e (kz f0).2.2.1 y 0 6) (ky_kids (ky (kz f0).2.1 f) (kz f0).2.1 c 1 12) := rfl
    have e3l : kz_sum (fun y => kp_e (kz f0).1 y 0 12) (ky (kz f0).2.1 (f + 1) c) = kp_e (kz f0).1 c 0 12 + kz_sum (fun y => kp_e (kz f0).1 y 0 12) (ky_kids (ky (kz f0).2.1 f) (kz f0).2.1 c 1 12) := rfl
    rw [ekl] at r1 ⊢
    rw [e2l] at r2 ⊢
    rw [e3l] at r3 ⊢
    -- the cut itself
    obtain ⟨j, hj⟩ := kf_slot (T := kz U.1) (k := 1) (by show kf_am (kz U.1) 1 < 12; omega)
    obtain ⟨j1, j13, jn⟩ := ks_slot_some hj
    have j1 : 1 ≤ j := j1
    have j13 : j < 13 := j13
    have jn : (kz U.1).2.1 j = none := jn
    have jnu : U.1 j = none := (kz_c U.1 j13).symm.trans jn
    have hjS : ks_slot T.1 1 = some j := by rw [kq_slot s1.1.1]; exact hj
    have en : kd_new U 1 = j := by unfold kd_new; rw [hj]; rfl
    have nar : ¬ kt_ar (kz U.1).2.1 j := fun w => w.2.elim (fun w => by omega) (fun w => w jn)
    have Wu : ∀ y, kf_W f0 n y → kt_ar (kz U.1).2.1 y := fun y hy => ar0 y (kf_W_ar hn n13 hy)
    have nWj : ¬ kf_W f0 n j := fun w => nar (Wu j w)
    have cj : ¬ j = c := fun w => nar (by rw [w]; exact Wu c Wc)
    have xj : ¬ x = j := fun w => nar (by rw [← w]; exact hx)
    obtain ⟨U1, eU1⟩ : ∃ X : kd_T, X = (ks_u U.1 j (some x), U.2) := ⟨_, rfl⟩
    obtain ⟨T1, eT1⟩ : ∃ X : ks_T, X = (ks_add T.1 1 (some x), T.2) := ⟨_, rfl⟩
    have u1 : ∀ q, U1.1 q = ks_u U.1 j (some x) q := fun q => by rw [eU1]
    have ez1 : kz U1.1 = ((kz U.1).1, ks_u (kz U.1).2.1 j (some x), (kz U.1).2.2) := by rw [eU1]; exact kz_uc U.1 j13 (some x)
    have P1 : (kz U1.1).2.1 = ks_u (kz U.1).2.1 j (some x) := by rw [ez1]
    have hS1 : kf_S f0 n T1 U1 := by
      refine ⟨by rw [eT1, eU1]; exact kq_add_cut s1 hjS hx, by rw [eT1]; exact ks_ok_add s2 (by decide) (mm_lt_some hx.1), by rw [eT1, eU1]; exact s3, fun q hq h => ?_, fun q y hq hy h => ?_⟩
      · rw [u1]
        by_cases w : q = j
        · have := s4 q hq h
          rw [w, jnu] at this
          rw [w, ← this] at h
          exact absurd rfl h
        · rw [ks_u_ne _ _ w]; exact s4 q hq h
      · rw [u1] at h
        by_cases w : q = j
        · rw [w, ks_u_at] at h; cases h; exact absurd hy nWx
        · rw [ks_u_ne _ _ w] at h; exact s5 q y hq hy h
    have E1 : kf_E U.1 U1.1 x := by
      refine ⟨fun q hq h => ?_, fun q hq h => ?_⟩
      · rw [u1, ks_u_ne _ _ (fun w => h (by rw [w]; exact jnu))]
      · rw [u1]
        by_cases w : q = j
        · rw [w, ks_u_at]; exact Or.inr ⟨x, rfl, Or.inl ⟨j13, rfl⟩⟩
        · rw [ks_u_ne _ _ w]; exact Or.inl h
    have hj1 : kt_ar (kz U1.1).2.1 j := ⟨j13, Or.inr (by rw [P1, ks_u_at]; exact fun w => nomatch w)⟩
    have leaf1 : ∀ q, q < 13 → ¬ U1.1 q = some j := fun q hq w => by
      rw [u1] at w
      by_cases z : q = j
      · rw [z, ks_u_at] at w; exact xj (Option.some.inj w)
      · rw [ks_u_ne _ _ z] at w
        exact nar (kt_tr_up tU hq ((kz_c U.1 hq).trans w))
    have hcU := Wu c Wc
    have tU1 := kt_ok_tr hS1.1.2.1.1
    have hsc1 : kf_sc U1 c j 0 := by
      intro q b q6 hq hcond
      rw [u1, ks_u_ne _ _ (by omega)] at hq
      rcases hcond with ⟨k, hk⟩ | ⟨-, w⟩
      · have hk0 := kf_E_yaw E1 tU tU1 hcU hk
        obtain ⟨b', x1, x2, mm, x3⟩ := hsc q b q6 hq (Or.inl ⟨k, hk0⟩)
        rw [show U1.2 = U.2 by rw [eU1]]
        refine ⟨b', x1, by rw [u1, ks_u_ne _ _ (by omega)]; exact x2, mm + 1, ?_⟩
        rw [kt_it_s (show (kz U1.1).2.1 j = some x by rw [P1, ks_u_at])]
        exact kf_E_way E1 tU mm x b' hx.1 x3
      · exact absurd w (by omega)
    have am1 : kf_am (kz U1.1) 1 = kf_am (kz U.1) 1 + 1 := kf_am_u (k := 1) (a := x) hj (by rw [ez1]; rfl)
    have am1b : kf_am (kz U1.1) 2 = kf_am (kz U.1) 2 := kf_am_same (by rw [ez1]; rfl)
    have am1c : kf_am (kz U1.1) 0 = kf_am (kz U.1) 0 := kf_am_same (by rw [ez1]; rfl)
    -- its lines
    obtain ⟨U2, a1, hS2, a3, a4, hsc2, a6, am2⟩ := kf_cpL hkp Wc nWj cj 6 0 T1 U1 rfl hS1 hj1 leaf1 hsc1 (by omega)
    have P2 : (kz U2.1).2.1 = (kz U1.1).2.1 := by
      funext q
      show (if q < 13 then U2.1 q else none) = (if q < 13 then U1.1 q else none)
      split
      · exact a3 q (Or.inl (by omega))
      · rfl
    have R2 : (kz U2.1).1 = (kz U1.1).1 := by
      funext q
      show (if q < 12 then U2.1 (19 + q) else none) = (if q < 12 then U1.1 (19 + q) else none)
      split
      · exact a3 _ (Or.inr (by omega))
      · rfl
    -- its spots
    obtain ⟨U3, b1, hS3, b3, b4, hsc3, b6, am3⟩ := kf_cpS hkp Wc nWj 12 0 (ks_cpL c (some j) 0 6 T1) U2 rfl hS2 (by rw [P2]; exact hj1) hsc2 (by
      have : kf_am (kz U2.1) 0 = kf_am (kz U1.1) 0 := kf_am_same R2
      omega)
    have P3 : (kz U3.1).2.1 = (kz U1.1).2.1 := by
      rw [← P2]
      funext q
      show (if q < 13 then U3.1 q else none) = (if q < 13 then U2.1 q else none)
      split
      · exact b3 q (by omega)
      · rfl
    have L3 : (kz U3.1).2.2.1 = (kz U2.1).2.2.1 := by
      funext q
      show (if q < 6 then U3.1 (13 + q) else none) = (if q < 6 then U2.1 (13 + q) else none)
      split
      · exact b3 _ (by omega)
      · rfl
    have am3b : kf_am (kz U3.1) 1 = kf_am (kz U1.1) 1 := kf_am_same P3
    have am3c : kf_am (kz U3.1) 2 = kf_am (kz U2.1) 2 := kf_am_same L3
    have am2c : kf_am (kz U2.1) 0 = kf_am (kz U1.1) 0 := kf_am_same R2
    have E3 : kf_E U.1 U3.1 x := by
      refine ⟨fun q hq h => ?_, fun q hq h => ?_⟩
      · have h1 := E1.1 q hq h
        have h1n : ¬ U1.1 q = none := by rw [h1]; exact h
        have h2 : U2.1 q = U1.1 q := by
          rcases Nat.lt_or_ge q 13 with w | w
          · exact a3 q (Or.inl w)
          · rcases Nat.lt_or_ge q 19 with w2 | w2
            · have := (a4 (q - 13) (by omega)).1
              rw [show 13 + (q - 13) = q by omega] at this
              exact this h1n
            · exact a3 q (Or.inr w2)
        have h3 : U3.1 q = U2.1 q := by
          rcases Nat.lt_or_ge q 19 with w | w
          · exact b3 q w
          · have := (b4 (q - 19) (by omega)).1
            rw [show 19 + (q - 19) = q by omega] at this
            exact this (by rw [h2]; exact h1n)
        rw [h3, h2, h1]
      · by_cases w : q < 13
        · rw [b3 q (by omega), a3 q (Or.inl w)]; exact E1.2 q hq h
        · have h1 : U1.1 q = none := by rw [u1, ks_u_ne _ _ (by omega)]; exact h
          have fin : ∀ v, v = none ∨ v = some j → v = none ∨ ∃ b, v = some b ∧ ((q < 13 ∧ b = x) ∨ ¬ kt_ar (kz U.1).2.1 b) := fun v hv => hv.elim Or.inl (fun e => Or.inr ⟨j, e, Or.inr nar⟩)
          rcases Nat.lt_or_ge q 19 with w2 | w2
          · have := (a4 (q - 13) (by omega)).2
            rw [show 13 + (q - 13) = q by omega] at this
            rw [b3 q w2]
            exact fin _ (this h1)
          · have := (b4 (q - 19) (by omega)).2
            rw [show 19 + (q - 19) = q by omega] at this
            exact fin _ (this (by rw [a3 q (Or.inr w2)]; exact h1))
    -- the cuts in it
    have kids : ∀ (k i : Nat) (T4 : ks_T) (U4 : kd_T), i + k = 13 → 1 ≤ i → kf_S f0 n T4 U4 → kf_E U.1 U4.1 x → kt_ar (kz U4.1).2.1 j → kf_sc U4 c j 6 → kf_am (kz U4.1) 1 + (ky_kids (ky (kz f0).2.1 f) (kz f0).2.1 c i k).length ≤ 12 → kf_am (kz U4.1) 2 + kz_sum (fun y => kp_e (kz f0).2.2.1 y 0 6) (ky_kids (ky (kz f0).2.1 f) (kz f0).2.1 c i k) ≤ 6 → kf_am (kz U4.1) 0 + kz_sum (fun y => kp_e (kz f0).1 y 0 12) (ky_kids (ky (kz f0).2.1 f) (kz f0).2.1 c i k) ≤ 12 →
        ∃ U', kd_kids (kd_cp kp bb f) kp bb c j i k U4 = some U' ∧ kf_S f0 n (ks_cpC (ks_cp f) c (some j) i k T4) U' ∧ kf_E U.1 U'.1 x ∧ (∀ q, q < 6 → (∀ y, f0 (13 + q) = some y → ¬ ∃ m, kt_it (kz f0).2.1 (m + 1) y = some c) → U'.2 q = U4.2 q) ∧
          kf_am (kz U'.1) 1 = kf_am (kz U4.1) 1 + (ky_kids (ky (kz f0).2.1 f) (kz f0).2.1 c i k).length ∧ kf_am (kz U'.1) 2 = kf_am (kz U4.1) 2 + kz_sum (fun y => kp_e (kz f0).2.2.1 y 0 6) (ky_kids (ky (kz f0).2.1 f) (kz f0).2.1 c i k) ∧ kf_am (kz U'.1) 0 = kf_am (kz U4.1) 0 + kz_sum (fun y => kp_e (kz f0).1 y 0 12) (ky_kids (ky (kz f0).2.1 f) (kz f0).2.1 c i k) := by
      intro k
      induction k with
      | zero =>
        intro i T4 U4 hi hi1 hS4 hE4 hj4 hsc4 q1 q2 q3
        exact ⟨U4, rfl, hS4, hE4, fun _ _ _ => rfl, rfl, rfl, rfl⟩
      | succ k ihk =>
        intro i T4 U4 hi hi1 hS4 hE4 hj4 hsc4 q1 q2 q3
        have ek : kp (bb + i) = f0 i := hkp i (by omega)
        have st1 : kd_kids (kd_cp kp bb f) kp bb c j i (k + 1) U4 = if kp (bb + i) = some c then (kd_cp kp bb f i j U4).bind (kd_kids (kd_cp kp bb f) kp bb c j (i + 1) k) else kd_kids (kd_cp kp bb f) kp bb c j (i + 1) k U4 := rfl
        have st2 : ks_cpC (ks_cp f) c (some j) i (k + 1) T4 = ks_cpC (ks_cp f) c (some j) (i + 1) k (if T4.1.2.1 i = some c then ks_cp f T4 i (some j) else T4) := rfl
        have eT : T4.1.2.1 i = U4.1 i := by rw [hS4.1.1.1.2.1]; exact kz_c U4.1 (by omega)
        rw [st1, st2, ek, eT]
        by_cases cc : f0 i = some c
        · have hp0 : (kz f0).2.1 i = some c := (kz_c f0 (by omega)).trans cc
          have cu : U4.1 i = some c := (hS4.2.2.2.1 i (by omega) (by rw [cc]; exact fun w => nomatch w)).trans cc
          have pU4 : (kz U4.1).2.1 i = some c := (kz_c U4.1 (by omega)).trans cu
          rw [if_pos cc, if_pos cu]
          rw [ky_kids_t hp0] at q1 q2 q3 ⊢
          rw [List.length_append] at q1 ⊢
          rw [kz_sum_app] at q2 q3 ⊢
          rw [kz_sum_app]
          have Wi : kf_W f0 n i := by
            obtain ⟨w1, mm, w2⟩ := Wc
            exact ⟨by omega, mm + 1, by rw [kt_it_s hp0]; exact w2⟩
          have hsck : kf_sc U4 i j 0 := by
            intro q b q6 hq hcond
            rcases hcond with ⟨mm, hmm⟩ | ⟨-, w⟩
            · rw [kt_it_s pU4] at hmm
              refine hsc4 q b q6 hq ?_
              cases mm with
              | zero => exact Or.inr ⟨(Option.some.inj hmm).symm, q6⟩
              | succ mm => exact Or.inl ⟨mm, hmm⟩
            · exact absurd w (by omega)
          obtain ⟨U5, g1, g2, g3, g4, g5, g6, g7⟩ := ih i j (m + 1) T4 U4 Wi (by rw [kt_it_s hp0]; exact hm) (by omega) hS4 hj4 nWj hsck (by omega) (by omega) (by omega)
          rw [g1]
          have t4 := kt_ok_tr hS4.1.2.1.1
          have t5 := kt_ok_tr g2.1.2.1.1
          have hc4 : kt_ar (kz U4.1).2.1 c := kf_E_ar hE4 hcU
          have hE5 : kf_E U.1 U5.1 x := kf_E_trans hE4 g3 (Or.inr nar)
          have hsc5 : kf_sc U5 c j 6 := by
            intro q b q6 hq hcond
            have way : ∃ mm, kt_it (kz U4.1).2.1 mm c = some b := by
              rcases hcond with ⟨mm, hmm⟩ | ⟨w, -⟩
              · exact ⟨mm + 1, kf_E_yaw g3 t4 t5 hc4 hmm⟩
              · exact ⟨0, by rw [w]; rfl⟩
            obtain ⟨mm, hmm⟩ := way
            have bar : kt_ar (kz U4.1).2.1 b := by
              cases mm with
              | zero =>
                have : c = b := Option.some.inj hmm
                rw [← this]; exact hc4
              | succ mm =>
                obtain ⟨y, y1, y2⟩ := kt_it_part hmm (show mm ≤ mm + 1 by omega)
                rw [show mm + 1 - mm = 1 by omega, kt_it_one] at y2
                exact kt_tr_up t4 (kt_it_lt t4.2.1 mm c y hc4.1 y1) y2
            have hq4 : U4.1 (13 + q) = some b := by
              by_cases w : U4.1 (13 + q) = none
              · rcases g3.2 (13 + q) (by omega) w with u | ⟨b2, u1, u2⟩
                · rw [u] at hq; cases hq
                · rw [u1] at hq
                  have : b2 = b := Option.some.inj hq
                  rcases u2 with ⟨u3, -⟩ | u3
                  · exact absurd u3 (by omega)
                  · exact absurd bar (by rw [← this]; exact u3)
              · rw [← g3.1 (13 + q) (by omega) w]; exact hq
            obtain ⟨b', x1, x2, m2, x3⟩ := hsc4 q b q6 hq4 (by
              cases mm with
              | zero => exact Or.inr ⟨(Option.some.inj hmm).symm, q6⟩
              | succ mm => exact Or.inl ⟨mm, hmm⟩)
            have e5 : U5.2 q = U4.2 q := by
              refine g4 q q6 (fun y hy w => ?_)
              have hy4 : U4.1 (13 + q) = some y := (hS4.2.2.2.1 _ (by omega) (by rw [hy]; exact fun z => nomatch z)).trans hy
              have eyb : y = b := Option.some.inj (hy4.symm.trans hq4)
              subst eyb
              obtain ⟨m3, hm3⟩ := w
              have y13 : y < 13 := bar.1
              -- from c to y, from y to i, from i to c
              have E04 : ∀ q, q < 31 → ¬ f0 q = none → U4.1 q = f0 q := hS4.2.2.2.1
              have w04 : ∀ (m y z : Nat), y < 13 → kt_it (kz f0).2.1 m y = some z → kt_it (kz U4.1).2.1 m y = some z := by
                intro m
                induction m with
                | zero => exact fun _ _ _ h => h
                | succ m ihm =>
                  intro y z hy h
                  cases hp : (kz f0).2.1 y with
                  | none => rw [kt_it_n hp] at h; cases h
                  | some w =>
                    rw [kt_it_s hp] at h
                    have hp' : (kz U4.1).2.1 y = some w := by
                      rw [kz_c f0 hy] at hp
                      rw [kz_c U4.1 hy, E04 y (by omega) (by rw [hp]; exact fun u => nomatch u)]
                      exact hp
                    rw [kt_it_s hp']
                    exact ihm w z (t0.2.1 y w hy (by rw [kz_c f0 hy] at hp ⊢; exact hp)) h
              have c1 := w04 m3 y i y13 hm3
              have c2 : kt_it (kz U4.1).2.1 (m3 + 1) y = some c := by rw [kt_it_end c1]; exact pU4
              have c3 := kt_it_cat c2 hmm
              have := kt_it_uniq2 t4 bar c3 (show kt_it (kz U4.1).2.1 0 y = some y from rfl)
              omega
            have est : kf_st U5.2 q = kf_st U4.2 q := by unfold kf_st; rw [e5]
            rw [est]
            exact ⟨b', x1, by rw [g3.1 _ (by omega) (by rw [x2]; exact fun z => nomatch z)]; exact x2, m2, kf_E_way g3 t4 m2 j b' hj4.1 x3⟩
          obtain ⟨U', k1, k2, k3, k4, k5, k6, k7⟩ := ihk (i + 1) (ks_cp f T4 i (some j)) U5 (by omega) (by omega) g2 hE5 (kf_E_ar g3 hj4) hsc5 (by omega) (by omega) (by omega)
          refine ⟨U', k1, k2, k3, fun q hq h => ?_, by omega, by omega, by omega⟩
          rw [k4 q hq h]
          exact g4 q hq (fun y hy w => h y hy (by
            obtain ⟨m3, hm3⟩ := w
            exact ⟨m3, by rw [kt_it_end hm3]; exact hp0⟩))
        · have hp0 : ¬ (kz f0).2.1 i = some c := by rw [kz_c f0 (by omega)]; exact cc
          have cu : ¬ U4.1 i = some c := fun w => cc (hS4.2.2.2.2 i c (by omega) Wc w)
          rw [if_neg cc, if_neg cu]
          rw [ky_kids_f hp0] at q1 q2 q3 ⊢
          exact ihk (i + 1) T4 U4 (by omega) (by omega) hS4 hE4 hj4 hsc4 q1 q2 q3
    obtain ⟨U', k1, k2, k3, k4, k5, k6, k7⟩ := kids 12 1 _ U3 rfl (Nat.le_refl _) hS3 E3 (by rw [P3]; exact hj1) hsc3 (by omega) (by omega) (by omega)
    have st1 : kd_cp kp bb (f + 1) c x U = some U' := by
      show (if kd_new U 1 < 13 then (kd_cpA kp bb c (kd_new U 1) (kd_put U (kd_new U 1) (some x))).bind (kd_kids (kd_cp kp bb f) kp bb c (kd_new U 1) 1 12) else none) = _
      rw [en, if_pos j13]
      have ep : kd_put U j (some x) = U1 := by rw [eU1]; rfl
      rw [ep]
      have eA : kd_cpA kp bb c j U1 = some U3 := by
        unfold kd_cpA
        rw [a1]
        exact b1
      rw [eA]
      exact k1
    have st2 : ks_cp (f + 1) T c (some x) = ks_cpC (ks_cp f) c (some j) 1 12 (ks_cpS c (some j) 0 12 (ks_cpL c (some j) 0 6 T1)) := by
      show ks_cpC (ks_cp f) c (ks_slot T.1 1) 1 12 (ks_cpS c (ks_slot T.1 1) 0 12 (ks_cpL c (ks_slot T.1 1) 0 6 (ks_add T.1 1 (some x), T.2))) = _
      rw [hjS, eT1]
    refine ⟨U', st1, by rw [st2]; exact k2, k3, fun q hq h => ?_, by omega, by omega, by omega⟩
    rw [k4 q hq (fun y hy w => h y hy (by obtain ⟨m3, hm3⟩ := w; exact ⟨m3 + 1, hm3⟩)), b6, a6 q hq (fun w => h c w ⟨0, rfl⟩), eU1]
