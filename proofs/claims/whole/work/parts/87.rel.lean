/-! Mathematics: class and reference side by side. -/
/-- parents form a tree -/
def kt_tr (P : Nat → Option Nat) : Prop := P 0 = none ∧ (∀ x y, x < 13 → P x = some y → y < 13) ∧ ∀ x, x < 13 → ¬ P x = none → ∃ m, kt_it P m x = some 0
def kt_ar (P : Nat → Option Nat) (a : Nat) : Prop := a < 13 ∧ (a = 0 ∨ ¬ P a = none)
theorem kt_ar_way {P : Nat → Option Nat} (t : kt_tr P) {a : Nat} (h : kt_ar P a) : ∃ m, kt_it P m a = some 0 := by
  rcases h.2 with h2 | h2
  · exact ⟨0, by rw [h2]; rfl⟩
  · exact t.2.2 a h.1 h2
theorem kt_ok_tr {S : ks_S} (o : kt_ok S) : kt_tr S.2.1 := by
  refine ⟨o.1.2.2.2, kt_ok_P o.1, fun x hx h => ?_⟩
  exact ((kt_is_it o.1.2.2.2 (kt_ok_P o.1)).mp (o.2.2 x hx (Or.inr h))).2
theorem kt_is_ar {S : ks_S} {a : Nat} (h : kt_is S a) : kt_ar S.2.1 a := by
  refine ⟨h.1, ?_⟩
  obtain ⟨m, -, hm⟩ := (kt_path_it 12 a).mp h.2
  cases m with
  | zero => exact Or.inl (Option.some.inj hm)
  | succ m => exact Or.inr (fun w => by rw [kt_it_n w] at hm; cases hm)
theorem kt_ar_is {S : ks_S} (o : ks_ok S) (t : kt_tr S.2.1) {a : Nat} (h : kt_ar S.2.1 a) : kt_is S a := (kt_is_it o.2.2.2 (kt_ok_P o)).mpr ⟨h.1, kt_ar_way t h⟩
theorem kt_ok_ar {S : ks_S} (o : kt_ok S) {k i a : Nat} (hk : k < 3) (hi : i < ks_len k) (h : ks_row S k i = some a) : kt_ar S.2.1 a := kt_is_ar (o.2.1 k i a hk hi h)
theorem kt_tr_up {P : Nat → Option Nat} (t : kt_tr P) {x y : Nat} (hx : x < 13) (h : P x = some y) : kt_ar P y := by
  refine ⟨t.2.1 x y hx h, ?_⟩
  obtain ⟨m, hm⟩ := t.2.2 x hx (by rw [h]; exact fun w => nomatch w)
  cases m with
  | zero =>
    have e : x = 0 := Option.some.inj hm
    rw [e, t.1] at h; cases h
  | succ m =>
    rw [kt_it_s h] at hm
    cases m with
    | zero => exact Or.inl (Option.some.inj hm)
    | succ m => exact Or.inr (fun w => by rw [kt_it_n w] at hm; cases hm)
theorem kt_ok_mk {S : ks_S} (o : ks_ok S) (t : kt_tr S.2.1) (h0 : ∀ i a, i < 12 → S.1 i = some a → kt_ar S.2.1 a) (h2 : ∀ i a, i < 6 → S.2.2.1 i = some a → kt_ar S.2.1 a) : kt_ok S := by
  refine ⟨o, fun k i a hk hi h => ?_, fun c hc h => kt_ar_is o t ⟨hc, h⟩⟩
  match k, hk, hi, h with
  | 0, _, hi, h => exact kt_ar_is o t (h0 i a hi h)
  | 1, _, hi, h => exact kt_ar_is o t (kt_tr_up t hi h)
  | 2, _, hi, h => exact kt_ar_is o t (h2 i a hi h)
  | n + 3, hk, _, _ => exact absurd hk (by omega)
/-- hooks: the lines are there, around their spots; nothing else is hooked -/
def kq_hk (T : ks_S) : Prop := (∀ s a, s < 12 → T.1 s = some a → ∀ k, k < 2 → (k < kc_places (T.2.2.2.1 s) → ∃ n b, n < 6 ∧ T.2.2.2.2 (2 * s + k) = some n ∧ T.2.2.1 n = some b ∧ ∃ j, kt_it T.2.1 j a = some b) ∧ (kc_places (T.2.2.2.1 s) ≤ k → T.2.2.2.2 (2 * s + k) = none)) ∧ ∀ s k, s < 12 → k < 2 → T.1 s = none → T.2.2.2.2 (2 * s + k) = none
def kq_f (f : Nat → Option Nat) : Prop := (kt_ok (kz f) ∧ kq_hk (kz f)) ∧ ∀ s, s < 12 → ¬ f (19 + s) = none → ¬ f (31 + s) = none
def kq_e (S T : ks_S) : Prop := kq_rw S T ∧ ∀ s, s < 12 → ¬ T.1 s = none → S.2.2.2.1 s = T.2.2.2.1 s ∧ ∀ k, k < 2 → S.2.2.2.2 (2 * s + k) = T.2.2.2.2 (2 * s + k)
def kq (S : ks_S) (f : Nat → Option Nat) : Prop := kq_e S (kz f) ∧ kq_f f
theorem kq_raw {f : Nat → Option Nat} (h : kq_f f) : ke_raw f := by
  intro s hs h1
  obtain ⟨⟨o, hk, -⟩, h3⟩ := h
  obtain ⟨g, hg⟩ : ∃ g, f (31 + s) = some g := by
    cases hg : f (31 + s) with
    | none => exact absurd hg (h3 s hs h1)
    | some g => exact ⟨g, rfl⟩
  obtain ⟨a, ha⟩ : ∃ a, f (19 + s) = some a := by
    cases ha : f (19 + s) with
    | none => exact absurd ha h1
    | some a => exact ⟨a, rfl⟩
  have eg : (kz f).2.2.2.1 s = g := by
    have e : (kz f).2.2.2.1 s = (f (31 + s)).getD 0 := if_pos hs
    rw [e, hg]; rfl
  have g4 : g < 4 := by rw [← eg]; exact o.1.2.1 s hs
  refine ⟨g, g4, hg, fun k hk2 => ?_⟩
  have k2 := kc_places_le g4
  obtain ⟨n, b, h6, h7, h8, -⟩ := (hk s a hs (by rw [kz_s f hs]; exact ha) k (by omega)).1 (by rw [eg]; exact hk2)
  refine ⟨n, h6, ?_, ?_⟩
  · rw [kz_h f (by omega), ← Nat.add_assoc] at h7; exact h7
  · rw [kz_l f h6] at h8; rw [h8]; exact fun w => nomatch w
theorem kq_congr {S : ks_S} {f g : Nat → Option Nat} (e : ∀ q, q < 67 → f q = g q) (h : kq S f) : kq S g := by
  have ez := kz_congr e
  obtain ⟨h1, h2, h3⟩ := h
  rw [ez] at h1 h2
  refine ⟨h1, h2, fun s hs w => ?_⟩
  rw [← e _ (by omega)] at w ⊢
  exact h3 s hs w
theorem kq_sm {f : Nat → Option Nat} (o : ks_ok (kz f)) : ∀ q, q < 67 → mm_sm (f q) := by
  intro q hq n hn
  have lt : n < 13 := by
    rcases Nat.lt_or_ge q 13 with h | h
    · exact o.1 1 q n h ((kz_c f h).trans hn)
    · rcases Nat.lt_or_ge q 19 with h2 | h2
      · refine o.1 2 (q - 13) n (show q - 13 < 6 by omega) ((kz_l f (by omega)).trans ?_)
        rw [show 13 + (q - 13) = q by omega]; exact hn
      · rcases Nat.lt_or_ge q 31 with h3 | h3
        · refine o.1 0 (q - 19) n (show q - 19 < 12 by omega) ((kz_s f (by omega)).trans ?_)
          rw [show 19 + (q - 19) = q by omega]; exact hn
        · rcases Nat.lt_or_ge q 43 with h4 | h4
          · have e : (kz f).2.2.2.1 (q - 31) = (f (31 + (q - 31))).getD 0 := if_pos (show q - 31 < 12 by omega)
            rw [show 31 + (q - 31) = q by omega, hn] at e
            have := o.2.1 (q - 31) (by omega)
            rw [e] at this
            have : n < 4 := this
            omega
          · have := o.2.2.1 (q - 43) n (by omega) ((kz_h f (by omega)).trans (by rw [show 43 + (q - 43) = q by omega]; exact hn))
            omega
  omega
/-- class and reference tell the same -/
def kq_R (C : kc_C) (M : km_M) : Prop := (kc_ok C ∧ (kr_tk C.2.1.2.1 ∧ kr_tk C.2.1.2.2) ∧ kl_pre C.2.2.1.1 ∧ kl_pre C.2.2.1.2) ∧ (m_mv M = C.2.2.2.2.2 ∧ m_st M = !C.2.2.2.2.1) ∧
  (kq (kc_S C) (m_sh M) ∧ (∀ i, i < m_mv M → kq (C.1 i) (fun q => m_kp M (67 * i + q))) ∧ ∀ q, q < 1407 → mm_sm (m_kp M q)) ∧
  ∃ L : List Nat, L.length ≤ 66 ∧ (C.2.1.1.2.1 = L.length ∧ ke_hasL C.2.1.1.1 0 L) ∧ ke_is M L
/-- code, answer, and what comes after -/
def kq_st (cd : Nat → Nat) (R : kc_R) (b : Int32) (M' : km_M) : Prop := kw_code cd R.1 = m_th M' ∧ (∀ y : Int32, R.1 = .inl (some (.int y)) → y = b) ∧ kq_R R.2 M'
theorem kq_R_th {C : kc_C} {M M' : km_M} (h : kq_R C M) (e1 : m_mv M' = m_mv M) (e2 : m_st M' = m_st M) (e3 : m_sh M' = m_sh M) (e4 : m_kp M' = m_kp M) (e5 : m_rd M' = m_rd M) (e6 : ∀ i, i < m_rd M → m_tk M' i = m_tk M i) : kq_R C M' := by
  obtain ⟨h1, h2, h3, L, l1, l2, l3⟩ := h
  refine ⟨h1, by rw [e1, e2]; exact h2, by rw [e1, e3, e4]; exact h3, L, l1, l2, by rw [e5]; exact l3.1, ke_hasL_eq l3.2 (fun p hp => ?_)⟩
  exact e6 _ (by rw [l3.1]; omega)
theorem kq_bad {cd : Nat → Nat} {C : kc_C} {M : km_M} {k : Nat} {b : Int32} (h : kq_R C M) {c : Nat} (hc : cd k = c) : kq_st cd (.inr k, C) b (s_th M c) := ⟨hc, fun y w => (by cases w), kq_R_th h rfl rfl rfl rfl rfl (fun _ _ => rfl)⟩
theorem kc_up_at (f : Nat → ks_S) (i : Nat) (S : ks_S) : kc_up f i S i = S := if_pos rfl
theorem kc_up_ne (f : Nat → ks_S) {i j : Nat} (S : ks_S) (h : ¬ j = i) : kc_up f i S j = f j := if_neg h
theorem kq_R_new {C : kc_C} {M M' : km_M} {S' : ks_S} {sf : Nat → Option Nat} (h : kq_R C M) (hc : kc_mayCh C = true) (oS : ks_ok S') (hq : kq S' (m_sh M')) (e1 : m_st M' = m_st M) (e2 : m_mv M' = m_mv (km_keep M)) (e3 : m_kp M' = m_kp (km_keep M)) (e4 : m_rd M' = m_rd M) (e5 : ∀ i, i < m_rd M → m_tk M' i = m_tk M i) : kq_R ((kc_new C S').1, C.2.1, C.2.2.1, sf, C.2.2.2.2.1, kc_mv C) M' := by
  obtain ⟨⟨ok, h1⟩, ⟨h2, h3⟩, ⟨h4, h5, h6⟩, L, l1, l2, l3⟩ := h
  obtain ⟨ok1, ok2, ok3, ok4⟩ := ok
  have hL : ke_is M' L := ⟨by rw [e4]; exact l3.1, ke_hasL_eq l3.2 (fun p hp => e5 _ (by rw [l3.1]; omega))⟩
  have sheets : ∀ i, i < 21 → ks_ok ((kc_new C S').1 i) := fun i hi => by
    show ks_ok (kc_up C.1 (kc_mv C) S' i)
    unfold kc_up
    split
    · exact oS
    · exact ok1 i hi
  cases hd : C.2.2.2.2.1 with
  | true =>
    have m0 := ok3 hd
    have emv : kc_mv C = C.2.2.2.2.2 := if_pos hd
    have st : m_st M = false := by rw [h3, hd]; rfl
    have ek : km_keep M = M := if_neg (by rw [st]; decide)
    rw [ek] at e2 e3
    refine ⟨⟨⟨sheets, by rw [emv]; exact ok2, fun _ => by show kc_mv C = 0; rw [emv]; exact m0, ok4⟩, h1⟩, ⟨by show m_mv M' = kc_mv C; rw [e2, emv, h2], by show m_st M' = !true; rw [e1, st]; rfl⟩, ⟨?_, fun i hi => ?_, by rw [e3]; exact h6⟩, L, l1, l2, hL⟩
    · show kq (kc_up C.1 (kc_mv C) S' (kc_mv C)) (m_sh M')
      rw [kc_up_at]; exact hq
    · rw [e2, h2, m0] at hi; exact absurd hi (by omega)
  | false =>
    have hlt : C.2.2.2.2.2 < 20 := by
      unfold kc_mayCh at hc
      rw [hd] at hc
      exact of_decide_eq_true hc
    have emv : kc_mv C = C.2.2.2.2.2 + 1 := (if_neg (by rw [hd]; decide)).trans (if_pos hlt)
    have st : m_st M = true := by rw [h3, hd]; rfl
    have ek : km_keep M = s_mv (s_kp M (km_kc (m_kp M) (m_sh M) (67 * m_mv M) 67)) (m_mv M + 1) := if_pos st
    rw [ek] at e2 e3
    have e2 : m_mv M' = m_mv M + 1 := e2
    have e3 : m_kp M' = km_kc (m_kp M) (m_sh M) (67 * m_mv M) 67 := e3
    refine ⟨⟨⟨sheets, by show kc_mv C ≤ 20; omega, fun w => (by cases w), ok4⟩, h1⟩, ⟨by show m_mv M' = kc_mv C; rw [e2, emv, h2], by show m_st M' = !false; rw [e1, st]; rfl⟩, ⟨?_, fun i hi => ?_, fun q hq2 => ?_⟩, L, l1, l2, hL⟩
    · show kq (kc_up C.1 (kc_mv C) S' (kc_mv C)) (m_sh M')
      rw [kc_up_at]; exact hq
    · show kq (kc_up C.1 (kc_mv C) S' i) _
      rw [kc_up_ne _ _ (by omega), e3]
      by_cases hi2 : i = m_mv M
      · subst hi2
        refine kq_congr (f := m_sh M) (fun q hq3 => ?_) (by rw [h2]; exact h4)
        unfold km_kc
        rw [if_pos (by omega), show 67 * m_mv M + q - 67 * m_mv M = q by omega]
      · refine kq_congr (f := fun q => m_kp M (67 * i + q)) (fun q hq3 => ?_) (h5 i (by omega))
        unfold km_kc
        rw [if_neg (by omega)]
    · rw [e3]
      unfold km_kc
      split
      · exact kq_sm h4.2.1.1.1 _ (by omega)
      · exact h6 q hq2
theorem kq_good {cd : Nat → Nat} {C : kc_C} {M M' : km_M} {S' : ks_S} {o : mm_O} {b : Int32} (h : kq_R C M) (hc : kc_mayCh C = true) (oS : ks_ok S') (hq : kq S' (m_sh M')) (ho : o = .inl (some (.int b))) (e0 : m_th M' = 0) (e1 : m_st M' = m_st M) (e2 : m_mv M' = m_mv (km_keep M)) (e3 : m_kp M' = m_kp (km_keep M)) (e4 : m_rd M' = m_rd M) (e5 : ∀ i, i < m_rd M → m_tk M' i = m_tk M i) : kq_st cd (o, kc_new C S') b M' := by
  refine ⟨by rw [ho]; exact e0.symm, fun y w => ?_, kq_R_new h hc oS hq e1 e2 e3 e4 e5⟩
  rw [ho] at w
  cases w
  rfl
