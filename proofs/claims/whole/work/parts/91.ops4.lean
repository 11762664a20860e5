/-! Mathematics: erase. -/
theorem kt_it_keep {P P' : Nat → Option Nat} {B : Nat → Prop} (h1 : ∀ z, z < 13 → ¬ B z → P' z = P z) (h2 : ∀ z y, z < 13 → P z = some y → B y → B z) (h3 : ∀ x y, x < 13 → P x = some y → y < 13) : ∀ (n x y : Nat), x < 13 → ¬ B x → kt_it P n x = some y → kt_it P' n x = some y := by
  intro n
  induction n with
  | zero => exact fun _ _ _ _ h => h
  | succ n ih =>
    intro x y hx hb h
    cases hp : P x with
    | none => rw [kt_it_n hp] at h; cases h
    | some z =>
      rw [kt_it_s hp] at h
      rw [kt_it_s ((h1 x hx hb).trans hp)]
      exact ih z y (h3 x z hx hp) (fun w => hb (h2 x z hx hp w)) h
theorem ks_ok_subf {f f' : Nat → Option Nat} (o : ks_ok (kz f)) (h : ∀ q, q < 67 → f' q = none ∨ f' q = f q) : ks_ok (kz f') := by
  have hh : ∀ q n, q < 67 → f' q = some n → f q = some n := fun q n hq e => by
    rcases h q hq with w | w
    · rw [w] at e; cases e
    · rw [← w]; exact e
  refine ⟨fun k i n hi e => ?_, fun i hi => ?_, fun i n hi e => ?_, ?_⟩
  · match k, hi, e with
    | 0, hi, e =>
      have hi : i < 12 := hi
      have e : (kz f').1 i = some n := e
      rw [kz_s f' hi] at e
      exact o.1 0 i n hi ((kz_s f hi).trans (hh _ n (by omega) e))
    | 1, hi, e =>
      have hi : i < 13 := hi
      have e : (kz f').2.1 i = some n := e
      rw [kz_c f' hi] at e
      exact o.1 1 i n hi ((kz_c f hi).trans (hh _ n (by omega) e))
    | k + 2, hi, e =>
      have hi : i < 6 := hi
      have e : (kz f').2.2.1 i = some n := e
      rw [kz_l f' hi] at e
      exact o.1 2 i n hi ((kz_l f hi).trans (hh _ n (by omega) e))
  · have e1 : (kz f').2.2.2.1 i = (f' (31 + i)).getD 0 := if_pos hi
    have e2 : (kz f).2.2.2.1 i = (f (31 + i)).getD 0 := if_pos hi
    have := o.2.1 i hi
    rw [e1]
    rcases h (31 + i) (by omega) with w | w
    · rw [w]; show 0 < 4; decide
    · rw [w, ← e2]; exact this
  · rw [kz_h f' hi] at e
    exact o.2.2.1 i n hi ((kz_h f hi).trans (hh _ n (by omega) e))
  · have e0 := o.2.2.2
    rw [kz_c f (by decide)] at e0
    rw [kz_c f' (by decide)]
    rcases h 0 (by decide) with w | w
    · exact w
    · rw [w]; exact e0
theorem ks_putI_none {S : ks_S} {c : Nat} (hc : c < 13) : ks_putI S (nI 1) (nI c) none = (S.1, ks_u S.2.1 c none, S.2.2) := by
  unfold ks_putI
  rw [ks_hasI_n (by decide) (by omega)]
  cases h : ks_has S 1 c with
  | true =>
    rw [if_pos rfl, show (nI 1).toNatClampNeg = 1 from nI_clamp (by decide), nI_clamp (by omega)]
    rfl
  | false =>
    rw [if_neg (by decide)]
    have hn : S.2.1 c = none := by
      cases hp : S.2.1 c with
      | none => rfl
      | some y => rw [(ks_has_iff (S := S) (k := 1) (n := c)).mpr ⟨by decide, hc, y, hp⟩] at h; cases h
    have : ks_u S.2.1 c none = S.2.1 := by
      funext q
      by_cases e : q = c
      · rw [e, ks_u_at, hn]
      · rw [ks_u_ne _ _ e]
    rw [this]
theorem kq_in_step {T : ks_S} (o : kt_ok T) {k y c : Nat} (hk : k < 13) (hp : T.2.1 k = some y) (hc : ¬ k = c) : ks_in T (some k) (some c) = ks_in T (some y) (some c) := by
  have ik : kt_is T k := o.2.2 k hk (Or.inr (by rw [hp]; exact fun w => nomatch w))
  have iy : kt_is T y := o.2.1 1 k y (by decide) hk hp
  rw [Bool.eq_iff_iff, kt_in_it o.1 ik, kt_in_it o.1 iy]
  constructor
  · rintro ⟨n, h⟩
    cases n with
    | zero => exact absurd (Option.some.inj h) hc
    | succ n => rw [kt_it_s hp] at h; exact ⟨n, h⟩
  · rintro ⟨n, h⟩
    exact ⟨n + 1, by rw [kt_it_s hp]; exact h⟩
theorem kq_rm_cut {S : ks_S} {M : km_M} {c x : Nat} (h : kq S (m_sh M)) (hc : c < 13) (hx : (km_S M).2.1 c = some x) : kq (ks_remove S (nI 1) (nI c) (some c)) (m_sh (km_rcA M c)) := by
  obtain ⟨⟨e, e2⟩, ⟨o, hk⟩, h3⟩ := h
  obtain ⟨-, qs, ql, qc⟩ := km_rcA_q (M := M) c
  obtain ⟨f', ef'⟩ : ∃ f', f' = m_sh (km_rcA M c) := ⟨_, rfl⟩
  rw [← ef'] at qs ql qc
  rw [← ef']
  have t := kt_ok_tr o
  have c0 : ¬ c = 0 := fun w => by
    have h0 : (km_S M).2.1 0 = none := t.1
    rw [w, h0] at hx; cases hx
  have em : ks_mask S (some c) = ks_mask (kz (m_sh M)) (some c) := by rw [kq_mask e]
  have eS : ks_remove S (nI 1) (nI c) (some c) = (ks_mv (kz (m_sh M)).1 (ks_mask (kz (m_sh M)) (some c)) none 12, ks_u (ks_mv (kz (m_sh M)).2.1 (ks_mask (kz (m_sh M)) (some c)) none 13) c none, ks_mv (kz (m_sh M)).2.2.1 (ks_mask (kz (m_sh M)) (some c)) none 6, S.2.2.2) := by
    unfold ks_remove
    rw [if_pos rfl, ks_putI_none hc, em]
    have : ks_moves S (ks_mask (kz (m_sh M)) (some c)) none 3 = (ks_mv S.1 (ks_mask (kz (m_sh M)) (some c)) none 12, ks_mv S.2.1 (ks_mask (kz (m_sh M)) (some c)) none 13, ks_mv S.2.2.1 (ks_mask (kz (m_sh M)) (some c)) none 6, S.2.2.2) := rfl
    rw [this, e.1, e.2.1, e.2.2]
  rw [eS]
  have amr : ∀ k i, k < 3 → i < ks_len k → ks_am (ks_mask (kz (m_sh M)) (some c)) (ks_row (kz (m_sh M)) k i) = kq_w (km_S M) c (ks_row (kz (m_sh M)) k i) := fun k i hk2 hi => kq_am o (fun a ha => o.2.1 k i a hk2 hi ha) c
  -- the areas that go
  have B0 : ¬ kq_w (km_S M) c (some 0) = true := fun w => by
    rw [show kq_w (km_S M) c (some 0) = ks_in (kz (m_sh M)) (some 0) (some c) from rfl, kt_in_it o.1 (o.2.2 0 (by decide) (Or.inl rfl))] at w
    obtain ⟨n, hn⟩ := w
    cases n with
    | zero => exact c0 (Option.some.inj hn).symm
    | succ n => rw [kt_it_n t.1] at hn; cases hn
  have Bc : kq_w (km_S M) c (some c) = true := by
    rw [show kq_w (km_S M) c (some c) = ks_in (kz (m_sh M)) (some c) (some c) from rfl, kt_in_it o.1 (o.2.2 c hc (Or.inr (by rw [show (kz (m_sh M)).2.1 c = some x from hx]; exact fun w => nomatch w)))]
    exact ⟨0, rfl⟩
  have Bup : ∀ z y, z < 13 → (kz (m_sh M)).2.1 z = some y → kq_w (km_S M) c (some y) = true → kq_w (km_S M) c (some z) = true := fun z y hz hp w => by
    by_cases ez : z = c
    · rw [ez]; exact Bc
    · exact (kq_in_step o hz hp ez).trans w
  have Pz : ∀ z, z < 13 → ¬ kq_w (km_S M) c (some z) = true → (kz f').2.1 z = (kz (m_sh M)).2.1 z := fun z hz w => by
    rw [kz_c f' hz, kz_c _ hz, qc z hz, if_neg (fun u => w u.2.2)]
  have way : ∀ (n a b : Nat), a < 13 → ¬ kq_w (km_S M) c (some a) = true → kt_it (kz (m_sh M)).2.1 n a = some b → kt_it (kz f').2.1 n a = some b := kt_it_keep Pz Bup t.2.1
  have Pn : ∀ z y, z < 13 → (kz f').2.1 z = some y → ¬ kq_w (km_S M) c (some z) = true ∧ (kz (m_sh M)).2.1 z = some y := fun z y hz w => by
    rw [kz_c f' hz, qc z hz] at w
    by_cases u : ks_has (km_S M) 1 z = true ∧ 1 ≤ z ∧ kq_w (km_S M) c (some z) = true
    · rw [if_pos u] at w; cases w
    · rw [if_neg u] at w
      have w2 : (kz (m_sh M)).2.1 z = some y := (kz_c _ hz).trans w
      have z0 : ¬ z = 0 := fun q => by rw [q, t.1] at w2; cases w2
      exact ⟨fun v => u ⟨(ks_has_iff (S := km_S M) (k := 1) (n := z)).mpr ⟨by decide, hz, y, w2⟩, by omega, v⟩, w2⟩
  have tr' : kt_tr (kz f').2.1 := by
    refine ⟨?_, fun a b ha hb => t.2.1 a b ha (Pn a b ha hb).2, fun a ha hn => ?_⟩
    · rw [Pz 0 (by decide) B0]; exact t.1
    · cases hb : (kz f').2.1 a with
      | none => exact absurd hb hn
      | some y =>
        obtain ⟨g1, g2⟩ := Pn a y ha hb
        obtain ⟨m, hm⟩ := t.2.2 a ha (by rw [g2]; exact fun w => nomatch w)
        exact ⟨m, way m a 0 ha g1 hm⟩
  have ar' : ∀ a, kt_ar (kz (m_sh M)).2.1 a → ¬ kq_w (km_S M) c (some a) = true → kt_ar (kz f').2.1 a := fun a ha w => ⟨ha.1, ha.2.elim Or.inl (fun u => Or.inr (by rw [Pz a ha.1 w]; exact u))⟩
  have spK : ∀ s a, s < 12 → (kz f').1 s = some a → kq_w (km_S M) c ((km_S M).1 s) = false ∧ (kz (m_sh M)).1 s = some a := fun s a hs w => by
    rw [kz_s f' hs] at w
    obtain ⟨g3, g4⟩ := qs s hs
    cases u : kq_w (km_S M) c ((km_S M).1 s) with
    | true => rw [(g3 u).1] at w; cases w
    | false => rw [(g4 u).1] at w; exact ⟨rfl, (kz_s _ hs).trans w⟩
  have lnK : ∀ n a, n < 6 → (kz f').2.2.1 n = some a → kq_w (km_S M) c (some a) = false ∧ (kz (m_sh M)).2.2.1 n = some a := fun n a hn w => by
    rw [kz_l f' hn, ql n hn] at w
    cases u : kq_w (km_S M) c ((km_S M).2.2.1 n) with
    | true => rw [u, if_pos rfl] at w; cases w
    | false =>
      rw [u, if_neg (by decide)] at w
      have w2 : (km_S M).2.2.1 n = some a := (kz_l _ hn).trans w
      rw [w2] at u
      exact ⟨u, w2⟩
  have sgK : ∀ s, s < 12 → kq_w (km_S M) c ((km_S M).1 s) = false → (kz f').2.2.2.1 s = (kz (m_sh M)).2.2.2.1 s ∧ ∀ k, k < 2 → (kz f').2.2.2.2 (2 * s + k) = (kz (m_sh M)).2.2.2.2 (2 * s + k) := fun s hs u => by
    obtain ⟨-, g2, g3⟩ := (qs s hs).2 u
    refine ⟨?_, fun k hk2 => ?_⟩
    · have a1 : (kz f').2.2.2.1 s = (f' (31 + s)).getD 0 := if_pos hs
      have a2 : (kz (m_sh M)).2.2.2.1 s = (m_sh M (31 + s)).getD 0 := if_pos hs
      rw [a1, a2, g2]
    · rw [kz_h f' (by omega), kz_h _ (by omega), g3 k hk2]
  refine ⟨⟨⟨?_, ?_, ?_⟩, fun s hs w => ?_⟩, ⟨kt_ok_mk (ks_ok_subf o.1 (fun q hq => ?_)) tr' (fun s a hs w => ?_) (fun n a hn w => ?_), ⟨fun s a hs w k hk2 => ?_, fun s k hs hk2 w => ?_⟩⟩, fun s hs w => ?_⟩
  · funext s
    show (if s < 12 ∧ ks_am _ ((kz (m_sh M)).1 s) = true then none else (kz (m_sh M)).1 s) = _
    by_cases hs : s < 12
    · have ea := amr 0 s (by decide) hs
      have ea : ks_am (ks_mask (kz (m_sh M)) (some c)) ((kz (m_sh M)).1 s) = kq_w (km_S M) c ((km_S M).1 s) := ea
      rw [ea, kz_s f' hs]
      cases u : kq_w (km_S M) c ((km_S M).1 s) with
      | true => rw [if_pos ⟨hs, rfl⟩, ((qs s hs).1 u).1]
      | false => rw [if_neg (fun z => by cases z.2), kz_s _ hs, ((qs s hs).2 u).1]
    · rw [if_neg (fun z => hs z.1)]
      show (if s < 12 then _ else none) = (if s < 12 then _ else none)
      rw [if_neg hs, if_neg hs]
  · funext k
    by_cases ek : k = c
    · rw [ek]
      show ks_u (ks_mv _ _ _ _) c none c = _
      rw [ks_u_at, kz_c f' hc, qc c hc, if_pos ⟨(ks_has_iff (S := km_S M) (k := 1) (n := c)).mpr ⟨by decide, hc, x, hx⟩, by omega, Bc⟩]
    · show ks_u (ks_mv _ _ _ _) c none k = _
      rw [ks_u_ne _ _ ek]
      show (if k < 13 ∧ ks_am _ ((kz (m_sh M)).2.1 k) = true then none else (kz (m_sh M)).2.1 k) = _
      by_cases h13 : k < 13
      · have ea := amr 1 k (by decide) h13
        have ea : ks_am (ks_mask (kz (m_sh M)) (some c)) ((kz (m_sh M)).2.1 k) = kq_w (km_S M) c ((kz (m_sh M)).2.1 k) := ea
        rw [ea, kz_c f' h13, qc k h13]
        cases hp : (kz (m_sh M)).2.1 k with
        | none =>
          have hf : ks_has (km_S M) 1 k = false := by
            cases u : ks_has (km_S M) 1 k with
            | false => rfl
            | true =>
              obtain ⟨-, -, y, hy⟩ := ks_has_iff.mp u
              have hy : (kz (m_sh M)).2.1 k = some y := hy
              rw [hp] at hy; cases hy
          rw [if_neg (fun z => by cases z.2), if_neg (fun z => by rw [hf] at z; cases z.1), ← kz_c (m_sh M) h13, hp]
        | some y =>
          have hk0 : ¬ k = 0 := fun q => by rw [q, t.1] at hp; cases hp
          have hh : ks_has (km_S M) 1 k = true := (ks_has_iff (S := km_S M) (k := 1) (n := k)).mpr ⟨by decide, h13, y, hp⟩
          have es : kq_w (km_S M) c (some k) = kq_w (km_S M) c (some y) := kq_in_step o h13 hp ek
          rw [es]
          cases u : kq_w (km_S M) c (some y) with
          | true => rw [if_pos ⟨h13, rfl⟩, if_pos ⟨hh, by omega, rfl⟩]
          | false => rw [if_neg (fun z => by cases z.2), if_neg (fun z => by cases z.2.2), ← kz_c (m_sh M) h13, hp]
      · rw [if_neg (fun z => h13 z.1)]
        show (if k < 13 then _ else none) = (if k < 13 then _ else none)
        rw [if_neg h13, if_neg h13]
  · funext n
    show (if n < 6 ∧ ks_am _ ((kz (m_sh M)).2.2.1 n) = true then none else (kz (m_sh M)).2.2.1 n) = _
    by_cases hn : n < 6
    · have ea := amr 2 n (by decide) hn
      have ea : ks_am (ks_mask (kz (m_sh M)) (some c)) ((kz (m_sh M)).2.2.1 n) = kq_w (km_S M) c ((km_S M).2.2.1 n) := ea
      rw [ea, kz_l f' hn, ql n hn]
      cases u : kq_w (km_S M) c ((km_S M).2.2.1 n) with
      | true => rw [if_pos ⟨hn, rfl⟩, if_pos rfl]
      | false => rw [if_neg (fun z => by cases z.2), if_neg (by decide), kz_l _ hn]
    · rw [if_neg (fun z => hn z.1)]
      show (if n < 6 then _ else none) = (if n < 6 then _ else none)
      rw [if_neg hn, if_neg hn]
  · cases w2 : (kz f').1 s with
    | none => exact absurd w2 w
    | some a =>
      obtain ⟨u, v⟩ := spK s a hs w2
      obtain ⟨g1, g2⟩ := e2 s hs (by rw [v]; exact fun w => nomatch w)
      obtain ⟨g3, g4⟩ := sgK s hs u
      exact ⟨g1.trans g3.symm, fun k hk2 => (g2 k hk2).trans (g4 k hk2).symm⟩
  · rcases Nat.lt_or_ge q 13 with h | h
    · rw [qc q h]
      split
      · exact Or.inl rfl
      · exact Or.inr rfl
    · rcases Nat.lt_or_ge q 19 with h2 | h2
      · have := ql (q - 13) (by omega)
        rw [show 13 + (q - 13) = q by omega] at this
        rw [this]
        split
        · exact Or.inl rfl
        · exact Or.inr rfl
      · rcases Nat.lt_or_ge q 31 with h4 | h4
        · obtain ⟨g3, g4⟩ := qs (q - 19) (by omega)
          rw [show 19 + (q - 19) = q by omega] at g3 g4
          cases u : kq_w (km_S M) c ((km_S M).1 (q - 19)) with
          | true => exact Or.inl (g3 u).1
          | false => exact Or.inr (g4 u).1
        · rcases Nat.lt_or_ge q 43 with h5 | h5
          · obtain ⟨g3, g4⟩ := qs (q - 31) (by omega)
            rw [show 31 + (q - 31) = q by omega] at g3 g4
            cases u : kq_w (km_S M) c ((km_S M).1 (q - 31)) with
            | true => exact Or.inl (g3 u).2.1
            | false => exact Or.inr (g4 u).2.1
          · obtain ⟨g3, g4⟩ := qs ((q - 43) / 2) (by omega)
            have eq : 43 + (2 * ((q - 43) / 2) + (q - 43) % 2) = q := by omega
            cases u : kq_w (km_S M) c ((km_S M).1 ((q - 43) / 2)) with
            | true =>
              have := (g3 u).2.2 ((q - 43) % 2) (by omega)
              rw [eq] at this; exact Or.inl this
            | false =>
              have := (g4 u).2.2 ((q - 43) % 2) (by omega)
              rw [eq] at this; exact Or.inr this
  · obtain ⟨u, v⟩ := spK s a hs w
    refine ar' a (kt_ok_ar o (k := 0) (by decide) hs v) (fun z => ?_)
    have v : (km_S M).1 s = some a := v
    rw [v, z] at u; cases u
  · obtain ⟨u, v⟩ := lnK n a hn w
    exact ar' a (kt_ok_ar o (k := 2) (by decide) hn v) (fun z => by rw [z] at u; cases u)
  · obtain ⟨u, v⟩ := spK s a hs w
    obtain ⟨g3, g4⟩ := sgK s hs u
    rw [g3, g4 k hk2]
    obtain ⟨r1, r2⟩ := hk.1 s a hs v k hk2
    refine ⟨fun hp => ?_, r2⟩
    obtain ⟨n, b, n6, h7, h8, j, h9⟩ := r1 hp
    have a13 := (kt_ok_ar o (k := 0) (by decide) hs v).1
    have v' : (km_S M).1 s = some a := v
    rw [v'] at u
    have nb : kq_w (km_S M) c (some b) = false := by
      cases z : kq_w (km_S M) c (some b) with
      | false => rfl
      | true =>
        have ib : kt_is (kz (m_sh M)) b := o.2.1 2 n b (by decide) n6 h8
        have ia : kt_is (kz (m_sh M)) a := o.2.1 0 s a (by decide) hs v
        obtain ⟨m, hm⟩ := (kt_in_it o.1 ib).mp z
        have : kq_w (km_S M) c (some a) = true := (kt_in_it o.1 ia).mpr ⟨j + m, kt_it_cat h9 hm⟩
        rw [this] at u; cases u
    refine ⟨n, b, n6, h7, ?_, j, way j a b a13 (fun z => by rw [z] at u; cases u) h9⟩
    rw [kz_l f' n6, ql n n6]
    have h8' : (km_S M).2.2.1 n = some b := h8
    rw [h8', nb, if_neg (by decide), ← kz_l (m_sh M) n6]
    exact h8
  · cases u : kq_w (km_S M) c ((km_S M).1 s) with
    | true => rw [kz_h f' (by omega)]; exact ((qs s hs).1 u).2.2 k hk2
    | false =>
      rw [(sgK s hs u).2 k hk2]
      refine hk.2 s k hs hk2 ?_
      rw [kz_s f' hs, ((qs s hs).2 u).1] at w
      rw [kz_s _ hs]; exact w
  · cases u : kq_w (km_S M) c ((km_S M).1 s) with
    | true => rw [((qs s hs).1 u).1] at w; exact absurd rfl w
    | false =>
      obtain ⟨g1, g2, -⟩ := (qs s hs).2 u
      rw [g1] at w
      rw [g2]
      exact h3 s hs w
theorem kc_may_st {C : kc_C} {M : km_M} (h : kq_R C M) (hd : C.2.2.2.2.1 = false) : kc_mayCh C = decide (km_late M = 0) := by
  unfold kc_mayCh km_late
  have := h.1.1.2.1
  rw [hd, h.2.1.1, Bool.false_or]
  by_cases c : C.2.2.2.2.2 < 20
  · rw [decide_eq_true c, if_neg (by omega)]; rfl
  · rw [decide_eq_false c, if_pos (by omega)]; rfl
theorem km_late_03 (M : km_M) (h : ¬ km_late M = 0) : km_late M = 3 := by
  unfold km_late at h ⊢
  split
  · rfl
  · rename_i c; rw [if_neg c] at h; exact absurd rfl h
theorem kc_mv_st {C : kc_C} {M : km_M} (h : kq_R C M) (hc : kc_mayCh C = true) : m_mv (km_keep (s_th M 0)) = kc_mv C := by
  rw [(km_keep_th M 0).1]
  cases hd : C.2.2.2.2.1 with
  | true =>
    have st : m_st M = false := by rw [h.2.1.2, hd]; rfl
    unfold km_keep kc_mv
    rw [if_neg (by rw [st]; decide), if_pos hd, h.2.1.1]
  | false =>
    have st : m_st M = true := by rw [h.2.1.2, hd]; rfl
    unfold kc_mayCh at hc
    rw [hd, Bool.false_or] at hc
    unfold km_keep kc_mv
    rw [if_pos st, if_neg (by rw [hd]; decide), if_pos (of_decide_eq_true hc)]
    show m_mv M + 1 = _
    rw [h.2.1.1]
theorem kq_V_mv {A B : km_M} (h : km_V A = km_V B) : m_mv A = m_mv B := congrArg (fun z => z.2.2.1) h
/-- a part or a line that is there is taken away, by both -/
theorem kq_er {C : kc_C} {M : km_M} (h : kq_R C M) {k n x : Nat} (hk : k < 3) (hn : n < ks_len k) (hx : ks_row (km_S M) k n = some x) (hh : k = 2 → km_hkd M n = false) : kq (ks_remove (kc_S C) (nI k) (nI n) (some n)) (m_sh (km_erM (km_keep (s_th M 0)) k n)) ∧ ks_ok (ks_remove (kc_S C) (nI k) (nI n) (some n)) ∧ km_V (km_erM (km_keep (s_th M 0)) k n) = km_V (km_keep (s_th M 0)) := by
  have h4 := h.2.2.1.1
  have e := h4.1.1
  have o := h4.2.1.1
  have oS : ks_ok (kc_S C) := h.1.1.1 _ (by have := h.1.1.2.1; omega)
  have hl := ks_len_le k
  have hhas : ks_hasI (kc_S C) (nI k) (nI n) = true := by rw [kq_hasI e, ks_hasI_n (by omega) (by omega)]; exact ks_has_iff.mpr ⟨hk, hn, x, hx⟩
  have okR : ks_ok (ks_remove (kc_S C) (nI k) (nI n) (some n)) := by
    unfold ks_remove
    refine ks_ok_putI ?_ _ _ mm_lt_none
    split
    · exact ks_ok_moves oS mm_lt_none (by decide)
    · exact oS
  have kp := (km_keep_th M 0).2.2
  have h4' : kq (kc_S C) (m_sh (km_keep (s_th M 0))) := by rw [kp]; exact h4
  refine ⟨?_, okR, ?_⟩
  · match k, hk, hn, hx, hh, hhas with
    | 0, _, hn, hx, _, hhas =>
      have e1 : ks_remove (kc_S C) (nI 0) (nI n) (some n) = ks_put (kc_S C) 0 (ks_u (kc_S C).1 n none) := by
        unfold ks_remove ks_putI
        rw [if_neg (show ¬ nI 0 = nI 1 by decide), if_pos hhas, show (nI 0).toNatClampNeg = 0 from nI_clamp (by decide), nI_clamp (by omega)]
        rfl
      rw [e1, km_erM_0]
      exact kq_rm_spot h4' hn
    | 1, _, hn, hx, _, hhas =>
      rw [km_erM_1]
      refine kq_rm_cut (x := x) h4' hn ?_
      show (kz (m_sh (km_keep (s_th M 0)))).2.1 n = some x
      rw [kp]; exact hx
    | 2, _, hn, hx, hh, hhas =>
      have e1 : ks_remove (kc_S C) (nI 2) (nI n) (some n) = ks_put (kc_S C) 2 (ks_u (kc_S C).2.2.1 n none) := by
        unfold ks_remove ks_putI
        rw [if_neg (show ¬ nI 2 = nI 1 by decide), if_pos hhas, show (nI 2).toNatClampNeg = 2 from nI_clamp (by decide), nI_clamp (by omega)]
        rfl
      rw [e1, km_erM_2]
      show kq _ (ks_u (m_sh (km_keep (s_th M 0))) (13 + n) none)
      rw [kp]
      exact kq_rm_line h4 hn (hh rfl)
    | q + 3, hk, _, _, _, _ => exact absurd hk (by omega)
  · unfold km_erM
    split
    · rfl
    · split
      · exact (km_rcA_q n).1
      · rfl
theorem kq_erase {C : kc_C} {M : km_M} (h : kq_R C M) (k n : Int32) : kq_st (fun k => k + 1) (kc_erase C k n) (nI (km_erase M k n).1) (km_erase M k n).2 := by
  have h4 := h.2.2.1.1
  have e := h4.1.1
  have o := h4.2.1.1
  unfold kc_erase km_erase
  rw [kq_hasI e]
  by_cases c1 : ks_hasI (km_S M) k n = true
  · rw [if_pos (show ks_hasI (kz (m_sh M)) k n = true from c1), if_pos c1]
    obtain ⟨k', n', x, rfl, rfl, hk, hn, hx⟩ := ks_hasI_true c1
    have hl := ks_len_le k'
    have ck : (nI k').toNatClampNeg = k' := nI_clamp (by omega)
    have cn : (nI n').toNatClampNeg = n' := nI_clamp (by omega)
    have x13 : x < 13 := (o.2.1 k' n' x hk hn hx).1
    have ea : ks_areaI (kc_S C) (nI k') (nI n') = some x := by rw [kq_areaI e]; exact ks_areaI_t hk hn hx
    have eo : ks_odd (kc_S C) (mm_enc (some x)) = decide (km_dp (km_S M) x % 2 = 1) := by
      unfold ks_odd
      rw [kq_depth e]
      exact ks_odd_dp o.1 x13
    have eh : ks_hooked (kc_S C) n' = km_hkd M n' := kq_hooked h4 n'
    have er : (ks_row (km_S M) k' n').getD 0 = x := by rw [hx]; rfl
    rw [ea, eo, ck, cn, eh]
    unfold km_eraseN
    have eT : km_erT M k' n' = if m_st M = false ∨ km_dp (km_S M) x % 2 = 1 ∨ (k' = 2 ∧ km_hkd M n' = true) then 2 else km_late M := by unfold km_erT; rw [er]
    have e2 : decide (¬ nI k' = nI 2) = decide (¬ k' = 2) := by
      by_cases c : k' = 2
      · rw [c]; rfl
      · rw [decide_eq_true c, decide_eq_true (show ¬ nI k' = nI 2 from fun w => c ((nI_eq (by omega) (by decide)).mp w))]
    rw [e2]
    have bad2 : km_erT M k' n' = 2 → kq_st (fun k => k + 1) (.inr 1, C) (nI (if km_erT M k' n' = 0 then (m_mv (km_erM (km_keep (s_th M 0)) k' n'), km_erM (km_keep (s_th M 0)) k' n') else (0, s_th M (km_erT M k' n'))).1) (if km_erT M k' n' = 0 then (m_mv (km_erM (km_keep (s_th M 0)) k' n'), km_erM (km_keep (s_th M 0)) k' n') else (0, s_th M (km_erT M k' n'))).2 := fun w => by
      rw [w, if_neg (by decide)]
      exact kq_bad h rfl
    by_cases c2 : (!C.2.2.2.2.1 && !decide (km_dp (km_S M) x % 2 = 1)) = true
    · rw [if_pos c2]
      obtain ⟨c3, c4⟩ := Bool.and_eq_true_iff.mp c2
      have hd : C.2.2.2.2.1 = false := by cases hd : C.2.2.2.2.1 with
        | false => rfl
        | true => rw [hd] at c3; cases c3
      have st : m_st M = true := by rw [h.2.1.2, hd]; rfl
      have c4 : ¬ km_dp (km_S M) x % 2 = 1 := fun w => by rw [decide_eq_true w] at c4; cases c4
      by_cases c5 : (decide (¬ k' = 2) || !km_hkd M n') = true
      · rw [if_pos c5]
        have c6 : ¬ (k' = 2 ∧ km_hkd M n' = true) := fun w => by rw [w.1, w.2] at c5; cases c5
        have eT2 : km_erT M k' n' = km_late M := by
          rw [eT, if_neg (fun w => w.elim (fun w => by rw [st] at w; cases w) (fun w => w.elim c4 c6))]
        rw [eT2, kc_may_st h hd]
        by_cases c7 : km_late M = 0
        · rw [if_pos c7, decide_eq_true c7, if_pos rfl]
          have hm : kc_mayCh C = true := by rw [kc_may_st h hd]; exact decide_eq_true c7
          obtain ⟨g1, g2, g3⟩ := kq_er h hk hn hx (fun w => by
            cases z : km_hkd M n' with
            | false => rfl
            | true => exact absurd ⟨w, z⟩ c6)
          refine kq_good2 h hm ?_ ?_ ?_ g3
          · show ks_ok (ks_remove (kc_S C) (nI k') (nI n') (kc_n (nI n')))
            unfold kc_n; rw [cn]; exact g2
          · show kq (ks_remove (kc_S C) (nI k') (nI n') (kc_n (nI n'))) _
            unfold kc_n; rw [cn]; exact g1
          · show kc_nat (kc_mv C) = _
            rw [show (m_mv (km_erM (km_keep (s_th M 0)) k' n'), km_erM (km_keep (s_th M 0)) k' n').1 = m_mv (km_erM (km_keep (s_th M 0)) k' n') from rfl, kq_V_mv g3, kc_mv_st h hm]
            rfl
        · rw [if_neg c7, decide_eq_false c7, if_neg (by decide), km_late_03 M c7]
          exact kq_bad h rfl
      · rw [if_neg c5]
        refine bad2 (eT.trans (if_pos (Or.inr (Or.inr ?_))))
        cases z : km_hkd M n' with
        | false => rw [z] at c5; exact absurd (by simp) c5
        | true =>
          refine ⟨?_, rfl⟩
          by_cases q : k' = 2
          · exact q
          · rw [decide_eq_true q] at c5; exact absurd rfl c5
    · rw [if_neg c2]
      refine bad2 (eT.trans (if_pos ?_))
      cases hd : C.2.2.2.2.1 with
      | true => exact Or.inl (by rw [h.2.1.2, hd]; rfl)
      | false =>
        refine Or.inr (Or.inl ?_)
        by_cases q : km_dp (km_S M) x % 2 = 1
        · exact q
        · rw [hd, decide_eq_false q] at c2; exact absurd rfl c2
  · rw [if_neg (show ¬ ks_hasI (kz (m_sh M)) k n = true from c1), if_neg c1]
    exact kq_bad h rfl
