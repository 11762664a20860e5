/-! Mathematics: what is erased. -/
theorem ks_harI_ar {S : ks_S} {a : Nat} (h : kt_ar S.2.1 a) : ks_harI S (nI a) = true := by
  unfold ks_harI
  rcases h.2 with w | w
  · rw [w]; rfl
  · rw [Bool.or_eq_true_iff]
    refine Or.inr ?_
    have := h.1
    rw [ks_hasI_n (by decide) (by omega)]
    cases hp : S.2.1 a with
    | none => exact absurd hp w
    | some y => exact (ks_has_iff (S := S) (k := 1) (n := a)).mpr ⟨by decide, h.1, y, hp⟩
theorem kq_am {T : ks_S} (o : kt_ok T) {x : Option Nat} (hx : ∀ a, x = some a → kt_is T a) (c : Nat) : ks_am (ks_mask T (some c)) x = ks_in T x (some c) := by
  cases x with
  | none => rfl
  | some a =>
    have ha := hx a rfl
    show (ks_mask T (some c)).testBit a = _
    unfold ks_mask
    rw [kb_mask_bit, decide_eq_true ha.1, Bool.true_and]
    show (ks_harI T (nI a) && ks_in T (some a) (some c)) = _
    rw [ks_harI_ar (kt_is_ar ha), Bool.true_and]
/-- the same hooks are seen -/
theorem kq_hooked {S : ks_S} {f : Nat → Option Nat} (h : kq S f) (n : Nat) : ks_hooked S n = ks_any (fun q => decide (f q = some n)) 43 24 := by
  obtain ⟨⟨e, e2⟩, ⟨o, hk⟩, h3⟩ := h
  have sp : ∀ s k, s < 12 → k < 2 → f (43 + (2 * s + k)) = some n → ¬ (kz f).1 s = none := fun s k hs hk2 w w2 => by
    have := hk.2 s k hs hk2 w2
    rw [kz_h f (by omega), w] at this; cases this
  rw [Bool.eq_iff_iff]
  unfold ks_hooked
  rw [ks_any_iff, ks_any_iff]
  constructor
  · rintro ⟨s, -, h12, hs⟩
    unfold ks_hookAt at hs
    obtain ⟨a1, a2⟩ := Bool.and_eq_true_iff.mp hs
    have a1 : ¬ (kz f).1 s = none := by rw [← e.1]; exact of_decide_eq_true a1
    obtain ⟨-, g2⟩ := e2 s (by omega) a1
    rcases Bool.or_eq_true_iff.mp a2 with w | w
    · have w := of_decide_eq_true w
      have g := g2 0 (by decide)
      rw [Nat.add_zero, w, kz_h f (by omega)] at g
      exact ⟨43 + 2 * s, by omega, by omega, decide_eq_true g.symm⟩
    · have w := of_decide_eq_true w
      have g := g2 1 (by decide)
      rw [w, kz_h f (by omega)] at g
      exact ⟨43 + (2 * s + 1), by omega, by omega, decide_eq_true g.symm⟩
  · rintro ⟨q, h43, h67, hq⟩
    have hq := of_decide_eq_true hq
    have hs : (q - 43) / 2 < 12 := by omega
    refine ⟨(q - 43) / 2, by omega, by omega, ?_⟩
    have hk2 : (q - 43) % 2 < 2 := by omega
    have eq : q = 43 + (2 * ((q - 43) / 2) + (q - 43) % 2) := by omega
    have pr := sp ((q - 43) / 2) ((q - 43) % 2) hs hk2 (by rw [← eq]; exact hq)
    obtain ⟨-, g2⟩ := e2 _ hs pr
    have g := g2 ((q - 43) % 2) hk2
    rw [kz_h f (by omega), ← eq, hq] at g
    unfold ks_hookAt
    rw [e.1, decide_eq_true pr, Bool.true_and, Bool.or_eq_true_iff]
    rcases (show (q - 43) % 2 = 0 ∨ (q - 43) % 2 = 1 by omega) with w | w
    · rw [w, Nat.add_zero] at g; exact Or.inl (decide_eq_true g)
    · rw [w] at g; exact Or.inr (decide_eq_true g)
theorem kq_rm_spot {S : ks_S} {M : km_M} {n : Nat} (h : kq S (m_sh M)) (hn : n < 12) : kq (ks_put S 0 (ks_u S.1 n none)) (m_sh (km_rmS M n)) := by
  obtain ⟨⟨e, e2⟩, ⟨o, hk⟩, h3⟩ := h
  have eT : kz (m_sh (km_rmS M n)) = ks_spotAt (kz (m_sh M)) n none 0 none none := km_rmS_S M hn
  have hook : ∀ s k, k < 2 → ¬ s = n → (ks_spotAt (kz (m_sh M)) n none 0 none none).2.2.2.2 (2 * s + k) = (kz (m_sh M)).2.2.2.2 (2 * s + k) := fun s k hk2 w => by
    show ks_u (ks_u _ (2 * n) none) (2 * n + 1) none (2 * s + k) = _
    rw [ks_u_ne _ _ (by omega), ks_u_ne _ _ (by omega)]
  have sign : ∀ s, ¬ s = n → (ks_spotAt (kz (m_sh M)) n none 0 none none).2.2.2.1 s = (kz (m_sh M)).2.2.2.1 s := fun s w => if_neg w
  have pres : ∀ s, ¬ (ks_spotAt (kz (m_sh M)) n none 0 none none).1 s = none → ¬ s = n ∧ ¬ (kz (m_sh M)).1 s = none := fun s w => by
    have w : ¬ ks_u (kz (m_sh M)).1 n none s = none := w
    by_cases c : s = n
    · rw [c, ks_u_at] at w; exact absurd rfl w
    · rw [ks_u_ne _ _ c] at w; exact ⟨c, w⟩
  refine kq_mk eT ⟨⟨?_, e.2.1, e.2.2⟩, fun s hs w => ?_⟩ (kt_ok_spotAt o (fun a ha => nomatch ha) (by decide) mm_lt_none mm_lt_none) ⟨fun s a hs ha k hk2 => ?_, fun s k hs hk2 ha => ?_⟩ (fun s hs w => ?_)
  · show ks_u S.1 n none = ks_u (kz (m_sh M)).1 n none
    rw [e.1]
  · obtain ⟨c, w⟩ := pres s w
    obtain ⟨g1, g2⟩ := e2 s hs w
    exact ⟨by rw [sign s c]; exact g1, fun k hk2 => by rw [hook s k hk2 c]; exact g2 k hk2⟩
  · obtain ⟨c, -⟩ := pres s (by rw [ha]; exact fun w => nomatch w)
    rw [hook s k hk2 c, sign s c]
    have ha : ks_u (kz (m_sh M)).1 n none s = some a := ha
    rw [ks_u_ne _ _ c] at ha
    exact hk.1 s a hs ha k hk2
  · by_cases c : s = n
    · show ks_u (ks_u _ (2 * n) none) (2 * n + 1) none (2 * s + k) = none
      by_cases k0 : k = 0
      · rw [ks_u_ne _ _ (by omega), show 2 * s + k = 2 * n by omega, ks_u_at]
      · rw [show 2 * s + k = 2 * n + 1 by omega, ks_u_at]
    · rw [hook s k hk2 c]
      have ha : ks_u (kz (m_sh M)).1 n none s = none := ha
      rw [ks_u_ne _ _ c] at ha
      exact hk.2 s k hs hk2 ha
  · have e9 : ∀ q, ¬ q = 19 + n → ¬ q = 31 + n → q < 43 → m_sh (km_rmS M n) q = m_sh M q := fun q h1 h2 h3 => by
      show ks_u (ks_u (ks_u (ks_u (m_sh M) (19 + n) none) (31 + n) none) (43 + 2 * n) none) (43 + 2 * n + 1) none q = _
      rw [ks_u_ne _ _ (by omega), ks_u_ne _ _ (by omega), ks_u_ne _ _ (by omega), ks_u_ne _ _ (by omega)]
    by_cases c : s = n
    · exact absurd (by
        show ks_u (ks_u (ks_u (ks_u (m_sh M) (19 + n) none) (31 + n) none) (43 + 2 * n) none) (43 + 2 * n + 1) none (19 + s) = none
        rw [ks_u_ne _ _ (by omega), ks_u_ne _ _ (by omega), ks_u_ne _ _ (by omega), c, ks_u_at]) w
    · rw [e9 _ (by omega) (by omega) (by omega)] at w ⊢
      exact h3 s hs w
theorem kq_rm_line {S : ks_S} {f : Nat → Option Nat} {n : Nat} (h : kq S f) (hn : n < 6) (hh : ks_any (fun q => decide (f q = some n)) 43 24 = false) : kq (ks_put S 2 (ks_u S.2.2.1 n none)) (ks_u f (13 + n) none) := by
  obtain ⟨⟨e, e2⟩, ⟨o, hk⟩, h3⟩ := h
  have nh : ∀ i, i < 24 → ¬ f (43 + i) = some n := fun i hi w => by
    have : ks_any (fun q => decide (f q = some n)) 43 24 = true := ks_any_iff.mpr ⟨43 + i, by omega, by omega, decide_eq_true w⟩
    rw [hh] at this; cases this
  refine kq_mk (kz_ul f hn none) ⟨⟨e.1, e.2.1, ?_⟩, e2⟩ (kt_ok_line o (fun a ha => nomatch ha)) ⟨fun s a hs ha k hk2 => ⟨fun hp => ?_, (hk.1 s a hs ha k hk2).2⟩, hk.2⟩ (fun s hs w => ?_)
  · show ks_u S.2.2.1 n none = ks_u (kz f).2.2.1 n none
    rw [e.2.2]
  · obtain ⟨m, b, m6, h7, h8, h9⟩ := (hk.1 s a hs ha k hk2).1 hp
    refine ⟨m, b, m6, h7, ?_, h9⟩
    show ks_u (kz f).2.2.1 n none m = some b
    rw [ks_u_ne _ _ (fun w => ?_)]
    · exact h8
    · subst w
      rw [kz_h f (by omega)] at h7
      exact nh _ (by omega) h7
  · rw [ks_u_ne _ _ (by omega)] at w ⊢
    exact h3 s hs w
/-- the reference takes spots away that lie within a cut -/
theorem km_rcS_q {P A : Nat → Option Nat} (c : Nat) : ∀ (j i : Nat) (M : km_M), i + j = 12 → (km_S M).2.1 = P → (∀ s, i ≤ s → s < 12 → (km_S M).1 s = A s) → km_V (km_rcS c i j M) = km_V M ∧ m_nn (km_rcS c i j M) = m_nn M ∧ (∀ q, q < 19 → m_sh (km_rcS c i j M) q = m_sh M q) ∧ ∀ s, s < 12 → (i ≤ s → ks_meets (A, P, A, (fun _ => 0), A) (some c) 13 (A s) = true → m_sh (km_rcS c i j M) (19 + s) = none ∧ m_sh (km_rcS c i j M) (31 + s) = none ∧ ∀ k, k < 2 → m_sh (km_rcS c i j M) (43 + (2 * s + k)) = none) ∧ ((s < i ∨ ks_meets (A, P, A, (fun _ => 0), A) (some c) 13 (A s) = false) → m_sh (km_rcS c i j M) (19 + s) = m_sh M (19 + s) ∧ m_sh (km_rcS c i j M) (31 + s) = m_sh M (31 + s) ∧ ∀ k, k < 2 → m_sh (km_rcS c i j M) (43 + (2 * s + k)) = m_sh M (43 + (2 * s + k))) := by
  intro j
  induction j with
  | zero =>
    intro i M hi hP hA
    refine ⟨rfl, rfl, fun _ _ => rfl, fun s hs => ⟨fun w => absurd w (by omega), fun _ => ⟨rfl, rfl, fun _ _ => rfl⟩⟩⟩
  | succ j ih =>
    intro i M hi hP hA
    have e1 : ks_in (km_S M) ((km_S M).1 i) (some c) = ks_meets (A, P, A, (fun _ => 0), A) (some c) 13 (A i) := by
      rw [hA i (Nat.le_refl _) (by omega)]
      unfold ks_in
      have : ks_meets (km_S M) (some c) = ks_meets (A, P, A, (fun _ => 0), A) (some c) := by
        funext f
        induction f with
        | zero => rfl
        | succ f ih2 =>
          funext x
          cases x with
          | none => rfl
          | some a =>
            show (if some a = some c then true else ks_meets (km_S M) (some c) f ((km_S M).2.1 a)) = (if some a = some c then true else ks_meets (A, P, A, (fun _ => 0), A) (some c) f (P a))
            rw [ih2, hP]
      rw [this]
    have st : km_rcS c i (j + 1) M = km_rcS c (i + 1) j (if ks_in (km_S M) ((km_S M).1 i) (some c) = true then km_rmS M i else M) := rfl
    rw [st, e1]
    by_cases c1 : ks_meets (A, P, A, (fun _ => 0), A) (some c) 13 (A i) = true
    · rw [if_pos c1]
      have eT := km_rmS_S M (show i < 12 by omega)
      have rq : ∀ q, m_sh (km_rmS M i) q = if q = 43 + 2 * i + 1 then none else if q = 43 + 2 * i then none else if q = 31 + i then none else if q = 19 + i then none else m_sh M q := fun q => rfl
      obtain ⟨g0, g0n, g1, g2⟩ := ih (i + 1) (km_rmS M i) (by omega) (by rw [eT]; exact hP) (fun s h1 h2 => by
        rw [eT]
        show ks_u (km_S M).1 i none s = _
        rw [ks_u_ne _ _ (by omega)]
        exact hA s (by omega) h2)
      refine ⟨g0, g0n, fun q hq => ?_, fun s hs => ?_⟩
      · rw [g1 q hq, rq, if_neg (by omega), if_neg (by omega), if_neg (by omega), if_neg (by omega)]
      · obtain ⟨g3, g4⟩ := g2 s hs
        by_cases cs : s = i
        · subst cs
          obtain ⟨k1, k2, k3⟩ := g4 (Or.inl (by omega))
          refine ⟨fun _ _ => ⟨?_, ?_, fun k hk => ?_⟩, fun w => ?_⟩
          · rw [k1, rq, if_neg (by omega), if_neg (by omega), if_neg (by omega), if_pos rfl]
          · rw [k2, rq, if_neg (by omega), if_neg (by omega), if_pos rfl]
          · rw [k3 k hk, rq]
            by_cases c9 : k = 0
            · rw [if_neg (by omega), if_pos (by omega)]
            · rw [if_pos (by omega)]
          · rcases w with w | w
            · exact absurd w (by omega)
            · rw [c1] at w; cases w
        · have rs : m_sh (km_rmS M i) (19 + s) = m_sh M (19 + s) ∧ m_sh (km_rmS M i) (31 + s) = m_sh M (31 + s) ∧ ∀ k, k < 2 → m_sh (km_rmS M i) (43 + (2 * s + k)) = m_sh M (43 + (2 * s + k)) := by
            refine ⟨?_, ?_, fun k hk => ?_⟩
            · rw [rq, if_neg (by omega), if_neg (by omega), if_neg (by omega), if_neg (by omega)]
            · rw [rq, if_neg (by omega), if_neg (by omega), if_neg (by omega), if_neg (by omega)]
            · rw [rq, if_neg (by omega), if_neg (by omega), if_neg (by omega), if_neg (by omega)]
          refine ⟨fun w => g3 (by omega), fun w => ?_⟩
          obtain ⟨k1, k2, k3⟩ := g4 (w.elim (fun w => Or.inl (by omega)) Or.inr)
          exact ⟨k1.trans rs.1, k2.trans rs.2.1, fun k hk => (k3 k hk).trans (rs.2.2 k hk)⟩
    · rw [if_neg c1]
      obtain ⟨g0, g0n, g1, g2⟩ := ih (i + 1) M (by omega) hP (fun s h1 h2 => hA s (by omega) h2)
      refine ⟨g0, g0n, g1, fun s hs => ?_⟩
      obtain ⟨g3, g4⟩ := g2 s hs
      refine ⟨fun w w2 => g3 (by
        rcases Nat.lt_or_ge i s with w3 | w3
        · exact w3
        · have : s = i := by omega
          subst this
          exact absurd w2 c1) w2, fun w => ?_⟩
      by_cases cs : s = i
      · exact g4 (Or.inl (by omega))
      · exact g4 (w.elim (fun w => Or.inl (by omega)) Or.inr)
theorem km_rcL_q {P A : Nat → Option Nat} (c : Nat) : ∀ (j i : Nat) (M : km_M), i + j = 6 → (km_S M).2.1 = P → (∀ s, i ≤ s → s < 6 → (km_S M).2.2.1 s = A s) → km_V (km_rcL c i j M) = km_V M ∧ m_nn (km_rcL c i j M) = m_nn M ∧ (∀ q, (q < 13 ∨ 19 ≤ q) → m_sh (km_rcL c i j M) q = m_sh M q) ∧ ∀ s, s < 6 → (i ≤ s → ks_meets (A, P, A, (fun _ => 0), A) (some c) 13 (A s) = true → m_sh (km_rcL c i j M) (13 + s) = none) ∧ ((s < i ∨ ks_meets (A, P, A, (fun _ => 0), A) (some c) 13 (A s) = false) → m_sh (km_rcL c i j M) (13 + s) = m_sh M (13 + s)) := by
  intro j
  induction j with
  | zero =>
    intro i M hi hP hA
    exact ⟨rfl, rfl, fun _ _ => rfl, fun s hs => ⟨fun w => absurd w (by omega), fun _ => rfl⟩⟩
  | succ j ih =>
    intro i M hi hP hA
    have e1 : ks_in (km_S M) ((km_S M).2.2.1 i) (some c) = ks_meets (A, P, A, (fun _ => 0), A) (some c) 13 (A i) := by
      rw [hA i (Nat.le_refl _) (by omega)]
      unfold ks_in
      have : ks_meets (km_S M) (some c) = ks_meets (A, P, A, (fun _ => 0), A) (some c) := by
        funext f
        induction f with
        | zero => rfl
        | succ f ih2 =>
          funext x
          cases x with
          | none => rfl
          | some a =>
            show (if some a = some c then true else ks_meets (km_S M) (some c) f ((km_S M).2.1 a)) = (if some a = some c then true else ks_meets (A, P, A, (fun _ => 0), A) (some c) f (P a))
            rw [ih2, hP]
      rw [this]
    have st : km_rcL c i (j + 1) M = km_rcL c (i + 1) j (if ks_in (km_S M) ((km_S M).2.2.1 i) (some c) = true then km_st M (13 + i) none else M) := rfl
    rw [st, e1]
    by_cases c1 : ks_meets (A, P, A, (fun _ => 0), A) (some c) 13 (A i) = true
    · rw [if_pos c1]
      have eT : km_S (km_st M (13 + i) none) = ((km_S M).1, (km_S M).2.1, ks_u (km_S M).2.2.1 i none, (km_S M).2.2.2) := kz_ul (m_sh M) (show i < 6 by omega) none
      obtain ⟨g0, g0n, g1, g2⟩ := ih (i + 1) (km_st M (13 + i) none) (by omega) (by rw [eT]; exact hP) (fun s h1 h2 => by
        rw [eT]
        show ks_u (km_S M).2.2.1 i none s = _
        rw [ks_u_ne _ _ (by omega)]
        exact hA s (by omega) h2)
      refine ⟨g0, g0n, fun q hq => ?_, fun s hs => ?_⟩
      · rw [g1 q hq]
        exact ks_u_ne _ _ (by omega)
      · obtain ⟨g3, g4⟩ := g2 s hs
        by_cases cs : s = i
        · subst cs
          refine ⟨fun _ _ => (g4 (Or.inl (by omega))).trans (ks_u_at _ _ _), fun w => ?_⟩
          rcases w with w | w
          · exact absurd w (by omega)
          · rw [c1] at w; cases w
        · refine ⟨fun w => g3 (by omega), fun w => (g4 (w.elim (fun w => Or.inl (by omega)) Or.inr)).trans (ks_u_ne _ _ (by omega))⟩
    · rw [if_neg c1]
      obtain ⟨g0, g0n, g1, g2⟩ := ih (i + 1) M (by omega) hP (fun s h1 h2 => hA s (by omega) h2)
      refine ⟨g0, g0n, g1, fun s hs => ?_⟩
      obtain ⟨g3, g4⟩ := g2 s hs
      refine ⟨fun w w2 => g3 (by
        rcases Nat.lt_or_ge i s with w3 | w3
        · exact w3
        · have : s = i := by omega
          subst this
          exact absurd w2 c1) w2, fun w => ?_⟩
      by_cases cs : s = i
      · exact g4 (Or.inl (by omega))
      · exact g4 (w.elim (fun w => Or.inl (by omega)) Or.inr)
theorem km_rcN_q (c : Nat) : ∀ (j i : Nat) (M : km_M), km_V (km_rcN c i j M) = km_V M ∧ m_sh (km_rcN c i j M) = m_sh M ∧ ∀ q, m_nn (km_rcN c i j M) q = if i ≤ q ∧ q < i + j then km_rcNat M c q else m_nn M q := by
  intro j
  induction j with
  | zero => exact fun i M => ⟨rfl, rfl, fun q => (if_neg (by omega)).symm⟩
  | succ j ih =>
    intro i M
    obtain ⟨g0, g1, g2⟩ := ih (i + 1) (s_nn M (ks_un (m_nn M) i (km_rcNat M c i)))
    refine ⟨g0, g1, fun q => ?_⟩
    have st : km_rcN c i (j + 1) M = km_rcN c (i + 1) j (s_nn M (ks_un (m_nn M) i (km_rcNat M c i))) := rfl
    rw [st, g2 q]
    have e : km_rcNat (s_nn M (ks_un (m_nn M) i (km_rcNat M c i))) c q = km_rcNat M c q := rfl
    rw [e]
    by_cases h : q = i
    · subst h
      rw [if_neg (by omega), if_pos (by omega)]
      exact if_pos rfl
    · by_cases h2 : i + 1 ≤ q ∧ q < i + 1 + j
      · rw [if_pos h2, if_pos (by omega)]
      · rw [if_neg h2, if_neg (by omega)]
        exact if_neg h
theorem km_rcC_q : ∀ (j i : Nat) (M : km_M), km_V (km_rcC i j M) = km_V M ∧ m_nn (km_rcC i j M) = m_nn M ∧ ∀ q, m_sh (km_rcC i j M) q = if (i ≤ q ∧ q < i + j) ∧ m_nn M q = 1 then none else m_sh M q := by
  intro j
  induction j with
  | zero => exact fun i M => ⟨rfl, rfl, fun q => (if_neg (by omega)).symm⟩
  | succ j ih =>
    intro i M
    obtain ⟨g0, g1, g2⟩ := ih (i + 1) (km_st M i (if m_nn M i = 1 then none else m_sh M i))
    refine ⟨g0, g1, fun q => ?_⟩
    have st : km_rcC i (j + 1) M = km_rcC (i + 1) j (km_st M i (if m_nn M i = 1 then none else m_sh M i)) := rfl
    rw [st, g2 q]
    show (if (i + 1 ≤ q ∧ q < i + 1 + j) ∧ m_nn M q = 1 then none else ks_u (m_sh M) i (if m_nn M i = 1 then none else m_sh M i) q) = _
    by_cases h : q = i
    · subst h
      rw [if_neg (by omega), ks_u_at]
      by_cases c : m_nn M q = 1
      · rw [if_pos c, if_pos ⟨by omega, c⟩]
      · rw [if_neg c, if_neg (fun w => c w.2)]
    · rw [ks_u_ne _ _ h]
      by_cases c : (i + 1 ≤ q ∧ q < i + 1 + j) ∧ m_nn M q = 1
      · rw [if_pos c, if_pos ⟨by omega, c.2⟩]
      · rw [if_neg c, if_neg (fun w => c ⟨by omega, w.2⟩)]
/-- within a cut -/
abbrev kq_w (T : ks_S) (c : Nat) (x : Option Nat) : Bool := ks_in T x (some c)
theorem km_rcA_q {M : km_M} (c : Nat) : km_V (km_rcA M c) = km_V M ∧ (∀ s, s < 12 → (kq_w (km_S M) c ((km_S M).1 s) = true → m_sh (km_rcA M c) (19 + s) = none ∧ m_sh (km_rcA M c) (31 + s) = none ∧ ∀ k, k < 2 → m_sh (km_rcA M c) (43 + (2 * s + k)) = none) ∧ (kq_w (km_S M) c ((km_S M).1 s) = false → m_sh (km_rcA M c) (19 + s) = m_sh M (19 + s) ∧ m_sh (km_rcA M c) (31 + s) = m_sh M (31 + s) ∧ ∀ k, k < 2 → m_sh (km_rcA M c) (43 + (2 * s + k)) = m_sh M (43 + (2 * s + k)))) ∧ (∀ n, n < 6 → m_sh (km_rcA M c) (13 + n) = if kq_w (km_S M) c ((km_S M).2.2.1 n) = true then none else m_sh M (13 + n)) ∧ ∀ k, k < 13 → m_sh (km_rcA M c) k = if ks_has (km_S M) 1 k = true ∧ 1 ≤ k ∧ kq_w (km_S M) c (some k) = true then none else m_sh M k := by
  obtain ⟨P, eP⟩ : ∃ P, P = (km_S M).2.1 := ⟨_, rfl⟩
  have meets : ∀ A x, ks_meets (A, P, A, (fun _ => 0), A) (some c) 13 x = kq_w (km_S M) c x := fun A x => by
    unfold kq_w ks_in
    have : ks_meets (km_S M) (some c) = ks_meets (A, P, A, (fun _ => 0), A) (some c) := by
      funext f
      induction f with
      | zero => rfl
      | succ f ih2 =>
        funext x
        cases x with
        | none => rfl
        | some a =>
          show (if some a = some c then true else ks_meets (km_S M) (some c) f ((km_S M).2.1 a)) = (if some a = some c then true else ks_meets (A, P, A, (fun _ => 0), A) (some c) f (P a))
          rw [ih2, eP]
    rw [this]
  obtain ⟨a0, a0n, a1, a2⟩ := km_rcS_q (P := P) (A := (km_S M).1) c 12 0 M rfl eP.symm (fun _ _ _ => rfl)
  obtain ⟨M1, eM1⟩ : ∃ X, X = km_rcS c 0 12 M := ⟨_, rfl⟩
  rw [← eM1] at a0 a0n a1 a2
  have P1 : (km_S M1).2.1 = P := by
    rw [eP]
    funext k
    show (if k < 13 then m_sh M1 k else none) = (if k < 13 then m_sh M k else none)
    split
    · exact a1 k (by omega)
    · rfl
  have L1 : ∀ s, s < 6 → (km_S M1).2.2.1 s = (km_S M).2.2.1 s := fun s hs => by
    have e1 : (km_S M1).2.2.1 s = m_sh M1 (13 + s) := kz_l (m_sh M1) hs
    have e2 : (km_S M).2.2.1 s = m_sh M (13 + s) := kz_l (m_sh M) hs
    rw [e1, e2]
    exact a1 _ (by omega)
  obtain ⟨b0, b0n, b1, b2⟩ := km_rcL_q (P := P) (A := (km_S M).2.2.1) c 6 0 M1 rfl P1 (fun s _ hs => L1 s hs)
  obtain ⟨M2, eM2⟩ : ∃ X, X = km_rcL c 0 6 M1 := ⟨_, rfl⟩
  rw [← eM2] at b0 b0n b1 b2
  have P2 : (km_S M2).2.1 = P := by
    rw [← P1]
    funext k
    show (if k < 13 then m_sh M2 k else none) = (if k < 13 then m_sh M1 k else none)
    split
    · exact b1 k (by omega)
    · rfl
  obtain ⟨c0, c1, c2⟩ := km_rcN_q c 12 1 M2
  obtain ⟨M3, eM3⟩ : ∃ X, X = km_rcN c 1 12 M2 := ⟨_, rfl⟩
  rw [← eM3] at c0 c1 c2
  obtain ⟨d0, -, d2⟩ := km_rcC_q 12 1 M3
  have eA : km_rcA M c = km_rcC 1 12 M3 := by unfold km_rcA; rw [eM3, eM2, eM1]
  rw [eA]
  have hi : ∀ q, 13 ≤ q → m_sh (km_rcC 1 12 M3) q = m_sh M2 q := fun q hq => by rw [d2 q, if_neg (by omega), c1]
  refine ⟨d0.trans (c0.trans (b0.trans a0)), fun s hs => ?_, fun n hn => ?_, fun k hk => ?_⟩
  · rw [hi _ (by omega), hi _ (by omega), b1 _ (by omega), b1 _ (by omega)]
    obtain ⟨g3, g4⟩ := a2 s hs
    refine ⟨fun w => ?_, fun w => ?_⟩
    · obtain ⟨k1, k2, k3⟩ := g3 (Nat.zero_le _) (by rw [meets]; exact w)
      exact ⟨k1, k2, fun k hk => by rw [hi _ (by omega), b1 _ (by omega)]; exact k3 k hk⟩
    · obtain ⟨k1, k2, k3⟩ := g4 (Or.inr (by rw [meets]; exact w))
      exact ⟨k1, k2, fun k hk => by rw [hi _ (by omega), b1 _ (by omega)]; exact k3 k hk⟩
  · rw [hi _ (by omega)]
    obtain ⟨g3, g4⟩ := b2 n hn
    by_cases w : kq_w (km_S M) c ((km_S M).2.2.1 n) = true
    · rw [if_pos w]
      exact g3 (Nat.zero_le _) (by rw [meets]; exact w)
    · rw [if_neg w, g4 (Or.inr (by rw [meets]; exact Bool.eq_false_iff.mpr w))]
      exact a1 _ (by omega)
  · rw [d2 k, c1, b1 k (by omega), a1 k (by omega)]
    by_cases k1 : 1 ≤ k
    · rw [c2 k, if_pos (show 1 ≤ k ∧ k < 1 + 12 by omega)]
      have e : km_rcNat M2 c k = if (ks_has (km_S M) 1 k && kq_w (km_S M) c (some k)) = true then 1 else 0 := by
        have r1 : ks_has (km_S M2) 1 k = ks_has (km_S M) 1 k := by
          unfold ks_has
          show (_ && (_ && ((km_S M2).2.1 k).isSome)) = (_ && (_ && ((km_S M).2.1 k).isSome))
          rw [P2, eP]
        have r2 : ks_in (km_S M2) (some k) (some c) = kq_w (km_S M) c (some k) := by
          rw [← meets (km_S M2).1 (some k)]
          unfold ks_in
          have : ks_meets (km_S M2) (some c) = ks_meets ((km_S M2).1, P, (km_S M2).1, (fun _ => 0), (km_S M2).1) (some c) := by
            funext f
            induction f with
            | zero => rfl
            | succ f ih2 =>
              funext x
              cases x with
              | none => rfl
              | some a =>
                show (if some a = some c then true else ks_meets (km_S M2) (some c) f ((km_S M2).2.1 a)) = (if some a = some c then true else ks_meets ((km_S M2).1, P, (km_S M2).1, (fun _ => 0), (km_S M2).1) (some c) f (P a))
                rw [ih2, P2]
          rw [this]
        unfold km_rcNat
        rw [r1, r2]
      rw [e]
      by_cases w : (ks_has (km_S M) 1 k && kq_w (km_S M) c (some k)) = true
      · rw [if_pos w, if_pos ⟨by omega, rfl⟩]
        obtain ⟨w1, w2⟩ := Bool.and_eq_true_iff.mp w
        rw [if_pos ⟨w1, k1, w2⟩]
      · rw [if_neg w, if_neg (fun z => by have := z.2; omega), if_neg (fun z => w (Bool.and_eq_true_iff.mpr ⟨z.1, z.2.2⟩))]
    · rw [if_neg (fun z => k1 z.1.1), if_neg (fun z => k1 z.2.1)]
