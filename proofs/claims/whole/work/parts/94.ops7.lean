/-! Mathematics: unwrap. -/
/-- how many of j cells from i on hold v -/
def kp_e (f : Nat → Option Nat) (v : Nat) : Nat → Nat → Nat
  | _, 0 => 0
  | i, j + 1 => (if f i = some v then 1 else 0) + kp_e f v (i + 1) j
theorem kp_e_snoc (f : Nat → Option Nat) (v : Nat) : ∀ (j i : Nat), kp_e f v i (j + 1) = kp_e f v i j + (if f (i + j) = some v then 1 else 0) := by
  intro j
  induction j with
  | zero =>
    intro i
    show (if f i = some v then 1 else 0) + 0 = 0 + (if f i = some v then 1 else 0)
    omega
  | succ j ih =>
    intro i
    have e : kp_e f v i (j + 1 + 1) = (if f i = some v then 1 else 0) + kp_e f v (i + 1) (j + 1) := rfl
    rw [e, ih (i + 1)]
    have e2 : kp_e f v i (j + 1) = (if f i = some v then 1 else 0) + kp_e f v (i + 1) j := rfl
    rw [e2, show i + 1 + j = i + (j + 1) by omega]
    omega
theorem kp_e_congr {f g : Nat → Option Nat} (v : Nat) : ∀ (j i i' : Nat), (∀ q, q < j → f (i + q) = g (i' + q)) → kp_e f v i j = kp_e g v i' j := by
  intro j
  induction j with
  | zero => exact fun _ _ _ => rfl
  | succ j ih =>
    intro i i' h
    have h0 : f i = g i' := h 0 (by omega)
    show (if f i = some v then 1 else 0) + kp_e f v (i + 1) j = (if g i' = some v then 1 else 0) + kp_e g v (i' + 1) j
    rw [h0, ih (i + 1) (i' + 1) (fun q hq => by rw [show i + 1 + q = i + (q + 1) by omega, show i' + 1 + q = i' + (q + 1) by omega]; exact h (q + 1) (by omega))]
theorem kp_e_add (f : Nat → Option Nat) (v : Nat) : ∀ (j i j' : Nat), kp_e f v i (j + j') = kp_e f v i j + kp_e f v (i + j) j' := by
  intro j
  induction j with
  | zero => intro i j'; rw [Nat.zero_add]; show _ = 0 + kp_e f v i j'; omega
  | succ j ih =>
    intro i j'
    rw [show j + 1 + j' = (j + j') + 1 by omega]
    show (if f i = some v then 1 else 0) + kp_e f v (i + 1) (j + j') = ((if f i = some v then 1 else 0) + kp_e f v (i + 1) j) + kp_e f v (i + (j + 1)) j'
    rw [ih (i + 1) j', show i + 1 + j = i + (j + 1) by omega]
    omega
theorem kp_e_0 {f : Nat → Option Nat} {v : Nat} : ∀ (j i : Nat), kp_e f v i j = 0 ↔ ∀ q, i ≤ q → q < i + j → ¬ f q = some v := by
  intro j
  induction j with
  | zero => intro i; exact ⟨fun _ q h1 h2 => absurd h1 (by omega), fun _ => rfl⟩
  | succ j ih =>
    intro i
    have e : kp_e f v i (j + 1) = (if f i = some v then 1 else 0) + kp_e f v (i + 1) j := rfl
    rw [e]
    constructor
    · intro h q h1 h2
      by_cases c : q = i
      · intro w
        rw [c] at w
        rw [if_pos w] at h
        omega
      · exact (ih (i + 1)).mp (by omega) q (by omega) (by omega)
    · intro h
      rw [if_neg (h i (Nat.le_refl _) (by omega)), (ih (i + 1)).mpr (fun q h1 h2 => h q (by omega) (by omega))]
theorem kp_e_1 {f : Nat → Option Nat} {v : Nat} : ∀ (j i : Nat), kp_e f v i j = 1 → ∃ p, i ≤ p ∧ p < i + j ∧ f p = some v ∧ ∀ q, i ≤ q → q < i + j → f q = some v → q = p := by
  intro j
  induction j with
  | zero => intro i h; cases h
  | succ j ih =>
    intro i h
    have e : kp_e f v i (j + 1) = (if f i = some v then 1 else 0) + kp_e f v (i + 1) j := rfl
    rw [e] at h
    by_cases c : f i = some v
    · rw [if_pos c] at h
      have z := (kp_e_0 (f := f) (v := v) j (i + 1)).mp (by omega)
      refine ⟨i, Nat.le_refl _, by omega, c, fun q h1 h2 w => ?_⟩
      by_cases c2 : q = i
      · exact c2
      · exact absurd w (z q (by omega) (by omega))
    · rw [if_neg c] at h
      obtain ⟨p, h1, h2, h3, h4⟩ := ih (i + 1) (by omega)
      refine ⟨p, by omega, by omega, h3, fun q h5 h6 w => h4 q ?_ (by omega) w⟩
      by_cases c2 : q = i
      · rw [c2] at w; exact absurd w c
      · omega
theorem ks_cnt_e (f : Nat → Option Nat) (v : Nat) : ∀ n, ks_cnt f (2 ^ v) n = kp_e f v 0 n := by
  intro n
  induction n with
  | zero => rfl
  | succ n ih =>
    rw [kp_e_snoc, Nat.zero_add, ← ih]
    show ks_cnt f (2 ^ v) n + _ = _
    cases hf : f n with
    | none => rw [if_neg (fun w => nomatch w)]
    | some a =>
      show _ + (if (2 ^ v).testBit a = true then 1 else 0) = _
      rw [Nat.testBit_two_pow]
      by_cases c : v = a
      · rw [decide_eq_true c, if_pos rfl, if_pos (by rw [c])]
      · rw [decide_eq_false c, if_neg (by decide), if_neg (fun w => c (Option.some.inj w).symm)]
theorem km_on1_e (f : Nat → Option Nat) (c : Nat) : ∀ (j i : Nat) (T : Option Nat × Nat), (km_on1 f c i j T).2 = T.2 + kp_e f c i j ∧ (kp_e f c i j = 0 → (km_on1 f c i j T).1 = T.1) ∧ (¬ kp_e f c i j = 0 → ∃ p, i ≤ p ∧ p < i + j ∧ f p = some c ∧ (km_on1 f c i j T).1 = some p) := by
  intro j
  induction j with
  | zero => exact fun i T => ⟨rfl, fun _ => rfl, fun w => absurd rfl w⟩
  | succ j ih =>
    intro i T
    have e : kp_e f c i (j + 1) = (if f i = some c then 1 else 0) + kp_e f c (i + 1) j := rfl
    have st : km_on1 f c i (j + 1) T = km_on1 f c (i + 1) j (if f i = some c then (some i, T.2 + 1) else T) := rfl
    rw [e, st]
    by_cases h : f i = some c
    · rw [if_pos h, if_pos h]
      obtain ⟨g1, g2, g3⟩ := ih (i + 1) (some i, T.2 + 1)
      refine ⟨by rw [g1]; show T.2 + 1 + _ = _; omega, fun w => absurd w (by omega), fun _ => ?_⟩
      by_cases z : kp_e f c (i + 1) j = 0
      · exact ⟨i, Nat.le_refl _, by omega, h, g2 z⟩
      · obtain ⟨p, p1, p2, p3, p4⟩ := g3 z
        exact ⟨p, by omega, by omega, p3, p4⟩
    · rw [if_neg h, if_neg h, Nat.zero_add]
      obtain ⟨g1, g2, g3⟩ := ih (i + 1) T
      refine ⟨g1, g2, fun z => ?_⟩
      obtain ⟨p, p1, p2, p3, p4⟩ := g3 z
      exact ⟨p, by omega, by omega, p3, p4⟩
theorem km_on2_e (f : Nat → Option Nat) (c : Nat) : ∀ (j i n : Nat), km_on2 f c i j n = n + 2 * kp_e f c i j := by
  intro j
  induction j with
  | zero => exact fun _ _ => rfl
  | succ j ih =>
    intro i n
    have e : kp_e f c i (j + 1) = (if f i = some c then 1 else 0) + kp_e f c (i + 1) j := rfl
    have st : km_on2 f c i (j + 1) n = km_on2 f c (i + 1) j (if f i = some c then n + 2 else n) := rfl
    rw [e, st, ih]
    by_cases h : f i = some c
    · rw [if_pos h, if_pos h]; omega
    · rw [if_neg h, if_neg h]; omega
/-- both see the same: one cut alone -/
theorem kq_alone_only {f : Nat → Option Nat} (o : ks_ok (kz f)) (c : Nat) : (ks_alone (kz f) c = true → ∃ p, km_only f c = some p ∧ 1 ≤ p ∧ p < 13 ∧ (kz f).2.1 p = some c ∧ (∀ q, q < 13 → (kz f).2.1 q = some c → q = p) ∧ (∀ s, s < 12 → ¬ (kz f).1 s = some c) ∧ ∀ n, n < 6 → ¬ (kz f).2.2.1 n = some c) ∧ (ks_alone (kz f) c = false → km_only f c = none) := by
  have m1 : ks_many (kz f) 1 (2 ^ c) = kp_e (kz f).2.1 c 0 13 := ks_cnt_e _ _ _
  have m0 : ks_many (kz f) 0 (2 ^ c) = kp_e (kz f).1 c 0 12 := ks_cnt_e _ _ _
  have m2 : ks_many (kz f) 2 (2 ^ c) = kp_e (kz f).2.2.1 c 0 6 := ks_cnt_e _ _ _
  have z1 : kp_e (kz f).2.1 c 0 13 = kp_e f c 1 12 := by
    have e : kp_e (kz f).2.1 c 0 13 = (if (kz f).2.1 0 = some c then 1 else 0) + kp_e (kz f).2.1 c 1 12 := rfl
    rw [e, o.2.2.2, if_neg (fun w => nomatch w), Nat.zero_add]
    exact kp_e_congr c 12 1 1 (fun q hq => kz_c f (by omega))
  have z2 : kp_e f c 13 18 = kp_e (kz f).2.2.1 c 0 6 + kp_e (kz f).1 c 0 12 := by
    have e := kp_e_add f c 6 13 12
    rw [show 6 + 12 = 18 from rfl, show 13 + 6 = 19 from rfl] at e
    rw [e, kp_e_congr (f := f) (g := (kz f).2.2.1) c 6 13 0 (fun q hq => by rw [Nat.zero_add, kz_l f hq]), kp_e_congr (f := f) (g := (kz f).1) c 12 19 0 (fun q hq => by rw [Nat.zero_add, kz_s f hq])]
  obtain ⟨g1, g2, g3⟩ := km_on1_e f c 12 1 (none, 0)
  have hon : km_on2 f c 13 18 (km_on1 f c 1 12 (none, 0)).2 = kp_e f c 1 12 + 2 * kp_e f c 13 18 := by
    rw [km_on2_e, g1]; show 0 + _ + _ = _; omega
  have eA : ks_alone (kz f) c = (decide (kp_e f c 1 12 = 1) && (decide (kp_e (kz f).1 c 0 12 = 0) && decide (kp_e (kz f).2.2.1 c 0 6 = 0))) := by
    unfold ks_alone
    rw [m1, m0, m2, z1]
  refine ⟨fun h => ?_, fun h => ?_⟩
  · rw [eA] at h
    obtain ⟨h1, h23⟩ := Bool.and_eq_true_iff.mp h
    obtain ⟨h2, h3⟩ := Bool.and_eq_true_iff.mp h23
    have h1 := of_decide_eq_true h1
    have h2 := of_decide_eq_true h2
    have h3 := of_decide_eq_true h3
    obtain ⟨p, p1, p2, p3, p4⟩ := g3 (by omega)
    obtain ⟨p', -, -, -, u⟩ := kp_e_1 12 1 h1
    have ep : p = p' := u p p1 p2 p3
    refine ⟨p, ?_, p1, p2, (kz_c f (by omega)).trans p3, fun q hq w => ?_, fun s hs => ?_, fun n hn => ?_⟩
    · unfold km_only
      rw [hon, if_pos (by omega)]; exact p4
    · by_cases q0 : q = 0
      · rw [q0, o.2.2.2] at w; cases w
      · rw [ep]
        exact u q (by omega) (by omega) ((kz_c f hq).symm.trans w)
    · exact (kp_e_0 12 0).mp h2 s (by omega) (by omega)
    · exact (kp_e_0 6 0).mp h3 n (by omega) (by omega)
  · unfold km_only
    rw [hon]
    by_cases w : kp_e f c 1 12 + 2 * kp_e f c 13 18 = 1
    · rw [eA, decide_eq_true (show kp_e f c 1 12 = 1 by omega), decide_eq_true (show kp_e (kz f).1 c 0 12 = 0 by omega), decide_eq_true (show kp_e (kz f).2.2.1 c 0 6 = 0 by omega)] at h
      cases h
    · rw [if_neg w]
/-- a double cut goes: what lay in the inner one lies in a -/
def kp_r (p a : Nat) (x : Option Nat) : Option Nat := if x = some p then some a else x
section KP
variable {P : Nat → Option Nat} {c p a : Nat}
theorem kt_dc (t : kt_tr P) (hc : c < 13) (ha : P c = some a) (hp : P p = some c) : ¬ c = 0 ∧ ¬ p = 0 ∧ ¬ p = c ∧ ¬ a = c ∧ ¬ a = p := by
  obtain ⟨m, hm⟩ := t.2.2 c hc (by rw [ha]; exact fun w => nomatch w)
  have c0 : ¬ c = 0 := fun w => by rw [w, t.1] at ha; cases ha
  have ac : ¬ a = c := fun w => by
    cases m with
    | zero => exact c0 (Option.some.inj hm)
    | succ m =>
      have h2 := hm
      rw [kt_it_s ha, w] at h2
      have := kt_it_uniq t.1 h2 hm
      omega
  refine ⟨c0, fun w => (by rw [w, t.1] at hp; cases hp), fun w => ac (by rw [w, ha] at hp; exact Option.some.inj hp), ac, fun w => ?_⟩
  cases m with
  | zero => exact c0 (Option.some.inj hm)
  | succ m =>
    have h2 := hm
    rw [kt_it_s ha, w] at h2
    cases m with
    | zero =>
      have : p = 0 := Option.some.inj h2
      rw [this, t.1] at hp; cases hp
    | succ m =>
      rw [kt_it_s hp] at h2
      have := kt_it_uniq t.1 h2 hm
      omega
theorem kt_it_un {P' : Nat → Option Nat} (ha : P c = some a) (hp : P p = some c) (u : ∀ q, q < 13 → P q = some c → q = p) (hP : ∀ x y, x < 13 → P x = some y → y < 13) (ac : ¬ a = c) (ap : ¬ a = p) (h' : ∀ z, z < 13 → ¬ z = c → ¬ z = p → P' z = kp_r p a (P z)) : ∀ (m x y : Nat), x < 13 → ¬ x = c → ¬ x = p → ¬ y = c → ¬ y = p → kt_it P m x = some y → ∃ m', kt_it P' m' x = some y := by
  have key : ∀ (M m x y : Nat), m ≤ M → x < 13 → ¬ x = c → ¬ x = p → ¬ y = c → ¬ y = p → kt_it P m x = some y → ∃ m', kt_it P' m' x = some y := by
    intro M
    induction M with
    | zero =>
      intro m x y hm _ _ _ _ _ h
      have : m = 0 := by omega
      subst this
      exact ⟨0, h⟩
    | succ M ih =>
      intro m x y hm hx xc xp yc yp h
      cases m with
      | zero => exact ⟨0, h⟩
      | succ m =>
        cases hz : P x with
        | none => rw [kt_it_n hz] at h; cases h
        | some z =>
          rw [kt_it_s hz] at h
          by_cases zp : z = p
          · have e' : P' x = some a := by rw [h' x hx xc xp, hz, zp]; exact if_pos rfl
            rw [zp] at h
            cases m with
            | zero => exact absurd (Option.some.inj h).symm yp
            | succ m =>
              rw [kt_it_s hp] at h
              cases m with
              | zero => exact absurd (Option.some.inj h).symm yc
              | succ m =>
                rw [kt_it_s ha] at h
                have a13 : a < 13 := by
                  have z13 := hP x z hx hz
                  exact hP c a (hP p c (by rw [← zp]; exact z13) hp) ha
                obtain ⟨m', hm'⟩ := ih m a y (by omega) a13 ac ap yc yp h
                exact ⟨m' + 1, by rw [kt_it_s e']; exact hm'⟩
          · have zc : ¬ z = c := fun w => xp (u x hx (by rw [hz, w]))
            have e' : P' x = some z := by rw [h' x hx xc xp, hz]; exact if_neg (fun w => zp (Option.some.inj w))
            obtain ⟨m', hm'⟩ := ih m z y (by omega) (hP x z hx hz) zc zp yc yp h
            exact ⟨m' + 1, by rw [kt_it_s e']; exact hm'⟩
  exact fun m x y => key m m x y (Nat.le_refl _)
end KP
theorem kp_r_ne {p a : Nat} {x : Option Nat} (h : ¬ x = some p) : kp_r p a x = x := if_neg h
theorem kq_un_S {S : ks_S} {M : km_M} {c p a : Nat} (h : kq S (m_sh M)) (hc : c < 13) (ha : (km_S M).2.1 c = some a) (p1 : 1 ≤ p) (p13 : p < 13) (hp : (km_S M).2.1 p = some c) (u : ∀ q, q < 13 → (km_S M).2.1 q = some c → q = p) (us : ∀ s, s < 12 → ¬ (km_S M).1 s = some c) (ul : ∀ n, n < 6 → ¬ (km_S M).2.2.1 n = some c) : kq (kp_r p a ∘ S.1, ks_u (ks_u (kp_r p a ∘ S.2.1) p none) c none, kp_r p a ∘ S.2.2.1, S.2.2.2) (m_sh (km_uwM M c p)) := by
  obtain ⟨⟨e, e2⟩, ⟨o, hk⟩, h3⟩ := h
  have ha : (kz (m_sh M)).2.1 c = some a := ha
  have hp : (kz (m_sh M)).2.1 p = some c := hp
  have t := kt_ok_tr o
  obtain ⟨c0, p0, pc, ac, ap⟩ := kt_dc t hc ha hp
  have arA : kt_ar (kz (m_sh M)).2.1 a := kt_tr_up t hc ha
  obtain ⟨-, q1⟩ := km_ux_q p (m_sh M c) 30 1 (km_st (km_st M c none) p none)
  obtain ⟨f', ef⟩ : ∃ f', f' = m_sh (km_uwM M c p) := ⟨_, rfl⟩
  have fa : m_sh M c = some a := (kz_c _ hc).symm.trans ha
  have q2 : ∀ q, f' q = if (1 ≤ q ∧ q < 1 + 30) ∧ ks_u (ks_u (m_sh M) c none) p none q = some p then some a else ks_u (ks_u (m_sh M) c none) p none q := fun q => by rw [ef, ← fa]; exact q1 q
  have g1 : ∀ q, q < 31 → ¬ q = c → ¬ q = p → ¬ q = 0 → f' q = kp_r p a (m_sh M q) := fun q h1 h2 h4 h5 => by
    rw [q2, ks_u_ne _ _ h4, ks_u_ne _ _ h2]
    unfold kp_r
    by_cases w : m_sh M q = some p
    · rw [if_pos ⟨by omega, w⟩, if_pos w]
    · rw [if_neg (fun z => w z.2), if_neg w]
  have g2 : f' c = none ∧ f' p = none ∧ f' 0 = none := by
    have z0 : m_sh M 0 = none := (kz_c _ (by decide)).symm.trans t.1
    refine ⟨?_, ?_, ?_⟩
    · rw [q2, ks_u_ne _ _ (fun w => pc w.symm), ks_u_at, if_neg (fun z => by cases z.2)]
    · rw [q2, ks_u_at, if_neg (fun z => by cases z.2)]
    · rw [q2, if_neg (by omega), ks_u_ne _ _ (fun w => p0 w.symm), ks_u_ne _ _ (fun w => c0 w.symm), z0]
  have g3 : ∀ q, 31 ≤ q → f' q = m_sh M q := fun q h1 => by rw [q2, if_neg (by omega), ks_u_ne _ _ (by omega), ks_u_ne _ _ (by omega)]
  rw [← ef]
  have T1 : (kz f').1 = kp_r p a ∘ (kz (m_sh M)).1 := by
    funext s
    show (if s < 12 then f' (19 + s) else none) = kp_r p a (if s < 12 then m_sh M (19 + s) else none)
    by_cases w : s < 12
    · rw [if_pos w, if_pos w, g1 _ (by omega) (by omega) (by omega) (by omega)]
    · rw [if_neg w, if_neg w]; rfl
  have T2 : (kz f').2.1 = ks_u (ks_u (kp_r p a ∘ (kz (m_sh M)).2.1) p none) c none := by
    funext k
    by_cases w : k = c
    · rw [w, ks_u_at, kz_c f' hc]; exact g2.1
    · rw [ks_u_ne _ _ w]
      by_cases w2 : k = p
      · rw [w2, ks_u_at, kz_c f' p13]; exact g2.2.1
      · rw [ks_u_ne _ _ w2]
        show (if k < 13 then f' k else none) = kp_r p a (if k < 13 then m_sh M k else none)
        by_cases w3 : k < 13
        · rw [if_pos w3, if_pos w3]
          by_cases w4 : k = 0
          · have z0 : m_sh M 0 = none := (kz_c _ (by decide)).symm.trans t.1
            rw [w4, g2.2.2, z0]; rfl
          · exact g1 k (by omega) w w2 w4
        · rw [if_neg w3, if_neg w3]; rfl
  have T3 : (kz f').2.2.1 = kp_r p a ∘ (kz (m_sh M)).2.2.1 := by
    funext n
    show (if n < 6 then f' (13 + n) else none) = kp_r p a (if n < 6 then m_sh M (13 + n) else none)
    by_cases w : n < 6
    · rw [if_pos w, if_pos w, g1 _ (by omega) (by omega) (by omega) (by omega)]
    · rw [if_neg w, if_neg w]; rfl
  have T4 : (kz f').2.2.2 = (kz (m_sh M)).2.2.2 := by
    refine Prod.ext (funext fun q => ?_) (funext fun q => ?_)
    · show (if q < 12 then (f' (31 + q)).getD 0 else 0) = (if q < 12 then (m_sh M (31 + q)).getD 0 else 0)
      rw [g3 _ (by omega)]
    · show (if q < 24 then f' (43 + q) else none) = (if q < 24 then m_sh M (43 + q) else none)
      rw [g3 _ (by omega)]
  have ez : kz f' = (kp_r p a ∘ (kz (m_sh M)).1, ks_u (ks_u (kp_r p a ∘ (kz (m_sh M)).2.1) p none) c none, kp_r p a ∘ (kz (m_sh M)).2.2.1, (kz (m_sh M)).2.2.2) := Prod.ext T1 (Prod.ext T2 (Prod.ext T3 T4))
  obtain ⟨P', eP'⟩ : ∃ P', P' = ks_u (ks_u (kp_r p a ∘ (kz (m_sh M)).2.1) p none) c none := ⟨_, rfl⟩
  rw [← eP'] at ez
  have P'z : ∀ z, z < 13 → ¬ z = c → ¬ z = p → P' z = kp_r p a ((kz (m_sh M)).2.1 z) := fun z _ w1 w2 => by rw [eP', ks_u_ne _ _ w1, ks_u_ne _ _ w2]; rfl
  have way := kt_it_un (P := (kz (m_sh M)).2.1) (P' := P') ha hp u t.2.1 ac ap P'z
  have P'n : ∀ z, z < 13 → ¬ P' z = none → ¬ z = c ∧ ¬ z = p ∧ ¬ (kz (m_sh M)).2.1 z = none := fun z hz w => by
    have w1 : ¬ z = c := fun q => by rw [eP', q, ks_u_at] at w; exact w rfl
    have w2 : ¬ z = p := fun q => by rw [eP', ks_u_ne _ _ w1, q, ks_u_at] at w; exact w rfl
    refine ⟨w1, w2, fun q => ?_⟩
    rw [P'z z hz w1 w2, q] at w
    exact w rfl
  have r13 : ∀ x y, mm_lt x 13 → kp_r p a x = some y → y < 13 := fun x y hx w => by
    unfold kp_r at w
    by_cases q : x = some p
    · rw [if_pos q] at w; cases w; exact arA.1
    · rw [if_neg q] at w; exact hx y w
  have tr' : kt_tr P' := by
    refine ⟨?_, fun x y hx hy => ?_, fun x hx hy => ?_⟩
    · rw [P'z 0 (by decide) (fun w => c0 w.symm) (fun w => p0 w.symm), t.1]; rfl
    · obtain ⟨w1, w2, -⟩ := P'n x hx (by rw [hy]; exact fun w => nomatch w)
      rw [P'z x hx w1 w2] at hy
      exact r13 _ y (fun q hq => t.2.1 x q hx hq) hy
    · obtain ⟨w1, w2, w3⟩ := P'n x hx hy
      obtain ⟨m, hm⟩ := t.2.2 x hx w3
      exact way m x 0 hx w1 w2 (fun w => c0 w.symm) (fun w => p0 w.symm) hm
  have ar' : ∀ x, kt_ar (kz (m_sh M)).2.1 x → ¬ x = c → ¬ x = p → kt_ar P' x := fun x hx w1 w2 => by
    refine ⟨hx.1, hx.2.elim Or.inl (fun w => Or.inr (fun q => ?_))⟩
    rw [P'z x hx.1 w1 w2] at q
    unfold kp_r at q
    by_cases v : (kz (m_sh M)).2.1 x = some p
    · rw [if_pos v] at q; cases q
    · rw [if_neg v] at q; exact w q
  have arr : ∀ x y, (∀ z, x = some z → kt_ar (kz (m_sh M)).2.1 z) → ¬ x = some c → kp_r p a x = some y → kt_ar P' y := fun x y hx hxc w => by
    unfold kp_r at w
    by_cases q : x = some p
    · rw [if_pos q] at w; cases w; exact ar' a arA ac ap
    · rw [if_neg q] at w
      exact ar' y (hx y w) (fun v => hxc (by rw [w, v])) (fun v => q (by rw [w, v]))
  have okT : ks_ok (kp_r p a ∘ (kz (m_sh M)).1, P', kp_r p a ∘ (kz (m_sh M)).2.2.1, (kz (m_sh M)).2.2.2) := by
    refine ⟨fun k i x hi hx => ?_, o.1.2.1, o.1.2.2.1, tr'.1⟩
    match k, hi, hx with
    | 0, hi, hx => exact r13 _ x (fun q hq => o.1.1 0 i q hi hq) hx
    | 1, hi, hx => exact tr'.2.1 i x hi hx
    | k + 2, hi, hx => exact r13 _ x (fun q hq => o.1.1 2 i q hi hq) hx
  have pres : ∀ s, ¬ (kp_r p a ∘ (kz (m_sh M)).1) s = none → ¬ (kz (m_sh M)).1 s = none := fun s w q => by
    have : (kp_r p a ∘ (kz (m_sh M)).1) s = none := by show kp_r p a ((kz (m_sh M)).1 s) = none; rw [q]; rfl
    exact w this
  refine kq_mk ez ⟨⟨by rw [e.1], ?_, by rw [e.2.2]⟩, fun s hs w => e2 s hs (pres s w)⟩ (kt_ok_mk okT tr' (fun i x hi hx => arr _ x (fun z hz => kt_ok_ar o (k := 0) (by decide) hi hz) (us i hi) hx) (fun i x hi hx => arr _ x (fun z hz => kt_ok_ar o (k := 2) (by decide) hi hz) (ul i hi) hx)) ⟨fun s x hs hx k hk2 => ?_, fun s k hs hk2 hx => ?_⟩ (fun s hs w => ?_)
  · show ks_u (ks_u (kp_r p a ∘ S.2.1) p none) c none = P'
    rw [eP', e.2.1]
  · have hx : kp_r p a ((kz (m_sh M)).1 s) = some x := hx
    obtain ⟨y, hy⟩ : ∃ y, (kz (m_sh M)).1 s = some y := by
      cases hy : (kz (m_sh M)).1 s with
      | none => rw [hy] at hx; cases hx
      | some y => exact ⟨y, rfl⟩
    obtain ⟨r1, r2⟩ := hk.1 s y hs hy k hk2
    refine ⟨fun hpl => ?_, r2⟩
    obtain ⟨n, b, n6, h7, h8, j, h9⟩ := r1 hpl
    have y13 := (kt_ok_ar o (k := 0) (by decide) hs hy).1
    have yc : ¬ y = c := fun w => us s hs (hy.trans (by rw [w]))
    have bc : ¬ b = c := fun w => ul n n6 (h8.trans (by rw [w]))
    have up : ∀ i z, kt_it (kz (m_sh M)).2.1 i z = some p → kt_it (kz (m_sh M)).2.1 (i + 2) z = some a := fun i z w => kt_it_cat w (by rw [kt_it_s hp, kt_it_s ha]; rfl)
    -- from an area that stays, up to where the line lies now
    have go : ∀ i z, z < 13 → ¬ z = c → ¬ z = p → kt_it (kz (m_sh M)).2.1 i z = some b → ∃ b', kp_r p a (some b) = some b' ∧ ∃ i', kt_it P' i' z = some b' := fun i z hz w1 w2 w3 => by
      by_cases w4 : b = p
      · rw [w4] at w3
        exact ⟨a, if_pos (by rw [w4]), way _ z a hz w1 w2 ac ap (up i z w3)⟩
      · exact ⟨b, if_neg (fun q => w4 (Option.some.inj q)), way i z b hz w1 w2 bc w4 w3⟩
    have fin : ∃ b', kp_r p a (some b) = some b' ∧ ∃ i', kt_it P' i' x = some b' := by
      rw [hy] at hx
      by_cases yp : y = p
      · have ex : x = a := by
          unfold kp_r at hx
          rw [if_pos (by rw [yp])] at hx
          exact (Option.some.inj hx).symm
        rw [ex]
        rw [yp] at h9
        cases j with
        | zero =>
          have : b = p := (Option.some.inj h9).symm
          exact ⟨a, if_pos (by rw [this]), 0, rfl⟩
        | succ j =>
          rw [kt_it_s hp] at h9
          cases j with
          | zero => exact absurd (Option.some.inj h9).symm bc
          | succ j =>
            rw [kt_it_s ha] at h9
            exact go j a arA.1 ac ap h9
      · have ex : x = y := by
          unfold kp_r at hx
          rw [if_neg (fun q => yp (Option.some.inj q))] at hx
          exact (Option.some.inj hx).symm
        rw [ex]
        exact go j y y13 yc yp h9
    obtain ⟨b', hb', i', hi'⟩ := fin
    refine ⟨n, b', n6, h7, ?_, i', hi'⟩
    show kp_r p a ((kz (m_sh M)).2.2.1 n) = some b'
    rw [h8]; exact hb'
  · have hx : kp_r p a ((kz (m_sh M)).1 s) = none := hx
    refine hk.2 s k hs hk2 ?_
    cases hy : (kz (m_sh M)).1 s with
    | none => rfl
    | some y =>
      rw [hy] at hx
      unfold kp_r at hx
      by_cases q : some y = some p
      · rw [if_pos q] at hx; cases hx
      · rw [if_neg q] at hx; cases hx
  · rw [g3 _ (by omega)]
    refine h3 s hs (fun q => w ?_)
    rw [g1 _ (by omega) (by omega) (by omega) (by omega), q]; rfl

theorem ks_mv_r {f : Nat → Option Nat} {p a n : Nat} (h : ∀ i, n ≤ i → f i = none) : ks_mv f (2 ^ p) (some a) n = kp_r p a ∘ f := by
  funext i
  show (if i < n ∧ ks_am (2 ^ p) (f i) = true then some a else f i) = kp_r p a (f i)
  unfold kp_r
  cases hf : f i with
  | none => rw [if_neg (fun w => by cases w.2), if_neg (fun w => nomatch w)]
  | some y =>
    have hi : i < n := by
      rcases Nat.lt_or_ge i n with w | w
      · exact w
      · rw [h i w] at hf; cases hf
    show (if i < n ∧ (2 ^ p).testBit y = true then some a else some y) = _
    rw [Nat.testBit_two_pow]
    by_cases c : p = y
    · rw [if_pos ⟨hi, decide_eq_true c⟩, if_pos (by rw [c])]
    · rw [if_neg (fun w => c (of_decide_eq_true w.2)), if_neg (fun w => c (Option.some.inj w).symm)]
theorem ks_rd_id {c : Nat} {x : Option Nat} : ∀ (k i : Nat) (S : ks_S), (∀ q, i ≤ q → q < i + k → ¬ S.2.1 q = some c) → ks_rdLoop c x i k S = S := by
  intro k
  induction k with
  | zero => exact fun _ _ _ => rfl
  | succ k ih =>
    intro i S h
    have st : ks_rdLoop c x i (k + 1) S = ks_rdLoop c x (i + 1) k (ks_rdStep S c x i) := rfl
    have e : ks_rdStep S c x i = S := if_neg (h i (Nat.le_refl _) (by omega))
    rw [st, e]
    exact ih (i + 1) S (fun q h1 h2 => h q (by omega) (by omega))
theorem ks_rd_at {c p a : Nat} {S : ks_S} (h0 : ∀ i, 12 ≤ i → S.1 i = none) (h1 : ∀ i, 13 ≤ i → S.2.1 i = none) (h2 : ∀ i, 6 ≤ i → S.2.2.1 i = none) (hp : S.2.1 p = some c) (u : ∀ q, q < 13 → S.2.1 q = some c → q = p) (ac : ¬ a = c) (p13 : p < 13) : ∀ (k i : Nat), i + k = 13 → i ≤ p → ks_rdLoop c (some a) i k S = (kp_r p a ∘ S.1, ks_u (kp_r p a ∘ S.2.1) p none, kp_r p a ∘ S.2.2.1, S.2.2.2) := by
  intro k
  induction k with
  | zero => intro i hi hip; exact absurd hip (by omega)
  | succ k ih =>
    intro i hi hip
    have st : ks_rdLoop c (some a) i (k + 1) S = ks_rdLoop c (some a) (i + 1) k (ks_rdStep S c (some a) i) := rfl
    rw [st]
    by_cases c1 : i = p
    · subst c1
      have e : ks_rdStep S c (some a) i = (kp_r i a ∘ S.1, ks_u (kp_r i a ∘ S.2.1) i none, kp_r i a ∘ S.2.2.1, S.2.2.2) := by
        have : ks_rdStep S c (some a) i = ks_putI (ks_moves S (2 ^ i) (some a) 3) (nI 1) (nI i) none := if_pos hp
        rw [this, ks_putI_none p13]
        have em : ks_moves S (2 ^ i) (some a) 3 = (ks_mv S.1 (2 ^ i) (some a) 12, ks_mv S.2.1 (2 ^ i) (some a) 13, ks_mv S.2.2.1 (2 ^ i) (some a) 6, S.2.2.2) := rfl
        rw [em, ks_mv_r h0, ks_mv_r h1, ks_mv_r h2]
      rw [e]
      refine ks_rd_id k (i + 1) _ (fun q q1 q2 w => ?_)
      have w : ks_u (kp_r i a ∘ S.2.1) i none q = some c := w
      rw [ks_u_ne _ _ (by omega)] at w
      have w : kp_r i a (S.2.1 q) = some c := w
      unfold kp_r at w
      by_cases c2 : S.2.1 q = some i
      · rw [if_pos c2] at w; exact ac (Option.some.inj w)
      · rw [if_neg c2] at w
        have := u q (by omega) w
        omega
    · have e : ks_rdStep S c (some a) i = S := if_neg (fun w => c1 (u i (by omega) w))
      rw [e]
      exact ih (i + 1) (by omega) (by omega)
theorem kq_unwrap {C : kc_C} {M : km_M} (h : kq_R C M) (n : Int32) : kq_st (fun k => k + 1) (kc_unwrap C n) (nI (km_unwrap M n).1) (km_unwrap M n).2 := by
  have h4 := h.2.2.1.1
  have e := h4.1.1
  have o := h4.2.1.1
  have oS : ks_ok (kc_S C) := h.1.1.1 _ (by have := h.1.1.2.1; omega)
  unfold kc_unwrap km_unwrap
  rw [kq_hasI e, kq_alone e]
  by_cases c1 : ks_hasI (km_S M) (nI 1) n = true
  · rw [if_pos (show ks_hasI (kz (m_sh M)) (nI 1) n = true from c1), if_pos c1]
    obtain ⟨c, a, hc, rfl, ha⟩ := ks_hasI_k (k := 1) (by decide) c1
    have hc : c < 13 := hc
    have ha : (km_S M).2.1 c = some a := ha
    have cn : (nI c).toNatClampNeg = c := nI_clamp (by omega)
    rw [cn]
    obtain ⟨al1, al2⟩ := kq_alone_only o.1 c
    unfold km_unwrapN
    cases hd : C.2.2.2.2.1 with
    | true =>
      have st : m_st M = false := by rw [h.2.1.2, hd]; rfl
      have eT : km_uwT M c = 2 := if_pos (Or.inl st)
      rw [if_neg (show ¬ (!true && ks_alone (kz (m_sh M)) c) = true from fun w => by cases w), eT, if_neg (show ¬ (2 : Nat) = 0 by decide)]
      exact kq_bad h rfl
    | false =>
      have st : m_st M = true := by rw [h.2.1.2, hd]; rfl
      cases hal : ks_alone (kz (m_sh M)) c with
      | false =>
        have eT : km_uwT M c = 2 := if_pos (Or.inr (al2 hal))
        rw [if_neg (show ¬ (!false && false) = true by decide), eT, if_neg (show ¬ (2 : Nat) = 0 by decide)]
        exact kq_bad h rfl
      | true =>
        obtain ⟨p, ep, p1, p13, hp, u, us, ul⟩ := al1 hal
        have eT : km_uwT M c = km_late M := if_neg (fun w => w.elim (fun w => by rw [st] at w; cases w) (fun w => by rw [ep] at w; cases w))
        rw [if_pos (show (!false && true) = true from rfl), eT, kc_may_st h hd]
        by_cases c3 : km_late M = 0
        · rw [if_pos c3, decide_eq_true c3, if_pos rfl, ep]
          have hm : kc_mayCh C = true := by rw [kc_may_st h hd]; exact decide_eq_true c3
          have kp := (km_keep_th M 0).2.2
          obtain ⟨K, eK⟩ : ∃ K, K = km_keep (s_th M 0) := ⟨_, rfl⟩
          rw [← eK] at kp
          have KS : km_S K = kz (m_sh M) := congrArg kz kp
          obtain ⟨c0, p0, pc, ac, ap⟩ := kt_dc (kt_ok_tr o) hc ha hp
          have eS : ks_undouble (kc_S C) c = (kp_r p a ∘ (kc_S C).1, ks_u (ks_u (kp_r p a ∘ (kc_S C).2.1) p none) c none, kp_r p a ∘ (kc_S C).2.2.1, (kc_S C).2.2.2) := by
            unfold ks_undouble
            have ea : ks_areaI (kc_S C) (nI 1) (nI c) = some a := by rw [kq_areaI e, ks_area_P o.1 hc]; exact ha
            rw [ea, ks_rd_at (fun i hi => by rw [e.1]; exact if_neg (by omega)) (fun i hi => by rw [e.2.1]; exact if_neg (by omega)) (fun i hi => by rw [e.2.2]; exact if_neg (by omega)) (by rw [e.2.1]; exact hp) (by rw [e.2.1]; exact u) ac p13 12 1 rfl p1, ks_putI_none hc]
          have eV : km_V (km_uwM K c p) = km_V K := (km_ux_q p (m_sh K c) 30 1 (km_st (km_st K c none) p none)).1
          rw [← eK]
          show kq_st (fun k => k + 1) (kc_nat (kc_mv C), kc_new C (ks_undouble (kc_S C) c)) (nI (m_mv (km_uwM K c p))) (km_uwM K c p)
          have okU : ks_ok (ks_undouble (kc_S C) c) := by
            unfold ks_undouble
            have ea : ks_areaI (kc_S C) (nI 1) (nI c) = some a := by rw [kq_areaI e, ks_area_P o.1 hc]; exact ha
            rw [ea]
            refine ks_ok_putI ?_ _ _ mm_lt_none
            have lp : ∀ (k i : Nat) (S : ks_S), ks_ok S → ks_ok (ks_rdLoop c (some a) i k S) := by
              intro k
              induction k with
              | zero => exact fun _ _ h => h
              | succ k ih => exact fun i S hS => ih (i + 1) _ (ks_ok_rdStep hS (mm_lt_some (kt_tr_up (kt_ok_tr o) hc ha).1) i)
            exact lp 12 1 _ oS
          refine kq_good2 h hm okU ?_ ?_ (by rw [eV, eK])
          · rw [eS]
            exact kq_un_S (by rw [kp]; exact h4) hc (by rw [KS]; exact ha) p1 p13 (by rw [KS]; exact hp) (by rw [KS]; exact u) (by rw [KS]; exact us) (by rw [KS]; exact ul)
          · rw [kq_V_mv eV, eK, kc_mv_st h hm]
            rfl
        · rw [if_neg c3, decide_eq_false c3, if_neg (show ¬ false = true by decide), km_late_03 M c3]
          exact kq_bad h rfl
  · rw [if_neg (show ¬ ks_hasI (kz (m_sh M)) (nI 1) n = true from c1), if_neg c1]
    exact kq_bad h rfl
