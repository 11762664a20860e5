/-! Mathematics: copies. -/
theorem kf_amt_u {g : Nat → Option Nat} {q a : Nat} (hq : g q = none) : ∀ (j i : Nat), i ≤ q → q < i + j → km_amt (ks_u g q (some a)) i j = km_amt g i j + 1 := by
  intro j
  induction j with
  | zero => intro i h1 h2; exact absurd h1 (by omega)
  | succ j ih =>
    intro i h1 h2
    show (if ks_u g q (some a) i = none then 0 else 1) + km_amt (ks_u g q (some a)) (i + 1) j = (if g i = none then 0 else 1) + km_amt g (i + 1) j + 1
    by_cases c : i = q
    · subst c
      have e : km_amt (ks_u g i (some a)) (i + 1) j = km_amt g (i + 1) j := km_amt_congr j (i + 1) (i + 1) (fun p hp => by rw [ks_u_ne _ _ (by omega)])
      rw [e, ks_u_at, if_neg (fun w => nomatch w), if_pos hq]
      omega
    · rw [ks_u_ne _ _ c, ih (i + 1) (by omega) (by omega)]
      omega
/-- how many numbers are taken -/
def kf_am (T : ks_S) (k : Nat) : Nat := km_amt (ks_row T k) (ks_least k) (ks_len k - ks_least k)
theorem kf_slot {T : ks_S} {k : Nat} (h : kf_am T k < ks_len k - ks_least k) : ∃ j, ks_slot T k = some j := by
  cases hs : ks_slot T k with
  | some j => exact ⟨j, rfl⟩
  | none =>
    have := (ks_free_none _ _).mp hs
    unfold kf_am at h
    omega
theorem kf_am_u {T T' : ks_S} {k j a : Nat} (hs : ks_slot T k = some j) (e : ks_row T' k = ks_u (ks_row T k) j (some a)) : kf_am T' k = kf_am T k + 1 := by
  obtain ⟨h1, h2, h3⟩ := ks_slot_some hs
  unfold kf_am
  rw [e]
  exact kf_amt_u h3 _ _ h1 (by omega)
theorem kf_am_same {T T' : ks_S} {k : Nat} (e : ks_row T' k = ks_row T k) : kf_am T' k = kf_am T k := by unfold kf_am; rw [e]
/-- which line stands for one in the copy -/
def kf_st (nl : Nat → Option Nat) (n : Nat) : Nat := (nl n).getD n
theorem kf_nh (T : kd_T) (n : Nat) : kd_nh T (some n) = some (kf_st T.2 n) := by
  show (if T.2 n = none then some n else T.2 n) = _
  unfold kf_st
  cases h : T.2 n with
  | none => rw [if_pos rfl]; rfl
  | some v => rw [if_neg (fun w => nomatch w)]; rfl
section KF
variable (f0 : Nat → Option Nat) (n : Nat)
/-- within the cut that is copied -/
def kf_W (y : Nat) : Prop := y < 13 ∧ ∃ m, kt_it (kz f0).2.1 m y = some n
/-- class and reference while they copy -/
def kf_S (T : ks_T) (U : kd_T) : Prop := kq T.1 U.1 ∧ ks_ok T.1 ∧ (∀ i, i < 6 → T.2 i = some (kf_st U.2 i) ∧ mm_lt (U.2 i) 6) ∧ (∀ q, q < 31 → ¬ f0 q = none → U.1 q = f0 q) ∧ ∀ q y, q < 31 → kf_W f0 n y → U.1 q = some y → f0 q = some y
end KF
/-- rows grow; what is new lies in x, if it is a cut, or in new areas -/
def kf_E (f f' : Nat → Option Nat) (x : Nat) : Prop := (∀ q, q < 31 → ¬ f q = none → f' q = f q) ∧ ∀ q, q < 31 → f q = none → f' q = none ∨ ∃ b, f' q = some b ∧ ((q < 13 ∧ b = x) ∨ ¬ kt_ar (kz f).2.1 b)
theorem kf_E_ar {f f' : Nat → Option Nat} {x y : Nat} (e : kf_E f f' x) (h : kt_ar (kz f).2.1 y) : kt_ar (kz f').2.1 y := by
  refine ⟨h.1, h.2.elim Or.inl (fun w => Or.inr ?_)⟩
  rw [kz_c f h.1] at w
  rw [kz_c f' h.1, e.1 y (by have := h.1; omega) w]
  exact w
theorem kf_E_trans {f f1 f2 : Nat → Option Nat} {x z : Nat} (e1 : kf_E f f1 x) (e2 : kf_E f1 f2 z) (hz : z = x ∨ ¬ kt_ar (kz f).2.1 z) : kf_E f f2 x := by
  refine ⟨fun q hq h => ?_, fun q hq h => ?_⟩
  · have a := e1.1 q hq h
    rw [← a]
    exact e2.1 q hq (by rw [a]; exact h)
  · by_cases c : f1 q = none
    · rcases e2.2 q hq c with w | ⟨b, w1, w2⟩
      · exact Or.inl w
      · refine Or.inr ⟨b, w1, ?_⟩
        rcases w2 with ⟨w3, w4⟩ | w3
        · rcases hz with u | u
          · exact Or.inl ⟨w3, w4.trans u⟩
          · exact Or.inr (by rw [w4]; exact u)
        · exact Or.inr (fun u => w3 (kf_E_ar e1 u))
    · rcases e1.2 q hq h with w | ⟨b, w1, w2⟩
      · exact absurd w c
      · exact Or.inr ⟨b, (e2.1 q hq c).trans w1, w2⟩
theorem kf_E_way {f f' : Nat → Option Nat} {x : Nat} (e : kf_E f f' x) (t : kt_tr (kz f).2.1) : ∀ (m y z : Nat), y < 13 → kt_it (kz f).2.1 m y = some z → kt_it (kz f').2.1 m y = some z := by
  intro m
  induction m with
  | zero => exact fun _ _ _ h => h
  | succ m ih =>
    intro y z hy h
    cases hp : (kz f).2.1 y with
    | none => rw [kt_it_n hp] at h; cases h
    | some w =>
      rw [kt_it_s hp] at h
      have hp' : (kz f').2.1 y = some w := by
        rw [kz_c f hy] at hp
        rw [kz_c f' hy, e.1 y (by omega) (by rw [hp]; exact fun u => nomatch u)]
        exact hp
      rw [kt_it_s hp']
      exact ih w z (t.2.1 y w hy hp) h
theorem kf_E_yaw {f f' : Nat → Option Nat} {x : Nat} (e : kf_E f f' x) (t : kt_tr (kz f).2.1) (t' : kt_tr (kz f').2.1) {m y z : Nat} (hy : kt_ar (kz f).2.1 y) (h : kt_it (kz f').2.1 m y = some z) : kt_it (kz f).2.1 m y = some z := by
  obtain ⟨q, hq⟩ := kt_ar_way t hy
  have hq' := kf_E_way e t q y 0 hy.1 hq
  rcases Nat.lt_or_ge q m with c | c
  · obtain ⟨k, hk⟩ : ∃ k, m = q + (k + 1) := ⟨m - q - 1, by omega⟩
    rw [hk, kt_it_add, hq'] at h
    have h : kt_it (kz f').2.1 (k + 1) 0 = some z := h
    rw [kt_it_0 t'.1] at h; cases h
  · obtain ⟨z', h1, -⟩ := kt_it_part hq c
    have := kf_E_way e t m y z' hy.1 h1
    rw [h] at this
    rw [h1, Option.some.inj this]
/-- lines around a cut stand for lines around its copy -/
def kf_sc (U : kd_T) (c x i : Nat) : Prop := ∀ n b, n < 6 → U.1 (13 + n) = some b → ((∃ m, kt_it (kz U.1).2.1 (m + 1) c = some b) ∨ (b = c ∧ n < i)) → ∃ b', kf_st U.2 n < 6 ∧ U.1 (13 + kf_st U.2 n) = some b' ∧ ∃ m, kt_it (kz U.1).2.1 m x = some b'
theorem kf_W_ar {f0 : Nat → Option Nat} {n y : Nat} (hn : ¬ f0 n = none) (n13 : n < 13) (h : kf_W f0 n y) : kt_ar (kz f0).2.1 y := by
  obtain ⟨h13, m, hm⟩ := h
  refine ⟨h13, Or.inr ?_⟩
  cases m with
  | zero =>
    have : y = n := Option.some.inj hm
    rw [this, kz_c f0 n13]; exact hn
  | succ m => exact fun w => by rw [kt_it_n w] at hm; cases hm
/-- the lines of a cut are copied -/
theorem kf_cpL {f0 kp : Nat → Option Nat} {n bb c j : Nat} (hkp : ∀ q, q < 67 → kp (bb + q) = f0 q) (Wc : kf_W f0 n c) (nWj : ¬ kf_W f0 n j) (cj : ¬ j = c) : ∀ (k i : Nat) (T : ks_T) (U : kd_T), i + k = 6 → kf_S f0 n T U → kt_ar (kz U.1).2.1 j → (∀ q, q < 13 → ¬ U.1 q = some j) → kf_sc U c j i → kf_am (kz U.1) 2 + kp_e (kz f0).2.2.1 c i k ≤ 6 →
    ∃ U', kd_cpL kp bb c j i k U = some U' ∧ kf_S f0 n (ks_cpL c (some j) i k T) U' ∧ (∀ q, (q < 13 ∨ 19 ≤ q) → U'.1 q = U.1 q) ∧ (∀ q, q < 6 → (¬ U.1 (13 + q) = none → U'.1 (13 + q) = U.1 (13 + q)) ∧ (U.1 (13 + q) = none → U'.1 (13 + q) = none ∨ U'.1 (13 + q) = some j)) ∧ kf_sc U' c j 6 ∧ (∀ q, q < 6 → ¬ f0 (13 + q) = some c → U'.2 q = U.2 q) ∧ kf_am (kz U'.1) 2 = kf_am (kz U.1) 2 + kp_e (kz f0).2.2.1 c i k := by
  intro k
  induction k with
  | zero =>
    intro i T U hi hS hj hl hsc hr
    have hi : i = 6 := by omega
    subst hi
    exact ⟨U, rfl, hS, fun _ _ => rfl, fun q _ => ⟨fun _ => rfl, fun w => Or.inl w⟩, hsc, fun _ _ _ => rfl, rfl⟩
  | succ k ih =>
    intro i T U hi hS hj hl hsc hr
    obtain ⟨s1, s2, s3, s4, s5⟩ := hS
    have ek : kp (bb + 13 + i) = f0 (13 + i) := by rw [Nat.add_assoc]; exact hkp _ (by omega)
    have st1 : kd_cpL kp bb c j i (k + 1) U = if kp (bb + 13 + i) = some c then (kd_ln U i j).bind (kd_cpL kp bb c j (i + 1) k) else kd_cpL kp bb c j (i + 1) k U := rfl
    have st2 : ks_cpL c (some j) i (k + 1) T = ks_cpL c (some j) (i + 1) k (if T.1.2.2.1 i = some c then (ks_add T.1 2 (some j), ks_u T.2 i (ks_slot T.1 2)) else T) := rfl
    have eO : (kz f0).2.2.1 i = f0 (13 + i) := kz_l f0 (by omega)
    have eT : T.1.2.2.1 i = U.1 (13 + i) := by rw [s1.1.1.2.2]; exact kz_l U.1 (by omega)
    have ee : kp_e (kz f0).2.2.1 c i (k + 1) = (if (kz f0).2.2.1 i = some c then 1 else 0) + kp_e (kz f0).2.2.1 c (i + 1) k := rfl
    rw [st1, st2, ek, eT]
    rw [ee, eO] at hr ⊢
    by_cases cc : f0 (13 + i) = some c
    · have cu : U.1 (13 + i) = some c := (s4 _ (by omega) (by rw [cc]; exact fun w => nomatch w)).trans cc
      rw [if_pos cc] at hr ⊢
      rw [if_pos cc, if_pos cu]
      obtain ⟨v, hv⟩ := kf_slot (T := kz U.1) (k := 2) (by show kf_am (kz U.1) 2 < 6; omega)
      obtain ⟨-, v6, vn⟩ := ks_slot_some hv
      have v6 : v < 6 := v6
      have vn : U.1 (13 + v) = none := (kz_l U.1 v6).symm.trans vn
      have hvS : ks_slot T.1 2 = some v := by rw [kq_slot s1.1.1]; exact hv
      have en : kd_new U 2 = v := by unfold kd_new; rw [hv]; rfl
      have el : kd_ln U i j = some (ks_u U.1 (13 + v) (some j), ks_u U.2 i (some v)) := by unfold kd_ln; rw [en, if_pos v6]
      rw [el, hvS]
      obtain ⟨U1, eU1⟩ : ∃ X : kd_T, X = (ks_u U.1 (13 + v) (some j), ks_u U.2 i (some v)) := ⟨_, rfl⟩
      obtain ⟨T1, eT1⟩ : ∃ X : ks_T, X = (ks_add T.1 2 (some j), ks_u T.2 i (some v)) := ⟨_, rfl⟩
      have ez : kz U1.1 = ((kz U.1).1, (kz U.1).2.1, ks_u (kz U.1).2.2.1 v (some j), (kz U.1).2.2.2) := by rw [eU1]; exact kz_ul U.1 v6 (some j)
      have eP : (kz U1.1).2.1 = (kz U.1).2.1 := by rw [ez]
      have iv : ¬ i = v := fun w => by rw [w, vn] at cu; cases cu
      have u1 : ∀ q, U1.1 q = ks_u U.1 (13 + v) (some j) q := fun q => by rw [eU1]
      have u2 : ∀ q, U1.2 q = ks_u U.2 i (some v) q := fun q => by rw [eU1]
      have stq : ∀ q, ¬ q = i → kf_st U1.2 q = kf_st U.2 q := fun q w => by unfold kf_st; rw [u2, ks_u_ne _ _ w]
      have sti : kf_st U1.2 i = v := by unfold kf_st; rw [u2, ks_u_at]; rfl
      have hS1 : kf_S f0 n T1 U1 := by
        refine ⟨?_, ?_, fun q hq => ⟨?_, ?_⟩, fun q hq h => ?_, fun q y hq hy h => ?_⟩
        · rw [eT1, eU1]; exact kq_add_line s1 hvS hj
        · rw [eT1]; exact ks_ok_add s2 (by decide) (mm_lt_some hj.1)
        · rw [eT1]
          show ks_u T.2 i (some v) q = _
          by_cases w : q = i
          · rw [w, ks_u_at, sti]
          · rw [ks_u_ne _ _ w, stq q w]; exact (s3 q hq).1
        · rw [u2]
          by_cases w : q = i
          · rw [w, ks_u_at]; exact mm_lt_some v6
          · rw [ks_u_ne _ _ w]; exact (s3 q hq).2
        · rw [u1]
          by_cases w : q = 13 + v
          · have := s4 q hq h
            rw [w, vn] at this
            rw [w, ← this] at h
            exact absurd rfl h
          · rw [ks_u_ne _ _ w]; exact s4 q hq h
        · rw [u1] at h
          by_cases w : q = 13 + v
          · rw [w, ks_u_at] at h
            cases h
            exact absurd hy nWj
          · rw [ks_u_ne _ _ w] at h; exact s5 q y hq hy h
      have hsc1 : kf_sc U1 c j (i + 1) := by
        intro q b q6 hq hcond
        by_cases w : q = i
        · refine ⟨j, ?_⟩
          rw [w, sti, u1, ks_u_at]
          exact ⟨v6, rfl, 0, rfl⟩
        · rw [stq q w]
          have hq0 : U.1 (13 + q) = some b := by
            rw [u1] at hq
            by_cases w2 : q = v
            · rw [w2, ks_u_at] at hq
              cases hq
              rcases hcond with ⟨m, hm⟩ | ⟨h1, -⟩
              · rw [eP, kt_it_add] at hm
                cases hy : kt_it (kz U.1).2.1 m c with
                | none => rw [hy] at hm; cases hm
                | some y =>
                  rw [hy] at hm
                  have hm : kt_it (kz U.1).2.1 1 y = some j := hm
                  rw [kt_it_one] at hm
                  by_cases y13 : y < 13
                  · rw [kz_c U.1 y13] at hm; exact absurd hm (hl y y13)
                  · have : (kz U.1).2.1 y = none := if_neg y13
                    rw [this] at hm; cases hm
              · exact absurd h1 cj
            · rw [ks_u_ne _ _ (by omega)] at hq; exact hq
          have hcond0 : (∃ m, kt_it (kz U.1).2.1 (m + 1) c = some b) ∨ (b = c ∧ q < i) := by
            rcases hcond with ⟨m, hm⟩ | ⟨h1, h2⟩
            · rw [eP] at hm; exact Or.inl ⟨m, hm⟩
            · exact Or.inr ⟨h1, by omega⟩
          obtain ⟨b', g1, g2, m, g3⟩ := hsc q b q6 hq0 hcond0
          refine ⟨b', g1, ?_, m, by rw [eP]; exact g3⟩
          rw [u1, ks_u_ne _ _ (fun w3 => by rw [w3, vn] at g2; cases g2)]
          exact g2
      have am1 : kf_am (kz U1.1) 2 = kf_am (kz U.1) 2 + 1 := kf_am_u (k := 2) hv (by rw [ez]; rfl)
      obtain ⟨U', g1, g2, g3, g4, g5, g6, g7⟩ := ih (i + 1) T1 U1 (by omega) hS1 (by rw [eP]; exact hj) (fun q hq => by rw [u1, ks_u_ne _ _ (by omega)]; exact hl q hq) hsc1 (by omega)
      rw [eU1] at g1
      rw [eT1] at g2
      refine ⟨U', g1, g2, fun q hq => ?_, fun q hq => ⟨fun h => ?_, fun h => ?_⟩, g5, fun q hq h => ?_, by omega⟩
      · rw [g3 q hq, u1, ks_u_ne _ _ (by omega)]
      · have w : ¬ q = v := fun w => by rw [w, vn] at h; exact h rfl
        have e9 : U1.1 (13 + q) = U.1 (13 + q) := by rw [u1, ks_u_ne _ _ (by omega)]
        rw [(g4 q hq).1 (by rw [e9]; exact h), e9]
      · by_cases w : q = v
        · have e9 : U1.1 (13 + q) = some j := by rw [u1, w, ks_u_at]
          exact Or.inr (by rw [(g4 q hq).1 (by rw [e9]; exact fun z => nomatch z), e9])
        · exact (g4 q hq).2 (by rw [u1, ks_u_ne _ _ (by omega)]; exact h)
      · rw [g6 q hq h, u2, ks_u_ne _ _ (fun w => h (by rw [w]; exact cc))]
    · have cu : ¬ U.1 (13 + i) = some c := fun w => cc (s5 _ c (by omega) Wc w)
      rw [if_neg cc] at hr ⊢
      rw [if_neg cc, if_neg cu]
      rw [Nat.zero_add] at hr ⊢
      refine ih (i + 1) T U (by omega) ⟨s1, s2, s3, s4, s5⟩ hj hl (fun q b q6 hq hcond => hsc q b q6 hq ?_) hr
      rcases hcond with w | ⟨h1, h2⟩
      · exact Or.inl w
      · refine Or.inr ⟨h1, ?_⟩
        have : ¬ q = i := fun w => by rw [w, h1] at hq; exact cu hq
        omega
