/-! Mathematics: copy. -/
def kp_b (p : Nat → Bool) : Nat → Nat → Nat
  | _, 0 => 0
  | i, j + 1 => (if p i = true then 1 else 0) + kp_b p (i + 1) j
theorem kp_b_snoc (p : Nat → Bool) : ∀ (j i : Nat), kp_b p i (j + 1) = kp_b p i j + (if p (i + j) = true then 1 else 0) := by
  intro j
  induction j with
  | zero =>
    intro i
    show (if p i = true then 1 else 0) + 0 = 0 + (if p i = true then 1 else 0)
    omega
  | succ j ih =>
    intro i
    have e : kp_b p i (j + 1 + 1) = (if p i = true then 1 else 0) + kp_b p (i + 1) (j + 1) := rfl
    rw [e, ih (i + 1)]
    have e2 : kp_b p i (j + 1) = (if p i = true then 1 else 0) + kp_b p (i + 1) j := rfl
    rw [e2, show i + 1 + j = i + (j + 1) by omega]
    omega
theorem kp_b_congr {p q : Nat → Bool} : ∀ (j i : Nat), (∀ x, i ≤ x → x < i + j → p x = q x) → kp_b p i j = kp_b q i j := by
  intro j
  induction j with
  | zero => exact fun _ _ => rfl
  | succ j ih =>
    intro i h
    show (if p i = true then 1 else 0) + kp_b p (i + 1) j = (if q i = true then 1 else 0) + kp_b q (i + 1) j
    rw [h i (Nat.le_refl _) (by omega), ih (i + 1) (fun x h1 h2 => h x (by omega) (by omega))]
theorem kp_b_one {p q : Nat → Bool} {z : Nat} (h0 : p z = false) (h1 : q z = true) : ∀ (j i : Nat), i ≤ z → z < i + j → (∀ x, i ≤ x → x < i + j → ¬ x = z → p x = q x) → kp_b p i j + 1 = kp_b q i j := by
  intro j
  induction j with
  | zero => intro i a b; exact absurd a (by omega)
  | succ j ih =>
    intro i a b h
    show (if p i = true then 1 else 0) + kp_b p (i + 1) j + 1 = (if q i = true then 1 else 0) + kp_b q (i + 1) j
    by_cases c : i = z
    · subst c
      rw [h0, h1, if_neg (by decide), if_pos rfl, kp_b_congr j (i + 1) (fun x x1 x2 => h x (by omega) (by omega) (by omega))]
      omega
    · rw [h i (Nat.le_refl _) (by omega) c]
      have := ih (i + 1) (by omega) (by omega) (fun x x1 x2 => h x (by omega) (by omega))
      omega
theorem ks_cnt_b (f : Nat → Option Nat) (m : Nat) : ∀ n, ks_cnt f m n = kp_b (fun i => ks_am m (f i)) 0 n := by
  intro n
  induction n with
  | zero => rfl
  | succ n ih =>
    rw [kp_b_snoc, Nat.zero_add, ← ih]
    show ks_cnt f m n + _ = _
    cases f n with
    | none => rfl
    | some a => rfl
theorem km_rmX_b (S : ks_S) (f : Nat → Option Nat) (c : Nat) : ∀ (j i : Nat), km_rmX S f c i j = kp_b (fun i => ks_in S (f i) (some c)) i j := by
  intro j
  induction j with
  | zero => exact fun _ => rfl
  | succ j ih => intro i; show _ + km_rmX S f c (i + 1) j = _ + kp_b _ (i + 1) j; rw [ih]
theorem km_rmC_b (S : ks_S) (c : Nat) : ∀ (j i : Nat), km_rmC S c i j = kp_b (fun i => ks_has S 1 i && ks_in S (some i) (some c)) i j := by
  intro j
  induction j with
  | zero => exact fun _ => rfl
  | succ j ih => intro i; show _ + km_rmC S c (i + 1) j = _ + kp_b _ (i + 1) j; rw [ih]
theorem kp_b_sum (p : Nat → Bool) : ∀ (j i : Nat), kz_sumN (fun x => if p x = true then 1 else 0) (i + j) = kz_sumN (fun x => if p x = true then 1 else 0) i + kp_b p i j := by
  intro j
  induction j with
  | zero => exact fun _ => rfl
  | succ j ih =>
    intro i
    rw [show i + (j + 1) = (i + 1) + j by omega, ih (i + 1)]
    show kz_sumN _ i + (if p i = true then 1 else 0) + kp_b p (i + 1) j = _ + ((if p i = true then 1 else 0) + kp_b p (i + 1) j)
    omega
theorem kz_sum_congr {v w : Nat → Nat} : ∀ (L : List Nat), (∀ x, x ∈ L → v x = w x) → kz_sum v L = kz_sum w L := by
  intro L
  induction L with
  | nil => exact fun _ => rfl
  | cons x L ih =>
    intro h
    show v x + kz_sum v L = w x + kz_sum w L
    rw [h x List.mem_cons_self, ih (fun y hy => h y (List.mem_cons_of_mem _ hy))]
theorem kz_sum_len : ∀ (L : List Nat), kz_sum (fun _ => 1) L = L.length := by
  intro L
  induction L with
  | nil => rfl
  | cons x L ih => show 1 + kz_sum _ L = L.length + 1; rw [ih]; omega
theorem kp_e_sum {T : ks_S} {c : Nat} (g : Nat → Option Nat) : ∀ (j i : Nat), kz_sumN (fun y => if ks_in T (some y) (some c) = true then kp_e g y i j else 0) 13 ≤ kp_b (fun q => ks_in T (g q) (some c)) i j := by
  intro j
  induction j with
  | zero =>
    intro i
    have : ∀ n, kz_sumN (fun y => if ks_in T (some y) (some c) = true then kp_e g y i 0 else 0) n = 0 := by
      intro n
      induction n with
      | zero => rfl
      | succ n ih => show kz_sumN _ n + (if _ then kp_e g n i 0 else 0) = 0; rw [ih]; split <;> rfl
    rw [this]; exact Nat.zero_le _
  | succ j ih =>
    intro i
    have e : (fun y => if ks_in T (some y) (some c) = true then kp_e g y i (j + 1) else 0) = fun y => (if g i = some y then (if ks_in T (g i) (some c) = true then 1 else 0) else 0) + (if ks_in T (some y) (some c) = true then kp_e g y (i + 1) j else 0) := by
      funext y
      have st : kp_e g y i (j + 1) = (if g i = some y then 1 else 0) + kp_e g y (i + 1) j := rfl
      rw [st]
      by_cases h1 : g i = some y
      · rw [if_pos h1, if_pos h1, h1]
        split <;> omega
      · rw [if_neg h1, if_neg h1]
        split <;> omega
    rw [e, kz_sumN_add]
    have a1 := kz_sumN_one (g i) (if ks_in T (g i) (some c) = true then 1 else 0) 13
    have a2 := ih (i + 1)
    show _ ≤ (if ks_in T (g i) (some c) = true then 1 else 0) + kp_b _ (i + 1) j
    omega
/-- there is room for what is made -/
theorem kf_need {f0 : Nat → Option Nat} (o : kt_ok (kz f0)) {c x : Nat} (hc : c < 13) (hx : (kz f0).2.1 c = some x) (f : Nat) : (ky (kz f0).2.1 f c).length ≤ km_rmC (kz f0) c 1 12 ∧ kz_sum (fun y => kp_e (kz f0).2.2.1 y 0 6) (ky (kz f0).2.1 f c) ≤ km_rmX (kz f0) (kz f0).2.2.1 c 0 6 ∧ kz_sum (fun y => kp_e (kz f0).1 y 0 12) (ky (kz f0).2.1 f c) ≤ km_rmX (kz f0) (kz f0).1 c 0 12 := by
  have t := kt_ok_tr o
  have arc : kt_ar (kz f0).2.1 c := ⟨hc, Or.inr (by rw [hx]; exact fun w => nomatch w)⟩
  have nd := ky_nodup t f c arc
  have mem : ∀ y, y ∈ ky (kz f0).2.1 f c → y < 13 ∧ ks_has (kz f0) 1 y = true ∧ ks_in (kz f0) (some y) (some c) = true := fun y hy => by
    obtain ⟨g1, m, g2⟩ := ky_in t f c y arc hy
    have hin : ks_in (kz f0) (some y) (some c) = true := (kt_in_it o.1 (kt_ar_is o.1 t g1)).mpr ⟨m, g2⟩
    have py : ¬ (kz f0).2.1 y = none := fun w => by
      cases m with
      | zero =>
        have : y = c := Option.some.inj g2
        rw [this, hx] at w; cases w
      | succ m => rw [kt_it_n w] at g2; cases g2
    refine ⟨g1.1, ?_, hin⟩
    cases hp : (kz f0).2.1 y with
    | none => exact absurd hp py
    | some z => exact (ks_has_iff (S := kz f0) (k := 1) (n := y)).mpr ⟨by decide, g1.1, z, hp⟩
  refine ⟨?_, ?_, ?_⟩
  · rw [← kz_sum_len, km_rmC_b]
    have e1 : kz_sum (fun _ => 1) (ky (kz f0).2.1 f c) = kz_sum (fun y => if (ks_has (kz f0) 1 y && ks_in (kz f0) (some y) (some c)) = true then 1 else 0) (ky (kz f0).2.1 f c) := kz_sum_congr _ (fun y hy => by
      obtain ⟨-, m1, m2⟩ := mem y hy
      rw [m1, m2]; rfl)
    rw [e1]
    have le := kz_sum_le (fun y => if (ks_has (kz f0) 1 y && ks_in (kz f0) (some y) (some c)) = true then 1 else 0) 13 _ nd (fun y hy => (mem y hy).1)
    have s := kp_b_sum (fun y => ks_has (kz f0) 1 y && ks_in (kz f0) (some y) (some c)) 12 1
    rw [show 1 + 12 = 13 from rfl] at s
    have z : kz_sumN (fun y => if (ks_has (kz f0) 1 y && ks_in (kz f0) (some y) (some c)) = true then 1 else 0) 1 = 0 := by
      show 0 + (if (ks_has (kz f0) 1 0 && ks_in (kz f0) (some 0) (some c)) = true then 1 else 0) = 0
      have : ks_has (kz f0) 1 0 = false := by
        cases w : ks_has (kz f0) 1 0 with
        | false => rfl
        | true =>
          obtain ⟨-, -, y, hy⟩ := ks_has_iff.mp w
          have hy : (kz f0).2.1 0 = some y := hy
          rw [t.1] at hy; cases hy
      rw [this]; rfl
    omega
  · rw [km_rmX_b]
    have e1 : kz_sum (fun y => kp_e (kz f0).2.2.1 y 0 6) (ky (kz f0).2.1 f c) = kz_sum (fun y => if ks_in (kz f0) (some y) (some c) = true then kp_e (kz f0).2.2.1 y 0 6 else 0) (ky (kz f0).2.1 f c) := kz_sum_congr _ (fun y hy => by rw [(mem y hy).2.2, if_pos rfl])
    rw [e1]
    exact Nat.le_trans (kz_sum_le _ 13 _ nd (fun y hy => (mem y hy).1)) (kp_e_sum _ 6 0)
  · rw [km_rmX_b]
    have e1 : kz_sum (fun y => kp_e (kz f0).1 y 0 12) (ky (kz f0).2.1 f c) = kz_sum (fun y => if ks_in (kz f0) (some y) (some c) = true then kp_e (kz f0).1 y 0 12 else 0) (ky (kz f0).2.1 f c) := kz_sum_congr _ (fun y hy => by rw [(mem y hy).2.2, if_pos rfl])
    rw [e1]
    exact Nat.le_trans (kz_sum_le _ 13 _ nd (fun y hy => (mem y hy).1)) (kp_e_sum _ 12 0)
/-- class and reference see the same room -/
theorem kf_room {M : km_M} (o : kt_ok (km_S M)) {c x : Nat} (hc : c < 13) (hx : (km_S M).2.1 c = some x) : ks_room (km_S M) (nI 1) (some c) = km_room M c := by
  have t := kt_ok_tr o
  obtain ⟨a1, a2, a3⟩ := km_amt_many (f := m_sh M) o.1
  have b1 := km_amt_le (m_sh M) 12 1
  have b2 := km_amt_le (m_sh M) 6 13
  have b3 := km_amt_le (m_sh M) 12 19
  have f1 : ks_freeN (km_S M) 1 = 12 - km_amt (m_sh M) 1 12 := by rw [a1]; rfl
  have f2 : ks_freeN (km_S M) 2 = 6 - km_amt (m_sh M) 13 6 := by rw [a2]; rfl
  have f0 : ks_freeN (km_S M) 0 = 12 - km_amt (m_sh M) 19 12 := by rw [a3]; rfl
  have am : ∀ k i, k < 3 → i < ks_len k → ks_am (ks_mask (km_S M) (some c)) (ks_row (km_S M) k i) = ks_in (km_S M) (ks_row (km_S M) k i) (some c) := fun k i hk hi => kq_am o (fun a ha => o.2.1 k i a hk hi ha) c
  have m2 : ks_many (km_S M) 2 (ks_mask (km_S M) (some c)) = km_rmX (km_S M) (km_S M).2.2.1 c 0 6 := by
    rw [km_rmX_b]
    exact (ks_cnt_b _ _ _).trans (kp_b_congr 6 0 (fun i _ hi => am 2 i (by decide) (by show i < 6; omega)))
  have m0 : ks_many (km_S M) 0 (ks_mask (km_S M) (some c)) = km_rmX (km_S M) (km_S M).1 c 0 12 := by
    rw [km_rmX_b]
    exact (ks_cnt_b _ _ _).trans (kp_b_congr 12 0 (fun i _ hi => am 0 i (by decide) (by show i < 12; omega)))
  have c0 : ¬ c = 0 := fun w => by
    have h0 : (km_S M).2.1 0 = none := t.1
    rw [w, h0] at hx; cases hx
  have ic : kt_is (km_S M) c := o.2.2 c hc (Or.inr (by rw [hx]; exact fun w => nomatch w))
  have ix : kt_is (km_S M) x := o.2.1 1 c x (by decide) hc hx
  have m1 : ks_many (km_S M) 1 (ks_mask (km_S M) (some c)) + 1 = km_rmC (km_S M) c 1 12 := by
    rw [km_rmC_b]
    have e1 : ks_many (km_S M) 1 (ks_mask (km_S M) (some c)) = kp_b (fun i => ks_am (ks_mask (km_S M) (some c)) ((km_S M).2.1 i)) 1 12 := by
      refine (ks_cnt_b _ _ _).trans ?_
      show (if ks_am (ks_mask (km_S M) (some c)) ((km_S M).2.1 0) = true then 1 else 0) + kp_b _ 1 12 = _
      rw [show (km_S M).2.1 0 = none from t.1]
      show (if false = true then 1 else 0) + _ = _
      rw [if_neg (by decide), Nat.zero_add]
      rfl
    rw [e1]
    refine kp_b_one (z := c) ?_ ?_ 12 1 (by omega) (by omega) (fun k k1 k2 kc => ?_)
    · show ks_am (ks_mask (km_S M) (some c)) ((km_S M).2.1 c) = false
      have := am 1 c (by decide) hc
      have this : ks_am (ks_mask (km_S M) (some c)) ((km_S M).2.1 c) = ks_in (km_S M) ((km_S M).2.1 c) (some c) := this
      rw [this, hx]
      cases w : ks_in (km_S M) (some x) (some c) with
      | false => rfl
      | true =>
        obtain ⟨m, hm⟩ := (kt_in_it o.1 ix).mp w
        have e2 : kt_it (km_S M).2.1 (m + 1) c = some c := by rw [kt_it_s hx]; exact hm
        have := kt_it_uniq2 t (kt_is_ar ic) e2 (show kt_it (km_S M).2.1 0 c = some c from rfl)
        omega
    · show (ks_has (km_S M) 1 c && ks_in (km_S M) (some c) (some c)) = true
      rw [(ks_has_iff (S := km_S M) (k := 1) (n := c)).mpr ⟨by decide, hc, x, hx⟩, (kt_in_it o.1 ic).mpr ⟨0, rfl⟩]; rfl
    · show ks_am (ks_mask (km_S M) (some c)) ((km_S M).2.1 k) = (ks_has (km_S M) 1 k && ks_in (km_S M) (some k) (some c))
      have := am 1 k (by decide) (by show k < 13; omega)
      have this : ks_am (ks_mask (km_S M) (some c)) ((km_S M).2.1 k) = ks_in (km_S M) ((km_S M).2.1 k) (some c) := this
      rw [this]
      cases hp : (km_S M).2.1 k with
      | none =>
        have : ks_has (km_S M) 1 k = false := by
          cases w : ks_has (km_S M) 1 k with
          | false => rfl
          | true =>
            obtain ⟨-, -, y, hy⟩ := ks_has_iff.mp w
            have hy : (km_S M).2.1 k = some y := hy
            rw [hp] at hy; cases hy
        rw [this]; rfl
      | some y =>
        rw [(ks_has_iff (S := km_S M) (k := 1) (n := k)).mpr ⟨by decide, (by show k < 13; omega), y, hp⟩, Bool.true_and]
        exact (kq_in_step o (by omega) hp kc).symm
  unfold ks_room km_room
  rw [if_neg (by decide), f1, f2, f0, m2, m0]
  have d1 : decide (ks_many (km_S M) 1 (ks_mask (km_S M) (some c)) < 12 - km_amt (m_sh M) 1 12) = decide (km_amt (m_sh M) 1 12 + km_rmC (km_S M) c 1 12 ≤ 12) := by
    by_cases w : km_amt (m_sh M) 1 12 + km_rmC (km_S M) c 1 12 ≤ 12
    · rw [decide_eq_true w, decide_eq_true (by omega)]
    · rw [decide_eq_false w, decide_eq_false (by omega)]
  have d2 : decide (km_rmX (km_S M) (km_S M).2.2.1 c 0 6 ≤ 6 - km_amt (m_sh M) 13 6) = decide (km_amt (m_sh M) 13 6 + km_rmX (km_S M) (km_S M).2.2.1 c 0 6 ≤ 6) := by
    by_cases w : km_amt (m_sh M) 13 6 + km_rmX (km_S M) (km_S M).2.2.1 c 0 6 ≤ 6
    · rw [decide_eq_true w, decide_eq_true (by omega)]
    · rw [decide_eq_false w, decide_eq_false (by omega)]
  have d3 : decide (km_rmX (km_S M) (km_S M).1 c 0 12 ≤ 12 - km_amt (m_sh M) 19 12) = decide (km_amt (m_sh M) 19 12 + km_rmX (km_S M) (km_S M).1 c 0 12 ≤ 12) := by
    by_cases w : km_amt (m_sh M) 19 12 + km_rmX (km_S M) (km_S M).1 c 0 12 ≤ 12
    · rw [decide_eq_true w, decide_eq_true (by omega)]
    · rw [decide_eq_false w, decide_eq_false (by omega)]
  rw [d1, d2, d3]
