/-! Mathematics: the tree of areas. -/
def kt_it (P : Nat → Option Nat) : Nat → Nat → Option Nat
  | 0, x => some x
  | n + 1, x => (P x).bind (kt_it P n)
theorem kt_it_s {P : Nat → Option Nat} {n x y : Nat} (h : P x = some y) : kt_it P (n + 1) x = kt_it P n y := by
  show (P x).bind (kt_it P n) = _
  rw [h]; rfl
theorem kt_it_n {P : Nat → Option Nat} {n x : Nat} (h : P x = none) : kt_it P (n + 1) x = none := by
  show (P x).bind (kt_it P n) = _
  rw [h]; rfl
theorem kt_it_add (P : Nat → Option Nat) (n : Nat) : ∀ (m x : Nat), kt_it P (m + n) x = (kt_it P m x).bind (kt_it P n) := by
  intro m
  induction m with
  | zero => intro x; rw [Nat.zero_add]; rfl
  | succ m ih =>
    intro x
    rw [show m + 1 + n = (m + n) + 1 by omega]
    cases h : P x with
    | none => rw [kt_it_n h, kt_it_n h]; rfl
    | some y => rw [kt_it_s h, kt_it_s h]; exact ih y
theorem kt_it_one (P : Nat → Option Nat) (x : Nat) : kt_it P 1 x = P x := by
  cases h : P x with
  | none => exact kt_it_n h
  | some y => exact kt_it_s h
/-- one more step, at the end -/
theorem kt_it_end {P : Nat → Option Nat} {n x y : Nat} (h : kt_it P n x = some y) : kt_it P (n + 1) x = P y := by
  rw [kt_it_add, h]
  exact kt_it_one P y
theorem kt_it_cat {P : Nat → Option Nat} {m n x y z : Nat} (h1 : kt_it P m x = some y) (h2 : kt_it P n y = some z) : kt_it P (m + n) x = some z := by
  rw [kt_it_add, h1]; exact h2
theorem kt_it_0 {P : Nat → Option Nat} (h0 : P 0 = none) : ∀ n, kt_it P (n + 1) 0 = none := fun _ => kt_it_n h0
/-- the sheet is reached after one number of steps only -/
theorem kt_it_uniq {P : Nat → Option Nat} (h0 : P 0 = none) {m n x : Nat} (h1 : kt_it P m x = some 0) (h2 : kt_it P n x = some 0) : m = n := by
  rcases Nat.lt_trichotomy m n with h | h | h
  · obtain ⟨k, hk⟩ : ∃ k, n = m + (k + 1) := ⟨n - m - 1, by omega⟩
    rw [hk, kt_it_add, h1] at h2
    have h2 : kt_it P (k + 1) 0 = some 0 := h2
    rw [kt_it_0 h0] at h2
    cases h2
  · exact h
  · obtain ⟨k, hk⟩ : ∃ k, m = n + (k + 1) := ⟨m - n - 1, by omega⟩
    rw [hk, kt_it_add, h2] at h1
    have h1 : kt_it P (k + 1) 0 = some 0 := h1
    rw [kt_it_0 h0] at h1
    cases h1
/-- a part of the way -/
theorem kt_it_part {P : Nat → Option Nat} {m n x z : Nat} (h : kt_it P n x = some z) (hm : m ≤ n) : ∃ y, kt_it P m x = some y ∧ kt_it P (n - m) y = some z := by
  rw [show n = m + (n - m) by omega, kt_it_add] at h
  cases hy : kt_it P m x with
  | none => rw [hy] at h; cases h
  | some y => rw [hy] at h; exact ⟨y, rfl, h⟩
/-- no more pigeons than holes -/
theorem kt_php : ∀ (m n : Nat) (g : Nat → Nat), (∀ i, i < n → g i < m) → (∀ i j, i < n → j < n → g i = g j → i = j) → n ≤ m := by
  intro m
  induction m with
  | zero =>
    intro n g h1 _
    rcases Nat.eq_zero_or_pos n with h | h
    · omega
    · exact absurd (h1 0 h) (by omega)
  | succ m ih =>
    intro n g h1 h2
    by_cases hx : ∃ k, k < n ∧ g k = m
    · obtain ⟨k, hk, ek⟩ := hx
      have := ih (n - 1) (fun i => if i < k then g i else g (i + 1)) (fun i hi => by
        show (if i < k then g i else g (i + 1)) < m
        by_cases c : i < k
        · rw [if_pos c]
          have a := h1 i (by omega)
          have b : ¬ g i = m := fun w => by have := h2 i k (by omega) hk (by omega); omega
          omega
        · rw [if_neg c]
          have a := h1 (i + 1) (by omega)
          have b : ¬ g (i + 1) = m := fun w => by have := h2 (i + 1) k (by omega) hk (by omega); omega
          omega) (fun i j hi hj e => by
        have e : (if i < k then g i else g (i + 1)) = (if j < k then g j else g (j + 1)) := e
        by_cases ci : i < k
        · rw [if_pos ci] at e
          by_cases cj : j < k
          · rw [if_pos cj] at e; exact h2 i j (by omega) (by omega) e
          · rw [if_neg cj] at e; have := h2 i (j + 1) (by omega) (by omega) e; omega
        · rw [if_neg ci] at e
          by_cases cj : j < k
          · rw [if_pos cj] at e; have := h2 (i + 1) j (by omega) (by omega) e; omega
          · rw [if_neg cj] at e; have := h2 (i + 1) (j + 1) (by omega) (by omega) e; omega)
      omega
    · have := ih n g (fun i hi => by
        have a := h1 i hi
        have b : ¬ g i = m := fun w => hx ⟨i, hi, w⟩
        omega) h2
      omega
/-- the numbers on a way are in range -/
theorem kt_it_lt {P : Nat → Option Nat} {N : Nat} (hP : ∀ x y, x < N → P x = some y → y < N) : ∀ (n x y : Nat), x < N → kt_it P n x = some y → y < N := by
  intro n
  induction n with
  | zero => intro x y hx h; cases h; exact hx
  | succ n ih =>
    intro x y hx h
    cases hp : P x with
    | none => rw [kt_it_n hp] at h; cases h
    | some z => rw [kt_it_s hp] at h; exact ih z y (hP x z hx hp) h
theorem kt_short {P : Nat → Option Nat} {N : Nat} (h0 : P 0 = none) (hP : ∀ x y, x < N → P x = some y → y < N) {m x : Nat} (hx : x < N) (h : kt_it P m x = some 0) : m + 1 ≤ N := by
  refine kt_php N (m + 1) (fun i => (kt_it P i x).getD 0) (fun i hi => ?_) (fun i j hi hj e => ?_)
  · obtain ⟨y, h1, -⟩ := kt_it_part h (show i ≤ m by omega)
    show (kt_it P i x).getD 0 < N
    rw [h1]
    exact kt_it_lt hP i x y hx h1
  · obtain ⟨y, h1, h2⟩ := kt_it_part h (show i ≤ m by omega)
    obtain ⟨z, h3, h4⟩ := kt_it_part h (show j ≤ m by omega)
    have e : (kt_it P i x).getD 0 = (kt_it P j x).getD 0 := e
    rw [h1, h3] at e
    have e : y = z := e
    subst e
    have := kt_it_uniq h0 h2 h4
    omega
theorem kt_path_it {S : ks_S} : ∀ (n x : Nat), kt_path S n x ↔ ∃ m, m ≤ n ∧ kt_it S.2.1 m x = some 0 := by
  intro n
  induction n with
  | zero =>
    intro x
    constructor
    · intro h
      have h : x = 0 := h
      subst h
      exact ⟨0, Nat.le_refl _, rfl⟩
    · rintro ⟨m, hm, h⟩
      have hm : m = 0 := by omega
      subst hm
      exact Option.some.inj h
  | succ n ih =>
    intro x
    constructor
    · rintro (h | ⟨y, h1, h2⟩)
      · subst h; exact ⟨0, Nat.zero_le _, rfl⟩
      · obtain ⟨m, hm, h3⟩ := (ih y).mp h2
        exact ⟨m + 1, by omega, by rw [kt_it_s h1]; exact h3⟩
    · rintro ⟨m, hm, h⟩
      cases m with
      | zero => exact Or.inl (Option.some.inj h)
      | succ m =>
        cases hp : S.2.1 x with
        | none => rw [kt_it_n hp] at h; cases h
        | some y =>
          rw [kt_it_s hp] at h
          exact Or.inr ⟨y, hp, (ih y).mpr ⟨m, by omega, h⟩⟩
/-- an area: some way leads to the sheet -/
theorem kt_is_it {S : ks_S} (h0 : S.2.1 0 = none) (hP : ∀ x y, x < 13 → S.2.1 x = some y → y < 13) {x : Nat} : kt_is S x ↔ x < 13 ∧ ∃ m, kt_it S.2.1 m x = some 0 := by
  constructor
  · rintro ⟨h1, h2⟩
    obtain ⟨m, -, h⟩ := (kt_path_it 12 x).mp h2
    exact ⟨h1, m, h⟩
  · rintro ⟨h1, m, h⟩
    exact ⟨h1, (kt_path_it 12 x).mpr ⟨m, by have := kt_short h0 hP h1 h; omega, h⟩⟩
theorem kt_meets_it {S : ks_S} {b : Nat} : ∀ (f x : Nat), ks_meets S (some b) f (some x) = true ↔ ∃ n, n < f ∧ kt_it S.2.1 n x = some b := by
  intro f
  induction f with
  | zero =>
    intro x
    constructor
    · intro h; cases h
    · rintro ⟨n, hn, -⟩; exact absurd hn (by omega)
  | succ f ih =>
    intro x
    have e : ks_meets S (some b) (f + 1) (some x) = if some x = some b then true else ks_meets S (some b) f (S.2.1 x) := rfl
    rw [e]
    constructor
    · intro h
      by_cases hx : x = b
      · exact ⟨0, by omega, by rw [hx]; rfl⟩
      · rw [if_neg (fun w => hx (Option.some.inj w))] at h
        cases hp : S.2.1 x with
        | none =>
          rw [hp] at h
          cases f with
          | zero => cases h
          | succ f => cases h
        | some y =>
          rw [hp] at h
          obtain ⟨n, hn, h2⟩ := (ih y).mp h
          exact ⟨n + 1, by omega, by rw [kt_it_s hp]; exact h2⟩
    · rintro ⟨n, hn, h⟩
      by_cases hx : x = b
      · rw [if_pos (by rw [hx])]
      · rw [if_neg (fun w => hx (Option.some.inj w))]
        cases n with
        | zero => exact absurd (Option.some.inj h) hx
        | succ n =>
          cases hp : S.2.1 x with
          | none => rw [kt_it_n hp] at h; cases h
          | some y =>
            rw [kt_it_s hp] at h
            exact (ih y).mpr ⟨n, by omega, h⟩
/-- what kt_ok says of parents -/
theorem kt_ok_P {S : ks_S} (o : ks_ok S) : ∀ x y, x < 13 → S.2.1 x = some y → y < 13 := fun x y hx h => o.1 1 x y hx h
theorem kt_in_it {S : ks_S} (o : ks_ok S) {x b : Nat} (hx : kt_is S x) : ks_in S (some x) (some b) = true ↔ ∃ n, kt_it S.2.1 n x = some b := by
  have h0 := o.2.2.2
  obtain ⟨h13, m, hm⟩ := (kt_is_it h0 (kt_ok_P o)).mp hx
  have m12 := kt_short h0 (kt_ok_P o) h13 hm
  unfold ks_in
  rw [kt_meets_it]
  constructor
  · rintro ⟨n, -, h⟩; exact ⟨n, h⟩
  · rintro ⟨n, h⟩
    rcases Nat.lt_or_ge n 13 with hn | hn
    · exact ⟨n, hn, h⟩
    · obtain ⟨k, hk⟩ : ∃ k, n = m + (k + 1) := ⟨n - m - 1, by omega⟩
      rw [hk, kt_it_add, hm] at h
      have h : kt_it S.2.1 (k + 1) 0 = some b := h
      rw [kt_it_0 h0] at h
      cases h
theorem kt_dp_it {S : ks_S} (o : ks_ok S) {x m : Nat} (hx : x < 13) (h : kt_it S.2.1 m x = some 0) : km_dp S x = m := by
  have h0 := o.2.2.2
  have m12 := kt_short h0 (kt_ok_P o) hx h
  have key : ∀ (f m x : Nat), m ≤ f → kt_it S.2.1 m x = some 0 → ks_ups S f (S.2.1 x) = m := by
    intro f
    induction f with
    | zero => intro m x hm _; have : m = 0 := by omega
              subst this; rfl
    | succ f ih =>
      intro m x hm h
      cases m with
      | zero =>
        have : x = 0 := Option.some.inj h
        subst this
        rw [h0]; rfl
      | succ m =>
        cases hp : S.2.1 x with
        | none => rw [kt_it_n hp] at h; cases h
        | some y =>
          rw [kt_it_s hp] at h
          show ks_ups S f (S.2.1 y) + 1 = m + 1
          rw [ih m y (by omega) h]
  exact key 12 m x (by omega) h
/-- two sheets with the same rows -/
def kq_rw (S T : ks_S) : Prop := S.1 = T.1 ∧ S.2.1 = T.2.1 ∧ S.2.2.1 = T.2.2.1
theorem kq_row {S T : ks_S} (e : kq_rw S T) : ks_row S = ks_row T := by
  funext k
  match k with
  | 0 => exact e.1
  | 1 => exact e.2.1
  | n + 2 => exact e.2.2
theorem kq_has {S T : ks_S} (e : kq_rw S T) : ks_has S = ks_has T := by
  funext k n
  unfold ks_has
  rw [kq_row e]
theorem kq_hasI {S T : ks_S} (e : kq_rw S T) : ks_hasI S = ks_hasI T := by
  funext k n
  unfold ks_hasI
  rw [kq_has e]
theorem kq_areaI {S T : ks_S} (e : kq_rw S T) : ks_areaI S = ks_areaI T := by
  funext k n
  unfold ks_areaI
  rw [kq_hasI e, kq_row e]
theorem kq_partI {S T : ks_S} (e : kq_rw S T) : ks_partI S = ks_partI T := by
  funext k n
  unfold ks_partI
  rw [kq_hasI e]
theorem kq_harI {S T : ks_S} (e : kq_rw S T) : ks_harI S = ks_harI T := by
  funext n
  unfold ks_harI
  rw [kq_hasI e]
theorem kq_ups {S T : ks_S} (e : kq_rw S T) : ks_ups S = ks_ups T := by
  funext f
  induction f with
  | zero => rfl
  | succ f ih =>
    funext o
    cases o with
    | none => rfl
    | some a =>
      show ks_ups S f (S.2.1 a) + 1 = ks_ups T f (T.2.1 a) + 1
      rw [ih, e.2.1]
theorem kq_dp {S T : ks_S} (e : kq_rw S T) : km_dp S = km_dp T := by
  funext a
  unfold km_dp
  rw [kq_ups e, e.2.1]
theorem kq_depth {S T : ks_S} (e : kq_rw S T) : ks_depth S = ks_depth T := by
  funext a
  unfold ks_depth
  rw [kq_ups e, kq_areaI e]
theorem kq_meets {S T : ks_S} (e : kq_rw S T) (o : Option Nat) : ks_meets S o = ks_meets T o := by
  funext f
  induction f with
  | zero => rfl
  | succ f ih =>
    funext x
    cases x with
    | none => rfl
    | some a =>
      show (if some a = o then true else ks_meets S o f (S.2.1 a)) = (if some a = o then true else ks_meets T o f (T.2.1 a))
      rw [ih, e.2.1]
theorem kq_in {S T : ks_S} (e : kq_rw S T) : ks_in S = ks_in T := by
  funext a o
  unfold ks_in
  rw [kq_meets e]
theorem kq_mask {S T : ks_S} (e : kq_rw S T) : ks_mask S = ks_mask T := by
  funext o
  unfold ks_mask
  congr 1
  funext a
  unfold ks_inside
  rw [kq_harI e, kq_in e]
theorem kq_many {S T : ks_S} (e : kq_rw S T) : ks_many S = ks_many T := by
  funext k m
  unfold ks_many
  rw [kq_row e]
theorem kq_freeN {S T : ks_S} (e : kq_rw S T) : ks_freeN S = ks_freeN T := by
  funext k
  unfold ks_freeN
  rw [kq_many e]
theorem kq_slot {S T : ks_S} (e : kq_rw S T) : ks_slot S = ks_slot T := by
  funext k
  unfold ks_slot
  rw [kq_row e]
theorem kq_alone {S T : ks_S} (e : kq_rw S T) : ks_alone S = ks_alone T := by
  funext c
  unfold ks_alone
  rw [kq_many e]
theorem kq_reach {S T : ks_S} (e : kq_rw S T) : ks_reach S = ks_reach T := by
  funext n o
  unfold ks_reach
  rw [kq_hasI e, kq_in e, kq_areaI e]
theorem kq_room {S T : ks_S} (e : kq_rw S T) : ks_room S = ks_room T := by
  funext k x
  unfold ks_room
  rw [kq_freeN e, kq_many e, kq_mask e]
