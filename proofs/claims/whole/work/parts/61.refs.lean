/-! The reference's sheet, seen as the class's. -/
def kz (f : Nat → Option Nat) : ks_S := (fun s => if s < 12 then f (19 + s) else none, fun c => if c < 13 then f c else none, fun n => if n < 6 then f (13 + n) else none, fun s => if s < 12 then (f (31 + s)).getD 0 else 0, fun i => if i < 24 then f (43 + i) else none)
def km_S (M : km_M) : ks_S := kz (m_sh M)
theorem kz_s (f : Nat → Option Nat) {i : Nat} (h : i < 12) : (kz f).1 i = f (19 + i) := if_pos h
theorem kz_c (f : Nat → Option Nat) {i : Nat} (h : i < 13) : (kz f).2.1 i = f i := if_pos h
theorem kz_l (f : Nat → Option Nat) {i : Nat} (h : i < 6) : (kz f).2.2.1 i = f (13 + i) := if_pos h
theorem kz_h (f : Nat → Option Nat) {i : Nat} (h : i < 24) : (kz f).2.2.2.2 i = f (43 + i) := if_pos h
/-- so many steps up at most, and the sheet itself is reached -/
def kt_path (S : ks_S) : Nat → Nat → Prop
  | 0, x => x = 0
  | n + 1, x => x = 0 ∨ ∃ y, S.2.1 x = some y ∧ kt_path S n y
/-- an area that is there -/
def kt_is (S : ks_S) (x : Nat) : Prop := x < 13 ∧ kt_path S 12 x
def kt_ok (S : ks_S) : Prop := ks_ok S ∧ (∀ k i a, k < 3 → i < ks_len k → ks_row S k i = some a → kt_is S a) ∧ ∀ c, c < 13 → (c = 0 ∨ ¬ S.2.1 c = none) → kt_is S c
def km_in (S : ks_S) (b : Nat) : Nat → Nat → Bool
  | 0, x => decide (x = b)
  | n + 1, x => if x = b then true else if x = 0 then false else (match S.2.1 x with
    | some y => km_in S b n y
    | none => false)
def km_dep (S : ks_S) : Nat → Nat → Nat
  | 0, _ => 0
  | n + 1, x => if x = 0 then 0 else (match S.2.1 x with
    | some y => km_dep S n y + 1
    | none => 0)
theorem kt_path_up {S : ks_S} {n x : Nat} (h : kt_path S n x) : kt_path S (n + 1) x := by
  induction n generalizing x with
  | zero => exact Or.inl h
  | succ n ih =>
    rcases h with h | ⟨y, h1, h2⟩
    · exact Or.inl h
    · exact Or.inr ⟨y, h1, ih h2⟩
theorem km_in_meets {S : ks_S} (h0 : S.2.1 0 = none) {b : Nat} : ∀ (n x : Nat), kt_path S n x → km_in S b n x = ks_meets S (some b) (n + 1) (some x) := by
  intro n
  induction n with
  | zero =>
    intro x h
    have h : x = 0 := h
    subst h
    show decide (0 = b) = if some 0 = some b then true else false
    by_cases hb : 0 = b
    · rw [decide_eq_true hb, if_pos (by rw [hb])]
    · rw [decide_eq_false hb, if_neg (fun e => hb (Option.some.inj e))]
  | succ n ih =>
    intro x h
    show (if x = b then true else if x = 0 then false else (match S.2.1 x with
      | some y => km_in S b n y
      | none => false)) = if some x = some b then true else ks_meets S (some b) (n + 1) (S.2.1 x)
    by_cases hb : x = b
    · rw [if_pos hb, if_pos (by rw [hb])]
    · rw [if_neg hb, if_neg (fun e => hb (Option.some.inj e))]
      rcases h with h | ⟨y, h1, h2⟩
      · rw [if_pos h, h, h0]; rfl
      · by_cases hx : x = 0
        · rw [if_pos hx, hx, h0]; rfl
        · rw [if_neg hx, h1]; exact ih y h2
theorem km_dep_ups {S : ks_S} (h0 : S.2.1 0 = none) : ∀ (n x : Nat), kt_path S n x → km_dep S n x = ks_ups S n (S.2.1 x) := by
  intro n
  induction n with
  | zero => exact fun _ _ => rfl
  | succ n ih =>
    intro x h
    show (if x = 0 then 0 else (match S.2.1 x with
      | some y => km_dep S n y + 1
      | none => 0)) = _
    by_cases hx : x = 0
    · rw [if_pos hx, hx, h0]; rfl
    · rw [if_neg hx]
      rcases h with h | ⟨y, h1, h2⟩
      · exact absurd h hx
      · rw [h1]
        show km_dep S n y + 1 = ks_ups S n (S.2.1 y) + 1
        rw [ih y h2]
theorem kt_path_s {S : ks_S} {n x : Nat} (h : kt_path S (n + 1) x) (h0 : ¬ x = 0) : ∃ z, S.2.1 x = some z ∧ kt_path S n z := by
  rcases h with h | h
  · exact absurd h h0
  · exact h
