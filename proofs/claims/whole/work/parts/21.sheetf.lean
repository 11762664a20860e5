/-! What the methods of Sheet answer. -/
def ks_has (S : ks_S) (k n : Nat) : Bool := decide (k < 3) && (decide (n < ks_len k) && (ks_row S k n).isSome)
def ks_hasI (S : ks_S) (k n : Int32) : Bool := decide (0 ≤ k) && (decide (0 ≤ n) && ks_has S k.toNatClampNeg n.toNatClampNeg)
def ks_areaI (S : ks_S) (k n : Int32) : Option Nat := if ks_hasI S k n then ks_row S k.toNatClampNeg n.toNatClampNeg else none
def ks_partI (S : ks_S) (k n : Int32) : Bool := decide (¬ k = nI 2) && ks_hasI S k n
def ks_harI (S : ks_S) (n : Int32) : Bool := decide (n = 0) || ks_hasI S (nI 1) n
theorem ks_nn {x : Int32} (h : 0 ≤ x) : ∃ n : Nat, n < 2 ^ 31 ∧ x = nI n ∧ x.toNatClampNeg = n := by
  have h' : ¬ x < 0 := by
    intro hx
    have h1 := Int32.le_iff_toInt_le.mp h
    have h2 := Int32.lt_iff_toInt_lt.mp hx
    omega
  obtain ⟨j, hj, rfl⟩ := nI_of h'
  exact ⟨j, hj, rfl, nI_clamp hj⟩
theorem ks_neg {x : Int32} (h : ¬ 0 ≤ x) : x < 0 := by
  rw [Int32.le_iff_toInt_le] at h
  rw [Int32.lt_iff_toInt_lt]
  omega
theorem ks_nneg {x : Int32} (h : ¬ x < 0) : 0 ≤ x := by
  rw [Int32.lt_iff_toInt_lt] at h
  rw [Int32.le_iff_toInt_le]
  omega
theorem ks_hasI_n {S : ks_S} {k n : Nat} (hk : k < 2 ^ 31) (hn : n < 2 ^ 31) : ks_hasI S (nI k) (nI n) = ks_has S k n := by
  unfold ks_hasI
  rw [decide_eq_true (nI_pos' hk), decide_eq_true (nI_pos' hn), nI_clamp hk, nI_clamp hn]
  rfl
theorem ks_has_iff {S : ks_S} {k n : Nat} : ks_has S k n = true ↔ k < 3 ∧ n < ks_len k ∧ ∃ a, ks_row S k n = some a := by
  unfold ks_has
  rw [Bool.and_eq_true, Bool.and_eq_true, decide_eq_true_eq, decide_eq_true_eq, Option.isSome_iff_exists]
theorem ks_hasI_true {S : ks_S} {k n : Int32} (h : ks_hasI S k n = true) : ∃ k' n' a : Nat, k = nI k' ∧ n = nI n' ∧ k' < 3 ∧ n' < ks_len k' ∧ ks_row S k' n' = some a := by
  unfold ks_hasI at h
  rw [Bool.and_eq_true, Bool.and_eq_true, decide_eq_true_eq, decide_eq_true_eq] at h
  obtain ⟨h1, h2, h3⟩ := h
  obtain ⟨k', hk, e1, e2⟩ := ks_nn h1
  obtain ⟨n', hn, e3, e4⟩ := ks_nn h2
  rw [e2, e4] at h3
  obtain ⟨a1, a2, a, a3⟩ := ks_has_iff.mp h3
  exact ⟨k', n', a, e1, e3, a1, a2, a3⟩
theorem ks_areaI_n {S : ks_S} {k n : Nat} (hk : k < 2 ^ 31) (hn : n < 2 ^ 31) : ks_areaI S (nI k) (nI n) = if ks_has S k n then ks_row S k n else none := by
  unfold ks_areaI
  rw [ks_hasI_n hk hn, nI_clamp hk, nI_clamp hn]
/-- steps up from an area -/
def ks_ups (S : ks_S) : Nat → Option Nat → Nat
  | 0, _ => 0
  | _ + 1, none => 0
  | f + 1, some a => ks_ups S f (S.2.1 a) + 1
def ks_depth (S : ks_S) (a : Int32) : Nat := ks_ups S 12 (ks_areaI S (nI 1) a)
/-- the outer one is met on the way up -/
def ks_meets (S : ks_S) (o : Option Nat) : Nat → Option Nat → Bool
  | 0, _ => false
  | _ + 1, none => false
  | f + 1, some a => if some a = o then true else ks_meets S o f (S.2.1 a)
def ks_in (S : ks_S) (a o : Option Nat) : Bool := ks_meets S o 13 a
/-- the areas within one, as a set -/
def ks_inside (S : ks_S) (o : Option Nat) : Nat → Bool := fun a => ks_harI S (nI a) && ks_in S (some a) o
def ks_mask (S : ks_S) (o : Option Nat) : Nat := kb_mask (ks_inside S o) 13
/-- how many of the first n lie in a set of areas -/
def ks_cnt (f : Nat → Option Nat) (m : Nat) : Nat → Nat
  | 0 => 0
  | n + 1 => ks_cnt f m n + (match f n with
    | some a => if m.testBit a then 1 else 0
    | none => 0)
def ks_many (S : ks_S) (k m : Nat) : Nat := ks_cnt (ks_row S k) m (ks_len k)
theorem ks_cnt_le (f : Nat → Option Nat) (m n : Nat) : ks_cnt f m n ≤ n := by
  induction n with
  | zero => exact Nat.le_refl _
  | succ n ih =>
    simp only [ks_cnt]
    cases f n with
    | none => show ks_cnt f m n + 0 ≤ n + 1; omega
    | some a =>
      show ks_cnt f m n + (if m.testBit a then 1 else 0) ≤ n + 1
      by_cases h : m.testBit a = true
      · rw [if_pos h]; omega
      · rw [if_neg h]; omega
/-- the first free number from i on, among k -/
def ks_free (f : Nat → Option Nat) : Nat → Nat → Option Nat
  | _, 0 => none
  | i, k + 1 => if f i = none then some i else ks_free f (i + 1) k
def ks_least (k : Nat) : Nat := if k = 1 then 1 else 0
def ks_slot (S : ks_S) (k : Nat) : Option Nat := ks_free (ks_row S k) (ks_least k) (ks_len k - ks_least k)
def ks_add (S : ks_S) (k : Nat) (a : Option Nat) : ks_S := match ks_slot S k with
  | some j => ks_put S k (ks_u (ks_row S k) j a)
  | none => S
/-- all that lies in some areas comes into another -/
def ks_move (f : Nat → Option Nat) (m : Nat) (t : Option Nat) (n : Nat) : Nat → Option Nat := fun i => if i < n then (match f i with
    | some a => if m.testBit a then t else some a
    | none => none) else f i
def ks_am (m : Nat) (o : Option Nat) : Bool := match o with
  | none => false
  | some a => m.testBit a
/-- one of k numbers from i on -/
def ks_any (p : Nat → Bool) : Nat → Nat → Bool
  | _, 0 => false
  | i, k + 1 => if p i then true else ks_any p (i + 1) k
theorem ks_any_iff {p : Nat → Bool} {i k : Nat} : ks_any p i k = true ↔ ∃ j, i ≤ j ∧ j < i + k ∧ p j = true := by
  induction k generalizing i with
  | zero => exact ⟨fun h => (nomatch h), fun ⟨j, h1, h2, _⟩ => absurd h2 (by omega)⟩
  | succ k ih =>
    simp only [ks_any]
    by_cases h : p i = true
    · rw [if_pos h]
      exact ⟨fun _ => ⟨i, Nat.le_refl _, by omega, h⟩, fun _ => rfl⟩
    · rw [if_neg h, ih]
      constructor
      · rintro ⟨j, h1, h2, h3⟩
        exact ⟨j, by omega, by omega, h3⟩
      · rintro ⟨j, h1, h2, h3⟩
        have hj : j ≠ i := fun e => h (by rw [← e]; exact h3)
        exact ⟨j, by omega, by omega, h3⟩
def ks_hookAt (S : ks_S) (ln i : Nat) : Bool := decide (¬ S.1 i = none) && (decide (S.2.2.2.2 (2 * i) = some ln) || decide (S.2.2.2.2 (2 * i + 1) = some ln))
def ks_hooked (S : ks_S) (ln : Nat) : Bool := ks_any (ks_hookAt S ln) 0 12
def ks_reach (S : ks_S) (ln : Int32) (o : Option Nat) : Bool := ks_hasI S (nI 2) ln && ks_in S o (ks_areaI S (nI 2) ln)
def ks_freeN (S : ks_S) (k : Nat) : Nat := ks_len k - ks_least k - ks_many S k 8191
theorem ks_cnt_le0 {f : Nat → Option Nat} (h0 : f 0 = none) (m n : Nat) : ks_cnt f m (n + 1) ≤ n := by
  induction n with
  | zero => simp [ks_cnt, h0]
  | succ n ih =>
    have e : ks_cnt f m (n + 1 + 1) = ks_cnt f m (n + 1) + (match f (n + 1) with
      | some a => if m.testBit a then 1 else 0
      | none => 0) := rfl
    rw [e]
    cases f (n + 1) with
    | none => show ks_cnt f m (n + 1) + 0 ≤ n + 1; omega
    | some a =>
      show ks_cnt f m (n + 1) + (if m.testBit a then 1 else 0) ≤ n + 1
      by_cases h : m.testBit a = true
      · rw [if_pos h]; omega
      · rw [if_neg h]; omega
theorem ks_many_le {S : ks_S} (o : ks_ok S) (k m : Nat) : ks_many S k m + ks_least k ≤ ks_len k := by
  match k with
  | 0 =>
    have := ks_cnt_le S.1 m 12
    show ks_cnt S.1 m 12 + (if 0 = 1 then 1 else 0) ≤ 12
    rw [if_neg (by decide)]
    exact this
  | 1 =>
    have := ks_cnt_le0 (f := S.2.1) o.2.2.2 m 12
    show ks_cnt S.2.1 m 13 + (if 1 = 1 then 1 else 0) ≤ 13
    rw [if_pos rfl]
    exact Nat.succ_le_succ this
  | n + 2 =>
    have := ks_cnt_le S.2.2.1 m 6
    show ks_cnt S.2.2.1 m 6 + (if n + 2 = 1 then 1 else 0) ≤ 6
    rw [if_neg (by omega)]
    exact this
