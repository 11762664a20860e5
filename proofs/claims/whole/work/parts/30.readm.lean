/-! Readings: tokens, how many, the inner areas, orders, how many orders. -/
abbrev kr_X : Type := (Nat → Nat) × Nat × Nat × (Nat → Option Nat) × Nat
def kr_obj (r : Nat) (X : kr_X) : mm_E := .inr (2, [.ref (r + 1), .int (nI X.2.1), .int (nI X.2.2.1), .ref (r + 2), .int (nI X.2.2.2.2)])
def kr_tok (X : kr_X) : mm_E := .inl (0, 66, .inl (fun i => nI (X.1 i)))
def kr_at (h : mm_H) (r : Nat) (X : kr_X) : Prop := h.2.2 r = some (kr_obj r X) ∧ h.2.2 (r + 1) = some (kr_tok X) ∧ h.2.2 (r + 2) = some (ks_arr 6 X.2.2.2.1)
def kr_set (h : mm_H) (r : Nat) (X : kr_X) : mm_H := mm_up (mm_up (mm_up h r (kr_obj r X)) (r + 1) (kr_tok X)) (r + 2) (ks_arr 6 X.2.2.2.1)
theorem kr_set_q (h : mm_H) (r : Nat) (X : kr_X) (q : Nat) : (kr_set h r X).2.2 q = if q = r + 2 then some (ks_arr 6 X.2.2.2.1) else if q = r + 1 then some (kr_tok X) else if q = r then some (kr_obj r X) else h.2.2 q := rfl
theorem kr_set_out (h : mm_H) (r : Nat) (X : kr_X) {q : Nat} (hq : q < r ∨ r + 2 < q) : (kr_set h r X).2.2 q = h.2.2 q := by
  rw [kr_set_q, if_neg (by omega), if_neg (by omega), if_neg (by omega)]
theorem kr_set_at (h : mm_H) (r : Nat) (X : kr_X) : kr_at (kr_set h r X) r X := by
  refine ⟨?_, ?_, ?_⟩
  · rw [kr_set_q, if_neg (by omega), if_neg (by omega), if_pos rfl]
  · rw [kr_set_q, if_neg (by omega), if_pos rfl]
  · rw [kr_set_q, if_pos rfl]
theorem kr_at_set {h : mm_H} {r : Nat} {X : kr_X} (a : kr_at h r X) : kr_set h r X = h := by
  refine ks_set_ext rfl rfl fun q => ?_
  rw [kr_set_q]
  by_cases q2 : q = r + 2
  · rw [if_pos q2, q2, a.2.2]
  rw [if_neg q2]
  by_cases q1 : q = r + 1
  · rw [if_pos q1, q1, a.2.1]
  rw [if_neg q1]
  by_cases q0 : q = r
  · rw [if_pos q0, q0, a.1]
  rw [if_neg q0]
theorem kr_set_set (h : mm_H) (r : Nat) (X Y : kr_X) : kr_set (kr_set h r X) r Y = kr_set h r Y := by
  refine ks_set_ext rfl rfl fun q => ?_
  rw [kr_set_q h r Y q, kr_set_q (kr_set h r X) r Y q]
  by_cases q2 : q = r + 2
  · rw [if_pos q2, if_pos q2]
  rw [if_neg q2, if_neg q2]
  by_cases q1 : q = r + 1
  · rw [if_pos q1, if_pos q1]
  rw [if_neg q1, if_neg q1]
  by_cases q0 : q = r
  · rw [if_pos q0, if_pos q0]
  rw [if_neg q0, if_neg q0, kr_set_out _ _ _ (by omega)]
/-- one cell of a reading is laid anew -/
theorem kr_up_obj (h : mm_H) (r : Nat) (X Y : kr_X) (h1 : X.1 = Y.1) (h2 : X.2.2.2.1 = Y.2.2.2.1) : mm_up (kr_set h r X) r (kr_obj r Y) = kr_set h r Y := by
  refine ks_set_ext rfl rfl fun q => ?_
  show (if q = r then _ else _) = _
  rw [kr_set_q h r Y q, kr_set_q h r X q]
  unfold kr_tok
  rw [h1, h2]
  by_cases q0 : q = r
  · rw [if_pos q0, if_neg (by omega), if_neg (by omega), if_pos q0]
  · rw [if_neg q0, if_neg q0, if_neg q0]
theorem kr_up_tok (h : mm_H) (r : Nat) (X : kr_X) (f : Nat → Nat) : mm_up (kr_set h r X) (r + 1) (.inl (0, 66, .inl (fun i => nI (f i)))) = kr_set h r (f, X.2) := by
  refine ks_set_ext rfl rfl fun q => ?_
  show (if q = r + 1 then _ else _) = _
  rw [kr_set_q h r X q, kr_set_q h r (f, X.2) q]
  by_cases q1 : q = r + 1
  · rw [if_pos q1, if_neg (by omega), if_pos q1]; rfl
  · rw [if_neg q1, if_neg q1, if_neg q1]; rfl
theorem kr_up_ord (h : mm_H) (r : Nat) (X : kr_X) (f : Nat → Option Nat) : mm_up (kr_set h r X) (r + 2) (ks_arr 6 f) = kr_set h r (X.1, X.2.1, X.2.2.1, f, X.2.2.2.2) := by
  refine ks_set_ext rfl rfl fun q => ?_
  show (if q = r + 2 then _ else _) = _
  rw [kr_set_q h r X q, kr_set_q h r (X.1, X.2.1, X.2.2.1, f, X.2.2.2.2) q]
  by_cases q2 : q = r + 2
  · rw [if_pos q2, if_pos q2]
  · rw [if_neg q2, if_neg q2, if_neg q2]; rfl
/-- what is read -/
def kr_add (X : kr_X) (t : Nat) : kr_X := if X.2.1 < 66 then (ks_un X.1 X.2.1 t, X.2.1 + 1, X.2.2) else X
def kr_ord (X : kr_X) (n : Nat) : kr_X := if X.2.2.2.1 n = none then (X.1, X.2.1, X.2.2.1, ks_u X.2.2.2.1 n (some X.2.2.2.2), X.2.2.2.2 + 1) else X
def kr_line (S : ks_S) (X : kr_X) (o : Option Nat) : kr_X := match o with
  | none => kr_add X 99
  | some n => if ks_am X.2.2.1 (S.2.2.1 n) = true then kr_add (kr_ord X n) (200 + ((kr_ord X n).2.2.2.1 n).getD 0) else kr_add X (100 + n)
def kc_places (sg : Nat) : Nat := if sg < 2 then 0 else sg - 1
def kr_hooks (S : ks_S) (s : Nat) : Nat → Nat → kr_X → kr_X
  | _, 0, X => X
  | i, k + 1, X => kr_hooks S s (i + 1) k (kr_line S X (S.2.2.2.2 (2 * s + i)))
def kr_spot (S : ks_S) (X : kr_X) (s : Nat) : kr_X := kr_hooks S s 0 (kc_places (S.2.2.2.1 s)) (kr_add X (10 + S.2.2.2.1 s))
def kr_lines (S : ks_S) (a : Nat) : Nat → Nat → kr_X → kr_X
  | _, 0, X => X
  | i, k + 1, X => kr_lines S a (i + 1) k (if S.2.2.1 i = some a then kr_line S X (some i) else X)
def kr_spots (S : ks_S) (a : Nat) : Nat → Nat → kr_X → kr_X
  | _, 0, X => X
  | i, k + 1, X => kr_spots S a (i + 1) k (if S.1 i = some a then kr_spot S X i else X)
def kr_cuts (rec : kr_X → Nat → kr_X) (S : ks_S) (a : Nat) : Nat → Nat → kr_X → kr_X
  | _, 0, X => X
  | i, k + 1, X => kr_cuts rec S a (i + 1) k (if S.2.1 i = some a then kr_add (rec (kr_add X 1) i) 2 else X)
def kr_area (S : ks_S) : Nat → kr_X → Nat → kr_X
  | 0, X, _ => X
  | f + 1, X, a => kr_cuts (kr_area S f) S a 1 12 (kr_spots S a 0 12 (kr_lines S a 0 6 X))
def kr_none (f : Nat → Option Nat) (i : Nat) : Nat := if f i = none then 1 else 0
def kr_unset (f : Nat → Option Nat) : Nat := kr_none f 0 + kr_none f 1 + kr_none f 2 + kr_none f 3 + kr_none f 4 + kr_none f 5
def kr_ok (X : kr_X) : Prop := X.2.1 ≤ 66 ∧ X.2.2.1 < 2 ^ 31 ∧ X.2.2.2.2 + kr_unset X.2.2.2.1 ≤ 6 ∧ ∀ n, n < 6 → mm_lt (X.2.2.2.1 n) 6
theorem kr_ok_add {X : kr_X} (o : kr_ok X) (t : Nat) : kr_ok (kr_add X t) := by
  unfold kr_add
  by_cases h : X.2.1 < 66
  · rw [if_pos h]; exact ⟨by show X.2.1 + 1 ≤ 66; omega, o.2⟩
  · rw [if_neg h]; exact o
theorem kr_none_u (f : Nat → Option Nat) (n v i : Nat) : kr_none (ks_u f n (some v)) i = if i = n then 0 else kr_none f i := by
  unfold kr_none ks_u
  by_cases h : i = n
  · simp [h]
  · simp [h]
theorem kr_unset_u {f : Nat → Option Nat} {n v : Nat} (hn : n < 6) (h : f n = none) : kr_unset (ks_u f n (some v)) + 1 = kr_unset f := by
  have e : kr_none f n = 1 := by unfold kr_none; rw [if_pos h]
  unfold kr_unset
  simp only [kr_none_u]
  match n, hn, e with
  | 0, _, e => simp; omega
  | 1, _, e => simp; omega
  | 2, _, e => simp; omega
  | 3, _, e => simp; omega
  | 4, _, e => simp; omega
  | 5, _, e => simp; omega
  | m + 6, hn, _ => exact absurd hn (by omega)
theorem kr_ok_ord {X : kr_X} (o : kr_ok X) {n : Nat} (hn : n < 6) : kr_ok (kr_ord X n) := by
  unfold kr_ord
  by_cases h : X.2.2.2.1 n = none
  · rw [if_pos h]
    obtain ⟨o1, o2, o3, o4⟩ := o
    have e := kr_unset_u (v := X.2.2.2.2) hn h
    refine ⟨o1, o2, ?_, fun i hi => ?_⟩
    · show X.2.2.2.2 + 1 + kr_unset (ks_u X.2.2.2.1 n (some X.2.2.2.2)) ≤ 6
      omega
    · show mm_lt (ks_u X.2.2.2.1 n (some X.2.2.2.2) i) 6
      unfold ks_u
      by_cases hin : i = n
      · rw [if_pos hin]; exact mm_lt_some (by omega)
      · rw [if_neg hin]; exact o4 i hi
  · rw [if_neg h]; exact o
theorem kr_ok_line {S : ks_S} {X : kr_X} (o : kr_ok X) {x : Option Nat} (hx : mm_lt x 6) : kr_ok (kr_line S X x) := by
  cases x with
  | none => exact kr_ok_add o _
  | some n =>
    show kr_ok (if ks_am X.2.2.1 (S.2.2.1 n) = true then _ else _)
    by_cases h : ks_am X.2.2.1 (S.2.2.1 n) = true
    · rw [if_pos h]; exact kr_ok_add (kr_ok_ord o (hx n rfl)) _
    · rw [if_neg h]; exact kr_ok_add o _
theorem kr_ok_hooks {S : ks_S} (os : ks_ok S) {s : Nat} (hs : s < 12) : ∀ (k i : Nat) (X : kr_X), i + k ≤ 2 → kr_ok X → kr_ok (kr_hooks S s i k X) := by
  intro k
  induction k with
  | zero => exact fun _ _ _ o => o
  | succ k ih => exact fun i X hi o => ih _ _ (by omega) (kr_ok_line o (os.hk (by omega)))
theorem kc_places_le {sg : Nat} (h : sg < 4) : kc_places sg ≤ 2 := by
  unfold kc_places
  by_cases h2 : sg < 2
  · rw [if_pos h2]; omega
  · rw [if_neg h2]; omega
theorem kr_ok_spot {S : ks_S} (os : ks_ok S) {X : kr_X} (o : kr_ok X) {s : Nat} (hs : s < 12) : kr_ok (kr_spot S X s) :=
  kr_ok_hooks os hs _ _ _ (by have := kc_places_le (os.2.1 s hs); omega) (kr_ok_add o _)
theorem kr_ok_lines {S : ks_S} {a : Nat} : ∀ (k i : Nat) (X : kr_X), i + k = 6 → kr_ok X → kr_ok (kr_lines S a i k X) := by
  intro k
  induction k with
  | zero => exact fun _ _ _ o => o
  | succ k ih =>
    intro i X hi o
    refine ih _ _ (by omega) ?_
    by_cases h : S.2.2.1 i = some a
    · rw [if_pos h]; exact kr_ok_line o (mm_lt_some (by omega))
    · rw [if_neg h]; exact o
theorem kr_ok_spots {S : ks_S} (os : ks_ok S) {a : Nat} : ∀ (k i : Nat) (X : kr_X), i + k = 12 → kr_ok X → kr_ok (kr_spots S a i k X) := by
  intro k
  induction k with
  | zero => exact fun _ _ _ o => o
  | succ k ih =>
    intro i X hi o
    refine ih _ _ (by omega) ?_
    by_cases h : S.1 i = some a
    · rw [if_pos h]; exact kr_ok_spot os o (by omega)
    · rw [if_neg h]; exact o
theorem kr_ok_cuts {S : ks_S} {rec : kr_X → Nat → kr_X} (hr : ∀ X a, kr_ok X → kr_ok (rec X a)) {a : Nat} : ∀ (k i : Nat) (X : kr_X), kr_ok X → kr_ok (kr_cuts rec S a i k X) := by
  intro k
  induction k with
  | zero => exact fun _ _ o => o
  | succ k ih =>
    intro i X o
    refine ih _ _ ?_
    by_cases h : S.2.1 i = some a
    · rw [if_pos h]; exact kr_ok_add (hr _ _ (kr_ok_add o _)) _
    · rw [if_neg h]; exact o
theorem kr_ok_area {S : ks_S} (os : ks_ok S) : ∀ (f : Nat) (X : kr_X) (a : Nat), kr_ok X → kr_ok (kr_area S f X a) := by
  intro f
  induction f with
  | zero => exact fun _ _ o => o
  | succ f ih => exact fun X a o => kr_ok_cuts ih _ _ _ (kr_ok_spots os _ _ _ rfl (kr_ok_lines _ _ _ rfl o))
def kr_clear (X : kr_X) (m : Nat) : kr_X := (X.1, 0, m, (fun i => if i < 6 then none else X.2.2.2.1 i), 0)
theorem kr_ok_clear (X : kr_X) {m : Nat} (hm : m < 2 ^ 31) : kr_ok (kr_clear X m) :=
  ⟨Nat.zero_le _, hm, by show 0 + kr_unset _ ≤ 6; simp [kr_unset, kr_none, kr_clear], fun n hn => by show mm_lt (if n < 6 then none else _) 6; rw [if_pos hn]; exact mm_lt_none⟩
def kr_take (S : ks_S) (X : kr_X) (a : Nat) : kr_X := kr_area S 13 (kr_clear X 0) a
def kr_part (S : ks_S) (X : kr_X) (k n : Nat) : kr_X := if k = 0 then kr_spot S (kr_clear X 0) n else kr_area S 13 (kr_clear X (ks_mask S (some n))) n
def kr_same (X Y : kr_X) : Bool := decide (X.2.1 = Y.2.1) && !ks_any (fun i => !decide (X.1 i = Y.1 i)) 0 X.2.1
