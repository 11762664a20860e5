/-! The class's sheets as mathematics: where each spot, cut, line lies; signs; hooks. -/
abbrev ks_S : Type := (Nat → Option Nat) × (Nat → Option Nat) × (Nat → Option Nat) × (Nat → Nat) × (Nat → Option Nat)
def ks_u (f : Nat → Option Nat) (j : Nat) (o : Option Nat) : Nat → Option Nat := fun i => if i = j then o else f i
def ks_row (S : ks_S) (k : Nat) : Nat → Option Nat := match k with
  | 0 => S.1
  | 1 => S.2.1
  | _ => S.2.2.1
def ks_put (S : ks_S) (k : Nat) (f : Nat → Option Nat) : ks_S := match k with
  | 0 => (f, S.2)
  | 1 => (S.1, f, S.2.2)
  | _ => (S.1, S.2.1, f, S.2.2.2)
def ks_len (k : Nat) : Nat := match k with
  | 0 => 12
  | 1 => 13
  | _ => 6
theorem ks_len_le (k : Nat) : ks_len k ≤ 13 := by
  match k with
  | 0 => decide
  | 1 => decide
  | _ + 2 => show 6 ≤ 13; decide
/-- numbers in range -/
def ks_ok (S : ks_S) : Prop := (∀ k i n, i < ks_len k → ks_row S k i = some n → n < 13) ∧ (∀ i, i < 12 → S.2.2.2.1 i < 4) ∧ (∀ i n, i < 24 → S.2.2.2.2 i = some n → n < 6) ∧ S.2.1 0 = none
def ks_arr (n : Nat) (f : Nat → Option Nat) : mm_E := .inl (0, n, .inl (fun i => mm_enc (f i)))
def ks_obj (b : Nat) : mm_E := .inr (3, [.ref (b + 1), .ref (b + 2), .ref (b + 3), .ref (b + 4), .ref (b + 5)])
/-- the sheet S lies at b in the picture -/
def ks_at (h : mm_H) (b : Nat) (S : ks_S) : Prop := h.2.2 b = some (ks_obj b) ∧ h.2.2 (b + 1) = some (ks_arr 12 S.1) ∧ h.2.2 (b + 2) = some (ks_arr 13 S.2.1) ∧ h.2.2 (b + 3) = some (ks_arr 6 S.2.2.1) ∧ h.2.2 (b + 4) = some (.inl (0, 12, .inl (fun i => nI (S.2.2.2.1 i)))) ∧ h.2.2 (b + 5) = some (ks_arr 24 S.2.2.2.2)
/-- .. is laid there -/
def ks_set (h : mm_H) (b : Nat) (S : ks_S) : mm_H := mm_up (mm_up (mm_up (mm_up (mm_up h (b + 1) (ks_arr 12 S.1)) (b + 2) (ks_arr 13 S.2.1)) (b + 3) (ks_arr 6 S.2.2.1)) (b + 4) (.inl (0, 12, .inl (fun i => nI (S.2.2.2.1 i))))) (b + 5) (ks_arr 24 S.2.2.2.2)
theorem ks_set_1 (h : mm_H) (b : Nat) (S : ks_S) : (ks_set h b S).1 = h.1 := rfl
theorem ks_set_2 (h : mm_H) (b : Nat) (S : ks_S) : (ks_set h b S).2.1 = h.2.1 := rfl
theorem ks_set_q (h : mm_H) (b : Nat) (S : ks_S) (q : Nat) : (ks_set h b S).2.2 q = if q = b + 5 then some (ks_arr 24 S.2.2.2.2) else if q = b + 4 then some (.inl (0, 12, .inl (fun i => nI (S.2.2.2.1 i)))) else if q = b + 3 then some (ks_arr 6 S.2.2.1) else if q = b + 2 then some (ks_arr 13 S.2.1) else if q = b + 1 then some (ks_arr 12 S.1) else h.2.2 q := rfl
theorem ks_set_out (h : mm_H) (b : Nat) (S : ks_S) {q : Nat} (hq : q ≤ b ∨ b + 5 < q) : (ks_set h b S).2.2 q = h.2.2 q := by
  rw [ks_set_q, if_neg (by omega), if_neg (by omega), if_neg (by omega), if_neg (by omega), if_neg (by omega)]
theorem ks_set_at {h : mm_H} {b : Nat} (S : ks_S) (hb : h.2.2 b = some (ks_obj b)) : ks_at (ks_set h b S) b S := by
  refine ⟨by rw [ks_set_out _ _ _ (by omega)]; exact hb, ?_, ?_, ?_, ?_, ?_⟩
  · rw [ks_set_q, if_neg (by omega), if_neg (by omega), if_neg (by omega), if_neg (by omega), if_pos rfl]
  · rw [ks_set_q, if_neg (by omega), if_neg (by omega), if_neg (by omega), if_pos rfl]
  · rw [ks_set_q, if_neg (by omega), if_neg (by omega), if_pos rfl]
  · rw [ks_set_q, if_neg (by omega), if_pos rfl]
  · rw [ks_set_q, if_pos rfl]
theorem ks_set_ext {h g : mm_H} (h1 : h.1 = g.1) (h2 : h.2.1 = g.2.1) (hq : ∀ q, h.2.2 q = g.2.2 q) : h = g := Prod.ext h1 (Prod.ext h2 (funext hq))
theorem ks_at_set {h : mm_H} {b : Nat} {S : ks_S} (a : ks_at h b S) : ks_set h b S = h := by
  obtain ⟨a0, a1, a2, a3, a4, a5⟩ := a
  refine ks_set_ext rfl rfl fun q => ?_
  rw [ks_set_q]
  by_cases q5 : q = b + 5
  · rw [if_pos q5, q5, a5]
  rw [if_neg q5]
  by_cases q4 : q = b + 4
  · rw [if_pos q4, q4, a4]
  rw [if_neg q4]
  by_cases q3 : q = b + 3
  · rw [if_pos q3, q3, a3]
  rw [if_neg q3]
  by_cases q2 : q = b + 2
  · rw [if_pos q2, q2, a2]
  rw [if_neg q2]
  by_cases q1 : q = b + 1
  · rw [if_pos q1, q1, a1]
  rw [if_neg q1]
theorem ks_set_set (h : mm_H) (b : Nat) (S S' : ks_S) : ks_set (ks_set h b S) b S' = ks_set h b S' := by
  refine ks_set_ext rfl rfl fun q => ?_
  rw [ks_set_q h b S' q, ks_set_q (ks_set h b S) b S' q]
  by_cases q5 : q = b + 5
  · rw [if_pos q5, if_pos q5]
  rw [if_neg q5, if_neg q5]
  by_cases q4 : q = b + 4
  · rw [if_pos q4, if_pos q4]
  rw [if_neg q4, if_neg q4]
  by_cases q3 : q = b + 3
  · rw [if_pos q3, if_pos q3]
  rw [if_neg q3, if_neg q3]
  by_cases q2 : q = b + 2
  · rw [if_pos q2, if_pos q2]
  rw [if_neg q2, if_neg q2]
  by_cases q1 : q = b + 1
  · rw [if_pos q1, if_pos q1]
  rw [if_neg q1, if_neg q1, ks_set_out _ _ _ (by omega)]
theorem ks_at.row {h : mm_H} {b : Nat} {S : ks_S} (a : ks_at h b S) {k : Nat} (hk : k < 3) : h.2.2 (b + 1 + k) = some (ks_arr (ks_len k) (ks_row S k)) := by
  match k, hk with
  | 0, _ => exact a.2.1
  | 1, _ => exact a.2.2.1
  | 2, _ => exact a.2.2.2.1
  | n + 3, h => exact absurd h (by omega)
theorem ks_u_enc (f : Nat → Option Nat) (j : Nat) (o : Option Nat) : upd (fun i => mm_enc (f i)) j (mm_enc o) = fun i => mm_enc (ks_u f j o i) := by
  funext i
  by_cases hi : i = j
  · simp [upd, ks_u, hi]
  · simp [upd, ks_u, hi]
/-- one row is laid anew -/
theorem ks_up_row {h : mm_H} {b : Nat} {S : ks_S} (a : ks_at h b S) {k : Nat} (hk : k < 3) (f : Nat → Option Nat) : mm_up h (b + 1 + k) (ks_arr (ks_len k) f) = ks_set h b (ks_put S k f) := by
  obtain ⟨a0, a1, a2, a3, a4, a5⟩ := a
  refine ks_set_ext rfl rfl fun q => ?_
  rw [ks_set_q]
  match k, hk with
  | 0, _ =>
    show (if q = b + 1 + 0 then _ else _) = _
    by_cases q1 : q = b + 1
    · rw [if_pos q1, if_neg (by omega), if_neg (by omega), if_neg (by omega), if_neg (by omega), if_pos q1]; rfl
    rw [if_neg q1]
    by_cases q5 : q = b + 5
    · rw [if_pos q5, q5, a5]; rfl
    rw [if_neg q5]
    by_cases q4 : q = b + 4
    · rw [if_pos q4, q4, a4]; rfl
    rw [if_neg q4]
    by_cases q3 : q = b + 3
    · rw [if_pos q3, q3, a3]; rfl
    rw [if_neg q3]
    by_cases q2 : q = b + 2
    · rw [if_pos q2, q2, a2]; rfl
    rw [if_neg q2, if_neg q1]
  | 1, _ =>
    show (if q = b + 1 + 1 then _ else _) = _
    by_cases q2 : q = b + 2
    · rw [if_pos q2, if_neg (by omega), if_neg (by omega), if_neg (by omega), if_pos q2]; rfl
    rw [if_neg q2]
    by_cases q5 : q = b + 5
    · rw [if_pos q5, q5, a5]; rfl
    rw [if_neg q5]
    by_cases q4 : q = b + 4
    · rw [if_pos q4, q4, a4]; rfl
    rw [if_neg q4]
    by_cases q3 : q = b + 3
    · rw [if_pos q3, q3, a3]; rfl
    rw [if_neg q3, if_neg q2]
    by_cases q1 : q = b + 1
    · rw [if_pos q1, q1, a1]; rfl
    rw [if_neg q1]
  | 2, _ =>
    show (if q = b + 1 + 2 then _ else _) = _
    by_cases q3 : q = b + 3
    · rw [if_pos q3, if_neg (by omega), if_neg (by omega), if_pos q3]; rfl
    rw [if_neg q3]
    by_cases q5 : q = b + 5
    · rw [if_pos q5, q5, a5]; rfl
    rw [if_neg q5]
    by_cases q4 : q = b + 4
    · rw [if_pos q4, q4, a4]; rfl
    rw [if_neg q4, if_neg q3]
    by_cases q2 : q = b + 2
    · rw [if_pos q2, q2, a2]; rfl
    rw [if_neg q2]
    by_cases q1 : q = b + 1
    · rw [if_pos q1, q1, a1]; rfl
    rw [if_neg q1]
  | n + 3, h => exact absurd h (by omega)
theorem ks_up_sign {h : mm_H} {b : Nat} {S : ks_S} (a : ks_at h b S) (f : Nat → Nat) : mm_up h (b + 4) (.inl (0, 12, .inl (fun i => nI (f i)))) = ks_set h b (S.1, S.2.1, S.2.2.1, f, S.2.2.2.2) := by
  obtain ⟨a0, a1, a2, a3, a4, a5⟩ := a
  refine ks_set_ext rfl rfl fun q => ?_
  rw [ks_set_q]
  show (if q = b + 4 then _ else _) = _
  by_cases q4 : q = b + 4
  · rw [if_pos q4, if_neg (by omega), if_pos q4]
  rw [if_neg q4]
  by_cases q5 : q = b + 5
  · rw [if_pos q5, q5, a5]
  rw [if_neg q5, if_neg q4]
  by_cases q3 : q = b + 3
  · rw [if_pos q3, q3, a3]
  rw [if_neg q3]
  by_cases q2 : q = b + 2
  · rw [if_pos q2, q2, a2]
  rw [if_neg q2]
  by_cases q1 : q = b + 1
  · rw [if_pos q1, q1, a1]
  rw [if_neg q1]
theorem ks_up_hook {h : mm_H} {b : Nat} {S : ks_S} (a : ks_at h b S) (f : Nat → Option Nat) : mm_up h (b + 5) (ks_arr 24 f) = ks_set h b (S.1, S.2.1, S.2.2.1, S.2.2.2.1, f) := by
  obtain ⟨a0, a1, a2, a3, a4, a5⟩ := a
  refine ks_set_ext rfl rfl fun q => ?_
  rw [ks_set_q]
  show (if q = b + 5 then _ else _) = _
  by_cases q5 : q = b + 5
  · rw [if_pos q5, if_pos q5]
  rw [if_neg q5, if_neg q5]
  by_cases q4 : q = b + 4
  · rw [if_pos q4, q4, a4]
  rw [if_neg q4]
  by_cases q3 : q = b + 3
  · rw [if_pos q3, q3, a3]
  rw [if_neg q3]
  by_cases q2 : q = b + 2
  · rw [if_pos q2, q2, a2]
  rw [if_neg q2]
  by_cases q1 : q = b + 1
  · rw [if_pos q1, q1, a1]
  rw [if_neg q1]
