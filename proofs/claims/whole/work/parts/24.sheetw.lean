/-! What the methods of Sheet write. -/
theorem ks_row_put (S : ks_S) (k : Nat) (f : Nat → Option Nat) : ks_row (ks_put S k f) k = f := by
  match k with
  | 0 => rfl
  | 1 => rfl
  | _ + 2 => rfl
theorem ks_put_put (S : ks_S) (k : Nat) (f g : Nat → Option Nat) : ks_put (ks_put S k f) k g = ks_put S k g := by
  match k with
  | 0 => rfl
  | 1 => rfl
  | _ + 2 => rfl
theorem ks_put_row (S : ks_S) (k : Nat) : ks_put S k (ks_row S k) = S := by
  match k with
  | 0 => rfl
  | 1 => rfl
  | _ + 2 => rfl
theorem ks_ok_put {S : ks_S} (o : ks_ok S) {k : Nat} (hk : k < 3) {f : Nat → Option Nat} (hf : ∀ i n, i < ks_len k → f i = some n → n < 13) (h0 : k = 1 → f 0 = none) : ks_ok (ks_put S k f) := by
  obtain ⟨o1, o2, o3, o4⟩ := o
  match k, hk with
  | 0, _ =>
    refine ⟨fun j i n hi e => ?_, o2, o3, o4⟩
    match j with
    | 0 => exact hf i n hi e
    | 1 => exact o1 1 i n hi e
    | j + 2 => exact o1 (j + 2) i n hi e
  | 1, _ =>
    refine ⟨fun j i n hi e => ?_, o2, o3, h0 rfl⟩
    match j with
    | 0 => exact o1 0 i n hi e
    | 1 => exact hf i n hi e
    | j + 2 => exact o1 (j + 2) i n hi e
  | 2, _ =>
    refine ⟨fun j i n hi e => ?_, o2, o3, o4⟩
    match j with
    | 0 => exact o1 0 i n hi e
    | 1 => exact o1 1 i n hi e
    | j + 2 => exact hf i n hi e
  | n + 3, h => exact absurd h (by omega)
theorem ks_free_some {f : Nat → Option Nat} {i k j : Nat} (h : ks_free f i k = some j) : i ≤ j ∧ j < i + k ∧ f j = none := by
  induction k generalizing i with
  | zero => cases h
  | succ k ih =>
    simp only [ks_free] at h
    by_cases hf : f i = none
    · rw [if_pos hf] at h
      cases h
      exact ⟨Nat.le_refl _, by omega, hf⟩
    · rw [if_neg hf] at h
      obtain ⟨h1, h2, h3⟩ := ih h
      exact ⟨by omega, by omega, h3⟩
theorem ks_least_le (k : Nat) : ks_least k ≤ ks_len k := by
  match k with
  | 0 => decide
  | 1 => decide
  | n + 2 =>
    show (if n + 2 = 1 then 1 else 0) ≤ 6
    rw [if_neg (by omega)]
    omega
theorem ks_slot_some {S : ks_S} {k j : Nat} (h : ks_slot S k = some j) : ks_least k ≤ j ∧ j < ks_len k ∧ ks_row S k j = none := by
  obtain ⟨h1, h2, h3⟩ := ks_free_some h
  have := ks_least_le k
  exact ⟨h1, by omega, h3⟩
theorem ks_ok_add {S : ks_S} (o : ks_ok S) {k : Nat} (hk : k < 3) {x : Option Nat} (hx : mm_lt x 13) : ks_ok (ks_add S k x) := by
  unfold ks_add
  cases hs : ks_slot S k with
  | none => exact o
  | some j =>
    obtain ⟨h1, h2, h3⟩ := ks_slot_some hs
    refine ks_ok_put o hk (fun i n hi e => ?_) (fun e => ?_)
    · unfold ks_u at e
      by_cases hij : i = j
      · rw [if_pos hij] at e
        exact hx n e
      · rw [if_neg hij] at e
        exact o.1 k i n hi e
    · subst e
      have : 1 ≤ j := h1
      unfold ks_u
      rw [if_neg (by omega)]
      exact o.2.2.2
def ks_un (f : Nat → Nat) (j v : Nat) : Nat → Nat := fun i => if i = j then v else f i
theorem ks_un_enc (f : Nat → Nat) (j v : Nat) : upd (fun i => nI (f i)) j (nI v) = fun i => nI (ks_un f j v i) := by
  funext i
  by_cases hi : i = j
  · simp [upd, ks_un, hi]
  · simp [upd, ks_un, hi]
def ks_spotAt (S : ks_S) (j : Nat) (x : Option Nat) (sg : Nat) (f s : Option Nat) : ks_S := (ks_u S.1 j x, S.2.1, S.2.2.1, ks_un S.2.2.2.1 j sg, ks_u (ks_u S.2.2.2.2 (2 * j) f) (2 * j + 1) s)
def ks_addSpot (S : ks_S) (x : Option Nat) (sg : Nat) (f s : Option Nat) : ks_S := match ks_slot S 0 with
  | some j => ks_spotAt S j x sg f s
  | none => S
def ks_putI (S : ks_S) (k n : Int32) (x : Option Nat) : ks_S := if ks_hasI S k n then ks_put S k.toNatClampNeg (ks_u (ks_row S k.toNatClampNeg) n.toNatClampNeg x) else S
def ks_mv (f : Nat → Option Nat) (m : Nat) (t : Option Nat) (n : Nat) : Nat → Option Nat := fun i => if i < n ∧ ks_am m (f i) = true then t else f i
def ks_moves (S : ks_S) (m : Nat) (t : Option Nat) : Nat → ks_S
  | 0 => S
  | k + 1 => ks_put (ks_moves S m t k) k (ks_mv (ks_row (ks_moves S m t k) k) m t (ks_len k))
theorem ks_mv_0 (f : Nat → Option Nat) (m : Nat) (t : Option Nat) : ks_mv f m t 0 = f := by
  funext i
  unfold ks_mv
  rw [if_neg (fun h => absurd h.1 (by omega))]
theorem ks_mv_at (f : Nat → Option Nat) (m : Nat) (t : Option Nat) (i : Nat) : ks_mv f m t i i = f i := by
  unfold ks_mv
  rw [if_neg (fun h => absurd h.1 (by omega))]
theorem ks_mv_t {f : Nat → Option Nat} {m : Nat} {t : Option Nat} {i : Nat} (h : ks_am m (f i) = true) : ks_u (ks_mv f m t i) i t = ks_mv f m t (i + 1) := by
  funext j
  unfold ks_u ks_mv
  by_cases hj : j = i
  · subst hj
    rw [if_pos rfl, if_pos ⟨by omega, h⟩]
  · rw [if_neg hj]
    by_cases hl : j < i ∧ ks_am m (f j) = true
    · rw [if_pos hl, if_pos ⟨by omega, hl.2⟩]
    · rw [if_neg hl, if_neg (fun h9 => hl ⟨by omega, h9.2⟩)]
theorem ks_mv_f {f : Nat → Option Nat} {m : Nat} {t : Option Nat} {i : Nat} (h : ks_am m (f i) = false) : ks_mv f m t i = ks_mv f m t (i + 1) := by
  funext j
  unfold ks_mv
  by_cases hj : j = i
  · subst hj
    rw [if_neg (fun h9 => absurd h9.1 (by omega)), if_neg (fun h9 => by rw [h] at h9; exact absurd h9.2 (by decide))]
  · by_cases hl : j < i ∧ ks_am m (f j) = true
    · rw [if_pos hl, if_pos ⟨by omega, hl.2⟩]
    · rw [if_neg hl, if_neg (fun h9 => hl ⟨by omega, h9.2⟩)]
theorem ks_ok_mv {S : ks_S} (o : ks_ok S) {k : Nat} (hk : k < 3) {m : Nat} {t : Option Nat} (ht : mm_lt t 13) (n : Nat) : ks_ok (ks_put S k (ks_mv (ks_row S k) m t n)) := by
  refine ks_ok_put o hk (fun i x hi e => ?_) (fun e => ?_)
  · unfold ks_mv at e
    by_cases hl : i < n ∧ ks_am m (ks_row S k i) = true
    · rw [if_pos hl] at e
      exact ht x e
    · rw [if_neg hl] at e
      exact o.1 k i x hi e
  · subst e
    unfold ks_mv
    have h0 : ks_row S 1 0 = none := o.2.2.2
    rw [if_neg (fun h9 => by rw [h0] at h9; exact absurd h9.2 (by show ¬ (false = true); decide))]
    exact h0
theorem ks_ok_moves {S : ks_S} (o : ks_ok S) {m : Nat} {t : Option Nat} (ht : mm_lt t 13) {k : Nat} (hk : k ≤ 3) : ks_ok (ks_moves S m t k) := by
  induction k with
  | zero => exact o
  | succ k ih => exact ks_ok_mv (ih (by omega)) (by omega) ht _
/-- hooks of a line go to another, in some areas -/
def ks_rh (S : ks_S) (ln : Nat) (t : Option Nat) (m n : Nat) : Nat → Option Nat := fun i => if i < n ∧ S.2.2.2.2 i = some ln ∧ ks_am m (S.1 (i / 2)) = true then t else S.2.2.2.2 i
def ks_rehook (S : ks_S) (ln : Nat) (t x : Option Nat) : ks_S := (S.1, S.2.1, S.2.2.1, S.2.2.2.1, ks_rh S ln t (ks_mask S x) 24)
theorem ks_rh_0 (S : ks_S) (ln : Nat) (t : Option Nat) (m : Nat) : ks_rh S ln t m 0 = S.2.2.2.2 := by
  funext i
  unfold ks_rh
  rw [if_neg (fun h => absurd h.1 (by omega))]
theorem ks_rh_at (S : ks_S) (ln : Nat) (t : Option Nat) (m i : Nat) : ks_rh S ln t m i i = S.2.2.2.2 i := by
  unfold ks_rh
  rw [if_neg (fun h => absurd h.1 (by omega))]
theorem ks_rh_t {S : ks_S} {ln : Nat} {t : Option Nat} {m i : Nat} (h1 : S.2.2.2.2 i = some ln) (h2 : ks_am m (S.1 (i / 2)) = true) : ks_u (ks_rh S ln t m i) i t = ks_rh S ln t m (i + 1) := by
  funext j
  unfold ks_u ks_rh
  by_cases hj : j = i
  · subst hj
    rw [if_pos rfl, if_pos ⟨by omega, h1, h2⟩]
  · rw [if_neg hj]
    by_cases hl : j < i ∧ S.2.2.2.2 j = some ln ∧ ks_am m (S.1 (j / 2)) = true
    · rw [if_pos hl, if_pos ⟨by omega, hl.2⟩]
    · rw [if_neg hl, if_neg (fun h9 => hl ⟨by omega, h9.2⟩)]
theorem ks_rh_f {S : ks_S} {ln : Nat} {t : Option Nat} {m i : Nat} (h : ¬ (S.2.2.2.2 i = some ln ∧ ks_am m (S.1 (i / 2)) = true)) : ks_rh S ln t m i = ks_rh S ln t m (i + 1) := by
  funext j
  unfold ks_rh
  by_cases hj : j = i
  · subst hj
    rw [if_neg (fun h9 => absurd h9.1 (by omega)), if_neg (fun h9 => h h9.2)]
  · by_cases hl : j < i ∧ S.2.2.2.2 j = some ln ∧ ks_am m (S.1 (j / 2)) = true
    · rw [if_pos hl, if_pos ⟨by omega, hl.2⟩]
    · rw [if_neg hl, if_neg (fun h9 => hl ⟨by omega, h9.2⟩)]
def ks_alone (S : ks_S) (c : Nat) : Bool := decide (ks_many S 1 (2 ^ c) = 1) && (decide (ks_many S 0 (2 ^ c) = 0) && decide (ks_many S 2 (2 ^ c) = 0))
def ks_remove (S : ks_S) (k n : Int32) (x : Option Nat) : ks_S := ks_putI (if k = nI 1 then ks_moves S (ks_mask S x) none 3 else S) k n none
