/-! Tokens in range; parts that are alike. -/
def kr_tk (X : kr_X) : Prop := ∀ i, X.1 i < 1000
theorem kr_tk_add {X : kr_X} (o : kr_tk X) {t : Nat} (ht : t < 1000) : kr_tk (kr_add X t) := by
  unfold kr_add
  by_cases h : X.2.1 < 66
  · rw [if_pos h]
    intro i
    show ks_un X.1 X.2.1 t i < 1000
    unfold ks_un
    by_cases hi : i = X.2.1
    · rw [if_pos hi]; exact ht
    · rw [if_neg hi]; exact o i
  · rw [if_neg h]; exact o
theorem kr_tk_ord {X : kr_X} (o : kr_tk X) (n : Nat) : kr_tk (kr_ord X n) := by
  unfold kr_ord
  by_cases h : X.2.2.2.1 n = none
  · rw [if_pos h]; exact o
  · rw [if_neg h]; exact o
theorem kr_tk_line {S : ks_S} {X : kr_X} (o : kr_tk X) (ok : kr_ok X) {x : Option Nat} (hx : mm_lt x 6) : kr_tk (kr_line S X x) := by
  cases x with
  | none => exact kr_tk_add o (by decide)
  | some n =>
    have hn := hx n rfl
    show kr_tk (if ks_am X.2.2.1 (S.2.2.1 n) = true then _ else _)
    by_cases h : ks_am X.2.2.1 (S.2.2.1 n) = true
    · rw [if_pos h]
      refine kr_tk_add (kr_tk_ord o n) ?_
      have h6 := (kr_ok_ord ok hn).2.2.2 n hn
      cases hv : (kr_ord X n).2.2.2.1 n with
      | none => show 200 + 0 < 1000; decide
      | some v =>
        have := h6 v hv
        show 200 + v < 1000
        omega
    · rw [if_neg h]; exact kr_tk_add o (by omega)
theorem kr_tk_hooks {S : ks_S} (os : ks_ok S) {s : Nat} (hs : s < 12) : ∀ (k i : Nat) (X : kr_X), i + k ≤ 2 → kr_ok X → kr_tk X → kr_tk (kr_hooks S s i k X) := by
  intro k
  induction k with
  | zero => exact fun _ _ _ _ o => o
  | succ k ih => exact fun i X hi ok o => ih _ _ (by omega) (kr_ok_line ok (os.hk (by omega))) (kr_tk_line o ok (os.hk (by omega)))
theorem kr_tk_spot {S : ks_S} (os : ks_ok S) {X : kr_X} (ok : kr_ok X) (o : kr_tk X) {s : Nat} (hs : s < 12) : kr_tk (kr_spot S X s) := by
  have h4 := os.2.1 s hs
  exact kr_tk_hooks os hs _ _ _ (by have := kc_places_le h4; omega) (kr_ok_add ok _) (kr_tk_add o (by omega))
theorem kr_tk_lines {S : ks_S} {a : Nat} : ∀ (k i : Nat) (X : kr_X), i + k = 6 → kr_ok X → kr_tk X → kr_tk (kr_lines S a i k X) := by
  intro k
  induction k with
  | zero => exact fun _ _ _ _ o => o
  | succ k ih =>
    intro i X hi ok o
    by_cases h : S.2.2.1 i = some a
    · have e : kr_lines S a i (k + 1) X = kr_lines S a (i + 1) k (kr_line S X (some i)) := by show kr_lines S a (i + 1) k (if _ then _ else _) = _; rw [if_pos h]
      rw [e]; exact ih _ _ (by omega) (kr_ok_line ok (mm_lt_some (by omega))) (kr_tk_line o ok (mm_lt_some (by omega)))
    · have e : kr_lines S a i (k + 1) X = kr_lines S a (i + 1) k X := by show kr_lines S a (i + 1) k (if _ then _ else _) = _; rw [if_neg h]
      rw [e]; exact ih _ _ (by omega) ok o
theorem kr_tk_spots {S : ks_S} (os : ks_ok S) {a : Nat} : ∀ (k i : Nat) (X : kr_X), i + k = 12 → kr_ok X → kr_tk X → kr_tk (kr_spots S a i k X) := by
  intro k
  induction k with
  | zero => exact fun _ _ _ _ o => o
  | succ k ih =>
    intro i X hi ok o
    by_cases h : S.1 i = some a
    · have e : kr_spots S a i (k + 1) X = kr_spots S a (i + 1) k (kr_spot S X i) := by show kr_spots S a (i + 1) k (if _ then _ else _) = _; rw [if_pos h]
      rw [e]; exact ih _ _ (by omega) (kr_ok_spot os ok (by omega)) (kr_tk_spot os ok o (by omega))
    · have e : kr_spots S a i (k + 1) X = kr_spots S a (i + 1) k X := by show kr_spots S a (i + 1) k (if _ then _ else _) = _; rw [if_neg h]
      rw [e]; exact ih _ _ (by omega) ok o
theorem kr_tk_cuts {S : ks_S} {rec : kr_X → Nat → kr_X} (hr : ∀ X a, kr_ok X → kr_ok (rec X a)) (hr2 : ∀ X a, kr_ok X → kr_tk X → kr_tk (rec X a)) {a : Nat} : ∀ (k i : Nat) (X : kr_X), kr_ok X → kr_tk X → kr_tk (kr_cuts rec S a i k X) := by
  intro k
  induction k with
  | zero => exact fun _ _ _ o => o
  | succ k ih =>
    intro i X ok o
    by_cases h : S.2.1 i = some a
    · have e : kr_cuts rec S a i (k + 1) X = kr_cuts rec S a (i + 1) k (kr_add (rec (kr_add X 1) i) 2) := by show kr_cuts rec S a (i + 1) k (if _ then _ else _) = _; rw [if_pos h]
      rw [e]; exact ih _ _ (kr_ok_add (hr _ _ (kr_ok_add ok _)) _) (kr_tk_add (hr2 _ _ (kr_ok_add ok _) (kr_tk_add o (by decide))) (by decide))
    · have e : kr_cuts rec S a i (k + 1) X = kr_cuts rec S a (i + 1) k X := by show kr_cuts rec S a (i + 1) k (if _ then _ else _) = _; rw [if_neg h]
      rw [e]; exact ih _ _ ok o
theorem kr_tk_area {S : ks_S} (os : ks_ok S) : ∀ (f : Nat) (X : kr_X) (a : Nat), kr_ok X → kr_tk X → kr_tk (kr_area S f X a) := by
  intro f
  induction f with
  | zero => exact fun _ _ _ o => o
  | succ f ih => exact fun X a ok o => kr_tk_cuts (kr_ok_area os f) ih _ _ _ (kr_ok_spots os _ _ _ rfl (kr_ok_lines _ _ _ rfl ok)) (kr_tk_spots os _ _ _ rfl (kr_ok_lines _ _ _ rfl ok) (kr_tk_lines _ _ _ rfl ok o))
theorem kr_ok_part {S : ks_S} (os : ks_ok S) (X : kr_X) {k n : Nat} (hk : k < 2) (hn : n < ks_len k) : kr_ok (kr_part S X k n) := by
  unfold kr_part
  by_cases h : k = 0
  · rw [if_pos h]; subst h; exact kr_ok_spot os (kr_ok_clear X (by decide)) hn
  · rw [if_neg h]; exact kr_ok_area os _ _ _ (kr_ok_clear X (ks_mask_lt S _))
theorem kr_tk_part {S : ks_S} (os : ks_ok S) {X : kr_X} (o : kr_tk X) {k n : Nat} (hk : k < 2) (hn : n < ks_len k) : kr_tk (kr_part S X k n) := by
  unfold kr_part
  by_cases h : k = 0
  · rw [if_pos h]; subst h; exact kr_tk_spot os (kr_ok_clear X (by decide)) o hn
  · rw [if_neg h]; exact kr_tk_area os _ _ _ (kr_ok_clear X (ks_mask_lt S _)) o
/-- another part that is alike, from number i on -/
def kc_may (S : ks_S) (k n i : Nat) (y : Option Nat) : Bool := decide (¬ i = n) && (ks_partI S (nI k) (nI i) && ks_in S y (ks_areaI S (nI k) (nI i)))
def kc_alk (S : ks_S) (k n : Nat) (y : Option Nat) (X : kr_X) : Nat → Nat → kr_X → Bool × kr_X
  | _, 0, Y => (false, Y)
  | i, j + 1, Y => if kc_may S k n i y = true then (if kr_same X (kr_part S Y k i) = true then (true, kr_part S Y k i) else kc_alk S k n y X (i + 1) j (kr_part S Y k i)) else kc_alk S k n y X (i + 1) j Y
def kc_alike (C : kc_C) (k n : Nat) : Bool × kr_X := kc_alk (kc_S C) k n (ks_areaI (kc_S C) (nI k) (nI n)) (kr_part (kc_S C) C.2.1.2.1 k n) 0 13 C.2.1.2.2
def kc_alikeC (C : kc_C) (k n : Nat) : kc_C := (C.1, (C.2.1.1, kr_part (kc_S C) C.2.1.2.1 k n, (kc_alike C k n).2), C.2.2)
def kc_uncopyN (C : kc_C) (k n : Nat) : kc_R := if C.2.2.2.2.1 = true then (.inr 1, C) else if (kc_alike C k n).1 = true then if kc_mayCh C = true then (kc_nat (kc_mv C), kc_new (kc_alikeC C k n) (ks_remove (kc_S C) (nI k) (nI n) (some n))) else (.inr 2, kc_alikeC C k n) else (.inr 1, kc_alikeC C k n)
def kc_uncopy (C : kc_C) (k n : Int32) : kc_R := if ks_partI (kc_S C) k n = true then kc_uncopyN C k.toNatClampNeg n.toNatClampNeg else (.inr 0, C)
theorem kc_alk_ok {S : ks_S} (os : ks_ok S) {k n : Nat} (hk : k < 2) {y : Option Nat} {X : kr_X} : ∀ (j i : Nat) (Y : kr_X), i + j = 13 → kr_ok Y → kr_tk Y → kr_ok (kc_alk S k n y X i j Y).2 ∧ kr_tk (kc_alk S k n y X i j Y).2 := by
  intro j
  induction j with
  | zero => exact fun _ _ _ o t => ⟨o, t⟩
  | succ j ih =>
    intro i Y hi o t
    by_cases h : kc_may S k n i y = true
    · have hp : i < ks_len k := by
        unfold kc_may at h
        rw [Bool.and_eq_true, Bool.and_eq_true] at h
        obtain ⟨k', n', h1, h2, e1, e2⟩ := ks_partI_true h.2.1
        have hl := ks_len_le k'
        have := (nI_eq (by omega) (by omega)).mp e1
        have := (nI_eq (by omega) (by omega)).mp e2
        subst_vars
        exact h2
      have o1 := kr_ok_part os Y hk hp
      have t1 := kr_tk_part os t hk hp
      by_cases h2 : kr_same X (kr_part S Y k i) = true
      · have e : kc_alk S k n y X i (j + 1) Y = (true, kr_part S Y k i) := (if_pos h).trans (if_pos h2)
        rw [e]; exact ⟨o1, t1⟩
      · have e : kc_alk S k n y X i (j + 1) Y = kc_alk S k n y X (i + 1) j (kr_part S Y k i) := (if_pos h).trans (if_neg h2)
        rw [e]; exact ih _ _ (by omega) o1 t1
    · have e : kc_alk S k n y X i (j + 1) Y = kc_alk S k n y X (i + 1) j Y := if_neg h
      rw [e]; exact ih _ _ (by omega) o t
