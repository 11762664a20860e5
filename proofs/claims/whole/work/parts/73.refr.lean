/-! Readings of the reference, as rows of tokens. -/
abbrev ke_R : Type := (Nat → Nat) × Nat
def ke_adds (R : ke_R) (t : List Nat) : ke_R := t.foldl (fun R t => (ks_un R.1 R.2 t, R.2 + 1)) R
theorem ke_adds_app (R : ke_R) (a b : List Nat) : ke_adds R (a ++ b) = ke_adds (ke_adds R a) b := List.foldl_append
theorem ke_adds_cons (R : ke_R) (t : Nat) (b : List Nat) : ke_adds R (t :: b) = ke_adds (ke_adds R [t]) b := rfl
theorem ke_adds_n : ∀ (t : List Nat) (R : ke_R), (ke_adds R t).2 = R.2 + t.length := by
  intro t
  induction t with
  | nil => exact fun _ => rfl
  | cons a t ih =>
    intro R
    rw [ke_adds_cons, ih]
    show R.2 + 1 + t.length = R.2 + (t.length + 1)
    omega
def ke_M (M : km_M) (R : ke_R) : km_M := s_rd (s_tk M R.1) R.2
theorem ke_M_id (M : km_M) : ke_M M (m_tk M, m_rd M) = M := rfl
def ke_hk (S : ks_S) (s : Nat) : Nat → Nat → List Nat
  | _, 0 => []
  | i, j + 1 => (100 + (S.2.2.2.2 (2 * s + i)).getD 0) :: ke_hk S s (i + 1) j
def ke_sp (S : ks_S) (s : Nat) : List Nat := (10 + S.2.2.2.1 s) :: ke_hk S s 0 (kc_places (S.2.2.2.1 s))
def ke_lnL (S : ks_S) (a : Nat) : Nat → Nat → List Nat
  | _, 0 => []
  | i, j + 1 => (if S.2.2.1 i = some a then [100 + i] else []) ++ ke_lnL S a (i + 1) j
def ke_spL (S : ks_S) (a : Nat) : Nat → Nat → List Nat
  | _, 0 => []
  | i, j + 1 => (if S.1 i = some a then ke_sp S i else []) ++ ke_spL S a (i + 1) j
def ke_own (S : ks_S) (a : Nat) : List Nat := ke_lnL S a 0 6 ++ ke_spL S a 0 12
def ke_kids (rec : Nat → List Nat) (S : ks_S) (a : Nat) : Nat → Nat → List Nat
  | _, 0 => []
  | i, j + 1 => (if S.2.1 i = some a then 1 :: (rec i ++ [2]) else []) ++ ke_kids rec S a (i + 1) j
def ke_area (S : ks_S) : Nat → Nat → List Nat
  | 0, _ => []
  | f + 1, a => ke_own S a ++ ke_kids (ke_area S f) S a 1 12
/-- spots have signs, and lines at their hooks -/
def ke_raw (f : Nat → Option Nat) : Prop := ∀ s, s < 12 → ¬ f (19 + s) = none → ∃ g, g < 4 ∧ f (31 + s) = some g ∧ ∀ k, k < kc_places g → ∃ n, n < 6 ∧ f (43 + 2 * s + k) = some n ∧ ¬ f (13 + n) = none
/-- what stays when tokens are read -/
def ke_V (M : km_M) : (Nat × Bool × Nat × Nat) × (Nat → Option Nat) × (Nat → Option Nat) × (Nat → Nat) × (Nat → Nat) × (Nat → Nat) := ((m_th M, m_st M, m_mv M, m_od M), m_sh M, m_kp M, m_ot M, m_hb M, m_nn M)
/-- the stack of areas that are read -/
def ke_St (S0 : ks_S) (e0 q : Nat) (M : km_M) : Prop := m_op M = q ∧ ∀ p, p < q → m_pl M p < 13 ∧ km_dp S0 (m_pl M p) = e0 + p
theorem ke_hk_len (S : ks_S) (s : Nat) : ∀ (j i : Nat), (ke_hk S s i j).length = j := by
  intro j
  induction j with
  | zero => exact fun _ => rfl
  | succ j ih => exact fun i => congrArg (· + 1) (ih (i + 1))
theorem ke_lnL_t {S : ks_S} {a i j : Nat} (h : S.2.2.1 i = some a) : ke_lnL S a i (j + 1) = (100 + i) :: ke_lnL S a (i + 1) j := congrArg (· ++ ke_lnL S a (i + 1) j) (if_pos h)
theorem ke_lnL_f {S : ks_S} {a i j : Nat} (h : ¬ S.2.2.1 i = some a) : ke_lnL S a i (j + 1) = ke_lnL S a (i + 1) j := congrArg (· ++ ke_lnL S a (i + 1) j) (if_neg h)
theorem ke_spL_t {S : ks_S} {a i j : Nat} (h : S.1 i = some a) : ke_spL S a i (j + 1) = ke_sp S i ++ ke_spL S a (i + 1) j := congrArg (· ++ ke_spL S a (i + 1) j) (if_pos h)
theorem ke_spL_f {S : ks_S} {a i j : Nat} (h : ¬ S.1 i = some a) : ke_spL S a i (j + 1) = ke_spL S a (i + 1) j := congrArg (· ++ ke_spL S a (i + 1) j) (if_neg h)
theorem ke_kids_t {rec : Nat → List Nat} {S : ks_S} {a i j : Nat} (h : S.2.1 i = some a) : ke_kids rec S a i (j + 1) = 1 :: (rec i ++ [2]) ++ ke_kids rec S a (i + 1) j := congrArg (· ++ ke_kids rec S a (i + 1) j) (if_pos h)
theorem ke_kids_f {rec : Nat → List Nat} {S : ks_S} {a i j : Nat} (h : ¬ S.2.1 i = some a) : ke_kids rec S a i (j + 1) = ke_kids rec S a (i + 1) j := congrArg (· ++ ke_kids rec S a (i + 1) j) (if_neg h)
