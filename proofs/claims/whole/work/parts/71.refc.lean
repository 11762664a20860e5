/-! Copies: depths; what stays. -/
def km_V (M : km_M) : Nat × Bool × Nat × Nat × (Nat → Nat) × (Nat → Option Nat) := (m_th M, m_st M, m_mv M, m_rd M, m_tk M, m_kp M)
theorem ks_ups_path {S : ks_S} : ∀ (n x : Nat), S.2.1 0 = none → kt_path S n x → ∀ e, ks_ups S (n + e) (S.2.1 x) = ks_ups S n (S.2.1 x) := by
  intro n
  induction n with
  | zero =>
    intro x h0 h e
    have h : x = 0 := h
    subst h
    rw [h0]
    cases e with
    | zero => rfl
    | succ e => rw [Nat.zero_add]; rfl
  | succ n ih =>
    intro x h0 h e
    rcases h with h | ⟨y, h1, h2⟩
    · subst h
      rw [h0, show n + 1 + e = (n + e) + 1 by omega]
      rfl
    · rw [h1, show n + 1 + e = (n + e) + 1 by omega]
      show ks_ups S (n + e) (S.2.1 y) + 1 = ks_ups S n (S.2.1 y) + 1
      rw [ih y h0 h2 e]
theorem km_dp_child {S : ks_S} (o : kt_ok S) {k top : Nat} (hk : k < 13) (h : S.2.1 k = some top) : km_dp S k = km_dp S top + 1 := by
  have h0 := o.1.2.2.2
  have hk0 : ¬ k = 0 := fun e => by rw [e, h0] at h; cases h
  have hp := (o.2.2 k hk (Or.inr (by rw [h]; exact fun w => nomatch w))).2
  obtain ⟨z, hz, hp2⟩ := kt_path_s hp hk0
  have e : z = top := Option.some.inj (hz.symm.trans h)
  subst e
  unfold km_dp
  rw [h]
  show ks_ups S 11 (S.2.1 z) + 1 = ks_ups S 12 (S.2.1 z) + 1
  rw [ks_ups_path 11 z h0 hp2 1]
/-- the stack of cuts that are copied -/
def kd_St (S0 : ks_S) (e0 q : Nat) (M : km_M) : Prop := m_op M = q ∧ ∀ p, p < q → m_pl M p < 13 ∧ m_nn M (m_pl M p) < 13 ∧ km_dp S0 (m_pl M p) = e0 + p
