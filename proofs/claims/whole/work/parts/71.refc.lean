/-! Copies: depths; what stays. -/
def km_V (M : km_M) : Nat × Bool × Nat × Nat × (Nat → Nat) × (Nat → Option Nat) := (m_th M, m_st M, m_mv M, m_rd M, m_tk M, m_kp M)
theorem ks_ups_path {S : ks_S} : ∀ (n x : Nat), S.2.1 0 = none → kt_path S n x → ∀ e, ks_ups S (n + e) (S.2.1 x) = ks_ups S n (S.2.1 x) := by
  intro n
  induction n with
  | zero =>
    intro x h0 h e
    have h : x = 0 := h
    subst h
    rw [h0]
    cases e with
    | zero => rfl
    | succ e => rw [Nat.zero_add]; rfl
  | succ n ih =>
    intro x h0 h e
    rcases h with h | ⟨y, h1, h2⟩
    · subst h
      rw [h0, show n + 1 + e = (n + e) + 1 by omega]
      rfl
    · rw [h1, show n + 1 + e = (n + e) + 1 by omega]
      show ks_ups S (n + e) (S.2.1 y) + 1 = ks_ups S n (S.2.1 y) + 1
      rw [ih y h0 h2 e]
theorem km_dp_child {S : ks_S} (o : kt_ok S) {k top : Nat} (hk : k < 13) (h : S.2.1 k = some top) : km_dp S k = km_dp S top + 1 := by
  have h0 := o.1.2.2.2
  have hk0 : ¬ k = 0 := fun e => by rw [e, h0] at h; cases h
  have hp := (o.2.2 k hk (Or.inr (by rw [h]; exact fun w => nomatch w))).2
  obtain ⟨z, hz, hp2⟩ := kt_path_s hp hk0
  have e : z = top := Option.some.inj (hz.symm.trans h)
  subst e
  unfold km_dp
  rw [h]
  show ks_ups S 11 (S.2.1 z) + 1 = ks_ups S 12 (S.2.1 z) + 1
  rw [ks_ups_path 11 z h0 hp2 1]
/-- the stack of cuts that are copied -/
def kd_St (S0 : ks_S) (e0 q : Nat) (M : km_M) : Prop := m_op M = q ∧ ∀ p, p < q → m_pl M p < 13 ∧ m_nn M (m_pl M p) < 13 ∧ km_dp S0 (m_pl M p) = e0 + p
theorem kz_kc (kp sh : Nat → Option Nat) (b : Nat) : kz (fun q => km_kc kp sh b 67 (b + q)) = kz sh := by
  have e : ∀ q, q < 67 → km_kc kp sh b 67 (b + q) = sh q := fun q hq => by
    unfold km_kc
    rw [if_pos (by omega), Nat.add_sub_cancel_left]
  refine Prod.ext (funext fun q => ?_) (Prod.ext (funext fun q => ?_) (Prod.ext (funext fun q => ?_) (Prod.ext (funext fun q => ?_) (funext fun q => ?_)))) <;> simp only [kz] <;> split <;> first | rfl | (rw [e _ (by omega)])
/-- what copy begins with: no line stands for another -/
def kd_nl0 (f : Nat → Option Nat) (i : Nat) : Nat → Option Nat := fun q => if q < i then none else f q
theorem kd_nl0_u (f : Nat → Option Nat) (i : Nat) : ks_u (kd_nl0 f i) i none = kd_nl0 f (i + 1) := by
  funext q
  unfold ks_u kd_nl0
  by_cases h : q = i
  · rw [if_pos h, if_pos (by omega)]
  · rw [if_neg h]
    by_cases h2 : q < i
    · rw [if_pos h2, if_pos (by omega)]
    · rw [if_neg h2, if_neg (by omega)]
theorem kd_nl0_0 (f : Nat → Option Nat) : kd_nl0 f 0 = f := by
  funext q
  unfold kd_nl0
  rw [if_neg (by omega)]
def kd_T0 (M : km_M) : kd_T := (m_sh M, kd_nl0 (m_nl M) 6)
theorem kd_ok_T0 {M : km_M} (o : ks_ok (km_S M)) : kd_ok (kd_T0 M) := ⟨o, fun i hi => by
  show mm_lt (if i < 6 then none else m_nl M i) 6
  rw [if_pos hi]
  exact mm_lt_none⟩
def km_may (M : km_M) (k n a : Nat) : Bool := m_st M && (ks_in (km_S M) (some a) (ks_row (km_S M) k n) && !(decide (k = 1) && ks_in (km_S M) (some a) (some n)))
def km_rm (M : km_M) (k n : Nat) : Bool := if k = 0 then decide (km_new M 0 < 12) else km_room M n
def km_cpC (M : km_M) (k n a : Nat) : Nat := if km_may M k n a = true then (if km_rm M k n = true then km_late M else 3) else 2
theorem km_cpC_le (M : km_M) (k n a : Nat) : km_cpC M k n a ≤ 3 := by
  unfold km_cpC
  split
  · split
    · exact km_late_le M
    · decide
  · decide
theorem km_cpC_0 {M : km_M} {k n a : Nat} (h : km_cpC M k n a = 0) : km_may M k n a = true ∧ km_rm M k n = true ∧ km_late M = 0 := by
  unfold km_cpC at h
  split at h
  · rename_i h1
    split at h
    · rename_i h2
      exact ⟨h1, h2, h⟩
    · cases h
  · cases h
/-- what a copy makes of the sheet -/
def km_cpR (M : km_M) (k n a : Nat) : Option kd_T := if k = 0 then kd_spot (kd_T0 M) n a else kd_cp (km_kc (m_kp M) (m_sh M) (67 * m_mv M) 67) (67 * m_mv M) 12 n a (kd_T0 M)
/-- the end of copy -/
def km_cpP (M : km_M) (k n a : Int32) (T' : kd_T) (v : Option Value) (M' : km_M) : Prop :=
  if (ks_partI (km_S M) k n && ks_harI (km_S M) a) = true then
    (if km_cpC M k.toNatClampNeg n.toNatClampNeg a.toNatClampNeg = 0 then v = some (.int (nI (km_new M k.toNatClampNeg))) ∧ m_sh M' = T'.1 ∧ km_V M' = km_V (km_keep (s_th M 0))
    else v = some (.int (nI 0)) ∧ M' = s_th M (km_cpC M k.toNatClampNeg n.toNatClampNeg a.toNatClampNeg))
  else v = some (.int (nI 0)) ∧ M' = s_th M 1
