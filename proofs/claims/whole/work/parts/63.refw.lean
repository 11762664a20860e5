/-! What the reference's methods answer and write: keeping, putting in. -/
def km_amt (f : Nat → Option Nat) : Nat → Nat → Nat
  | _, 0 => 0
  | i, j + 1 => (if f i = none then 0 else 1) + km_amt f (i + 1) j
theorem km_amt_le (f : Nat → Option Nat) : ∀ (j i : Nat), km_amt f i j ≤ j := by
  intro j
  induction j with
  | zero => exact fun _ => Nat.le_refl _
  | succ j ih =>
    intro i
    have := ih (i + 1)
    show (if f i = none then 0 else 1) + km_amt f (i + 1) j ≤ j + 1
    by_cases h : f i = none
    · rw [if_pos h]; omega
    · rw [if_neg h]; omega
/-- n cells from b on are those of another row -/
def km_kc (kp sh : Nat → Option Nat) (b n : Nat) : Nat → Option Nat := fun q => if b ≤ q ∧ q < b + n then sh (q - b) else kp q
theorem km_kc_0 (kp sh : Nat → Option Nat) (b : Nat) : km_kc kp sh b 0 = kp := by
  funext q
  unfold km_kc
  rw [if_neg (by omega)]
theorem km_kc_u (kp sh : Nat → Option Nat) (b i : Nat) : ks_u (km_kc kp sh b i) (b + i) (sh i) = km_kc kp sh b (i + 1) := by
  funext q
  unfold ks_u km_kc
  by_cases h : q = b + i
  · rw [if_pos h, if_pos (by omega), h, Nat.add_sub_cancel_left]
  · rw [if_neg h]
    by_cases h2 : b ≤ q ∧ q < b + i
    · rw [if_pos h2, if_pos (by omega)]
    · rw [if_neg h2, if_neg (by omega)]
def km_keep (M : km_M) : km_M := if m_st M = true then s_mv (s_kp M (km_kc (m_kp M) (m_sh M) (67 * m_mv M) 67)) (m_mv M + 1) else M
theorem km_keep_sh (M : km_M) : m_sh (km_keep M) = m_sh M := by
  unfold km_keep
  by_cases h : m_st M = true
  · rw [if_pos h]; rfl
  · rw [if_neg h]
theorem km_keep_S (M : km_M) : km_S (km_keep M) = km_S M := congrArg kz (km_keep_sh M)
theorem km_keep_mv (M : km_M) : m_mv (km_keep M) = if m_st M = true then m_mv M + 1 else m_mv M := by
  unfold km_keep
  by_cases h : m_st M = true
  · rw [if_pos h, if_pos h]; rfl
  · rw [if_neg h, if_neg h]
/-- one cell of the sheet -/
def km_st (M : km_M) (i : Nat) (o : Option Nat) : km_M := s_sh M (ks_u (m_sh M) i o)
def km_dp (S : ks_S) (a : Nat) : Nat := ks_ups S 12 (S.2.1 a)
theorem km_dp_le (S : ks_S) (a : Nat) : km_dp S a ≤ 12 := ks_ups_le S 12 _
def km_ck (S : ks_S) (st : Bool) (mv a : Nat) (full : Bool) : Nat := if st = true ∧ km_dp S a % 2 = 0 then 2 else if full = true ∨ (st = true ∧ mv = 20) then 3 else 0
theorem km_ck_le (S : ks_S) (st : Bool) (mv a : Nat) (full : Bool) : km_ck S st mv a full ≤ 3 := by
  unfold km_ck
  split
  · decide
  · split
    · decide
    · decide
def km_off (k : Nat) : Nat := match k with
  | 0 => 19
  | 1 => 0
  | _ => 13
def km_fu (M : km_M) (k : Nat) : Bool := decide ((ks_slot (km_S M) k).getD (ks_len k) = ks_len k)
def km_ckA (M : km_M) (k : Nat) (a : Int32) : Nat := km_ck (km_S M) (m_st M) (m_mv M) a.toNatClampNeg (km_fu M k)
def km_new (M : km_M) (k : Nat) : Nat := (ks_slot (km_S M) k).getD (ks_len k)
/-- k = 1: cut; k = 2: line -/
def km_put (M : km_M) (k : Nat) (a : Int32) : Nat × km_M := if ks_harI (km_S M) a = true then (if km_ckA M k a = 0 then (km_new M k, km_st (km_keep (s_th M 0)) (km_off k + km_new M k) (some a.toNatClampNeg)) else (0, s_th M (km_ckA M k a))) else (0, s_th M 1)
theorem ks_slot_gd (S : ks_S) (k : Nat) : (ks_slot S k).getD (ks_len k) ≤ ks_len k := by
  cases h : ks_slot S k with
  | none => exact Nat.le_refl _
  | some j => exact Nat.le_of_lt (ks_slot_some h).2.1
theorem ks_gd_lt (S : ks_S) (k : Nat) (h : ¬ (ks_slot S k).getD (ks_len k) = ks_len k) : (ks_slot S k).getD (ks_len k) < ks_len k := by
  have := ks_slot_gd S k
  omega
theorem km_ck_full (S : ks_S) (st : Bool) (mv a : Nat) : ¬ km_ck S st mv a true = 0 := by
  unfold km_ck
  split
  · decide
  · rw [if_pos (Or.inl rfl)]; decide
theorem km_har {S : ks_S} (o : kt_ok S) {a : Int32} (h : ks_harI S a = true) : ∃ i : Nat, i < 13 ∧ a = nI i ∧ kt_is S i := by
  unfold ks_harI at h
  rw [Bool.or_eq_true, decide_eq_true_eq] at h
  rcases h with h | h
  · exact ⟨0, by decide, h, o.2.2 0 (by decide) (Or.inl rfl)⟩
  · obtain ⟨k, i, b, e1, e2, h1, h2, h3⟩ := ks_hasI_true h
    have hk : 1 = k := (nI_eq (by decide) (by omega)).mp e1
    subst hk
    have h2 : i < 13 := h2
    exact ⟨i, h2, e2, o.2.2 i h2 (Or.inr (fun e => by have h3 : S.2.1 i = some b := h3; rw [e] at h3; cases h3))⟩
/-- a line may be hooked to in an area -/
def km_mh (S : ks_S) (a : Nat) (n : Int32) : Bool := ks_hasI S (nI 2) n && ks_in S (some a) (ks_areaI S (nI 2) n)
def km_bad (S : ks_S) (a sg f s : Int32) : Bool := !(ks_harI S a && (decide (0 ≤ sg) && (decide (sg ≤ nI 3) && ((decide (¬ 0 < kc_places sg.toNatClampNeg) || km_mh S a.toNatClampNeg f) && (decide (¬ 1 < kc_places sg.toNatClampNeg) || km_mh S a.toNatClampNeg s)))))
def km_spotM (M : km_M) (j a sg : Nat) (f s : Option Nat) : km_M := km_st (km_st (km_st (km_st M (19 + j) (some a)) (31 + j) (some sg)) (43 + 2 * j) f) (43 + 2 * j + 1) s
def km_hk (p n : Nat) (f : Int32) : Option Nat := if n < p then some f.toNatClampNeg else none
def km_spot (M : km_M) (a sg f s : Int32) : Nat × km_M := if km_bad (km_S M) a sg f s = true then (0, s_th M 1) else if km_ckA M 0 a = 0 then (km_new M 0, km_spotM (km_keep (s_th M 0)) (km_new M 0) a.toNatClampNeg sg.toNatClampNeg (km_hk (kc_places sg.toNatClampNeg) 0 f) (km_hk (kc_places sg.toNatClampNeg) 1 s)) else (0, s_th M (km_ckA M 0 a))
def km_start (M : km_M) : km_M := if m_st M = true then s_th M 1 else s_kp (s_st (s_th M 0) true) (km_kc (m_kp M) (m_sh M) 0 67)
theorem km_ckA_mv {M : km_M} {k : Nat} {a : Int32} (h : km_ckA M k a = 0) (hm : m_mv M ≤ 20) (w : m_st M = true) : m_mv M < 20 := by
  rcases Nat.lt_or_ge (m_mv M) 20 with g | g
  · exact g
  exfalso
  unfold km_ckA km_ck at h
  split at h
  · cases h
  · rw [if_pos (Or.inr ⟨w, by omega⟩)] at h
    cases h
