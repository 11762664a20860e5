/-! Wrapping, unwrapping, joining, severing, taking back. -/
theorem km_th_th (M : km_M) (a b : Nat) : s_th (s_th M a) b = s_th M b := rfl
def km_wrT (M : km_M) : Nat := if m_st M = false then 2 else if 10 < km_amt (m_sh M) 1 12 then 3 else km_late M
theorem km_late_le (M : km_M) : km_late M ≤ 3 := by
  unfold km_late
  split
  · decide
  · decide
theorem km_wrT_le (M : km_M) : km_wrT M ≤ 3 := by
  unfold km_wrT
  split
  · decide
  · split
    · decide
    · exact km_late_le M
theorem km_late_mv {M : km_M} (h : km_late M = 0) (hm : m_mv M ≤ 20) : m_mv M < 20 := by
  unfold km_late at h
  split at h
  · cases h
  · omega
theorem km_wrT_0 {M : km_M} (h : km_wrT M = 0) : m_st M = true ∧ km_amt (m_sh M) 1 12 ≤ 10 ∧ km_late M = 0 := by
  unfold km_wrT at h
  split at h
  · cases h
  · rename_i h1
    split at h
    · cases h
    · rename_i h2
      exact ⟨by cases hs : m_st M with
        | true => rfl
        | false => exact absurd hs h1, by omega, h⟩
theorem km_free_amt (f : Nat → Option Nat) : ∀ (k i : Nat), ks_free f i k = none → km_amt f i k = k := by
  intro k
  induction k with
  | zero => exact fun _ _ => rfl
  | succ k ih =>
    intro i h
    by_cases hf : f i = none
    · rw [show ks_free f i (k + 1) = some i from if_pos hf] at h; cases h
    · rw [show ks_free f i (k + 1) = ks_free f (i + 1) k from if_neg hf] at h
      show (if f i = none then 0 else 1) + km_amt f (i + 1) k = k + 1
      rw [if_neg hf, ih _ h]; omega
theorem km_amt_cong {f g : Nat → Option Nat} : ∀ (k i : Nat), (∀ q, i ≤ q → q < i + k → f q = g q) → km_amt f i k = km_amt g i k := by
  intro k
  induction k with
  | zero => exact fun _ _ => rfl
  | succ k ih =>
    intro i h
    show (if f i = none then 0 else 1) + km_amt f (i + 1) k = (if g i = none then 0 else 1) + km_amt g (i + 1) k
    rw [h i (Nat.le_refl _) (by omega), ih (i + 1) fun q h1 h2 => h q (by omega) (by omega)]
theorem km_amt_u {f : Nat → Option Nat} {j a : Nat} (hj : f j = none) : ∀ (k i : Nat), i ≤ j → j < i + k → km_amt (ks_u f j (some a)) i k = km_amt f i k + 1 := by
  intro k
  induction k with
  | zero => exact fun i h1 h2 => absurd h2 (by omega)
  | succ k ih =>
    intro i h1 h2
    show (if ks_u f j (some a) i = none then 0 else 1) + km_amt (ks_u f j (some a)) (i + 1) k = (if f i = none then 0 else 1) + km_amt f (i + 1) k + 1
    by_cases e : i = j
    · subst e
      rw [show ks_u f i (some a) i = some a from if_pos rfl, if_neg (fun w => nomatch w), if_pos hj, km_amt_cong (f := ks_u f i (some a)) (g := f) k (i + 1) fun q g1 g2 => if_neg (by omega)]
      omega
    · rw [show ks_u f j (some a) i = f i from if_neg e, ih (i + 1) (by omega) (by omega)]
      omega
theorem kz_amt (f : Nat → Option Nat) : km_amt (kz f).2.1 1 12 = km_amt f 1 12 := km_amt_cong 12 1 fun q _ h2 => kz_c f (by omega)
theorem km_slot1 {M : km_M} (h : km_amt (m_sh M) 1 12 < 12) : ∃ j, ks_slot (km_S M) 1 = some j ∧ km_new M 1 = j ∧ 1 ≤ j ∧ j < 13 ∧ m_sh M j = none := by
  unfold km_new
  cases hs : ks_slot (km_S M) 1 with
  | none =>
    have := km_free_amt _ _ _ (show ks_free (km_S M).2.1 1 12 = none from hs)
    have e := kz_amt (m_sh M)
    have e2 : km_amt (km_S M).2.1 1 12 = km_amt (m_sh M) 1 12 := e
    omega
  | some j =>
    obtain ⟨h1, h2, h3⟩ := ks_slot_some hs
    have h2 : j < 13 := h2
    exact ⟨j, rfl, rfl, h1, h2, (kz_c _ h2).symm.trans h3⟩
def km_wrA (M : km_M) (k n : Int32) : Nat := if k = nI 2 then n.toNatClampNeg else (ks_row (km_S M) k.toNatClampNeg n.toNatClampNeg).getD 0
def km_wrM2 (M : km_M) (a : Nat) : km_M := km_st M (km_new M 1) (some a)
def km_wrM3 (M : km_M) (a : Nat) : km_M := km_st (km_wrM2 M a) (km_new (km_wrM2 M a) 1) (some (km_new M 1))
def km_wrM (M : km_M) (k n : Int32) (a : Nat) : km_M := if k = nI 2 then km_wrM3 M a else km_st (km_wrM3 M a) (if k = nI 0 then 19 + n.toNatClampNeg else n.toNatClampNeg) (some (km_new (km_wrM2 M a) 1))
def km_wrap (M : km_M) (k n : Int32) : Nat × km_M := if (if k = nI 2 then ks_harI (km_S M) n else ks_partI (km_S M) k n) = true then (if km_wrT M = 0 then (km_new M 1, km_wrM (km_keep (s_th M 0)) k n (km_wrA M k n)) else (0, s_th M (km_wrT M))) else (0, s_th M 1)
/-- the only cut in a cut -/
def km_on1 (f : Nat → Option Nat) (c : Nat) : Nat → Nat → Option Nat × Nat → Option Nat × Nat
  | _, 0, T => T
  | i, j + 1, T => km_on1 f c (i + 1) j (if f i = some c then (some i, T.2 + 1) else T)
def km_on2 (f : Nat → Option Nat) (c : Nat) : Nat → Nat → Nat → Nat
  | _, 0, n => n
  | i, j + 1, n => km_on2 f c (i + 1) j (if f i = some c then n + 2 else n)
def km_only (f : Nat → Option Nat) (c : Nat) : Option Nat := if km_on2 f c 13 18 (km_on1 f c 1 12 (none, 0)).2 = 1 then (km_on1 f c 1 12 (none, 0)).1 else none
theorem km_on1_lt (f : Nat → Option Nat) (c : Nat) : ∀ (j i : Nat) (T : Option Nat × Nat), i + j = 13 → 1 ≤ i → (∀ q, T.1 = some q → 1 ≤ q ∧ q < 13 ∧ f q = some c) → ∀ q, (km_on1 f c i j T).1 = some q → 1 ≤ q ∧ q < 13 ∧ f q = some c := by
  intro j
  induction j with
  | zero => exact fun _ _ _ _ h => h
  | succ j ih =>
    intro i T hi h1 h
    refine ih (i + 1) _ (by omega) (by omega) ?_
    split
    · rename_i hc
      intro q hq
      cases hq
      exact ⟨h1, by omega, hc⟩
    · exact h
theorem km_only_lt {f : Nat → Option Nat} {c q : Nat} (h : km_only f c = some q) : 1 ≤ q ∧ q < 13 ∧ f q = some c := by
  unfold km_only at h
  split at h
  · exact km_on1_lt f c 12 1 (none, 0) rfl (Nat.le_refl _) (fun q hq => nomatch hq) q h
  · cases h
/-- one number stands for another, in a row of cells -/
def km_ux (x : Nat) (a : Option Nat) : Nat → Nat → km_M → km_M
  | _, 0, M => M
  | i, j + 1, M => km_ux x a (i + 1) j (km_st M i (if m_sh M i = some x then a else m_sh M i))
def km_uwT (M : km_M) (c : Nat) : Nat := if m_st M = false ∨ km_only (m_sh M) c = none then 2 else km_late M
def km_uwM (M : km_M) (c x : Nat) : km_M := km_ux x (m_sh M c) 1 30 (km_st (km_st M c none) x none)
def km_unwrapN (M : km_M) (c : Nat) : Nat × km_M := if km_uwT M c = 0 then (m_mv (km_uwM (km_keep (s_th M 0)) c ((km_only (m_sh M) c).getD 0)), km_uwM (km_keep (s_th M 0)) c ((km_only (m_sh M) c).getD 0)) else (0, s_th M (km_uwT M c))
def km_unwrap (M : km_M) (c : Int32) : Nat × km_M := if ks_hasI (km_S M) (nI 1) c = true then km_unwrapN M c.toNatClampNeg else (0, s_th M 1)
theorem km_uwT_le (M : km_M) (c : Nat) : km_uwT M c ≤ 3 := by
  unfold km_uwT
  split
  · decide
  · exact km_late_le M
theorem km_uwT_0 {M : km_M} {c : Nat} (h : km_uwT M c = 0) : m_st M = true ∧ (∃ x, km_only (m_sh M) c = some x) ∧ km_late M = 0 := by
  unfold km_uwT at h
  split at h
  · cases h
  · rename_i h1
    refine ⟨?_, ?_, h⟩
    · cases hs : m_st M with
      | true => rfl
      | false => exact absurd (Or.inl hs) h1
    · cases hs : km_only (m_sh M) c with
      | some x => exact ⟨x, rfl⟩
      | none => exact absurd (Or.inr hs) h1
def km_joT (M : km_M) (f s : Nat) : Nat := if m_st M = false ∨ km_dp (km_S M) (((km_S M).2.2.1 f).getD 0) % 2 = 0 ∨ ks_in (km_S M) ((km_S M).2.2.1 f) ((km_S M).2.2.1 s) = false then 2 else km_late M
def km_joM (M : km_M) (f s : Nat) : km_M := km_ux f (some s) 43 24 (km_st M (13 + f) none)
def km_joinN (M : km_M) (f s : Nat) : Nat × km_M := if km_joT M f s = 0 then (m_mv (km_joM (km_keep (s_th M 0)) f s), km_joM (km_keep (s_th M 0)) f s) else (0, s_th M (km_joT M f s))
def km_join (M : km_M) (f s : Int32) : Nat × km_M := if (ks_hasI (km_S M) (nI 2) f && (ks_hasI (km_S M) (nI 2) s && decide (¬ f = s))) = true then km_joinN M f.toNatClampNeg s.toNatClampNeg else (0, s_th M 1)
theorem km_joT_le (M : km_M) (f s : Nat) : km_joT M f s ≤ 3 := by
  unfold km_joT
  split
  · decide
  · exact km_late_le M
theorem km_joT_0 {M : km_M} {f s : Nat} (h : km_joT M f s = 0) : m_st M = true ∧ km_late M = 0 := by
  unfold km_joT at h
  split at h
  · cases h
  · rename_i h1
    refine ⟨?_, h⟩
    cases hs : m_st M with
    | true => rfl
    | false => exact absurd (Or.inl hs) h1
def km_sv1 (n : Nat) (v : Nat) (a : Nat) (M : km_M) (s i : Nat) : km_M := km_st M i (if ks_in (km_S M) ((km_S M).1 s) (some a) = true ∧ m_sh M i = some n then some v else m_sh M i)
def km_sv (n v a : Nat) : Nat → Nat → km_M → km_M
  | _, 0, M => M
  | i, j + 1, M => km_sv n v a (i + 1) j (km_sv1 n v a (km_sv1 n v a M i (43 + 2 * i)) i (43 + 2 * i + 1))
def km_svT (M : km_M) (n a : Nat) : Nat := if m_st M = true ∧ km_dp (km_S M) a % 2 = 0 ∧ ks_in (km_S M) (some a) ((km_S M).2.2.1 n) = true then (if km_fu M 2 = true then 3 else km_late M) else 2
def km_svM (M : km_M) (n a : Nat) : km_M := km_sv n (km_new M 2) a 0 12 (km_st M (13 + km_new M 2) (some a))
def km_severN (M : km_M) (n a : Nat) : Nat × km_M := if km_svT M n a = 0 then (km_new M 2, km_svM (km_keep (s_th M 0)) n a) else (0, s_th M (km_svT M n a))
def km_sever (M : km_M) (n a : Int32) : Nat × km_M := if (ks_hasI (km_S M) (nI 2) n && ks_harI (km_S M) a) = true then km_severN M n.toNatClampNeg a.toNatClampNeg else (0, s_th M 1)
theorem km_svT_le (M : km_M) (n a : Nat) : km_svT M n a ≤ 3 := by
  unfold km_svT
  split
  · split
    · decide
    · exact km_late_le M
  · decide
theorem km_svT_0 {M : km_M} {n a : Nat} (h : km_svT M n a = 0) : m_st M = true ∧ km_fu M 2 = false ∧ km_late M = 0 := by
  unfold km_svT at h
  split at h
  · rename_i h1
    split at h
    · cases h
    · rename_i h2
      exact ⟨h1.1, by cases hs : km_fu M 2 with
        | true => exact absurd hs h2
        | false => rfl, h⟩
  · cases h
/-- cells below i are those of another row -/
def km_bk (sh kp : Nat → Option Nat) (b i : Nat) : Nat → Option Nat := fun q => if q < i then kp (b + q) else sh q
theorem km_bk_0 (sh kp : Nat → Option Nat) (b : Nat) : km_bk sh kp b 0 = sh := by
  funext q
  unfold km_bk
  rw [if_neg (by omega)]
theorem km_bk_u (sh kp : Nat → Option Nat) (b i : Nat) : ks_u (km_bk sh kp b i) i (kp (b + i)) = km_bk sh kp b (i + 1) := by
  funext q
  unfold ks_u km_bk
  by_cases h : q = i
  · rw [if_pos h, if_pos (by omega), h]
  · rw [if_neg h]
    by_cases h2 : q < i
    · rw [if_pos h2, if_pos (by omega)]
    · rw [if_neg h2, if_neg (by omega)]
def km_bkM (M : km_M) : km_M := s_sh (s_mv (s_th M 0) (m_mv M - 1)) (km_bk (m_sh M) (m_kp M) (67 * (m_mv M - 1)) 67)
def km_back (M : km_M) : Nat × km_M := if m_mv M = 0 then (0, s_th M 1) else (m_mv M - 1, km_bkM M)
def km_depth (M : km_M) (a : Int32) : Nat × km_M := if ks_harI (km_S M) a = true then (km_dp (km_S M) a.toNatClampNeg, s_th M 0) else (0, s_th M 1)
def km_token (M : km_M) (i : Int32) : Nat × km_M := if (decide (0 ≤ i) && decide (i < nI (m_rd M))) = true then (m_tk M i.toNatClampNeg, s_th M 0) else (0, s_th M 1)
def km_count (M : km_M) (n : Int32) : Nat × km_M := if (decide (0 ≤ n) && decide (n ≤ nI 3)) = true then ((if n = nI 0 then km_amt (m_sh M) 1 12 else if n = nI 1 then km_amt (m_sh M) 19 12 else if n = nI 2 then km_amt (m_sh M) 13 6 else m_mv M), s_th M 0) else (0, s_th M 1)
theorem km_sm31 {M : km_M} (o : ks_ok (km_S M)) {k : Nat} (hk : k < 31) : mm_sm (m_sh M k) := by
  by_cases h1 : k < 13
  · exact kz_smc o h1
  by_cases h2 : k < 19
  · rw [show k = 13 + (k - 13) by omega]; exact kz_sml o (by omega)
  · rw [show k = 19 + (k - 19) by omega]; exact kz_sms o (by omega)
theorem km_sm43 {M : km_M} (o : ks_ok (km_S M)) {q : Nat} (h1 : 43 ≤ q) (h2 : q < 67) : mm_sm (m_sh M q) := by
  have e := kz_h (m_sh M) (i := q - 43) (by omega)
  rw [show 43 + (q - 43) = q by omega] at e
  rw [← e]
  exact (o.hk (i := q - 43) (by omega)).sm (by decide)
theorem km_erT_le (M : km_M) (k n : Nat) : km_erT M k n ≤ 3 := by
  unfold km_erT
  split
  · decide
  · exact km_late_le M
theorem km_erT_0 {M : km_M} {k n : Nat} (h : km_erT M k n = 0) : m_st M = true ∧ km_late M = 0 := by
  unfold km_erT at h
  split at h
  · cases h
  · rename_i h1
    refine ⟨?_, h⟩
    cases hs : m_st M with
    | true => rfl
    | false => exact absurd (Or.inl hs) h1
theorem km_eraseN_t {M : km_M} {k n : Nat} (q : km_erT M k n = 0) {M' : km_M} (e : km_erM (km_keep (s_th M 0)) k n = M') : km_eraseN M k n = (m_mv M', M') := by
  unfold km_eraseN
  rw [if_pos q, e]
theorem km_erM_0 (M : km_M) (n : Nat) : km_erM M 0 n = km_rmS M n := if_pos rfl
theorem km_erM_1 (M : km_M) (n : Nat) : km_erM M 1 n = km_rcA M n := (if_neg (by decide)).trans (if_pos rfl)
theorem km_erM_2 (M : km_M) (n : Nat) : km_erM M 2 n = km_st M (13 + n) none := (if_neg (by decide)).trans (if_neg (by decide))
theorem km_on1_t {f : Nat → Option Nat} {c i j : Nat} {T : Option Nat × Nat} (h : f i = some c) : km_on1 f c i (j + 1) T = km_on1 f c (i + 1) j (some i, T.2 + 1) := congrArg (km_on1 f c (i + 1) j) (if_pos h)
theorem km_on1_f {f : Nat → Option Nat} {c i j : Nat} {T : Option Nat × Nat} (h : ¬ f i = some c) : km_on1 f c i (j + 1) T = km_on1 f c (i + 1) j T := congrArg (km_on1 f c (i + 1) j) (if_neg h)
theorem km_on2_t {f : Nat → Option Nat} {c i j n : Nat} (h : f i = some c) : km_on2 f c i (j + 1) n = km_on2 f c (i + 1) j (n + 2) := congrArg (km_on2 f c (i + 1) j) (if_pos h)
theorem km_on2_f {f : Nat → Option Nat} {c i j n : Nat} (h : ¬ f i = some c) : km_on2 f c i (j + 1) n = km_on2 f c (i + 1) j n := congrArg (km_on2 f c (i + 1) j) (if_neg h)
theorem km_ux_t {x i j : Nat} {a : Option Nat} {M : km_M} (h : m_sh M i = some x) : km_ux x a i (j + 1) M = km_ux x a (i + 1) j (km_st M i a) := congrArg (fun z => km_ux x a (i + 1) j (km_st M i z)) (if_pos h)
theorem km_ux_f {x i j : Nat} {a : Option Nat} {M : km_M} (h : ¬ m_sh M i = some x) : km_ux x a i (j + 1) M = km_ux x a (i + 1) j (km_st M i (m_sh M i)) := congrArg (fun z => km_ux x a (i + 1) j (km_st M i z)) (if_neg h)
theorem km_unwrapN_t {M : km_M} {c x : Nat} (q : km_uwT M c = 0) (hx : km_only (m_sh M) c = some x) {M' : km_M} (e : km_uwM (km_keep (s_th M 0)) c x = M') : km_unwrapN M c = (m_mv M', M') := by
  unfold km_unwrapN
  rw [if_pos q, hx]
  show (m_mv (km_uwM (km_keep (s_th M 0)) c x), km_uwM (km_keep (s_th M 0)) c x) = _
  rw [e]
theorem km_joinN_t {M : km_M} {f s : Nat} (q : km_joT M f s = 0) {M' : km_M} (e : km_joM (km_keep (s_th M 0)) f s = M') : km_joinN M f s = (m_mv M', M') := by
  unfold km_joinN
  rw [if_pos q, e]
theorem km_severN_t {M : km_M} {n a : Nat} (q : km_svT M n a = 0) {M' : km_M} (e : km_svM (km_keep (s_th M 0)) n a = M') : km_severN M n a = (km_new M 2, M') := by
  unfold km_severN
  rw [if_pos q, e]
theorem km_ux_sm {x : Nat} {a : Option Nat} : ∀ (j i : Nat) (M : km_M), m_mv (km_ux x a i j M) = m_mv M := by
  intro j
  induction j with
  | zero => exact fun _ _ => rfl
  | succ j ih => exact fun i M => (ih _ _).trans rfl
theorem km_sv_s {n v a i j : Nat} {M : km_M} : km_sv n v a i (j + 1) M = km_sv n v a (i + 1) j (km_sv1 n v a (km_sv1 n v a M i (43 + 2 * i)) i (43 + 2 * i + 1)) := rfl
