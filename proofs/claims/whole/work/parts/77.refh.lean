/-! Worlds of the reference: tables. -/
def kh_ub (f : Nat → Bool) (j : Nat) (v : Bool) : Nat → Bool := fun i => if i = j then v else f i
theorem kh_ub_enc (f : Nat → Bool) (j : Nat) (v : Bool) : upd (fun i => mm_bI (f i)) j (mm_bI v) = fun i => mm_bI (kh_ub f j v i) := by
  funext i
  by_cases hi : i = j
  · simp [upd, kh_ub, hi]
  · simp [upd, kh_ub, hi]
theorem kv_hd (h : mm_H) (m : Nat) (M : km_M) (j : Nat) (v : Bool) : mm_up (km_set h m M) (m + 8) (.inl (1, 9477, .inl (upd (fun i => mm_bI (m_hd M i)) j (mm_bI v)))) = km_set h m (s_hd M (kh_ub (m_hd M) j v)) := by
  rw [← ku_hd]; unfold km_bo; rw [← kh_ub_enc]
def kh_u (S : ks_S) (T : Nat) : Nat → Nat
  | 0 => 1
  | n + 1 => kh_u S T n * (if S.2.2.1 n = none then 1 else T)
def kh_base (u T p : Nat) : Nat := p - p / u % T * u
def kh_any (u T : Nat) (g : Nat → Bool) : Nat → Bool := fun p => ks_any (fun t => g (kh_base u T p + t * u)) 0 T
def kh_bit (S : ks_S) (v : Nat → Nat) (s : Nat) : Nat := if S.2.2.2.1 s < 2 then S.2.2.2.1 s else if S.2.2.2.1 s = 2 then 2 + v ((S.2.2.2.2 (2 * s)).getD 0) else 5 + 3 * v ((S.2.2.2.2 (2 * s)).getD 0) + v ((S.2.2.2.2 (2 * s + 1)).getD 0)
def kh_w (S : ks_S) (T i : Nat) : Nat → Nat := fun n => i / kh_u S T n % T
def kh_sp (S : ks_S) (T B i s : Nat) : Bool := B.testBit (kh_bit S (kh_w S T i) s)
def kh_own (f : Nat → Option Nat) (a : Nat) : Nat → Nat → List Nat
  | _, 0 => []
  | i, j + 1 => (if f i = some a then [i] else []) ++ kh_own f a (i + 1) j
theorem kh_own_t {f : Nat → Option Nat} {a i j : Nat} (h : f i = some a) : kh_own f a i (j + 1) = i :: kh_own f a (i + 1) j := congrArg (· ++ kh_own f a (i + 1) j) (if_pos h)
theorem kh_own_f {f : Nat → Option Nat} {a i j : Nat} (h : ¬ f i = some a) : kh_own f a i (j + 1) = kh_own f a (i + 1) j := congrArg (· ++ kh_own f a (i + 1) j) (if_neg h)
theorem kh_own_mem {f : Nat → Option Nat} {a x : Nat} : ∀ (j i : Nat), x ∈ kh_own f a i j → i ≤ x ∧ x < i + j ∧ f x = some a := by
  intro j
  induction j with
  | zero => intro i h; cases h
  | succ j ih =>
    intro i h
    by_cases hf : f i = some a
    · rw [kh_own_t hf] at h
      rcases List.mem_cons.mp h with h | h
      · subst h; exact ⟨Nat.le_refl _, by omega, hf⟩
      · have := ih (i + 1) h; exact ⟨by omega, by omega, this.2.2⟩
    · rw [kh_own_f hf] at h
      have := ih (i + 1) h; exact ⟨by omega, by omega, this.2.2⟩
theorem kh_own_len {f : Nat → Option Nat} {a : Nat} : ∀ (j i : Nat), (kh_own f a i j).length ≤ j := by
  intro j
  induction j with
  | zero => exact fun _ => Nat.le_refl _
  | succ j ih =>
    intro i
    have := ih (i + 1)
    by_cases hf : f i = some a
    · rw [kh_own_t hf, List.length_cons]; omega
    · rw [kh_own_f hf]; omega
def kh_lns (S : ks_S) (T a : Nat) : Nat → Nat → (Nat → Bool) → Nat → Bool
  | _, 0, g => g
  | n, j + 1, g => kh_lns S T a (n + 1) j (if S.2.2.1 n = some a then kh_any (kh_u S T n) T g else g)
theorem kh_lns_t {S : ks_S} {T a n j : Nat} {g : Nat → Bool} (h : S.2.2.1 n = some a) : kh_lns S T a n (j + 1) g = kh_lns S T a (n + 1) j (kh_any (kh_u S T n) T g) := congrArg (kh_lns S T a (n + 1) j) (if_pos h)
theorem kh_lns_f {S : ks_S} {T a n j : Nat} {g : Nat → Bool} (h : ¬ S.2.2.1 n = some a) : kh_lns S T a n (j + 1) g = kh_lns S T a (n + 1) j g := congrArg (kh_lns S T a (n + 1) j) (if_neg h)
def kh (S : ks_S) (T B : Nat) : Nat → Nat → Nat → Bool
  | 0, _ => fun _ => false
  | f + 1, a => kh_lns S T a 0 6 (fun i => (kh_own S.1 a 0 12).all (kh_sp S T B i) && (kh_own S.2.1 a 1 12).all (fun c => !kh S T B f c i))
/-! arithmetic of the digits -/
theorem kh_base_0 {u T i : Nat} (h : i / u % T = 0) : kh_base u T i = i := by
  unfold kh_base
  rw [h, Nat.zero_mul, Nat.sub_zero]
theorem kh_dg_add {u T i t : Nat} (hu : 0 < u) (ht : t < T) (h : i / u % T = 0) : (i + t * u) / u % T = t := by
  rw [Nat.add_mul_div_right _ _ hu, Nat.add_mod, h, Nat.zero_add, Nat.mod_mod, Nat.mod_eq_of_lt ht]
theorem kh_base_add {u T i t : Nat} (hu : 0 < u) (ht : t < T) (h : i / u % T = 0) : kh_base u T (i + t * u) = i := by
  unfold kh_base
  rw [kh_dg_add hu ht h, Nat.add_sub_cancel]
theorem kh_dg_le (u T p : Nat) : p / u % T * u ≤ p := Nat.le_trans (Nat.mul_le_mul_right u (Nat.mod_le _ _)) (Nat.div_mul_le_self p u)
theorem kh_base_le (u T p : Nat) : kh_base u T p ≤ p := Nat.sub_le _ _
theorem kh_base_eq (u T p : Nat) : p = kh_base u T p + p / u % T * u := by
  have := kh_dg_le u T p
  unfold kh_base
  omega
theorem kh_base_dg {u T p : Nat} (hu : 0 < u) : kh_base u T p / u % T = 0 := by
  unfold kh_base
  have e : (p - p / u % T * u) / u = p / u - p / u % T := by
    rw [Nat.mul_comm]
    exact Nat.sub_mul_div ..
  rw [e]
  have h2 : p / u - p / u % T = T * (p / u / T) := by
    have := Nat.div_add_mod (p / u) T
    omega
  rw [h2, Nat.mul_mod_right]
theorem kh_in {u T w i t : Nat} (hu : 0 < u) (ht : t < T) (hi : i < u * T * w) (h : i / u % T = 0) : i + t * u < u * T * w := by
  have h1 : i / u < T * w := by
    apply Nat.div_lt_of_lt_mul
    rw [← Nat.mul_assoc]; exact hi
  have h2 := Nat.div_add_mod (i / u) T
  rw [h, Nat.add_zero] at h2
  have h3 : i / u / T < w := Nat.div_lt_of_lt_mul h1
  have h4 : T * (i / u / T) + T ≤ T * w := by
    have : T * (i / u / T) + T = T * (i / u / T + 1) := by rw [Nat.mul_add, Nat.mul_one]
    rw [this]
    exact Nat.mul_le_mul_left T h3
  have h5 : (i + t * u) / u < T * w := by
    rw [Nat.add_mul_div_right _ _ hu]
    omega
  have h6 := (Nat.div_lt_iff_lt_mul hu).mp h5
  rw [Nat.mul_assoc, Nat.mul_comm u]
  exact h6
theorem kh_any_congr {u T w : Nat} (hu : 0 < u) {g g' : Nat → Bool} (h : ∀ p, p < u * T * w → g p = g' p) {p : Nat} (hp : p < u * T * w) : kh_any u T g p = kh_any u T g' p := by
  have key : ∀ j i, i + j ≤ T → ks_any (fun t => g (kh_base u T p + t * u)) i j = ks_any (fun t => g' (kh_base u T p + t * u)) i j := by
    intro j
    induction j with
    | zero => exact fun _ _ => rfl
    | succ j ih =>
      intro i hi
      have e : g (kh_base u T p + i * u) = g' (kh_base u T p + i * u) := h _ (kh_in hu (by omega) (Nat.lt_of_le_of_lt (kh_base_le u T p) hp) (kh_base_dg hu))
      show (if g (kh_base u T p + i * u) = true then true else _) = (if g' (kh_base u T p + i * u) = true then true else _)
      rw [e, ih (i + 1) (by omega)]
  exact key T 0 (by omega)
theorem kh_u_pos (S : ks_S) {T : Nat} (hT : 1 ≤ T) : ∀ n, 0 < kh_u S T n := by
  intro n
  induction n with
  | zero => exact Nat.one_pos
  | succ n ih =>
    refine Nat.mul_pos ih ?_
    split <;> omega
theorem kh_u_le (S : ks_S) {T : Nat} (hT : T ≤ 3) (h1 : 1 ≤ T) : ∀ n, kh_u S T n ≤ 3 ^ n := by
  intro n
  induction n with
  | zero => exact Nat.le_refl 1
  | succ n ih =>
    show kh_u S T n * _ ≤ 3 ^ n * 3
    refine Nat.mul_le_mul ih ?_
    split <;> omega
theorem kh_u_more (S : ks_S) (T n : Nat) : ∀ j, ∃ w, kh_u S T (n + j) = kh_u S T n * w := by
  intro j
  induction j with
  | zero => exact ⟨1, by rw [Nat.mul_one]; rfl⟩
  | succ j ih =>
    obtain ⟨w, hw⟩ := ih
    refine ⟨w * (if S.2.2.1 (n + j) = none then 1 else T), ?_⟩
    show kh_u S T (n + j) * _ = _
    rw [hw, Nat.mul_assoc]
    rfl
theorem kh_u_6 {S : ks_S} {T n : Nat} (hn : n < 6) (h : ¬ S.2.2.1 n = none) : ∃ w, kh_u S T 6 = kh_u S T n * T * w := by
  obtain ⟨w, hw⟩ := kh_u_more S T (n + 1) (5 - n)
  refine ⟨w, ?_⟩
  rw [show n + 1 + (5 - n) = 6 by omega] at hw
  rw [hw]
  show kh_u S T n * (if S.2.2.1 n = none then 1 else T) * w = _
  rw [if_neg h]
theorem kh_lns_congr {S : ks_S} {T a : Nat} (hT : 1 ≤ T) : ∀ (j n : Nat) (g g' : Nat → Bool), n + j = 6 → (∀ p, p < kh_u S T 6 → g p = g' p) → ∀ p, p < kh_u S T 6 → kh_lns S T a n j g p = kh_lns S T a n j g' p := by
  intro j
  induction j with
  | zero => exact fun _ _ _ _ h => h
  | succ j ih =>
    intro n g g' hn h p hp
    by_cases hl : S.2.2.1 n = some a
    · rw [kh_lns_t hl, kh_lns_t hl]
      obtain ⟨w, hw⟩ := kh_u_6 (S := S) (T := T) (n := n) (by omega) (by rw [hl]; exact fun z => nomatch z)
      refine ih _ _ _ (by omega) (fun q hq => ?_) p hp
      rw [hw] at h hq
      exact kh_any_congr (kh_u_pos S hT n) h hq
    · rw [kh_lns_f hl, kh_lns_f hl]
      exact ih _ _ _ (by omega) h p hp
def kh_M (M : km_M) (hd : Nat → Bool) (un os oc : Nat → Nat) : km_M := (M.1, m_sh M, m_kp M, m_tk M, m_ot M, m_rn M, m_pl M, m_rc M, hd, m_nn M, m_nl M, m_hb M, un, os, oc, m_fs M)
