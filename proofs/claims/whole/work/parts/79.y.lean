/-! Worlds of the reference: the whole sheet, the first sheet. -/
theorem ks_hasI_row {S : ks_S} {k i : Nat} (hk : k < 3) (hi : i < ks_len k) (h : ks_hasI S (nI k) (nI i) = false) : ks_row S k i = none := by
  have hl := ks_len_le k
  rw [ks_hasI_n (by omega) (by omega)] at h
  cases hr : ks_row S k i with
  | none => rfl
  | some a => rw [ks_has_iff.mpr ⟨hk, hi, a, hr⟩] at h; cases h
theorem ks_harI_no {S : ks_S} {i : Nat} (hi : i < 13) (h : ks_harI S (nI i) = false) : ¬ (i = 0 ∨ ¬ S.2.1 i = none) := by
  unfold ks_harI at h
  rw [Bool.or_eq_false_iff] at h
  rintro (w | w)
  · subst w; exact absurd h.1 (by decide)
  · exact w (ks_hasI_row (k := 1) (by decide) hi h.2)
/-- the rows of all areas so deep are right -/
def kh_ok (S : ks_S) (T B k : Nat) (H : Nat → Bool) : Prop := ∀ c, c < 13 → (c = 0 ∨ ¬ S.2.1 c = none) → k ≤ km_dp S c → ∀ p, p < kh_u S T 6 → H (729 * c + p) = kh S T B (13 - km_dp S c) c p
def kh_ok2 (S : ks_S) (T B k a : Nat) (H : Nat → Bool) : Prop := ∀ c, c < a → c < 13 → (c = 0 ∨ ¬ S.2.1 c = none) → km_dp S c = k → ∀ p, p < kh_u S T 6 → H (729 * c + p) = kh S T B (13 - km_dp S c) c p
theorem kh_u_s {S : ks_S} {T n : Nat} (h : ¬ S.2.2.1 n = none) : kh_u S T (n + 1) = kh_u S T n * T := by
  show kh_u S T n * (if S.2.2.1 n = none then 1 else T) = _
  rw [if_neg h]
theorem kh_u_n {S : ks_S} {T n : Nat} (h : S.2.2.1 n = none) : kh_u S T (n + 1) = kh_u S T n * 1 := by
  show kh_u S T n * (if S.2.2.1 n = none then 1 else T) = _
  rw [if_pos h]
/-- the first i of one row, then another -/
def kj (f g : Nat → Option Nat) (i : Nat) : Nat → Option Nat := fun q => if q < i then g q else f q
theorem kj_0 (f g : Nat → Option Nat) : kj f g 0 = f := by
  funext q
  exact if_neg (by omega)
theorem kj_u (f g : Nat → Option Nat) (i : Nat) : ks_u (kj f g i) i (g i) = kj f g (i + 1) := by
  funext q
  unfold ks_u kj
  by_cases h : q = i
  · subst h
    rw [if_pos rfl, if_pos (by omega)]
  · rw [if_neg h]
    by_cases h2 : q < i
    · rw [if_pos h2, if_pos (by omega)]
    · rw [if_neg h2, if_neg (by omega)]
theorem kj_at (f g : Nat → Option Nat) (i : Nat) : kj f g i i = f i := if_neg (by omega)
theorem kz_congr {f g : Nat → Option Nat} (h : ∀ q, q < 67 → f q = g q) : kz f = kz g := by
  refine Prod.ext (funext fun q => ?_) (Prod.ext (funext fun q => ?_) (Prod.ext (funext fun q => ?_) (Prod.ext (funext fun q => ?_) (funext fun q => ?_)))) <;> simp only [kz] <;> split <;> first | rfl | (rw [h _ (by omega)])
theorem ke_raw_congr {f g : Nat → Option Nat} (h : ∀ q, q < 67 → f q = g q) (hw : ke_raw f) : ke_raw g := by
  intro s hs h1
  rw [← h _ (by omega)] at h1
  obtain ⟨gg, h4, h5, h6⟩ := hw s hs h1
  refine ⟨gg, h4, by rw [← h _ (by omega)]; exact h5, fun k hk => ?_⟩
  have := kc_places_le h4
  obtain ⟨n, n6, h7, h8⟩ := h6 k hk
  exact ⟨n, n6, by rw [← h _ (by omega)]; exact h7, by rw [← h _ (by omega)]; exact h8⟩
/-- all that worlds change -/
def kh_N (M : km_M) (sh : Nat → Option Nat) (hd : Nat → Bool) (un os oc : Nat → Nat) (fs : Nat → Option Nat) : km_M := (M.1, sh, m_kp M, m_tk M, m_ot M, m_rn M, m_pl M, m_rc M, hd, m_nn M, m_nl M, m_hb M, un, os, oc, fs)
theorem kh_N_id (M : km_M) : M = kh_N M (m_sh M) (m_hd M) (m_un M) (m_os M) (m_oc M) (m_fs M) := rfl
theorem kh_N_sh (M : km_M) (sh : Nat → Option Nat) (hd : Nat → Bool) (un os oc : Nat → Nat) (fs x : Nat → Option Nat) : s_sh (kh_N M sh hd un os oc fs) x = kh_N M x hd un os oc fs := rfl
theorem kh_N_fs (M : km_M) (sh : Nat → Option Nat) (hd : Nat → Bool) (un os oc : Nat → Nat) (fs x : Nat → Option Nat) : s_fs (kh_N M sh hd un os oc fs) x = kh_N M sh hd un os oc x := rfl
theorem kh_N_M (M : km_M) (sh : Nat → Option Nat) (hd : Nat → Bool) (un os oc : Nat → Nat) (fs : Nat → Option Nat) (hd2 : Nat → Bool) (un2 os2 oc2 : Nat → Nat) : kh_M (kh_N M sh hd un os oc fs) hd2 un2 os2 oc2 = kh_N M sh hd2 un2 os2 oc2 fs := rfl
theorem kh_N_N (M : km_M) (sh : Nat → Option Nat) (hd : Nat → Bool) (un os oc : Nat → Nat) (fs : Nat → Option Nat) (sh2 : Nat → Option Nat) (hd2 : Nat → Bool) (un2 os2 oc2 : Nat → Nat) (fs2 : Nat → Option Nat) : kh_N (kh_N M sh hd un os oc fs) sh2 hd2 un2 os2 oc2 fs2 = kh_N M sh2 hd2 un2 os2 oc2 fs2 := rfl
def km_first (M : km_M) : Nat → Option Nat := if m_mv M = 0 then m_sh M else m_kp M
theorem kj_swap (f g : Nat → Option Nat) (n : Nat) : kj (kj f g n) (kj g f n) n = f := by
  funext q
  unfold kj
  by_cases h : q < n
  · rw [if_pos h, if_pos h]
  · rw [if_neg h, if_neg h]
def kh_fst (p : Nat → Bool) : Nat → Nat → Option Nat
  | _, 0 => none
  | i, j + 1 => if p i = true then some i else kh_fst p (i + 1) j
theorem kh_fst_t {p : Nat → Bool} {i j : Nat} (h : p i = true) : kh_fst p i (j + 1) = some i := if_pos h
theorem kh_fst_f {p : Nat → Bool} {i j : Nat} (h : p i = false) : kh_fst p i (j + 1) = kh_fst p (i + 1) j := if_neg (by rw [h]; decide)
def kh_say (f : Nat → Option Nat) (T B : Nat) : Bool := kh (kz f) T B 13 0 0
def kh_hdT (M : km_M) (fi : Bool) (n b : Int32) : Nat := if (decide (nI 1 ≤ n) && (decide (n ≤ nI 3) && (decide (0 ≤ b) && decide (b < nI 16384)))) = true then (if fi = true ∧ m_st M = false then 2 else 0) else 1
def kh_hd (M : km_M) (fi : Bool) (n b : Int32) : Bool := if kh_hdT M fi n b = 0 then kh_say (if fi = true then km_first M else m_sh M) n.toNatClampNeg b.toNatClampNeg else false
def kh_rfT (M : km_M) (n : Int32) : Nat := if (decide (n = nI 1) || decide (n = nI 2)) = true then (if m_st M = true then 0 else 2) else 1
def kh_rfp (M : km_M) (T : Nat) (b : Nat) : Bool := kc_inn (kc_all T) b && (kh_say (km_first M) T b && !kh_say (m_sh M) T b)
def kh_rf (M : km_M) (n : Int32) : Option Nat := if kh_rfT M n = 0 then kh_fst (kh_rfp M n.toNatClampNeg) 0 1024 else some 0
