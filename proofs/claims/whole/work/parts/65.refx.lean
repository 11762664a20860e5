/-! The sheet's view when one cell is written; what is taken away. -/
theorem kz_us (f : Nat → Option Nat) {s : Nat} (h : s < 12) (o : Option Nat) : kz (ks_u f (19 + s) o) = (ks_u (kz f).1 s o, (kz f).2) := by
  refine Prod.ext (funext fun q => ?_) (Prod.ext (funext fun q => ?_) (Prod.ext (funext fun q => ?_) (Prod.ext (funext fun q => ?_) (funext fun q => ?_)))) <;> simp only [kz, ks_u] <;> (repeat' split) <;> first | rfl | (exfalso; omega)
theorem kz_uc (f : Nat → Option Nat) {s : Nat} (h : s < 13) (o : Option Nat) : kz (ks_u f s o) = ((kz f).1, ks_u (kz f).2.1 s o, (kz f).2.2) := by
  refine Prod.ext (funext fun q => ?_) (Prod.ext (funext fun q => ?_) (Prod.ext (funext fun q => ?_) (Prod.ext (funext fun q => ?_) (funext fun q => ?_)))) <;> simp only [kz, ks_u] <;> (repeat' split) <;> first | rfl | (exfalso; omega)
theorem kz_ul (f : Nat → Option Nat) {s : Nat} (h : s < 6) (o : Option Nat) : kz (ks_u f (13 + s) o) = ((kz f).1, (kz f).2.1, ks_u (kz f).2.2.1 s o, (kz f).2.2.2) := by
  refine Prod.ext (funext fun q => ?_) (Prod.ext (funext fun q => ?_) (Prod.ext (funext fun q => ?_) (Prod.ext (funext fun q => ?_) (funext fun q => ?_)))) <;> simp only [kz, ks_u] <;> (repeat' split) <;> first | rfl | (exfalso; omega)
theorem kz_ug (f : Nat → Option Nat) {s : Nat} (h : s < 12) (o : Option Nat) : kz (ks_u f (31 + s) o) = ((kz f).1, (kz f).2.1, (kz f).2.2.1, ks_un (kz f).2.2.2.1 s (o.getD 0), (kz f).2.2.2.2) := by
  refine Prod.ext (funext fun q => ?_) (Prod.ext (funext fun q => ?_) (Prod.ext (funext fun q => ?_) (Prod.ext (funext fun q => ?_) (funext fun q => ?_)))) <;> simp only [kz, ks_u, ks_un] <;> (repeat' split) <;> first | rfl | (exfalso; omega)
theorem kz_uh (f : Nat → Option Nat) {s : Nat} (h : s < 24) (o : Option Nat) : kz (ks_u f (43 + s) o) = ((kz f).1, (kz f).2.1, (kz f).2.2.1, (kz f).2.2.2.1, ks_u (kz f).2.2.2.2 s o) := by
  refine Prod.ext (funext fun q => ?_) (Prod.ext (funext fun q => ?_) (Prod.ext (funext fun q => ?_) (Prod.ext (funext fun q => ?_) (funext fun q => ?_)))) <;> simp only [kz, ks_u] <;> (repeat' split) <;> first | rfl | (exfalso; omega)
def km_rmS (M : km_M) (s : Nat) : km_M := km_st (km_st (km_st (km_st M (19 + s) none) (31 + s) none) (43 + 2 * s) none) (43 + 2 * s + 1) none
theorem km_st_S (M : km_M) (i : Nat) (o : Option Nat) : km_S (km_st M i o) = kz (ks_u (m_sh M) i o) := rfl
theorem km_rmS_S (M : km_M) {s : Nat} (h : s < 12) : km_S (km_rmS M s) = ks_spotAt (km_S M) s none 0 none none := by
  have e : km_S (km_rmS M s) = kz (ks_u (ks_u (ks_u (ks_u (m_sh M) (19 + s) none) (31 + s) none) (43 + 2 * s) none) (43 + (2 * s + 1)) none) := rfl
  rw [e, kz_uh _ (by omega), kz_uh _ (by omega), kz_ug _ h, kz_us _ h]
  rfl
theorem km_spotM_S (M : km_M) {j a sg : Nat} (h : j < 12) (f s : Option Nat) : km_S (km_spotM M j a sg f s) = ks_spotAt (km_S M) j (some a) sg f s := by
  have e : km_S (km_spotM M j a sg f s) = kz (ks_u (ks_u (ks_u (ks_u (m_sh M) (19 + j) (some a)) (31 + j) (some sg)) (43 + 2 * j) f) (43 + (2 * j + 1)) s) := rfl
  rw [e, kz_uh _ (by omega), kz_uh _ (by omega), kz_ug _ h, kz_us _ h]
  rfl
theorem ks_u_cases {f : Nat → Option Nat} {j i : Nat} {o x : Option Nat} (h : ks_u f j o i = x) : (i = j ∧ o = x) ∨ (¬ i = j ∧ f i = x) := by
  unfold ks_u at h
  by_cases e : i = j
  · rw [if_pos e] at h; exact Or.inl ⟨e, h⟩
  · rw [if_neg e] at h; exact Or.inr ⟨e, h⟩
theorem ks_ok_spotAt {S : ks_S} (o : ks_ok S) {j : Nat} {x f s : Option Nat} {sg : Nat} (hx : mm_lt x 13) (hg : sg < 4) (hf : mm_lt f 6) (hs : mm_lt s 6) : ks_ok (ks_spotAt S j x sg f s) := by
  obtain ⟨o1, o2, o3, o4⟩ := o
  refine ⟨fun k i n hi e => ?_, fun i hi => ?_, fun i n hi e => ?_, o4⟩
  · match k with
    | 0 =>
      rcases ks_u_cases (show ks_u S.1 j x i = some n from e) with ⟨_, h⟩ | ⟨_, h⟩
      · exact hx n h
      · exact o1 0 i n hi h
    | 1 => exact o1 1 i n hi e
    | k + 2 => exact o1 (k + 2) i n hi e
  · show ks_un S.2.2.2.1 j sg i < 4
    unfold ks_un
    by_cases hij : i = j
    · rw [if_pos hij]; exact hg
    · rw [if_neg hij]; exact o2 i hi
  · rcases ks_u_cases (show ks_u (ks_u S.2.2.2.2 (2 * j) f) (2 * j + 1) s i = some n from e) with ⟨_, h⟩ | ⟨_, h⟩
    · exact hs n h
    · rcases ks_u_cases h with ⟨_, h⟩ | ⟨_, h⟩
      · exact hf n h
      · exact o3 i n hi h
/-- the same cuts, no other areas -/
theorem kt_path_cuts {S S' : ks_S} (e : S'.2.1 = S.2.1) : ∀ (n x : Nat), kt_path S n x → kt_path S' n x := by
  intro n
  induction n with
  | zero => exact fun _ h => h
  | succ n ih =>
    intro x h
    rcases h with h | ⟨y, h1, h2⟩
    · exact Or.inl h
    · exact Or.inr ⟨y, by rw [e]; exact h1, ih y h2⟩
theorem kt_is_cuts {S S' : ks_S} (e : S'.2.1 = S.2.1) {x : Nat} (h : kt_is S x) : kt_is S' x := ⟨h.1, kt_path_cuts e _ _ h.2⟩
theorem kt_ok_sub {S S' : ks_S} (o : kt_ok S) (e : S'.2.1 = S.2.1) (ok : ks_ok S') (h : ∀ k i a, k < 3 → i < ks_len k → ks_row S' k i = some a → kt_is S a) : kt_ok S' :=
  ⟨ok, fun k i a hk hi ha => kt_is_cuts e (h k i a hk hi ha), fun c hc hn => kt_is_cuts e (o.2.2 c hc (by rw [e] at hn; exact hn))⟩
theorem kt_ok_spotAt {S : ks_S} (o : kt_ok S) {j : Nat} {x f s : Option Nat} {sg : Nat} (hx : ∀ a, x = some a → kt_is S a) (hg : sg < 4) (hf : mm_lt f 6) (hs : mm_lt s 6) : kt_ok (ks_spotAt S j x sg f s) := by
  refine kt_ok_sub o rfl (ks_ok_spotAt o.1 (fun a ha => (hx a ha).1) hg hf hs) fun k i a hk hi ha => ?_
  match k, hk with
  | 0, _ =>
    rcases ks_u_cases (show ks_u S.1 j x i = some a from ha) with ⟨_, h⟩ | ⟨_, h⟩
    · exact hx a h
    · exact o.2.1 0 i a (by decide) hi h
  | 1, _ => exact o.2.1 1 i a (by decide) hi ha
  | 2, _ => exact o.2.1 2 i a (by decide) hi ha
  | n + 3, h => exact absurd h (by omega)
theorem kt_ok_rmS {M : km_M} (o : kt_ok (km_S M)) {s : Nat} (h : s < 12) : kt_ok (km_S (km_rmS M s)) := by
  rw [km_rmS_S M h]
  exact kt_ok_spotAt o (fun a ha => nomatch ha) (by decide) mm_lt_none mm_lt_none
theorem ks_ok_line {S : ks_S} (o : ks_ok S) {j : Nat} {x : Option Nat} (hx : mm_lt x 13) : ks_ok (S.1, S.2.1, ks_u S.2.2.1 j x, S.2.2.2) := by
  refine ks_ok_put (k := 2) o (by decide) (fun i n hi e => ?_) (fun e => absurd e (by decide))
  rcases ks_u_cases e with ⟨_, h⟩ | ⟨_, h⟩
  · exact hx n h
  · exact o.1 2 i n hi h
theorem kt_ok_line {S : ks_S} (o : kt_ok S) {j : Nat} {x : Option Nat} (hx : ∀ a, x = some a → kt_is S a) : kt_ok (S.1, S.2.1, ks_u S.2.2.1 j x, S.2.2.2) := by
  refine kt_ok_sub o rfl (ks_ok_line o.1 (fun a ha => (hx a ha).1)) fun k i a hk hi ha => ?_
  match k, hk with
  | 0, _ => exact o.2.1 0 i a (by decide) hi ha
  | 1, _ => exact o.2.1 1 i a (by decide) hi ha
  | 2, _ =>
    rcases ks_u_cases (show ks_u S.2.2.1 j x i = some a from ha) with ⟨_, h⟩ | ⟨_, h⟩
    · exact hx a h
    · exact o.2.1 2 i a (by decide) hi h
  | n + 3, h => exact absurd h (by omega)
theorem kt_ok_rmL {M : km_M} (o : kt_ok (km_S M)) {s : Nat} (h : s < 6) : kt_ok (km_S (km_st M (13 + s) none)) := by
  rw [km_st_S, kz_ul _ h]
  exact kt_ok_line (S := km_S M) o (fun a ha => nomatch ha)
/-- all within a cut goes -/
def km_rcS (c : Nat) : Nat → Nat → km_M → km_M
  | _, 0, M => M
  | i, j + 1, M => km_rcS c (i + 1) j (if ks_in (km_S M) ((km_S M).1 i) (some c) = true then km_rmS M i else M)
def km_rcL (c : Nat) : Nat → Nat → km_M → km_M
  | _, 0, M => M
  | i, j + 1, M => km_rcL c (i + 1) j (if ks_in (km_S M) ((km_S M).2.2.1 i) (some c) = true then km_st M (13 + i) none else M)
def km_rcNat (M : km_M) (c i : Nat) : Nat := if (ks_has (km_S M) 1 i && ks_in (km_S M) (some i) (some c)) = true then 1 else 0
def km_rcN (c : Nat) : Nat → Nat → km_M → km_M
  | _, 0, M => M
  | i, j + 1, M => km_rcN c (i + 1) j (s_nn M (ks_un (m_nn M) i (km_rcNat M c i)))
def km_rcC : Nat → Nat → km_M → km_M
  | _, 0, M => M
  | i, j + 1, M => km_rcC (i + 1) j (km_st M i (if m_nn M i = 1 then none else m_sh M i))
def km_rcA (M : km_M) (c : Nat) : km_M := km_rcC 1 12 (km_rcN c 1 12 (km_rcL c 0 6 (km_rcS c 0 12 M)))
theorem kt_ok_rcS (c : Nat) : ∀ (j i : Nat) (M : km_M), i + j = 12 → kt_ok (km_S M) → kt_ok (km_S (km_rcS c i j M)) := by
  intro j
  induction j with
  | zero => exact fun _ _ _ h => h
  | succ j ih =>
    intro i M hi o
    refine ih _ _ (by omega) ?_
    split
    · exact kt_ok_rmS o (by omega)
    · exact o
theorem kt_ok_rcL (c : Nat) : ∀ (j i : Nat) (M : km_M), i + j = 6 → kt_ok (km_S M) → kt_ok (km_S (km_rcL c i j M)) := by
  intro j
  induction j with
  | zero => exact fun _ _ _ h => h
  | succ j ih =>
    intro i M hi o
    refine ih _ _ (by omega) ?_
    split
    · exact kt_ok_rmL o (by omega)
    · exact o
theorem km_rcN_S (c : Nat) : ∀ (j i : Nat) (M : km_M), km_S (km_rcN c i j M) = km_S M := by
  intro j
  induction j with
  | zero => exact fun _ _ => rfl
  | succ j ih => exact fun i M => (ih _ _).trans rfl
theorem ks_hasI_k {S : ks_S} {k : Nat} (hk : k < 3) {n : Int32} (h : ks_hasI S (nI k) n = true) : ∃ i x : Nat, i < ks_len k ∧ n = nI i ∧ ks_row S k i = some x := by
  obtain ⟨k', i, x, e1, e2, h1, h2, h3⟩ := ks_hasI_true h
  have hk : k = k' := (nI_eq (by omega) (by omega)).mp e1
  subst hk
  exact ⟨i, x, h2, e2, h3⟩
theorem ks_areaI_t {S : ks_S} {k i x : Nat} (hk : k < 3) (hi : i < ks_len k) (h : ks_row S k i = some x) : ks_areaI S (nI k) (nI i) = some x := by
  have hl := ks_len_le k
  rw [ks_areaI_n (by omega) (by omega), if_pos (ks_has_iff.mpr ⟨hk, hi, x, h⟩), h]
def km_hkd (M : km_M) (n : Nat) : Bool := ks_any (fun q => decide (m_sh M q = some n)) 43 24
def km_late (M : km_M) : Nat := if m_mv M = 20 then 3 else 0
def km_erT (M : km_M) (k n : Nat) : Nat := if m_st M = false ∨ km_dp (km_S M) ((ks_row (km_S M) k n).getD 0) % 2 = 1 ∨ (k = 2 ∧ km_hkd M n = true) then 2 else km_late M
def km_erM (M : km_M) (k n : Nat) : km_M := if k = 0 then km_rmS M n else if k = 1 then km_rcA M n else km_st M (13 + n) none
def km_eraseN (M : km_M) (k n : Nat) : Nat × km_M := if km_erT M k n = 0 then (m_mv (km_erM (km_keep (s_th M 0)) k n), km_erM (km_keep (s_th M 0)) k n) else (0, s_th M (km_erT M k n))
def km_erase (M : km_M) (k n : Int32) : Nat × km_M := if ks_hasI (km_S M) k n = true then km_eraseN M k.toNatClampNeg n.toNatClampNeg else (0, s_th M 1)
theorem km_rcL_t {c i j : Nat} {M : km_M} (h : ks_in (km_S M) ((km_S M).2.2.1 i) (some c) = true) : km_rcL c i (j + 1) M = km_rcL c (i + 1) j (km_st M (13 + i) none) := congrArg _ (if_pos h)
theorem km_rcL_f {c i j : Nat} {M : km_M} (h : ks_in (km_S M) ((km_S M).2.2.1 i) (some c) = false) : km_rcL c i (j + 1) M = km_rcL c (i + 1) j M := congrArg _ (if_neg (by rw [h]; decide))
theorem km_rcS_t {c i j : Nat} {M : km_M} (h : ks_in (km_S M) ((km_S M).1 i) (some c) = true) : km_rcS c i (j + 1) M = km_rcS c (i + 1) j (km_rmS M i) := congrArg _ (if_pos h)
theorem km_rcS_f {c i j : Nat} {M : km_M} (h : ks_in (km_S M) ((km_S M).1 i) (some c) = false) : km_rcS c i (j + 1) M = km_rcS c (i + 1) j M := congrArg _ (if_neg (by rw [h]; decide))
theorem km_rcN_s {c i j : Nat} {M : km_M} : km_rcN c i (j + 1) M = km_rcN c (i + 1) j (s_nn M (ks_un (m_nn M) i (km_rcNat M c i))) := rfl
