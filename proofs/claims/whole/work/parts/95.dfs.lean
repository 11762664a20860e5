/-! Mathematics: areas in the order in which they are read; counting. -/
def ky_kids (rec : Nat → List Nat) (P : Nat → Option Nat) (a : Nat) : Nat → Nat → List Nat
  | _, 0 => []
  | i, j + 1 => (if P i = some a then rec i else []) ++ ky_kids rec P a (i + 1) j
def ky (P : Nat → Option Nat) : Nat → Nat → List Nat
  | 0, _ => []
  | f + 1, a => a :: ky_kids (ky P f) P a 1 12
theorem ky_kids_t {rec : Nat → List Nat} {P : Nat → Option Nat} {a i j : Nat} (h : P i = some a) : ky_kids rec P a i (j + 1) = rec i ++ ky_kids rec P a (i + 1) j := congrArg (· ++ ky_kids rec P a (i + 1) j) (if_pos h)
theorem ky_kids_f {rec : Nat → List Nat} {P : Nat → Option Nat} {a i j : Nat} (h : ¬ P i = some a) : ky_kids rec P a i (j + 1) = ky_kids rec P a (i + 1) j := congrArg (· ++ ky_kids rec P a (i + 1) j) (if_neg h)
theorem ky_kids_mem {rec : Nat → List Nat} {P : Nat → Option Nat} {a x : Nat} : ∀ (j i : Nat), x ∈ ky_kids rec P a i j → ∃ c, i ≤ c ∧ c < i + j ∧ P c = some a ∧ x ∈ rec c := by
  intro j
  induction j with
  | zero => intro i h; cases h
  | succ j ih =>
    intro i h
    by_cases hp : P i = some a
    · rw [ky_kids_t hp] at h
      rcases List.mem_append.mp h with h | h
      · exact ⟨i, Nat.le_refl _, by omega, hp, h⟩
      · obtain ⟨c, c1, c2, c3, c4⟩ := ih (i + 1) h
        exact ⟨c, by omega, by omega, c3, c4⟩
    · rw [ky_kids_f hp] at h
      obtain ⟨c, c1, c2, c3, c4⟩ := ih (i + 1) h
      exact ⟨c, by omega, by omega, c3, c4⟩
theorem ky_in {P : Nat → Option Nat} (t : kt_tr P) : ∀ (f a x : Nat), kt_ar P a → x ∈ ky P f a → kt_ar P x ∧ ∃ m, kt_it P m x = some a := by
  intro f
  induction f with
  | zero => intro a x _ h; cases h
  | succ f ih =>
    intro a x ha h
    rcases List.mem_cons.mp h with h | h
    · subst h; exact ⟨ha, 0, rfl⟩
    · obtain ⟨c, c1, c2, c3, c4⟩ := ky_kids_mem _ _ h
      obtain ⟨g1, m, g2⟩ := ih c x ⟨by omega, Or.inr (by rw [c3]; exact fun w => nomatch w)⟩ c4
      exact ⟨g1, m + 1, by rw [kt_it_end g2]; exact c3⟩
/-- an area is reached after one number of steps only -/
theorem kt_it_uniq2 {P : Nat → Option Nat} (t : kt_tr P) {a : Nat} (ha : kt_ar P a) {m n x : Nat} (h1 : kt_it P m x = some a) (h2 : kt_it P n x = some a) : m = n := by
  obtain ⟨q, hq⟩ := kt_ar_way t ha
  have := kt_it_uniq t.1 (kt_it_cat h1 hq) (kt_it_cat h2 hq)
  omega
theorem ky_nodup {P : Nat → Option Nat} (t : kt_tr P) : ∀ (f a : Nat), kt_ar P a → (ky P f a).Nodup := by
  intro f
  induction f with
  | zero => exact fun _ _ => List.nodup_nil
  | succ f ih =>
    intro a ha
    have arc : ∀ c, c < 13 → P c = some a → kt_ar P c := fun c hc h => ⟨hc, Or.inr (by rw [h]; exact fun w => nomatch w)⟩
    have kids : ∀ (j i : Nat), i + j = 13 → 1 ≤ i → (ky_kids (ky P f) P a i j).Nodup := by
      intro j
      induction j with
      | zero => exact fun _ _ _ => List.nodup_nil
      | succ j ihj =>
        intro i hi h1
        by_cases hp : P i = some a
        · rw [ky_kids_t hp, List.nodup_append]
          refine ⟨ih i (arc i (by omega) hp), ihj (i + 1) (by omega) (by omega), fun x hx y hy e => ?_⟩
          subst e
          obtain ⟨c, c1, c2, c3, c4⟩ := ky_kids_mem _ _ hy
          obtain ⟨-, m, g1⟩ := ky_in t f i x (arc i (by omega) hp) hx
          obtain ⟨-, n, g2⟩ := ky_in t f c x (arc c (by omega) c3) c4
          have e1 : kt_it P (m + 1) x = some a := by rw [kt_it_end g1]; exact hp
          have e2 : kt_it P (n + 1) x = some a := by rw [kt_it_end g2]; exact c3
          have := kt_it_uniq2 t ha e1 e2
          have : m = n := by omega
          subst this
          rw [g1] at g2
          have := Option.some.inj g2
          omega
        · rw [ky_kids_f hp]
          exact ihj (i + 1) (by omega) (by omega)
    refine List.nodup_cons.mpr ⟨fun h => ?_, kids 12 1 rfl (Nat.le_refl _)⟩
    obtain ⟨c, c1, c2, c3, c4⟩ := ky_kids_mem _ _ h
    obtain ⟨-, m, g⟩ := ky_in t f c a (arc c (by omega) c3) c4
    have e1 : kt_it P (m + 1) a = some a := by rw [kt_it_end g]; exact c3
    have := kt_it_uniq2 t ha e1 (show kt_it P 0 a = some a from rfl)
    omega
/-- sums -/
def kz_sum (w : Nat → Nat) : List Nat → Nat
  | [] => 0
  | x :: L => w x + kz_sum w L
def kz_sumN (w : Nat → Nat) : Nat → Nat
  | 0 => 0
  | n + 1 => kz_sumN w n + w n
theorem kz_sum_app (w : Nat → Nat) : ∀ (A B : List Nat), kz_sum w (A ++ B) = kz_sum w A + kz_sum w B := by
  intro A
  induction A with
  | nil => intro B; show kz_sum w B = 0 + kz_sum w B; omega
  | cons a A ih => intro B; show w a + kz_sum w (A ++ B) = w a + kz_sum w A + kz_sum w B; rw [ih]; omega
theorem kz_sum_erase (w : Nat → Nat) {n : Nat} : ∀ (L : List Nat), n ∈ L → kz_sum w L = w n + kz_sum w (L.erase n) := by
  intro L
  induction L with
  | nil => intro h; cases h
  | cons x L ih =>
    intro h
    by_cases c : x = n
    · subst c
      rw [List.erase_cons_head]; rfl
    · rw [List.erase_cons_tail (by simpa using c)]
      show w x + kz_sum w L = w n + (w x + kz_sum w (L.erase n))
      rcases List.mem_cons.mp h with e | e
      · exact absurd e.symm c
      · rw [ih e]; omega
theorem kz_sum_le (w : Nat → Nat) : ∀ (n : Nat) (L : List Nat), L.Nodup → (∀ x, x ∈ L → x < n) → kz_sum w L ≤ kz_sumN w n := by
  intro n
  induction n with
  | zero =>
    intro L _ h
    cases L with
    | nil => exact Nat.le_refl _
    | cons x L => exact absurd (h x List.mem_cons_self) (by omega)
  | succ n ih =>
    intro L nd h
    by_cases c : n ∈ L
    · rw [kz_sum_erase w L c]
      have := ih (L.erase n) (nd.erase n) (fun x hx => by
        have h1 := h x (List.mem_of_mem_erase hx)
        have h2 : x ≠ n := ((List.Nodup.mem_erase_iff nd).mp hx).1
        omega)
      show w n + _ ≤ kz_sumN w n + w n
      omega
    · have := ih L nd (fun x hx => by
        have h1 := h x hx
        have h2 : x ≠ n := fun e => c (by rw [← e]; exact hx)
        omega)
      show _ ≤ kz_sumN w n + w n
      omega
theorem kz_sumN_add (v w : Nat → Nat) : ∀ n, kz_sumN (fun x => v x + w x) n = kz_sumN v n + kz_sumN w n := by
  intro n
  induction n with
  | zero => rfl
  | succ n ih => show kz_sumN _ n + (v n + w n) = kz_sumN v n + v n + (kz_sumN w n + w n); rw [ih]; omega
theorem kz_sumN_le {v w : Nat → Nat} : ∀ n, (∀ x, x < n → v x ≤ w x) → kz_sumN v n ≤ kz_sumN w n := by
  intro n
  induction n with
  | zero => exact fun _ => Nat.le_refl _
  | succ n ih =>
    intro h
    have := ih (fun x hx => h x (by omega))
    have := h n (by omega)
    show kz_sumN v n + v n ≤ kz_sumN w n + w n
    omega
/-- one number in one place -/
theorem kz_sumN_one (o : Option Nat) (c : Nat) : ∀ n, kz_sumN (fun x => if o = some x then c else 0) n ≤ c := by
  intro n
  cases o with
  | none =>
    have : kz_sumN (fun x => if (none : Option Nat) = some x then c else 0) n = 0 := by
      induction n with
      | zero => rfl
      | succ n ih => show kz_sumN _ n + (if none = some n then c else 0) = 0; rw [ih, if_neg (fun w => nomatch w)]
    omega
  | some y =>
    have key : ∀ n, kz_sumN (fun x => if some y = some x then c else 0) n = if y < n then c else 0 := by
      intro n
      induction n with
      | zero => rfl
      | succ n ih =>
        show kz_sumN _ n + (if some y = some n then c else 0) = _
        rw [ih]
        by_cases h : y = n
        · subst h; rw [if_neg (by omega), if_pos rfl, if_pos (by omega), Nat.zero_add]
        · rw [if_neg (fun w => h (Option.some.inj w)), Nat.add_zero]
          by_cases h2 : y < n
          · rw [if_pos h2, if_pos (by omega)]
          · rw [if_neg h2, if_neg (by omega)]
    rw [key n]
    split <;> omega
theorem ke_lnL_sum (T : ks_S) : ∀ (j i : Nat), kz_sumN (fun x => (ke_lnL T x i j).length) 13 ≤ j := by
  intro j
  induction j with
  | zero =>
    intro i
    have : ∀ n, kz_sumN (fun x => (ke_lnL T x i 0).length) n = 0 := by
      intro n
      induction n with
      | zero => rfl
      | succ n ih => show kz_sumN _ n + 0 = 0; rw [ih]
    rw [this]; exact Nat.le_refl _
  | succ j ih =>
    intro i
    have e : (fun x => (ke_lnL T x i (j + 1)).length) = fun x => (if T.2.2.1 i = some x then 1 else 0) + (ke_lnL T x (i + 1) j).length := by
      funext x
      by_cases h : T.2.2.1 i = some x
      · rw [ke_lnL_t h, if_pos h, List.length_cons]; omega
      · rw [ke_lnL_f h, if_neg h, Nat.zero_add]
    rw [e, kz_sumN_add]
    have := kz_sumN_one (T.2.2.1 i) 1 13
    have := ih (i + 1)
    omega
theorem ke_spL_sum {T : ks_S} (o : ks_ok T) : ∀ (j i : Nat), i + j = 12 → kz_sumN (fun x => (ke_spL T x i j).length) 13 ≤ 3 * j := by
  intro j
  induction j with
  | zero =>
    intro i _
    have : ∀ n, kz_sumN (fun x => (ke_spL T x i 0).length) n = 0 := by
      intro n
      induction n with
      | zero => rfl
      | succ n ih => show kz_sumN _ n + 0 = 0; rw [ih]
    rw [this]; exact Nat.le_refl _
  | succ j ih =>
    intro i hi
    have e : (fun x => (ke_spL T x i (j + 1)).length) = fun x => (if T.1 i = some x then (ke_sp T i).length else 0) + (ke_spL T x (i + 1) j).length := by
      funext x
      by_cases h : T.1 i = some x
      · rw [ke_spL_t h, if_pos h, List.length_append]
      · rw [ke_spL_f h, if_neg h, Nat.zero_add]
    rw [e, kz_sumN_add]
    have := kz_sumN_one (T.1 i) (ke_sp T i).length 13
    have := ke_sp_len o (show i < 12 by omega)
    have := ih (i + 1) (by omega)
    omega
theorem ke_area_sum {T : ks_S} (t : kt_tr T.2.1) : ∀ (f a m : Nat), a < 13 → kt_it T.2.1 m a = some 0 → 13 ≤ m + f → (ke_area T f a).length + 2 = kz_sum (fun x => (ke_own T x).length + 2) (ky T.2.1 f a) := by
  intro f
  induction f with
  | zero =>
    intro a m ha hm h
    have := kt_short t.1 t.2.1 ha hm
    omega
  | succ f ih =>
    intro a m ha hm h
    have kids : ∀ (j i : Nat), i + j = 13 → (ke_kids (ke_area T f) T a i j).length = kz_sum (fun x => (ke_own T x).length + 2) (ky_kids (ky T.2.1 f) T.2.1 a i j) := by
      intro j
      induction j with
      | zero => exact fun _ _ => rfl
      | succ j ihj =>
        intro i hi
        by_cases hp : T.2.1 i = some a
        · rw [ke_kids_t hp, ky_kids_t hp, kz_sum_app, ← ihj (i + 1) (by omega), ← ih i (m + 1) (by omega) (by rw [kt_it_s hp]; exact hm) (by omega)]
          rw [List.length_append, List.length_cons, List.length_append]
          show (ke_area T f i).length + 1 + 1 + _ = _
          omega
        · rw [ke_kids_f hp, ky_kids_f hp]
          exact ihj (i + 1) (by omega)
    have e1 : (ke_area T (f + 1) a).length = (ke_own T a).length + (ke_kids (ke_area T f) T a 1 12).length := List.length_append
    have e2 : kz_sum (fun x => (ke_own T x).length + 2) (ky T.2.1 (f + 1) a) = ((ke_own T a).length + 2) + kz_sum (fun x => (ke_own T x).length + 2) (ky_kids (ky T.2.1 f) T.2.1 a 1 12) := rfl
    rw [e1, e2, kids 12 1 rfl]
    omega
/-- no area is longer than the class's rows of tokens -/
theorem ke_area_66 {T : ks_S} (o : kt_ok T) {a : Nat} (ha : kt_is T a) : (ke_area T 13 a).length ≤ 66 := by
  have t := kt_ok_tr o
  have ar := kt_is_ar ha
  obtain ⟨m, hm⟩ := kt_ar_way t ar
  have e := ke_area_sum t 13 a m ar.1 hm (by omega)
  have le := kz_sum_le (fun x => (ke_own T x).length + 2) 13 (ky T.2.1 13 a) (ky_nodup t 13 a ar) (fun x hx => (ky_in t 13 a x ar hx).1.1)
  have s1 : kz_sumN (fun x => (ke_own T x).length + 2) 13 = kz_sumN (fun x => (ke_own T x).length) 13 + 26 := by
    rw [kz_sumN_add (fun x => (ke_own T x).length) (fun _ => 2) 13]
    rfl
  have s2 : kz_sumN (fun x => (ke_own T x).length) 13 = kz_sumN (fun x => (ke_lnL T x 0 6).length) 13 + kz_sumN (fun x => (ke_spL T x 0 12).length) 13 := by
    rw [← kz_sumN_add]
    congr 1
    funext x
    exact List.length_append
  have := ke_lnL_sum T 6 0
  have := ke_spL_sum o.1 12 0 rfl
  omega
theorem ke_short_of {T : ks_S} (o : kt_ok T) : ke_short T := fun a ha => Nat.le_trans (ke_area_66 o ha) (by decide)
