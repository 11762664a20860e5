/-! Mathematics: what the class says in a world. -/
theorem kg_in_own {f : Nat → Option Nat} {most a : Nat} : ∀ (k i : Nat) (N : (Nat → Nat) × Nat), N.2 + (kh_own f a i k).length ≤ most → (kg_in f most a i k N).2 = N.2 + (kh_own f a i k).length ∧ ke_hasL (kg_in f most a i k N).1 N.2 (kh_own f a i k) ∧ ∀ q, q < N.2 → (kg_in f most a i k N).1 q = N.1 q := by
  intro k
  induction k with
  | zero => exact fun i N _ => ⟨rfl, ke_hasL_nil _ _, fun _ _ => rfl⟩
  | succ k ih =>
    intro i N h
    have st : kg_in f most a i (k + 1) N = kg_in f most a (i + 1) k (if f i = some a ∧ N.2 < most then (ks_un N.1 N.2 i, N.2 + 1) else N) := rfl
    rw [st]
    by_cases c : f i = some a
    · rw [kh_own_t c] at h ⊢
      rw [List.length_cons] at h ⊢
      rw [if_pos ⟨c, by omega⟩]
      obtain ⟨g1, g2, g3⟩ := ih (i + 1) (ks_un N.1 N.2 i, N.2 + 1) (by show N.2 + 1 + _ ≤ most; omega)
      refine ⟨by rw [g1]; show N.2 + 1 + _ = _; omega, ke_hasL_cons ?_ g2, fun q hq => ?_⟩
      · rw [g3 N.2 (by show N.2 < N.2 + 1; omega)]; exact if_pos rfl
      · rw [g3 q (by show q < N.2 + 1; omega)]; exact if_neg (by omega)
    · rw [kh_own_f c] at h ⊢
      rw [if_neg (fun w => c w.1)]
      exact ih (i + 1) N h
def kb_s (f : Nat → Option Nat) (n : Nat) : Nat → Nat → Nat
  | _, 0 => 0
  | a, k + 1 => (kh_own f a 0 n).length + kb_s f n (a + 1) k
theorem kb_s_sum (f : Nat → Option Nat) (n : Nat) : ∀ (k a : Nat), kz_sumN (fun x => (kh_own f x 0 n).length) (a + k) = kz_sumN (fun x => (kh_own f x 0 n).length) a + kb_s f n a k := by
  intro k
  induction k with
  | zero => exact fun _ => rfl
  | succ k ih =>
    intro a
    rw [show a + (k + 1) = (a + 1) + k by omega, ih (a + 1)]
    show kz_sumN _ a + (kh_own f a 0 n).length + kb_s f n (a + 1) k = _ + ((kh_own f a 0 n).length + kb_s f n (a + 1) k)
    omega
theorem kh_own_sum (f : Nat → Option Nat) : ∀ (j i : Nat), kz_sumN (fun x => (kh_own f x i j).length) 13 ≤ km_amt f i j := by
  intro j
  induction j with
  | zero =>
    intro i
    have : ∀ n, kz_sumN (fun x => (kh_own f x i 0).length) n = 0 := by
      intro n
      induction n with
      | zero => rfl
      | succ n ih => show kz_sumN _ n + 0 = 0; rw [ih]
    rw [this]; exact Nat.zero_le _
  | succ j ih =>
    intro i
    have e : (fun x => (kh_own f x i (j + 1)).length) = fun x => (if f i = some x then 1 else 0) + (kh_own f x (i + 1) j).length := by
      funext x
      by_cases h : f i = some x
      · rw [kh_own_t h, if_pos h, List.length_cons]; omega
      · rw [kh_own_f h, if_neg h, Nat.zero_add]
    rw [e, kz_sumN_add]
    have a2 := ih (i + 1)
    show _ ≤ (if f i = none then 0 else 1) + km_amt f (i + 1) j
    by_cases c : f i = none
    · rw [if_pos c]
      have z : kz_sumN (fun x => if f i = some x then 1 else 0) 13 = 0 := by
        have : (fun x => if f i = some x then 1 else 0) = fun _ : Nat => 0 := by funext x; rw [c, if_neg (fun w => nomatch w)]
        rw [this]; rfl
      omega
    · rw [if_neg c]
      have a1 := kz_sumN_one (f i) 1 13
      omega
theorem kg_out_own {f : Nat → Option Nat} {n most : Nat} : ∀ (k a : Nat) (N : kg_G × Nat), a + k = 13 → N.2 + kb_s f n a k ≤ most → (kg_out f n most a k N).2 = N.2 + kb_s f n a k ∧ (∀ q, q < a → (kg_out f n most a k N).1.1 q = N.1.1 q) ∧ (∀ q, q < N.2 → (kg_out f n most a k N).1.2 q = N.1.2 q) ∧ ((kg_out f n most a k N).1.1 a = N.2 ∨ k = 0) ∧ ∀ x, a ≤ x → x < 13 → ke_hasL (kg_out f n most a k N).1.2 ((kg_out f n most a k N).1.1 x) (kh_own f x 0 n) ∧ (if x + 1 < 13 then (kg_out f n most a k N).1.1 (x + 1) else (kg_out f n most a k N).2) = (kg_out f n most a k N).1.1 x + (kh_own f x 0 n).length := by
  intro k
  induction k with
  | zero => exact fun a N ha _ => ⟨rfl, fun _ _ => rfl, fun _ _ => rfl, Or.inr rfl, fun x h1 h2 => absurd h1 (by omega)⟩
  | succ k ih =>
    intro a N ha h
    have h : N.2 + ((kh_own f a 0 n).length + kb_s f n (a + 1) k) ≤ most := h
    obtain ⟨R, eR⟩ : ∃ R, R = kg_in f most a 0 n (N.1.2, N.2) := ⟨_, rfl⟩
    have st : kg_out f n most a (k + 1) N = kg_out f n most (a + 1) k ((ks_un N.1.1 a N.2, R.1), R.2) := by rw [eR]; rfl
    obtain ⟨i1, i2, i3⟩ := kg_in_own (f := f) (most := most) (a := a) n 0 (N.1.2, N.2) (by show N.2 + _ ≤ most; omega)
    rw [← eR] at i1 i2 i3
    have i1 : R.2 = N.2 + (kh_own f a 0 n).length := i1
    obtain ⟨g1, g2, g3, g4, g5⟩ := ih (a + 1) ((ks_un N.1.1 a N.2, R.1), R.2) (by omega) (by show R.2 + _ ≤ most; omega)
    have g1 : (kg_out f n most (a + 1) k ((ks_un N.1.1 a N.2, R.1), R.2)).2 = R.2 + kb_s f n (a + 1) k := g1
    rw [st]
    obtain ⟨Q, eQ⟩ : ∃ Q, Q = kg_out f n most (a + 1) k ((ks_un N.1.1 a N.2, R.1), R.2) := ⟨_, rfl⟩
    rw [← eQ] at g1 g2 g3 g4 g5 ⊢
    have qa : Q.1.1 a = N.2 := (g2 a (by omega)).trans (if_pos rfl)
    refine ⟨?_, fun q hq => (g2 q (by omega)).trans (if_neg (by omega)), fun q hq => (g3 q (by show q < R.2; omega)).trans (i3 q hq), Or.inl qa, fun x h1 h2 => ?_⟩
    · rw [g1, i1]; show _ = N.2 + ((kh_own f a 0 n).length + kb_s f n (a + 1) k); omega
    · by_cases c : x = a
      · subst c
        rw [qa]
        refine ⟨ke_hasL_eq i2 (fun p hp => g3 _ (by show N.2 + p < R.2; omega)), ?_⟩
        by_cases c2 : x + 1 < 13
        · rw [if_pos c2]
          rcases g4 with w | w
          · rw [w]; exact i1
          · omega
        · rw [if_neg c2]
          have : k = 0 := by omega
          subst this
          rw [g1, i1]; rfl
      · exact g5 x (by omega) h2
/-- the numbers of an area stand side by side -/
theorem kg_grp {f : Nat → Option Nat} {n most : Nat} (hm : km_amt f 0 n ≤ most) (G : kg_G) {a : Nat} (ha : a < 13) : (kg_arr f n most G).1 (a + 1) - (kg_arr f n most G).1 a = (kh_own f a 0 n).length ∧ ke_hasL (kg_arr f n most G).2 ((kg_arr f n most G).1 a) (kh_own f a 0 n) := by
  have s := kb_s_sum f n 13 0
  have s : kz_sumN (fun x => (kh_own f x 0 n).length) 13 = 0 + kb_s f n 0 13 := s
  have le := kh_own_sum f n 0
  obtain ⟨g1, -, -, -, g5⟩ := kg_out_own (f := f) (n := n) (most := most) 13 0 (G, 0) rfl (by show 0 + kb_s f n 0 13 ≤ most; omega)
  obtain ⟨x1, x2⟩ := g5 a (by omega) ha
  obtain ⟨Q, eQ⟩ : ∃ Q, Q = kg_out f n most 0 13 (G, 0) := ⟨_, rfl⟩
  rw [← eQ] at x1 x2
  have e : kg_arr f n most G = (ks_un Q.1.1 13 Q.2, Q.1.2) := by rw [eQ]; rfl
  rw [e]
  have b1 : (ks_un Q.1.1 13 Q.2) a = Q.1.1 a := if_neg (by omega)
  have b2 : (ks_un Q.1.1 13 Q.2) (a + 1) = if a + 1 < 13 then Q.1.1 (a + 1) else Q.2 := by
    by_cases c : a + 1 < 13
    · rw [if_pos c]; exact if_neg (by omega)
    · rw [if_neg c]; exact if_pos (by omega)
  show (ks_un Q.1.1 13 Q.2) (a + 1) - (ks_un Q.1.1 13 Q.2) a = _ ∧ ke_hasL Q.1.2 ((ks_un Q.1.1 13 Q.2) a) _
  rw [b1, b2, x2]
  exact ⟨by omega, x1⟩
/-- a look that shows the sheet T -/
def kj_K (T : ks_S) (K : kl_K) : Prop := (∀ a, a < 13 → (∃ L : List Nat, K.1.1.1 (a + 1) - K.1.1.1 a = L.length ∧ ke_hasL K.1.1.2 (K.1.1.1 a) L ∧ L.Nodup ∧ ∀ n, n ∈ L ↔ n < 6 ∧ kj_H T n ∧ T.2.2.1 n = some a) ∧ (∃ L : List Nat, K.1.2.1.1 (a + 1) - K.1.2.1.1 a = L.length ∧ ke_hasL K.1.2.1.2 (K.1.2.1.1 a) L ∧ ∀ n, n ∈ L ↔ n < 12 ∧ T.1 n = some a) ∧ ∃ L : List Nat, K.1.2.2.1 (a + 1) - K.1.2.2.1 a = L.length ∧ ke_hasL K.1.2.2.2 (K.1.2.2.1 a) L ∧ ∀ n, n ∈ L ↔ n < 13 ∧ T.2.1 n = some a) ∧ ∀ s, s < 12 → ¬ T.1 s = none → K.2.2.1 s = T.2.2.2.1 s ∧ ∀ k, k < 2 → K.2.2.2.1 (2 * s + k) = T.2.2.2.2 (2 * s + k)
theorem kh_own_iff {f : Nat → Option Nat} {a x : Nat} : ∀ (j i : Nat), x ∈ kh_own f a i j ↔ i ≤ x ∧ x < i + j ∧ f x = some a := by
  intro j i
  refine ⟨kh_own_mem j i, fun h => ?_⟩
  induction j generalizing i with
  | zero => omega
  | succ j ih =>
    by_cases c : i = x
    · subst c; rw [kh_own_t h.2.2]; exact List.mem_cons_self
    · have := ih (i + 1) ⟨by omega, by omega, h.2.2⟩
      by_cases c2 : f i = some a
      · rw [kh_own_t c2]; exact List.mem_cons_of_mem _ this
      · rw [kh_own_f c2]; exact this
theorem kh_own_nodup {f : Nat → Option Nat} {a : Nat} : ∀ (j i : Nat), (kh_own f a i j).Nodup := by
  intro j
  induction j with
  | zero => exact fun _ => List.nodup_nil
  | succ j ih =>
    intro i
    by_cases c : f i = some a
    · rw [kh_own_t c]
      exact List.nodup_cons.mpr ⟨fun h => by have := (kh_own_mem _ _ h).1; omega, ih (i + 1)⟩
    · rw [kh_own_f c]; exact ih (i + 1)
theorem kj_hooked {S : ks_S} {f : Nat → Option Nat} (h : kq S f) (n : Nat) : ks_hooked S n = true ↔ kj_H (kz f) n := by
  obtain ⟨⟨e, e2⟩, -⟩ := h
  unfold ks_hooked
  rw [ks_any_iff]
  constructor
  · rintro ⟨s, -, h12, hs⟩
    unfold ks_hookAt at hs
    obtain ⟨a1, a2⟩ := Bool.and_eq_true_iff.mp hs
    have a1 : ¬ (kz f).1 s = none := by rw [← e.1]; exact of_decide_eq_true a1
    obtain ⟨-, g2⟩ := e2 s (by omega) a1
    rcases Bool.or_eq_true_iff.mp a2 with w | w
    · exact ⟨s, 0, by omega, by decide, a1, by rw [← g2 0 (by decide), Nat.add_zero]; exact of_decide_eq_true w⟩
    · exact ⟨s, 1, by omega, by decide, a1, by rw [← g2 1 (by decide)]; exact of_decide_eq_true w⟩
  · rintro ⟨s, k, hs, hk, a1, w⟩
    refine ⟨s, by omega, by omega, ?_⟩
    obtain ⟨-, g2⟩ := e2 s hs a1
    rw [← g2 k hk] at w
    unfold ks_hookAt
    rw [e.1, decide_eq_true a1, Bool.true_and, Bool.or_eq_true_iff]
    rcases (show k = 0 ∨ k = 1 by omega) with z | z
    · rw [z, Nat.add_zero] at w; exact Or.inl (decide_eq_true w)
    · rw [z] at w; exact Or.inr (decide_eq_true w)
theorem kj_arr {S : ks_S} {f : Nat → Option Nat} (h : kq S f) (K : kl_K) : kj_K (kz f) (kl_arr S K) := by
  have h' := h
  obtain ⟨⟨e, e2⟩, ⟨o, hk⟩, h3⟩ := h'
  have hl : ∀ q, q < 6 → kl_hooks S K.2.1 6 q = kl_hook S q := fun q hq => if_pos hq
  refine ⟨fun a ha => ⟨?_, ?_, ?_⟩, e2⟩
  · obtain ⟨g1, g2⟩ := kg_grp (f := kl_hooks S K.2.1 6) (n := 6) (most := 6) (km_amt_le _ 6 0) K.1.1 ha
    refine ⟨_, g1, g2, kh_own_nodup _ _, fun n => ?_⟩
    rw [kh_own_iff]
    constructor
    · rintro ⟨-, x2, x3⟩
      have n6 : n < 6 := by omega
      rw [hl n n6] at x3
      unfold kl_hook at x3
      by_cases c : ks_hooked S n = true
      · rw [if_pos c, e.2.2] at x3; exact ⟨n6, (kj_hooked h n).mp c, x3⟩
      · rw [if_neg c] at x3; cases x3
    · rintro ⟨n6, x2, x3⟩
      refine ⟨by omega, by omega, ?_⟩
      rw [hl n n6]
      unfold kl_hook
      rw [if_pos ((kj_hooked h n).mpr x2), e.2.2]; exact x3
  · obtain ⟨g1, g2⟩ := kg_grp (f := S.1) (n := 12) (most := 12) (km_amt_le _ 12 0) K.1.2.1 ha
    refine ⟨_, g1, g2, fun n => ?_⟩
    rw [kh_own_iff, e.1]
    exact ⟨fun x => ⟨by omega, x.2.2⟩, fun x => ⟨by omega, by omega, x.2⟩⟩
  · have le : km_amt S.2.1 0 13 ≤ 12 := by
      have : km_amt S.2.1 0 13 = (if S.2.1 0 = none then 0 else 1) + km_amt S.2.1 1 12 := rfl
      rw [this, e.2.1, o.1.2.2.2, if_pos rfl]
      have := km_amt_le (kz f).2.1 12 1
      omega
    obtain ⟨g1, g2⟩ := kg_grp (f := S.2.1) (n := 13) (most := 12) le K.1.2.2 ha
    refine ⟨_, g1, g2, fun n => ?_⟩
    rw [kh_own_iff, e.2.1]
    exact ⟨fun x => ⟨by omega, x.2.2⟩, fun x => ⟨by omega, by omega, x.2⟩⟩
/-! counting up -/
def kj_val (th : Nat) (t : Nat → Nat) : List Nat → Nat
  | [] => 0
  | x :: L => t x + th * kj_val th t L
def kj_next (th : Nat) : List Nat → (Nat → Nat) → Nat → Nat
  | [], t => t
  | x :: L, t => if t x + 1 < th then ks_un t x (t x + 1) else kj_next th L (ks_un t x 0)
def kj_zero : List Nat → (Nat → Nat) → Nat → Nat
  | [], t => t
  | x :: L, t => kj_zero L (ks_un t x 0)
theorem kj_val_congr {th : Nat} {t u : Nat → Nat} : ∀ (L : List Nat), (∀ x, x ∈ L → t x = u x) → kj_val th t L = kj_val th u L := by
  intro L
  induction L with
  | nil => exact fun _ => rfl
  | cons x L ih =>
    intro h
    show t x + th * kj_val th t L = u x + th * kj_val th u L
    rw [h x List.mem_cons_self, ih (fun y hy => h y (List.mem_cons_of_mem _ hy))]
theorem kj_val_lt {th : Nat} {t : Nat → Nat} : ∀ (L : List Nat), (∀ x, x ∈ L → t x < th) → kj_val th t L < th ^ L.length := by
  intro L
  induction L with
  | nil => exact fun _ => Nat.one_pos
  | cons x L ih =>
    intro h
    have h1 := h x List.mem_cons_self
    have h2 := ih (fun y hy => h y (List.mem_cons_of_mem _ hy))
    show t x + th * kj_val th t L < th ^ (L.length + 1)
    rw [Nat.pow_succ, Nat.mul_comm (th ^ L.length)]
    have : th * kj_val th t L + th ≤ th * th ^ L.length := by
      rw [← Nat.mul_succ]
      exact Nat.mul_le_mul_left th h2
    omega
theorem kj_val_inj {th : Nat} {t u : Nat → Nat} : ∀ (L : List Nat), (∀ x, x ∈ L → t x < th) → (∀ x, x ∈ L → u x < th) → kj_val th t L = kj_val th u L → ∀ x, x ∈ L → t x = u x := by
  intro L
  induction L with
  | nil => intro _ _ _ x hx; cases hx
  | cons y L ih =>
    intro h1 h2 e x hx
    have e : t y + th * kj_val th t L = u y + th * kj_val th u L := e
    have a1 := h1 y List.mem_cons_self
    have a2 := h2 y List.mem_cons_self
    have m1 : (t y + th * kj_val th t L) % th = t y := by rw [Nat.add_mul_mod_self_left, Nat.mod_eq_of_lt a1]
    have m2 : (u y + th * kj_val th u L) % th = u y := by rw [Nat.add_mul_mod_self_left, Nat.mod_eq_of_lt a2]
    have ey : t y = u y := by rw [← m1, ← m2, e]
    rcases List.mem_cons.mp hx with w | w
    · rw [w]; exact ey
    · refine ih (fun z hz => h1 z (List.mem_cons_of_mem _ hz)) (fun z hz => h2 z (List.mem_cons_of_mem _ hz)) ?_ x w
      rw [ey] at e
      exact Nat.eq_of_mul_eq_mul_left (show 0 < th by omega) (by omega)
theorem kj_next_spec {th : Nat} : ∀ (L : List Nat) (t : Nat → Nat), L.Nodup → (∀ x, x ∈ L → t x < th) → (∀ n, ¬ n ∈ L → kj_next th L t n = t n) ∧ (∀ x, x ∈ L → kj_next th L t x < th) ∧ (kj_val th t L + 1 < th ^ L.length → kj_val th (kj_next th L t) L = kj_val th t L + 1) := by
  intro L
  induction L with
  | nil => exact fun t _ _ => ⟨fun _ _ => rfl, fun x hx => (nomatch hx), fun h => absurd h (by show ¬ 0 + 1 < 1; omega)⟩
  | cons x L ih =>
    intro t nd h
    obtain ⟨nx, nd'⟩ := List.nodup_cons.mp nd
    have hx := h x List.mem_cons_self
    have hL : ∀ y, y ∈ L → t y < th := fun y hy => h y (List.mem_cons_of_mem _ hy)
    have ne : ∀ y, y ∈ L → ¬ y = x := fun y hy e => nx (by rw [← e]; exact hy)
    by_cases c : t x + 1 < th
    · have e : kj_next th (x :: L) t = ks_un t x (t x + 1) := if_pos c
      rw [e]
      refine ⟨fun n hn => if_neg (fun w => hn (by rw [w]; exact List.mem_cons_self)), fun y hy => ?_, fun _ => ?_⟩
      · show (if y = x then t x + 1 else t y) < th
        split
        · exact c
        · exact h y hy
      · show (if x = x then t x + 1 else t x) + th * kj_val th (ks_un t x (t x + 1)) L = t x + th * kj_val th t L + 1
        rw [if_pos rfl, kj_val_congr (t := ks_un t x (t x + 1)) (u := t) L (fun y hy => if_neg (ne y hy))]
        omega
    · have e : kj_next th (x :: L) t = kj_next th L (ks_un t x 0) := if_neg c
      rw [e]
      obtain ⟨g1, g2, g3⟩ := ih (ks_un t x 0) nd' (fun y hy => by show (if y = x then 0 else t y) < th; rw [if_neg (ne y hy)]; exact hL y hy)
      have gx : kj_next th L (ks_un t x 0) x = 0 := (g1 x nx).trans (if_pos rfl)
      refine ⟨fun n hn => ?_, fun y hy => ?_, fun hv => ?_⟩
      · rw [g1 n (fun w => hn (List.mem_cons_of_mem _ w))]
        exact if_neg (fun w => hn (by rw [w]; exact List.mem_cons_self))
      · rcases List.mem_cons.mp hy with w | w
        · rw [w, gx]; omega
        · exact g2 y w
      · have hv : t x + th * kj_val th t L + 1 < th ^ (L.length + 1) := hv
        rw [Nat.pow_succ, Nat.mul_comm (th ^ L.length)] at hv
        have ev : kj_val th (ks_un t x 0) L = kj_val th t L := kj_val_congr L (fun y hy => if_neg (ne y hy))
        have lt : kj_val th t L + 1 < th ^ L.length := by
          have : th * (kj_val th t L + 1) < th * th ^ L.length := by rw [Nat.mul_add, Nat.mul_one]; omega
          exact Nat.lt_of_mul_lt_mul_left this
        have g3 := g3 (by rw [ev]; exact lt)
        show kj_next th L (ks_un t x 0) x + th * kj_val th (kj_next th L (ks_un t x 0)) L = t x + th * kj_val th t L + 1
        rw [gx, g3, ev, Nat.mul_add, Nat.mul_one]
        omega
theorem kj_zero_spec : ∀ (L : List Nat) (t : Nat → Nat), (∀ n, ¬ n ∈ L → kj_zero L t n = t n) ∧ ∀ x, x ∈ L → kj_zero L t x = 0 := by
  intro L
  induction L with
  | nil => exact fun t => ⟨fun _ _ => rfl, fun x hx => (nomatch hx)⟩
  | cons x L ih =>
    intro t
    obtain ⟨g1, g2⟩ := ih (ks_un t x 0)
    refine ⟨fun n hn => (g1 n (fun w => hn (List.mem_cons_of_mem _ w))).trans (if_neg (fun w => hn (by rw [w]; exact List.mem_cons_self))), fun y hy => ?_⟩
    by_cases c : y ∈ L
    · exact g2 y c
    · rcases List.mem_cons.mp hy with w | w
      · exact (g1 y c).trans (if_pos w)
      · exact absurd w c
