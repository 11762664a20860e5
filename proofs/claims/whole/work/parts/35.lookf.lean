/-! Looks: what stays in range. -/
theorem ks_un_un (f : Nat → Nat) (j v w : Nat) : ks_un (ks_un f j v) j w = ks_un f j w := by
  funext i
  unfold ks_un
  by_cases h : i = j
  · rw [if_pos h, if_pos h]
  · rw [if_neg h, if_neg h, if_neg h]
theorem kl_okt_un {t : Nat → Nat} (o : kl_okt t) (n : Nat) {v : Nat} (hv : v < 3) : kl_okt (ks_un t n v) := by
  intro i hi
  unfold ks_un
  by_cases h : i = n
  · rw [if_pos h]; exact hv
  · rw [if_neg h]; exact o i hi
section KLok
variable {K : kl_K} (ok : kl_ok K)
theorem kl_thing_lt {K : kl_K} (ok : kl_ok K) {t : Nat → Nat} (o : kl_okt t) {i : Nat} (hi : i < 24) : kl_thing K t i < 3 := by
  unfold kl_thing
  have hl := ok.2.2.1 i hi
  cases hx : K.2.2.2.1 i with
  | none => show 0 < 3; decide
  | some n => exact o n (hl n hx)
theorem kl_bit_lt {K : kl_K} (ok : kl_ok K) {t : Nat → Nat} (o : kl_okt t) {s : Nat} (hs : s < 12) : kl_bit K t s < 32 := by
  have h1 := kl_thing_lt ok o (i := 2 * s) (by omega)
  have h2 := kl_thing_lt ok o (i := 2 * s + 1) (by omega)
  have h3 := ok.2.1 s hs
  unfold kl_bit
  by_cases q : K.2.2.1 s < 2
  · rw [if_pos q]; omega
  · rw [if_neg q]
    by_cases q2 : K.2.2.1 s = 2
    · rw [if_pos q2]; omega
    · rw [if_neg q2]; omega
theorem kl_okt_next {K : kl_K} (ok : kl_ok K) : ∀ (k i : Nat) (t : Nat → Nat), kl_okt t → kl_okt (kl_next K i k t) := by
  intro k
  induction k with
  | zero => exact fun _ _ o => o
  | succ k ih =>
    intro i t o
    have h3 := ok.2.2.2.2.1
    show kl_okt (if t (K.1.1.2 i) + 1 < K.2.2.2.2.2.1 then _ else _)
    by_cases q : t (K.1.1.2 i) + 1 < K.2.2.2.2.2.1
    · rw [if_pos q]; exact kl_okt_un o _ (by omega)
    · rw [if_neg q]; exact ih _ _ (kl_okt_un o _ (by decide))
theorem kl_okt_zero {K : kl_K} : ∀ (k i : Nat) (T : (Nat → Nat) × Nat), kl_okt T.1 → kl_okt (kl_zero K i k T).1 := by
  intro k
  induction k with
  | zero => exact fun _ _ o => o
  | succ k ih => exact fun i T o => ih _ _ (kl_okt_un o _ (by decide))
theorem kl_zero_n {K : kl_K} : ∀ (k i : Nat) (T : (Nat → Nat) × Nat), (kl_zero K i k T).2 = T.2 * K.2.2.2.2.2.1 ^ k := by
  intro k
  induction k with
  | zero => exact fun i T => (Nat.mul_one _).symm
  | succ k ih =>
    intro i T
    show (kl_zero K (i + 1) k (ks_un T.1 (K.1.1.2 i) 0, T.2 * K.2.2.2.2.2.1)).2 = _
    rw [ih, Nat.pow_succ]
    show T.2 * K.2.2.2.2.2.1 * _ = _
    rw [Nat.mul_assoc, Nat.mul_comm K.2.2.2.2.2.1]
theorem kl_ways_le {K : kl_K} (ok : kl_ok K) {k i : Nat} (hk : k ≤ 6) (t : Nat → Nat) : (kl_zero K i k (t, 1)).2 ≤ 729 := by
  rw [kl_zero_n, Nat.one_mul]
  calc K.2.2.2.2.2.1 ^ k ≤ 3 ^ k := Nat.pow_le_pow_left ok.2.2.2.2.1 k
    _ ≤ 3 ^ 6 := Nat.pow_le_pow_right (by decide) hk
theorem kl_okt_nocut {K : kl_K} {rec : (Nat → Nat) → Nat → Bool × (Nat → Nat)} (hr : ∀ t a, kl_okt t → kl_okt (rec t a).2) : ∀ (k i : Nat) (t : Nat → Nat), kl_okt t → kl_okt (kl_nocut K rec i k t).2 := by
  intro k
  induction k with
  | zero => exact fun _ _ o => o
  | succ k ih =>
    intro i t o
    show kl_okt (if (rec t (K.1.2.2.2 i)).1 = true then (false, (rec t (K.1.2.2.2 i)).2) else _ : Bool × (Nat → Nat)).2
    by_cases q : (rec t (K.1.2.2.2 i)).1 = true
    · rw [if_pos q]; exact hr _ _ o
    · rw [if_neg q]; exact ih _ _ (hr _ _ o)
theorem kl_okt_ways {K : kl_K} (ok : kl_ok K) {rec : (Nat → Nat) → Nat → Bool × (Nat → Nat)} (hr : ∀ t a, kl_okt t → kl_okt (rec t a).2) (a : Nat) : ∀ (w : Nat) (t : Nat → Nat), kl_okt t → kl_okt (kl_ways K rec a w t).2 := by
  intro w
  induction w with
  | zero => exact fun _ o => o
  | succ w ih =>
    intro t o
    have o1 := kl_okt_nocut (K := K) hr (K.1.2.2.1 (a + 1) - K.1.2.2.1 a) (K.1.2.2.1 a) t o
    show kl_okt (if kl_spots K t a = true then (if (kl_cutsF K rec a t).1 = true then (true, (kl_cutsF K rec a t).2) else _) else _ : Bool × (Nat → Nat)).2
    by_cases q : kl_spots K t a = true
    · rw [if_pos q]
      by_cases q2 : (kl_cutsF K rec a t).1 = true
      · rw [if_pos q2]; exact o1
      · rw [if_neg q2]; exact ih _ (kl_okt_next ok _ _ _ o1)
    · rw [if_neg q]; exact ih _ (kl_okt_next ok _ _ _ o)
theorem kl_okt_true {K : kl_K} (ok : kl_ok K) : ∀ (f : Nat) (t : Nat → Nat) (a : Nat), kl_okt t → kl_okt (kl_true K f t a).2 := by
  intro f
  induction f with
  | zero => exact fun _ _ o => o
  | succ f ih => exact fun t a o => kl_okt_ways ok ih a _ _ (kl_okt_zero _ _ _ o)
end KLok
def kl_dp : Nat → Nat
  | 0 => 5
  | f + 1 => kl_dp f + 1 + 1
theorem kl_dp_le (f : Nat) : 5 ≤ kl_dp f := by
  induction f with
  | zero => exact Nat.le_refl _
  | succ f ih => show 5 ≤ kl_dp f + 1 + 1; omega
