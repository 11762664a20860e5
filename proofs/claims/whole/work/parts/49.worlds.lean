/-! Looks that are arranged are in range; worlds. -/
theorem kg_in_ok {f : Nat → Option Nat} {most a lim N : Nat} (hN : N ≤ lim) : ∀ (k i : Nat) (T : (Nat → Nat) × Nat), i + k = N → T.2 ≤ most → (∀ q, q < most → T.1 q < lim) → T.2 ≤ (kg_in f most a i k T).2 ∧ (kg_in f most a i k T).2 ≤ most ∧ ∀ q, q < most → (kg_in f most a i k T).1 q < lim := by
  intro k
  induction k with
  | zero => exact fun i T _ h1 h2 => ⟨Nat.le_refl _, h1, h2⟩
  | succ k ih =>
    intro i T hi h1 h2
    by_cases hq : f i = some a ∧ T.2 < most
    · have e : kg_in f most a i (k + 1) T = kg_in f most a (i + 1) k (ks_un T.1 T.2 i, T.2 + 1) := by show kg_in f most a (i + 1) k (if _ then _ else _) = _; rw [if_pos hq]
      rw [e]
      obtain ⟨g1, g2, g3⟩ := ih (i + 1) (ks_un T.1 T.2 i, T.2 + 1) (by omega) hq.2 (fun q hh => by
        show ks_un T.1 T.2 i q < lim
        unfold ks_un
        by_cases hz : q = T.2
        · rw [if_pos hz]; omega
        · rw [if_neg hz]; exact h2 q hh)
      exact ⟨Nat.le_of_succ_le g1, g2, g3⟩
    · have e : kg_in f most a i (k + 1) T = kg_in f most a (i + 1) k T := by show kg_in f most a (i + 1) k (if _ then _ else _) = _; rw [if_neg hq]
      rw [e]
      exact ih (i + 1) T (by omega) h1 h2
theorem kg_out_low {f : Nat → Option Nat} {n most : Nat} : ∀ (k a : Nat) (T : kg_G × Nat) (q : Nat), q < a → (kg_out f n most a k T).1.1 q = T.1.1 q := by
  intro k
  induction k with
  | zero => exact fun _ _ _ _ => rfl
  | succ k ih =>
    intro a T q hq
    have h1 := ih (a + 1) ((ks_un T.1.1 a T.2, (kg_in f most a 0 n (T.1.2, T.2)).1), (kg_in f most a 0 n (T.1.2, T.2)).2) q (by omega)
    refine h1.trans ?_
    show ks_un T.1.1 a T.2 q = _
    unfold ks_un
    rw [if_neg (by omega)]
theorem kg_out_ok {f : Nat → Option Nat} {n most lim : Nat} (hn : n ≤ lim) : ∀ (k a : Nat) (T : kg_G × Nat), T.2 ≤ most → (∀ q, q < most → T.1.2 q < lim) → T.2 ≤ (kg_out f n most a k T).2 ∧ (kg_out f n most a k T).2 ≤ most ∧ (∀ q, q < most → (kg_out f n most a k T).1.2 q < lim) ∧
    ∀ q, a ≤ q → q < a + k → T.2 ≤ (kg_out f n most a k T).1.1 q ∧ (kg_out f n most a k T).1.1 q ≤ (if q + 1 < a + k then (kg_out f n most a k T).1.1 (q + 1) else (kg_out f n most a k T).2) := by
  intro k
  induction k with
  | zero => exact fun a T h1 h2 => ⟨Nat.le_refl _, h1, h2, fun q g1 g2 => absurd g2 (by omega)⟩
  | succ k ih =>
    intro a T h1 h2
    obtain ⟨i1, i2, i3⟩ := kg_in_ok (f := f) (a := a) hn n 0 (T.1.2, T.2) (by omega) h1 h2
    have e : kg_out f n most a (k + 1) T = kg_out f n most (a + 1) k ((ks_un T.1.1 a T.2, (kg_in f most a 0 n (T.1.2, T.2)).1), (kg_in f most a 0 n (T.1.2, T.2)).2) := rfl
    obtain ⟨j1, j2, j3, j4⟩ := ih (a + 1) ((ks_un T.1.1 a T.2, (kg_in f most a 0 n (T.1.2, T.2)).1), (kg_in f most a 0 n (T.1.2, T.2)).2) i2 i3
    have hlow := kg_out_low (f := f) (n := n) (most := most) k (a + 1) ((ks_un T.1.1 a T.2, (kg_in f most a 0 n (T.1.2, T.2)).1), (kg_in f most a 0 n (T.1.2, T.2)).2) a (by omega)
    rw [← e] at j1 j2 j3 j4 hlow
    have ha : (kg_out f n most a (k + 1) T).1.1 a = T.2 := hlow.trans (if_pos rfl)
    refine ⟨Nat.le_trans i1 j1, j2, j3, fun q g1 g2 => ?_⟩
    by_cases hq : q = a
    · subst hq
      rw [ha]
      refine ⟨Nat.le_refl _, ?_⟩
      by_cases hk : q + 1 < q + (k + 1)
      · rw [if_pos hk]; exact Nat.le_trans i1 (j4 (q + 1) (by omega) (by omega)).1
      · rw [if_neg hk]; exact Nat.le_trans i1 j1
    · obtain ⟨m1, m2⟩ := j4 q (by omega) (by omega)
      refine ⟨Nat.le_trans i1 m1, ?_⟩
      by_cases hk : q + 1 < a + (k + 1)
      · rw [if_pos (by omega)] at m2; rw [if_pos hk]; exact m2
      · rw [if_neg (by omega)] at m2; rw [if_neg hk]; exact m2
theorem kg_arr_ok {f : Nat → Option Nat} {n most lim : Nat} (hn : n ≤ lim) (G : kg_G) (hG : ∀ q, q < most → G.2 q < lim) : kg_ok (kg_arr f n most G) most lim := by
  obtain ⟨j1, j2, j3, j4⟩ := kg_out_ok (f := f) (most := most) hn 13 0 (G, 0) (Nat.zero_le _) hG
  refine ⟨fun a ha => ?_, j3⟩
  have h0 : ∀ q, q < 13 → (kg_arr f n most G).1 q = (kg_out f n most 0 13 (G, 0)).1.1 q := fun q hq => by
    show ks_un _ 13 _ q = _
    unfold ks_un
    rw [if_neg (by omega)]
  have h13 : (kg_arr f n most G).1 13 = (kg_out f n most 0 13 (G, 0)).2 := by
    show ks_un (kg_out f n most 0 13 (G, 0)).1.1 13 (kg_out f n most 0 13 (G, 0)).2 13 = _
    unfold ks_un
    rw [if_pos rfl]
  obtain ⟨-, m2⟩ := j4 a (Nat.zero_le _) (by omega)
  rw [h0 a ha]
  by_cases hk : a + 1 < 13
  · rw [if_pos (by omega)] at m2
    rw [h0 (a + 1) hk]
    refine ⟨m2, ?_⟩
    have up : ∀ k q, q + k = 12 → (kg_out f n most 0 13 (G, 0)).1.1 q ≤ (kg_out f n most 0 13 (G, 0)).2 := by
      intro k
      induction k with
      | zero =>
        intro q hq
        have m := (j4 q (Nat.zero_le _) (by omega)).2
        rw [if_neg (by omega)] at m
        exact m
      | succ k ih =>
        intro q hq
        have m := (j4 q (Nat.zero_le _) (by omega)).2
        rw [if_pos (by omega)] at m
        exact Nat.le_trans m (ih (q + 1) (by omega))
    exact Nat.le_trans (up (12 - (a + 1)) (a + 1) (by omega)) j2
  · have ha : a = 12 := by omega
    subst ha
    rw [if_neg (by omega)] at m2
    rw [h13]
    exact ⟨m2, j2⟩
/-- what a look must be before it is arranged -/
def kl_pre (K : kl_K) : Prop := ((∀ q, q < 6 → K.1.1.2 q < 6) ∧ (∀ q, q < 12 → K.1.2.1.2 q < 12) ∧ ∀ q, q < 12 → K.1.2.2.2 q < 13) ∧ kl_okt K.2.2.2.2.1
def kl_okK (K : kl_K) : Prop := (kg_ok K.1.1 6 6 ∧ kg_ok K.1.2.1 12 12 ∧ kg_ok K.1.2.2 12 13) ∧ (∀ i, i < 12 → K.2.2.1 i < 4) ∧ ∀ i, i < 24 → mm_lt (K.2.2.2.1 i) 6
theorem kl_okK_arr {S : ks_S} (os : ks_ok S) {K : kl_K} (p : kl_pre K) : kl_okK (kl_arr S K) := ⟨⟨kg_arr_ok (by decide) _ p.1.1, kg_arr_ok (by decide) _ p.1.2.1, kg_arr_ok (by decide) _ p.1.2.2⟩, os.2.1, fun _ hi => os.hk hi⟩
theorem kl_ok_tb {K : kl_K} (o : kl_okK K) {n m : Nat} (h1 : 1 ≤ n) (h3 : n ≤ 3) (hm : m < 2 ^ 31) : kl_ok (kl_tb K n m) := ⟨o.1, o.2.1, o.2.2, h1, h3, hm⟩
def kl_say (K : kl_K) (n m : Nat) : Bool × kl_K := ((kl_true (kl_tb K n m) 13 K.2.2.2.2.1 0).1, kl_th (kl_tb K n m) (kl_true (kl_tb K n m) 13 K.2.2.2.2.1 0).2)
theorem kl_say_ok {K : kl_K} (o : kl_okK K) (t : kl_okt K.2.2.2.2.1) {n m : Nat} (h1 : 1 ≤ n) (h3 : n ≤ 3) (hm : m < 2 ^ 31) : kl_okK (kl_say K n m).2 ∧ kl_okt (kl_say K n m).2.2.2.2.2.1 :=
  ⟨o, kl_okt_true (kl_ok_tb o h1 h3 hm) 13 _ 0 t⟩
theorem kl_pre_of {K : kl_K} (o : kl_okK K) (t : kl_okt K.2.2.2.2.1) : kl_pre K := ⟨⟨o.1.1.2, o.1.2.1.2, o.1.2.2.2⟩, t⟩
def kc_nowC (C : kc_C) (K : kl_K) : kc_C := (C.1, C.2.1, (C.2.2.1.1, K), C.2.2.2)
def kc_bothC (C : kc_C) (K1 K2 : kl_K) : kc_C := (C.1, C.2.1, (K1, K2), C.2.2.2)
def kc_holdsN (C : kc_C) (fi : Bool) (n m : Nat) : kc_R := if (!fi || !C.2.2.2.2.1) = true then (.inl (some (.int (mm_bI (kl_say (kl_arr (if fi = true then C.1 0 else kc_S C) C.2.2.1.2) n m).1))), kc_nowC C (kl_say (kl_arr (if fi = true then C.1 0 else kc_S C) C.2.2.1.2) n m).2) else (.inr 1, C)
def kc_holds (C : kc_C) (fi : Bool) (n m : Int32) : kc_R := if (decide (nI 1 ≤ n) && (decide (n ≤ nI 3) && (decide (0 ≤ m) && decide (m < nI 16384)))) = true then kc_holdsN C fi n.toNatClampNeg m.toNatClampNeg else (.inr 0, C)
/-- the first world in which the first sheet holds and this one doesn't -/
def kc_inn (all b : Nat) : Bool := decide (nI b &&& (nI all ^^^ -1) = 0)
def kc_ref (n all : Nat) : Nat → Nat → kl_K → kl_K → Option Nat × kl_K × kl_K
  | 0, _, K1, K2 => (none, K1, K2)
  | j + 1, b, K1, K2 => if kc_inn all b = true then (if (kl_say K1 n b).1 = true then (if (kl_say K2 n b).1 = true then kc_ref n all j (b + 1) (kl_say K1 n b).2 (kl_say K2 n b).2 else (some b, (kl_say K1 n b).2, (kl_say K2 n b).2)) else kc_ref n all j (b + 1) (kl_say K1 n b).2 K2) else kc_ref n all j (b + 1) K1 K2
def kc_all (n : Nat) : Nat := if n = 1 then 39 else 879
def kc_refR (C : kc_C) (n : Nat) : Option Nat × kl_K × kl_K := kc_ref n (kc_all n) (kc_all n + 1) 0 (kl_arr (C.1 0) C.2.2.1.1) (kl_arr (kc_S C) C.2.2.1.2)
def kc_refutes (C : kc_C) (n : Int32) : kc_R := if (decide (n = nI 1) || decide (n = nI 2)) = true then (if C.2.2.2.2.1 = true then (.inr 1, C) else (kc_int (kc_refR C n.toNatClampNeg).1, kc_bothC C (kc_refR C n.toNatClampNeg).2.1 (kc_refR C n.toNatClampNeg).2.2)) else (.inr 0, C)
