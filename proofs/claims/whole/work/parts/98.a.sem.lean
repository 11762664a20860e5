/-! Mathematics: what a sheet says in a world. -/
def kj_sem (T : ks_S) (th B : Nat) : Nat → Nat → (Nat → Nat) → Prop
  | 0, _, _ => False
  | f + 1, a, v => ∃ w : Nat → Nat, (∀ n y, n < 6 → T.2.2.1 n = some y → ¬ y = a → w n = v n) ∧ (∀ n, n < 6 → T.2.2.1 n = some a → w n < th) ∧ (∀ s, s < 12 → T.1 s = some a → B.testBit (kh_bit T w s) = true) ∧ ∀ c, c < 13 → T.2.1 c = some a → ¬ kj_sem T th B f c w
/-- a line at which some spot hangs -/
def kj_H (T : ks_S) (n : Nat) : Prop := ∃ s k, s < 12 ∧ k < 2 ∧ ¬ T.1 s = none ∧ T.2.2.2.2 (2 * s + k) = some n
/-- the same things at the lines that matter in an area -/
def kj_ag (T : ks_S) (a : Nat) (u v : Nat → Nat) : Prop := ∀ n y, n < 6 → T.2.2.1 n = some y → kj_H T n → (∃ j, kt_it T.2.1 j a = some y) → u n = v n
theorem kj_bit {T : ks_S} (o : ks_ok T) (hk : kq_hk T) {a s : Nat} {u v : Nat → Nat} (hs : s < 12) (ha : T.1 s = some a) (h : kj_ag T a u v) : kh_bit T u s = kh_bit T v s := by
  have g4 := o.2.1 s hs
  have key : ∀ k, k < kc_places (T.2.2.2.1 s) → u ((T.2.2.2.2 (2 * s + k)).getD 0) = v ((T.2.2.2.2 (2 * s + k)).getD 0) := fun k hk2 => by
    have pl := kc_places_le g4
    obtain ⟨n, b, n6, h7, h8, h9⟩ := (hk.1 s a hs ha k (by omega)).1 hk2
    rw [h7]
    exact h n b n6 h8 ⟨s, k, hs, by omega, (by rw [ha]; exact fun w => nomatch w), h7⟩ h9
  unfold kh_bit
  by_cases c1 : T.2.2.2.1 s < 2
  · rw [if_pos c1, if_pos c1]
  · rw [if_neg c1, if_neg c1]
    have pl : kc_places (T.2.2.2.1 s) = T.2.2.2.1 s - 1 := if_neg c1
    have k0 := key 0 (by omega)
    rw [Nat.add_zero] at k0
    by_cases c2 : T.2.2.2.1 s = 2
    · rw [if_pos c2, if_pos c2, k0]
    · rw [if_neg c2, if_neg c2, k0, key 1 (by omega)]
theorem kj_scope {T : ks_S} (o : ks_ok T) (hk : kq_hk T) {th B : Nat} : ∀ (f a : Nat) (u v : Nat → Nat), (∀ n y, n < 6 → T.2.2.1 n = some y → kj_H T n → (∃ j, kt_it T.2.1 (j + 1) a = some y) → u n = v n) → kj_sem T th B f a u → kj_sem T th B f a v := by
  intro f
  induction f with
  | zero => exact fun _ _ _ _ h => h
  | succ f ih =>
    intro a u v h hu
    obtain ⟨w, w1, w2, w3, w4⟩ := hu
    have ag : kj_ag T a (fun n => if T.2.2.1 n = some a then w n else v n) w := fun n y n6 hy hH hj => by
      show (if T.2.2.1 n = some a then w n else v n) = w n
      by_cases c : T.2.2.1 n = some a
      · rw [if_pos c]
      · rw [if_neg c]
        have ya : ¬ y = a := fun e => c (by rw [hy, e])
        rw [w1 n y n6 hy ya]
        obtain ⟨j, hj⟩ := hj
        cases j with
        | zero => exact absurd (Option.some.inj hj).symm ya
        | succ j => exact (h n y n6 hy hH ⟨j, hj⟩).symm
    refine ⟨fun n => if T.2.2.1 n = some a then w n else v n, fun n y n6 hy ya => ?_, fun n n6 hy => ?_, fun s hs hsa => ?_, fun c hc hp hsem => ?_⟩
    · show (if T.2.2.1 n = some a then w n else v n) = v n
      rw [if_neg (fun e => ya (by rw [hy] at e; exact Option.some.inj e))]
    · show (if T.2.2.1 n = some a then w n else v n) < th
      rw [if_pos hy]; exact w2 n n6 hy
    · rw [kj_bit o hk hs hsa ag]; exact w3 s hs hsa
    · refine w4 c hc hp (ih c _ w (fun n y n6 hy hH hj => ag n y n6 hy hH ?_) hsem)
      obtain ⟨j, hj⟩ := hj
      rw [kt_it_s hp] at hj
      exact ⟨j, hj⟩
/-! the digits of a number -/
theorem kj_mul (s u t w : Nat) : s * (u * t * w) = (s * (t * w)) * u := by
  rw [Nat.mul_assoc u t w, Nat.mul_comm u (t * w), Nat.mul_assoc s (t * w) u]
theorem kj_set_in {T : ks_S} {th n i t : Nat} (h1 : 1 ≤ th) (hn : n < 6) (hp : ¬ T.2.2.1 n = none) (hi : i < kh_u T th 6) (ht : t < th) : kh_base (kh_u T th n) th i + t * kh_u T th n < kh_u T th 6 := by
  obtain ⟨w, ew⟩ := kh_u_6 (S := T) (T := th) hn hp
  rw [ew] at hi ⊢
  exact kh_in (kh_u_pos T h1 n) ht (Nat.lt_of_le_of_lt (kh_base_le _ _ _) hi) (kh_base_dg (kh_u_pos T h1 n))
theorem kj_set_at {T : ks_S} {th n i t : Nat} (h1 : 1 ≤ th) (ht : t < th) : kh_w T th (kh_base (kh_u T th n) th i + t * kh_u T th n) n = t := kh_dg_add (kh_u_pos T h1 n) ht (kh_base_dg (kh_u_pos T h1 n))
theorem kj_set_ne {T : ks_S} {th n m i t : Nat} (h1 : 1 ≤ th) (hp : ¬ T.2.2.1 n = none) (hpm : ¬ T.2.2.1 m = none) (hnm : ¬ m = n) (ht : t < th) : kh_w T th (kh_base (kh_u T th n) th i + t * kh_u T th n) m = kh_w T th i m := by
  have up := kh_u_pos T h1 n
  have um := kh_u_pos T h1 m
  obtain ⟨base, eb⟩ : ∃ b, b = kh_base (kh_u T th n) th i := ⟨_, rfl⟩
  obtain ⟨dd, edd⟩ : ∃ d, d = i / kh_u T th n % th := ⟨_, rfl⟩
  have ei : i = base + dd * kh_u T th n := by rw [eb, edd]; exact kh_base_eq _ _ _
  have dl : dd < th := by rw [edd]; exact Nat.mod_lt _ h1
  have b0 : base / kh_u T th n % th = 0 := by rw [eb]; exact kh_base_dg up
  have key : ∀ s, s < th → kh_w T th (base + s * kh_u T th n) m = kh_w T th base m := fun s hs => by
    unfold kh_w
    rcases Nat.lt_or_ge m n with c | c
    · obtain ⟨w, hw⟩ := kh_u_more T th (m + 1) (n - (m + 1))
      rw [show m + 1 + (n - (m + 1)) = n by omega, kh_u_s hpm] at hw
      rw [hw, kj_mul, Nat.add_mul_div_right _ _ um, show s * (th * w) = (s * w) * th by rw [Nat.mul_comm th w, Nat.mul_assoc], Nat.add_mul_mod_self_right]
    · obtain ⟨w, hw⟩ := kh_u_more T th (n + 1) (m - (n + 1))
      rw [show n + 1 + (m - (n + 1)) = m by omega, kh_u_s hp] at hw
      have q : ∀ s, s < th → (base + s * kh_u T th n) / (kh_u T th n * th * w) = base / kh_u T th n / th / w := fun s hs => by
        rw [← Nat.div_div_eq_div_mul, ← Nat.div_div_eq_div_mul, Nat.add_mul_div_right _ _ up]
        have : (base / kh_u T th n + s) / th = base / kh_u T th n / th := by
          have e1 := Nat.div_add_mod (base / kh_u T th n) th
          rw [b0, Nat.add_zero] at e1
          rw [← e1, Nat.mul_comm, Nat.add_comm, Nat.add_mul_div_right _ _ h1, Nat.div_eq_of_lt hs, Nat.zero_add, Nat.mul_div_cancel _ h1]
        rw [this]
      rw [hw, q s hs]
      have := q 0 h1
      rw [Nat.zero_mul, Nat.add_zero] at this
      rw [this]
  rw [← eb, key t ht]
  have := key dd dl
  rw [← ei] at this
  exact this.symm
/-- any digits belong to some number -/
theorem kj_num {T : ks_S} {th : Nat} (h1 : 1 ≤ th) (w : Nat → Nat) (hw : ∀ n, n < 6 → ¬ T.2.2.1 n = none → w n < th) : ∀ m, m ≤ 6 → ∃ i, i < kh_u T th m ∧ ∀ n, n < m → ¬ T.2.2.1 n = none → kh_w T th i n = w n := by
  intro m
  induction m with
  | zero => exact fun _ => ⟨0, Nat.one_pos, fun n hn => absurd hn (by omega)⟩
  | succ m ih =>
    intro hm
    obtain ⟨i, hi, hd⟩ := ih (by omega)
    by_cases c : T.2.2.1 m = none
    · rw [kh_u_n c, Nat.mul_one]
      refine ⟨i, hi, fun n hn hp => hd n ?_ hp⟩
      have : ¬ n = m := fun e => hp (by rw [e]; exact c)
      omega
    · rw [kh_u_s c]
      have wm := hw m (by omega) c
      refine ⟨i + w m * kh_u T th m, ?_, fun n hn hp => ?_⟩
      · have : w m * kh_u T th m + kh_u T th m ≤ kh_u T th m * th := by
          rw [Nat.mul_comm (kh_u T th m) th, ← Nat.succ_mul]
          exact Nat.mul_le_mul_right _ wm
        omega
      · by_cases e : n = m
        · subst e
          show (i + w n * kh_u T th n) / kh_u T th n % th = w n
          rw [Nat.add_mul_div_right _ _ (kh_u_pos T h1 n), Nat.div_eq_of_lt hi, Nat.zero_add, Nat.mod_eq_of_lt wm]
        · rw [← hd n (by omega) hp]
          show (i + w m * kh_u T th m) / kh_u T th n % th = i / kh_u T th n % th
          obtain ⟨q, hq⟩ := kh_u_more T th (n + 1) (m - (n + 1))
          rw [show n + 1 + (m - (n + 1)) = m by omega, kh_u_s hp] at hq
          rw [hq, kj_mul, Nat.add_mul_div_right _ _ (kh_u_pos T h1 n), show w m * (th * q) = (w m * q) * th by rw [Nat.mul_comm th q, Nat.mul_assoc], Nat.add_mul_mod_self_right]
/-- the lines of an area, one after the other -/
theorem kj_lns {T : ks_S} {th a : Nat} (h1 : 1 ≤ th) : ∀ (j n : Nat) (g : Nat → Bool), n + j = 6 → (∀ i i', i < kh_u T th 6 → i' < kh_u T th 6 → (∀ m, m < 6 → ¬ T.2.2.1 m = none → kh_w T th i m = kh_w T th i' m) → g i = g i') → ∀ i, i < kh_u T th 6 → (kh_lns T th a n j g i = true ↔ ∃ i', i' < kh_u T th 6 ∧ (∀ m y, m < 6 → T.2.2.1 m = some y → ¬ (y = a ∧ n ≤ m) → kh_w T th i' m = kh_w T th i m) ∧ g i' = true) := by
  intro j
  induction j with
  | zero =>
    intro n g hn hg i hi
    have hn : n = 6 := by omega
    subst hn
    constructor
    · intro h; exact ⟨i, hi, fun _ _ _ _ _ => rfl, h⟩
    · rintro ⟨i', hi', ha, hgi⟩
      show g i = true
      rw [hg i i' hi hi' (fun m m6 hp => ?_)]
      · exact hgi
      · cases hy : T.2.2.1 m with
        | none => exact absurd hy hp
        | some y => exact (ha m y m6 hy (fun w => by have := w.2; omega)).symm
  | succ j ih =>
    intro n g hn hg i hi
    by_cases c : T.2.2.1 n = some a
    · rw [kh_lns_t c]
      have hp : ¬ T.2.2.1 n = none := by rw [c]; exact fun w => nomatch w
      have any : ∀ i, kh_any (kh_u T th n) th g i = true ↔ ∃ t, t < th ∧ g (kh_base (kh_u T th n) th i + t * kh_u T th n) = true := fun i => by
        unfold kh_any
        rw [ks_any_iff]
        constructor
        · rintro ⟨t, -, t2, t3⟩; exact ⟨t, by omega, t3⟩
        · rintro ⟨t, t1, t2⟩; exact ⟨t, by omega, by omega, t2⟩
      have hg' : ∀ i i', i < kh_u T th 6 → i' < kh_u T th 6 → (∀ m, m < 6 → ¬ T.2.2.1 m = none → kh_w T th i m = kh_w T th i' m) → kh_any (kh_u T th n) th g i = kh_any (kh_u T th n) th g i' := fun i i' hi hi' hd => by
        have same : ∀ t, t < th → g (kh_base (kh_u T th n) th i + t * kh_u T th n) = g (kh_base (kh_u T th n) th i' + t * kh_u T th n) := fun t ht => by
          refine hg _ _ (kj_set_in h1 (by omega) hp hi ht) (kj_set_in h1 (by omega) hp hi' ht) (fun m m6 hm => ?_)
          by_cases e : m = n
          · subst e; rw [kj_set_at h1 ht, kj_set_at h1 ht]
          · rw [kj_set_ne h1 hp hm e ht, kj_set_ne h1 hp hm e ht]; exact hd m m6 hm
        rw [Bool.eq_iff_iff, any, any]
        constructor
        · rintro ⟨t, t1, t2⟩; exact ⟨t, t1, by rw [← same t t1]; exact t2⟩
        · rintro ⟨t, t1, t2⟩; exact ⟨t, t1, by rw [same t t1]; exact t2⟩
      rw [ih (n + 1) _ (by omega) hg' i hi]
      constructor
      · rintro ⟨i', hi', ha, hgi⟩
        obtain ⟨t, t1, t2⟩ := (any i').mp hgi
        refine ⟨_, kj_set_in h1 (by omega) hp hi' t1, fun m y m6 hy hc => ?_, t2⟩
        have e : ¬ m = n := fun e => hc (by
          rw [e, c] at hy
          exact ⟨(Option.some.inj hy).symm, by omega⟩)
        rw [kj_set_ne h1 hp (by rw [hy]; exact fun w => nomatch w) e t1]
        exact ha m y m6 hy (fun w => hc ⟨w.1, by omega⟩)
      · rintro ⟨i'', hi'', ha, hgi⟩
        have d1 : kh_w T th i n < th := Nat.mod_lt _ h1
        have d2 : kh_w T th i'' n < th := Nat.mod_lt _ h1
        refine ⟨_, kj_set_in h1 (by omega) hp hi'' d1, fun m y m6 hy hc => ?_, (any _).mpr ⟨kh_w T th i'' n, d2, ?_⟩⟩
        · by_cases e : m = n
          · subst e; exact kj_set_at h1 d1
          · rw [kj_set_ne h1 hp (by rw [hy]; exact fun w => nomatch w) e d1]
            exact ha m y m6 hy (fun w => hc ⟨w.1, by omega⟩)
        · rw [hg _ i'' (kj_set_in h1 (by omega) hp (kj_set_in h1 (by omega) hp hi'' d1) d2) hi'' (fun m m6 hm => ?_)]
          · exact hgi
          · by_cases e : m = n
            · subst e; exact kj_set_at h1 d2
            · rw [kj_set_ne h1 hp hm e d2, kj_set_ne h1 hp hm e d1]
    · rw [kh_lns_f c, ih (n + 1) g (by omega) hg i hi]
      constructor
      · rintro ⟨i', hi', ha, hgi⟩
        exact ⟨i', hi', fun m y m6 hy hc => ha m y m6 hy (fun w => hc ⟨w.1, by omega⟩), hgi⟩
      · rintro ⟨i', hi', ha, hgi⟩
        refine ⟨i', hi', fun m y m6 hy hc => ha m y m6 hy (fun w => hc ⟨w.1, ?_⟩), hgi⟩
        have : ¬ m = n := fun e => c (by rw [← e, hy, w.1])
        omega
/-- what the reference says -/
theorem kj_ref {T : ks_S} (o : ks_ok T) (hk : kq_hk T) {th B : Nat} (h1 : 1 ≤ th) : ∀ (f a i : Nat), i < kh_u T th 6 → (kh T th B f a i = true ↔ kj_sem T th B f a (kh_w T th i)) := by
  intro f
  induction f with
  | zero => intro a i _; exact ⟨fun h => (by cases h), fun h => h.elim⟩
  | succ f ih =>
    intro a i hi
    obtain ⟨g, eg⟩ : ∃ g : Nat → Bool, g = fun i => (kh_own T.1 a 0 12).all (kh_sp T th B i) && (kh_own T.2.1 a 1 12).all (fun c => !kh T th B f c i) := ⟨_, rfl⟩
    have memS : ∀ s, s ∈ kh_own T.1 a 0 12 ↔ s < 12 ∧ T.1 s = some a := fun s => by
      constructor
      · intro h; have := kh_own_mem _ _ h; exact ⟨by omega, this.2.2⟩
      · rintro ⟨h1, h2⟩
        have key : ∀ (j i : Nat), i ≤ s → s < i + j → s ∈ kh_own T.1 a i j := by
          intro j
          induction j with
          | zero => intro i h3 h4; exact absurd h3 (by omega)
          | succ j ihj =>
            intro i h3 h4
            by_cases c : i = s
            · subst c; rw [kh_own_t h2]; exact List.mem_cons_self
            · have := ihj (i + 1) (by omega) (by omega)
              by_cases c2 : T.1 i = some a
              · rw [kh_own_t c2]; exact List.mem_cons_of_mem _ this
              · rw [kh_own_f c2]; exact this
        exact key 12 0 (by omega) (by omega)
    have memC : ∀ c, c ∈ kh_own T.2.1 a 1 12 ↔ c < 13 ∧ T.2.1 c = some a := fun s => by
      constructor
      · intro h; have := kh_own_mem _ _ h; exact ⟨by omega, this.2.2⟩
      · rintro ⟨h1, h2⟩
        have s0 : ¬ s = 0 := fun e => by rw [e, o.2.2.2] at h2; cases h2
        have key : ∀ (j i : Nat), i ≤ s → s < i + j → s ∈ kh_own T.2.1 a i j := by
          intro j
          induction j with
          | zero => intro i h3 h4; exact absurd h3 (by omega)
          | succ j ihj =>
            intro i h3 h4
            by_cases c : i = s
            · subst c; rw [kh_own_t h2]; exact List.mem_cons_self
            · have := ihj (i + 1) (by omega) (by omega)
              by_cases c2 : T.2.1 i = some a
              · rw [kh_own_t c2]; exact List.mem_cons_of_mem _ this
              · rw [kh_own_f c2]; exact this
        exact key 12 1 (by omega) (by omega)
    have gi : ∀ i, i < kh_u T th 6 → (g i = true ↔ (∀ s, s < 12 → T.1 s = some a → B.testBit (kh_bit T (kh_w T th i) s) = true) ∧ ∀ c, c < 13 → T.2.1 c = some a → ¬ kj_sem T th B f c (kh_w T th i)) := fun i hi => by
      rw [eg]
      show ((kh_own T.1 a 0 12).all (kh_sp T th B i) && (kh_own T.2.1 a 1 12).all (fun c => !kh T th B f c i)) = true ↔ _
      rw [Bool.and_eq_true_iff, List.all_eq_true, List.all_eq_true]
      constructor
      · rintro ⟨x1, x2⟩
        refine ⟨fun s hs ha => x1 s ((memS s).mpr ⟨hs, ha⟩), fun c hc hp hsem => ?_⟩
        have := x2 c ((memC c).mpr ⟨hc, hp⟩)
        rw [(ih c i hi).mpr hsem] at this
        cases this
      · rintro ⟨x1, x2⟩
        refine ⟨fun s hs => x1 s ((memS s).mp hs).1 ((memS s).mp hs).2, fun c hc => ?_⟩
        obtain ⟨y1, y2⟩ := (memC c).mp hc
        cases z : kh T th B f c i with
        | false => rfl
        | true => exact absurd ((ih c i hi).mp z) (x2 c y1 y2)
    have resp : ∀ (u v : Nat → Nat), (∀ m, m < 6 → ¬ T.2.2.1 m = none → u m = v m) → ((∀ s, s < 12 → T.1 s = some a → B.testBit (kh_bit T u s) = true) ∧ ∀ c, c < 13 → T.2.1 c = some a → ¬ kj_sem T th B f c u) → (∀ s, s < 12 → T.1 s = some a → B.testBit (kh_bit T v s) = true) ∧ ∀ c, c < 13 → T.2.1 c = some a → ¬ kj_sem T th B f c v := fun u v h hu => by
      refine ⟨fun s hs hsa => ?_, fun c hc hp hsem => hu.2 c hc hp (kj_scope o hk f c v u (fun n y n6 hy _ _ => (h n n6 (by rw [hy]; exact fun w => nomatch w)).symm) hsem)⟩
      rw [← kj_bit o hk hs hsa (u := u) (fun n y n6 hy _ _ => h n n6 (by rw [hy]; exact fun w => nomatch w))]
      exact hu.1 s hs hsa
    have hg : ∀ i i', i < kh_u T th 6 → i' < kh_u T th 6 → (∀ m, m < 6 → ¬ T.2.2.1 m = none → kh_w T th i m = kh_w T th i' m) → g i = g i' := fun i i' hi hi' hd => by
      rw [Bool.eq_iff_iff, gi i hi, gi i' hi']
      exact ⟨resp _ _ hd, resp _ _ (fun m m6 hm => (hd m m6 hm).symm)⟩
    have e1 : kh T th B (f + 1) a i = kh_lns T th a 0 6 g i := by rw [eg]; rfl
    rw [e1, kj_lns h1 6 0 g rfl hg i hi]
    constructor
    · rintro ⟨i', hi', ha, hgi⟩
      obtain ⟨x1, x2⟩ := (gi i' hi').mp hgi
      exact ⟨kh_w T th i', fun n y n6 hy ya => ha n y n6 hy (fun w => ya w.1), fun n n6 _ => Nat.mod_lt _ h1, x1, x2⟩
    · rintro ⟨w, w1, w2, w3, w4⟩
      have hw : ∀ n, n < 6 → ¬ T.2.2.1 n = none → w n < th := fun n n6 hp => by
        cases hy : T.2.2.1 n with
        | none => exact absurd hy hp
        | some y =>
          by_cases c : y = a
          · exact w2 n n6 (by rw [hy, c])
          · rw [w1 n y n6 hy c]; exact Nat.mod_lt _ h1
      obtain ⟨i', hi', hd⟩ := kj_num h1 w hw 6 (Nat.le_refl _)
      refine ⟨i', hi', fun m y m6 hy hc => ?_, (gi i' hi').mpr (resp w _ (fun m m6 hm => (hd m m6 hm).symm) ⟨w3, w4⟩)⟩
      rw [hd m m6 (by rw [hy]; exact fun z => nomatch z)]
      exact w1 m y m6 hy (fun e => hc ⟨e, by omega⟩)
