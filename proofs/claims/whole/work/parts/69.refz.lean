/-! Severing; room; copies: the sheet and the lines that stand for others, in one state. -/
theorem ks_ok_hook {S : ks_S} (o : ks_ok S) {j : Nat} {x : Option Nat} (hx : mm_lt x 6) : ks_ok (S.1, S.2.1, S.2.2.1, S.2.2.2.1, ks_u S.2.2.2.2 j x) := by
  refine ⟨fun k i n hi e => ?_, o.2.1, fun i n hi e => ?_, o.2.2.2⟩
  · match k with
    | 0 => exact o.1 0 i n hi e
    | 1 => exact o.1 1 i n hi e
    | k + 2 => exact o.1 (k + 2) i n hi e
  · rcases ks_u_cases (show ks_u S.2.2.2.2 j x i = some n from e) with ⟨_, h⟩ | ⟨_, h⟩
    · exact hx n h
    · exact o.2.2.1 i n hi h
theorem kt_ok_hook {S : ks_S} (o : kt_ok S) {j : Nat} {x : Option Nat} (hx : mm_lt x 6) : kt_ok (S.1, S.2.1, S.2.2.1, S.2.2.2.1, ks_u S.2.2.2.2 j x) := by
  refine kt_ok_sub o rfl (ks_ok_hook o.1 hx) fun k i a hk hi ha => ?_
  match k, hk with
  | 0, _ => exact o.2.1 0 i a (by decide) hi ha
  | 1, _ => exact o.2.1 1 i a (by decide) hi ha
  | 2, _ => exact o.2.1 2 i a (by decide) hi ha
  | n + 3, h => exact absurd h (by omega)
theorem km_hk_lt {M : km_M} (o : ks_ok (km_S M)) {q : Nat} (hq : q < 24) : mm_lt (m_sh M (43 + q)) 6 := by
  have e := kz_h (m_sh M) hq
  rw [← e]
  exact o.hk hq
theorem kt_ok_sv1 {n v a : Nat} {M : km_M} {s q : Nat} (hq : q < 24) (o : kt_ok (km_S M)) (hv : v < 6) : kt_ok (km_S (km_sv1 n v a M s (43 + q))) := by
  unfold km_sv1
  rw [km_st_S, kz_uh _ hq]
  refine kt_ok_hook (S := km_S M) o ?_
  split
  · exact mm_lt_some hv
  · exact km_hk_lt o.1 hq
/-- how many cuts, lines, spots lie within a cut -/
def km_rmC (S : ks_S) (c : Nat) : Nat → Nat → Nat
  | _, 0 => 0
  | i, j + 1 => (if (ks_has S 1 i && ks_in S (some i) (some c)) = true then 1 else 0) + km_rmC S c (i + 1) j
def km_rmX (S : ks_S) (f : Nat → Option Nat) (c : Nat) : Nat → Nat → Nat
  | _, 0 => 0
  | i, j + 1 => (if ks_in S (f i) (some c) = true then 1 else 0) + km_rmX S f c (i + 1) j
theorem km_rmC_le (S : ks_S) (c : Nat) : ∀ (j i : Nat), km_rmC S c i j ≤ j := by
  intro j
  induction j with
  | zero => exact fun _ => Nat.le_refl _
  | succ j ih =>
    intro i
    have := ih (i + 1)
    show (if _ then 1 else 0) + km_rmC S c (i + 1) j ≤ j + 1
    split <;> omega
theorem km_rmX_le (S : ks_S) (f : Nat → Option Nat) (c : Nat) : ∀ (j i : Nat), km_rmX S f c i j ≤ j := by
  intro j
  induction j with
  | zero => exact fun _ => Nat.le_refl _
  | succ j ih =>
    intro i
    have := ih (i + 1)
    show (if _ then 1 else 0) + km_rmX S f c (i + 1) j ≤ j + 1
    split <;> omega
def km_room (M : km_M) (c : Nat) : Bool := decide (km_amt (m_sh M) 1 12 + km_rmC (km_S M) c 1 12 ≤ 12) && (decide (km_amt (m_sh M) 13 6 + km_rmX (km_S M) (km_S M).2.2.1 c 0 6 ≤ 6) && decide (km_amt (m_sh M) 19 12 + km_rmX (km_S M) (km_S M).1 c 0 12 ≤ 12))
theorem nI_sub2 (a x y : Nat) : nI a - nI x - nI y = nI a - nI (x + y) := by rw [Int32.sub_sub, nI_add]
theorem nI_sub_lt {a x : Nat} (ha : a < 1000) (hx : x < 1000) : nI a - nI x < 0 ↔ a < x := by
  rw [Int32.lt_iff_toInt_lt, pk_sub_toInt (by omega) (by omega)]
  show (a : Int) - x < 0 ↔ _
  omega
/-! copies -/
abbrev kd_T : Type := (Nat → Option Nat) × (Nat → Option Nat)
def kd_M (M : km_M) (T : kd_T) : km_M := s_nl (s_sh M T.1) T.2
theorem kd_M_id (M : km_M) : kd_M M (m_sh M, m_nl M) = M := rfl
def kd_new (T : kd_T) (k : Nat) : Nat := (ks_slot (kz T.1) k).getD (ks_len k)
def kd_nh (T : kd_T) (o : Option Nat) : Option Nat := match o with
  | none => none
  | some x => if T.2 x = none then some x else T.2 x
def kd_put (T : kd_T) (i : Nat) (o : Option Nat) : kd_T := (ks_u T.1 i o, T.2)
def kd_sp1 (T : kd_T) (n s a : Nat) : kd_T := kd_put (kd_put T (19 + n) (some a)) (31 + n) (T.1 (31 + s))
def kd_sp2 (T : kd_T) (n s : Nat) : kd_T := kd_put T (43 + 2 * n) (kd_nh T (T.1 (43 + 2 * s)))
def kd_sp3 (T : kd_T) (n s : Nat) : kd_T := kd_put T (43 + 2 * n + 1) (kd_nh T (T.1 (43 + 2 * s + 1)))
def kd_spot (T : kd_T) (s a : Nat) : Option kd_T := if kd_new T 0 < 12 then some (kd_sp3 (kd_sp2 (kd_sp1 T (kd_new T 0) s a) (kd_new T 0) s) (kd_new T 0) s) else none
def kd_ln (T : kd_T) (i a : Nat) : Option kd_T := if kd_new T 2 < 6 then some (ks_u T.1 (13 + kd_new T 2) (some a), ks_u T.2 i (some (kd_new T 2))) else none
def kd_cpL (kp : Nat → Option Nat) (b c a : Nat) : Nat → Nat → kd_T → Option kd_T
  | _, 0, T => some T
  | i, j + 1, T => if kp (b + 13 + i) = some c then (kd_ln T i a).bind (kd_cpL kp b c a (i + 1) j) else kd_cpL kp b c a (i + 1) j T
def kd_cpS (kp : Nat → Option Nat) (b c a : Nat) : Nat → Nat → kd_T → Option kd_T
  | _, 0, T => some T
  | i, j + 1, T => if kp (b + 19 + i) = some c then (kd_spot T i a).bind (kd_cpS kp b c a (i + 1) j) else kd_cpS kp b c a (i + 1) j T
def kd_cpA (kp : Nat → Option Nat) (b c a : Nat) (T : kd_T) : Option kd_T := (kd_cpL kp b c a 0 6 T).bind (kd_cpS kp b c a 0 12)
def kd_kids (rec : Nat → Nat → kd_T → Option kd_T) (kp : Nat → Option Nat) (b c made : Nat) : Nat → Nat → kd_T → Option kd_T
  | _, 0, T => some T
  | i, j + 1, T => if kp (b + i) = some c then (rec i made T).bind (kd_kids rec kp b c made (i + 1) j) else kd_kids rec kp b c made (i + 1) j T
def kd_cp (kp : Nat → Option Nat) (b : Nat) : Nat → Nat → Nat → kd_T → Option kd_T
  | 0, _, _, T => some T
  | f + 1, c, a, T => if kd_new T 1 < 13 then (kd_cpA kp b c (kd_new T 1) (kd_put T (kd_new T 1) (some a))).bind (kd_kids (kd_cp kp b f) kp b c (kd_new T 1) 1 12) else none
def kd_ok (T : kd_T) : Prop := ks_ok (kz T.1) ∧ ∀ i, i < 6 → mm_lt (T.2 i) 6
theorem kd_nh_lt {T : kd_T} (o : kd_ok T) {x : Option Nat} (hx : mm_lt x 6) : mm_lt (kd_nh T x) 6 := by
  cases x with
  | none => exact mm_lt_none
  | some n =>
    have hn := hx n rfl
    show mm_lt (if T.2 n = none then some n else T.2 n) 6
    split
    · exact hx
    · exact o.2 n hn
theorem kd_ok_put1 {T : kd_T} (o : kd_ok T) {i a : Nat} (h1 : 1 ≤ i) (hi : i < 13) (ha : a < 13) : kd_ok (kd_put T i (some a)) := by
  refine ⟨?_, o.2⟩
  show ks_ok (kz (ks_u T.1 i (some a)))
  rw [kz_uc _ hi]
  refine ks_ok_put (k := 1) o.1 (by decide) (fun q x hq e => ?_) (fun _ => (if_neg (by omega)).trans o.1.2.2.2)
  rcases ks_u_cases e with ⟨_, g⟩ | ⟨_, g⟩
  · cases g; exact ha
  · exact o.1.1 1 q x hq g
theorem kd_ok_sp1 {T : kd_T} (o : kd_ok T) {n s a : Nat} (hn : n < 12) (hs : s < 12) (ha : a < 13) : kd_ok (kd_sp1 T n s a) := by
  refine ⟨?_, o.2⟩
  show ks_ok (kz (ks_u (ks_u T.1 (19 + n) (some a)) (31 + n) (T.1 (31 + s))))
  rw [kz_ug _ hn, kz_us _ hn]
  have h4 : (T.1 (31 + s)).getD 0 < 4 := by
    have := o.1.2.1 s hs
    have e : (kz T.1).2.2.2.1 s = (T.1 (31 + s)).getD 0 := if_pos hs
    rw [e] at this
    exact this
  refine ⟨fun k i m hi e => ?_, fun i hi => ?_, o.1.2.2.1, o.1.2.2.2⟩
  · match k with
    | 0 =>
      rcases ks_u_cases (show ks_u (kz T.1).1 n (some a) i = some m from e) with ⟨_, g⟩ | ⟨_, g⟩
      · cases g; exact ha
      · exact o.1.1 0 i m hi g
    | 1 => exact o.1.1 1 i m hi e
    | k + 2 => exact o.1.1 (k + 2) i m hi e
  · show ks_un (kz T.1).2.2.2.1 n ((T.1 (31 + s)).getD 0) i < 4
    unfold ks_un
    split
    · exact h4
    · exact o.1.2.1 i hi
theorem kd_hk {T : kd_T} (o : kd_ok T) {q : Nat} (hq : q < 24) : mm_lt (T.1 (43 + q)) 6 := by
  rw [← kz_h T.1 hq]
  exact o.1.hk hq
theorem kd_ok_hk {T : kd_T} (o : kd_ok T) {q : Nat} (hq : q < 24) {x : Option Nat} (hx : mm_lt x 6) : kd_ok (kd_put T (43 + q) x) := by
  refine ⟨?_, o.2⟩
  show ks_ok (kz (ks_u T.1 (43 + q) x))
  rw [kz_uh _ hq]
  exact ks_ok_hook o.1 hx
theorem kd_ok_sp2 {T : kd_T} (o : kd_ok T) {n s : Nat} (hn : n < 12) (hs : s < 12) : kd_ok (kd_sp2 T n s) := kd_ok_hk o (by omega) (kd_nh_lt o (kd_hk o (by omega)))
theorem kd_ok_sp3 {T : kd_T} (o : kd_ok T) {n s : Nat} (hn : n < 12) (hs : s < 12) : kd_ok (kd_sp3 T n s) := kd_ok_hk (q := 2 * n + 1) o (by omega) (kd_nh_lt o (kd_hk (q := 2 * s + 1) o (by omega)))
theorem kd_ok_spot {T T' : kd_T} (o : kd_ok T) {s a : Nat} (hs : s < 12) (ha : a < 13) (e : kd_spot T s a = some T') : kd_ok T' := by
  unfold kd_spot at e
  split at e
  · rename_i hn
    cases e
    exact kd_ok_sp3 (kd_ok_sp2 (kd_ok_sp1 o hn hs ha) hn hs) hn hs
  · cases e
theorem kd_ok_ln {T T' : kd_T} (o : kd_ok T) {i a : Nat} (ha : a < 13) (e : kd_ln T i a = some T') : kd_ok T' := by
  unfold kd_ln at e
  split at e
  · rename_i hn
    cases e
    refine ⟨?_, fun q hq => ?_⟩
    · show ks_ok (kz (ks_u T.1 (13 + kd_new T 2) (some a)))
      rw [kz_ul _ hn]
      exact ks_ok_line o.1 (mm_lt_some ha)
    · show mm_lt (ks_u T.2 i (some (kd_new T 2)) q) 6
      unfold ks_u
      split
      · exact mm_lt_some hn
      · exact o.2 q hq
  · cases e
theorem kd_ok_cpL {kp : Nat → Option Nat} {b c a : Nat} (ha : a < 13) : ∀ (j i : Nat) (T T' : kd_T), kd_ok T → kd_cpL kp b c a i j T = some T' → kd_ok T' := by
  intro j
  induction j with
  | zero => intro i T T' o e; cases e; exact o
  | succ j ih =>
    intro i T T' o e
    by_cases h : kp (b + 13 + i) = some c
    · rw [show kd_cpL kp b c a i (j + 1) T = (kd_ln T i a).bind (kd_cpL kp b c a (i + 1) j) from if_pos h] at e
      obtain ⟨T1, e1, e2⟩ := Option.bind_eq_some_iff.mp e
      exact ih _ _ _ (kd_ok_ln o ha e1) e2
    · rw [show kd_cpL kp b c a i (j + 1) T = kd_cpL kp b c a (i + 1) j T from if_neg h] at e
      exact ih _ _ _ o e
theorem kd_ok_cpS {kp : Nat → Option Nat} {b c a : Nat} (ha : a < 13) : ∀ (j i : Nat) (T T' : kd_T), i + j ≤ 12 → kd_ok T → kd_cpS kp b c a i j T = some T' → kd_ok T' := by
  intro j
  induction j with
  | zero => intro i T T' _ o e; cases e; exact o
  | succ j ih =>
    intro i T T' hi o e
    by_cases h : kp (b + 19 + i) = some c
    · rw [show kd_cpS kp b c a i (j + 1) T = (kd_spot T i a).bind (kd_cpS kp b c a (i + 1) j) from if_pos h] at e
      obtain ⟨T1, e1, e2⟩ := Option.bind_eq_some_iff.mp e
      exact ih _ _ _ (by omega) (kd_ok_spot o (by omega) ha e1) e2
    · rw [show kd_cpS kp b c a i (j + 1) T = kd_cpS kp b c a (i + 1) j T from if_neg h] at e
      exact ih _ _ _ (by omega) o e
theorem kd_ok_cpA {kp : Nat → Option Nat} {b c a : Nat} (ha : a < 13) {T T' : kd_T} (o : kd_ok T) (e : kd_cpA kp b c a T = some T') : kd_ok T' := by
  obtain ⟨T1, e1, e2⟩ := Option.bind_eq_some_iff.mp e
  exact kd_ok_cpS ha 12 0 _ _ (by omega) (kd_ok_cpL ha 6 0 _ _ o e1) e2
theorem kd_new1_pos (T : kd_T) : 1 ≤ kd_new T 1 := by
  unfold kd_new
  cases h : ks_slot (kz T.1) 1 with
  | none => show 1 ≤ 13; decide
  | some j => exact (ks_slot_some h).1
theorem kd_kids_ok {rec : Nat → Nat → kd_T → Option kd_T} {kp : Nat → Option Nat} {b c made : Nat} (hr : ∀ i T T', kd_ok T → rec i made T = some T' → kd_ok T') : ∀ (j i : Nat) (T T' : kd_T), kd_ok T → kd_kids rec kp b c made i j T = some T' → kd_ok T' := by
  intro j
  induction j with
  | zero => intro i T T' o e; cases e; exact o
  | succ j ih =>
    intro i T T' o e
    by_cases h : kp (b + i) = some c
    · rw [show kd_kids rec kp b c made i (j + 1) T = (rec i made T).bind (kd_kids rec kp b c made (i + 1) j) from if_pos h] at e
      obtain ⟨T1, e1, e2⟩ := Option.bind_eq_some_iff.mp e
      exact ih _ _ _ (hr _ _ _ o e1) e2
    · rw [show kd_kids rec kp b c made i (j + 1) T = kd_kids rec kp b c made (i + 1) j T from if_neg h] at e
      exact ih _ _ _ o e
theorem kd_ok_cp {kp : Nat → Option Nat} {b : Nat} : ∀ (f c a : Nat) (T T' : kd_T), a < 13 → kd_ok T → kd_cp kp b f c a T = some T' → kd_ok T' := by
  intro f
  induction f with
  | zero => intro c a T T' _ o e; cases e; exact o
  | succ f ih =>
    intro c a T T' ha o e
    by_cases h : kd_new T 1 < 13
    · rw [show kd_cp kp b (f + 1) c a T = (kd_cpA kp b c (kd_new T 1) (kd_put T (kd_new T 1) (some a))).bind (kd_kids (kd_cp kp b f) kp b c (kd_new T 1) 1 12) from if_pos h] at e
      obtain ⟨T1, e1, e2⟩ := Option.bind_eq_some_iff.mp e
      exact kd_kids_ok (fun i T T' o e => ih i _ T T' h o e) 12 1 _ _ (kd_ok_cpA h (kd_ok_put1 o (kd_new1_pos T) h ha) e1) e2
    · rw [show kd_cp kp b (f + 1) c a T = none from if_neg h] at e
      cases e
