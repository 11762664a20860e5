/-! Mathematics: counting; what is put in. -/
theorem km_amt_snoc (f : Nat → Option Nat) : ∀ (j i : Nat), km_amt f i (j + 1) = km_amt f i j + (if f (i + j) = none then 0 else 1) := by
  intro j
  induction j with
  | zero =>
    intro i
    show (if f i = none then 0 else 1) + 0 = 0 + (if f i = none then 0 else 1)
    omega
  | succ j ih =>
    intro i
    have e : km_amt f i (j + 1 + 1) = (if f i = none then 0 else 1) + km_amt f (i + 1) (j + 1) := rfl
    rw [e, ih (i + 1)]
    have e2 : km_amt f i (j + 1) = (if f i = none then 0 else 1) + km_amt f (i + 1) j := rfl
    rw [e2, show i + 1 + j = i + (j + 1) by omega]
    omega
theorem km_amt_congr {f g : Nat → Option Nat} : ∀ (j i i' : Nat), (∀ q, q < j → (f (i + q) = none ↔ g (i' + q) = none)) → km_amt f i j = km_amt g i' j := by
  intro j
  induction j with
  | zero => exact fun _ _ _ => rfl
  | succ j ih =>
    intro i i' h
    have h0 : f i = none ↔ g i' = none := h 0 (by omega)
    show (if f i = none then 0 else 1) + km_amt f (i + 1) j = (if g i' = none then 0 else 1) + km_amt g (i' + 1) j
    rw [ih (i + 1) (i' + 1) (fun q hq => by rw [show i + 1 + q = i + (q + 1) by omega, show i' + 1 + q = i' + (q + 1) by omega]; exact h (q + 1) (by omega))]
    by_cases c : f i = none
    · rw [if_pos c, if_pos (h0.mp c)]
    · rw [if_neg c, if_neg (fun w => c (h0.mpr w))]
theorem kb_8191 : ∀ a : Fin 13, (8191 : Nat).testBit a.val = true := by decide
theorem kp_all {f : Nat → Option Nat} : ∀ n, (∀ i a, i < n → f i = some a → a < 13) → ks_cnt f 8191 n = km_amt f 0 n := by
  intro n
  induction n with
  | zero => exact fun _ => rfl
  | succ n ih =>
    intro h
    rw [km_amt_snoc, Nat.zero_add, ← ih (fun i a hi => h i a (by omega))]
    show ks_cnt f 8191 n + _ = _
    cases hf : f n with
    | none => rw [if_pos rfl]
    | some a => rw [if_neg (fun w => nomatch w)]; show _ + (if (8191 : Nat).testBit a = true then 1 else 0) = _; rw [if_pos (kb_8191 ⟨a, h n a (by omega) hf⟩)]
theorem ks_free_none {f : Nat → Option Nat} : ∀ (j i : Nat), ks_free f i j = none ↔ km_amt f i j = j := by
  intro j
  induction j with
  | zero => intro i; exact ⟨fun _ => rfl, fun _ => rfl⟩
  | succ j ih =>
    intro i
    have e1 : ks_free f i (j + 1) = if f i = none then some i else ks_free f (i + 1) j := rfl
    have e2 : km_amt f i (j + 1) = (if f i = none then 0 else 1) + km_amt f (i + 1) j := rfl
    have le := km_amt_le f j (i + 1)
    rw [e1, e2]
    by_cases c : f i = none
    · rw [if_pos c, if_pos c]
      exact ⟨fun w => (nomatch w), fun w => by omega⟩
    · rw [if_neg c, if_neg c, ih (i + 1)]
      omega
theorem ks_many_amt {S : ks_S} (o : ks_ok S) (k : Nat) : ks_many S k 8191 = km_amt (ks_row S k) (ks_least k) (ks_len k - ks_least k) := by
  have e : ks_many S k 8191 = km_amt (ks_row S k) 0 (ks_len k) := kp_all _ (fun i a hi h => o.1 k i a hi h)
  rw [e]
  by_cases hk : k = 1
  · subst hk
    show (if S.2.1 0 = none then 0 else 1) + km_amt S.2.1 1 12 = km_amt S.2.1 1 12
    rw [if_pos o.2.2.2, Nat.zero_add]
  · have : ks_least k = 0 := if_neg hk
    rw [this, Nat.sub_zero]
theorem ks_free_slot {S : ks_S} (o : ks_ok S) (k : Nat) : decide (0 < ks_freeN S k) = !decide ((ks_slot S k).getD (ks_len k) = ks_len k) := by
  have e : ks_slot S k = none ↔ km_amt (ks_row S k) (ks_least k) (ks_len k - ks_least k) = ks_len k - ks_least k := ks_free_none _ _
  have le := km_amt_le (ks_row S k) (ks_len k - ks_least k) (ks_least k)
  unfold ks_freeN
  rw [ks_many_amt o]
  cases hs : ks_slot S k with
  | none =>
    have := e.mp hs
    rw [decide_eq_false (by omega)]
    show false = !decide (ks_len k = ks_len k)
    rw [decide_eq_true rfl]; rfl
  | some j =>
    have n1 : ¬ km_amt (ks_row S k) (ks_least k) (ks_len k - ks_least k) = ks_len k - ks_least k := fun w => by rw [e.mpr w] at hs; cases hs
    have lt := (ks_slot_some hs).2.1
    rw [decide_eq_true (by omega)]
    show true = !decide (j = ks_len k)
    rw [decide_eq_false (by omega)]; rfl
theorem ks_area_P {S : ks_S} (o : ks_ok S) {a : Nat} (ha : a < 13) : ks_areaI S (nI 1) (nI a) = S.2.1 a := by
  rw [ks_areaI_n (by decide) (by omega)]
  cases h : ks_has S 1 a with
  | true => rfl
  | false =>
    show none = S.2.1 a
    cases hp : S.2.1 a with
    | none => rfl
    | some y => rw [ks_has_iff (S := S) (k := 1) (n := a) |>.mpr ⟨by decide, ha, y, hp⟩] at h; cases h
theorem ks_odd_dp {S : ks_S} (o : ks_ok S) {a : Nat} (ha : a < 13) : ks_odd S (nI a) = decide (km_dp S a % 2 = 1) := by
  unfold ks_odd ks_depth km_dp
  rw [ks_area_P o ha]
/-- what is looked at before something is put in -/
theorem kq_ck2 {d full : Bool} {mv p : Nat} (h : ¬ (d || decide (p % 2 = 1)) = true) : (if (!d) = true ∧ p % 2 = 0 then 2 else if full = true ∨ ((!d) = true ∧ mv = 20) then 3 else 0) = 2 := by
  cases d with
  | true => exact absurd rfl h
  | false =>
    have h : ¬ decide (p % 2 = 1) = true := h
    rw [decide_eq_true_eq] at h
    rw [if_pos ⟨rfl, by omega⟩]
theorem kq_ck3 {d full : Bool} {mv p : Nat} (hm : mv ≤ 20) (h : (d || decide (p % 2 = 1)) = true) (h2 : ¬ ((d || decide (mv < 20)) && !full) = true) : (if (!d) = true ∧ p % 2 = 0 then 2 else if full = true ∨ ((!d) = true ∧ mv = 20) then 3 else 0) = 3 := by
  cases d with
  | true =>
    rw [if_neg (fun w => by cases w.1)]
    cases full with
    | true => rfl
    | false => exact absurd rfl h2
  | false =>
    have h : decide (p % 2 = 1) = true := h
    rw [decide_eq_true_eq] at h
    rw [if_neg (fun w => by have := w.2; omega)]
    cases full with
    | true => rfl
    | false =>
      have h2 : ¬ (decide (mv < 20) && true) = true := h2
      rw [Bool.and_true, decide_eq_true_eq] at h2
      rw [if_pos (Or.inr ⟨rfl, by omega⟩)]
theorem kq_ck0 {d full : Bool} {mv p : Nat} (h : (d || decide (p % 2 = 1)) = true) (h2 : ((d || decide (mv < 20)) && !full) = true) : (if (!d) = true ∧ p % 2 = 0 then 2 else if full = true ∨ ((!d) = true ∧ mv = 20) then 3 else 0) = 0 := by
  cases full with
  | true => rw [Bool.not_true, Bool.and_false] at h2; cases h2
  | false =>
    cases d with
    | true => rfl
    | false =>
      have h : decide (p % 2 = 1) = true := h
      rw [decide_eq_true_eq] at h
      have h2 : (decide (mv < 20) && true) = true := h2
      rw [Bool.and_true, decide_eq_true_eq] at h2
      rw [if_neg (fun w => by have := w.2; omega), if_neg (fun w => w.elim (fun w => by cases w) (fun w => by have := w.2; omega))]
theorem kq_mk {S' T' : ks_S} {f' : Nat → Option Nat} (ez : kz f' = T') (he : kq_e S' T') (ho : kt_ok T') (hk : kq_hk T') (hs : ∀ s, s < 12 → ¬ f' (19 + s) = none → ¬ f' (31 + s) = none) : kq S' f' := by
  subst ez
  exact ⟨he, ⟨ho, hk⟩, hs⟩
theorem kq_hk_sub {T T' : ks_S} (h : kq_hk T) (e1 : T'.1 = T.1) (e2 : T'.2.2.2 = T.2.2.2) (hl : ∀ n b, n < 6 → T.2.2.1 n = some b → T'.2.2.1 n = some b) (hp : ∀ j a b, kt_it T.2.1 j a = some b → ∃ j', kt_it T'.2.1 j' a = some b) : kq_hk T' := by
  unfold kq_hk
  rw [e1, e2]
  refine ⟨fun s a hs ha k hk => ⟨fun hp2 => ?_, (h.1 s a hs ha k hk).2⟩, h.2⟩
  obtain ⟨n, b, h6, h7, h8, j, h9⟩ := (h.1 s a hs ha k hk).1 hp2
  exact ⟨n, b, h6, h7, hl n b h6 h8, hp j a b h9⟩
theorem ks_u_at (f : Nat → Option Nat) (j : Nat) (o : Option Nat) : ks_u f j o j = o := if_pos rfl
theorem ks_u_ne (f : Nat → Option Nat) {i j : Nat} (o : Option Nat) (h : ¬ i = j) : ks_u f j o i = f i := if_neg h
/-- ways stay where a free number is taken -/
theorem kt_it_ext {P : Nat → Option Nat} {j : Nat} (hj : P j = none) (o : Option Nat) : ∀ (n x y : Nat), kt_it P n x = some y → kt_it (ks_u P j o) n x = some y := by
  intro n
  induction n with
  | zero => exact fun _ _ h => h
  | succ n ih =>
    intro x y h
    cases hp : P x with
    | none => rw [kt_it_n hp] at h; cases h
    | some z =>
      rw [kt_it_s hp] at h
      have : ¬ x = j := fun w => by rw [w, hj] at hp; cases hp
      rw [kt_it_s ((ks_u_ne P o this).trans hp)]
      exact ih z y h
theorem kt_tr_add {P : Nat → Option Nat} (t : kt_tr P) {j a : Nat} (hj : P j = none) (j1 : 1 ≤ j) (ha : kt_ar P a) : kt_tr (ks_u P j (some a)) := by
  refine ⟨(ks_u_ne P _ (by omega)).trans t.1, fun x y hx h => ?_, fun x hx h => ?_⟩
  · by_cases e : x = j
    · rw [e, ks_u_at] at h; cases h; exact ha.1
    · rw [ks_u_ne _ _ e] at h; exact t.2.1 x y hx h
  · by_cases e : x = j
    · obtain ⟨m, hm⟩ := kt_ar_way t ha
      exact ⟨m + 1, by rw [e, kt_it_s (ks_u_at P j _)]; exact kt_it_ext hj _ m a 0 hm⟩
    · rw [ks_u_ne _ _ e] at h
      obtain ⟨m, hm⟩ := t.2.2 x hx h
      exact ⟨m, kt_it_ext hj _ m x 0 hm⟩
theorem kt_ar_add {P : Nat → Option Nat} {j x : Nat} (o : Nat) (h : kt_ar P x) : kt_ar (ks_u P j (some o)) x := by
  refine ⟨h.1, h.2.elim Or.inl (fun w => Or.inr (fun e => ?_))⟩
  by_cases c : x = j
  · rw [c, ks_u_at] at e; cases e
  · rw [ks_u_ne _ _ c] at e; exact w e
theorem kq_add_line {S : ks_S} {f : Nat → Option Nat} {j a : Nat} (h : kq S f) (hs : ks_slot S 2 = some j) (ha : kt_ar (kz f).2.1 a) : kq (ks_add S 2 (some a)) (ks_u f (13 + j) (some a)) := by
  obtain ⟨⟨e, e2⟩, ⟨o, hk⟩, h3⟩ := h
  obtain ⟨-, j6, hn⟩ := ks_slot_some hs
  have j6 : j < 6 := j6
  have hn : (kz f).2.2.1 j = none := by rw [← e.2.2]; exact hn
  have ea : ks_add S 2 (some a) = ks_put S 2 (ks_u (ks_row S 2) j (some a)) := by unfold ks_add; rw [hs]
  rw [ea]
  refine kq_mk (kz_ul f j6 (some a)) ⟨⟨e.1, e.2.1, ?_⟩, e2⟩ (kt_ok_line o (fun b hb => by cases hb; exact kt_ar_is o.1 (kt_ok_tr o) ha)) (kq_hk_sub hk rfl rfl (fun n b n6 hb => ?_) (fun j' a' b' w => ⟨j', w⟩)) (fun s hs2 w => ?_)
  · show ks_u S.2.2.1 j (some a) = ks_u (kz f).2.2.1 j (some a)
    rw [e.2.2]
  · show ks_u (kz f).2.2.1 j (some a) n = some b
    rw [ks_u_ne _ _ (fun w => by rw [w, hn] at hb; cases hb)]; exact hb
  · rw [ks_u_ne _ _ (by omega)] at w ⊢
    exact h3 s hs2 w
theorem ks_ok_cut {S : ks_S} (o : ks_ok S) {j a : Nat} (j1 : 1 ≤ j) (ha : a < 13) : ks_ok (S.1, ks_u S.2.1 j (some a), S.2.2) := by
  refine ⟨fun k i n hi h => ?_, o.2.1, o.2.2.1, (ks_u_ne _ _ (by omega)).trans o.2.2.2⟩
  match k, hi, h with
  | 0, hi, h => exact o.1 0 i n hi h
  | 1, hi, h =>
    have h : ks_u S.2.1 j (some a) i = some n := h
    by_cases c : i = j
    · rw [c, ks_u_at] at h; cases h; exact ha
    · rw [ks_u_ne _ _ c] at h; exact o.1 1 i n hi h
  | k + 2, hi, h => exact o.1 2 i n hi h
theorem kq_add_cut {S : ks_S} {f : Nat → Option Nat} {j a : Nat} (h : kq S f) (hs : ks_slot S 1 = some j) (ha : kt_ar (kz f).2.1 a) : kq (ks_add S 1 (some a)) (ks_u f j (some a)) := by
  obtain ⟨⟨e, e2⟩, ⟨o, hk⟩, h3⟩ := h
  obtain ⟨j1, j13, hn⟩ := ks_slot_some hs
  have j1 : 1 ≤ j := j1
  have j13 : j < 13 := j13
  have hn : (kz f).2.1 j = none := by rw [← e.2.1]; exact hn
  have ea : ks_add S 1 (some a) = ks_put S 1 (ks_u (ks_row S 1) j (some a)) := by unfold ks_add; rw [hs]
  rw [ea]
  refine kq_mk (kz_uc f j13 (some a)) ⟨⟨e.1, ?_, e.2.2⟩, e2⟩ (kt_ok_mk (ks_ok_cut o.1 j1 ha.1) (kt_tr_add (kt_ok_tr o) hn j1 ha) (fun i b hi hb => kt_ar_add a (kt_ok_ar o (k := 0) (by decide) hi hb)) (fun i b hi hb => kt_ar_add a (kt_ok_ar o (k := 2) (by decide) hi hb))) (kq_hk_sub hk rfl rfl (fun n b n6 hb => hb) (fun j' a' b' w => ⟨j', kt_it_ext hn _ _ _ _ w⟩)) (fun s hs2 w => ?_)
  · show ks_u S.2.1 j (some a) = ks_u (kz f).2.1 j (some a)
    rw [e.2.1]
  · rw [ks_u_ne _ _ (by omega)] at w ⊢
    exact h3 s hs2 w
theorem km_keep_V (M : km_M) : m_th (km_keep M) = m_th M ∧ m_st (km_keep M) = m_st M ∧ m_rd (km_keep M) = m_rd M ∧ m_tk (km_keep M) = m_tk M := by
  unfold km_keep
  split
  · exact ⟨rfl, rfl, rfl, rfl⟩
  · exact ⟨rfl, rfl, rfl, rfl⟩
theorem km_keep_th (M : km_M) (c : Nat) : m_mv (km_keep (s_th M c)) = m_mv (km_keep M) ∧ m_kp (km_keep (s_th M c)) = m_kp (km_keep M) ∧ m_sh (km_keep (s_th M c)) = m_sh M := by
  refine ⟨?_, ?_, km_keep_sh _⟩
  · unfold km_keep
    show m_mv (if m_st M = true then _ else _) = _
    split <;> rfl
  · unfold km_keep
    show m_kp (if m_st M = true then _ else _) = _
    split <;> rfl
/-- a change of the sheet behind what was kept -/
theorem kq_good2 {cd : Nat → Nat} {C : kc_C} {M : km_M} {S' : ks_S} {o : mm_O} {b : Int32} {M' : km_M} (h : kq_R C M) (hc : kc_mayCh C = true) (oS : ks_ok S') (hq : kq S' (m_sh M')) (ho : o = .inl (some (.int b))) (hM : km_V M' = km_V (km_keep (s_th M 0))) : kq_st cd (o, kc_new C S') b M' := by
  obtain ⟨k1, k2, k3, k4⟩ := km_keep_V (s_th M 0)
  obtain ⟨k5, k6, -⟩ := km_keep_th M 0
  have v1 : m_th M' = m_th (km_keep (s_th M 0)) := congrArg (fun z => z.1) hM
  have v2 : m_st M' = m_st (km_keep (s_th M 0)) := congrArg (fun z => z.2.1) hM
  have v3 : m_mv M' = m_mv (km_keep (s_th M 0)) := congrArg (fun z => z.2.2.1) hM
  have v4 : m_rd M' = m_rd (km_keep (s_th M 0)) := congrArg (fun z => z.2.2.2.1) hM
  have v5 : m_tk M' = m_tk (km_keep (s_th M 0)) := congrArg (fun z => z.2.2.2.2.1) hM
  have v6 : m_kp M' = m_kp (km_keep (s_th M 0)) := congrArg (fun z => z.2.2.2.2.2) hM
  exact kq_good h hc oS hq ho (v1.trans k1) (v2.trans k2) (v3.trans k5) (v6.trans k6) (v4.trans k3) (fun i _ => by rw [v5, k4]; rfl)
theorem kq_put {C : kc_C} {M : km_M} (h : kq_R C M) {k : Nat} (hk : k = 1 ∨ k = 2) (a : Int32) : kq_st (fun k => k + 1) (kc_put C k a) (nI (km_put M k a).1) (km_put M k a).2 := by
  have h' := h
  obtain ⟨⟨ok, -⟩, ⟨h2, h3⟩, ⟨h4, -, -⟩, -⟩ := h'
  have e := h4.1.1
  have o := h4.2.1.1
  have oS : ks_ok (kc_S C) := ok.1 _ (by have := ok.2.1; omega)
  unfold kc_put km_put
  rw [kq_harI e]
  by_cases c1 : ks_harI (km_S M) a = true
  · rw [if_pos (show ks_harI (kz (m_sh M)) a = true from c1), if_pos c1]
    obtain ⟨i, i13, rfl, hi⟩ := km_har o c1
    have cl : (nI i).toNatClampNeg = i := nI_clamp (by omega)
    have ef : decide (0 < ks_freeN (kc_S C) k) = !km_fu M k := by rw [kq_freeN e]; exact ks_free_slot o.1 k
    have eo : kc_mayIn C (nI i) = (C.2.2.2.2.1 || decide (km_dp (km_S M) i % 2 = 1)) := by unfold kc_mayIn ks_odd; rw [kq_depth e]; exact congrArg _ (ks_odd_dp o.1 i13)
    have ec : km_ckA M k (nI i) = if (!C.2.2.2.2.1) = true ∧ km_dp (km_S M) i % 2 = 0 then 2 else if km_fu M k = true ∨ ((!C.2.2.2.2.1) = true ∧ C.2.2.2.2.2 = 20) then 3 else 0 := by unfold km_ckA km_ck; rw [cl, h3, h2]
    have em : kc_mayCh C = (C.2.2.2.2.1 || decide (C.2.2.2.2.2 < 20)) := rfl
    rw [eo, ef]
    by_cases c2 : (C.2.2.2.2.1 || decide (km_dp (km_S M) i % 2 = 1)) = true
    · rw [if_pos c2]
      by_cases c3 : (kc_mayCh C && !km_fu M k) = true
      · have c0 : km_ckA M k (nI i) = 0 := ec.trans (kq_ck0 c2 (by rw [← em]; exact c3))
        rw [if_pos c3, if_pos c0]
        obtain ⟨c4, c5⟩ := Bool.and_eq_true_iff.mp c3
        have c5 : ¬ (ks_slot (km_S M) k).getD (ks_len k) = ks_len k := fun w => by unfold km_fu at c5; rw [decide_eq_true w] at c5; cases c5
        obtain ⟨j, hj⟩ : ∃ j, ks_slot (km_S M) k = some j := by
          cases hj : ks_slot (km_S M) k with
          | none => rw [hj] at c5; exact absurd rfl c5
          | some j => exact ⟨j, rfl⟩
        have hjS : ks_slot (kc_S C) k = some j := by rw [kq_slot e]; exact hj
        have en : km_new M k = j := by unfold km_new; rw [hj]; rfl
        have ek : kc_n (nI i) = some i := by unfold kc_n; rw [cl]
        rw [hjS, ek, en, cl]
        refine kq_good2 h c4 (ks_ok_add oS (by omega) (mm_lt_some i13)) ?_ rfl rfl
        show kq _ (ks_u (m_sh (km_keep (s_th M 0))) (km_off k + j) (some i))
        rw [(km_keep_th M 0).2.2]
        rcases hk with rfl | rfl
        · rw [show km_off 1 + j = j from Nat.zero_add j]
          exact kq_add_cut h4 hjS (kt_is_ar hi)
        · exact kq_add_line h4 hjS (kt_is_ar hi)
      · have c0 : km_ckA M k (nI i) = 3 := ec.trans (kq_ck3 ok.2.1 c2 (by rw [← em]; exact c3))
        rw [if_neg c3, if_neg (by rw [c0]; decide), c0]
        exact kq_bad h rfl
    · have c0 : km_ckA M k (nI i) = 2 := ec.trans (kq_ck2 c2)
      rw [if_neg c2, if_neg (by rw [c0]; decide), c0]
      exact kq_bad h rfl
  · rw [if_neg (show ¬ ks_harI (kz (m_sh M)) a = true from c1), if_neg c1]
    exact kq_bad h rfl
