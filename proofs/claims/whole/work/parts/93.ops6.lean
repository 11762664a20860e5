/-! Mathematics: wrap. -/
/-- a spot comes into another area, from which all is reached that was reached before -/
theorem kq_mv_spot {S : ks_S} {f : Nat → Option Nat} {n a z : Nat} (h : kq S f) (hn : n < 12) (ha : (kz f).1 n = some a) (hz : kt_ar (kz f).2.1 z) (hw : ∃ m, kt_it (kz f).2.1 m z = some a) : kq (ks_put S 0 (ks_u S.1 n (some z))) (ks_u f (19 + n) (some z)) := by
  obtain ⟨⟨e, e2⟩, ⟨o, hk⟩, h3⟩ := h
  have pres : ∀ s, ¬ ks_u (kz f).1 n (some z) s = none → ¬ (kz f).1 s = none := fun s w => by
    by_cases c : s = n
    · rw [c, ha]; exact fun w => nomatch w
    · rw [ks_u_ne _ _ c] at w; exact w
  refine kq_mk (kz_us f hn (some z)) ⟨⟨?_, e.2.1, e.2.2⟩, fun s hs w => e2 s hs (pres s w)⟩ (kt_ok_sub o rfl ⟨fun k i x hi hx => ?_, o.1.2.1, o.1.2.2.1, o.1.2.2.2⟩ (fun k i x hk2 hi hx => ?_)) ⟨fun s x hs hx k hk2 => ?_, fun s k hs hk2 hx => ?_⟩ (fun s hs w => ?_)
  · show ks_u S.1 n (some z) = ks_u (kz f).1 n (some z)
    rw [e.1]
  · match k, hi, hx with
    | 0, hi, hx =>
      have hx : ks_u (kz f).1 n (some z) i = some x := hx
      by_cases c : i = n
      · rw [c, ks_u_at] at hx; cases hx; exact hz.1
      · rw [ks_u_ne _ _ c] at hx; exact o.1.1 0 i x hi hx
    | 1, hi, hx => exact o.1.1 1 i x hi hx
    | k + 2, hi, hx => exact o.1.1 2 i x hi hx
  · match k, hk2, hi, hx with
    | 0, _, hi, hx =>
      have hx : ks_u (kz f).1 n (some z) i = some x := hx
      by_cases c : i = n
      · rw [c, ks_u_at] at hx; cases hx; exact kt_ar_is o.1 (kt_ok_tr o) hz
      · rw [ks_u_ne _ _ c] at hx; exact o.2.1 0 i x (by decide) hi hx
    | 1, _, hi, hx => exact o.2.1 1 i x (by decide) hi hx
    | 2, _, hi, hx => exact o.2.1 2 i x (by decide) hi hx
    | q + 3, hk2, _, _ => exact absurd hk2 (by omega)
  · have hx : ks_u (kz f).1 n (some z) s = some x := hx
    by_cases c : s = n
    · subst c
      rw [ks_u_at] at hx
      cases hx
      obtain ⟨r1, r2⟩ := hk.1 s a hs ha k hk2
      refine ⟨fun hp => ?_, r2⟩
      obtain ⟨n', b, n6, h7, h8, j, h9⟩ := r1 hp
      obtain ⟨m, hm⟩ := hw
      exact ⟨n', b, n6, h7, h8, m + j, kt_it_cat hm h9⟩
    · rw [ks_u_ne _ _ c] at hx
      exact hk.1 s x hs hx k hk2
  · have hx : ks_u (kz f).1 n (some z) s = none := hx
    by_cases c : s = n
    · rw [c, ks_u_at] at hx; cases hx
    · rw [ks_u_ne _ _ c] at hx; exact hk.2 s k hs hk2 hx
  · rw [ks_u_ne _ _ (by omega)]
    by_cases c : s = n
    · subst c
      exact h3 s hs (by rw [← kz_s f hs, ha]; exact fun w => nomatch w)
    · rw [ks_u_ne _ _ (by omega)] at w
      exact h3 s hs w
/-- ways, where a cut lies deeper than before -/
theorem kt_it_deep {P : Nat → Option Nat} {n a z : Nat} (ha : P n = some a) (hw : ∃ q, kt_it (ks_u P n (some z)) q z = some a) : ∀ (m x y : Nat), kt_it P m x = some y → ∃ m', kt_it (ks_u P n (some z)) m' x = some y := by
  intro m
  induction m with
  | zero => exact fun x y h => ⟨0, h⟩
  | succ m ih =>
    intro x y h
    cases hp : P x with
    | none => rw [kt_it_n hp] at h; cases h
    | some w =>
      rw [kt_it_s hp] at h
      obtain ⟨m', hm'⟩ := ih w y h
      by_cases c : x = n
      · subst c
        rw [ha] at hp
        cases hp
        obtain ⟨q, hq⟩ := hw
        exact ⟨(q + m') + 1, by rw [kt_it_s (ks_u_at P x _)]; exact kt_it_cat hq hm'⟩
      · exact ⟨m' + 1, by rw [kt_it_s ((ks_u_ne P _ c).trans hp)]; exact hm'⟩
theorem kq_mv_cut {S : ks_S} {f : Nat → Option Nat} {n a z : Nat} (h : kq S f) (hn : n < 13) (ha : (kz f).2.1 n = some a) (hz : kt_ar (kz f).2.1 z) (hw : ∃ q, kt_it (ks_u (kz f).2.1 n (some z)) q z = some a) : kq (ks_put S 1 (ks_u S.2.1 n (some z))) (ks_u f n (some z)) := by
  obtain ⟨⟨e, e2⟩, ⟨o, hk⟩, h3⟩ := h
  have t := kt_ok_tr o
  have n0 : ¬ n = 0 := fun w => by rw [w, t.1] at ha; cases ha
  have way := kt_it_deep (P := (kz f).2.1) ha hw
  have ar : ∀ x, kt_ar (kz f).2.1 x → kt_ar (ks_u (kz f).2.1 n (some z)) x := fun x hx => kt_ar_add z hx
  have tr : kt_tr (ks_u (kz f).2.1 n (some z)) := by
    refine ⟨(ks_u_ne _ _ (fun w => n0 w.symm)).trans t.1, fun x y hx hy => ?_, fun x hx hy => ?_⟩
    · by_cases c : x = n
      · rw [c, ks_u_at] at hy; cases hy; exact hz.1
      · rw [ks_u_ne _ _ c] at hy; exact t.2.1 x y hx hy
    · have : ¬ (kz f).2.1 x = none := fun w => by
        by_cases c : x = n
        · rw [c, ha] at w; cases w
        · rw [ks_u_ne _ _ c] at hy; exact hy w
      obtain ⟨m, hm⟩ := t.2.2 x hx this
      exact way m x 0 hm
  have okT : ks_ok ((kz f).1, ks_u (kz f).2.1 n (some z), (kz f).2.2) := ks_ok_cut o.1 (by omega) hz.1
  refine kq_mk (kz_uc f hn (some z)) ⟨⟨e.1, ?_, e.2.2⟩, e2⟩ (kt_ok_mk okT tr (fun i x hi hx => ar x (kt_ok_ar o (k := 0) (by decide) hi hx)) (fun i x hi hx => ar x (kt_ok_ar o (k := 2) (by decide) hi hx))) (kq_hk_sub hk rfl rfl (fun n b _ hb => hb) (fun j x b w => way j x b w)) (fun s hs w => ?_)
  · show ks_u S.2.1 n (some z) = ks_u (kz f).2.1 n (some z)
    rw [e.2.1]
  · rw [ks_u_ne _ _ (by omega)] at w ⊢
    exact h3 s hs w
theorem ks_putI_t {S : ks_S} {k n x : Nat} (hk : k < 3) (hn : n < ks_len k) (hx : ks_row S k n = some x) (z : Option Nat) : ks_putI S (nI k) (nI n) z = ks_put S k (ks_u (ks_row S k) n z) := by
  have hl := ks_len_le k
  unfold ks_putI
  rw [ks_hasI_n (by omega) (by omega), if_pos (ks_has_iff.mpr ⟨hk, hn, x, hx⟩), nI_clamp (by omega), nI_clamp (by omega)]
/-- a free number is left while fewer than all are taken -/
theorem ks_slot_ex {S : ks_S} (o : ks_ok S) {k : Nat} (h : ks_many S k 8191 < ks_len k - ks_least k) : ∃ j, ks_slot S k = some j := by
  cases hs : ks_slot S k with
  | some j => exact ⟨j, rfl⟩
  | none =>
    have := (ks_free_none _ _).mp hs
    rw [ks_many_amt o] at h
    omega
theorem km_amt_u2 {f : Nat → Option Nat} {q a : Nat} : ∀ (j i : Nat), km_amt (ks_u f q (some a)) i j ≤ km_amt f i j + 1 := by
  intro j
  have key : ∀ (j i : Nat), (q < i ∨ i + j ≤ q) → km_amt (ks_u f q (some a)) i j = km_amt f i j := fun j i hq => km_amt_congr j i i (fun p hp => by rw [ks_u_ne _ _ (by omega)])
  induction j with
  | zero => exact fun _ => Nat.le_succ _
  | succ j ih =>
    intro i
    show (if ks_u f q (some a) i = none then 0 else 1) + km_amt (ks_u f q (some a)) (i + 1) j ≤ (if f i = none then 0 else 1) + km_amt f (i + 1) j + 1
    by_cases c : i = q
    · rw [key j (i + 1) (by omega), c, ks_u_at, if_neg (fun w => nomatch w)]
      split <;> omega
    · rw [ks_u_ne _ _ c]
      have := ih (i + 1)
      omega
theorem km_V_st (M : km_M) (i : Nat) (o : Option Nat) : km_V (km_st M i o) = km_V M := rfl
theorem kq_wrap {C : kc_C} {M : km_M} (h : kq_R C M) (k n : Int32) : kq_st (fun k => k + 1) (kc_wrap C k n) (nI (km_wrap M k n).1) (km_wrap M k n).2 := by
  have h4 := h.2.2.1.1
  have e := h4.1.1
  have o := h4.2.1.1
  have oS : ks_ok (kc_S C) := h.1.1.1 _ (by have := h.1.1.2.1; omega)
  unfold kc_wrap km_wrap
  rw [kq_harI e, kq_partI e]
  by_cases c1 : (if k = nI 2 then ks_harI (km_S M) n else ks_partI (km_S M) k n) = true
  · rw [if_pos (show (if k = nI 2 then ks_harI (kz (m_sh M)) n else ks_partI (kz (m_sh M)) k n) = true from c1), if_pos c1]
    cases hd : C.2.2.2.2.1 with
    | true =>
      have st : m_st M = false := by rw [h.2.1.2, hd]; rfl
      have eT : km_wrT M = 2 := if_pos st
      rw [if_neg (show ¬ (!true) = true by decide), eT, if_neg (show ¬ (2 : Nat) = 0 by decide)]
      exact kq_bad h rfl
    | false =>
      have st : m_st M = true := by rw [h.2.1.2, hd]; rfl
      obtain ⟨am, -, -⟩ := km_amt_many o.1
      have le := km_amt_le (m_sh M) 12 1
      have eT : km_wrT M = if 10 < km_amt (m_sh M) 1 12 then 3 else km_late M := if_neg (by rw [st]; decide)
      have ef : decide (2 ≤ ks_freeN (kc_S C) 1) = decide (¬ 10 < km_amt (m_sh M) 1 12) := by
        rw [kq_freeN e]
        have : ks_freeN (kz (m_sh M)) 1 = 12 - km_amt (m_sh M) 1 12 := by rw [am]; rfl
        rw [this]
        by_cases c : 10 < km_amt (m_sh M) 1 12
        · rw [decide_eq_false (by omega), decide_eq_false (fun w => w c)]
        · rw [decide_eq_true (by omega), decide_eq_true c]
      rw [if_pos (show (!false) = true from rfl), ef, kc_may_st h hd]
      by_cases c2 : 10 < km_amt (m_sh M) 1 12
      · rw [eT, if_pos c2, decide_eq_false (show ¬ ¬ 10 < km_amt (m_sh M) 1 12 from fun w => w c2), Bool.and_false, if_neg (show ¬ false = true by decide), if_neg (show ¬ (3 : Nat) = 0 by decide)]
        exact kq_bad h rfl
      · rw [eT, if_neg c2, decide_eq_true c2, Bool.and_true]
        by_cases c3 : km_late M = 0
        · rw [if_pos c3, decide_eq_true c3, if_pos rfl]
          have hm : kc_mayCh C = true := by rw [kc_may_st h hd]; exact decide_eq_true c3
          have kp := (km_keep_th M 0).2.2
          obtain ⟨K, eK⟩ : ∃ K, K = km_keep (s_th M 0) := ⟨_, rfl⟩
          rw [← eK] at kp
          rw [← eK]
          have KS : km_S K = km_S M := congrArg kz kp
          -- the area
          obtain ⟨a, har, eA, eB⟩ : ∃ a, kt_ar (km_S M).2.1 a ∧ (if k = nI 2 then kc_n n else ks_areaI (kc_S C) k n) = some a ∧ km_wrA M k n = a := by
            by_cases c : k = nI 2
            · rw [if_pos c] at c1
              obtain ⟨i, i13, rfl, hi⟩ := km_har o c1
              refine ⟨i, kt_is_ar hi, ?_, ?_⟩
              · rw [if_pos c]; unfold kc_n; rw [nI_clamp (by omega)]
              · unfold km_wrA; rw [if_pos c, nI_clamp (by omega)]
            · rw [if_neg c] at c1
              obtain ⟨-, c5⟩ := Bool.and_eq_true_iff.mp c1
              obtain ⟨k', n', x, rfl, rfl, hk, hn, hx⟩ := ks_hasI_true c5
              have hl := ks_len_le k'
              refine ⟨x, kt_ok_ar o hk hn hx, ?_, ?_⟩
              · rw [if_neg c, kq_areaI e]; exact ks_areaI_t hk hn hx
              · unfold km_wrA; rw [if_neg c, nI_clamp (by omega), nI_clamp (by omega), hx]; rfl
          obtain ⟨j1, hj1⟩ := ks_slot_ex (S := km_S M) o.1 (k := 1) (by
            have : ks_many (km_S M) 1 8191 = km_amt (m_sh M) 1 12 := am.symm
            rw [this]; show _ < 12; omega)
          have hj1S : ks_slot (kc_S C) 1 = some j1 := by rw [kq_slot e]; exact hj1
          have s1 := kq_add_cut h4 hj1S har
          obtain ⟨S1, eS1⟩ : ∃ X, X = ks_add (kc_S C) 1 (some a) := ⟨_, rfl⟩
          obtain ⟨f1, ef1⟩ : ∃ X, X = ks_u (m_sh M) j1 (some a) := ⟨_, rfl⟩
          rw [← eS1, ← ef1] at s1
          obtain ⟨a1, b1, d1⟩ := ks_slot_some hj1
          have a1 : 1 ≤ j1 := a1
          have b1 : j1 < 13 := b1
          have P1 : (kz f1).2.1 = ks_u (km_S M).2.1 j1 (some a) := by rw [ef1]; exact congrArg (fun z => z.2.1) (kz_uc (m_sh M) b1 (some a))
          have arj1 : kt_ar (kz f1).2.1 j1 := ⟨b1, Or.inr (by rw [P1, ks_u_at]; exact fun w => nomatch w)⟩
          obtain ⟨j2, hj2⟩ := ks_slot_ex (S := kz f1) s1.2.1.1.1 (k := 1) (by
            obtain ⟨am1, -, -⟩ := km_amt_many s1.2.1.1.1
            rw [← am1, ef1]
            have := km_amt_u2 (f := m_sh M) (q := j1) (a := a) 12 1
            show _ < 12
            omega)
          have hj2S : ks_slot S1 1 = some j2 := by rw [kq_slot s1.1.1]; exact hj2
          have s2 := kq_add_cut s1 hj2S arj1
          obtain ⟨a2, b2, d2⟩ := ks_slot_some hj2
          have a2 : 1 ≤ j2 := a2
          have b2 : j2 < 13 := b2
          have d2 : (kz f1).2.1 j2 = none := d2
          have n12 : ¬ j2 = j1 := fun w => by rw [w, P1, ks_u_at] at d2; cases d2
          obtain ⟨S2, eS2⟩ : ∃ X, X = ks_add S1 1 (some j1) := ⟨_, rfl⟩
          obtain ⟨f2, ef2⟩ : ∃ X, X = ks_u f1 j2 (some j1) := ⟨_, rfl⟩
          rw [← eS2, ← ef2] at s2
          have P2 : (kz f2).2.1 = ks_u (kz f1).2.1 j2 (some j1) := by rw [ef2]; exact congrArg (fun z => z.2.1) (kz_uc f1 b2 (some j1))
          have arj2 : kt_ar (kz f2).2.1 j2 := ⟨b2, Or.inr (by rw [P2, ks_u_at]; exact fun w => nomatch w)⟩
          have Pj2 : (kz f2).2.1 j2 = some j1 := by rw [P2, ks_u_at]
          have Pj1 : (kz f2).2.1 j1 = some a := by rw [P2, ks_u_ne _ _ (fun w => n12 w.symm), P1, ks_u_at]
          -- names of the reference
          have w1 : km_new M 1 = j1 := by unfold km_new; rw [hj1]; rfl
          have w2 : km_new K 1 = j1 := by unfold km_new; rw [KS, hj1]; rfl
          have w3 : m_sh (km_wrM2 K a) = f1 := by
            show ks_u (m_sh K) (km_new K 1) (some a) = _
            rw [w2, kp, ef1]
          have w4 : km_new (km_wrM2 K a) 1 = j2 := by
            unfold km_new
            rw [show km_S (km_wrM2 K a) = kz f1 from congrArg kz w3, hj2]; rfl
          have w5 : m_sh (km_wrM3 K a) = f2 := by
            show ks_u (m_sh (km_wrM2 K a)) (km_new (km_wrM2 K a) 1) (some (km_new K 1)) = _
            rw [w3, w4, w2, ef2]
          have oS1 : ks_ok S1 := by rw [eS1]; exact ks_ok_add oS (by decide) (mm_lt_some har.1)
          have oS2 : ks_ok S2 := by rw [eS2]; exact ks_ok_add oS1 (by decide) (mm_lt_some b1)
          have v3 : km_V (km_wrM3 K a) = km_V K := by unfold km_wrM3 km_wrM2; rw [km_V_st, km_V_st]
          have eW : kc_wrapS (kc_S C) k n = S2 := by unfold kc_wrapS; rw [eA, ← eS1, hj1S, ← eS2]
          rw [eB, w1, hj1S, eW]
          by_cases c5 : k = nI 2
          · have eM : km_wrM K k n a = km_wrM3 K a := if_pos c5
            rw [if_pos c5, eM]
            refine kq_good2 h hm oS2 (by rw [w5]; exact s2) rfl ?_
            rw [v3, eK]
          · rw [if_neg c5] at c1 eA
            obtain ⟨-, c6⟩ := Bool.and_eq_true_iff.mp c1
            obtain ⟨k', n', x, rfl, rfl, hk, hn, hx⟩ := ks_hasI_true c6
            have hl := ks_len_le k'
            have cn : (nI n').toNatClampNeg = n' := nI_clamp (by omega)
            have hk2 : k' < 2 := by
              have : ¬ k' = 2 := fun w => c5 (by rw [w])
              omega
            have ex : x = a := by
              rw [kq_areaI e] at eA
              have eA : ks_areaI (kz (m_sh M)) (nI k') (nI n') = some a := eA
              rw [ks_areaI_t (S := kz (m_sh M)) hk hn hx] at eA
              exact Option.some.inj eA
            subst ex
            have eM : km_wrM K (nI k') (nI n') x = km_st (km_wrM3 K x) (if nI k' = nI 0 then 19 + n' else n') (some j2) := by
              unfold km_wrM
              rw [if_neg c5, w4, cn]
            have eSl : ks_slot (ks_add (kc_S C) 1 (ks_areaI (kc_S C) (nI k') (nI n'))) 1 = some j2 := by rw [eA, ← eS1, hj2S]
            rw [if_neg c5, eM, eSl]
            have rowS2 : ks_row S2 k' n' = some x := by
              rw [kq_row s2.1.1]
              match k', hk2, hn, hx with
              | 0, _, hn, hx =>
                have r : (kz f2).1 = (km_S M).1 := by
                  rw [ef2, ef1]
                  rw [kz_uc _ b2, kz_uc _ b1]
                  rfl
                show (kz f2).1 n' = some x
                rw [r]; exact hx
              | 1, _, hn, hx =>
                have hx : (km_S M).2.1 n' = some x := hx
                have m1 : ¬ n' = j1 := fun w => by rw [w] at hx; have d1 : (km_S M).2.1 j1 = none := d1; rw [d1] at hx; cases hx
                have m2 : ¬ n' = j2 := fun w => by
                  rw [P1, ks_u_ne _ _ n12] at d2
                  rw [w, d2] at hx; cases hx
                show (kz f2).2.1 n' = some x
                rw [P2, ks_u_ne _ _ m2, P1, ks_u_ne _ _ m1]; exact hx
              | q + 2, hk2, _, _ => exact absurd hk2 (by omega)
            rw [ks_putI_t hk hn rowS2]
            have okN : ks_ok (ks_put S2 k' (ks_u (ks_row S2 k') n' (some j2))) := by
              have := ks_ok_putI oS2 (nI k') (nI n') (mm_lt_some (n := 13) b2)
              rw [ks_putI_t hk hn rowS2] at this
              exact this
            refine kq_good2 h hm okN ?_ rfl (by rw [km_V_st, v3, eK])
            show kq _ (ks_u (m_sh (km_wrM3 K x)) _ (some j2))
            rw [w5]
            match k', hk2, hn, rowS2 with
            | 0, _, hn, rowS2 =>
              rw [if_pos rfl]
              refine kq_mv_spot (a := x) s2 hn (by rw [← s2.1.1.1]; exact rowS2) arj2 ⟨2, ?_⟩
              rw [kt_it_s Pj2, kt_it_s Pj1]
              rfl
            | 1, _, hn, rowS2 =>
              rw [if_neg (by decide)]
              have hn : n' < 13 := hn
              have hPn : (kz f2).2.1 n' = some x := by rw [← s2.1.1.2.1]; exact rowS2
              have hx : (km_S M).2.1 n' = some x := by
                rw [kq_areaI e] at eA
                have eA : ks_areaI (kz (m_sh M)) (nI 1) (nI n') = some x := eA
                rw [ks_area_P o.1 hn] at eA
                exact eA
              have m1 : ¬ j1 = n' := fun w => by have d1 : (km_S M).2.1 j1 = none := d1; rw [w, hx] at d1; cases d1
              have m2 : ¬ j2 = n' := fun w => by
                rw [P1, ks_u_ne _ _ n12, w] at d2
                rw [d2] at hx; cases hx
              refine kq_mv_cut (a := x) s2 hn hPn arj2 ⟨2, ?_⟩
              rw [kt_it_s ((ks_u_ne _ _ m2).trans Pj2), kt_it_s ((ks_u_ne _ _ m1).trans Pj1)]
              rfl
            | q + 2, hk2, _, _ => exact absurd hk2 (by omega)
        · rw [if_neg c3, decide_eq_false c3, if_neg (show ¬ false = true by decide), km_late_03 M c3]
          exact kq_bad h rfl
  · rw [if_neg (show ¬ (if k = nI 2 then ks_harI (kz (m_sh M)) n else ks_partI (kz (m_sh M)) k n) = true from c1), if_neg c1]
    exact kq_bad h rfl
