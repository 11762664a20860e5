/-! Mathematics: holds, refutes. -/
theorem kq_first {C : kc_C} {M : km_M} (h : kq_R C M) : kq (C.1 0) (km_first M) := by
  obtain ⟨-, ⟨h2, -⟩, ⟨h4, h5, -⟩, -⟩ := h
  unfold km_first
  by_cases c : m_mv M = 0
  · rw [if_pos c]
    have : kc_S C = C.1 0 := by unfold kc_S; rw [← h2, c]
    rw [← this]; exact h4
  · rw [if_neg c]
    have := h5 0 (by omega)
    refine kq_congr (fun q hq => ?_) this
    rw [Nat.mul_zero, Nat.zero_add]
theorem kq_R_N {C : kc_C} {M : km_M} (h : kq_R C M) (c : Nat) (H : Nat → Bool) (un os oc : Nat → Nat) (fs : Nat → Option Nat) : kq_R C (kh_N (s_th M c) (m_sh M) H un os oc fs) := kq_R_th h rfl rfl rfl rfl rfl (fun _ _ => rfl)
theorem kq_R_looks {C : kc_C} {M : km_M} (h : kq_R C M) {K1 K2 : kl_K} (p1 : kl_pre K1) (p2 : kl_pre K2) : kq_R (kc_bothC C K1 K2) M := by
  obtain ⟨⟨ok, t, -, -⟩, h2, h3, h4⟩ := h
  exact ⟨⟨ok, t, p1, p2⟩, h2, h3, h4⟩
theorem kq_holds {C : kc_C} {M M' : km_M} {v : Option Value} (h : kq_R C M) (fi : Bool) (n b : Int32) (hv : v = some (.int (mm_bI (kh_hd M fi n b)))) (hM : ∃ H un os oc fs, M' = kh_N (s_th M (kh_hdT M fi n b)) (m_sh M) H un os oc fs) : kq_st (fun k => k + 1) (kc_holds C fi n b) (mm_bI (kh_hd M fi n b)) M' := by
  obtain ⟨H, un, os, oc, fs, rfl⟩ := hM
  have h4 := h.2.2.1.1
  have rN := fun c => kq_R_N h c H un os oc fs
  unfold kc_holds
  by_cases c1 : (decide (nI 1 ≤ n) && (decide (n ≤ nI 3) && (decide (0 ≤ b) && decide (b < nI 16384)))) = true
  · rw [if_pos c1]
    obtain ⟨d1, d2⟩ := Bool.and_eq_true_iff.mp c1
    obtain ⟨d2, d3⟩ := Bool.and_eq_true_iff.mp d2
    obtain ⟨d3, d4⟩ := Bool.and_eq_true_iff.mp d3
    obtain ⟨T, rfl, hT0, hT3⟩ := kh_say_lt (of_decide_eq_true d1) (of_decide_eq_true d2)
    obtain ⟨B, hB, rfl, cB⟩ := ks_nn (of_decide_eq_true d3)
    have cT : (nI T).toNatClampNeg = T := nI_clamp (by omega)
    have eT : kh_hdT M fi (nI T) (nI B) = if fi = true ∧ m_st M = false then 2 else 0 := if_pos c1
    unfold kc_holdsN
    by_cases c2 : (!fi || !C.2.2.2.2.1) = true
    · rw [if_pos c2]
      have c3 : ¬ (fi = true ∧ m_st M = false) := fun w => by
        rw [w.1] at c2
        have := w.2
        rw [h.2.1.2] at this
        rw [this] at c2; cases c2
      rw [if_neg c3] at eT
      have rN := rN (kh_hdT M fi (nI T) (nI B))
      have eh : kh_hd M fi (nI T) (nI B) = kh_say (if fi = true then km_first M else m_sh M) T B := by unfold kh_hd; rw [if_pos eT, cT, cB]
      have hq : kq (if fi = true then C.1 0 else kc_S C) (if fi = true then km_first M else m_sh M) := by
        cases fi with
        | true => rw [if_pos rfl, if_pos rfl]; exact kq_first h
        | false => rw [if_neg (by decide), if_neg (by decide)]; exact h4
      have pre := h.1.2.2
      have oS0 : ks_ok (if fi = true then C.1 0 else kc_S C) := by
        cases fi with
        | true => rw [if_pos rfl]; exact h.1.1.1 0 (by decide)
        | false => rw [if_neg (by decide)]; exact h.1.1.1 _ (by have := h.1.1.2.1; omega)
      obtain ⟨K, eK⟩ : ∃ K, K = kl_arr (if fi = true then C.1 0 else kc_S C) C.2.2.1.2 := ⟨_, rfl⟩
      rw [← eK, cT, cB]
      have oK : kl_okK K := by rw [eK]; exact kl_okK_arr oS0 pre.2
      have tK : kl_okt K.2.2.2.2.1 := by rw [eK]; exact pre.2.2
      have say := kj_say hq (K := K) (by rw [eK]; exact kj_arr hq _) (th := T) (B := B) hT0
      obtain ⟨o1, o2⟩ := kl_say_ok oK tK (n := T) (m := B) hT0 hT3 hB
      refine ⟨eT.symm, fun y w => ?_, kq_R_looks rN pre.1 (kl_pre_of o1 o2)⟩
      cases w
      rw [say, eh]
    · rw [if_neg c2]
      have c3 : fi = true ∧ m_st M = false := by
        cases fi with
        | false => exact absurd rfl c2
        | true =>
          refine ⟨rfl, ?_⟩
          rw [h.2.1.2]
          cases hd : C.2.2.2.2.1 with
          | true => rfl
          | false => rw [hd] at c2; exact absurd rfl c2
      rw [if_pos c3] at eT
      exact ⟨eT.symm, fun y w => (by cases w), rN _⟩
  · rw [if_neg c1]
    have eT : kh_hdT M fi n b = 1 := if_neg c1
    exact ⟨eT.symm, fun y w => (by cases w), rN _⟩
theorem kh_fst_ext {p : Nat → Bool} : ∀ (j i k : Nat), (∀ q, i + j ≤ q → q < i + j + k → p q = false) → kh_fst p i (j + k) = kh_fst p i j := by
  intro j
  induction j with
  | zero =>
    intro i k
    induction k generalizing i with
    | zero => exact fun _ => rfl
    | succ k ihk =>
      intro h
      rw [show 0 + (k + 1) = (0 + k) + 1 by omega, kh_fst_f (h i (by omega) (by omega))]
      have := ihk (i + 1) (fun q h1 h2 => h q (by omega) (by omega))
      rw [this]; rfl
  | succ j ih =>
    intro i k h
    rw [show j + 1 + k = (j + k) + 1 by omega]
    cases hp : p i with
    | true => rw [kh_fst_t hp, kh_fst_t hp]
    | false =>
      rw [kh_fst_f hp, kh_fst_f hp]
      exact ih (i + 1) k (fun q h1 h2 => h q (by omega) (by omega))
theorem kc_inn_39 : ∀ b : Fin 1024, 39 < b.val → kc_inn 39 b.val = false := by decide +kernel
theorem kc_inn_879 : ∀ b : Fin 1024, 879 < b.val → kc_inn 879 b.val = false := by decide +kernel
theorem kq_refutes {C : kc_C} {M M' : km_M} {v : Option Value} (h : kq_R C M) (n : Int32) (hv : v = some (.int (mm_enc (kh_rf M n)))) (hM : ∃ H un os oc fs, M' = kh_N (s_th M (kh_rfT M n)) (m_sh M) H un os oc fs) : kq_st (fun k => k + 1) (kc_refutes C n) (mm_enc (kh_rf M n)) M' := by
  obtain ⟨H, un, os, oc, fs, rfl⟩ := hM
  have h4 := h.2.2.1.1
  have rN := fun c => kq_R_N h c H un os oc fs
  unfold kc_refutes
  by_cases c1 : (decide (n = nI 1) || decide (n = nI 2)) = true
  · rw [if_pos c1]
    have eT : kh_rfT M n = if m_st M = true then 0 else 2 := if_pos c1
    cases hd : C.2.2.2.2.1 with
    | true =>
      have st : m_st M = false := by rw [h.2.1.2, hd]; rfl
      rw [st, if_neg (by decide)] at eT
      rw [if_pos rfl]
      exact ⟨eT.symm, fun y w => (by cases w), rN _⟩
    | false =>
      have st : m_st M = true := by rw [h.2.1.2, hd]; rfl
      rw [st, if_pos rfl] at eT
      rw [if_neg (show ¬ false = true by decide)]
      obtain ⟨T, eTn, hT⟩ : ∃ T, n = nI T ∧ (T = 1 ∨ T = 2) := by
        rcases Bool.or_eq_true_iff.mp c1 with w | w
        · exact ⟨1, of_decide_eq_true w, Or.inl rfl⟩
        · exact ⟨2, of_decide_eq_true w, Or.inr rfl⟩
      subst eTn
      have cT : (nI T).toNatClampNeg = T := nI_clamp (by omega)
      have hT0 : 1 ≤ T := by omega
      have hT3 : T ≤ 3 := by omega
      have pre := h.1.2.2
      have oF : ks_ok (C.1 0) := h.1.1.1 0 (by decide)
      have oS : ks_ok (kc_S C) := h.1.1.1 _ (by have := h.1.1.2.1; omega)
      have hqF := kq_first h
      have loop : ∀ (j b : Nat) (K1 K2 : kl_K), b + j ≤ 2000 → kj_K (kz (km_first M)) K1 → kj_K (kz (m_sh M)) K2 → (kl_okK K1 ∧ kl_okt K1.2.2.2.2.1) → (kl_okK K2 ∧ kl_okt K2.2.2.2.2.1) → (kc_ref T (kc_all T) j b K1 K2).1 = kh_fst (kh_rfp M T) b j ∧ (kl_okK (kc_ref T (kc_all T) j b K1 K2).2.1 ∧ kl_okt (kc_ref T (kc_all T) j b K1 K2).2.1.2.2.2.2.1) ∧ (kl_okK (kc_ref T (kc_all T) j b K1 K2).2.2 ∧ kl_okt (kc_ref T (kc_all T) j b K1 K2).2.2.2.2.2.2.1) := by
        intro j
        induction j with
        | zero => exact fun b K1 K2 _ _ _ o1 o2 => ⟨rfl, o1, o2⟩
        | succ j ih =>
          intro b K1 K2 hb k1 k2 o1 o2
          have s1 := kj_say hqF k1 (th := T) (B := b) hT0
          have s2 := kj_say h4 k2 (th := T) (B := b) hT0
          have q1 := kl_say_ok o1.1 o1.2 (n := T) (m := b) hT0 hT3 (by omega)
          have q2 := kl_say_ok o2.1 o2.2 (n := T) (m := b) hT0 hT3 (by omega)
          have st : kc_ref T (kc_all T) (j + 1) b K1 K2 = if kc_inn (kc_all T) b = true then (if (kl_say K1 T b).1 = true then (if (kl_say K2 T b).1 = true then kc_ref T (kc_all T) j (b + 1) (kl_say K1 T b).2 (kl_say K2 T b).2 else (some b, (kl_say K1 T b).2, (kl_say K2 T b).2)) else kc_ref T (kc_all T) j (b + 1) (kl_say K1 T b).2 K2) else kc_ref T (kc_all T) j (b + 1) K1 K2 := rfl
          have ep : kh_rfp M T b = (kc_inn (kc_all T) b && (kh_say (km_first M) T b && !kh_say (m_sh M) T b)) := rfl
          rw [st, s1, s2]
          cases x1 : kc_inn (kc_all T) b with
          | false =>
            rw [if_neg (by decide), kh_fst_f (by rw [ep, x1]; rfl)]
            exact ih (b + 1) K1 K2 (by omega) k1 k2 o1 o2
          | true =>
            rw [if_pos rfl]
            cases x2 : kh_say (km_first M) T b with
            | false =>
              rw [if_neg (by decide), kh_fst_f (by rw [ep, x1, x2]; rfl)]
              exact ih (b + 1) _ K2 (by omega) k1 k2 q1 o2
            | true =>
              rw [if_pos rfl]
              cases x3 : kh_say (m_sh M) T b with
              | true =>
                rw [if_pos rfl, kh_fst_f (by rw [ep, x1, x2, x3]; rfl)]
                exact ih (b + 1) _ _ (by omega) k1 k2 q1 q2
              | false =>
                rw [if_neg (by decide), kh_fst_t (by rw [ep, x1, x2, x3]; rfl)]
                exact ⟨rfl, q1, q2⟩
      obtain ⟨r1, r2, r3⟩ := loop (kc_all T + 1) 0 (kl_arr (C.1 0) C.2.2.1.1) (kl_arr (kc_S C) C.2.2.1.2) (by unfold kc_all; split <;> decide) (kj_arr hqF _) (kj_arr h4 _) ⟨kl_okK_arr oF pre.1, pre.1.2⟩ ⟨kl_okK_arr oS pre.2, pre.2.2⟩
      have er : kh_rf M (nI T) = kh_fst (kh_rfp M T) 0 (kc_all T + 1) := by
        unfold kh_rf
        rw [if_pos eT, cT]
        rcases hT with w | w
        · subst w
          have := kh_fst_ext (p := kh_rfp M 1) 40 0 984 (fun q h1 h2 => by
            unfold kh_rfp
            rw [show kc_inn (kc_all 1) q = false from kc_inn_39 ⟨q, by omega⟩ (by show 39 < q; omega)]; rfl)
          exact this
        · subst w
          have := kh_fst_ext (p := kh_rfp M 2) 880 0 144 (fun q h1 h2 => by
            unfold kh_rfp
            rw [show kc_inn (kc_all 2) q = false from kc_inn_879 ⟨q, by omega⟩ (by show 879 < q; omega)]; rfl)
          exact this
      rw [cT]
      refine ⟨eT.symm, fun y w => ?_, kq_R_looks (rN _) (kl_pre_of r2.1 r2.2) (kl_pre_of r3.1 r3.2)⟩
      unfold kc_int at w
      cases w
      rw [er, ← r1]
      rfl
  · rw [if_neg c1]
    have eT : kh_rfT M n = 1 := if_neg c1
    exact ⟨eT.symm, fun y w => (by cases w), rN _⟩
