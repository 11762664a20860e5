/-! Contracts of Sheet: what only reads. Printed by wip/whole/spec/s1.py -/
theorem mm_f0 {X : Bool} {h : mm_H} (e : X = false) : mm_is (.inl (some (.int (mm_bI X)))) h (.inl (some (.int (nI 0)))) h := ⟨by rw [e]; rfl, rfl⟩
theorem mm_f1 {X : Bool} {h : mm_H} (e : X = true) : mm_is (.inl (some (.int (mm_bI X)))) h (.inl (some (.int (nI 1)))) h := ⟨by rw [e]; rfl, rfl⟩
theorem ks_lt3 {k : Int32} (h1 : ¬ k < 0) (h2 : ¬ nI 3 ≤ k) : ∃ k' : Nat, k' < 3 ∧ k = nI k' := by
  obtain ⟨j, hj, rfl⟩ := nI_of h1
  rw [nI_leI (by decide) hj] at h2
  exact ⟨j, by omega, rfl⟩
theorem ks_ok.sm {S : ks_S} (o : ks_ok S) {k i : Nat} (hi : i < ks_len k) : mm_sm (ks_row S k i) := fun n e => by
  have := o.1 k i n hi e
  omega
theorem ks_has_f1 {S : ks_S} {k n : Int32} (h : k < 0) : ks_hasI S k n = false := by
  have h' : ¬ 0 ≤ k := fun q => by
    have h1 := Int32.le_iff_toInt_le.mp q
    have h2 := Int32.lt_iff_toInt_lt.mp h
    omega
  unfold ks_hasI
  rw [decide_eq_false h']
  rfl
theorem ks_has_f3 {S : ks_S} {k n : Int32} (h : n < 0) : ks_hasI S k n = false := by
  have h' : ¬ 0 ≤ n := fun q => by
    have h1 := Int32.le_iff_toInt_le.mp q
    have h2 := Int32.lt_iff_toInt_lt.mp h
    omega
  unfold ks_hasI
  rw [decide_eq_false h']
  simp
theorem ks_has_f2 {S : ks_S} {k n : Int32} (h1 : ¬ k < 0) (h : nI 3 ≤ k) : ks_hasI S k n = false := by
  obtain ⟨j, hj, rfl⟩ := nI_of h1
  rw [nI_leI (by decide) hj] at h
  unfold ks_hasI ks_has
  rw [nI_clamp hj, decide_eq_false (show ¬ j < 3 by omega)]
  simp
theorem ks_has_f4 {S : ks_S} {k n : Nat} (hk : k < 3) (hn : n < 2 ^ 31) (h : ks_len k ≤ n) : ks_hasI S (nI k) (nI n) = false := by
  rw [ks_hasI_n (by omega) hn]
  unfold ks_has
  rw [decide_eq_false (show ¬ n < ks_len k by omega)]
  simp
theorem ks_has_f5 {S : ks_S} {k n : Nat} (hk : k < 3) (hn : n < 2 ^ 31) (h : ks_row S k n = none) : ks_hasI S (nI k) (nI n) = false := by
  rw [ks_hasI_n (by omega) hn]
  unfold ks_has
  rw [h]
  simp
theorem ks_has_t {S : ks_S} {k n : Nat} (hk : k < 3) (hn : n < ks_len k) (h : ¬ ks_row S k n = none) : ks_hasI S (nI k) (nI n) = true := by
  have := ks_len_le k
  rw [ks_hasI_n (by omega) (by omega)]
  refine ks_has_iff.mpr ⟨hk, hn, ?_⟩
  cases hx : ks_row S k n with
  | none => exact absurd hx h
  | some a => exact ⟨a, rfl⟩
section KS1
variable {Γ : mm_G} {l : Launch} {d : Nat} {h : mm_H} {b : Nat} {S : ks_S}
theorem kS_areas (a : ks_at h b S) {k : Nat} (hk : k < 3) : mm_Ev Γ l d mS_areas [.ref b, .int (nI k)] h (mm_is (.inl (some (.ref (b + 1 + k)))) h) := by
  obtain rfl | rfl | rfl : k = 0 ∨ k = 1 ∨ k = 2 := by omega
  · show mm_W Γ l mS_areas d _ 0 [some (.ref b), some (.int (nI 0))] [] h
    refine mm_iload_n dS_areas_0 rfl rfl ?_
    refine mm_if_ne_F (tgt := 9) dS_areas_1 (by decide) rfl ?_
    refine mm_aload_n dS_areas_4 rfl rfl ?_
    refine mm_getf dS_areas_5 fS_9 a.1 rfl ?_
    refine mm_areturn dS_areas_8 rfl (Or.inr ⟨_, rfl⟩) ?_
    exact ⟨rfl, rfl⟩
  · show mm_W Γ l mS_areas d _ 0 [some (.ref b), some (.int (nI 1))] [] h
    refine mm_iload_n dS_areas_0 rfl rfl ?_
    refine mm_if_ne_T (tgt := 9) dS_areas_1 (by decide) (by decide) ?_
    refine mm_iload_n dS_areas_9 rfl rfl ?_
    refine mm_iconst (v := nI 1) dS_areas_10 (by decide) ?_
    refine mm_icmp_ne_F (tgt := 21) dS_areas_11 (by decide) rfl ?_
    refine mm_aload_n dS_areas_14 rfl rfl ?_
    refine mm_getf dS_areas_15 fS_15 a.1 rfl ?_
    refine mm_goto (tgt := 25) dS_areas_18 (by decide) ?_
    refine mm_areturn dS_areas_25 rfl (Or.inr ⟨_, rfl⟩) ?_
    exact ⟨rfl, rfl⟩
  · show mm_W Γ l mS_areas d _ 0 [some (.ref b), some (.int (nI 2))] [] h
    refine mm_iload_n dS_areas_0 rfl rfl ?_
    refine mm_if_ne_T (tgt := 9) dS_areas_1 (by decide) (by decide) ?_
    refine mm_iload_n dS_areas_9 rfl rfl ?_
    refine mm_iconst (v := nI 1) dS_areas_10 (by decide) ?_
    refine mm_icmp_ne_T (tgt := 21) dS_areas_11 (by decide) (by decide) ?_
    refine mm_aload_n dS_areas_21 rfl rfl ?_
    refine mm_getf dS_areas_22 fS_18 a.1 rfl ?_
    refine mm_areturn dS_areas_25 rfl (Or.inr ⟨_, rfl⟩) ?_
    exact ⟨rfl, rfl⟩
theorem kS_least {k : Nat} (hk : k < 3) : mm_Ev Γ l d mS_leastNumber [.ref b, .int (nI k)] h (mm_is (.inl (some (.int (nI (ks_least k))))) h) := by
  show mm_W Γ l mS_leastNumber d _ 0 [some (.ref b), some (.int (nI k))] [] h
  refine mm_iload_n dS_leastNumber_0 rfl rfl ?_
  refine mm_iconst (v := nI 1) dS_leastNumber_1 (by decide) ?_
  refine mm_icmp_ne_n (tgt := 9) dS_leastNumber_2 (by decide) (by omega) (by decide) (fun q2 => ?_) (fun q2 => ?_)
  · refine mm_iconst (v := nI 0) dS_leastNumber_9 (by decide) ?_
    refine mm_ireturn dS_leastNumber_10 rfl ?_
    exact ⟨by simp [ks_least, q2], rfl⟩
  · refine mm_iconst (v := nI 1) dS_leastNumber_5 (by decide) ?_
    refine mm_goto (tgt := 10) dS_leastNumber_6 (by decide) ?_
    refine mm_ireturn dS_leastNumber_10 rfl ?_
    exact ⟨by simp [ks_least, q2], rfl⟩
theorem kS_has (a : ks_at h b S) (o : ks_ok S) (k n : Int32) : mm_Ev Γ l (d + 1) mS_has [.ref b, .int k, .int n] h (mm_is (.inl (some (.int (mm_bI (ks_hasI S k n))))) h) := by
  show mm_W Γ l mS_has (d + 1) _ 0 [some (.ref b), some (.int k), some (.int n)] [] h
  refine mm_iload_n dS_has_0 rfl rfl ?_
  refine mm_if_lt (tgt := 38) dS_has_1 (by decide) (fun q1 => ?_) (fun q1 => ?_)
  · refine mm_iconst (v := nI 0) dS_has_38 (by decide) ?_
    refine mm_zreturn dS_has_39 rfl rfl ?_
    exact mm_f0 (ks_has_f1 q1)
  · refine mm_iload_n dS_has_4 rfl rfl ?_
    refine mm_iconst (v := nI 3) dS_has_5 (by decide) ?_
    refine mm_icmp_ge (tgt := 38) dS_has_6 (by decide) (fun q6 => ?_) (fun q6 => ?_)
    · refine mm_iconst (v := nI 0) dS_has_38 (by decide) ?_
      refine mm_zreturn dS_has_39 rfl rfl ?_
      exact mm_f0 (ks_has_f2 q1 q6)
    · obtain ⟨k, hk, rfl⟩ := ks_lt3 q1 q6
      refine mm_iload_n dS_has_9 rfl rfl ?_
      refine mm_if_lt (tgt := 38) dS_has_10 (by decide) (fun q10 => ?_) (fun q10 => ?_)
      · refine mm_iconst (v := nI 0) dS_has_38 (by decide) ?_
        refine mm_zreturn dS_has_39 rfl rfl ?_
        exact mm_f0 (ks_has_f3 q10)
      · obtain ⟨n, hn, rfl⟩ := nI_of q10
        refine mm_iload_n dS_has_13 rfl rfl ?_
        refine mm_aload_n dS_has_14 rfl rfl ?_
        refine mm_iload_n dS_has_15 rfl rfl ?_
        refine mm_v1 dS_has_16 lS_33 a.1 rfl (by decide) (Nat.le_of_ble_eq_true rfl) (kS_areas a hk) ?_
        refine mm_alen dS_has_19 (a.row hk) (by decide) rfl ?_
        refine mm_icmp_ge_n (tgt := 38) dS_has_20 (by decide) hn (by have := ks_len_le k; omega) (fun q20 => ?_) (fun q20 => ?_)
        · refine mm_iconst (v := nI 0) dS_has_38 (by decide) ?_
          refine mm_zreturn dS_has_39 rfl rfl ?_
          exact mm_f0 (ks_has_f4 hk hn q20)
        · refine mm_aload_n dS_has_23 rfl rfl ?_
          refine mm_iload_n dS_has_24 rfl rfl ?_
          refine mm_v1 dS_has_25 lS_33 a.1 rfl (by decide) (Nat.le_of_ble_eq_true rfl) (kS_areas a hk) ?_
          refine mm_iload_n dS_has_28 rfl rfl ?_
          refine mm_iaload dS_has_29 (a.row hk) rfl q20 (by have := ks_len_le k; omega) ?_
          refine mm_iconst (v := -1) dS_has_30 (by decide) ?_
          refine mm_icmp_eq_o (tgt := 38) dS_has_31 (by decide) (o.sm q20) (fun q31 => ?_) (fun q31 => ?_)
          · refine mm_iconst (v := nI 0) dS_has_38 (by decide) ?_
            refine mm_zreturn dS_has_39 rfl rfl ?_
            exact mm_f0 (ks_has_f5 hk hn q31)
          · refine mm_iconst (v := nI 1) dS_has_34 (by decide) ?_
            refine mm_goto (tgt := 39) dS_has_35 (by decide) ?_
            refine mm_zreturn dS_has_39 rfl rfl ?_
            exact mm_f1 (ks_has_t hk q20 q31)
theorem kS_hasPart (a : ks_at h b S) (o : ks_ok S) (k n : Int32) : mm_Ev Γ l (d + 2) mS_hasPart [.ref b, .int k, .int n] h (mm_is (.inl (some (.int (mm_bI (ks_partI S k n))))) h) := by
  show mm_W Γ l mS_hasPart (d + 2) _ 0 [some (.ref b), some (.int k), some (.int n)] [] h
  refine mm_iload_n dS_hasPart_0 rfl rfl ?_
  refine mm_iconst (v := nI 2) dS_hasPart_1 (by decide) ?_
  refine mm_icmp_eq (tgt := 18) dS_hasPart_2 (by decide) (fun q2 => ?_) (fun q2 => ?_)
  · refine mm_iconst (v := nI 0) dS_hasPart_18 (by decide) ?_
    refine mm_zreturn dS_hasPart_19 rfl rfl ?_
    exact mm_f0 (by simp [ks_partI, q2])
  · refine mm_aload_n dS_hasPart_5 rfl rfl ?_
    refine mm_iload_n dS_hasPart_6 rfl rfl ?_
    refine mm_iload_n dS_hasPart_7 rfl rfl ?_
    refine mm_v2 dS_hasPart_8 lS_37 a.1 rfl rfl (by decide) (Nat.le_of_ble_eq_true rfl) (kS_has a o k n) ?_
    refine mm_if_eq_b (tgt := 18) dS_hasPart_11 (by decide) (fun q11 => ?_) (fun q11 => ?_)
    · refine mm_iconst (v := nI 0) dS_hasPart_18 (by decide) ?_
      refine mm_zreturn dS_hasPart_19 rfl rfl ?_
      exact mm_f0 (by simp [ks_partI, q2, q11])
    · refine mm_iconst (v := nI 1) dS_hasPart_14 (by decide) ?_
      refine mm_goto (tgt := 19) dS_hasPart_15 (by decide) ?_
      refine mm_zreturn dS_hasPart_19 rfl rfl ?_
      exact mm_f1 (by simp [ks_partI, q2, q11])
theorem kS_hasArea (a : ks_at h b S) (o : ks_ok S) (n : Int32) : mm_Ev Γ l (d + 2) mS_hasArea [.ref b, .int n] h (mm_is (.inl (some (.int (mm_bI (ks_harI S n))))) h) := by
  show mm_W Γ l mS_hasArea (d + 2) _ 0 [some (.ref b), some (.int n)] [] h
  refine mm_iload_n dS_hasArea_0 rfl rfl ?_
  refine mm_if_eq (tgt := 13) dS_hasArea_1 (by decide) (fun q1 => ?_) (fun q1 => ?_)
  · refine mm_iconst (v := nI 1) dS_hasArea_13 (by decide) ?_
    refine mm_goto (tgt := 18) dS_hasArea_14 (by decide) ?_
    refine mm_zreturn dS_hasArea_18 rfl rfl ?_
    exact mm_f1 (by simp [ks_harI, q1])
  · refine mm_aload_n dS_hasArea_4 rfl rfl ?_
    refine mm_iconst (v := nI 1) dS_hasArea_5 (by decide) ?_
    refine mm_iload_n dS_hasArea_6 rfl rfl ?_
    refine mm_v2 dS_hasArea_7 lS_37 a.1 rfl rfl (by decide) (Nat.le_of_ble_eq_true rfl) (kS_has a o (nI 1) n) ?_
    refine mm_if_eq_b (tgt := 17) dS_hasArea_10 (by decide) (fun q10 => ?_) (fun q10 => ?_)
    · refine mm_iconst (v := nI 0) dS_hasArea_17 (by decide) ?_
      refine mm_zreturn dS_hasArea_18 rfl rfl ?_
      exact mm_f0 (by simp [ks_harI, q1, q10])
    · refine mm_iconst (v := nI 1) dS_hasArea_13 (by decide) ?_
      refine mm_goto (tgt := 18) dS_hasArea_14 (by decide) ?_
      refine mm_zreturn dS_hasArea_18 rfl rfl ?_
      exact mm_f1 (by simp [ks_harI, q1, q10])
theorem kS_areaOf (a : ks_at h b S) (o : ks_ok S) (k n : Int32) : mm_Ev Γ l (d + 2) mS_areaOf [.ref b, .int k, .int n] h (mm_is (.inl (some (.int (mm_enc (ks_areaI S k n))))) h) := by
  show mm_W Γ l mS_areaOf (d + 2) _ 0 [some (.ref b), some (.int k), some (.int n)] [] h
  refine mm_aload_n dS_areaOf_0 rfl rfl ?_
  refine mm_iload_n dS_areaOf_1 rfl rfl ?_
  refine mm_iload_n dS_areaOf_2 rfl rfl ?_
  refine mm_v2 dS_areaOf_3 lS_37 a.1 rfl rfl (by decide) (Nat.le_of_ble_eq_true rfl) (kS_has a o k n) ?_
  refine mm_if_eq_b (tgt := 19) dS_areaOf_6 (by decide) (fun q6 => ?_) (fun q6 => ?_)
  · refine mm_iconst (v := -1) dS_areaOf_19 (by decide) ?_
    refine mm_ireturn dS_areaOf_20 rfl ?_
    exact ⟨by unfold ks_areaI; rw [q6]; rfl, rfl⟩
  · obtain ⟨k, n, x, rfl, rfl, hk, hn, hx⟩ := ks_hasI_true q6
    refine mm_aload_n dS_areaOf_9 rfl rfl ?_
    refine mm_iload_n dS_areaOf_10 rfl rfl ?_
    refine mm_v1 dS_areaOf_11 lS_33 a.1 rfl (by decide) (Nat.le_of_ble_eq_true rfl) (kS_areas a hk) ?_
    refine mm_iload_n dS_areaOf_14 rfl rfl ?_
    refine mm_iaload dS_areaOf_15 (a.row hk) rfl hn (by have := ks_len_le k; omega) ?_
    refine mm_goto (tgt := 20) dS_areaOf_16 (by decide) ?_
    refine mm_ireturn dS_areaOf_20 rfl ?_
    exact ⟨by have := ks_len_le k; unfold ks_areaI; rw [q6, nI_clamp (by omega), nI_clamp (by omega)]; rfl, rfl⟩
end KS1
