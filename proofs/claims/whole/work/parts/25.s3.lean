/-! Contracts of Sheet: what writes. Printed by wip/whole/spec/s3.py -/
section KS3
variable {Γ : mm_G} {l : Launch} {d : Nat} {h : mm_H} {b : Nat} {S : ks_S}
theorem kS_add (a : ks_at h b S) (o : ks_ok S) {k : Nat} (hk : k < 3) {x : Option Nat} : mm_Ev Γ l (d + 1) mS_add [.ref b, .int (nI k), .int (mm_enc x)] h (mm_is (.inl (some (.int (mm_enc (ks_slot S k))))) (ks_set h b (ks_add S k x))) := by
  have hle := ks_len_le k
  have hll := ks_least_le k
  have loop : ∀ j i : Nat, i + j = ks_len k → mm_W Γ l mS_add (d + 1) (mm_is (.inl (some (.int (mm_enc (ks_free (ks_row S k) i j))))) (ks_set h b (match ks_free (ks_row S k) i j with
      | some q => ks_put S k (ks_u (ks_row S k) q x)
      | none => S))) 13 [some (.ref b), some (.int (nI k)), some (.int (mm_enc x)), some (.ref (b + 1 + k)), some (.int (nI i))] [] h := by
    intro j
    induction j with
    | zero =>
      intro i hi
      refine mm_iload dS_add_13 rfl ?_
      refine mm_aload_n dS_add_15 rfl rfl ?_
      refine mm_alen dS_add_16 (a.row hk) (by decide) rfl ?_
      refine mm_icmp_ge_T (tgt := 42) dS_add_17 (by decide) (nI_le (by omega) (by omega)) ?_
      refine mm_iconst (v := -1) dS_add_42 (by decide) ?_
      refine mm_ireturn dS_add_43 rfl ?_
      exact ⟨rfl, (ks_at_set a).symm⟩
    | succ j ih =>
      intro i hi
      have q17 : i < ks_len k := by omega
      refine mm_iload dS_add_13 rfl ?_
      refine mm_aload_n dS_add_15 rfl rfl ?_
      refine mm_alen dS_add_16 (a.row hk) (by decide) rfl ?_
      refine mm_icmp_ge_F (tgt := 42) dS_add_17 (by decide) (nI_ge q17 (by omega)) ?_
      refine mm_aload_n dS_add_20 rfl rfl ?_
      refine mm_iload dS_add_21 rfl ?_
      refine mm_iaload dS_add_23 (a.row hk) rfl q17 (by omega) ?_
      refine mm_iconst (v := -1) dS_add_24 (by decide) ?_
      refine mm_icmp_ne_o (tgt := 36) dS_add_25 (by decide) (o.sm q17) (fun q25 => ?_) (fun q25 => ?_)
      · refine mm_iinc dS_add_36 (by decide) rfl (mm_inc _) rfl ?_
        refine mm_goto (tgt := 13) dS_add_39 (by decide) ?_
        have hh := ih (i + 1) (by omega)
        rw [show ks_free (ks_row S k) i (j + 1) = ks_free (ks_row S k) (i + 1) j from if_neg q25]
        exact hh
      · refine mm_aload_n dS_add_28 rfl rfl ?_
        refine mm_iload dS_add_29 rfl ?_
        refine mm_iload_n dS_add_31 rfl rfl ?_
        refine mm_iastore dS_add_32 (a.row hk) rfl q17 (by omega) ?_
        refine mm_iload dS_add_33 rfl ?_
        refine mm_ireturn dS_add_35 rfl ?_
        rw [show ks_free (ks_row S k) i (j + 1) = some i from if_pos q25]
        exact ⟨rfl, by rw [ks_u_enc]; exact ks_up_row a hk _⟩
  show mm_W Γ l mS_add (d + 1) _ 0 [some (.ref b), some (.int (nI k)), some (.int (mm_enc x)), none, none] [] h
  refine mm_aload_n dS_add_0 rfl rfl ?_
  refine mm_iload_n dS_add_1 rfl rfl ?_
  refine mm_v1 dS_add_2 lS_33 a.1 rfl (by decide) (Nat.le_of_ble_eq_true rfl) (kS_areas a hk) ?_
  refine mm_astore_n dS_add_5 rfl (by decide) rfl ?_
  refine mm_aload_n dS_add_6 rfl rfl ?_
  refine mm_iload_n dS_add_7 rfl rfl ?_
  refine mm_v1 dS_add_8 lS_45 a.1 rfl (by decide) (Nat.le_of_ble_eq_true rfl) (kS_least hk) ?_
  refine mm_istore dS_add_11 (by decide) rfl ?_
  exact loop (ks_len k - ks_least k) (ks_least k) (by omega)
theorem kS_addSpot (a : ks_at h b S) (o : ks_ok S) {x f s : Option Nat} {sg : Nat} : mm_Ev Γ l (d + 2) mS_addSpot [.ref b, .int (mm_enc x), .int (nI sg), .int (mm_enc f), .int (mm_enc s)] h (mm_is (.inl (some (.int (mm_enc (ks_slot S 0))))) (ks_set h b (ks_addSpot S x sg f s))) := by
  show mm_W Γ l mS_addSpot (d + 2) _ 0 [some (.ref b), some (.int (mm_enc x)), some (.int (nI sg)), some (.int (mm_enc f)), some (.int (mm_enc s)), none] [] h
  have e0 : mm_Ev Γ l (d + 1) mS_add [.ref b, .int (nI 0), .int (mm_enc x)] h (mm_is (.inl (some (.int (mm_enc (ks_slot S 0))))) (ks_set h b (ks_add S 0 x))) := kS_add a o (by decide)
  cases hs : ks_slot S 0 with
  | none =>
    rw [show ks_addSpot S x sg f s = S by unfold ks_addSpot; rw [hs], ks_at_set a]
    rw [show ks_add S 0 x = S by unfold ks_add; rw [hs], ks_at_set a, hs] at e0
    refine mm_aload_n dS_addSpot_0 rfl rfl ?_
    refine mm_iconst (v := nI 0) dS_addSpot_1 (by decide) ?_
    refine mm_iload_n dS_addSpot_2 rfl rfl ?_
    refine mm_v2 dS_addSpot_3 lS_68 a.1 rfl rfl (by decide) (Nat.le_of_ble_eq_true rfl) (e0) ?_
    refine mm_istore dS_addSpot_6 (by decide) rfl ?_
    refine mm_iload dS_addSpot_8 rfl ?_
    refine mm_iconst (v := -1) dS_addSpot_10 (by decide) ?_
    refine mm_icmp_eq_T (tgt := 45) dS_addSpot_11 (by decide) rfl ?_
    refine mm_iload dS_addSpot_45 rfl ?_
    refine mm_ireturn dS_addSpot_47 rfl ?_
    exact ⟨rfl, rfl⟩
  | some j =>
    obtain ⟨-, j12, -⟩ := ks_slot_some hs
    have j12 : j < 12 := j12
    rw [show ks_addSpot S x sg f s = ks_spotAt S j x sg f s by unfold ks_addSpot; rw [hs]]
    rw [show ks_add S 0 x = (ks_u S.1 j x, S.2) by unfold ks_add; rw [hs]; rfl, hs] at e0
    have a1 : ks_at (ks_set h b (ks_u S.1 j x, S.2)) b (ks_u S.1 j x, S.2) := ks_set_at _ a.1
    refine mm_aload_n dS_addSpot_0 rfl rfl ?_
    refine mm_iconst (v := nI 0) dS_addSpot_1 (by decide) ?_
    refine mm_iload_n dS_addSpot_2 rfl rfl ?_
    refine mm_v2 dS_addSpot_3 lS_68 a.1 rfl rfl (by decide) (Nat.le_of_ble_eq_true rfl) (e0) ?_
    refine mm_istore dS_addSpot_6 (by decide) rfl ?_
    refine mm_iload dS_addSpot_8 rfl ?_
    refine mm_iconst (v := -1) dS_addSpot_10 (by decide) ?_
    refine mm_icmp_eq_F (tgt := 45) dS_addSpot_11 (by decide) (mm_neg_ne (by omega)) ?_
    refine mm_aload_n dS_addSpot_14 rfl rfl ?_
    refine mm_getf dS_addSpot_15 fS_21 a1.1 rfl ?_
    refine mm_iload dS_addSpot_18 rfl ?_
    refine mm_iload_n dS_addSpot_20 rfl rfl ?_
    refine mm_iastore dS_addSpot_21 a1.2.2.2.2.1 rfl j12 (by decide) ?_
    rw [ks_un_enc, ks_up_sign a1]
    have a2 := ks_set_at (h := ks_set h b (ks_u S.1 j x, S.2)) (b := b) (ks_u S.1 j x, S.2.1, S.2.2.1, ks_un S.2.2.2.1 j sg, S.2.2.2.2) a1.1
    refine mm_aload_n dS_addSpot_22 rfl rfl ?_
    refine mm_getf dS_addSpot_23 fS_24 a2.1 rfl ?_
    refine mm_iconst (v := nI 2) dS_addSpot_26 (by decide) ?_
    refine mm_iload dS_addSpot_27 rfl ?_
    refine mm_imul dS_addSpot_29 ?_
    refine mm_iload_n dS_addSpot_30 rfl rfl ?_
    refine mm_iastore dS_addSpot_31 a2.2.2.2.2.2 (pk_mul 2 j) (by omega) (by decide) ?_
    rw [ks_u_enc]
    refine mm_eqh (ks_up_hook a2 _).symm ?_
    have a3 := ks_set_at (b := b) (ks_u S.1 j x, S.2.1, S.2.2.1, ks_un S.2.2.2.1 j sg, ks_u S.2.2.2.2 (2 * j) f) a2.1
    refine mm_aload_n dS_addSpot_32 rfl rfl ?_
    refine mm_getf dS_addSpot_33 fS_24 a3.1 rfl ?_
    refine mm_iconst (v := nI 2) dS_addSpot_36 (by decide) ?_
    refine mm_iload dS_addSpot_37 rfl ?_
    refine mm_imul dS_addSpot_39 ?_
    refine mm_iconst (v := nI 1) dS_addSpot_40 (by decide) ?_
    refine mm_iadd dS_addSpot_41 ?_
    refine mm_iload dS_addSpot_42 rfl ?_
    refine mm_iastore dS_addSpot_44 a3.2.2.2.2.2 (show nI 2 * nI j + nI 1 = nI (2 * j + 1) by rw [pk_mul, nI_add]) (by omega) (by decide) ?_
    rw [ks_u_enc]
    refine mm_eqh (ks_up_hook a3 _).symm ?_
    refine mm_iload dS_addSpot_45 rfl ?_
    refine mm_ireturn dS_addSpot_47 rfl ?_
    exact ⟨rfl, by rw [ks_set_set, ks_set_set, ks_set_set]; rfl⟩
theorem kS_put (a : ks_at h b S) (o : ks_ok S) (k n : Int32) {x : Option Nat} : mm_Ev Γ l (d + 2) mS_put [.ref b, .int k, .int n, .int (mm_enc x)] h (mm_is (.inl none) (ks_set h b (ks_putI S k n x))) := by
  show mm_W Γ l mS_put (d + 2) _ 0 [some (.ref b), some (.int k), some (.int n), some (.int (mm_enc x))] [] h
  refine mm_aload_n dS_put_0 rfl rfl ?_
  refine mm_iload_n dS_put_1 rfl rfl ?_
  refine mm_iload_n dS_put_2 rfl rfl ?_
  refine mm_v2 dS_put_3 lS_37 a.1 rfl rfl (by decide) (Nat.le_of_ble_eq_true rfl) (kS_has a o k n) ?_
  refine mm_if_eq_b (tgt := 17) dS_put_6 (by decide) (fun q6 => ?_) (fun q6 => ?_)
  · refine mm_return dS_put_17 rfl ?_
    exact ⟨rfl, by rw [show ks_putI S k n x = S by unfold ks_putI; rw [q6]; rfl, ks_at_set a]⟩
  · obtain ⟨k, n, y, rfl, rfl, hk, hn, hy⟩ := ks_hasI_true q6
    refine mm_aload_n dS_put_9 rfl rfl ?_
    refine mm_iload_n dS_put_10 rfl rfl ?_
    refine mm_v1 dS_put_11 lS_33 a.1 rfl (by decide) (Nat.le_of_ble_eq_true rfl) (kS_areas a hk) ?_
    refine mm_iload_n dS_put_14 rfl rfl ?_
    refine mm_iload_n dS_put_15 rfl rfl ?_
    refine mm_iastore dS_put_16 (a.row hk) rfl hn (by have := ks_len_le k; omega) ?_
    refine mm_return dS_put_17 rfl ?_
    exact ⟨rfl, by have := ks_len_le k; rw [show ks_putI S (nI k) (nI n) x = ks_put S k (ks_u (ks_row S k) n x) by unfold ks_putI; rw [if_pos q6, nI_clamp (by omega), nI_clamp (by omega)], ks_u_enc]; exact ks_up_row a hk _⟩
theorem kS_putAll (a : ks_at h b S) (o : ks_ok S) {m : Nat} (hm : m < 2 ^ 31) {t : Option Nat} (ht : mm_lt t 13) : mm_Ev Γ l (d + 1) mS_putAll [.ref b, .int (nI m), .int (mm_enc t)] h (mm_is (.inl none) (ks_set h b (ks_moves S m t 3))) := by
  have hb := a.1
  have outer : ∀ j k : Nat, k + j = 3 → mm_W Γ l mS_putAll (d + 1) (mm_is (.inl none) (ks_set h b (ks_moves S m t 3))) 2 [some (.ref b), some (.int (nI m)), some (.int (mm_enc t)), some (.int (nI k)), none, none] [] (ks_set h b (ks_moves S m t k)) := by
    intro j
    induction j with
    | zero =>
      intro k hk
      have hk : k = 3 := by omega
      subst hk
      refine mm_iload_n dS_putAll_2 rfl rfl ?_
      refine mm_iconst (v := nI 3) dS_putAll_3 (by decide) ?_
      refine mm_icmp_ge_T (tgt := 55) dS_putAll_4 (by decide) (nI_le (by omega) (by omega)) ?_
      refine mm_return dS_putAll_55 rfl ?_
      exact ⟨rfl, rfl⟩
    | succ j ih =>
      intro k hk
      have hk3 : k < 3 := by omega
      have hle := ks_len_le k
      have ok1 : ks_ok (ks_moves S m t k) := ks_ok_moves o ht (by omega)
      have inner : ∀ j' i : Nat, i + j' = ks_len k → mm_W Γ l mS_putAll (d + 1) (mm_is (.inl none) (ks_set h b (ks_moves S m t 3))) 17 [some (.ref b), some (.int (nI m)), some (.int (mm_enc t)), some (.int (nI k)), some (.ref (b + 1 + k)), some (.int (nI i))] [] (ks_set h b (ks_put (ks_moves S m t k) k (ks_mv (ks_row (ks_moves S m t k) k) m t i))) := by
        intro j'
        induction j' with
        | zero =>
          intro i hi
          have hi : i = ks_len k := by omega
          subst hi
          have a1 := ks_set_at (h := h) (b := b) (ks_put (ks_moves S m t k) k (ks_mv (ks_row (ks_moves S m t k) k) m t (ks_len k))) hb
          refine mm_iload dS_putAll_17 rfl ?_
          refine mm_aload dS_putAll_19 rfl ?_
          refine mm_alen dS_putAll_21 (a1.row hk3) (by decide) rfl ?_
          refine mm_icmp_ge_T (tgt := 49) dS_putAll_22 (by decide) (nI_le (by omega) (by omega)) ?_
          refine mm_iinc dS_putAll_49 (by decide) rfl (mm_inc _) rfl ?_
          refine mm_goto (tgt := 2) dS_putAll_52 (by decide) ?_
          exact mm_sub (fun i v hv => by
            match i, hv with
            | 0, hv => exact hv
            | 1, hv => exact hv
            | 2, hv => exact hv
            | 3, hv => exact hv
            | 4, hv => cases hv
            | 5, hv => cases hv
            | n + 6, hv => cases hv) (ih (k + 1) (by omega))
        | succ j' ih' =>
          intro i hi
          have q22 : i < ks_len k := by omega
          have a1 := ks_set_at (h := h) (b := b) (ks_put (ks_moves S m t k) k (ks_mv (ks_row (ks_moves S m t k) k) m t i)) hb
          have a1r := a1.row hk3
          rw [ks_row_put] at a1r
          have hlt : mm_lt (ks_row (ks_moves S m t k) k i) 13 := ok1.lt q22
          refine mm_iload dS_putAll_17 rfl ?_
          refine mm_aload dS_putAll_19 rfl ?_
          refine mm_alen dS_putAll_21 (a1.row hk3) (by decide) rfl ?_
          refine mm_icmp_ge_F (tgt := 49) dS_putAll_22 (by decide) (nI_ge q22 (by omega)) ?_
          refine mm_iload_n dS_putAll_25 rfl rfl ?_
          refine mm_aload dS_putAll_26 rfl ?_
          refine mm_iload dS_putAll_28 rfl ?_
          refine mm_iaload dS_putAll_30 a1r rfl q22 (by omega) ?_
          rw [ks_mv_at]
          refine mm_s2 dS_putAll_31 lS_52 rfl rfl (by decide) (Nat.le_of_ble_eq_true rfl) (kC_isAmong hm (o := ks_row (ks_moves S m t k) k i) (fun x e => Nat.lt_trans (hlt x e) (by decide))) ?_
          refine mm_if_eq_b (tgt := 43) dS_putAll_34 (by decide) (fun q34 => ?_) (fun q34 => ?_)
          · refine mm_iinc dS_putAll_43 (by decide) rfl (mm_inc _) rfl ?_
            refine mm_goto (tgt := 17) dS_putAll_46 (by decide) ?_
            have hh := ih' (i + 1) (by omega)
            rw [← ks_mv_f q34] at hh
            exact hh
          · refine mm_aload dS_putAll_37 rfl ?_
            refine mm_iload dS_putAll_39 rfl ?_
            refine mm_iload_n dS_putAll_41 rfl rfl ?_
            refine mm_iastore dS_putAll_42 a1r rfl q22 (by omega) ?_
            rw [ks_u_enc, ks_mv_t q34]
            refine mm_eqh (ks_up_row a1 hk3 _).symm ?_
            rw [ks_put_put, ks_set_set]
            refine mm_iinc dS_putAll_43 (by decide) rfl (mm_inc _) rfl ?_
            refine mm_goto (tgt := 17) dS_putAll_46 (by decide) ?_
            have hh := ih' (i + 1) (by omega)
            exact hh
      have e1 : ks_set h b (ks_moves S m t k) = ks_set h b (ks_put (ks_moves S m t k) k (ks_mv (ks_row (ks_moves S m t k) k) m t 0)) := by rw [ks_mv_0, ks_put_row]
      have a0 := ks_set_at (h := h) (b := b) (ks_moves S m t k) hb
      refine mm_iload_n dS_putAll_2 rfl rfl ?_
      refine mm_iconst (v := nI 3) dS_putAll_3 (by decide) ?_
      refine mm_icmp_ge_F (tgt := 55) dS_putAll_4 (by decide) (nI_ge (by omega) (by omega)) ?_
      refine mm_aload_n dS_putAll_7 rfl rfl ?_
      refine mm_iload_n dS_putAll_8 rfl rfl ?_
      refine mm_v1 dS_putAll_9 lS_33 a0.1 rfl (by decide) (Nat.le_of_ble_eq_true rfl) (kS_areas a0 hk3) ?_
      refine mm_astore dS_putAll_12 (by decide) rfl ?_
      refine mm_iconst (v := nI 0) dS_putAll_14 (by decide) ?_
      refine mm_istore dS_putAll_15 (by decide) rfl ?_
      rw [e1]
      exact inner (ks_len k) 0 (by omega)
  show mm_W Γ l mS_putAll (d + 1) _ 0 [some (.ref b), some (.int (nI m)), some (.int (mm_enc t)), none, none, none] [] h
  refine mm_iconst (v := nI 0) dS_putAll_0 (by decide) ?_
  refine mm_istore_n dS_putAll_1 rfl (by decide) rfl ?_
  have hh := outer 3 0 rfl
  rw [show ks_moves S m t 0 = S from rfl, ks_at_set a] at hh
  exact hh
end KS3
