/-! Contracts of Sheet: removing, rehooking, copying. Printed by wip/whole/spec/s4.py -/
theorem ks_mask_lt (S : ks_S) (y : Option Nat) : ks_mask S y < 2 ^ 31 := Nat.lt_trans (kb_mask_lt _ 13) (by decide)
section KS4
variable {Γ : mm_G} {l : Launch} {d : Nat} {h : mm_H} {b : Nat} {S : ks_S}
theorem kS_remove (a : ks_at h b S) (o : ks_ok S) (k n : Int32) {x : Option Nat} (hx : k = nI 1 → n = mm_enc x ∧ mm_sm x) : mm_Ev Γ l (d + 4) mS_remove [.ref b, .int k, .int n] h (mm_is (.inl none) (ks_set h b (ks_remove S k n x))) := by
  show mm_W Γ l mS_remove (d + 4) _ 0 [some (.ref b), some (.int k), some (.int n)] [] h
  refine mm_iload_n dS_remove_0 rfl rfl ?_
  refine mm_iconst (v := nI 1) dS_remove_1 (by decide) ?_
  refine mm_icmp_ne (tgt := 15) dS_remove_2 (by decide) (fun q2 => ?_) (fun q2 => ?_)
  · refine mm_aload_n dS_remove_15 rfl rfl ?_
    refine mm_iload_n dS_remove_16 rfl rfl ?_
    refine mm_iload_n dS_remove_17 rfl rfl ?_
    refine mm_iconst (v := -1) dS_remove_18 (by decide) ?_
    refine mm_v3 dS_remove_19 lS_78 a.1 rfl rfl rfl (by decide) (Nat.le_of_ble_eq_true rfl) (kS_put a o k n (x := none)) ?_
    refine mm_return dS_remove_22 rfl ?_
    exact ⟨rfl, by unfold ks_remove; rw [if_neg q2]⟩
  · obtain ⟨rfl, hs⟩ := hx q2
    have a1 := ks_set_at (h := h) (b := b) (ks_moves S (ks_mask S x) none 3) a.1
    have o1 := ks_ok_moves (m := ks_mask S x) o (t := none) mm_lt_none (k := 3) (by decide)
    refine mm_aload_n dS_remove_5 rfl rfl ?_
    refine mm_aload_n dS_remove_6 rfl rfl ?_
    refine mm_iload_n dS_remove_7 rfl rfl ?_
    refine mm_v1 dS_remove_8 lS_71 a.1 rfl (by decide) (Nat.le_of_ble_eq_true rfl) (kS_areasWithin a o hs) ?_
    refine mm_iconst (v := -1) dS_remove_11 (by decide) ?_
    refine mm_v2 dS_remove_12 lS_74 a.1 rfl rfl (by decide) (Nat.le_of_ble_eq_true rfl) (kS_putAll a o (ks_mask_lt S x) (t := none) mm_lt_none) ?_
    refine mm_aload_n dS_remove_15 rfl rfl ?_
    refine mm_iload_n dS_remove_16 rfl rfl ?_
    refine mm_iload_n dS_remove_17 rfl rfl ?_
    refine mm_iconst (v := -1) dS_remove_18 (by decide) ?_
    refine mm_v3 dS_remove_19 lS_78 a1.1 rfl rfl rfl (by decide) (Nat.le_of_ble_eq_true rfl) (kS_put a1 o1 k (mm_enc x) (x := none)) ?_
    refine mm_return dS_remove_22 rfl ?_
    exact ⟨rfl, by unfold ks_remove; rw [if_pos q2, ks_set_set]⟩
theorem kS_rehook (a : ks_at h b S) (o : ks_ok S) {ln : Nat} (hln : ln < 2 ^ 31) {t x : Option Nat} (hx : mm_sm x) : mm_Ev Γ l (d + 4) mS_rehook [.ref b, .int (nI ln), .int (mm_enc t), .int (mm_enc x)] h (mm_is (.inl none) (ks_set h b (ks_rehook S ln t x))) := by
  have hb := a.1
  have hm := ks_mask_lt S x
  have loop : ∀ j i : Nat, i + j = 24 → mm_W Γ l mS_rehook (d + 4) (mm_is (.inl none) (ks_set h b (ks_rehook S ln t x))) 10 [some (.ref b), some (.int (nI ln)), some (.int (mm_enc t)), some (.int (mm_enc x)), some (.int (nI (ks_mask S x))), some (.int (nI i))] [] (ks_set h b (S.1, S.2.1, S.2.2.1, S.2.2.2.1, ks_rh S ln t (ks_mask S x) i)) := by
    intro j
    induction j with
    | zero =>
      intro i hi
      have hi : i = 24 := by omega
      subst hi
      refine mm_iload dS_rehook_10 rfl ?_
      refine mm_bipush (v := nI 24) dS_rehook_12 (by decide) ?_
      refine mm_icmp_ge_T (tgt := 59) dS_rehook_14 (by decide) (nI_le (by omega) (by omega)) ?_
      refine mm_return dS_rehook_59 rfl ?_
      exact ⟨rfl, rfl⟩
    | succ j ih =>
      intro i hi
      have a1 := ks_set_at (h := h) (b := b) (S.1, S.2.1, S.2.2.1, S.2.2.2.1, ks_rh S ln t (ks_mask S x) i) hb
      have hl : mm_lt (S.1 (i / 2)) 13 := o.lt (k := 0) (by show i / 2 < 12; omega)
      refine mm_iload dS_rehook_10 rfl ?_
      refine mm_bipush (v := nI 24) dS_rehook_12 (by decide) ?_
      refine mm_icmp_ge_F (tgt := 59) dS_rehook_14 (by decide) (nI_ge (by omega) (by omega)) ?_
      refine mm_aload_n dS_rehook_17 rfl rfl ?_
      refine mm_getf dS_rehook_18 fS_24 a1.1 rfl ?_
      refine mm_iload dS_rehook_21 rfl ?_
      refine mm_iaload dS_rehook_23 a1.2.2.2.2.2 rfl (by omega) (by decide) ?_
      refine mm_top (v' := .int (mm_enc (S.2.2.2.2 i))) (congrArg (fun z => Value.int (mm_enc z)) (ks_rh_at S ln t (ks_mask S x) i)) ?_
      refine mm_iload_n dS_rehook_24 rfl rfl ?_
      refine mm_icmp_ne_k (tgt := 53) dS_rehook_25 (by decide) ((o.hk (by omega)).sm (by decide)) hln (fun q25 => ?_) (fun q25 => ?_)
      · refine mm_iinc dS_rehook_53 (by decide) rfl (mm_inc _) rfl ?_
        refine mm_goto (tgt := 10) dS_rehook_56 (by decide) ?_
        have hh := ih (i + 1) (by omega)
        rw [← ks_rh_f (fun h9 => q25 h9.1)] at hh
        exact hh
      · refine mm_iload dS_rehook_28 rfl ?_
        refine mm_aload_n dS_rehook_30 rfl rfl ?_
        refine mm_getf dS_rehook_31 fS_9 a1.1 rfl ?_
        refine mm_iload dS_rehook_34 rfl ?_
        refine mm_iconst (v := nI 2) dS_rehook_36 (by decide) ?_
        refine mm_idiv dS_rehook_37 (by decide) ?_
        refine mm_iaload dS_rehook_38 a1.2.1 (pk_div (by omega) (by decide) (by decide)) (by omega) (by decide) ?_
        refine mm_s2 dS_rehook_39 lS_52 rfl rfl (by decide) (Nat.le_of_ble_eq_true rfl) (kC_isAmong hm (o := S.1 (i / 2)) (fun x e => Nat.lt_trans (hl x e) (by decide))) ?_
        refine mm_if_eq_b (tgt := 53) dS_rehook_42 (by decide) (fun q42 => ?_) (fun q42 => ?_)
        · refine mm_iinc dS_rehook_53 (by decide) rfl (mm_inc _) rfl ?_
          refine mm_goto (tgt := 10) dS_rehook_56 (by decide) ?_
          have hh := ih (i + 1) (by omega)
          rw [← ks_rh_f (fun h9 => by rw [q42] at h9; exact absurd h9.2 (by decide))] at hh
          exact hh
        · refine mm_aload_n dS_rehook_45 rfl rfl ?_
          refine mm_getf dS_rehook_46 fS_24 a1.1 rfl ?_
          refine mm_iload dS_rehook_49 rfl ?_
          refine mm_iload_n dS_rehook_51 rfl rfl ?_
          refine mm_iastore dS_rehook_52 a1.2.2.2.2.2 rfl (by omega) (by decide) ?_
          rw [ks_u_enc, ks_rh_t q25 q42]
          refine mm_eqh (ks_up_hook a1 _).symm ?_
          rw [ks_set_set]
          refine mm_iinc dS_rehook_53 (by decide) rfl (mm_inc _) rfl ?_
          refine mm_goto (tgt := 10) dS_rehook_56 (by decide) ?_
          have hh := ih (i + 1) (by omega)
          exact hh
  show mm_W Γ l mS_rehook (d + 4) _ 0 [some (.ref b), some (.int (nI ln)), some (.int (mm_enc t)), some (.int (mm_enc x)), none, none] [] h
  refine mm_aload_n dS_rehook_0 rfl rfl ?_
  refine mm_iload_n dS_rehook_1 rfl rfl ?_
  refine mm_v1 dS_rehook_2 lS_71 a.1 rfl (by decide) (Nat.le_of_ble_eq_true rfl) (kS_areasWithin a o hx) ?_
  refine mm_istore dS_rehook_5 (by decide) rfl ?_
  refine mm_iconst (v := nI 0) dS_rehook_7 (by decide) ?_
  refine mm_istore dS_rehook_8 (by decide) rfl ?_
  have hh := loop 24 0 rfl
  rw [ks_rh_0] at hh
  rw [show ks_set h b (S.1, S.2.1, S.2.2.1, S.2.2.2.1, S.2.2.2.2) = h from ks_at_set a] at hh
  exact hh
theorem ks_two {c : Nat} (hc : c < 13) : nI 1 <<< (nI c &&& 31) = nI (2 ^ c) := by
  have h13 : 2 ^ c ≤ 2 ^ 12 := Nat.pow_le_pow_right (by decide) (by omega)
  rw [kb_shl (by omega) (by omega), Nat.one_mul]
theorem ks_two_lt {c : Nat} (hc : c < 13) : 2 ^ c < 2 ^ 31 := by
  have h13 : 2 ^ c ≤ 2 ^ 12 := Nat.pow_le_pow_right (by decide) (by omega)
  omega
theorem kS_alone (a : ks_at h b S) (o : ks_ok S) {c : Nat} (hc : c < 13) : mm_Ev Γ l (d + 2) mS_holdsOneCutAlone [.ref b, .int (nI c)] h (mm_is (.inl (some (.int (mm_bI (ks_alone S c))))) h) := by
  show mm_W Γ l mS_holdsOneCutAlone (d + 2) _ 0 [some (.ref b), some (.int (nI c)), none] [] h
  have hm := ks_two_lt hc
  have l0 := ks_many_le o 0 (2 ^ c)
  have l1 := ks_many_le o 1 (2 ^ c)
  have l2 := ks_many_le o 2 (2 ^ c)
  have e0 := ks_len_le 0
  have e1 := ks_len_le 1
  have e2 := ks_len_le 2
  refine mm_iconst (v := nI 1) dS_holdsOneCutAlone_0 (by decide) ?_
  refine mm_iload_n dS_holdsOneCutAlone_1 rfl rfl ?_
  refine mm_ishl dS_holdsOneCutAlone_2 ?_
  refine mm_top (v' := .int (nI (2 ^ c))) (congrArg Value.int (ks_two hc)) ?_
  refine mm_istore_n dS_holdsOneCutAlone_3 rfl (by decide) rfl ?_
  refine mm_aload_n dS_holdsOneCutAlone_4 rfl rfl ?_
  refine mm_iconst (v := nI 1) dS_holdsOneCutAlone_5 (by decide) ?_
  refine mm_iload_n dS_holdsOneCutAlone_6 rfl rfl ?_
  refine mm_v2 dS_holdsOneCutAlone_7 lS_41 a.1 rfl rfl (by decide) (Nat.le_of_ble_eq_true rfl) (kS_howManyIn a o (by decide) hm) ?_
  refine mm_iconst (v := nI 1) dS_holdsOneCutAlone_10 (by decide) ?_
  refine mm_icmp_ne_n (tgt := 36) dS_holdsOneCutAlone_11 (by decide) (by omega) (by decide) (fun q11 => ?_) (fun q11 => ?_)
  · refine mm_iconst (v := nI 0) dS_holdsOneCutAlone_36 (by decide) ?_
    refine mm_zreturn dS_holdsOneCutAlone_37 rfl rfl ?_
    exact mm_f0 (by simp [ks_alone, q11])
  · refine mm_aload_n dS_holdsOneCutAlone_14 rfl rfl ?_
    refine mm_iconst (v := nI 0) dS_holdsOneCutAlone_15 (by decide) ?_
    refine mm_iload_n dS_holdsOneCutAlone_16 rfl rfl ?_
    refine mm_v2 dS_holdsOneCutAlone_17 lS_41 a.1 rfl rfl (by decide) (Nat.le_of_ble_eq_true rfl) (kS_howManyIn a o (by decide) hm) ?_
    refine mm_if_ne_n (tgt := 36) dS_holdsOneCutAlone_20 (by decide) (by omega) (fun q20 => ?_) (fun q20 => ?_)
    · refine mm_iconst (v := nI 0) dS_holdsOneCutAlone_36 (by decide) ?_
      refine mm_zreturn dS_holdsOneCutAlone_37 rfl rfl ?_
      exact mm_f0 (by simp [ks_alone, q20])
    · refine mm_aload_n dS_holdsOneCutAlone_23 rfl rfl ?_
      refine mm_iconst (v := nI 2) dS_holdsOneCutAlone_24 (by decide) ?_
      refine mm_iload_n dS_holdsOneCutAlone_25 rfl rfl ?_
      refine mm_v2 dS_holdsOneCutAlone_26 lS_41 a.1 rfl rfl (by decide) (Nat.le_of_ble_eq_true rfl) (kS_howManyIn a o (by decide) hm) ?_
      refine mm_if_ne_n (tgt := 36) dS_holdsOneCutAlone_29 (by decide) (by omega) (fun q29 => ?_) (fun q29 => ?_)
      · refine mm_iconst (v := nI 0) dS_holdsOneCutAlone_36 (by decide) ?_
        refine mm_zreturn dS_holdsOneCutAlone_37 rfl rfl ?_
        exact mm_f0 (by simp [ks_alone, q11, q20, q29])
      · refine mm_iconst (v := nI 1) dS_holdsOneCutAlone_32 (by decide) ?_
        refine mm_goto (tgt := 37) dS_holdsOneCutAlone_33 (by decide) ?_
        refine mm_zreturn dS_holdsOneCutAlone_37 rfl rfl ?_
        exact mm_f1 (by simp [ks_alone, q11, q20, q29])
theorem ks_ok_putI {S : ks_S} (o : ks_ok S) (k n : Int32) {x : Option Nat} (hx : mm_lt x 13) : ks_ok (ks_putI S k n x) := by
  unfold ks_putI
  by_cases hh : ks_hasI S k n = true
  · rw [if_pos hh]
    obtain ⟨k', n', y, rfl, rfl, h1, h2, h3⟩ := ks_hasI_true hh
    have := ks_len_le k'
    rw [nI_clamp (by omega), nI_clamp (by omega)]
    refine ks_ok_put o h1 (fun i z hi e => ?_) (fun e => ?_)
    · unfold ks_u at e
      by_cases hin : i = n'
      · rw [if_pos hin] at e; exact hx z e
      · rw [if_neg hin] at e; exact o.1 k' i z hi e
    · subst e
      unfold ks_u
      by_cases h0 : 0 = n'
      · subst h0
        have h4 : ks_row S 1 0 = none := o.2.2.2
        rw [h4] at h3
        cases h3
      · rw [if_neg h0]; exact o.2.2.2
  · rw [if_neg hh]; exact o
theorem ks_ok_rdStep {S : ks_S} (o : ks_ok S) {c : Nat} {x : Option Nat} (hx : mm_lt x 13) (i : Nat) : ks_ok (ks_rdStep S c x i) := by
  unfold ks_rdStep
  by_cases hh : S.2.1 i = some c
  · rw [if_pos hh]; exact ks_ok_putI (ks_ok_moves o hx (by decide)) _ _ mm_lt_none
  · rw [if_neg hh]; exact o
theorem kS_undouble (a : ks_at h b S) (o : ks_ok S) {c : Nat} (hc : c < 13) : mm_Ev Γ l (d + 3) mS_removeDoubleCut [.ref b, .int (nI c)] h (mm_is (.inl none) (ks_set h b (ks_undouble S c))) := by
  have hb := a.1
  have hx := ks_area_lt o (nI 1) (nI c)
  have loop : ∀ (j i : Nat) (U : ks_S), i + j = 13 → ks_ok U → mm_W Γ l mS_removeDoubleCut (d + 3) (mm_is (.inl none) (ks_set h b (ks_putI (ks_rdLoop c (ks_areaI S (nI 1) (nI c)) i j U) (nI 1) (nI c) none))) 9 [some (.ref b), some (.int (nI c)), some (.int (mm_enc (ks_areaI S (nI 1) (nI c)))), some (.int (nI i))] [] (ks_set h b U) := by
    intro j
    induction j with
    | zero =>
      intro i U hi ok
      have a1 := ks_set_at (h := h) (b := b) U hb
      refine mm_iload_n dS_removeDoubleCut_9 rfl rfl ?_
      refine mm_bipush (v := nI 13) dS_removeDoubleCut_10 (by decide) ?_
      refine mm_icmp_ge_T (tgt := 46) dS_removeDoubleCut_12 (by decide) (nI_le (by omega) (by omega)) ?_
      refine mm_aload_n dS_removeDoubleCut_46 rfl rfl ?_
      refine mm_iconst (v := nI 1) dS_removeDoubleCut_47 (by decide) ?_
      refine mm_iload_n dS_removeDoubleCut_48 rfl rfl ?_
      refine mm_iconst (v := -1) dS_removeDoubleCut_49 (by decide) ?_
      refine mm_v3 dS_removeDoubleCut_50 lS_78 a1.1 rfl rfl rfl (by decide) (Nat.le_of_ble_eq_true rfl) (kS_put a1 ok (nI 1) (nI c) (x := none)) ?_
      refine mm_return dS_removeDoubleCut_53 rfl ?_
      exact ⟨rfl, by rw [ks_set_set]; rfl⟩
    | succ j ih =>
      intro i U hi ok
      have a1 := ks_set_at (h := h) (b := b) U hb
      have hs : mm_W Γ l mS_removeDoubleCut (d + 3) (mm_is (.inl none) (ks_set h b (ks_putI (ks_rdLoop c (ks_areaI S (nI 1) (nI c)) i (j + 1) U) (nI 1) (nI c) none))) 9 [some (.ref b), some (.int (nI c)), some (.int (mm_enc (ks_areaI S (nI 1) (nI c)))), some (.int (nI (i + 1)))] [] (ks_set h b (ks_rdStep U c (ks_areaI S (nI 1) (nI c)) i)) := ih (i + 1) (ks_rdStep U c (ks_areaI S (nI 1) (nI c)) i) (by omega) (ks_ok_rdStep ok hx i)
      have a2 := ks_set_at (h := h) (b := b) (ks_moves U (2 ^ i) (ks_areaI S (nI 1) (nI c)) 3) hb
      have ok2 := ks_ok_moves (m := 2 ^ i) ok hx (k := 3) (by decide)
      refine mm_iload_n dS_removeDoubleCut_9 rfl rfl ?_
      refine mm_bipush (v := nI 13) dS_removeDoubleCut_10 (by decide) ?_
      refine mm_icmp_ge_F (tgt := 46) dS_removeDoubleCut_12 (by decide) (nI_ge (by omega) (by omega)) ?_
      refine mm_aload_n dS_removeDoubleCut_15 rfl rfl ?_
      refine mm_getf dS_removeDoubleCut_16 fS_15 a1.1 rfl ?_
      refine mm_iload_n dS_removeDoubleCut_19 rfl rfl ?_
      refine mm_iaload dS_removeDoubleCut_20 a1.2.2.1 rfl (by omega) (by decide) ?_
      refine mm_iload_n dS_removeDoubleCut_21 rfl rfl ?_
      refine mm_icmp_ne_k (tgt := 40) dS_removeDoubleCut_22 (by decide) (ok.sm (k := 1) (by show i < 13; omega)) (by omega) (fun q22 => ?_) (fun q22 => ?_)
      · refine mm_iinc dS_removeDoubleCut_40 (by decide) rfl (mm_inc _) rfl ?_
        refine mm_goto (tgt := 9) dS_removeDoubleCut_43 (by decide) ?_
        rw [show ks_rdStep U c (ks_areaI S (nI 1) (nI c)) i = U from if_neg q22] at hs
        exact hs
      · refine mm_aload_n dS_removeDoubleCut_25 rfl rfl ?_
        refine mm_iconst (v := nI 1) dS_removeDoubleCut_26 (by decide) ?_
        refine mm_iload_n dS_removeDoubleCut_27 rfl rfl ?_
        refine mm_ishl dS_removeDoubleCut_28 ?_
        refine mm_top (v' := .int (nI (2 ^ i))) (congrArg Value.int (ks_two (by omega))) ?_
        refine mm_iload_n dS_removeDoubleCut_29 rfl rfl ?_
        refine mm_v2 dS_removeDoubleCut_30 lS_74 a1.1 rfl rfl (by decide) (Nat.le_of_ble_eq_true rfl) (kS_putAll a1 ok (ks_two_lt (by omega)) hx) ?_
        rw [ks_set_set]
        refine mm_aload_n dS_removeDoubleCut_33 rfl rfl ?_
        refine mm_iconst (v := nI 1) dS_removeDoubleCut_34 (by decide) ?_
        refine mm_iload_n dS_removeDoubleCut_35 rfl rfl ?_
        refine mm_iconst (v := -1) dS_removeDoubleCut_36 (by decide) ?_
        refine mm_v3 dS_removeDoubleCut_37 lS_78 a2.1 rfl rfl rfl (by decide) (Nat.le_of_ble_eq_true rfl) (kS_put a2 ok2 (nI 1) (nI i) (x := none)) ?_
        rw [ks_set_set]
        refine mm_iinc dS_removeDoubleCut_40 (by decide) rfl (mm_inc _) rfl ?_
        refine mm_goto (tgt := 9) dS_removeDoubleCut_43 (by decide) ?_
        rw [show ks_rdStep U c (ks_areaI S (nI 1) (nI c)) i = ks_putI (ks_moves U (2 ^ i) (ks_areaI S (nI 1) (nI c)) 3) (nI 1) (nI i) none from if_pos q22] at hs
        exact hs
  show mm_W Γ l mS_removeDoubleCut (d + 3) _ 0 [some (.ref b), some (.int (nI c)), none, none] [] h
  refine mm_aload_n dS_removeDoubleCut_0 rfl rfl ?_
  refine mm_iconst (v := nI 1) dS_removeDoubleCut_1 (by decide) ?_
  refine mm_iload_n dS_removeDoubleCut_2 rfl rfl ?_
  refine mm_v2 dS_removeDoubleCut_3 lS_55 a.1 rfl rfl (by decide) (Nat.le_of_ble_eq_true rfl) (kS_areaOf a o (nI 1) (nI c)) ?_
  refine mm_istore_n dS_removeDoubleCut_6 rfl (by decide) rfl ?_
  refine mm_iconst (v := nI 1) dS_removeDoubleCut_7 (by decide) ?_
  refine mm_istore_n dS_removeDoubleCut_8 rfl (by decide) rfl ?_
  have hh := loop 12 1 S rfl o
  rw [ks_at_set a] at hh
  exact hh
theorem ks_freeN_le (S : ks_S) (k : Nat) : ks_freeN S k ≤ 13 := by
  have := ks_len_le k
  unfold ks_freeN
  omega
theorem kS_room (a : ks_at h b S) (o : ks_ok S) (k n : Int32) {x : Option Nat} (hx : ¬ k = 0 → n = mm_enc x ∧ mm_sm x) : mm_Ev Γ l (d + 4) mS_hasRoomForCopy [.ref b, .int k, .int n] h (mm_is (.inl (some (.int (mm_bI (ks_room S k x))))) h) := by
  show mm_W Γ l mS_hasRoomForCopy (d + 4) _ 0 [some (.ref b), some (.int k), some (.int n), none] [] h
  have f0 := ks_freeN_le S 0
  have f1 := ks_freeN_le S 1
  have f2 := ks_freeN_le S 2
  have hm := ks_mask_lt S x
  have l0 := ks_many_le o 0 (ks_mask S x)
  have l1 := ks_many_le o 1 (ks_mask S x)
  have l2 := ks_many_le o 2 (ks_mask S x)
  have e0 := ks_len_le 0
  have e1 := ks_len_le 1
  have e2 := ks_len_le 2
  refine mm_iload_n dS_hasRoomForCopy_0 rfl rfl ?_
  refine mm_if_ne (tgt := 18) dS_hasRoomForCopy_1 (by decide) (fun q1 => ?_) (fun q1 => ?_)
  · obtain ⟨rfl, hs⟩ := hx q1
    refine mm_aload_n dS_hasRoomForCopy_18 rfl rfl ?_
    refine mm_iload_n dS_hasRoomForCopy_19 rfl rfl ?_
    refine mm_v1 dS_hasRoomForCopy_20 lS_71 a.1 rfl (by decide) (Nat.le_of_ble_eq_true rfl) (kS_areasWithin a o hs) ?_
    refine mm_istore_n dS_hasRoomForCopy_23 rfl (by decide) rfl ?_
    refine mm_aload_n dS_hasRoomForCopy_24 rfl rfl ?_
    refine mm_iconst (v := nI 1) dS_hasRoomForCopy_25 (by decide) ?_
    refine mm_v1 dS_hasRoomForCopy_26 lS_82 a.1 rfl (by decide) (Nat.le_of_ble_eq_true rfl) (kS_free a o (by decide)) ?_
    refine mm_aload_n dS_hasRoomForCopy_29 rfl rfl ?_
    refine mm_iconst (v := nI 1) dS_hasRoomForCopy_30 (by decide) ?_
    refine mm_iload_n dS_hasRoomForCopy_31 rfl rfl ?_
    refine mm_v2 dS_hasRoomForCopy_32 lS_41 a.1 rfl rfl (by decide) (Nat.le_of_ble_eq_true rfl) (kS_howManyIn a o (by decide) hm) ?_
    refine mm_icmp_le_n (tgt := 70) dS_hasRoomForCopy_35 (by decide) (by omega) (by omega) (fun q35 => ?_) (fun q35 => ?_)
    · refine mm_iconst (v := nI 0) dS_hasRoomForCopy_70 (by decide) ?_
      refine mm_zreturn dS_hasRoomForCopy_71 rfl rfl ?_
      exact mm_f0 (by unfold ks_room; rw [if_neg q1, decide_eq_false (by omega)]; rfl)
    · refine mm_aload_n dS_hasRoomForCopy_38 rfl rfl ?_
      refine mm_iconst (v := nI 2) dS_hasRoomForCopy_39 (by decide) ?_
      refine mm_v1 dS_hasRoomForCopy_40 lS_82 a.1 rfl (by decide) (Nat.le_of_ble_eq_true rfl) (kS_free a o (by decide)) ?_
      refine mm_aload_n dS_hasRoomForCopy_43 rfl rfl ?_
      refine mm_iconst (v := nI 2) dS_hasRoomForCopy_44 (by decide) ?_
      refine mm_iload_n dS_hasRoomForCopy_45 rfl rfl ?_
      refine mm_v2 dS_hasRoomForCopy_46 lS_41 a.1 rfl rfl (by decide) (Nat.le_of_ble_eq_true rfl) (kS_howManyIn a o (by decide) hm) ?_
      refine mm_icmp_lt_n (tgt := 70) dS_hasRoomForCopy_49 (by decide) (by omega) (by omega) (fun q49 => ?_) (fun q49 => ?_)
      · refine mm_iconst (v := nI 0) dS_hasRoomForCopy_70 (by decide) ?_
        refine mm_zreturn dS_hasRoomForCopy_71 rfl rfl ?_
        exact mm_f0 (by unfold ks_room; rw [if_neg q1, decide_eq_true (by omega), decide_eq_false (by omega)]; rfl)
      · refine mm_aload_n dS_hasRoomForCopy_52 rfl rfl ?_
        refine mm_iconst (v := nI 0) dS_hasRoomForCopy_53 (by decide) ?_
        refine mm_v1 dS_hasRoomForCopy_54 lS_82 a.1 rfl (by decide) (Nat.le_of_ble_eq_true rfl) (kS_free a o (by decide)) ?_
        refine mm_aload_n dS_hasRoomForCopy_57 rfl rfl ?_
        refine mm_iconst (v := nI 0) dS_hasRoomForCopy_58 (by decide) ?_
        refine mm_iload_n dS_hasRoomForCopy_59 rfl rfl ?_
        refine mm_v2 dS_hasRoomForCopy_60 lS_41 a.1 rfl rfl (by decide) (Nat.le_of_ble_eq_true rfl) (kS_howManyIn a o (by decide) hm) ?_
        refine mm_icmp_lt_n (tgt := 70) dS_hasRoomForCopy_63 (by decide) (by omega) (by omega) (fun q63 => ?_) (fun q63 => ?_)
        · refine mm_iconst (v := nI 0) dS_hasRoomForCopy_70 (by decide) ?_
          refine mm_zreturn dS_hasRoomForCopy_71 rfl rfl ?_
          exact mm_f0 (by unfold ks_room; rw [if_neg q1, decide_eq_true (show ks_many S 1 (ks_mask S x) < ks_freeN S 1 by omega), decide_eq_true (show ks_many S 2 (ks_mask S x) ≤ ks_freeN S 2 by omega), decide_eq_false (show ¬ ks_many S 0 (ks_mask S x) ≤ ks_freeN S 0 by omega)]; rfl)
        · refine mm_iconst (v := nI 1) dS_hasRoomForCopy_66 (by decide) ?_
          refine mm_goto (tgt := 71) dS_hasRoomForCopy_67 (by decide) ?_
          refine mm_zreturn dS_hasRoomForCopy_71 rfl rfl ?_
          exact mm_f1 (by unfold ks_room; rw [if_neg q1, decide_eq_true (show ks_many S 1 (ks_mask S x) < ks_freeN S 1 by omega), decide_eq_true (show ks_many S 2 (ks_mask S x) ≤ ks_freeN S 2 by omega), decide_eq_true (show ks_many S 0 (ks_mask S x) ≤ ks_freeN S 0 by omega)]; rfl)
  · refine mm_aload_n dS_hasRoomForCopy_4 rfl rfl ?_
    refine mm_iconst (v := nI 0) dS_hasRoomForCopy_5 (by decide) ?_
    refine mm_v1 dS_hasRoomForCopy_6 lS_82 a.1 rfl (by decide) (Nat.le_of_ble_eq_true rfl) (kS_free a o (by decide)) ?_
    refine mm_if_le_n (tgt := 16) dS_hasRoomForCopy_9 (by decide) (by omega) (fun q9 => ?_) (fun q9 => ?_)
    · refine mm_iconst (v := nI 0) dS_hasRoomForCopy_16 (by decide) ?_
      refine mm_zreturn dS_hasRoomForCopy_17 rfl rfl ?_
      exact mm_f0 (by simp [ks_room, q1, q9])
    · refine mm_iconst (v := nI 1) dS_hasRoomForCopy_12 (by decide) ?_
      refine mm_goto (tgt := 17) dS_hasRoomForCopy_13 (by decide) ?_
      refine mm_zreturn dS_hasRoomForCopy_17 rfl rfl ?_
      exact mm_f1 (by simp [ks_room, q1, q9])
end KS4
