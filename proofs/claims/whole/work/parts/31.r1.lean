/-! Contracts of Reading. Printed by wip/whole/spec/r1.py -/
theorem ks_at_read {h : mm_H} {b r : Nat} {S : ks_S} (X : kr_X) (a : ks_at h b S) (hd : r + 2 < b ∨ b + 5 < r) : ks_at (kr_set h r X) b S := by
  obtain ⟨a0, a1, a2, a3, a4, a5⟩ := a
  exact ⟨by rw [kr_set_out _ _ _ (by omega)]; exact a0, by rw [kr_set_out _ _ _ (by omega)]; exact a1, by rw [kr_set_out _ _ _ (by omega)]; exact a2, by rw [kr_set_out _ _ _ (by omega)]; exact a3, by rw [kr_set_out _ _ _ (by omega)]; exact a4, by rw [kr_set_out _ _ _ (by omega)]; exact a5⟩
section KR1
variable {Γ : mm_G} {l : Launch} {d : Nat} {h : mm_H} {b r : Nat} {S : ks_S}
theorem kC_places {sg : Nat} (hs : sg < 2 ^ 31) : mm_Ev Γ l d mC_placesOf [.int (nI sg)] h (mm_is (.inl (some (.int (nI (kc_places sg))))) h) := by
  show mm_W Γ l mC_placesOf d _ 0 [some (.int (nI sg))] [] h
  refine mm_iload_n dC_placesOf_0 rfl rfl ?_
  refine mm_iconst (v := nI 2) dC_placesOf_1 (by decide) ?_
  refine mm_icmp_ge_n (tgt := 9) dC_placesOf_2 (by decide) hs (by decide) (fun q2 => ?_) (fun q2 => ?_)
  · refine mm_iload_n dC_placesOf_9 rfl rfl ?_
    refine mm_iconst (v := nI 1) dC_placesOf_10 (by decide) ?_
    refine mm_isub dC_placesOf_11 ?_
    refine mm_ireturn dC_placesOf_12 rfl ?_
    exact ⟨by unfold kc_places; rw [if_neg (by omega), pk_sub (by omega)], rfl⟩
  · refine mm_iconst (v := nI 0) dC_placesOf_5 (by decide) ?_
    refine mm_goto (tgt := 12) dC_placesOf_6 (by decide) ?_
    refine mm_ireturn dC_placesOf_12 rfl ?_
    exact ⟨by unfold kc_places; rw [if_pos (by omega)], rfl⟩
theorem kR_add (X : kr_X) (o : kr_ok X) (t : Nat) : mm_Ev Γ l d mR_add [.ref r, .int (nI t)] (kr_set h r X) (mm_is (.inl none) (kr_set h r (kr_add X t))) := by
  have a := kr_set_at h r X
  have o1 := o.1
  show mm_W Γ l mR_add d _ 0 [some (.ref r), some (.int (nI t))] [] _
  refine mm_aload_n dR_add_0 rfl rfl ?_
  refine mm_getf dR_add_1 fR_15 a.1 rfl ?_
  refine mm_aload_n dR_add_4 rfl rfl ?_
  refine mm_getf dR_add_5 fR_9 a.1 rfl ?_
  refine mm_alen dR_add_8 a.2.1 (by decide) rfl ?_
  refine mm_icmp_ge_n (tgt := 32) dR_add_9 (by decide) (by omega) (by decide) (fun q9 => ?_) (fun q9 => ?_)
  · refine mm_return dR_add_32 rfl ?_
    exact ⟨rfl, by unfold kr_add; rw [if_neg (by omega)]⟩
  · refine mm_aload_n dR_add_12 rfl rfl ?_
    refine mm_getf dR_add_13 fR_9 a.1 rfl ?_
    refine mm_aload_n dR_add_16 rfl rfl ?_
    refine mm_getf dR_add_17 fR_15 a.1 rfl ?_
    refine mm_iload_n dR_add_20 rfl rfl ?_
    refine mm_iastore dR_add_21 a.2.1 rfl q9 (by decide) ?_
    rw [ks_un_enc]
    refine mm_eqh (kr_up_tok h r X _).symm ?_
    have a1 := kr_set_at h r (ks_un X.1 X.2.1 t, X.2)
    refine mm_aload_n dR_add_22 rfl rfl ?_
    refine mm_dup dR_add_23 rfl ?_
    refine mm_getf dR_add_24 fR_15 a1.1 rfl ?_
    refine mm_iconst (v := nI 1) dR_add_27 (by decide) ?_
    refine mm_iadd dR_add_28 ?_
    refine mm_top (v' := .int (nI (X.2.1 + 1))) (congrArg Value.int (nI_add X.2.1 1)) ?_
    refine mm_putf dR_add_29 fR_15 rfl rfl rfl rfl a1.1 (Nat.le_of_ble_eq_true rfl) ?_
    refine mm_eqh (kr_up_obj h r (ks_un X.1 X.2.1 t, X.2) (ks_un X.1 X.2.1 t, X.2.1 + 1, X.2.2) rfl rfl).symm ?_
    refine mm_return dR_add_32 rfl ?_
    exact ⟨rfl, by unfold kr_add; rw [if_pos q9]⟩
theorem kR_line (X : kr_X) (o : kr_ok X) (a : ks_at h b S) (os : ks_ok S) (hd : r + 2 < b ∨ b + 5 < r) {x : Option Nat} (hx : mm_lt x 6) : mm_Ev Γ l (d + 1) mR_addLine [.ref r, .ref b, .int (mm_enc x)] (kr_set h r X) (mm_is (.inl none) (kr_set h r (kr_line S X x))) := by
  have a0 := kr_set_at h r X
  have ab := ks_at_read X a hd
  show mm_W Γ l mR_addLine (d + 1) _ 0 [some (.ref r), some (.ref b), some (.int (mm_enc x)), none] [] _
  cases x with
  | none =>
    refine mm_iload_n dR_addLine_0 rfl rfl ?_
    refine mm_iconst (v := -1) dR_addLine_1 (by decide) ?_
    refine mm_icmp_ne_F (tgt := 9) dR_addLine_2 (by decide) rfl ?_
    refine mm_iconst (v := -1) dR_addLine_5 (by decide) ?_
    refine mm_goto (tgt := 15) dR_addLine_6 (by decide) ?_
    refine mm_istore_n dR_addLine_15 rfl (by decide) rfl ?_
    refine mm_aload_n dR_addLine_16 rfl rfl ?_
    refine mm_getf dR_addLine_17 fR_19 a0.1 rfl ?_
    refine mm_iload_n dR_addLine_20 rfl rfl ?_
    refine mm_s2 dR_addLine_21 lR_73 rfl rfl (by decide) (Nat.le_of_ble_eq_true rfl) (kC_isAmong o.2.1 (o := none) mm_lt_none) ?_
    refine mm_if_ne_b (tgt := 36) dR_addLine_24 (by decide) (fun q24 => ?_) (fun q24 => ?_)
    · exact absurd q24 (by show ¬ (false = true); decide)
      
    · refine mm_aload_n dR_addLine_27 rfl rfl ?_
      refine mm_bipush (v := nI 100) dR_addLine_28 (by decide) ?_
      refine mm_iload_n dR_addLine_30 rfl rfl ?_
      refine mm_iadd dR_addLine_31 ?_
      refine mm_top (v' := .int (nI 99)) rfl ?_
      refine mm_v1 dR_addLine_32 lR_61 a0.1 rfl (by decide) (Nat.le_of_ble_eq_true rfl) (kR_add X o 99) ?_
      refine mm_return dR_addLine_35 rfl ?_
      exact ⟨rfl, rfl⟩
  | some n =>
    have hn := hx n rfl
    have hl : mm_lt (S.2.2.1 n) 13 := os.lt (k := 2) hn
    refine mm_iload_n dR_addLine_0 rfl rfl ?_
    refine mm_iconst (v := -1) dR_addLine_1 (by decide) ?_
    refine mm_icmp_ne_T (tgt := 9) dR_addLine_2 (by decide) (mm_neg_ne (by omega)) ?_
    refine mm_aload_n dR_addLine_9 rfl rfl ?_
    refine mm_getf dR_addLine_10 fR_46 ab.1 rfl ?_
    refine mm_iload_n dR_addLine_13 rfl rfl ?_
    refine mm_iaload dR_addLine_14 ab.2.2.2.1 rfl hn (by decide) ?_
    refine mm_istore_n dR_addLine_15 rfl (by decide) rfl ?_
    refine mm_aload_n dR_addLine_16 rfl rfl ?_
    refine mm_getf dR_addLine_17 fR_19 a0.1 rfl ?_
    refine mm_iload_n dR_addLine_20 rfl rfl ?_
    refine mm_s2 dR_addLine_21 lR_73 rfl rfl (by decide) (Nat.le_of_ble_eq_true rfl) (kC_isAmong o.2.1 (o := S.2.2.1 n) (fun y e => Nat.lt_trans (hl y e) (by decide))) ?_
    refine mm_if_ne_b (tgt := 36) dR_addLine_24 (by decide) (fun q24 => ?_) (fun q24 => ?_)
    · refine mm_aload_n dR_addLine_36 rfl rfl ?_
      refine mm_getf dR_addLine_37 fR_22 a0.1 rfl ?_
      refine mm_iload_n dR_addLine_40 rfl rfl ?_
      refine mm_iaload dR_addLine_41 a0.2.2 rfl hn (by decide) ?_
      refine mm_iconst (v := -1) dR_addLine_42 (by decide) ?_
      refine mm_icmp_ne_o (tgt := 66) dR_addLine_43 (by decide) ((o.2.2.2 n hn).sm (by decide)) (fun q43 => ?_) (fun q43 => ?_)
      · have e1 : kr_ord X n = X := by unfold kr_ord; rw [if_neg q43]
        obtain ⟨v, hv⟩ := mm_some q43
        have a2 := kr_set_at h r X
        have o2 := o
        refine mm_aload_n dR_addLine_66 rfl rfl ?_
        refine mm_sipush (v := nI 200) dR_addLine_67 (by decide) ?_
        refine mm_aload_n dR_addLine_70 rfl rfl ?_
        refine mm_getf dR_addLine_71 fR_22 a2.1 rfl ?_
        refine mm_iload_n dR_addLine_74 rfl rfl ?_
        refine mm_iaload dR_addLine_75 a2.2.2 rfl hn (by decide) ?_
        refine mm_iadd dR_addLine_76 ?_
        refine mm_top (v' := .int (nI (200 + v))) (congrArg Value.int (by rw [hv]; exact nI_add 200 _)) ?_
        refine mm_v1 dR_addLine_77 lR_61 a2.1 rfl (by decide) (Nat.le_of_ble_eq_true rfl) (kR_add _ o2 (200 + v)) ?_
        refine mm_return dR_addLine_80 rfl ?_
        exact ⟨rfl, by show _ = kr_set h r (if ks_am X.2.2.1 (S.2.2.1 n) = true then _ else _); rw [if_pos q24, e1, hv]; rfl⟩
      · refine mm_aload_n dR_addLine_46 rfl rfl ?_
        refine mm_getf dR_addLine_47 fR_22 a0.1 rfl ?_
        refine mm_iload_n dR_addLine_50 rfl rfl ?_
        refine mm_aload_n dR_addLine_51 rfl rfl ?_
        refine mm_getf dR_addLine_52 fR_25 a0.1 rfl ?_
        refine mm_iastore dR_addLine_55 a0.2.2 rfl hn (by decide) ?_
        refine mm_eqh (show kr_set h r (X.1, X.2.1, X.2.2.1, ks_u X.2.2.2.1 n (some X.2.2.2.2), X.2.2.2.2) = _ by rw [← kr_up_ord]; unfold ks_arr; rw [← ks_u_enc]; rfl) ?_
        have a1 := kr_set_at h r (X.1, X.2.1, X.2.2.1, ks_u X.2.2.2.1 n (some X.2.2.2.2), X.2.2.2.2)
        refine mm_aload_n dR_addLine_56 rfl rfl ?_
        refine mm_dup dR_addLine_57 rfl ?_
        refine mm_getf dR_addLine_58 fR_25 a1.1 rfl ?_
        refine mm_iconst (v := nI 1) dR_addLine_61 (by decide) ?_
        refine mm_iadd dR_addLine_62 ?_
        refine mm_top (v' := .int (nI (X.2.2.2.2 + 1))) (congrArg Value.int (nI_add X.2.2.2.2 1)) ?_
        refine mm_putf dR_addLine_63 fR_25 rfl rfl rfl rfl a1.1 (Nat.le_of_ble_eq_true rfl) ?_
        refine mm_eqh (kr_up_obj h r (X.1, X.2.1, X.2.2.1, ks_u X.2.2.2.1 n (some X.2.2.2.2), X.2.2.2.2) (X.1, X.2.1, X.2.2.1, ks_u X.2.2.2.1 n (some X.2.2.2.2), X.2.2.2.2 + 1) rfl rfl).symm ?_
        have e1 : kr_ord X n = (X.1, X.2.1, X.2.2.1, ks_u X.2.2.2.1 n (some X.2.2.2.2), X.2.2.2.2 + 1) := by unfold kr_ord; rw [if_pos q43]
        have hv : ks_u X.2.2.2.1 n (some X.2.2.2.2) n = some X.2.2.2.2 := by unfold ks_u; rw [if_pos rfl]
        have a2 := kr_set_at h r (X.1, X.2.1, X.2.2.1, ks_u X.2.2.2.1 n (some X.2.2.2.2), X.2.2.2.2 + 1)
        have o2 := kr_ok_ord o hn
        rw [e1] at o2
        refine mm_aload_n dR_addLine_66 rfl rfl ?_
        refine mm_sipush (v := nI 200) dR_addLine_67 (by decide) ?_
        refine mm_aload_n dR_addLine_70 rfl rfl ?_
        refine mm_getf dR_addLine_71 fR_22 a2.1 rfl ?_
        refine mm_iload_n dR_addLine_74 rfl rfl ?_
        refine mm_iaload dR_addLine_75 a2.2.2 rfl hn (by decide) ?_
        refine mm_iadd dR_addLine_76 ?_
        refine mm_top (v' := .int (nI (200 + X.2.2.2.2))) (congrArg Value.int (by show nI 200 + mm_enc (ks_u X.2.2.2.1 n (some X.2.2.2.2) n) = _; rw [hv]; exact nI_add 200 _)) ?_
        refine mm_v1 dR_addLine_77 lR_61 a2.1 rfl (by decide) (Nat.le_of_ble_eq_true rfl) (kR_add _ o2 (200 + X.2.2.2.2)) ?_
        refine mm_return dR_addLine_80 rfl ?_
        exact ⟨rfl, by show _ = kr_set h r (if ks_am X.2.2.1 (S.2.2.1 n) = true then _ else _); rw [if_pos q24, e1]; show _ = kr_set h r (kr_add _ (200 + (ks_u X.2.2.2.1 n (some X.2.2.2.2) n).getD 0)); rw [hv]; rfl⟩
    · refine mm_aload_n dR_addLine_27 rfl rfl ?_
      refine mm_bipush (v := nI 100) dR_addLine_28 (by decide) ?_
      refine mm_iload_n dR_addLine_30 rfl rfl ?_
      refine mm_iadd dR_addLine_31 ?_
      refine mm_top (v' := .int (nI (100 + n))) (congrArg Value.int (nI_add 100 n)) ?_
      refine mm_v1 dR_addLine_32 lR_61 a0.1 rfl (by decide) (Nat.le_of_ble_eq_true rfl) (kR_add X o (100 + n)) ?_
      refine mm_return dR_addLine_35 rfl ?_
      exact ⟨rfl, by show kr_set h r (kr_add X (100 + n)) = kr_set h r (if ks_am X.2.2.1 (S.2.2.1 n) = true then _ else _); rw [if_neg (by rw [q24]; decide)]⟩
theorem kR_spot (X : kr_X) (o : kr_ok X) (a : ks_at h b S) (os : ks_ok S) (hd : r + 2 < b ∨ b + 5 < r) {s : Nat} (hs : s < 12) : mm_Ev Γ l (d + 2) mR_addSpot [.ref r, .ref b, .int (nI s)] (kr_set h r X) (mm_is (.inl none) (kr_set h r (kr_spot S X s))) := by
  have hsg := os.2.1 s hs
  have hpl := kc_places_le hsg
  have loop : ∀ (j i : Nat) (Y : kr_X), i + j = kc_places (S.2.2.2.1 s) → kr_ok Y → mm_W Γ l mR_addSpot (d + 2) (mm_is (.inl none) (kr_set h r (kr_hooks S s i j Y))) 15 [some (.ref r), some (.ref b), some (.int (nI s)), some (.int (nI i))] [] (kr_set h r Y) := by
    intro j
    induction j with
    | zero =>
      intro i Y hi oy
      have ab := ks_at_read Y a hd
      refine mm_iload_n dR_addSpot_15 rfl rfl ?_
      refine mm_aload_n dR_addSpot_16 rfl rfl ?_
      refine mm_getf dR_addSpot_17 fR_64 ab.1 rfl ?_
      refine mm_iload_n dR_addSpot_20 rfl rfl ?_
      refine mm_iaload dR_addSpot_21 ab.2.2.2.2.1 rfl hs (by decide) ?_
      refine mm_s1 dR_addSpot_22 lR_67 rfl (by decide) (Nat.le_of_ble_eq_true rfl) (kC_places (by omega)) ?_
      refine mm_icmp_ge_T (tgt := 49) dR_addSpot_25 (by decide) (nI_le (by omega) (by omega)) ?_
      refine mm_return dR_addSpot_49 rfl ?_
      exact ⟨rfl, rfl⟩
    | succ j ih =>
      intro i Y hi oy
      have ab := ks_at_read Y a hd
      have hk := os.hk (i := 2 * s + i) (by omega)
      refine mm_iload_n dR_addSpot_15 rfl rfl ?_
      refine mm_aload_n dR_addSpot_16 rfl rfl ?_
      refine mm_getf dR_addSpot_17 fR_64 ab.1 rfl ?_
      refine mm_iload_n dR_addSpot_20 rfl rfl ?_
      refine mm_iaload dR_addSpot_21 ab.2.2.2.2.1 rfl hs (by decide) ?_
      refine mm_s1 dR_addSpot_22 lR_67 rfl (by decide) (Nat.le_of_ble_eq_true rfl) (kC_places (by omega)) ?_
      refine mm_icmp_ge_F (tgt := 49) dR_addSpot_25 (by decide) (nI_ge (by omega) (by omega)) ?_
      refine mm_aload_n dR_addSpot_28 rfl rfl ?_
      refine mm_aload_n dR_addSpot_29 rfl rfl ?_
      refine mm_aload_n dR_addSpot_30 rfl rfl ?_
      refine mm_getf dR_addSpot_31 fR_70 ab.1 rfl ?_
      refine mm_iconst (v := nI 2) dR_addSpot_34 (by decide) ?_
      refine mm_iload_n dR_addSpot_35 rfl rfl ?_
      refine mm_imul dR_addSpot_36 ?_
      refine mm_iload_n dR_addSpot_37 rfl rfl ?_
      refine mm_iadd dR_addSpot_38 ?_
      refine mm_iaload dR_addSpot_39 ab.2.2.2.2.2 (show nI 2 * nI s + nI i = nI (2 * s + i) by rw [pk_mul, nI_add]) (by omega) (by decide) ?_
      refine mm_v2 dR_addSpot_40 lR_49 (kr_set_at h r Y).1 rfl rfl (by decide) (Nat.le_of_ble_eq_true rfl) (kR_line Y oy a os hd hk) ?_
      refine mm_iinc dR_addSpot_43 (by decide) rfl (mm_inc _) rfl ?_
      refine mm_goto (tgt := 15) dR_addSpot_46 (by decide) ?_
      exact ih (i + 1) _ (by omega) (kr_ok_line oy hk)
  have ab := ks_at_read X a hd
  show mm_W Γ l mR_addSpot (d + 2) _ 0 [some (.ref r), some (.ref b), some (.int (nI s)), none] [] _
  refine mm_aload_n dR_addSpot_0 rfl rfl ?_
  refine mm_bipush (v := nI 10) dR_addSpot_1 (by decide) ?_
  refine mm_aload_n dR_addSpot_3 rfl rfl ?_
  refine mm_getf dR_addSpot_4 fR_64 ab.1 rfl ?_
  refine mm_iload_n dR_addSpot_7 rfl rfl ?_
  refine mm_iaload dR_addSpot_8 ab.2.2.2.2.1 rfl hs (by decide) ?_
  refine mm_iadd dR_addSpot_9 ?_
  refine mm_top (v' := .int (nI (10 + S.2.2.2.1 s))) (congrArg Value.int (nI_add 10 _)) ?_
  refine mm_v1 dR_addSpot_10 lR_61 (kr_set_at h r X).1 rfl (by decide) (Nat.le_of_ble_eq_true rfl) (kR_add X o _) ?_
  refine mm_iconst (v := nI 0) dR_addSpot_13 (by decide) ?_
  refine mm_istore_n dR_addSpot_14 rfl (by decide) rfl ?_
  exact loop (kc_places (S.2.2.2.1 s)) 0 _ (by omega) (kr_ok_add o _)
end KR1
