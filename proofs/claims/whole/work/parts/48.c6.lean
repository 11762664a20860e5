/-! Contracts of CutSheets: hasAlike, uncopy. Printed by wip/whole/spec/c6.py -/
section KC6
variable {Γ : mm_G} {l : Launch} {d : Nat} {h : mm_H} {x : Nat} {C : kc_C}
theorem kC_hasAlike (A : kc_at h x C) (o : kc_ok C) (t1 : kr_tk C.2.1.2.1) (t2 : kr_tk C.2.1.2.2) {k n : Nat} (hk : k < 2) (hn : n < ks_len k) : mm_Ev Γ l (d + 40) mC_hasAlike [.ref x, .int (nI k), .int (nI n)] h (mm_is (.inl (some (.int (mm_bI (kc_alike C k n).1)))) (kr_set (kr_set h (x + 131) (kr_part (kc_S C) C.2.1.2.1 k n)) (x + 134) (kc_alike C k n).2)) := by
  have hn13 := ks_len_le k
  have hmv := o.2.1
  have hbb : kc_b x C.2.2.2.2.2 = x + 2 + 6 * C.2.2.2.2.2 := rfl
  have hal := ks_area_lt (kc_okS o) (nI k) (nI n)
  have op := kr_ok_part (kc_okS o) C.2.1.2.1 hk hn
  have tp := kr_tk_part (kc_okS o) t1 hk hn
  obtain ⟨X, hX⟩ : ∃ X, kr_part (kc_S C) C.2.1.2.1 k n = X := ⟨_, rfl⟩
  obtain ⟨y, hy⟩ : ∃ y, ks_areaI (kc_S C) (nI k) (nI n) = y := ⟨_, rfl⟩
  have eA : kc_alike C k n = kc_alk (kc_S C) k n y X 0 13 C.2.1.2.2 := by unfold kc_alike; rw [hX, hy]
  rw [eA, hX]
  rw [hX] at op tp
  rw [hy] at hal
  have A1 := kc_part A X
  have loop : ∀ (j i : Nat) (Y : kr_X), i + j = 13 → kr_ok Y → kr_tk Y → mm_W Γ l mC_hasAlike (d + 40) (mm_is (.inl (some (.int (mm_bI (kc_alk (kc_S C) k n y X i j Y).1)))) (kr_set (kr_set h (x + 131) X) (x + 134) (kc_alk (kc_S C) k n y X i j Y).2)) 26 [some (.ref x), some (.int (nI k)), some (.int (nI n)), some (.ref (kc_b x C.2.2.2.2.2)), some (.int (mm_enc y)), some (.int (nI i))] [] (kr_set (kr_set h (x + 131) X) (x + 134) Y) := by
    intro j
    induction j with
    | zero =>
      intro i Y hi oy ty
      refine mm_iload dC_hasAlike_26 rfl ?_
      refine mm_bipush (v := nI 13) dC_hasAlike_28 (by decide) ?_
      refine mm_icmp_ge_T (tgt := 98) dC_hasAlike_30 (by decide) (nI_le (by omega) (by omega)) ?_
      refine mm_iconst (v := nI 0) dC_hasAlike_98 (by decide) ?_
      refine mm_zreturn dC_hasAlike_99 rfl rfl ?_
      exact ⟨rfl, rfl⟩
    | succ j ih =>
      intro i Y hi oy ty
      have AY := kc_other A1 Y
      have SY : ks_at (kr_set (kr_set h (x + 131) X) (x + 134) Y) (kc_b x C.2.2.2.2.2) (kc_S C) := AY.2.1 _ (by omega)
      have ai := ks_area_lt (kc_okS o) (nI k) (nI i)
      refine mm_iload dC_hasAlike_26 rfl ?_
      refine mm_bipush (v := nI 13) dC_hasAlike_28 (by decide) ?_
      refine mm_icmp_ge_F (tgt := 98) dC_hasAlike_30 (by decide) (nI_ge (by omega) (by omega)) ?_
      refine mm_iload dC_hasAlike_33 rfl ?_
      refine mm_iload_n dC_hasAlike_35 rfl rfl ?_
      refine mm_icmp_eq_n (tgt := 92) dC_hasAlike_36 (by decide) (by omega) (by omega) (fun q36 => ?_) (fun q36 => ?_)
      · refine mm_iinc dC_hasAlike_92 (by decide) rfl (mm_inc _) rfl ?_
        refine mm_goto (tgt := 26) dC_hasAlike_95 (by decide) ?_
        have e : kc_alk (kc_S C) k n y X i (j + 1) Y = kc_alk (kc_S C) k n y X (i + 1) j Y := if_neg (by unfold kc_may; simp [q36])
        rw [e]
        exact ih (i + 1) Y (by omega) oy ty
      · refine mm_aload_n dC_hasAlike_39 rfl rfl ?_
        refine mm_iload_n dC_hasAlike_40 rfl rfl ?_
        refine mm_iload dC_hasAlike_41 rfl ?_
        refine mm_v2 dC_hasAlike_43 lC_114 SY.1 rfl rfl (by decide) (Nat.le_of_ble_eq_true rfl) (mm_deep (by omega) (kS_hasPart (d := 0) SY (kc_okS o) (nI k) (nI i))) ?_
        refine mm_if_eq_b (tgt := 92) dC_hasAlike_46 (by decide) (fun q46 => ?_) (fun q46 => ?_)
        · refine mm_iinc dC_hasAlike_92 (by decide) rfl (mm_inc _) rfl ?_
          refine mm_goto (tgt := 26) dC_hasAlike_95 (by decide) ?_
          have e : kc_alk (kc_S C) k n y X i (j + 1) Y = kc_alk (kc_S C) k n y X (i + 1) j Y := if_neg (by unfold kc_may; simp [q46])
          rw [e]
          exact ih (i + 1) Y (by omega) oy ty
        · refine mm_aload_n dC_hasAlike_49 rfl rfl ?_
          refine mm_iload dC_hasAlike_50 rfl ?_
          refine mm_aload_n dC_hasAlike_52 rfl rfl ?_
          refine mm_iload_n dC_hasAlike_53 rfl rfl ?_
          refine mm_iload dC_hasAlike_54 rfl ?_
          refine mm_v2 dC_hasAlike_56 lC_101 SY.1 rfl rfl (by decide) (Nat.le_of_ble_eq_true rfl) (mm_deep (by omega) (kS_areaOf (d := 0) SY (kc_okS o) (nI k) (nI i))) ?_
          refine mm_v2 dC_hasAlike_59 lC_117 SY.1 rfl rfl (by decide) (Nat.le_of_ble_eq_true rfl) (kS_isWithin SY (kc_okS o) hal (ai.sm (by decide))) ?_
          refine mm_if_eq_b (tgt := 92) dC_hasAlike_62 (by decide) (fun q62 => ?_) (fun q62 => ?_)
          · refine mm_iinc dC_hasAlike_92 (by decide) rfl (mm_inc _) rfl ?_
            refine mm_goto (tgt := 26) dC_hasAlike_95 (by decide) ?_
            have e : kc_alk (kc_S C) k n y X i (j + 1) Y = kc_alk (kc_S C) k n y X (i + 1) j Y := if_neg (by unfold kc_may; simp [q62])
            rw [e]
            exact ih (i + 1) Y (by omega) oy ty
          · refine mm_aload_n dC_hasAlike_65 rfl rfl ?_
            refine mm_getf dC_hasAlike_66 fC_26 AY.1.1 rfl ?_
            refine mm_aload_n dC_hasAlike_69 rfl rfl ?_
            refine mm_iload_n dC_hasAlike_70 rfl rfl ?_
            refine mm_iload dC_hasAlike_71 rfl ?_
            have hin : i < ks_len k := by
              obtain ⟨k', n', g1, g2, e1, e2⟩ := ks_partI_true q46
              have hl := ks_len_le k'
              have z1 := (nI_eq (by omega) (by omega)).mp e1
              have z2 := (nI_eq (by omega) (by omega)).mp e2
              subst z1
              subst z2
              exact g2
            have eM : kc_may (kc_S C) k n i y = true := by unfold kc_may; rw [decide_eq_true q36, q46, q62]; rfl
            have o1 := kr_ok_part (kc_okS o) Y hk hin
            have ty1 := kr_tk_part (kc_okS o) ty hk hin
            have S1 : ks_at (kr_set h (x + 131) X) (kc_b x C.2.2.2.2.2) (kc_S C) := A1.2.1 _ (by omega)
            have AZ := kc_other A1 (kr_part (kc_S C) Y k i)
            refine mm_v3 dC_hasAlike_73 lC_185 (kr_set_at _ _ _).1 rfl rfl rfl (by decide) (Nat.le_of_ble_eq_true rfl) (mm_deep (by omega) (kR_takePart (d := 0) Y S1 (kc_okS o) (by omega) hk hin)) ?_
            refine mm_aload_n dC_hasAlike_76 rfl rfl ?_
            refine mm_getf dC_hasAlike_77 fC_23 AZ.1.1 rfl ?_
            refine mm_aload_n dC_hasAlike_80 rfl rfl ?_
            refine mm_getf dC_hasAlike_81 fC_26 AZ.1.1 rfl ?_
            refine mm_v1 dC_hasAlike_84 lC_189 AZ.2.2.1.2.1.1 rfl (by decide) (Nat.le_of_ble_eq_true rfl) (kR_isSame AZ.2.2.1.2.1 AZ.2.2.1.2.2 op o1 (fun i _ => Nat.lt_trans (tp i) (by decide)) (fun i _ => Nat.lt_trans (ty1 i) (by decide))) ?_
            refine mm_if_eq_b (tgt := 92) dC_hasAlike_87 (by decide) (fun q87 => ?_) (fun q87 => ?_)
            · refine mm_iinc dC_hasAlike_92 (by decide) rfl (mm_inc _) rfl ?_
              refine mm_goto (tgt := 26) dC_hasAlike_95 (by decide) ?_
              have e : kc_alk (kc_S C) k n y X i (j + 1) Y = kc_alk (kc_S C) k n y X (i + 1) j (kr_part (kc_S C) Y k i) := (if_pos eM).trans (if_neg (by rw [q87]; decide))
              rw [e]
              exact ih (i + 1) _ (by omega) o1 ty1
            · refine mm_iconst (v := nI 1) dC_hasAlike_90 (by decide) ?_
              refine mm_zreturn dC_hasAlike_91 rfl rfl ?_
              have e : kc_alk (kc_S C) k n y X i (j + 1) Y = (true, kr_part (kc_S C) Y k i) := (if_pos eM).trans (if_pos q87)
              rw [e]
              exact ⟨rfl, rfl⟩
  have eP := kR_takePart (Γ := Γ) (l := l) (d := d + 9) (h := h) (r := x + 131) C.2.1.2.1 (kc_atS A o) (kc_okS o) (by omega) hk hn
  rw [kr_at_set A.2.2.1.2.1, hX] at eP
  have eO := kS_areaOf (Γ := Γ) (l := l) (d := d + 37) (kc_atS A o) (kc_okS o) (nI k) (nI n)
  rw [hy] at eO
  show mm_W Γ l mC_hasAlike (d + 40) _ 0 [some (.ref x), some (.int (nI k)), some (.int (nI n)), none, none, none] [] h
  refine mm_aload_n dC_hasAlike_0 rfl rfl ?_
  refine mm_v0 dC_hasAlike_1 lC_51 A.1.1 (by decide) (Nat.le_of_ble_eq_true rfl) (kC_sheet A o) ?_
  refine mm_astore_n dC_hasAlike_4 rfl (by decide) rfl ?_
  refine mm_aload_n dC_hasAlike_5 rfl rfl ?_
  refine mm_iload_n dC_hasAlike_6 rfl rfl ?_
  refine mm_iload_n dC_hasAlike_7 rfl rfl ?_
  refine mm_v2 dC_hasAlike_8 lC_101 (kc_atS A o).1 rfl rfl (by decide) (Nat.le_of_ble_eq_true rfl) (eO) ?_
  refine mm_istore dC_hasAlike_11 (by decide) rfl ?_
  refine mm_aload_n dC_hasAlike_13 rfl rfl ?_
  refine mm_getf dC_hasAlike_14 fC_23 A.1.1 rfl ?_
  refine mm_aload_n dC_hasAlike_17 rfl rfl ?_
  refine mm_iload_n dC_hasAlike_18 rfl rfl ?_
  refine mm_iload_n dC_hasAlike_19 rfl rfl ?_
  refine mm_v3 dC_hasAlike_20 lC_185 A.2.2.1.2.1.1 rfl rfl rfl (by decide) (Nat.le_of_ble_eq_true rfl) (eP) ?_
  refine mm_iconst (v := nI 0) dC_hasAlike_23 (by decide) ?_
  refine mm_istore dC_hasAlike_24 (by decide) rfl ?_
  have hh := loop 13 0 C.2.1.2.2 rfl o.2.2.2.2.2 t2
  rw [kr_at_set A1.2.2.1.2.2] at hh
  exact hh
theorem kC_uncopy (A : kc_at h x C) (o : kc_ok C) (hm : h.1 + 1 ≤ mm_Cm Γ) (hs : h.2.1 + 6 ≤ mm_Sm Γ) (t1 : kr_tk C.2.1.2.1) (t2 : kr_tk C.2.1.2.2) (k n : Int32) : mm_Ev Γ l (d + 50) mC_uncopy [.ref x, .int k, .int n] h (kc_D x h (kc_uncopy C k n)) := by
  show mm_W Γ l mC_uncopy (d + 50) _ 0 [some (.ref x), some (.int k), some (.int n)] [] h
  refine mm_aload_n dC_uncopy_0 rfl rfl ?_
  refine mm_v0 dC_uncopy_1 lC_51 A.1.1 (by decide) (Nat.le_of_ble_eq_true rfl) (kC_sheet A o) ?_
  refine mm_iload_n dC_uncopy_4 rfl rfl ?_
  refine mm_iload_n dC_uncopy_5 rfl rfl ?_
  refine mm_v2 dC_uncopy_6 lC_114 (kc_atS A o).1 rfl rfl (by decide) (Nat.le_of_ble_eq_true rfl) (mm_deep (by omega) (kS_hasPart (d := 0) (kc_atS A o) (kc_okS o) k n)) ?_
  by_cases n9 : ks_partI (kc_S C) k n = true
  · refine mm_s1 dC_uncopy_9 lC_59 rfl (by decide) (Nat.le_of_ble_eq_true rfl) (kC_needA_t n9) ?_
    obtain ⟨k1, n1, hk1, hn1, rfl, rfl⟩ := ks_partI_true n9
    have hl1 := ks_len_le k1
    rw [show kc_uncopy C (nI k1) (nI n1) = kc_uncopyN C k1 n1 from (if_pos n9).trans (by rw [nI_clamp (by omega), nI_clamp (by omega)])]
    have A2 : kc_at (kr_set (kr_set h (x + 131) (kr_part (kc_S C) C.2.1.2.1 k1 n1)) (x + 134) (kc_alike C k1 n1).2) x (kc_alikeC C k1 n1) := kc_other (kc_part A (kr_part (kc_S C) C.2.1.2.1 k1 n1)) (kc_alike C k1 n1).2
    have f2 : kc_fr x h (kr_set (kr_set h (x + 131) (kr_part (kc_S C) C.2.1.2.1 k1 n1)) (x + 134) (kc_alike C k1 n1).2) := kc_fread (kc_fread (kc_fr_refl x h) (Or.inr (Or.inl rfl)) _) (Or.inr (Or.inr rfl)) _
    have o2 : kc_ok (kc_alikeC C k1 n1) := ⟨o.1, o.2.1, o.2.2.1, o.2.2.2.1, kr_ok_part (kc_okS o) _ hk1 hn1, (kc_alk_ok (kc_okS o) hk1 13 0 _ rfl o.2.2.2.2.2 t2).1⟩
    refine mm_aload_n dC_uncopy_12 rfl rfl ?_
    refine mm_getf dC_uncopy_13 fC_43 A.1.1 rfl ?_
    refine mm_if_ne_b (tgt := 32) dC_uncopy_16 (by decide) (fun q16 => ?_) (fun q16 => ?_)
    · refine mm_iconst (v := nI 0) dC_uncopy_32 (by decide) ?_
      refine mm_s1t dC_uncopy_33 lC_66 rfl (by decide) (Nat.le_of_ble_eq_true rfl) (kC_needS_f (b := false) rfl hm hs) ?_
      exact mm_leave (fun x hx => by cases hx) (by rw [show kc_uncopyN C k1 n1 = (.inr 1, C) from if_pos q16]; exact kc_thrown A 1)
    · refine mm_aload_n dC_uncopy_19 rfl rfl ?_
      refine mm_iload_n dC_uncopy_20 rfl rfl ?_
      refine mm_iload_n dC_uncopy_21 rfl rfl ?_
      refine mm_v2 dC_uncopy_22 lC_127 A.1.1 rfl rfl (by decide) (Nat.le_of_ble_eq_true rfl) (mm_deep (by omega) (kC_hasAlike (d := 0) A o t1 t2 hk1 hn1)) ?_
      refine mm_if_eq_b (tgt := 32) dC_uncopy_25 (by decide) (fun q25 => ?_) (fun q25 => ?_)
      · refine mm_iconst (v := nI 0) dC_uncopy_32 (by decide) ?_
        refine mm_s1t dC_uncopy_33 lC_66 rfl (by decide) (Nat.le_of_ble_eq_true rfl) (kC_needS_f (b := false) rfl hm hs) ?_
        exact mm_leave (fun x hx => by cases hx) (by rw [show kc_uncopyN C k1 n1 = (.inr 1, kc_alikeC C k1 n1) from (if_neg (mm_nb q16)).trans (if_neg (mm_nb q25))]; exact ⟨rfl, A2, f2.1, by show h.1 + 1 ≤ _; omega, by show h.2.1 + 6 ≤ _; omega⟩)
      · refine mm_iconst (v := nI 1) dC_uncopy_28 (by decide) ?_
        refine mm_goto (tgt := 33) dC_uncopy_29 (by decide) ?_
        refine mm_s1 dC_uncopy_33 lC_66 rfl (by decide) (Nat.le_of_ble_eq_true rfl) (kC_needS_t (b := true) rfl) ?_
        refine mm_aload_n dC_uncopy_36 rfl rfl ?_
        refine mm_v0 dC_uncopy_37 lC_69 A2.1.1 (by decide) (Nat.le_of_ble_eq_true rfl) (kC_mayChange A2 o2) ?_
        by_cases n40 : kc_mayCh C = true
        · refine mm_s1 dC_uncopy_40 lC_77 rfl (by decide) (Nat.le_of_ble_eq_true rfl) (kC_needR_t n40) ?_
          refine mm_aload_n dC_uncopy_43 rfl rfl ?_
          refine mm_v0 dC_uncopy_44 lC_80 A2.1.1 (by decide) (Nat.le_of_ble_eq_true rfl) (kC_changed A2 o2) ?_
          refine mm_iload_n dC_uncopy_47 rfl rfl ?_
          refine mm_iload_n dC_uncopy_48 rfl rfl ?_
          refine mm_v2 dC_uncopy_49 lC_110 (kc_chg_S A2 o2).1 rfl rfl (by decide) (Nat.le_of_ble_eq_true rfl) (mm_deep (by omega) (kS_remove (d := 0) (kc_chg_S A2 o2) (kc_okS o2) (nI k1) (nI n1) (x := some n1) (fun _ => ⟨rfl, mm_sm_some (by omega)⟩))) ?_
          refine mm_aload_n dC_uncopy_52 rfl rfl ?_
          refine mm_getf dC_uncopy_53 fC_47 (kc_chg_to A2 o2 _).1.1 rfl ?_
          refine mm_ireturn dC_uncopy_56 rfl ?_
          rw [show kc_uncopyN C k1 n1 = _ from (if_neg (mm_nb q16)).trans ((if_pos q25).trans (if_pos n40))]
          exact ⟨rfl, kc_chg_to A2 o2 _, kc_fsheet (kc_fr_tr f2 rfl rfl (kc_chg_fr o2) (kc_chg_1 _ _ _) (kc_chg_2 _ _ _)) (Nat.lt_succ_of_le (kc_mv_le o2)) _⟩
        · refine mm_s1t dC_uncopy_40 lC_77 rfl (by decide) (Nat.le_of_ble_eq_true rfl) (kC_needR_f (mm_bf n40) hm hs) ?_
          exact mm_leave (fun x hx => by cases hx) (by rw [show kc_uncopyN C k1 n1 = (.inr 2, kc_alikeC C k1 n1) from (if_neg (mm_nb q16)).trans ((if_pos q25).trans (if_neg n40))]; exact ⟨rfl, A2, f2.1, by show h.1 + 1 ≤ _; omega, by show h.2.1 + 6 ≤ _; omega⟩)
  · refine mm_s1t dC_uncopy_9 lC_59 rfl (by decide) (Nat.le_of_ble_eq_true rfl) (kC_needA_f (mm_bf n9) hm hs) ?_
    exact mm_leave (fun x hx => by cases hx) (by rw [show kc_uncopy C k n = (.inr 0, C) from if_neg n9]; exact kc_thrown A 0)
end KC6
