/-! Contracts of Reading, second part. Printed by wip/whole/spec/r2.py -/
def kr_dp : Nat → Nat
  | 0 => 3
  | f + 1 => kr_dp f + 1 + 1
theorem kr_dp_le (f : Nat) : 3 ≤ kr_dp f := by
  induction f with
  | zero => exact Nat.le_refl _
  | succ f ih => show 3 ≤ kr_dp f + 1 + 1; omega
section KR2
variable {Γ : mm_G} {l : Launch} {d : Nat} {h : mm_H} {b r : Nat} {S : ks_S}
theorem kR_cuts (a : ks_at h b S) (os : ks_ok S) (hd : r + 2 < b ∨ b + 5 < r) {f lv e : Nat} (hlv : lv + f = 12) {c : Nat} (hc : c < 13)
    (ih : ∀ (X : kr_X) (i : Nat), kr_ok X → i < 13 → mm_Ev Γ l (e + kr_dp f) mR_addArea [.ref r, .ref b, .int (nI i), .int (nI (lv + 1))] (kr_set h r X) (mm_is (.inl none) (kr_set h r (kr_area S f X i))))
    {X : kr_X} (o : kr_ok X) : mm_Ev Γ l (e + kr_dp f + 1) mR_addCutsIn [.ref r, .ref b, .int (nI c), .int (nI lv)] (kr_set h r X) (mm_is (.inl none) (kr_set h r (kr_cuts (kr_area S f) S c 1 12 X))) := by
  have hdp := kr_dp_le f
  have loop : ∀ (j i : Nat) (Y : kr_X), i + j = 13 → kr_ok Y → mm_W Γ l mR_addCutsIn (e + kr_dp f + 1) (mm_is (.inl none) (kr_set h r (kr_cuts (kr_area S f) S c i j Y))) 3 [some (.ref r), some (.ref b), some (.int (nI c)), some (.int (nI lv)), some (.int (nI i))] [] (kr_set h r Y) := by
    intro j
    induction j with
    | zero =>
      intro i Y hi oy
      refine mm_iload dR_addCutsIn_3 rfl ?_
      refine mm_bipush (v := nI 13) dR_addCutsIn_5 (by decide) ?_
      refine mm_icmp_ge_T (tgt := 47) dR_addCutsIn_7 (by decide) (nI_le (by omega) (by omega)) ?_
      refine mm_return dR_addCutsIn_47 rfl ?_
      exact ⟨rfl, rfl⟩
    | succ j ih' =>
      intro i Y hi oy
      have ab := ks_at_read Y a hd
      have o1 := kr_ok_add oy 1
      have o2 := kr_ok_area os f (kr_add Y 1) i o1
      have hn : kr_ok (if S.2.1 i = some c then kr_add (kr_area S f (kr_add Y 1) i) 2 else Y) := by
        by_cases hq : S.2.1 i = some c
        · rw [if_pos hq]; exact kr_ok_add o2 2
        · rw [if_neg hq]; exact oy
      have hh : mm_W Γ l mR_addCutsIn (e + kr_dp f + 1) (mm_is (.inl none) (kr_set h r (kr_cuts (kr_area S f) S c i (j + 1) Y))) 3 [some (.ref r), some (.ref b), some (.int (nI c)), some (.int (nI lv)), some (.int (nI (i + 1)))] [] (kr_set h r (if S.2.1 i = some c then kr_add (kr_area S f (kr_add Y 1) i) 2 else Y)) := ih' (i + 1) _ (by omega) hn
      refine mm_iload dR_addCutsIn_3 rfl ?_
      refine mm_bipush (v := nI 13) dR_addCutsIn_5 (by decide) ?_
      refine mm_icmp_ge_F (tgt := 47) dR_addCutsIn_7 (by decide) (nI_ge (by omega) (by omega)) ?_
      refine mm_aload_n dR_addCutsIn_10 rfl rfl ?_
      refine mm_getf dR_addCutsIn_11 fR_58 ab.1 rfl ?_
      refine mm_iload dR_addCutsIn_14 rfl ?_
      refine mm_iaload dR_addCutsIn_16 ab.2.2.1 rfl (by omega) (by decide) ?_
      refine mm_iload_n dR_addCutsIn_17 rfl rfl ?_
      refine mm_icmp_ne_k (tgt := 41) dR_addCutsIn_18 (by decide) (os.sm (k := 1) (by show i < 13; omega)) (by omega) (fun q18 => ?_) (fun q18 => ?_)
      · refine mm_iinc dR_addCutsIn_41 (by decide) rfl (mm_inc _) rfl ?_
        refine mm_goto (tgt := 3) dR_addCutsIn_44 (by decide) ?_
        rw [if_neg q18] at hh
        exact hh
      · refine mm_aload_n dR_addCutsIn_21 rfl rfl ?_
        refine mm_iconst (v := nI 1) dR_addCutsIn_22 (by decide) ?_
        refine mm_v1 dR_addCutsIn_23 lR_61 (kr_set_at h r Y).1 rfl (by decide) (Nat.le_of_ble_eq_true rfl) (kR_add Y oy 1) ?_
        refine mm_aload_n dR_addCutsIn_26 rfl rfl ?_
        refine mm_aload_n dR_addCutsIn_27 rfl rfl ?_
        refine mm_iload dR_addCutsIn_28 rfl ?_
        refine mm_iload_n dR_addCutsIn_30 rfl rfl ?_
        refine mm_iconst (v := nI 1) dR_addCutsIn_31 (by decide) ?_
        refine mm_iadd dR_addCutsIn_32 ?_
        refine mm_top (v' := .int (nI (lv + 1))) (congrArg Value.int (nI_add lv 1)) ?_
        refine mm_v3 dR_addCutsIn_33 lR_32 (kr_set_at h r _).1 rfl rfl rfl (by decide) (Nat.le_of_ble_eq_true rfl) (ih _ i o1 (by omega)) ?_
        refine mm_aload_n dR_addCutsIn_36 rfl rfl ?_
        refine mm_iconst (v := nI 2) dR_addCutsIn_37 (by decide) ?_
        refine mm_v1 dR_addCutsIn_38 lR_61 (kr_set_at h r _).1 rfl (by decide) (Nat.le_of_ble_eq_true rfl) (kR_add _ o2 2) ?_
        refine mm_iinc dR_addCutsIn_41 (by decide) rfl (mm_inc _) rfl ?_
        refine mm_goto (tgt := 3) dR_addCutsIn_44 (by decide) ?_
        rw [if_pos q18] at hh
        exact hh
  show mm_W Γ l mR_addCutsIn (e + kr_dp f + 1) _ 0 [some (.ref r), some (.ref b), some (.int (nI c)), some (.int (nI lv)), none] [] _
  refine mm_iconst (v := nI 1) dR_addCutsIn_0 (by decide) ?_
  refine mm_istore dR_addCutsIn_1 (by decide) rfl ?_
  exact loop 12 1 X rfl o
theorem kR_area (a : ks_at h b S) (os : ks_ok S) (hd : r + 2 < b ∨ b + 5 < r) : ∀ (f lv e : Nat) (X : kr_X) (c : Nat), lv + f = 13 → kr_ok X → c < 13 →
    mm_Ev Γ l (e + kr_dp f) mR_addArea [.ref r, .ref b, .int (nI c), .int (nI lv)] (kr_set h r X) (mm_is (.inl none) (kr_set h r (kr_area S f X c))) := by
  intro f
  induction f with
  | zero =>
    intro lv e X c hlv o hc
    show mm_W Γ l mR_addArea (e + 3) _ 0 [some (.ref r), some (.ref b), some (.int (nI c)), some (.int (nI lv)), none] [] _
    refine mm_iload_n dR_addArea_0 rfl rfl ?_
    refine mm_bipush (v := nI 12) dR_addArea_1 (by decide) ?_
    refine mm_icmp_le_F (tgt := 7) dR_addArea_3 (by decide) (nI_ge (by omega) (by omega)) ?_
    refine mm_return dR_addArea_6 rfl ?_
    exact ⟨rfl, rfl⟩
  | succ f ih =>
    intro lv e X c hlv o hc
    have hdp := kr_dp_le f
    have hend : ∀ Y : kr_X, kr_ok Y → mm_W Γ l mR_addArea (e + kr_dp f + 1 + 1) (mm_is (.inl none) (kr_set h r (kr_cuts (kr_area S f) S c 1 12 Y))) 75 [some (.ref r), some (.ref b), some (.int (nI c)), some (.int (nI lv)), none] [] (kr_set h r Y) := by
      intro Y oy
      refine mm_aload_n dR_addArea_75 rfl rfl ?_
      refine mm_aload_n dR_addArea_76 rfl rfl ?_
      refine mm_iload_n dR_addArea_77 rfl rfl ?_
      refine mm_iload_n dR_addArea_78 rfl rfl ?_
      refine mm_v3 dR_addArea_79 lR_55 (kr_set_at h r Y).1 rfl rfl rfl (by decide) (Nat.le_of_ble_eq_true rfl) (kR_cuts a os hd (by omega) hc (fun X i ok hi => ih (lv + 1) e X i (by omega) ok hi) oy) ?_
      refine mm_return dR_addArea_82 rfl ?_
      exact ⟨rfl, rfl⟩
    have loopS : ∀ (j i : Nat) (Y : kr_X), i + j = 12 → kr_ok Y → mm_W Γ l mR_addArea (e + kr_dp f + 1 + 1) (mm_is (.inl none) (kr_set h r (kr_cuts (kr_area S f) S c 1 12 (kr_spots S c i j Y)))) 44 [some (.ref r), some (.ref b), some (.int (nI c)), some (.int (nI lv)), some (.int (nI i))] [] (kr_set h r Y) := by
      intro j
      induction j with
      | zero =>
        intro i Y hi oy
        refine mm_iload dR_addArea_44 rfl ?_
        refine mm_bipush (v := nI 12) dR_addArea_46 (by decide) ?_
        refine mm_icmp_ge_T (tgt := 75) dR_addArea_48 (by decide) (nI_le (by omega) (by omega)) ?_
        exact mm_sub (fun i v hv => by
          match i, hv with
          | 0, hv => exact hv
          | 1, hv => exact hv
          | 2, hv => exact hv
          | 3, hv => exact hv
          | 4, hv => cases hv
          | n + 5, hv => cases hv) (hend Y oy)
      | succ j ih' =>
        intro i Y hi oy
        have ab := ks_at_read Y a hd
        have hn : kr_ok (if S.1 i = some c then kr_spot S Y i else Y) := by
          by_cases hq : S.1 i = some c
          · rw [if_pos hq]; exact kr_ok_spot os oy (by omega)
          · rw [if_neg hq]; exact oy
        have hh : mm_W Γ l mR_addArea (e + kr_dp f + 1 + 1) (mm_is (.inl none) (kr_set h r (kr_cuts (kr_area S f) S c 1 12 (kr_spots S c i (j + 1) Y)))) 44 [some (.ref r), some (.ref b), some (.int (nI c)), some (.int (nI lv)), some (.int (nI (i + 1)))] [] (kr_set h r (if S.1 i = some c then kr_spot S Y i else Y)) := ih' (i + 1) _ (by omega) hn
        refine mm_iload dR_addArea_44 rfl ?_
        refine mm_bipush (v := nI 12) dR_addArea_46 (by decide) ?_
        refine mm_icmp_ge_F (tgt := 75) dR_addArea_48 (by decide) (nI_ge (by omega) (by omega)) ?_
        refine mm_aload_n dR_addArea_51 rfl rfl ?_
        refine mm_getf dR_addArea_52 fR_52 ab.1 rfl ?_
        refine mm_iload dR_addArea_55 rfl ?_
        refine mm_iaload dR_addArea_57 ab.2.1 rfl (by omega) (by decide) ?_
        refine mm_iload_n dR_addArea_58 rfl rfl ?_
        refine mm_icmp_ne_k (tgt := 69) dR_addArea_59 (by decide) (os.sm (k := 0) (by show i < 12; omega)) (by omega) (fun q59 => ?_) (fun q59 => ?_)
        · refine mm_iinc dR_addArea_69 (by decide) rfl (mm_inc _) rfl ?_
          refine mm_goto (tgt := 44) dR_addArea_72 (by decide) ?_
          rw [if_neg q59] at hh
          exact hh
        · refine mm_aload_n dR_addArea_62 rfl rfl ?_
          refine mm_aload_n dR_addArea_63 rfl rfl ?_
          refine mm_iload dR_addArea_64 rfl ?_
          refine mm_v2 dR_addArea_66 lR_36 (kr_set_at h r Y).1 rfl rfl (by decide) (Nat.le_of_ble_eq_true rfl) (mm_deep (by omega) (kR_spot (d := 0) Y oy a os hd (by omega))) ?_
          refine mm_iinc dR_addArea_69 (by decide) rfl (mm_inc _) rfl ?_
          refine mm_goto (tgt := 44) dR_addArea_72 (by decide) ?_
          rw [if_pos q59] at hh
          exact hh
    have loopL : ∀ (j i : Nat) (Y : kr_X), i + j = 6 → kr_ok Y → mm_W Γ l mR_addArea (e + kr_dp f + 1 + 1) (mm_is (.inl none) (kr_set h r (kr_cuts (kr_area S f) S c 1 12 (kr_spots S c 0 12 (kr_lines S c i j Y))))) 10 [some (.ref r), some (.ref b), some (.int (nI c)), some (.int (nI lv)), some (.int (nI i))] [] (kr_set h r Y) := by
      intro j
      induction j with
      | zero =>
        intro i Y hi oy
        refine mm_iload dR_addArea_10 rfl ?_
        refine mm_bipush (v := nI 6) dR_addArea_12 (by decide) ?_
        refine mm_icmp_ge_T (tgt := 41) dR_addArea_14 (by decide) (nI_le (by omega) (by omega)) ?_
        refine mm_iconst (v := nI 0) dR_addArea_41 (by decide) ?_
        refine mm_istore dR_addArea_42 (by decide) rfl ?_
        exact loopS 12 0 Y rfl oy
      | succ j ih' =>
        intro i Y hi oy
        have ab := ks_at_read Y a hd
        have hn : kr_ok (if S.2.2.1 i = some c then kr_line S Y (some i) else Y) := by
          by_cases hq : S.2.2.1 i = some c
          · rw [if_pos hq]; exact kr_ok_line oy (mm_lt_some (by omega))
          · rw [if_neg hq]; exact oy
        have hh : mm_W Γ l mR_addArea (e + kr_dp f + 1 + 1) (mm_is (.inl none) (kr_set h r (kr_cuts (kr_area S f) S c 1 12 (kr_spots S c 0 12 (kr_lines S c i (j + 1) Y))))) 10 [some (.ref r), some (.ref b), some (.int (nI c)), some (.int (nI lv)), some (.int (nI (i + 1)))] [] (kr_set h r (if S.2.2.1 i = some c then kr_line S Y (some i) else Y)) := ih' (i + 1) _ (by omega) hn
        refine mm_iload dR_addArea_10 rfl ?_
        refine mm_bipush (v := nI 6) dR_addArea_12 (by decide) ?_
        refine mm_icmp_ge_F (tgt := 41) dR_addArea_14 (by decide) (nI_ge (by omega) (by omega)) ?_
        refine mm_aload_n dR_addArea_17 rfl rfl ?_
        refine mm_getf dR_addArea_18 fR_46 ab.1 rfl ?_
        refine mm_iload dR_addArea_21 rfl ?_
        refine mm_iaload dR_addArea_23 ab.2.2.2.1 rfl (by omega) (by decide) ?_
        refine mm_iload_n dR_addArea_24 rfl rfl ?_
        refine mm_icmp_ne_k (tgt := 35) dR_addArea_25 (by decide) (os.sm (k := 2) (by show i < 6; omega)) (by omega) (fun q25 => ?_) (fun q25 => ?_)
        · refine mm_iinc dR_addArea_35 (by decide) rfl (mm_inc _) rfl ?_
          refine mm_goto (tgt := 10) dR_addArea_38 (by decide) ?_
          rw [if_neg q25] at hh
          exact hh
        · refine mm_aload_n dR_addArea_28 rfl rfl ?_
          refine mm_aload_n dR_addArea_29 rfl rfl ?_
          refine mm_iload dR_addArea_30 rfl ?_
          refine mm_v2 dR_addArea_32 lR_49 (kr_set_at h r Y).1 rfl rfl (by decide) (Nat.le_of_ble_eq_true rfl) (mm_deep (by omega) (kR_line (d := 0) Y oy a os hd (x := some i) (mm_lt_some (by omega)))) ?_
          refine mm_iinc dR_addArea_35 (by decide) rfl (mm_inc _) rfl ?_
          refine mm_goto (tgt := 10) dR_addArea_38 (by decide) ?_
          rw [if_pos q25] at hh
          exact hh
    show mm_W Γ l mR_addArea (e + kr_dp f + 1 + 1) _ 0 [some (.ref r), some (.ref b), some (.int (nI c)), some (.int (nI lv)), none] [] _
    refine mm_iload_n dR_addArea_0 rfl rfl ?_
    refine mm_bipush (v := nI 12) dR_addArea_1 (by decide) ?_
    refine mm_icmp_le_T (tgt := 7) dR_addArea_3 (by decide) (nI_le (by omega) (by omega)) ?_
    refine mm_iconst (v := nI 0) dR_addArea_7 (by decide) ?_
    refine mm_istore dR_addArea_8 (by decide) rfl ?_
    exact loopL 6 0 X rfl o
theorem kR_clear (X : kr_X) {m : Nat} : mm_Ev Γ l d mR_clear [.ref r, .int (nI m)] (kr_set h r X) (mm_is (.inl none) (kr_set h r (kr_clear X m))) := by
  have loop : ∀ (j i : Nat), i + j = 6 → mm_W Γ l mR_clear d (mm_is (.inl none) (kr_set h r (kr_clear X m))) 17 [some (.ref r), some (.int (nI m)), some (.int (nI i))] [] (kr_set h r (X.1, 0, m, (fun q => if q < i then none else X.2.2.2.1 q), 0)) := by
    intro j
    induction j with
    | zero =>
      intro i hi
      have hi : i = 6 := by omega
      subst hi
      refine mm_iload_n dR_clear_17 rfl rfl ?_
      refine mm_bipush (v := nI 6) dR_clear_18 (by decide) ?_
      refine mm_icmp_ge_T (tgt := 36) dR_clear_20 (by decide) (nI_le (by omega) (by omega)) ?_
      refine mm_return dR_clear_36 rfl ?_
      exact ⟨rfl, rfl⟩
    | succ j ih =>
      intro i hi
      have a1 := kr_set_at h r (X.1, 0, m, (fun q => if q < i then none else X.2.2.2.1 q), 0)
      have e1 : ks_u (fun q => if q < i then none else X.2.2.2.1 q) i none = fun q => if q < i + 1 then none else X.2.2.2.1 q := by
        funext q
        unfold ks_u
        by_cases h1 : q = i
        · rw [if_pos h1, if_pos (by omega)]
        · rw [if_neg h1]
          show (if q < i then none else X.2.2.2.1 q) = _
          by_cases h2 : q < i
          · rw [if_pos h2, if_pos (by omega)]
          · rw [if_neg h2, if_neg (by omega)]
      refine mm_iload_n dR_clear_17 rfl rfl ?_
      refine mm_bipush (v := nI 6) dR_clear_18 (by decide) ?_
      refine mm_icmp_ge_F (tgt := 36) dR_clear_20 (by decide) (nI_ge (by omega) (by omega)) ?_
      refine mm_aload_n dR_clear_23 rfl rfl ?_
      refine mm_getf dR_clear_24 fR_22 a1.1 rfl ?_
      refine mm_iload_n dR_clear_27 rfl rfl ?_
      refine mm_iconst (v := -1) dR_clear_28 (by decide) ?_
      refine mm_iastore dR_clear_29 a1.2.2 rfl (by omega) (by decide) ?_
      refine mm_eqh (show kr_set h r (X.1, 0, m, (fun q => if q < i + 1 then none else X.2.2.2.1 q), 0) = _ by rw [← e1]; exact (kr_up_ord h r (X.1, 0, m, (fun q => if q < i then none else X.2.2.2.1 q), 0) _).symm.trans (by unfold ks_arr; rw [← ks_u_enc]; rfl)) ?_
      refine mm_iinc dR_clear_30 (by decide) rfl (mm_inc _) rfl ?_
      refine mm_goto (tgt := 17) dR_clear_33 (by decide) ?_
      exact ih (i + 1) (by omega)
  have a0 := kr_set_at h r X
  have a1 := kr_set_at h r (X.1, 0, X.2.2)
  have a2 := kr_set_at h r (X.1, 0, m, X.2.2.2)
  show mm_W Γ l mR_clear d _ 0 [some (.ref r), some (.int (nI m)), none] [] _
  refine mm_aload_n dR_clear_0 rfl rfl ?_
  refine mm_iconst (v := nI 0) dR_clear_1 (by decide) ?_
  refine mm_putf dR_clear_2 fR_15 rfl rfl rfl rfl a0.1 (Nat.le_of_ble_eq_true rfl) ?_
  refine mm_eqh (kr_up_obj h r X (X.1, 0, X.2.2) rfl rfl).symm ?_
  refine mm_aload_n dR_clear_5 rfl rfl ?_
  refine mm_iload_n dR_clear_6 rfl rfl ?_
  refine mm_putf dR_clear_7 fR_19 rfl rfl rfl rfl a1.1 (Nat.le_of_ble_eq_true rfl) ?_
  refine mm_eqh (kr_up_obj h r (X.1, 0, X.2.2) (X.1, 0, m, X.2.2.2) rfl rfl).symm ?_
  refine mm_aload_n dR_clear_10 rfl rfl ?_
  refine mm_iconst (v := nI 0) dR_clear_11 (by decide) ?_
  refine mm_putf dR_clear_12 fR_25 rfl rfl rfl rfl a2.1 (Nat.le_of_ble_eq_true rfl) ?_
  refine mm_eqh (kr_up_obj h r (X.1, 0, m, X.2.2.2) (X.1, 0, m, X.2.2.2.1, 0) rfl rfl).symm ?_
  refine mm_iconst (v := nI 0) dR_clear_15 (by decide) ?_
  refine mm_istore_n dR_clear_16 rfl (by decide) rfl ?_
  have hh := loop 6 0 rfl
  rw [show (fun q => if q < 0 then none else X.2.2.2.1 q) = X.2.2.2.1 from funext fun q => if_neg (Nat.not_lt_zero q)] at hh
  exact hh
theorem kR_takeArea (X : kr_X) (a : ks_at h b S) (os : ks_ok S) (hd : r + 2 < b ∨ b + 5 < r) {c : Nat} (hc : c < 13) : mm_Ev Γ l (d + 30) mR_takeArea [.ref r, .ref b, .int (nI c)] (kr_set h r X) (mm_is (.inl none) (kr_set h r (kr_take S X c))) := by
  show mm_W Γ l mR_takeArea (d + 30) _ 0 [some (.ref r), some (.ref b), some (.int (nI c))] [] _
  refine mm_aload_n dR_takeArea_0 rfl rfl ?_
  refine mm_iconst (v := nI 0) dR_takeArea_1 (by decide) ?_
  refine mm_v1 dR_takeArea_2 lR_28 (kr_set_at h r X).1 rfl (by decide) (Nat.le_of_ble_eq_true rfl) (kR_clear X (m := 0)) ?_
  refine mm_aload_n dR_takeArea_5 rfl rfl ?_
  refine mm_aload_n dR_takeArea_6 rfl rfl ?_
  refine mm_iload_n dR_takeArea_7 rfl rfl ?_
  refine mm_iconst (v := nI 0) dR_takeArea_8 (by decide) ?_
  refine mm_v3 dR_takeArea_9 lR_32 (kr_set_at h r _).1 rfl rfl rfl (by decide) (Nat.le_of_ble_eq_true rfl) (mm_deep (by show 0 + 29 ≤ d + 29; omega) (kR_area a os hd 13 0 0 (kr_clear X 0) c rfl (kr_ok_clear X (by decide)) hc)) ?_
  refine mm_return dR_takeArea_12 rfl ?_
  exact ⟨rfl, rfl⟩
theorem kR_takePart (X : kr_X) (a : ks_at h b S) (os : ks_ok S) (hd : r + 2 < b ∨ b + 5 < r) {k n : Nat} (hk : k < 2) (hn : n < ks_len k) : mm_Ev Γ l (d + 30) mR_takePart [.ref r, .ref b, .int (nI k), .int (nI n)] (kr_set h r X) (mm_is (.inl none) (kr_set h r (kr_part S X k n))) := by
  show mm_W Γ l mR_takePart (d + 30) _ 0 [some (.ref r), some (.ref b), some (.int (nI k)), some (.int (nI n))] [] _
  have ab := ks_at_read X a hd
  obtain rfl | rfl : k = 0 ∨ k = 1 := by omega
  · have hn : n < 12 := hn
    refine mm_iload_n dR_takePart_0 rfl rfl ?_
    refine mm_if_ne_F (tgt := 18) dR_takePart_1 (by decide) rfl ?_
    refine mm_aload_n dR_takePart_4 rfl rfl ?_
    refine mm_iconst (v := nI 0) dR_takePart_5 (by decide) ?_
    refine mm_v1 dR_takePart_6 lR_28 (kr_set_at h r X).1 rfl (by decide) (Nat.le_of_ble_eq_true rfl) (kR_clear X (m := 0)) ?_
    refine mm_aload_n dR_takePart_9 rfl rfl ?_
    refine mm_aload_n dR_takePart_10 rfl rfl ?_
    refine mm_iload_n dR_takePart_11 rfl rfl ?_
    refine mm_v2 dR_takePart_12 lR_36 (kr_set_at h r _).1 rfl rfl (by decide) (Nat.le_of_ble_eq_true rfl) (mm_deep (by omega) (kR_spot (d := 0) _ (kr_ok_clear X (by decide)) a os hd hn)) ?_
    refine mm_goto (tgt := 34) dR_takePart_15 (by decide) ?_
    refine mm_return dR_takePart_34 rfl ?_
    exact ⟨rfl, rfl⟩
  · have hn : n < 13 := hn
    refine mm_iload_n dR_takePart_0 rfl rfl ?_
    refine mm_if_ne_T (tgt := 18) dR_takePart_1 (by decide) (by decide) ?_
    refine mm_aload_n dR_takePart_18 rfl rfl ?_
    refine mm_aload_n dR_takePart_19 rfl rfl ?_
    refine mm_iload_n dR_takePart_20 rfl rfl ?_
    refine mm_v1 dR_takePart_21 lR_40 ab.1 rfl (by decide) (Nat.le_of_ble_eq_true rfl) (mm_deep (by omega) (kS_areasWithin (d := 0) ab os (y := some n) (mm_sm_some (by omega)))) ?_
    refine mm_v1 dR_takePart_24 lR_28 (kr_set_at h r X).1 rfl (by decide) (Nat.le_of_ble_eq_true rfl) (kR_clear X) ?_
    refine mm_aload_n dR_takePart_27 rfl rfl ?_
    refine mm_aload_n dR_takePart_28 rfl rfl ?_
    refine mm_iload_n dR_takePart_29 rfl rfl ?_
    refine mm_iconst (v := nI 0) dR_takePart_30 (by decide) ?_
    refine mm_v3 dR_takePart_31 lR_32 (kr_set_at h r _).1 rfl rfl rfl (by decide) (Nat.le_of_ble_eq_true rfl) (mm_deep (by show 0 + 29 ≤ d + 29; omega) (kR_area a os hd 13 0 0 _ n rfl (kr_ok_clear X (ks_mask_lt S (some n))) hn)) ?_
    refine mm_return dR_takePart_34 rfl ?_
    exact ⟨rfl, rfl⟩
theorem kR_isSame {X Y : kr_X} {r2 : Nat} (ax : kr_at h r X) (ay : kr_at h r2 Y) (ox : kr_ok X) (oy : kr_ok Y) (tx : ∀ i, i < 66 → X.1 i < 2 ^ 31) (ty : ∀ i, i < 66 → Y.1 i < 2 ^ 31) : mm_Ev Γ l d mR_isSame [.ref r, .ref r2] h (mm_is (.inl (some (.int (mm_bI (kr_same X Y))))) h) := by
  have o1 := ox.1
  have o2 := oy.1
  show mm_W Γ l mR_isSame d _ 0 [some (.ref r), some (.ref r2), none] [] h
  by_cases hsz : X.2.1 = Y.2.1
  · have loop : ∀ (j i : Nat), i + j = X.2.1 → mm_W Γ l mR_isSame d (mm_is (.inl (some (.int (mm_bI (!ks_any (fun q => !decide (X.1 q = Y.1 q)) i j))))) h) 15 [some (.ref r), some (.ref r2), some (.int (nI i))] [] h := by
      intro j
      induction j with
      | zero =>
        intro i hi
        refine mm_iload_n dR_isSame_15 rfl rfl ?_
        refine mm_aload_n dR_isSame_16 rfl rfl ?_
        refine mm_getf dR_isSame_17 fR_15 ax.1 rfl ?_
        refine mm_icmp_ge_T (tgt := 46) dR_isSame_20 (by decide) (nI_le (by omega) (by omega)) ?_
        refine mm_iconst (v := nI 1) dR_isSame_46 (by decide) ?_
        refine mm_zreturn dR_isSame_47 rfl rfl ?_
        exact mm_f1 rfl
      | succ j ih =>
        intro i hi
        have hc : ks_any (fun q => !decide (X.1 q = Y.1 q)) i (j + 1) = if (!decide (X.1 i = Y.1 i)) = true then true else ks_any (fun q => !decide (X.1 q = Y.1 q)) (i + 1) j := rfl
        refine mm_iload_n dR_isSame_15 rfl rfl ?_
        refine mm_aload_n dR_isSame_16 rfl rfl ?_
        refine mm_getf dR_isSame_17 fR_15 ax.1 rfl ?_
        refine mm_icmp_ge_F (tgt := 46) dR_isSame_20 (by decide) (nI_ge (by omega) (by omega)) ?_
        refine mm_aload_n dR_isSame_23 rfl rfl ?_
        refine mm_getf dR_isSame_24 fR_9 ax.1 rfl ?_
        refine mm_iload_n dR_isSame_27 rfl rfl ?_
        refine mm_iaload dR_isSame_28 ax.2.1 rfl (by omega) (by decide) ?_
        refine mm_aload_n dR_isSame_29 rfl rfl ?_
        refine mm_getf dR_isSame_30 fR_9 ay.1 rfl ?_
        refine mm_iload_n dR_isSame_33 rfl rfl ?_
        refine mm_iaload dR_isSame_34 ay.2.1 rfl (by omega) (by decide) ?_
        refine mm_icmp_eq_n (tgt := 40) dR_isSame_35 (by decide) (tx i (by omega)) (ty i (by omega)) (fun q35 => ?_) (fun q35 => ?_)
        · refine mm_iinc dR_isSame_40 (by decide) rfl (mm_inc _) rfl ?_
          refine mm_goto (tgt := 15) dR_isSame_43 (by decide) ?_
          rw [hc, if_neg (by simp [q35])]
          exact ih (i + 1) (by omega)
        · refine mm_iconst (v := nI 0) dR_isSame_38 (by decide) ?_
          refine mm_zreturn dR_isSame_39 rfl rfl ?_
          exact mm_f0 (by rw [hc, if_pos (by simp [q35])]; rfl)
    have e : kr_same X Y = !ks_any (fun q => !decide (X.1 q = Y.1 q)) 0 X.2.1 := by unfold kr_same; rw [decide_eq_true hsz, Bool.true_and]
    rw [e]
    refine mm_aload_n dR_isSame_0 rfl rfl ?_
    refine mm_getf dR_isSame_1 fR_15 ax.1 rfl ?_
    refine mm_aload_n dR_isSame_4 rfl rfl ?_
    refine mm_getf dR_isSame_5 fR_15 ay.1 rfl ?_
    refine mm_icmp_eq_T (tgt := 13) dR_isSame_8 (by decide) (congrArg nI hsz) ?_
    refine mm_iconst (v := nI 0) dR_isSame_13 (by decide) ?_
    refine mm_istore_n dR_isSame_14 rfl (by decide) rfl ?_
    exact loop X.2.1 0 (by omega)
  · have e : kr_same X Y = false := by unfold kr_same; rw [decide_eq_false hsz]; rfl
    refine mm_aload_n dR_isSame_0 rfl rfl ?_
    refine mm_getf dR_isSame_1 fR_15 ax.1 rfl ?_
    refine mm_aload_n dR_isSame_4 rfl rfl ?_
    refine mm_getf dR_isSame_5 fR_15 ay.1 rfl ?_
    refine mm_icmp_eq_F (tgt := 13) dR_isSame_8 (by decide) (fun w => hsz ((nI_eq (by omega) (by omega)).mp w)) ?_
    refine mm_iconst (v := nI 0) dR_isSame_11 (by decide) ?_
    refine mm_zreturn dR_isSame_12 rfl rfl ?_
    exact mm_f0 e
end KR2
