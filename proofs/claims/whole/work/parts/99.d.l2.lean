/-! The law. Printed by wip/whole/spec/l2.py -/
section KY
variable {Γ : mm_G} {l : Launch} {d x : Nat}
theorem kL_loop (hN6 : kL_N Γ ≤ 2560) : ∀ (k i : Nat) (h : mm_H) (C : kc_C) (M : km_M) (y5 y6 : Option Value), kL_N Γ - i ≤ k → kL_I Γ x h C M i → i ≤ kL_N Γ → mm_W Γ l mL_law (d + 52) (fun o _ => o = .inl (some (.int (nI 1)))) 23 [some (.ref Γ.2.2.2.1), some (.ref x), some (.ref (x + 166)), some (.ref (x + 182)), some (.int (nI i)), y5, y6] [] h := by
  have hN : kL_N Γ < 2 ^ 31 := by omega
  intro k
  induction k with
  | zero =>
    intro i h C M y5 y6 hk I hiN
    have ei : i = kL_N Γ := by omega
    have hgt : nI (kL_N Γ) - nI 5 < nI i := by
      rw [Int32.lt_iff_toInt_lt, pk_sub_toInt (by omega) (by omega), nI_toInt (by omega)]
      omega
    refine mm_iload dL_law_23 rfl ?_
    refine mm_aload_n dL_law_25 rfl rfl ?_
    refine mm_slen dL_law_26 rfl ?_
    refine mm_iconst (v := nI 5) dL_law_27 (by decide) ?_
    refine mm_isub dL_law_28 ?_
    refine mm_icmp_gt_T (tgt := 1261) dL_law_29 (by decide) hgt ?_
    refine mm_iconst (v := nI 1) dL_law_1261 (by decide) ?_
    refine mm_zreturn dL_law_1262 rfl rfl ?_
    exact rfl
  | succ k ih =>
    intro i h C M y5 y6 hk I hiN
    by_cases c : i + 5 ≤ kL_N Γ
    · have hle : ¬ nI (kL_N Γ) - nI 5 < nI i := by
        rw [Int32.lt_iff_toInt_lt, pk_sub_toInt (by omega) (by omega), nI_toInt (by omega)]
        omega
      have next : ∀ (h' : mm_H) (C' : kc_C) (M' : km_M) (y5 y6 : Option Value), kL_I Γ x h' C' M' (i + 5) → mm_W Γ l mL_law (d + 52) (fun o _ => o = .inl (some (.int (nI 1)))) 1255 [some (.ref Γ.2.2.2.1), some (.ref x), some (.ref (x + 166)), some (.ref (x + 182)), some (.int (nI i)), y5, y6] [] h' := by
        intro h' C' M' z5 z6 I' 
        refine mm_iinc dL_law_1255 (by decide) rfl (show nI i + Int32.ofInt 5 = nI (i + 5) from nI_add i 5) rfl ?_
        refine mm_goto (tgt := 23) dL_law_1258 (by decide) ?_
        exact ih (i + 5) h' C' M' _ _ (by omega) I' c
      obtain ⟨v, ev, hv⟩ : ∃ v : Nat, kL_p Γ i &&& nI 31 = nI v ∧ v < 32 := ⟨_, pk_and (kL_p Γ i) 5 (by decide), Nat.mod_lt _ (by decide)⟩
      refine mm_iload dL_law_23 rfl ?_
      refine mm_aload_n dL_law_25 rfl rfl ?_
      refine mm_slen dL_law_26 rfl ?_
      refine mm_iconst (v := nI 5) dL_law_27 (by decide) ?_
      refine mm_isub dL_law_28 ?_
      refine mm_icmp_gt_F (tgt := 1261) dL_law_29 (by decide) hle ?_
      refine mm_aload_n dL_law_32 rfl rfl ?_
      refine mm_iload dL_law_33 rfl ?_
      refine mm_sload dL_law_35 rfl (show i < kL_N Γ by omega) hN ?_
      refine mm_bipush (v := nI 31) dL_law_36 (by decide) ?_
      refine mm_iand dL_law_38 ?_
      refine mm_top (v' := .int (nI v)) (congrArg Value.int ev) ?_
      by_cases c18 : v < 18
      · match v, c18 with
        | 0, _ =>
          refine mm_tableIn (tgt := 124) dL_law_39 (by decide) (by decide) rfl (by decide) ?_
          exact kZ_cut I c hN _ _ next
        | 1, _ =>
          refine mm_tableIn (tgt := 180) dL_law_39 (by decide) (by decide) rfl (by decide) ?_
          exact kZ_line I c hN _ _ next
        | 2, _ =>
          refine mm_tableIn (tgt := 236) dL_law_39 (by decide) (by decide) rfl (by decide) ?_
          exact kZ_spot I c hN _ _ next
        | 3, _ =>
          refine mm_tableIn (tgt := 328) dL_law_39 (by decide) (by decide) rfl (by decide) ?_
          exact kZ_start I c hN _ _ next
        | 4, _ =>
          refine mm_tableIn (tgt := 352) dL_law_39 (by decide) (by decide) rfl (by decide) ?_
          exact kZ_erase I c hN _ _ next
        | 5, _ =>
          refine mm_tableIn (tgt := 420) dL_law_39 (by decide) (by decide) rfl (by decide) ?_
          exact kZ_copy I c hN _ _ next
        | 6, _ =>
          refine mm_tableIn (tgt := 500) dL_law_39 (by decide) (by decide) rfl (by decide) ?_
          exact kZ_uncopy I c hN _ _ next
        | 7, _ =>
          refine mm_tableIn (tgt := 568) dL_law_39 (by decide) (by decide) rfl (by decide) ?_
          exact kZ_wrap I c hN _ _ next
        | 8, _ =>
          refine mm_tableIn (tgt := 636) dL_law_39 (by decide) (by decide) rfl (by decide) ?_
          exact kZ_unwrap I c hN _ _ next
        | 9, _ =>
          refine mm_tableIn (tgt := 692) dL_law_39 (by decide) (by decide) rfl (by decide) ?_
          exact kZ_join I c hN _ _ next
        | 10, _ =>
          refine mm_tableIn (tgt := 760) dL_law_39 (by decide) (by decide) rfl (by decide) ?_
          exact kZ_sever I c hN _ _ next
        | 11, _ =>
          refine mm_tableIn (tgt := 828) dL_law_39 (by decide) (by decide) rfl (by decide) ?_
          exact kZ_back I c hN _ _ next
        | 12, _ =>
          refine mm_tableIn (tgt := 872) dL_law_39 (by decide) (by decide) rfl (by decide) ?_
          exact kZ_depth I c hN _ _ next
        | 13, _ =>
          refine mm_tableIn (tgt := 928) dL_law_39 (by decide) (by decide) rfl (by decide) ?_
          exact kZ_read I c hN _ _ next
        | 14, _ =>
          refine mm_tableIn (tgt := 984) dL_law_39 (by decide) (by decide) rfl (by decide) ?_
          exact kZ_token I c hN _ _ next
        | 15, _ =>
          refine mm_tableIn (tgt := 1040) dL_law_39 (by decide) (by decide) rfl (by decide) ?_
          exact kZ_holds I c hN _ _ next
        | 16, _ =>
          refine mm_tableIn (tgt := 1143) dL_law_39 (by decide) (by decide) rfl (by decide) ?_
          exact kZ_refutes I c hN _ _ next
        | 17, _ =>
          refine mm_tableIn (tgt := 1199) dL_law_39 (by decide) (by decide) rfl (by decide) ?_
          exact kZ_count I c hN _ _ next
        | n + 18, hc => exact absurd hc (by omega)
      · refine mm_tableOut (tgt := 1255) dL_law_39 (Or.inr (by rw [nI_toInt (by omega)]; omega)) (by decide) ?_
        obtain ⟨i1, i2, i3, i4, i5, i6⟩ := I
        exact next h C M _ _ ⟨i1, i2, i3, i4, by omega, by omega⟩
    · have hgt : nI (kL_N Γ) - nI 5 < nI i := by
        rw [Int32.lt_iff_toInt_lt, pk_sub_toInt (by omega) (by omega), nI_toInt (by omega)]
        omega
      refine mm_iload dL_law_23 rfl ?_
      refine mm_aload_n dL_law_25 rfl rfl ?_
      refine mm_slen dL_law_26 rfl ?_
      refine mm_iconst (v := nI 5) dL_law_27 (by decide) ?_
      refine mm_isub dL_law_28 ?_
      refine mm_icmp_gt_T (tgt := 1261) dL_law_29 (by decide) hgt ?_
      refine mm_iconst (v := nI 1) dL_law_1261 (by decide) ?_
      refine mm_zreturn dL_law_1262 rfl rfl ?_
      exact rfl
theorem kL_law {h : mm_H} (hN : kL_N Γ ≤ 2560) (hm : h.1 + 183 + kL_N Γ ≤ mm_Cm Γ) (hs : h.2.1 + 13382 + 6 * kL_N Γ ≤ mm_Sm Γ) : mm_Ev Γ l (d + 52) mL_law [.ref Γ.2.2.2.1] h (fun o _ => o = .inl (some (.int (nI 1)))) := by
  show mm_W Γ l mL_law (d + 52) _ 0 [some (.ref Γ.2.2.2.1), none, none, none, none, none, none] [] _
  refine mm_new dL_law_0 cL_8 rfl rfl (by omega) (by show h.2.1 + 9 ≤ _; omega) ?_
  refine mm_eqh (bl_one _ _ _).symm ?_
  refine mm_dup dL_law_3 rfl ?_
  refine mm_calli (as := []) (rest := [.ref h.1]) dL_law_4 lL_77 rfl (fun v hv => nomatch hv) (Nat.le_of_ble_eq_true rfl) (Nat.le_of_ble_eq_true rfl) (kC_init (d := d + 49) (by omega) (by omega)) ?_ ?_
  rotate_left
  · rintro k g ⟨e, -⟩; cases e
  rintro v g ⟨e, g1, g2, g3, g4⟩
  cases e
  refine mm_astore_n dL_law_7 rfl (by decide) rfl ?_
  refine mm_new dL_law_8 cL_78 rfl rfl (by omega) (by show g.2.1 + 21 ≤ _; omega) ?_
  refine mm_eqh (bl_one _ _ _).symm ?_
  refine mm_dup dL_law_11 rfl ?_
  refine mm_i0 dL_law_12 lL_80 (by decide) (Nat.le_of_ble_eq_true rfl) (kM_init (h := g) (by omega) (by omega)) ?_
  refine mm_astore_n dL_law_15 rfl (by decide) rfl ?_
  refine mm_iconst (v := nI 1) dL_law_16 (by decide) ?_
  refine mm_newarr (t := 2) (N := 1) (x := .inr (.inl (fun _ => 0))) dL_law_17 rfl (by decide) kw_al (fun _ => rfl) rfl (by decide) (by decide) (by show g.1 + 16 + 1 ≤ _; omega) (by show g.2.1 + 11332 + 1 ≤ _; omega) ?_
  refine mm_eqh (bl_add _ _ _ _ _).symm ?_
  refine mm_astore_n dL_law_19 rfl (by decide) rfl ?_
  refine mm_iconst (v := nI 0) dL_law_20 (by decide) ?_
  refine mm_istore dL_law_21 (by decide) rfl ?_
  rw [show (bl g 11332 (kn_ML g.1 (kn_M 67))).1 = h.1 + 182 by show g.1 + 16 = _; omega, g2]
  refine kL_loop (x := h.1) hN (kL_N Γ) 0 _ kn_C0 (kn_M 67) _ _ (Nat.sub_le _ _) ⟨kc_at_same g1 (fun q h1 h2 => bl_old _ _ _ (by omega)), fun q hq => ?_, ⟨fun _ => 0, ?_⟩, kq_R0, ?_, ?_⟩ (Nat.zero_le _)
  · rw [← g2]; exact bl_at (kn_ML_at g.1 (kn_M 67) _ q hq)
  · rw [show h.1 + 182 = g.1 + 16 by omega]; exact bl_at (i := 16) rfl
  · show g.1 + 17 + _ ≤ _; omega
  · show g.2.1 + (11332 + 1) + _ ≤ _; omega
end KY
