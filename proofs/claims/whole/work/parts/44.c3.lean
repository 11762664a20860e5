/-! Contracts of CutSheets: spot, and what only asks. Printed by wip/whole/spec/c3.py -/
theorem ks_nlt {x : Int32} (h : x < 0) : ¬ 0 ≤ x := fun q => by
  have h1 := Int32.le_iff_toInt_le.mp q
  have h2 := Int32.lt_iff_toInt_lt.mp h
  omega
theorem ks_nle {x y : Int32} (h : y ≤ x) : ¬ x < y := fun q => by
  have h1 := Int32.lt_iff_toInt_lt.mp q
  have h2 := Int32.le_iff_toInt_le.mp h
  omega
theorem ks_ltN {x : Int32} {N : Nat} (hN : N < 2 ^ 31) (h1 : ¬ x < 0) (h2 : ¬ nI N ≤ x) : ∃ g : Nat, g < N ∧ x = nI g := by
  obtain ⟨j, hj, rfl⟩ := nI_of h1
  rw [nI_leI hN hj] at h2
  exact ⟨j, by omega, rfl⟩
theorem ks_reach_true {S : ks_S} {f : Int32} {y : Option Nat} (h : ks_reach S f y = true) : ∃ u : Nat, u < 6 ∧ f = nI u := by
  unfold ks_reach at h
  rw [Bool.and_eq_true] at h
  obtain ⟨k, i, a, e1, e2, h1, h2, h3⟩ := ks_hasI_true h.1
  have hk : 2 = k := (nI_eq (by decide) (by omega)).mp e1
  subst hk
  exact ⟨i, h2, e2⟩
section KC3
variable {Γ : mm_G} {l : Launch} {d : Nat} {h : mm_H} {x : Nat} {C : kc_C}
theorem kC_spot (A : kc_at h x C) (o : kc_ok C) (hm : h.1 + 1 ≤ mm_Cm Γ) (hs : h.2.1 + 6 ≤ mm_Sm Γ) (n sg f s : Int32) : mm_Ev Γ l (d + 10) mC_spot [.ref x, .int n, .int sg, .int f, .int s] h (kc_D x h (kc_spot C n sg f s)) := by
  have hf := ks_freeN_le (kc_S C) 0
  show mm_W Γ l mC_spot (d + 10) _ 0 [some (.ref x), some (.int n), some (.int sg), some (.int f), some (.int s), none] [] h
  refine mm_aload_n dC_spot_0 rfl rfl ?_
  refine mm_v0 dC_spot_1 lC_51 A.1.1 (by decide) (Nat.le_of_ble_eq_true rfl) (kC_sheet A o) ?_
  refine mm_iload_n dC_spot_4 rfl rfl ?_
  refine mm_v1 dC_spot_5 lC_55 (kc_atS A o).1 rfl (by decide) (Nat.le_of_ble_eq_true rfl) (kS_hasArea (kc_atS A o) (kc_okS o) n) ?_
  refine mm_if_eq_b (tgt := 24) dC_spot_8 (by decide) (fun q8 => ?_) (fun q8 => ?_)
  · refine mm_iconst (v := nI 0) dC_spot_24 (by decide) ?_
    refine mm_s1t dC_spot_25 lC_59 rfl (by decide) (Nat.le_of_ble_eq_true rfl) (kC_needA_f (b := false) rfl hm hs) ?_
    exact mm_leave (fun x hx => by cases hx) (by rw [show kc_spot C n sg f s = (.inr 0, C) from if_neg (mm_nb (by simp [q8]))]; exact kc_thrown A 0)
  · refine mm_iload_n dC_spot_11 rfl rfl ?_
    refine mm_if_lt (tgt := 24) dC_spot_12 (by decide) (fun q12 => ?_) (fun q12 => ?_)
    · refine mm_iconst (v := nI 0) dC_spot_24 (by decide) ?_
      refine mm_s1t dC_spot_25 lC_59 rfl (by decide) (Nat.le_of_ble_eq_true rfl) (kC_needA_f (b := false) rfl hm hs) ?_
      exact mm_leave (fun x hx => by cases hx) (by rw [show kc_spot C n sg f s = (.inr 0, C) from if_neg (mm_nb (by rw [q8, decide_eq_false (ks_nlt q12)]; rfl))]; exact kc_thrown A 0)
    · refine mm_iload_n dC_spot_15 rfl rfl ?_
      refine mm_iconst (v := nI 4) dC_spot_16 (by decide) ?_
      refine mm_icmp_ge (tgt := 24) dC_spot_17 (by decide) (fun q17 => ?_) (fun q17 => ?_)
      · refine mm_iconst (v := nI 0) dC_spot_24 (by decide) ?_
        refine mm_s1t dC_spot_25 lC_59 rfl (by decide) (Nat.le_of_ble_eq_true rfl) (kC_needA_f (b := false) rfl hm hs) ?_
        exact mm_leave (fun x hx => by cases hx) (by rw [show kc_spot C n sg f s = (.inr 0, C) from if_neg (mm_nb (by rw [q8, decide_eq_false (ks_nle q17), Bool.and_false, Bool.and_false]))]; exact kc_thrown A 0)
      · refine mm_iconst (v := nI 1) dC_spot_20 (by decide) ?_
        refine mm_goto (tgt := 25) dC_spot_21 (by decide) ?_
        refine mm_s1 dC_spot_25 lC_59 rfl (by decide) (Nat.le_of_ble_eq_true rfl) (kC_needA_t (b := true) rfl) ?_
        obtain ⟨a, ha, rfl⟩ := ks_harI_true q8
        have hsg0 := ks_nneg q12
        obtain ⟨g, hg, rfl⟩ := ks_ltN (by decide) q12 q17
        have hp := kc_places_le hg
        have hsg : nI g < nI 4 := (nI_ltI (by omega) (by decide)).mpr hg
        have e0 : kc_spot C (nI a) (nI g) f s = kc_spotN C (nI a) g f s := by
          unfold kc_spot
          rw [if_pos (by rw [q8, decide_eq_true hsg0, decide_eq_true hsg]; rfl), nI_clamp (by omega)]
        rw [e0]
        refine mm_iload_n dC_spot_28 rfl rfl ?_
        refine mm_s1 dC_spot_29 lC_87 rfl (by decide) (Nat.le_of_ble_eq_true rfl) (kC_places (by omega)) ?_
        refine mm_istore dC_spot_32 (by decide) rfl ?_
        refine mm_iload dC_spot_34 rfl ?_
        refine mm_iconst (v := nI 1) dC_spot_36 (by decide) ?_
        refine mm_icmp_lt_n (tgt := 52) dC_spot_37 (by decide) (by omega) (by decide) (fun q37 => ?_) (fun q37 => ?_)
        · refine mm_iconst (v := nI 1) dC_spot_52 (by decide) ?_
          refine mm_goto (tgt := 57) dC_spot_53 (by decide) ?_
          refine mm_s1 dC_spot_57 lC_59 rfl (by decide) (Nat.le_of_ble_eq_true rfl) (kC_needA_t (b := true) rfl) ?_
          refine mm_iload dC_spot_60 rfl ?_
          refine mm_iconst (v := nI 2) dC_spot_62 (by decide) ?_
          refine mm_icmp_lt_n (tgt := 79) dC_spot_63 (by decide) (by omega) (by decide) (fun q63 => ?_) (fun q63 => ?_)
          · refine mm_iconst (v := nI 1) dC_spot_79 (by decide) ?_
            refine mm_goto (tgt := 84) dC_spot_80 (by decide) ?_
            refine mm_s1 dC_spot_84 lC_59 rfl (by decide) (Nat.le_of_ble_eq_true rfl) (kC_needA_t (b := true) rfl) ?_
            refine mm_aload_n dC_spot_87 rfl rfl ?_
            refine mm_iload_n dC_spot_88 rfl rfl ?_
            refine mm_v1 dC_spot_89 lC_63 A.1.1 rfl (by decide) (Nat.le_of_ble_eq_true rfl) (kC_mayInsert A o (nI a)) ?_
            by_cases n92 : kc_mayIn C (nI a) = true
            · refine mm_s1 dC_spot_92 lC_66 rfl (by decide) (Nat.le_of_ble_eq_true rfl) (kC_needS_t n92) ?_
              refine mm_aload_n dC_spot_95 rfl rfl ?_
              refine mm_v0 dC_spot_96 lC_69 A.1.1 (by decide) (Nat.le_of_ble_eq_true rfl) (kC_mayChange A o) ?_
              refine mm_if_eq_b (tgt := 117) dC_spot_99 (by decide) (fun q99 => ?_) (fun q99 => ?_)
              · refine mm_iconst (v := nI 0) dC_spot_117 (by decide) ?_
                refine mm_s1t dC_spot_118 lC_77 rfl (by decide) (Nat.le_of_ble_eq_true rfl) (kC_needR_f (b := false) rfl hm hs) ?_
                exact mm_leave (fun x hx => by cases hx) (by rw [show kc_spotN C (nI a) g f s = (.inr 2, C) from (if_pos (by simp [q37])).trans ((if_pos (by simp [q63])).trans ((if_pos n92).trans (if_neg (mm_nb (by simp [q99])))))]; exact kc_thrown A 2)
              · refine mm_aload_n dC_spot_102 rfl rfl ?_
                refine mm_v0 dC_spot_103 lC_51 A.1.1 (by decide) (Nat.le_of_ble_eq_true rfl) (kC_sheet A o) ?_
                refine mm_iconst (v := nI 0) dC_spot_106 (by decide) ?_
                refine mm_v1 dC_spot_107 lC_73 (kc_atS A o).1 rfl (by decide) (Nat.le_of_ble_eq_true rfl) (kS_free (kc_atS A o) (kc_okS o) (by decide)) ?_
                refine mm_if_le_n (tgt := 117) dC_spot_110 (by decide) (by omega) (fun q110 => ?_) (fun q110 => ?_)
                · refine mm_iconst (v := nI 0) dC_spot_117 (by decide) ?_
                  refine mm_s1t dC_spot_118 lC_77 rfl (by decide) (Nat.le_of_ble_eq_true rfl) (kC_needR_f (b := false) rfl hm hs) ?_
                  exact mm_leave (fun x hx => by cases hx) (by rw [show kc_spotN C (nI a) g f s = (.inr 2, C) from (if_pos (by simp [q37])).trans ((if_pos (by simp [q63])).trans ((if_pos n92).trans (if_neg (mm_nb (by simp [q99, q110])))))]; exact kc_thrown A 2)
                · refine mm_iconst (v := nI 1) dC_spot_113 (by decide) ?_
                  refine mm_goto (tgt := 118) dC_spot_114 (by decide) ?_
                  refine mm_s1 dC_spot_118 lC_77 rfl (by decide) (Nat.le_of_ble_eq_true rfl) (kC_needR_t (b := true) rfl) ?_
                  refine mm_aload_n dC_spot_121 rfl rfl ?_
                  have eF : kc_spotN C (nI a) g f s = _ := (if_pos (by simp [q37])).trans ((if_pos (by simp [q63])).trans ((if_pos n92).trans (if_pos (by simp [q99]; omega : (kc_mayCh C && decide (0 < ks_freeN (kc_S C) 0)) = true))))
                  rw [eF, kc_n_nI (by omega)]
                  rw [show kc_hk 1 (kc_places g) f = none from if_pos q37]
                  rw [show kc_hk 2 (kc_places g) s = none from if_pos q63]
                  refine mm_v0 dC_spot_122 lC_80 A.1.1 (by decide) (Nat.le_of_ble_eq_true rfl) (kC_changed A o) ?_
                  refine mm_iload_n dC_spot_125 rfl rfl ?_
                  refine mm_iload_n dC_spot_126 rfl rfl ?_
                  refine mm_iload dC_spot_127 rfl ?_
                  refine mm_iconst (v := nI 1) dC_spot_129 (by decide) ?_
                  refine mm_icmp_ge_F (tgt := 137) dC_spot_130 (by decide) (nI_ge q37 (by decide)) ?_
                  refine mm_iconst (v := -1) dC_spot_133 (by decide) ?_
                  refine mm_goto (tgt := 138) dC_spot_134 (by decide) ?_
                  refine mm_iload dC_spot_138 rfl ?_
                  refine mm_iconst (v := nI 2) dC_spot_140 (by decide) ?_
                  refine mm_icmp_ge_F (tgt := 148) dC_spot_141 (by decide) (nI_ge q63 (by decide)) ?_
                  refine mm_iconst (v := -1) dC_spot_144 (by decide) ?_
                  refine mm_goto (tgt := 150) dC_spot_145 (by decide) ?_
                  refine mm_v4 dC_spot_150 lC_94 (kc_chg_S A o).1 rfl rfl rfl rfl (by decide) (Nat.le_of_ble_eq_true rfl) (kS_addSpot (kc_chg_S A o) (kc_okS o) (x := some a) (sg := g) (f := none) (s := none)) ?_
                  refine mm_ireturn dC_spot_153 rfl ?_
                  exact kc_done A o _ _
            · refine mm_s1t dC_spot_92 lC_66 rfl (by decide) (Nat.le_of_ble_eq_true rfl) (kC_needS_f (mm_bf n92) hm hs) ?_
              exact mm_leave (fun x hx => by cases hx) (by rw [show kc_spotN C (nI a) g f s = (.inr 1, C) from (if_pos (by simp [q37])).trans ((if_pos (by simp [q63])).trans (if_neg n92))]; exact kc_thrown A 1)
          · refine mm_aload_n dC_spot_66 rfl rfl ?_
            refine mm_v0 dC_spot_67 lC_51 A.1.1 (by decide) (Nat.le_of_ble_eq_true rfl) (kC_sheet A o) ?_
            refine mm_iload dC_spot_70 rfl ?_
            refine mm_iload_n dC_spot_72 rfl rfl ?_
            refine mm_v2 dC_spot_73 lC_90 (kc_atS A o).1 rfl rfl (by decide) (Nat.le_of_ble_eq_true rfl) (kS_reaches (kc_atS A o) (kc_okS o) s (x := some a) (mm_lt_some ha)) ?_
            refine mm_if_eq_b (tgt := 83) dC_spot_76 (by decide) (fun q76 => ?_) (fun q76 => ?_)
            · refine mm_iconst (v := nI 0) dC_spot_83 (by decide) ?_
              refine mm_s1t dC_spot_84 lC_59 rfl (by decide) (Nat.le_of_ble_eq_true rfl) (kC_needA_f (b := false) rfl hm hs) ?_
              exact mm_leave (fun x hx => by cases hx) (by rw [show kc_spotN C (nI a) g f s = (.inr 0, C) from (if_pos (by simp [q37])).trans (if_neg (mm_nb (by rw [kc_n_nI (by omega), q76]; simp; omega)))]; exact kc_thrown A 0)
            · refine mm_iconst (v := nI 1) dC_spot_79 (by decide) ?_
              refine mm_goto (tgt := 84) dC_spot_80 (by decide) ?_
              refine mm_s1 dC_spot_84 lC_59 rfl (by decide) (Nat.le_of_ble_eq_true rfl) (kC_needA_t (b := true) rfl) ?_
              refine mm_aload_n dC_spot_87 rfl rfl ?_
              refine mm_iload_n dC_spot_88 rfl rfl ?_
              refine mm_v1 dC_spot_89 lC_63 A.1.1 rfl (by decide) (Nat.le_of_ble_eq_true rfl) (kC_mayInsert A o (nI a)) ?_
              by_cases n92 : kc_mayIn C (nI a) = true
              · refine mm_s1 dC_spot_92 lC_66 rfl (by decide) (Nat.le_of_ble_eq_true rfl) (kC_needS_t n92) ?_
                refine mm_aload_n dC_spot_95 rfl rfl ?_
                refine mm_v0 dC_spot_96 lC_69 A.1.1 (by decide) (Nat.le_of_ble_eq_true rfl) (kC_mayChange A o) ?_
                refine mm_if_eq_b (tgt := 117) dC_spot_99 (by decide) (fun q99 => ?_) (fun q99 => ?_)
                · refine mm_iconst (v := nI 0) dC_spot_117 (by decide) ?_
                  refine mm_s1t dC_spot_118 lC_77 rfl (by decide) (Nat.le_of_ble_eq_true rfl) (kC_needR_f (b := false) rfl hm hs) ?_
                  exact mm_leave (fun x hx => by cases hx) (by rw [show kc_spotN C (nI a) g f s = (.inr 2, C) from (if_pos (by simp [q37])).trans ((if_pos (by rw [kc_n_nI (by omega)]; simp [q76])).trans ((if_pos n92).trans (if_neg (mm_nb (by simp [q99])))))]; exact kc_thrown A 2)
                · refine mm_aload_n dC_spot_102 rfl rfl ?_
                  refine mm_v0 dC_spot_103 lC_51 A.1.1 (by decide) (Nat.le_of_ble_eq_true rfl) (kC_sheet A o) ?_
                  refine mm_iconst (v := nI 0) dC_spot_106 (by decide) ?_
                  refine mm_v1 dC_spot_107 lC_73 (kc_atS A o).1 rfl (by decide) (Nat.le_of_ble_eq_true rfl) (kS_free (kc_atS A o) (kc_okS o) (by decide)) ?_
                  refine mm_if_le_n (tgt := 117) dC_spot_110 (by decide) (by omega) (fun q110 => ?_) (fun q110 => ?_)
                  · refine mm_iconst (v := nI 0) dC_spot_117 (by decide) ?_
                    refine mm_s1t dC_spot_118 lC_77 rfl (by decide) (Nat.le_of_ble_eq_true rfl) (kC_needR_f (b := false) rfl hm hs) ?_
                    exact mm_leave (fun x hx => by cases hx) (by rw [show kc_spotN C (nI a) g f s = (.inr 2, C) from (if_pos (by simp [q37])).trans ((if_pos (by rw [kc_n_nI (by omega)]; simp [q76])).trans ((if_pos n92).trans (if_neg (mm_nb (by simp [q99, q110])))))]; exact kc_thrown A 2)
                  · refine mm_iconst (v := nI 1) dC_spot_113 (by decide) ?_
                    refine mm_goto (tgt := 118) dC_spot_114 (by decide) ?_
                    refine mm_s1 dC_spot_118 lC_77 rfl (by decide) (Nat.le_of_ble_eq_true rfl) (kC_needR_t (b := true) rfl) ?_
                    refine mm_aload_n dC_spot_121 rfl rfl ?_
                    have eF : kc_spotN C (nI a) g f s = _ := (if_pos (by simp [q37])).trans ((if_pos (by rw [kc_n_nI (by omega)]; simp [q76])).trans ((if_pos n92).trans (if_pos (by simp [q99]; omega : (kc_mayCh C && decide (0 < ks_freeN (kc_S C) 0)) = true))))
                    rw [eF, kc_n_nI (by omega)]
                    rw [show kc_hk 1 (kc_places g) f = none from if_pos q37]
                    obtain ⟨v, hv, rfl⟩ := ks_reach_true q76
                    rw [show kc_hk 2 (kc_places g) (nI v) = some v from (if_neg (by omega)).trans (kc_n_nI (by omega))]
                    refine mm_v0 dC_spot_122 lC_80 A.1.1 (by decide) (Nat.le_of_ble_eq_true rfl) (kC_changed A o) ?_
                    refine mm_iload_n dC_spot_125 rfl rfl ?_
                    refine mm_iload_n dC_spot_126 rfl rfl ?_
                    refine mm_iload dC_spot_127 rfl ?_
                    refine mm_iconst (v := nI 1) dC_spot_129 (by decide) ?_
                    refine mm_icmp_ge_F (tgt := 137) dC_spot_130 (by decide) (nI_ge q37 (by decide)) ?_
                    refine mm_iconst (v := -1) dC_spot_133 (by decide) ?_
                    refine mm_goto (tgt := 138) dC_spot_134 (by decide) ?_
                    refine mm_iload dC_spot_138 rfl ?_
                    refine mm_iconst (v := nI 2) dC_spot_140 (by decide) ?_
                    refine mm_icmp_ge_T (tgt := 148) dC_spot_141 (by decide) (nI_le (by omega) (by omega)) ?_
                    refine mm_iload dC_spot_148 rfl ?_
                    refine mm_v4 dC_spot_150 lC_94 (kc_chg_S A o).1 rfl rfl rfl rfl (by decide) (Nat.le_of_ble_eq_true rfl) (kS_addSpot (kc_chg_S A o) (kc_okS o) (x := some a) (sg := g) (f := none) (s := some v)) ?_
                    refine mm_ireturn dC_spot_153 rfl ?_
                    exact kc_done A o _ _
              · refine mm_s1t dC_spot_92 lC_66 rfl (by decide) (Nat.le_of_ble_eq_true rfl) (kC_needS_f (mm_bf n92) hm hs) ?_
                exact mm_leave (fun x hx => by cases hx) (by rw [show kc_spotN C (nI a) g f s = (.inr 1, C) from (if_pos (by simp [q37])).trans ((if_pos (by rw [kc_n_nI (by omega)]; simp [q76])).trans (if_neg n92))]; exact kc_thrown A 1)
        · refine mm_aload_n dC_spot_40 rfl rfl ?_
          refine mm_v0 dC_spot_41 lC_51 A.1.1 (by decide) (Nat.le_of_ble_eq_true rfl) (kC_sheet A o) ?_
          refine mm_iload_n dC_spot_44 rfl rfl ?_
          refine mm_iload_n dC_spot_45 rfl rfl ?_
          refine mm_v2 dC_spot_46 lC_90 (kc_atS A o).1 rfl rfl (by decide) (Nat.le_of_ble_eq_true rfl) (kS_reaches (kc_atS A o) (kc_okS o) f (x := some a) (mm_lt_some ha)) ?_
          refine mm_if_eq_b (tgt := 56) dC_spot_49 (by decide) (fun q49 => ?_) (fun q49 => ?_)
          · refine mm_iconst (v := nI 0) dC_spot_56 (by decide) ?_
            refine mm_s1t dC_spot_57 lC_59 rfl (by decide) (Nat.le_of_ble_eq_true rfl) (kC_needA_f (b := false) rfl hm hs) ?_
            exact mm_leave (fun x hx => by cases hx) (by rw [show kc_spotN C (nI a) g f s = (.inr 0, C) from if_neg (mm_nb (by rw [kc_n_nI (by omega), q49]; simp; omega))]; exact kc_thrown A 0)
          · refine mm_iconst (v := nI 1) dC_spot_52 (by decide) ?_
            refine mm_goto (tgt := 57) dC_spot_53 (by decide) ?_
            refine mm_s1 dC_spot_57 lC_59 rfl (by decide) (Nat.le_of_ble_eq_true rfl) (kC_needA_t (b := true) rfl) ?_
            refine mm_iload dC_spot_60 rfl ?_
            refine mm_iconst (v := nI 2) dC_spot_62 (by decide) ?_
            refine mm_icmp_lt_n (tgt := 79) dC_spot_63 (by decide) (by omega) (by decide) (fun q63 => ?_) (fun q63 => ?_)
            · refine mm_iconst (v := nI 1) dC_spot_79 (by decide) ?_
              refine mm_goto (tgt := 84) dC_spot_80 (by decide) ?_
              refine mm_s1 dC_spot_84 lC_59 rfl (by decide) (Nat.le_of_ble_eq_true rfl) (kC_needA_t (b := true) rfl) ?_
              refine mm_aload_n dC_spot_87 rfl rfl ?_
              refine mm_iload_n dC_spot_88 rfl rfl ?_
              refine mm_v1 dC_spot_89 lC_63 A.1.1 rfl (by decide) (Nat.le_of_ble_eq_true rfl) (kC_mayInsert A o (nI a)) ?_
              by_cases n92 : kc_mayIn C (nI a) = true
              · refine mm_s1 dC_spot_92 lC_66 rfl (by decide) (Nat.le_of_ble_eq_true rfl) (kC_needS_t n92) ?_
                refine mm_aload_n dC_spot_95 rfl rfl ?_
                refine mm_v0 dC_spot_96 lC_69 A.1.1 (by decide) (Nat.le_of_ble_eq_true rfl) (kC_mayChange A o) ?_
                refine mm_if_eq_b (tgt := 117) dC_spot_99 (by decide) (fun q99 => ?_) (fun q99 => ?_)
                · refine mm_iconst (v := nI 0) dC_spot_117 (by decide) ?_
                  refine mm_s1t dC_spot_118 lC_77 rfl (by decide) (Nat.le_of_ble_eq_true rfl) (kC_needR_f (b := false) rfl hm hs) ?_
                  exact mm_leave (fun x hx => by cases hx) (by rw [show kc_spotN C (nI a) g f s = (.inr 2, C) from (if_pos (by rw [kc_n_nI (by omega)]; simp [q49])).trans ((if_pos (by simp [q63])).trans ((if_pos n92).trans (if_neg (mm_nb (by simp [q99])))))]; exact kc_thrown A 2)
                · refine mm_aload_n dC_spot_102 rfl rfl ?_
                  refine mm_v0 dC_spot_103 lC_51 A.1.1 (by decide) (Nat.le_of_ble_eq_true rfl) (kC_sheet A o) ?_
                  refine mm_iconst (v := nI 0) dC_spot_106 (by decide) ?_
                  refine mm_v1 dC_spot_107 lC_73 (kc_atS A o).1 rfl (by decide) (Nat.le_of_ble_eq_true rfl) (kS_free (kc_atS A o) (kc_okS o) (by decide)) ?_
                  refine mm_if_le_n (tgt := 117) dC_spot_110 (by decide) (by omega) (fun q110 => ?_) (fun q110 => ?_)
                  · refine mm_iconst (v := nI 0) dC_spot_117 (by decide) ?_
                    refine mm_s1t dC_spot_118 lC_77 rfl (by decide) (Nat.le_of_ble_eq_true rfl) (kC_needR_f (b := false) rfl hm hs) ?_
                    exact mm_leave (fun x hx => by cases hx) (by rw [show kc_spotN C (nI a) g f s = (.inr 2, C) from (if_pos (by rw [kc_n_nI (by omega)]; simp [q49])).trans ((if_pos (by simp [q63])).trans ((if_pos n92).trans (if_neg (mm_nb (by simp [q99, q110])))))]; exact kc_thrown A 2)
                  · refine mm_iconst (v := nI 1) dC_spot_113 (by decide) ?_
                    refine mm_goto (tgt := 118) dC_spot_114 (by decide) ?_
                    refine mm_s1 dC_spot_118 lC_77 rfl (by decide) (Nat.le_of_ble_eq_true rfl) (kC_needR_t (b := true) rfl) ?_
                    refine mm_aload_n dC_spot_121 rfl rfl ?_
                    have eF : kc_spotN C (nI a) g f s = _ := (if_pos (by rw [kc_n_nI (by omega)]; simp [q49])).trans ((if_pos (by simp [q63])).trans ((if_pos n92).trans (if_pos (by simp [q99]; omega : (kc_mayCh C && decide (0 < ks_freeN (kc_S C) 0)) = true))))
                    rw [eF, kc_n_nI (by omega)]
                    obtain ⟨u, hu, rfl⟩ := ks_reach_true q49
                    rw [show kc_hk 1 (kc_places g) (nI u) = some u from (if_neg (by omega)).trans (kc_n_nI (by omega))]
                    rw [show kc_hk 2 (kc_places g) s = none from if_pos q63]
                    refine mm_v0 dC_spot_122 lC_80 A.1.1 (by decide) (Nat.le_of_ble_eq_true rfl) (kC_changed A o) ?_
                    refine mm_iload_n dC_spot_125 rfl rfl ?_
                    refine mm_iload_n dC_spot_126 rfl rfl ?_
                    refine mm_iload dC_spot_127 rfl ?_
                    refine mm_iconst (v := nI 1) dC_spot_129 (by decide) ?_
                    refine mm_icmp_ge_T (tgt := 137) dC_spot_130 (by decide) (nI_le (by omega) (by omega)) ?_
                    refine mm_iload_n dC_spot_137 rfl rfl ?_
                    refine mm_iload dC_spot_138 rfl ?_
                    refine mm_iconst (v := nI 2) dC_spot_140 (by decide) ?_
                    refine mm_icmp_ge_F (tgt := 148) dC_spot_141 (by decide) (nI_ge q63 (by decide)) ?_
                    refine mm_iconst (v := -1) dC_spot_144 (by decide) ?_
                    refine mm_goto (tgt := 150) dC_spot_145 (by decide) ?_
                    refine mm_v4 dC_spot_150 lC_94 (kc_chg_S A o).1 rfl rfl rfl rfl (by decide) (Nat.le_of_ble_eq_true rfl) (kS_addSpot (kc_chg_S A o) (kc_okS o) (x := some a) (sg := g) (f := some u) (s := none)) ?_
                    refine mm_ireturn dC_spot_153 rfl ?_
                    exact kc_done A o _ _
              · refine mm_s1t dC_spot_92 lC_66 rfl (by decide) (Nat.le_of_ble_eq_true rfl) (kC_needS_f (mm_bf n92) hm hs) ?_
                exact mm_leave (fun x hx => by cases hx) (by rw [show kc_spotN C (nI a) g f s = (.inr 1, C) from (if_pos (by rw [kc_n_nI (by omega)]; simp [q49])).trans ((if_pos (by simp [q63])).trans (if_neg n92))]; exact kc_thrown A 1)
            · refine mm_aload_n dC_spot_66 rfl rfl ?_
              refine mm_v0 dC_spot_67 lC_51 A.1.1 (by decide) (Nat.le_of_ble_eq_true rfl) (kC_sheet A o) ?_
              refine mm_iload dC_spot_70 rfl ?_
              refine mm_iload_n dC_spot_72 rfl rfl ?_
              refine mm_v2 dC_spot_73 lC_90 (kc_atS A o).1 rfl rfl (by decide) (Nat.le_of_ble_eq_true rfl) (kS_reaches (kc_atS A o) (kc_okS o) s (x := some a) (mm_lt_some ha)) ?_
              refine mm_if_eq_b (tgt := 83) dC_spot_76 (by decide) (fun q76 => ?_) (fun q76 => ?_)
              · refine mm_iconst (v := nI 0) dC_spot_83 (by decide) ?_
                refine mm_s1t dC_spot_84 lC_59 rfl (by decide) (Nat.le_of_ble_eq_true rfl) (kC_needA_f (b := false) rfl hm hs) ?_
                exact mm_leave (fun x hx => by cases hx) (by rw [show kc_spotN C (nI a) g f s = (.inr 0, C) from (if_pos (by rw [kc_n_nI (by omega)]; simp [q49])).trans (if_neg (mm_nb (by rw [kc_n_nI (by omega), q76]; simp; omega)))]; exact kc_thrown A 0)
              · refine mm_iconst (v := nI 1) dC_spot_79 (by decide) ?_
                refine mm_goto (tgt := 84) dC_spot_80 (by decide) ?_
                refine mm_s1 dC_spot_84 lC_59 rfl (by decide) (Nat.le_of_ble_eq_true rfl) (kC_needA_t (b := true) rfl) ?_
                refine mm_aload_n dC_spot_87 rfl rfl ?_
                refine mm_iload_n dC_spot_88 rfl rfl ?_
                refine mm_v1 dC_spot_89 lC_63 A.1.1 rfl (by decide) (Nat.le_of_ble_eq_true rfl) (kC_mayInsert A o (nI a)) ?_
                by_cases n92 : kc_mayIn C (nI a) = true
                · refine mm_s1 dC_spot_92 lC_66 rfl (by decide) (Nat.le_of_ble_eq_true rfl) (kC_needS_t n92) ?_
                  refine mm_aload_n dC_spot_95 rfl rfl ?_
                  refine mm_v0 dC_spot_96 lC_69 A.1.1 (by decide) (Nat.le_of_ble_eq_true rfl) (kC_mayChange A o) ?_
                  refine mm_if_eq_b (tgt := 117) dC_spot_99 (by decide) (fun q99 => ?_) (fun q99 => ?_)
                  · refine mm_iconst (v := nI 0) dC_spot_117 (by decide) ?_
                    refine mm_s1t dC_spot_118 lC_77 rfl (by decide) (Nat.le_of_ble_eq_true rfl) (kC_needR_f (b := false) rfl hm hs) ?_
                    exact mm_leave (fun x hx => by cases hx) (by rw [show kc_spotN C (nI a) g f s = (.inr 2, C) from (if_pos (by rw [kc_n_nI (by omega)]; simp [q49])).trans ((if_pos (by rw [kc_n_nI (by omega)]; simp [q76])).trans ((if_pos n92).trans (if_neg (mm_nb (by simp [q99])))))]; exact kc_thrown A 2)
                  · refine mm_aload_n dC_spot_102 rfl rfl ?_
                    refine mm_v0 dC_spot_103 lC_51 A.1.1 (by decide) (Nat.le_of_ble_eq_true rfl) (kC_sheet A o) ?_
                    refine mm_iconst (v := nI 0) dC_spot_106 (by decide) ?_
                    refine mm_v1 dC_spot_107 lC_73 (kc_atS A o).1 rfl (by decide) (Nat.le_of_ble_eq_true rfl) (kS_free (kc_atS A o) (kc_okS o) (by decide)) ?_
                    refine mm_if_le_n (tgt := 117) dC_spot_110 (by decide) (by omega) (fun q110 => ?_) (fun q110 => ?_)
                    · refine mm_iconst (v := nI 0) dC_spot_117 (by decide) ?_
                      refine mm_s1t dC_spot_118 lC_77 rfl (by decide) (Nat.le_of_ble_eq_true rfl) (kC_needR_f (b := false) rfl hm hs) ?_
                      exact mm_leave (fun x hx => by cases hx) (by rw [show kc_spotN C (nI a) g f s = (.inr 2, C) from (if_pos (by rw [kc_n_nI (by omega)]; simp [q49])).trans ((if_pos (by rw [kc_n_nI (by omega)]; simp [q76])).trans ((if_pos n92).trans (if_neg (mm_nb (by simp [q99, q110])))))]; exact kc_thrown A 2)
                    · refine mm_iconst (v := nI 1) dC_spot_113 (by decide) ?_
                      refine mm_goto (tgt := 118) dC_spot_114 (by decide) ?_
                      refine mm_s1 dC_spot_118 lC_77 rfl (by decide) (Nat.le_of_ble_eq_true rfl) (kC_needR_t (b := true) rfl) ?_
                      refine mm_aload_n dC_spot_121 rfl rfl ?_
                      have eF : kc_spotN C (nI a) g f s = _ := (if_pos (by rw [kc_n_nI (by omega)]; simp [q49])).trans ((if_pos (by rw [kc_n_nI (by omega)]; simp [q76])).trans ((if_pos n92).trans (if_pos (by simp [q99]; omega : (kc_mayCh C && decide (0 < ks_freeN (kc_S C) 0)) = true))))
                      rw [eF, kc_n_nI (by omega)]
                      obtain ⟨u, hu, rfl⟩ := ks_reach_true q49
                      rw [show kc_hk 1 (kc_places g) (nI u) = some u from (if_neg (by omega)).trans (kc_n_nI (by omega))]
                      obtain ⟨v, hv, rfl⟩ := ks_reach_true q76
                      rw [show kc_hk 2 (kc_places g) (nI v) = some v from (if_neg (by omega)).trans (kc_n_nI (by omega))]
                      refine mm_v0 dC_spot_122 lC_80 A.1.1 (by decide) (Nat.le_of_ble_eq_true rfl) (kC_changed A o) ?_
                      refine mm_iload_n dC_spot_125 rfl rfl ?_
                      refine mm_iload_n dC_spot_126 rfl rfl ?_
                      refine mm_iload dC_spot_127 rfl ?_
                      refine mm_iconst (v := nI 1) dC_spot_129 (by decide) ?_
                      refine mm_icmp_ge_T (tgt := 137) dC_spot_130 (by decide) (nI_le (by omega) (by omega)) ?_
                      refine mm_iload_n dC_spot_137 rfl rfl ?_
                      refine mm_iload dC_spot_138 rfl ?_
                      refine mm_iconst (v := nI 2) dC_spot_140 (by decide) ?_
                      refine mm_icmp_ge_T (tgt := 148) dC_spot_141 (by decide) (nI_le (by omega) (by omega)) ?_
                      refine mm_iload dC_spot_148 rfl ?_
                      refine mm_v4 dC_spot_150 lC_94 (kc_chg_S A o).1 rfl rfl rfl rfl (by decide) (Nat.le_of_ble_eq_true rfl) (kS_addSpot (kc_chg_S A o) (kc_okS o) (x := some a) (sg := g) (f := some u) (s := some v)) ?_
                      refine mm_ireturn dC_spot_153 rfl ?_
                      exact kc_done A o _ _
                · refine mm_s1t dC_spot_92 lC_66 rfl (by decide) (Nat.le_of_ble_eq_true rfl) (kC_needS_f (mm_bf n92) hm hs) ?_
                  exact mm_leave (fun x hx => by cases hx) (by rw [show kc_spotN C (nI a) g f s = (.inr 1, C) from (if_pos (by rw [kc_n_nI (by omega)]; simp [q49])).trans ((if_pos (by rw [kc_n_nI (by omega)]; simp [q76])).trans (if_neg n92))]; exact kc_thrown A 1)
theorem kC_back (A : kc_at h x C) (o : kc_ok C) (hm : h.1 + 1 ≤ mm_Cm Γ) (hs : h.2.1 + 6 ≤ mm_Sm Γ) : mm_Ev Γ l (d + 10) mC_back [.ref x] h (kc_D x h (kc_back C)) := by
  have hm20 := o.2.1
  show mm_W Γ l mC_back (d + 10) _ 0 [some (.ref x)] [] h
  refine mm_aload_n dC_back_0 rfl rfl ?_
  refine mm_getf dC_back_1 fC_47 A.1.1 rfl ?_
  refine mm_if_le_n (tgt := 11) dC_back_4 (by decide) (by omega) (fun q4 => ?_) (fun q4 => ?_)
  · refine mm_iconst (v := nI 0) dC_back_11 (by decide) ?_
    refine mm_s1t dC_back_12 lC_66 rfl (by decide) (Nat.le_of_ble_eq_true rfl) (kC_needS_f (b := false) rfl hm hs) ?_
    exact mm_leave (fun x hx => by cases hx) (by rw [show kc_back C = (.inr 1, C) from if_neg (by omega)]; exact kc_thrown A 1)
  · refine mm_iconst (v := nI 1) dC_back_7 (by decide) ?_
    refine mm_goto (tgt := 12) dC_back_8 (by decide) ?_
    refine mm_s1 dC_back_12 lC_66 rfl (by decide) (Nat.le_of_ble_eq_true rfl) (kC_needS_t (b := true) rfl) ?_
    refine mm_aload_n dC_back_15 rfl rfl ?_
    refine mm_dup dC_back_16 rfl ?_
    refine mm_getf dC_back_17 fC_47 A.1.1 rfl ?_
    refine mm_iconst (v := nI 1) dC_back_20 (by decide) ?_
    refine mm_isub dC_back_21 ?_
    refine mm_top (v' := .int (nI (C.2.2.2.2.2 - 1))) (congrArg Value.int (pk_sub (by omega))) ?_
    refine mm_putf dC_back_22 fC_47 rfl rfl rfl rfl A.1.1 (Nat.le_of_ble_eq_true rfl) ?_
    refine mm_aload_n dC_back_25 rfl rfl ?_
    refine mm_getf dC_back_26 fC_47 (kc_face A C.2.2.2.2.1 (C.2.2.2.2.2 - 1)).1.1 rfl ?_
    refine mm_ireturn dC_back_29 rfl ?_
    rw [show kc_back C = _ from if_pos q4]
    exact ⟨rfl, kc_face A C.2.2.2.2.1 (C.2.2.2.2.2 - 1), kc_fface (kc_fr_refl x h) C.2.2.2.2.1 (C.2.2.2.2.2 - 1)⟩
theorem kC_depth (A : kc_at h x C) (o : kc_ok C) (hm : h.1 + 1 ≤ mm_Cm Γ) (hs : h.2.1 + 6 ≤ mm_Sm Γ) (n : Int32) : mm_Ev Γ l (d + 10) mC_depth [.ref x, .int n] h (kc_D x h (kc_depth C n)) := by
  show mm_W Γ l mC_depth (d + 10) _ 0 [some (.ref x), some (.int n)] [] h
  refine mm_aload_n dC_depth_0 rfl rfl ?_
  refine mm_v0 dC_depth_1 lC_51 A.1.1 (by decide) (Nat.le_of_ble_eq_true rfl) (kC_sheet A o) ?_
  refine mm_iload_n dC_depth_4 rfl rfl ?_
  refine mm_v1 dC_depth_5 lC_55 (kc_atS A o).1 rfl (by decide) (Nat.le_of_ble_eq_true rfl) (kS_hasArea (kc_atS A o) (kc_okS o) n) ?_
  by_cases n8 : ks_harI (kc_S C) n = true
  · refine mm_s1 dC_depth_8 lC_59 rfl (by decide) (Nat.le_of_ble_eq_true rfl) (kC_needA_t n8) ?_
    refine mm_aload_n dC_depth_11 rfl rfl ?_
    refine mm_v0 dC_depth_12 lC_51 A.1.1 (by decide) (Nat.le_of_ble_eq_true rfl) (kC_sheet A o) ?_
    refine mm_iload_n dC_depth_15 rfl rfl ?_
    refine mm_v1 dC_depth_16 lC_144 (kc_atS A o).1 rfl (by decide) (Nat.le_of_ble_eq_true rfl) (kS_depthOf (kc_atS A o) (kc_okS o) n) ?_
    refine mm_ireturn dC_depth_19 rfl ?_
    rw [show kc_depth C n = _ from if_pos n8]
    exact kc_same A _
  · refine mm_s1t dC_depth_8 lC_59 rfl (by decide) (Nat.le_of_ble_eq_true rfl) (kC_needA_f (mm_bf n8) hm hs) ?_
    exact mm_leave (fun x hx => by cases hx) (by rw [show kc_depth C n = (.inr 0, C) from if_neg n8]; exact kc_thrown A 0)
theorem kC_read (A : kc_at h x C) (o : kc_ok C) (hm : h.1 + 1 ≤ mm_Cm Γ) (hs : h.2.1 + 6 ≤ mm_Sm Γ) (n : Int32) : mm_Ev Γ l (d + 40) mC_read [.ref x, .int n] h (kc_D x h (kc_read C n)) := by
  show mm_W Γ l mC_read (d + 40) _ 0 [some (.ref x), some (.int n)] [] h
  refine mm_aload_n dC_read_0 rfl rfl ?_
  refine mm_v0 dC_read_1 lC_51 A.1.1 (by decide) (Nat.le_of_ble_eq_true rfl) (kC_sheet A o) ?_
  refine mm_iload_n dC_read_4 rfl rfl ?_
  refine mm_v1 dC_read_5 lC_55 (kc_atS A o).1 rfl (by decide) (Nat.le_of_ble_eq_true rfl) (mm_deep (by omega) (kS_hasArea (d := 0) (kc_atS A o) (kc_okS o) n)) ?_
  by_cases n8 : ks_harI (kc_S C) n = true
  · refine mm_s1 dC_read_8 lC_59 rfl (by decide) (Nat.le_of_ble_eq_true rfl) (kC_needA_t n8) ?_
    refine mm_aload_n dC_read_11 rfl rfl ?_
    refine mm_getf dC_read_12 fC_19 A.1.1 rfl ?_
    refine mm_aload_n dC_read_15 rfl rfl ?_
    refine mm_v0 dC_read_16 lC_51 A.1.1 (by decide) (Nat.le_of_ble_eq_true rfl) (kC_sheet A o) ?_
    refine mm_iload_n dC_read_19 rfl rfl ?_
    obtain ⟨a, ha, rfl⟩ := ks_harI_true n8
    have eR := kR_takeArea (Γ := Γ) (l := l) (d := d + 9) (h := h) (r := x + 128) C.2.1.1 (kc_atS A o) (kc_okS o) (by have := o.2.1; unfold kc_b; omega) ha
    rw [kr_at_set A.2.2.1.1] at eR
    have A2 := kc_last A (kr_take (kc_S C) C.2.1.1 a)
    refine mm_v2 dC_read_20 lC_147 A.2.2.1.1.1 rfl rfl (by decide) (Nat.le_of_ble_eq_true rfl) (eR) ?_
    refine mm_aload_n dC_read_23 rfl rfl ?_
    refine mm_getf dC_read_24 fC_19 A2.1.1 rfl ?_
    refine mm_getf dC_read_27 fC_151 A2.2.2.1.1.1 rfl ?_
    refine mm_ireturn dC_read_30 rfl ?_
    rw [show kc_read C (nI a) = _ from if_pos n8, nI_clamp (by omega)]
    exact ⟨rfl, A2, kc_fread (kc_fr_refl x h) (Or.inl rfl) _⟩
  · refine mm_s1t dC_read_8 lC_59 rfl (by decide) (Nat.le_of_ble_eq_true rfl) (kC_needA_f (mm_bf n8) hm hs) ?_
    exact mm_leave (fun x hx => by cases hx) (by rw [show kc_read C n = (.inr 0, C) from if_neg n8]; exact kc_thrown A 0)
theorem kC_token (A : kc_at h x C) (o : kc_ok C) (hm : h.1 + 1 ≤ mm_Cm Γ) (hs : h.2.1 + 6 ≤ mm_Sm Γ) (n : Int32) : mm_Ev Γ l (d + 10) mC_token [.ref x, .int n] h (kc_D x h (kc_token C n)) := by
  have h66 := o.2.2.2.1.1
  show mm_W Γ l mC_token (d + 10) _ 0 [some (.ref x), some (.int n)] [] h
  refine mm_iload_n dC_token_0 rfl rfl ?_
  refine mm_if_lt (tgt := 15) dC_token_1 (by decide) (fun q1 => ?_) (fun q1 => ?_)
  · exact mm_throw dC_token_15 dC_token_18 dC_token_19 dC_token_22 kw_t3 rfl (by decide) hm hs (by rw [show kc_token C n = (.inr 3, C) from if_neg (mm_nb (by rw [decide_eq_false (ks_nlt q1)]; rfl))]; exact kc_thrown A 3) --stop
  · refine mm_iload_n dC_token_4 rfl rfl ?_
    refine mm_aload_n dC_token_5 rfl rfl ?_
    refine mm_getf dC_token_6 fC_19 A.1.1 rfl ?_
    refine mm_getf dC_token_9 fC_151 A.2.2.1.1.1 rfl ?_
    refine mm_icmp_lt (tgt := 23) dC_token_12 (by decide) (fun q12 => ?_) (fun q12 => ?_)
    · refine mm_aload_n dC_token_23 rfl rfl ?_
      refine mm_getf dC_token_24 fC_19 A.1.1 rfl ?_
      refine mm_getf dC_token_27 fC_157 A.2.2.1.1.1 rfl ?_
      refine mm_iload_n dC_token_30 rfl rfl ?_
      have h0 := ks_nneg q1
      have hlt := q12
      obtain ⟨i, hi, rfl⟩ := nI_of q1
      have hi2 : i < C.2.1.1.2.1 := (nI_ltI hi (by omega)).mp q12
      refine mm_iaload dC_token_31 A.2.2.1.1.2.1 rfl (by omega) (by decide) ?_
      refine mm_ireturn dC_token_32 rfl ?_
      rw [show kc_token C (nI i) = _ from if_pos (by rw [decide_eq_true h0, decide_eq_true hlt]; rfl), nI_clamp hi]
      exact kc_same A _
    · exact mm_throw dC_token_15 dC_token_18 dC_token_19 dC_token_22 kw_t3 rfl (by decide) hm hs (by rw [show kc_token C n = (.inr 3, C) from if_neg (mm_nb (by rw [decide_eq_false q12, Bool.and_false]))]; exact kc_thrown A 3) --stop
theorem ks_le3 {x : Int32} (h1 : ¬ x < 0) (h2 : ¬ nI 3 < x) : ∃ g : Nat, g < 4 ∧ x = nI g := by
  obtain ⟨j, hj, rfl⟩ := nI_of h1
  rw [nI_ltI (by decide) hj] at h2
  exact ⟨j, by omega, rfl⟩
theorem kC_count (A : kc_at h x C) (o : kc_ok C) (hm : h.1 + 1 ≤ mm_Cm Γ) (hs : h.2.1 + 6 ≤ mm_Sm Γ) (n : Int32) : mm_Ev Γ l (d + 10) mC_count [.ref x, .int n] h (kc_D x h (kc_count C n)) := by
  show mm_W Γ l mC_count (d + 10) _ 0 [some (.ref x), some (.int n)] [] h
  refine mm_iload_n dC_count_0 rfl rfl ?_
  refine mm_if_lt (tgt := 13) dC_count_1 (by decide) (fun q1 => ?_) (fun q1 => ?_)
  · refine mm_iconst (v := nI 0) dC_count_13 (by decide) ?_
    refine mm_s1t dC_count_14 lC_59 rfl (by decide) (Nat.le_of_ble_eq_true rfl) (kC_needA_f (b := false) rfl hm hs) ?_
    exact mm_leave (fun x hx => by cases hx) (by rw [show kc_count C n = (.inr 0, C) from if_neg (mm_nb (by rw [decide_eq_false (ks_nlt q1)]; rfl))]; exact kc_thrown A 0)
  · refine mm_iload_n dC_count_4 rfl rfl ?_
    refine mm_iconst (v := nI 3) dC_count_5 (by decide) ?_
    refine mm_icmp_gt (tgt := 13) dC_count_6 (by decide) (fun q6 => ?_) (fun q6 => ?_)
    · refine mm_iconst (v := nI 0) dC_count_13 (by decide) ?_
      refine mm_s1t dC_count_14 lC_59 rfl (by decide) (Nat.le_of_ble_eq_true rfl) (kC_needA_f (b := false) rfl hm hs) ?_
      exact mm_leave (fun x hx => by cases hx) (by rw [show kc_count C n = (.inr 0, C) from if_neg (mm_nb (by rw [decide_eq_false (show ¬ n ≤ nI 3 from fun w => ks_nle w q6), Bool.and_false]))]; exact kc_thrown A 0)
    · refine mm_iconst (v := nI 1) dC_count_9 (by decide) ?_
      refine mm_goto (tgt := 14) dC_count_10 (by decide) ?_
      refine mm_s1 dC_count_14 lC_59 rfl (by decide) (Nat.le_of_ble_eq_true rfl) (kC_needA_t (b := true) rfl) ?_
      refine mm_iload_n dC_count_17 rfl rfl ?_
      obtain ⟨g, hg, rfl⟩ := ks_le3 q1 q6
      obtain rfl | rfl | rfl | rfl : g = 0 ∨ g = 1 ∨ g = 2 ∨ g = 3 := by omega
      · refine mm_tableIn (tgt := 44) dC_count_18 (by decide) (by decide) rfl (by decide) ?_
        refine mm_aload_n dC_count_44 rfl rfl ?_
        refine mm_v0 dC_count_45 lC_51 A.1.1 (by decide) (Nat.le_of_ble_eq_true rfl) (kC_sheet A o) ?_
        refine mm_iconst (v := nI 1) dC_count_48 (by decide) ?_
        refine mm_v1 dC_count_49 lC_170 (kc_atS A o).1 rfl (by decide) (Nat.le_of_ble_eq_true rfl) (kS_howMany (kc_atS A o) (kc_okS o) (by decide)) ?_
        refine mm_ireturn dC_count_52 rfl ?_
        rw [show kc_count C (nI 0) = _ from if_pos (by decide), show (if nI 0 = nI 0 then ks_many (kc_S C) 1 8191 else if nI 0 = nI 1 then ks_many (kc_S C) 0 8191 else if nI 0 = nI 2 then ks_many (kc_S C) 2 8191 else C.2.2.2.2.2) = _ from if_pos rfl]
        exact kc_same A _
      · refine mm_tableIn (tgt := 53) dC_count_18 (by decide) (by decide) rfl (by decide) ?_
        refine mm_aload_n dC_count_53 rfl rfl ?_
        refine mm_v0 dC_count_54 lC_51 A.1.1 (by decide) (Nat.le_of_ble_eq_true rfl) (kC_sheet A o) ?_
        refine mm_iconst (v := nI 0) dC_count_57 (by decide) ?_
        refine mm_v1 dC_count_58 lC_170 (kc_atS A o).1 rfl (by decide) (Nat.le_of_ble_eq_true rfl) (kS_howMany (kc_atS A o) (kc_okS o) (by decide)) ?_
        refine mm_ireturn dC_count_61 rfl ?_
        rw [show kc_count C (nI 1) = _ from if_pos (by decide), show (if nI 1 = nI 0 then ks_many (kc_S C) 1 8191 else if nI 1 = nI 1 then ks_many (kc_S C) 0 8191 else if nI 1 = nI 2 then ks_many (kc_S C) 2 8191 else C.2.2.2.2.2) = _ from (if_neg (by decide)).trans (if_pos rfl)]
        exact kc_same A _
      · refine mm_tableIn (tgt := 62) dC_count_18 (by decide) (by decide) rfl (by decide) ?_
        refine mm_aload_n dC_count_62 rfl rfl ?_
        refine mm_v0 dC_count_63 lC_51 A.1.1 (by decide) (Nat.le_of_ble_eq_true rfl) (kC_sheet A o) ?_
        refine mm_iconst (v := nI 2) dC_count_66 (by decide) ?_
        refine mm_v1 dC_count_67 lC_170 (kc_atS A o).1 rfl (by decide) (Nat.le_of_ble_eq_true rfl) (kS_howMany (kc_atS A o) (kc_okS o) (by decide)) ?_
        refine mm_ireturn dC_count_70 rfl ?_
        rw [show kc_count C (nI 2) = _ from if_pos (by decide), show (if nI 2 = nI 0 then ks_many (kc_S C) 1 8191 else if nI 2 = nI 1 then ks_many (kc_S C) 0 8191 else if nI 2 = nI 2 then ks_many (kc_S C) 2 8191 else C.2.2.2.2.2) = _ from (if_neg (by decide)).trans ((if_neg (by decide)).trans (if_pos rfl))]
        exact kc_same A _
      · refine mm_tableOut (tgt := 71) dC_count_18 (by decide) (by decide) ?_
        refine mm_aload_n dC_count_71 rfl rfl ?_
        refine mm_getf dC_count_72 fC_47 A.1.1 rfl ?_
        refine mm_ireturn dC_count_75 rfl ?_
        rw [show kc_count C (nI 3) = _ from if_pos (by decide), show (if nI 3 = nI 0 then ks_many (kc_S C) 1 8191 else if nI 3 = nI 1 then ks_many (kc_S C) 0 8191 else if nI 3 = nI 2 then ks_many (kc_S C) 2 8191 else C.2.2.2.2.2) = _ from (if_neg (by decide)).trans ((if_neg (by decide)).trans (if_neg (by decide)))]
        exact kc_same A _ --stop
end KC3
