/-! Contracts of CutSheets: holds, refutes. Printed by wip/whole/spec/c7.py -/
theorem ks_ngt {x y : Int32} (h : x < y) : ¬ y ≤ x := fun q => by
  have h1 := Int32.lt_iff_toInt_lt.mp h
  have h2 := Int32.le_iff_toInt_le.mp q
  omega
theorem ks_nlt' {x y : Int32} (h : ¬ x < y) : y ≤ x := by
  rw [Int32.lt_iff_toInt_lt] at h
  rw [Int32.le_iff_toInt_le]
  omega
theorem ks_nle' {x y : Int32} (h : ¬ y ≤ x) : x < y := by
  rw [Int32.le_iff_toInt_le] at h
  rw [Int32.lt_iff_toInt_lt]
  omega
theorem bk_comm (h : mm_H) {b n b2 n2 : Nat} (c c2 : Nat → mm_E) (hd : b + n ≤ b2 ∨ b2 + n2 ≤ b) : bk_set (bk_set h b n c) b2 n2 c2 = bk_set (bk_set h b2 n2 c2) b n c := by
  refine ks_set_ext rfl rfl fun q => ?_
  show (if b2 ≤ q ∧ q < b2 + n2 then some (c2 (q - b2)) else if b ≤ q ∧ q < b + n then some (c (q - b)) else _) = if b ≤ q ∧ q < b + n then some (c (q - b)) else if b2 ≤ q ∧ q < b2 + n2 then some (c2 (q - b2)) else _
  by_cases h1 : b ≤ q ∧ q < b + n
  · rw [if_pos h1, if_pos h1, if_neg (by omega)]
  · rw [if_neg h1, if_neg h1]
section KC7
variable {Γ : mm_G} {l : Launch} {d : Nat} {h : mm_H} {x : Nat} {C : kc_C}
theorem kC_arr (A : kc_at h x C) (o : kc_ok C) {k i : Nat} (hk : k = x + 137 ∨ k = x + 151) (hi : i < 21) {K : kl_K} (a : kl_is h k K) : mm_Ev Γ l (d + 1) mK_arrange [.ref k, .ref (kc_b x i)] h (mm_is (.inl none) (kl_set h k (kl_arr (C.1 i) K))) := by
  have hb : kc_b x i = x + 2 + 6 * i := rfl
  have e := kK_arrange (Γ := Γ) (l := l) (d := d) (h := h) (k := k) (b := kc_b x i) (K := K) (S := C.1 i) (A.2.1 i hi) (o.1 i hi) (by omega)
  rw [kl_is_set a] at e
  exact e
theorem kC_say {k : Nat} {K : kl_K} (ok : kl_okK K) (t : kl_okt K.2.2.2.2.1) {n m : Nat} (h1 : 1 ≤ n) (h3 : n ≤ 3) (hm : m < 2 ^ 31) : mm_Ev Γ l (d + 40) mK_isTrueIn [.ref k, .int (nI n), .int (nI m)] (kl_set h k K) (mm_is (.inl (some (.int (mm_bI (kl_say K n m).1)))) (kl_set h k (kl_say K n m).2)) :=
  kK_isTrueIn (kl_ok_tb ok h1 h3 hm) t
theorem kC_holds (A : kc_at h x C) (o : kc_ok C) (hm : h.1 + 1 ≤ mm_Cm Γ) (hs : h.2.1 + 6 ≤ mm_Sm Γ) (pr : kl_pre C.2.2.1.2) (fi : Bool) (n m : Int32) : mm_Ev Γ l (d + 50) mC_holds [.ref x, .int (mm_bI fi), .int n, .int m] h (kc_D x h (kc_holds C fi n m)) := by
  have hmv := o.2.1
  show mm_W Γ l mC_holds (d + 50) _ 0 [some (.ref x), some (.int (mm_bI fi)), some (.int n), some (.int m)] [] h
  refine mm_iload_n dC_holds_0 rfl rfl ?_
  refine mm_iconst (v := nI 1) dC_holds_1 (by decide) ?_
  refine mm_icmp_lt (tgt := 25) dC_holds_2 (by decide) (fun q2 => ?_) (fun q2 => ?_)
  · refine mm_iconst (v := nI 0) dC_holds_25 (by decide) ?_
    refine mm_s1t dC_holds_26 lC_59 rfl (by decide) (Nat.le_of_ble_eq_true rfl) (kC_needA_f (b := false) rfl hm hs) ?_
    exact mm_leave (fun x hx => by cases hx) (by rw [show kc_holds C fi n m = (.inr 0, C) from if_neg (mm_nb (by rw [decide_eq_false (ks_ngt q2)]; rfl))]; exact kc_thrown A 0)
  · refine mm_iload_n dC_holds_5 rfl rfl ?_
    refine mm_iconst (v := nI 3) dC_holds_6 (by decide) ?_
    refine mm_icmp_gt (tgt := 25) dC_holds_7 (by decide) (fun q7 => ?_) (fun q7 => ?_)
    · refine mm_iconst (v := nI 0) dC_holds_25 (by decide) ?_
      refine mm_s1t dC_holds_26 lC_59 rfl (by decide) (Nat.le_of_ble_eq_true rfl) (kC_needA_f (b := false) rfl hm hs) ?_
      exact mm_leave (fun x hx => by cases hx) (by rw [show kc_holds C fi n m = (.inr 0, C) from if_neg (mm_nb (by rw [decide_eq_false (ks_ngt q7), Bool.false_and, Bool.and_false]))]; exact kc_thrown A 0)
    · refine mm_iload_n dC_holds_10 rfl rfl ?_
      refine mm_if_lt (tgt := 25) dC_holds_11 (by decide) (fun q11 => ?_) (fun q11 => ?_)
      · refine mm_iconst (v := nI 0) dC_holds_25 (by decide) ?_
        refine mm_s1t dC_holds_26 lC_59 rfl (by decide) (Nat.le_of_ble_eq_true rfl) (kC_needA_f (b := false) rfl hm hs) ?_
        exact mm_leave (fun x hx => by cases hx) (by rw [show kc_holds C fi n m = (.inr 0, C) from if_neg (mm_nb (by rw [decide_eq_false (ks_nlt q11), Bool.false_and, Bool.and_false, Bool.and_false]))]; exact kc_thrown A 0)
      · refine mm_iload_n dC_holds_14 rfl rfl ?_
        refine mm_sipush (v := nI 16384) dC_holds_15 (by decide) ?_
        refine mm_icmp_ge (tgt := 25) dC_holds_18 (by decide) (fun q18 => ?_) (fun q18 => ?_)
        · refine mm_iconst (v := nI 0) dC_holds_25 (by decide) ?_
          refine mm_s1t dC_holds_26 lC_59 rfl (by decide) (Nat.le_of_ble_eq_true rfl) (kC_needA_f (b := false) rfl hm hs) ?_
          exact mm_leave (fun x hx => by cases hx) (by rw [show kc_holds C fi n m = (.inr 0, C) from if_neg (mm_nb (by rw [decide_eq_false (ks_nle q18), Bool.and_false, Bool.and_false, Bool.and_false]))]; exact kc_thrown A 0)
        · refine mm_iconst (v := nI 1) dC_holds_21 (by decide) ?_
          refine mm_goto (tgt := 26) dC_holds_22 (by decide) ?_
          refine mm_s1 dC_holds_26 lC_59 rfl (by decide) (Nat.le_of_ble_eq_true rfl) (kC_needA_t (b := true) rfl) ?_
          have g1 := ks_nlt' q2
          have g3 := ks_nlt' q7
          have g5 := ks_nneg q11
          have g6 := ks_nle' q18
          have e0 : kc_holds C fi n m = kc_holdsN C fi n.toNatClampNeg m.toNatClampNeg := if_pos (by rw [decide_eq_true g1, decide_eq_true g3, decide_eq_true g5, decide_eq_true g6]; rfl)
          have q2' : ¬ n < 0 := fun w => by
            have w1 := Int32.lt_iff_toInt_lt.mp w
            have w2 := Int32.le_iff_toInt_le.mp g1
            have w3 : (nI 1).toInt = 1 := by decide
            have w4 : (0 : Int32).toInt = 0 := by decide
            omega
          rw [e0]
          obtain ⟨n, hn, rfl⟩ := nI_of q2'
          obtain ⟨m, hmm, rfl⟩ := nI_of q11
          rw [nI_clamp hn, nI_clamp hmm]
          have n1 : 1 ≤ n := (nI_leI (by decide) hn).mp g1
          have n3 : n ≤ 3 := (nI_leI hn (by decide)).mp g3
          refine mm_iload_n dC_holds_29 rfl rfl ?_
          refine mm_if_eq_b (tgt := 40) dC_holds_30 (by decide) (fun q30 => ?_) (fun q30 => ?_)
          · refine mm_iconst (v := nI 1) dC_holds_40 (by decide) ?_
            refine mm_goto (tgt := 45) dC_holds_41 (by decide) ?_
            refine mm_s1 dC_holds_45 lC_66 rfl (by decide) (Nat.le_of_ble_eq_true rfl) (kC_needS_t (b := true) rfl) ?_
            rw [show kc_holdsN C fi n m = _ from if_pos (by simp [q30])]
            subst q30
            refine mm_aload_n dC_holds_48 rfl rfl ?_
            refine mm_getf dC_holds_49 fC_36 A.1.1 rfl ?_
            refine mm_iload_n dC_holds_52 rfl rfl ?_
            refine mm_if_eq_T (tgt := 65) dC_holds_53 (by decide) (by decide) ?_
            refine mm_aload_n dC_holds_65 rfl rfl ?_
            refine mm_v0 dC_holds_66 lC_51 A.1.1 (by decide) (Nat.le_of_ble_eq_true rfl) (kC_sheet A o) ?_
            refine mm_v1 dC_holds_69 lC_160 (A.2.2.2.1.2 0 (by decide)) rfl (by decide) (Nat.le_of_ble_eq_true rfl) (mm_deep (by omega) (kC_arr (d := 0) A o (Or.inr rfl) (i := C.2.2.2.2.2) (by omega) A.2.2.2.1.2)) ?_
            refine mm_aload_n dC_holds_72 rfl rfl ?_
            refine mm_getf dC_holds_73 fC_36 (kc_now A _).1.1 rfl ?_
            refine mm_iload_n dC_holds_76 rfl rfl ?_
            refine mm_iload_n dC_holds_77 rfl rfl ?_
            refine mm_v2 dC_holds_78 lC_164 (kl_at0 h (x + 151) _) rfl rfl (by decide) (Nat.le_of_ble_eq_true rfl) (kC_say (kl_okK_arr (o.1 _ (by omega)) pr) pr.2 n1 n3 hmm) ?_
            refine mm_zreturn dC_holds_81 rfl (mm_bI_narrow _) ?_
            exact ⟨rfl, kc_now A _, kc_flook (kc_fr_refl x h) (Or.inr rfl) _⟩
          · refine mm_aload_n dC_holds_33 rfl rfl ?_
            refine mm_getf dC_holds_34 fC_43 A.1.1 rfl ?_
            refine mm_if_ne_b (tgt := 44) dC_holds_37 (by decide) (fun q37 => ?_) (fun q37 => ?_)
            · refine mm_iconst (v := nI 0) dC_holds_44 (by decide) ?_
              refine mm_s1t dC_holds_45 lC_66 rfl (by decide) (Nat.le_of_ble_eq_true rfl) (kC_needS_f (b := false) rfl hm hs) ?_
              exact mm_leave (fun x hx => by cases hx) (by rw [show kc_holdsN C fi n m = (.inr 1, C) from if_neg (mm_nb (by simp [q30, q37]))]; exact kc_thrown A 1)
            · refine mm_iconst (v := nI 1) dC_holds_40 (by decide) ?_
              refine mm_goto (tgt := 45) dC_holds_41 (by decide) ?_
              refine mm_s1 dC_holds_45 lC_66 rfl (by decide) (Nat.le_of_ble_eq_true rfl) (kC_needS_t (b := true) rfl) ?_
              rw [show kc_holdsN C fi n m = _ from if_pos (by simp [q30, q37])]
              subst q30
              refine mm_aload_n dC_holds_48 rfl rfl ?_
              refine mm_getf dC_holds_49 fC_36 A.1.1 rfl ?_
              refine mm_iload_n dC_holds_52 rfl rfl ?_
              refine mm_if_eq_F (tgt := 65) dC_holds_53 (by decide) (by decide) ?_
              refine mm_aload_n dC_holds_56 rfl rfl ?_
              refine mm_getf dC_holds_57 fC_11 A.1.1 rfl ?_
              refine mm_iconst (v := nI 0) dC_holds_60 (by decide) ?_
              refine mm_aaload dC_holds_61 A.1.2 (j := 0) rfl (by decide) (by decide) (kc_rowf x (by decide)) ?_
              refine mm_goto (tgt := 69) dC_holds_62 (by decide) ?_
              refine mm_v1 dC_holds_69 lC_160 (A.2.2.2.1.2 0 (by decide)) rfl (by decide) (Nat.le_of_ble_eq_true rfl) (mm_deep (by omega) (kC_arr (d := 0) A o (Or.inr rfl) (i := 0) (by omega) A.2.2.2.1.2)) ?_
              refine mm_aload_n dC_holds_72 rfl rfl ?_
              refine mm_getf dC_holds_73 fC_36 (kc_now A _).1.1 rfl ?_
              refine mm_iload_n dC_holds_76 rfl rfl ?_
              refine mm_iload_n dC_holds_77 rfl rfl ?_
              refine mm_v2 dC_holds_78 lC_164 (kl_at0 h (x + 151) _) rfl rfl (by decide) (Nat.le_of_ble_eq_true rfl) (kC_say (kl_okK_arr (o.1 _ (by omega)) pr) pr.2 n1 n3 hmm) ?_
              refine mm_zreturn dC_holds_81 rfl (mm_bI_narrow _) ?_
              exact ⟨rfl, kc_now A _, kc_flook (kc_fr_refl x h) (Or.inr rfl) _⟩
theorem kC_bits1 : mm_Ev Γ l (d + 1) mC_bitsOf [.int (nI 1)] h (mm_is (.inl (some (.int (nI 39)))) h) := by
  show mm_W Γ l mC_bitsOf (d + 1) _ 0 [some (.int (nI 1)), none, none, none] [] h
  refine mm_iconst (v := nI 3) dC_bitsOf_0 (by decide) ?_
  refine mm_istore_n dC_bitsOf_1 rfl (by decide) rfl ?_
  refine mm_iconst (v := nI 0) dC_bitsOf_2 (by decide) ?_
  refine mm_istore_n dC_bitsOf_3 rfl (by decide) rfl ?_
  refine mm_iload_n dC_bitsOf_4 rfl rfl ?_
  refine mm_iload_n dC_bitsOf_5 rfl rfl ?_
  refine mm_icmp_ge_F (tgt := 47) dC_bitsOf_6 (by decide) (by decide) ?_
  refine mm_iload_n dC_bitsOf_9 rfl rfl ?_
  refine mm_iconst (v := nI 1) dC_bitsOf_10 (by decide) ?_
  refine mm_iload_n dC_bitsOf_11 rfl rfl ?_
  refine mm_s1 dC_bitsOf_12 lC_193 rfl (by decide) (Nat.le_of_ble_eq_true rfl) (kC_one 0) ?_
  refine mm_ishl dC_bitsOf_15 ?_
  refine mm_ior dC_bitsOf_16 ?_
  refine mm_istore_n dC_bitsOf_17 rfl (by decide) rfl ?_
  refine mm_iconst (v := nI 0) dC_bitsOf_18 (by decide) ?_
  refine mm_istore_n dC_bitsOf_19 rfl (by decide) rfl ?_
  refine mm_iload_n dC_bitsOf_20 rfl rfl ?_
  refine mm_iload_n dC_bitsOf_21 rfl rfl ?_
  refine mm_icmp_ge_F (tgt := 41) dC_bitsOf_22 (by decide) (by decide) ?_
  refine mm_iload_n dC_bitsOf_25 rfl rfl ?_
  refine mm_iconst (v := nI 1) dC_bitsOf_26 (by decide) ?_
  refine mm_iload_n dC_bitsOf_27 rfl rfl ?_
  refine mm_iload_n dC_bitsOf_28 rfl rfl ?_
  refine mm_s2 dC_bitsOf_29 lC_196 rfl rfl (by decide) (Nat.le_of_ble_eq_true rfl) (kC_two 0 0) ?_
  refine mm_ishl dC_bitsOf_32 ?_
  refine mm_ior dC_bitsOf_33 ?_
  refine mm_istore_n dC_bitsOf_34 rfl (by decide) rfl ?_
  refine mm_iinc dC_bitsOf_35 (by decide) rfl (mm_inc _) rfl ?_
  refine mm_goto (tgt := 20) dC_bitsOf_38 (by decide) ?_
  refine mm_iload_n dC_bitsOf_20 rfl rfl ?_
  refine mm_iload_n dC_bitsOf_21 rfl rfl ?_
  refine mm_icmp_ge_T (tgt := 41) dC_bitsOf_22 (by decide) (by decide) ?_
  refine mm_iinc dC_bitsOf_41 (by decide) rfl (mm_inc _) rfl ?_
  refine mm_goto (tgt := 4) dC_bitsOf_44 (by decide) ?_
  refine mm_iload_n dC_bitsOf_4 rfl rfl ?_
  refine mm_iload_n dC_bitsOf_5 rfl rfl ?_
  refine mm_icmp_ge_T (tgt := 47) dC_bitsOf_6 (by decide) (by decide) ?_
  refine mm_iload_n dC_bitsOf_47 rfl rfl ?_
  refine mm_ireturn dC_bitsOf_48 rfl ?_
  exact ⟨congrArg (fun z => Sum.inl (some (Value.int z))) (by decide), rfl⟩
theorem kC_bits2 : mm_Ev Γ l (d + 1) mC_bitsOf [.int (nI 2)] h (mm_is (.inl (some (.int (nI 879)))) h) := by
  show mm_W Γ l mC_bitsOf (d + 1) _ 0 [some (.int (nI 2)), none, none, none] [] h
  refine mm_iconst (v := nI 3) dC_bitsOf_0 (by decide) ?_
  refine mm_istore_n dC_bitsOf_1 rfl (by decide) rfl ?_
  refine mm_iconst (v := nI 0) dC_bitsOf_2 (by decide) ?_
  refine mm_istore_n dC_bitsOf_3 rfl (by decide) rfl ?_
  refine mm_iload_n dC_bitsOf_4 rfl rfl ?_
  refine mm_iload_n dC_bitsOf_5 rfl rfl ?_
  refine mm_icmp_ge_F (tgt := 47) dC_bitsOf_6 (by decide) (by decide) ?_
  refine mm_iload_n dC_bitsOf_9 rfl rfl ?_
  refine mm_iconst (v := nI 1) dC_bitsOf_10 (by decide) ?_
  refine mm_iload_n dC_bitsOf_11 rfl rfl ?_
  refine mm_s1 dC_bitsOf_12 lC_193 rfl (by decide) (Nat.le_of_ble_eq_true rfl) (kC_one 0) ?_
  refine mm_ishl dC_bitsOf_15 ?_
  refine mm_ior dC_bitsOf_16 ?_
  refine mm_istore_n dC_bitsOf_17 rfl (by decide) rfl ?_
  refine mm_iconst (v := nI 0) dC_bitsOf_18 (by decide) ?_
  refine mm_istore_n dC_bitsOf_19 rfl (by decide) rfl ?_
  refine mm_iload_n dC_bitsOf_20 rfl rfl ?_
  refine mm_iload_n dC_bitsOf_21 rfl rfl ?_
  refine mm_icmp_ge_F (tgt := 41) dC_bitsOf_22 (by decide) (by decide) ?_
  refine mm_iload_n dC_bitsOf_25 rfl rfl ?_
  refine mm_iconst (v := nI 1) dC_bitsOf_26 (by decide) ?_
  refine mm_iload_n dC_bitsOf_27 rfl rfl ?_
  refine mm_iload_n dC_bitsOf_28 rfl rfl ?_
  refine mm_s2 dC_bitsOf_29 lC_196 rfl rfl (by decide) (Nat.le_of_ble_eq_true rfl) (kC_two 0 0) ?_
  refine mm_ishl dC_bitsOf_32 ?_
  refine mm_ior dC_bitsOf_33 ?_
  refine mm_istore_n dC_bitsOf_34 rfl (by decide) rfl ?_
  refine mm_iinc dC_bitsOf_35 (by decide) rfl (mm_inc _) rfl ?_
  refine mm_goto (tgt := 20) dC_bitsOf_38 (by decide) ?_
  refine mm_iload_n dC_bitsOf_20 rfl rfl ?_
  refine mm_iload_n dC_bitsOf_21 rfl rfl ?_
  refine mm_icmp_ge_F (tgt := 41) dC_bitsOf_22 (by decide) (by decide) ?_
  refine mm_iload_n dC_bitsOf_25 rfl rfl ?_
  refine mm_iconst (v := nI 1) dC_bitsOf_26 (by decide) ?_
  refine mm_iload_n dC_bitsOf_27 rfl rfl ?_
  refine mm_iload_n dC_bitsOf_28 rfl rfl ?_
  refine mm_s2 dC_bitsOf_29 lC_196 rfl rfl (by decide) (Nat.le_of_ble_eq_true rfl) (kC_two 0 1) ?_
  refine mm_ishl dC_bitsOf_32 ?_
  refine mm_ior dC_bitsOf_33 ?_
  refine mm_istore_n dC_bitsOf_34 rfl (by decide) rfl ?_
  refine mm_iinc dC_bitsOf_35 (by decide) rfl (mm_inc _) rfl ?_
  refine mm_goto (tgt := 20) dC_bitsOf_38 (by decide) ?_
  refine mm_iload_n dC_bitsOf_20 rfl rfl ?_
  refine mm_iload_n dC_bitsOf_21 rfl rfl ?_
  refine mm_icmp_ge_T (tgt := 41) dC_bitsOf_22 (by decide) (by decide) ?_
  refine mm_iinc dC_bitsOf_41 (by decide) rfl (mm_inc _) rfl ?_
  refine mm_goto (tgt := 4) dC_bitsOf_44 (by decide) ?_
  refine mm_iload_n dC_bitsOf_4 rfl rfl ?_
  refine mm_iload_n dC_bitsOf_5 rfl rfl ?_
  refine mm_icmp_ge_F (tgt := 47) dC_bitsOf_6 (by decide) (by decide) ?_
  refine mm_iload_n dC_bitsOf_9 rfl rfl ?_
  refine mm_iconst (v := nI 1) dC_bitsOf_10 (by decide) ?_
  refine mm_iload_n dC_bitsOf_11 rfl rfl ?_
  refine mm_s1 dC_bitsOf_12 lC_193 rfl (by decide) (Nat.le_of_ble_eq_true rfl) (kC_one 1) ?_
  refine mm_ishl dC_bitsOf_15 ?_
  refine mm_ior dC_bitsOf_16 ?_
  refine mm_istore_n dC_bitsOf_17 rfl (by decide) rfl ?_
  refine mm_iconst (v := nI 0) dC_bitsOf_18 (by decide) ?_
  refine mm_istore_n dC_bitsOf_19 rfl (by decide) rfl ?_
  refine mm_iload_n dC_bitsOf_20 rfl rfl ?_
  refine mm_iload_n dC_bitsOf_21 rfl rfl ?_
  refine mm_icmp_ge_F (tgt := 41) dC_bitsOf_22 (by decide) (by decide) ?_
  refine mm_iload_n dC_bitsOf_25 rfl rfl ?_
  refine mm_iconst (v := nI 1) dC_bitsOf_26 (by decide) ?_
  refine mm_iload_n dC_bitsOf_27 rfl rfl ?_
  refine mm_iload_n dC_bitsOf_28 rfl rfl ?_
  refine mm_s2 dC_bitsOf_29 lC_196 rfl rfl (by decide) (Nat.le_of_ble_eq_true rfl) (kC_two 1 0) ?_
  refine mm_ishl dC_bitsOf_32 ?_
  refine mm_ior dC_bitsOf_33 ?_
  refine mm_istore_n dC_bitsOf_34 rfl (by decide) rfl ?_
  refine mm_iinc dC_bitsOf_35 (by decide) rfl (mm_inc _) rfl ?_
  refine mm_goto (tgt := 20) dC_bitsOf_38 (by decide) ?_
  refine mm_iload_n dC_bitsOf_20 rfl rfl ?_
  refine mm_iload_n dC_bitsOf_21 rfl rfl ?_
  refine mm_icmp_ge_F (tgt := 41) dC_bitsOf_22 (by decide) (by decide) ?_
  refine mm_iload_n dC_bitsOf_25 rfl rfl ?_
  refine mm_iconst (v := nI 1) dC_bitsOf_26 (by decide) ?_
  refine mm_iload_n dC_bitsOf_27 rfl rfl ?_
  refine mm_iload_n dC_bitsOf_28 rfl rfl ?_
  refine mm_s2 dC_bitsOf_29 lC_196 rfl rfl (by decide) (Nat.le_of_ble_eq_true rfl) (kC_two 1 1) ?_
  refine mm_ishl dC_bitsOf_32 ?_
  refine mm_ior dC_bitsOf_33 ?_
  refine mm_istore_n dC_bitsOf_34 rfl (by decide) rfl ?_
  refine mm_iinc dC_bitsOf_35 (by decide) rfl (mm_inc _) rfl ?_
  refine mm_goto (tgt := 20) dC_bitsOf_38 (by decide) ?_
  refine mm_iload_n dC_bitsOf_20 rfl rfl ?_
  refine mm_iload_n dC_bitsOf_21 rfl rfl ?_
  refine mm_icmp_ge_T (tgt := 41) dC_bitsOf_22 (by decide) (by decide) ?_
  refine mm_iinc dC_bitsOf_41 (by decide) rfl (mm_inc _) rfl ?_
  refine mm_goto (tgt := 4) dC_bitsOf_44 (by decide) ?_
  refine mm_iload_n dC_bitsOf_4 rfl rfl ?_
  refine mm_iload_n dC_bitsOf_5 rfl rfl ?_
  refine mm_icmp_ge_T (tgt := 47) dC_bitsOf_6 (by decide) (by decide) ?_
  refine mm_iload_n dC_bitsOf_47 rfl rfl ?_
  refine mm_ireturn dC_bitsOf_48 rfl ?_
  exact ⟨congrArg (fun z => Sum.inl (some (Value.int z))) (by decide), rfl⟩
theorem kC_refutes (A : kc_at h x C) (o : kc_ok C) (hm : h.1 + 1 ≤ mm_Cm Γ) (hs : h.2.1 + 6 ≤ mm_Sm Γ) (p1 : kl_pre C.2.2.1.1) (p2 : kl_pre C.2.2.1.2) (n : Int32) : mm_Ev Γ l (d + 50) mC_refutes [.ref x, .int n] h (kc_D x h (kc_refutes C n)) := by
  have hmv := o.2.1
  have main : ∀ m : Nat, 1 ≤ m → m ≤ 2 → C.2.2.2.2.1 = false → mm_W Γ l mC_refutes (d + 50) (kc_D x h (kc_int (kc_refR C m).1, kc_bothC C (kc_refR C m).2.1 (kc_refR C m).2.2)) 33 [some (.ref x), some (.int (nI m)), none, none] [] h := by
    intro m m1 m2 hdr
    have hall : kc_all m ≤ 879 := by unfold kc_all; split <;> decide
    have eB : ∀ g : mm_H, mm_Ev Γ l (d + 49) mC_bitsOf [.int (nI m)] g (mm_is (.inl (some (.int (nI (kc_all m))))) g) := by
      intro g
      obtain rfl | rfl : m = 1 ∨ m = 2 := by omega
      · exact kC_bits1
      · exact kC_bits2
    have loop : ∀ (j b : Nat) (K1 K2 : kl_K), b + j = kc_all m + 1 → kl_okK K1 → kl_okt K1.2.2.2.2.1 → kl_okK K2 → kl_okt K2.2.2.2.2.1 → kc_ref m (kc_all m) j b K1 K2 = kc_refR C m → mm_W Γ l mC_refutes (d + 50) (kc_D x h (kc_int (kc_refR C m).1, kc_bothC C (kc_refR C m).2.1 (kc_refR C m).2.2)) 64 [some (.ref x), some (.int (nI m)), some (.int (nI (kc_all m))), some (.int (nI b))] [] (kl_set (kl_set h (x + 137) K1) (x + 151) K2) := by
      intro j
      induction j with
      | zero =>
        intro b K1 K2 hb o1 t1 o2 t2 hE
        refine mm_iload_n dC_refutes_64 rfl rfl ?_
        refine mm_iload_n dC_refutes_65 rfl rfl ?_
        refine mm_icmp_gt_T (tgt := 109) dC_refutes_66 (by decide) (nI_lt (by omega) (by omega)) ?_
        refine mm_iconst (v := -1) dC_refutes_109 (by decide) ?_
        refine mm_ireturn dC_refutes_110 rfl ?_
        rw [← hE]
        exact ⟨rfl, kc_now (kc_first A K1) K2, kc_flook (kc_flook (kc_fr_refl x h) (Or.inl rfl) _) (Or.inr rfl) _⟩
      | succ j ih =>
        intro b K1 K2 hb o1 t1 o2 t2 hE
        have A12 := kc_now (kc_first A K1) K2
        have hb31 : b < 2 ^ 31 := by omega
        have s1 := kl_say_ok o1 t1 (n := m) (m := b) m1 (by omega) hb31
        have s2 := kl_say_ok o2 t2 (n := m) (m := b) m1 (by omega) hb31
        have sw : ∀ K K' : kl_K, kl_set (kl_set h (x + 137) K) (x + 151) K' = kl_set (kl_set h (x + 151) K') (x + 137) K := fun K K' => bk_comm _ _ _ (by omega)
        have e1 := kC_say (Γ := Γ) (l := l) (d := d + 9) (h := kl_set h (x + 151) K2) (k := x + 137) o1 t1 (n := m) (m := b) m1 (by omega) hb31
        rw [← sw, ← sw] at e1
        have e2 := kC_say (Γ := Γ) (l := l) (d := d + 9) (h := kl_set h (x + 137) (kl_say K1 m b).2) (k := x + 151) o2 t2 (n := m) (m := b) m1 (by omega) hb31
        have hc : kc_ref m (kc_all m) (j + 1) b K1 K2 = if kc_inn (kc_all m) b = true then (if (kl_say K1 m b).1 = true then (if (kl_say K2 m b).1 = true then kc_ref m (kc_all m) j (b + 1) (kl_say K1 m b).2 (kl_say K2 m b).2 else (some b, (kl_say K1 m b).2, (kl_say K2 m b).2)) else kc_ref m (kc_all m) j (b + 1) (kl_say K1 m b).2 K2) else kc_ref m (kc_all m) j (b + 1) K1 K2 := rfl
        rw [hc] at hE
        refine mm_iload_n dC_refutes_64 rfl rfl ?_
        refine mm_iload_n dC_refutes_65 rfl rfl ?_
        refine mm_icmp_gt_F (tgt := 109) dC_refutes_66 (by decide) (nI_nlt (by omega) (by omega)) ?_
        refine mm_iload_n dC_refutes_69 rfl rfl ?_
        refine mm_iload_n dC_refutes_70 rfl rfl ?_
        refine mm_iconst (v := -1) dC_refutes_71 (by decide) ?_
        refine mm_ixor dC_refutes_72 ?_
        refine mm_iand dC_refutes_73 ?_
        refine mm_if_ne (tgt := 103) dC_refutes_74 (by decide) (fun q74 => ?_) (fun q74 => ?_)
        · rw [if_neg (show ¬ kc_inn (kc_all m) b = true by unfold kc_inn; rw [decide_eq_false q74]; decide)] at hE
          refine mm_iinc dC_refutes_103 (by decide) rfl (mm_inc _) rfl ?_
          refine mm_goto (tgt := 64) dC_refutes_106 (by decide) ?_
          exact ih (b + 1) _ _ (by omega) o1 t1 o2 t2 hE
        · rw [if_pos (show kc_inn (kc_all m) b = true by unfold kc_inn; rw [decide_eq_true q74])] at hE
          refine mm_aload_n dC_refutes_77 rfl rfl ?_
          refine mm_getf dC_refutes_78 fC_32 A12.1.1 rfl ?_
          refine mm_iload_n dC_refutes_81 rfl rfl ?_
          refine mm_iload_n dC_refutes_82 rfl rfl ?_
          refine mm_v2 dC_refutes_83 lC_164 (A12.2.2.2.1.1 0 (by decide)) rfl rfl (by decide) (Nat.le_of_ble_eq_true rfl) (e1) ?_
          refine mm_if_eq_b (tgt := 103) dC_refutes_86 (by decide) (fun q86 => ?_) (fun q86 => ?_)
          · rw [if_neg (mm_nb q86)] at hE
            refine mm_iinc dC_refutes_103 (by decide) rfl (mm_inc _) rfl ?_
            refine mm_goto (tgt := 64) dC_refutes_106 (by decide) ?_
            exact ih (b + 1) _ _ (by omega) s1.1 s1.2 o2 t2 hE
          · rw [if_pos q86] at hE
            have A22 := kc_now (kc_first A (kl_say K1 m b).2) K2
            refine mm_aload_n dC_refutes_89 rfl rfl ?_
            refine mm_getf dC_refutes_90 fC_36 A22.1.1 rfl ?_
            refine mm_iload_n dC_refutes_93 rfl rfl ?_
            refine mm_iload_n dC_refutes_94 rfl rfl ?_
            refine mm_v2 dC_refutes_95 lC_164 (A22.2.2.2.1.2 0 (by decide)) rfl rfl (by decide) (Nat.le_of_ble_eq_true rfl) (e2) ?_
            refine mm_if_ne_b (tgt := 103) dC_refutes_98 (by decide) (fun q98 => ?_) (fun q98 => ?_)
            · rw [if_pos q98] at hE
              refine mm_iinc dC_refutes_103 (by decide) rfl (mm_inc _) rfl ?_
              refine mm_goto (tgt := 64) dC_refutes_106 (by decide) ?_
              exact ih (b + 1) _ _ (by omega) s1.1 s1.2 s2.1 s2.2 hE
            · rw [if_neg (mm_nb q98)] at hE
              refine mm_iload_n dC_refutes_101 rfl rfl ?_
              refine mm_ireturn dC_refutes_102 rfl ?_
              rw [← hE]
              exact ⟨rfl, kc_now (kc_first A (kl_say K1 m b).2) (kl_say K2 m b).2, kc_flook (kc_flook (kc_fr_refl x h) (Or.inl rfl) _) (Or.inr rfl) _⟩
    have A1 := kc_first A (kl_arr (C.1 0) C.2.2.1.1)
    have oo : kc_ok (C.1, C.2.1, (kl_arr (C.1 0) C.2.2.1.1, C.2.2.1.2), C.2.2.2) := o
    refine mm_aload_n dC_refutes_33 rfl rfl ?_
    refine mm_getf dC_refutes_34 fC_32 A.1.1 rfl ?_
    refine mm_aload_n dC_refutes_37 rfl rfl ?_
    refine mm_getf dC_refutes_38 fC_11 A.1.1 rfl ?_
    refine mm_iconst (v := nI 0) dC_refutes_41 (by decide) ?_
    refine mm_aaload dC_refutes_42 A.1.2 (j := 0) rfl (by decide) (by decide) (kc_rowf x (by decide)) ?_
    refine mm_v1 dC_refutes_43 lC_160 (A.2.2.2.1.1 0 (by decide)) rfl (by decide) (Nat.le_of_ble_eq_true rfl) (mm_deep (by omega) (kC_arr (d := 0) A o (Or.inl rfl) (i := 0) (by decide) A.2.2.2.1.1)) ?_
    refine mm_aload_n dC_refutes_46 rfl rfl ?_
    refine mm_getf dC_refutes_47 fC_36 A1.1.1 rfl ?_
    refine mm_aload_n dC_refutes_50 rfl rfl ?_
    refine mm_v0 dC_refutes_51 lC_51 A1.1.1 (by decide) (Nat.le_of_ble_eq_true rfl) (kC_sheet A1 oo) ?_
    refine mm_v1 dC_refutes_54 lC_160 (A1.2.2.2.1.2 0 (by decide)) rfl (by decide) (Nat.le_of_ble_eq_true rfl) (mm_deep (by omega) (kC_arr (d := 0) A1 oo (Or.inr rfl) (i := C.2.2.2.2.2) (by omega) A1.2.2.2.1.2)) ?_
    refine mm_iload_n dC_refutes_57 rfl rfl ?_
    refine mm_s1 dC_refutes_58 lC_167 rfl (by decide) (Nat.le_of_ble_eq_true rfl) (eB _) ?_
    refine mm_istore_n dC_refutes_61 rfl (by decide) rfl ?_
    refine mm_iconst (v := nI 0) dC_refutes_62 (by decide) ?_
    refine mm_istore_n dC_refutes_63 rfl (by decide) rfl ?_
    exact loop (kc_all m + 1) 0 _ _ (by omega) (kl_okK_arr (o.1 0 (by decide)) p1) p1.2 (kl_okK_arr (kc_okS o) p2) p2.2 rfl
  show mm_W Γ l mC_refutes (d + 50) _ 0 [some (.ref x), some (.int n), none, none] [] h
  refine mm_iload_n dC_refutes_0 rfl rfl ?_
  refine mm_iconst (v := nI 1) dC_refutes_1 (by decide) ?_
  refine mm_icmp_eq (tgt := 10) dC_refutes_2 (by decide) (fun q2 => ?_) (fun q2 => ?_)
  · refine mm_iconst (v := nI 1) dC_refutes_10 (by decide) ?_
    refine mm_goto (tgt := 15) dC_refutes_11 (by decide) ?_
    refine mm_s1 dC_refutes_15 lC_59 rfl (by decide) (Nat.le_of_ble_eq_true rfl) (kC_needA_t (b := true) rfl) ?_
    refine mm_aload_n dC_refutes_18 rfl rfl ?_
    refine mm_getf dC_refutes_19 fC_43 A.1.1 rfl ?_
    refine mm_if_ne_b (tgt := 29) dC_refutes_22 (by decide) (fun q22 => ?_) (fun q22 => ?_)
    · refine mm_iconst (v := nI 0) dC_refutes_29 (by decide) ?_
      refine mm_s1t dC_refutes_30 lC_66 rfl (by decide) (Nat.le_of_ble_eq_true rfl) (kC_needS_f (b := false) rfl hm hs) ?_
      exact mm_leave (fun x hx => by cases hx) (by rw [show kc_refutes C n = (.inr 1, C) from (if_pos (by simp [q2])).trans (if_pos q22)]; exact kc_thrown A 1)
    · refine mm_iconst (v := nI 1) dC_refutes_25 (by decide) ?_
      refine mm_goto (tgt := 30) dC_refutes_26 (by decide) ?_
      refine mm_s1 dC_refutes_30 lC_66 rfl (by decide) (Nat.le_of_ble_eq_true rfl) (kC_needS_t (b := true) rfl) ?_
      have hh := main 1 (by decide) (by decide) q22
      subst q2
      rw [show kc_refutes C (nI 1) = _ from (if_pos (by decide)).trans (if_neg (mm_nb q22))]
      exact hh
  · refine mm_iload_n dC_refutes_5 rfl rfl ?_
    refine mm_iconst (v := nI 2) dC_refutes_6 (by decide) ?_
    refine mm_icmp_ne (tgt := 14) dC_refutes_7 (by decide) (fun q7 => ?_) (fun q7 => ?_)
    · refine mm_iconst (v := nI 0) dC_refutes_14 (by decide) ?_
      refine mm_s1t dC_refutes_15 lC_59 rfl (by decide) (Nat.le_of_ble_eq_true rfl) (kC_needA_f (b := false) rfl hm hs) ?_
      exact mm_leave (fun x hx => by cases hx) (by rw [show kc_refutes C n = (.inr 0, C) from if_neg (mm_nb (by simp [q2, q7]))]; exact kc_thrown A 0)
    · refine mm_iconst (v := nI 1) dC_refutes_10 (by decide) ?_
      refine mm_goto (tgt := 15) dC_refutes_11 (by decide) ?_
      refine mm_s1 dC_refutes_15 lC_59 rfl (by decide) (Nat.le_of_ble_eq_true rfl) (kC_needA_t (b := true) rfl) ?_
      refine mm_aload_n dC_refutes_18 rfl rfl ?_
      refine mm_getf dC_refutes_19 fC_43 A.1.1 rfl ?_
      refine mm_if_ne_b (tgt := 29) dC_refutes_22 (by decide) (fun q22 => ?_) (fun q22 => ?_)
      · refine mm_iconst (v := nI 0) dC_refutes_29 (by decide) ?_
        refine mm_s1t dC_refutes_30 lC_66 rfl (by decide) (Nat.le_of_ble_eq_true rfl) (kC_needS_f (b := false) rfl hm hs) ?_
        exact mm_leave (fun x hx => by cases hx) (by rw [show kc_refutes C n = (.inr 1, C) from (if_pos (by simp [q7])).trans (if_pos q22)]; exact kc_thrown A 1)
      · refine mm_iconst (v := nI 1) dC_refutes_25 (by decide) ?_
        refine mm_goto (tgt := 30) dC_refutes_26 (by decide) ?_
        refine mm_s1 dC_refutes_30 lC_66 rfl (by decide) (Nat.le_of_ble_eq_true rfl) (kC_needS_t (b := true) rfl) ?_
        have hh := main 2 (by decide) (by decide) q22
        subst q7
        rw [show kc_refutes C (nI 2) = _ from (if_pos (by decide)).trans (if_neg (mm_nb q22))]
        exact hh
end KC7
