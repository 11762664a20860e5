/-! Contracts of Sheet: copies, taking over. Printed by wip/whole/spec/s5.py -/
theorem mm_deep {Γ : mm_G} {l : Launch} {M : mm_M} {d d' : Nat} (hd : d ≤ d') {D : mm_D} {as : List Value} {h : mm_H} (k : mm_Ev Γ l d M as h D) : mm_Ev Γ l d' M as h D := by
  intro p e R s m args below meth c u0 hC
  refine k p e R s m args below meth c u0 ⟨hC.1, hC.2.1, ?_⟩
  obtain ⟨h1, h2, h3, h4, h5, h6⟩ := hC.rm
  exact ⟨h1, h2, h3, by omega, by omega, h6⟩
section KS5
variable {Γ : mm_G} {l : Launch} {d : Nat} {h : mm_H} {b sa : Nat}
theorem kS_copySpot {T : ks_T} (hb : h.2.2 b = some (ks_obj b)) (hs : sa < b ∨ b + 5 < sa) (o : ks_okT T) {s : Nat} (hs12 : s < 12) {x : Option Nat} : mm_Ev Γ l (d + 3) mS_copySpot [.ref b, .int (nI s), .int (mm_enc x), .ref sa] (ks_set2 h b sa T) (mm_is (.inl (some (.int (mm_enc (ks_slot T.1 0))))) (ks_set2 h b sa (ks_copySpot T.1 T.2 s x, T.2))) := by
  have a : ks_at (ks_set2 h b sa T) b T.1 := k2_at hb hs
  have asf : (ks_set2 h b sa T).2.2 sa = some (ks_arr 6 T.2) := k2_sf
  show mm_W Γ l mS_copySpot (d + 3) _ 0 [some (.ref b), some (.int (nI s)), some (.int (mm_enc x)), some (.ref sa), none, none] [] _
  refine mm_aload_n dS_copySpot_0 rfl rfl ?_
  refine mm_getf dS_copySpot_1 fS_24 a.1 rfl ?_
  refine mm_iconst (v := nI 2) dS_copySpot_4 (by decide) ?_
  refine mm_iload_n dS_copySpot_5 rfl rfl ?_
  refine mm_imul dS_copySpot_6 ?_
  refine mm_iaload dS_copySpot_7 a.2.2.2.2.2 (pk_mul 2 s) (by omega) (by decide) ?_
  refine mm_istore dS_copySpot_8 (by decide) rfl ?_
  refine mm_aload_n dS_copySpot_10 rfl rfl ?_
  refine mm_getf dS_copySpot_11 fS_24 a.1 rfl ?_
  refine mm_iconst (v := nI 2) dS_copySpot_14 (by decide) ?_
  refine mm_iload_n dS_copySpot_15 rfl rfl ?_
  refine mm_imul dS_copySpot_16 ?_
  refine mm_iconst (v := nI 1) dS_copySpot_17 (by decide) ?_
  refine mm_iadd dS_copySpot_18 ?_
  refine mm_iaload dS_copySpot_19 a.2.2.2.2.2 (show nI 2 * nI s + nI 1 = nI (2 * s + 1) by rw [pk_mul, nI_add]) (by omega) (by decide) ?_
  refine mm_istore dS_copySpot_20 (by decide) rfl ?_
  refine mm_aload_n dS_copySpot_22 rfl rfl ?_
  refine mm_iload_n dS_copySpot_23 rfl rfl ?_
  refine mm_aload_n dS_copySpot_24 rfl rfl ?_
  refine mm_getf dS_copySpot_25 fS_21 a.1 rfl ?_
  refine mm_iload_n dS_copySpot_28 rfl rfl ?_
  refine mm_iaload dS_copySpot_29 a.2.2.2.2.1 rfl (by omega) (by decide) ?_
  refine mm_iload dS_copySpot_30 rfl ?_
  refine mm_iconst (v := -1) dS_copySpot_32 (by decide) ?_
  refine mm_icmp_ne_o (tgt := 40) dS_copySpot_33 (by decide) ((o.1.hk (by omega)).sm (by decide)) (fun q33 => ?_) (fun q33 => ?_)
  · obtain ⟨u, hu⟩ := mm_some q33
    refine mm_aload_n dS_copySpot_40 rfl rfl ?_
    refine mm_iload dS_copySpot_41 rfl ?_
    refine mm_iaload dS_copySpot_43 asf (by rw [hu]; rfl) (o.1.hk (i := 2 * s) (by omega) u hu) (by decide) ?_
    refine mm_iload dS_copySpot_44 rfl ?_
    refine mm_iconst (v := -1) dS_copySpot_46 (by decide) ?_
    refine mm_icmp_ne_o (tgt := 54) dS_copySpot_47 (by decide) ((o.1.hk (by omega)).sm (by decide)) (fun q47 => ?_) (fun q47 => ?_)
    · obtain ⟨v, hv⟩ := mm_some q47
      refine mm_aload_n dS_copySpot_54 rfl rfl ?_
      refine mm_iload dS_copySpot_55 rfl ?_
      refine mm_iaload dS_copySpot_57 asf (by rw [hv]; rfl) (o.1.hk (i := 2 * s + 1) (by omega) v hv) (by decide) ?_
      refine mm_v4 dS_copySpot_58 lS_93 a.1 rfl rfl rfl rfl (by decide) (Nat.le_of_ble_eq_true rfl) (kS_addSpot a o.1 (x := x) (sg := T.1.2.2.2.1 s) (f := T.2 u) (s := T.2 v)) ?_
      refine mm_ireturn dS_copySpot_61 rfl ?_
      exact ⟨rfl, by rw [k2_set hs]; unfold ks_copySpot; rw [hu, hv]; rfl⟩
    · refine mm_iconst (v := -1) dS_copySpot_50 (by decide) ?_
      refine mm_goto (tgt := 58) dS_copySpot_51 (by decide) ?_
      refine mm_v4 dS_copySpot_58 lS_93 a.1 rfl rfl rfl rfl (by decide) (Nat.le_of_ble_eq_true rfl) (kS_addSpot a o.1 (x := x) (sg := T.1.2.2.2.1 s) (f := T.2 u) (s := none)) ?_
      refine mm_ireturn dS_copySpot_61 rfl ?_
      exact ⟨rfl, by rw [k2_set hs]; unfold ks_copySpot; rw [hu, q47]; rfl⟩
  · refine mm_iconst (v := -1) dS_copySpot_36 (by decide) ?_
    refine mm_goto (tgt := 44) dS_copySpot_37 (by decide) ?_
    refine mm_iload dS_copySpot_44 rfl ?_
    refine mm_iconst (v := -1) dS_copySpot_46 (by decide) ?_
    refine mm_icmp_ne_o (tgt := 54) dS_copySpot_47 (by decide) ((o.1.hk (by omega)).sm (by decide)) (fun q47 => ?_) (fun q47 => ?_)
    · obtain ⟨v, hv⟩ := mm_some q47
      refine mm_aload_n dS_copySpot_54 rfl rfl ?_
      refine mm_iload dS_copySpot_55 rfl ?_
      refine mm_iaload dS_copySpot_57 asf (by rw [hv]; rfl) (o.1.hk (i := 2 * s + 1) (by omega) v hv) (by decide) ?_
      refine mm_v4 dS_copySpot_58 lS_93 a.1 rfl rfl rfl rfl (by decide) (Nat.le_of_ble_eq_true rfl) (kS_addSpot a o.1 (x := x) (sg := T.1.2.2.2.1 s) (f := none) (s := T.2 v)) ?_
      refine mm_ireturn dS_copySpot_61 rfl ?_
      exact ⟨rfl, by rw [k2_set hs]; unfold ks_copySpot; rw [q33, hv]; rfl⟩
    · refine mm_iconst (v := -1) dS_copySpot_50 (by decide) ?_
      refine mm_goto (tgt := 58) dS_copySpot_51 (by decide) ?_
      refine mm_v4 dS_copySpot_58 lS_93 a.1 rfl rfl rfl rfl (by decide) (Nat.le_of_ble_eq_true rfl) (kS_addSpot a o.1 (x := x) (sg := T.1.2.2.2.1 s) (f := none) (s := none)) ?_
      refine mm_ireturn dS_copySpot_61 rfl ?_
      exact ⟨rfl, by rw [k2_set hs]; unfold ks_copySpot; rw [q33, q47]; rfl⟩
def ks_dp : Nat → Nat
  | 0 => 4
  | f + 1 => ks_dp f + 1 + 1
theorem ks_dp_le (f : Nat) : 4 ≤ ks_dp f := by
  induction f with
  | zero => exact Nat.le_refl _
  | succ f ih => show 4 ≤ ks_dp f + 1 + 1; omega
theorem kS_copyCutsIn (hb : h.2.2 b = some (ks_obj b)) (hs : sa < b ∨ b + 5 < sa) {f lv e : Nat} (hlv : lv + f + 1 = 12) {c : Nat} (hc : c < 13) {made : Option Nat} (hm : mm_lt made 13)
    (ih : ∀ (T : ks_T) (i : Nat), ks_okT T → i < 13 → mm_Ev Γ l (e + ks_dp f) mS_copyCut [.ref b, .int (nI i), .int (mm_enc made), .ref sa, .int (nI (lv + 1))] (ks_set2 h b sa T) (mm_is (.inl (some (.int (mm_enc (if f = 0 then none else ks_slot T.1 1))))) (ks_set2 h b sa (ks_cp f T i made))))
    {T : ks_T} (o : ks_okT T) : mm_Ev Γ l (e + ks_dp f + 1) mS_copyCutsIn [.ref b, .int (nI c), .int (mm_enc made), .ref sa, .int (nI lv)] (ks_set2 h b sa T) (mm_is (.inl none) (ks_set2 h b sa (ks_cpC (ks_cp f) c made 1 12 T))) := by
  have loop : ∀ (j i : Nat) (U : ks_T), i + j = 13 → ks_okT U → mm_W Γ l mS_copyCutsIn (e + ks_dp f + 1) (mm_is (.inl none) (ks_set2 h b sa (ks_cpC (ks_cp f) c made i j U))) 3 [some (.ref b), some (.int (nI c)), some (.int (mm_enc made)), some (.ref sa), some (.int (nI lv)), some (.int (nI i))] [] (ks_set2 h b sa U) := by
    intro j
    induction j with
    | zero =>
      intro i U hi ok
      refine mm_iload dS_copyCutsIn_3 rfl ?_
      refine mm_bipush (v := nI 13) dS_copyCutsIn_5 (by decide) ?_
      refine mm_icmp_ge_T (tgt := 40) dS_copyCutsIn_7 (by decide) (nI_le (by omega) (by omega)) ?_
      refine mm_return dS_copyCutsIn_40 rfl ?_
      exact ⟨rfl, rfl⟩
    | succ j ih' =>
      intro i U hi ok
      have a : ks_at (ks_set2 h b sa U) b U.1 := k2_at hb hs
      have hn : ks_okT (if U.1.2.1 i = some c then ks_cp f U i made else U) := by
        by_cases hq : U.1.2.1 i = some c
        · rw [if_pos hq]; exact ks_okT_cp f U i made ok hm
        · rw [if_neg hq]; exact ok
      have hh : mm_W Γ l mS_copyCutsIn (e + ks_dp f + 1) (mm_is (.inl none) (ks_set2 h b sa (ks_cpC (ks_cp f) c made i (j + 1) U))) 3 [some (.ref b), some (.int (nI c)), some (.int (mm_enc made)), some (.ref sa), some (.int (nI lv)), some (.int (nI (i + 1)))] [] (ks_set2 h b sa (if U.1.2.1 i = some c then ks_cp f U i made else U)) := ih' (i + 1) _ (by omega) hn
      refine mm_iload dS_copyCutsIn_3 rfl ?_
      refine mm_bipush (v := nI 13) dS_copyCutsIn_5 (by decide) ?_
      refine mm_icmp_ge_F (tgt := 40) dS_copyCutsIn_7 (by decide) (nI_ge (by omega) (by omega)) ?_
      refine mm_aload_n dS_copyCutsIn_10 rfl rfl ?_
      refine mm_getf dS_copyCutsIn_11 fS_15 a.1 rfl ?_
      refine mm_iload dS_copyCutsIn_14 rfl ?_
      refine mm_iaload dS_copyCutsIn_16 a.2.2.1 rfl (by omega) (by decide) ?_
      refine mm_iload_n dS_copyCutsIn_17 rfl rfl ?_
      refine mm_icmp_ne_k (tgt := 34) dS_copyCutsIn_18 (by decide) (ok.1.sm (k := 1) (by show i < 13; omega)) (by omega) (fun q18 => ?_) (fun q18 => ?_)
      · refine mm_iinc dS_copyCutsIn_34 (by decide) rfl (mm_inc _) rfl ?_
        refine mm_goto (tgt := 3) dS_copyCutsIn_37 (by decide) ?_
        rw [if_neg q18] at hh
        exact hh
      · refine mm_aload_n dS_copyCutsIn_21 rfl rfl ?_
        refine mm_iload dS_copyCutsIn_22 rfl ?_
        refine mm_iload_n dS_copyCutsIn_24 rfl rfl ?_
        refine mm_aload_n dS_copyCutsIn_25 rfl rfl ?_
        refine mm_iload dS_copyCutsIn_26 rfl ?_
        refine mm_iconst (v := nI 1) dS_copyCutsIn_28 (by decide) ?_
        refine mm_iadd dS_copyCutsIn_29 ?_
        refine mm_top (v' := .int (nI (lv + 1))) (congrArg Value.int (nI_add lv 1)) ?_
        refine mm_v4 dS_copyCutsIn_30 lS_89 a.1 rfl rfl rfl rfl (by decide) (Nat.le_of_ble_eq_true rfl) (ih U i ok (by omega)) ?_
        refine mm_pop dS_copyCutsIn_33 rfl ?_
        refine mm_iinc dS_copyCutsIn_34 (by decide) rfl (mm_inc _) rfl ?_
        refine mm_goto (tgt := 3) dS_copyCutsIn_37 (by decide) ?_
        rw [if_pos q18] at hh
        exact hh
  show mm_W Γ l mS_copyCutsIn (e + ks_dp f + 1) _ 0 [some (.ref b), some (.int (nI c)), some (.int (mm_enc made)), some (.ref sa), some (.int (nI lv)), none] [] _
  refine mm_iconst (v := nI 1) dS_copyCutsIn_0 (by decide) ?_
  refine mm_istore dS_copyCutsIn_1 (by decide) rfl ?_
  exact loop 12 1 T rfl o
theorem kS_copyCut (hb : h.2.2 b = some (ks_obj b)) (hs : sa < b ∨ b + 5 < sa) : ∀ (f lv e : Nat) (T : ks_T) (c : Nat) (x : Option Nat), lv + f = 12 → ks_okT T → c < 13 → mm_lt x 13 →
    mm_Ev Γ l (e + ks_dp f) mS_copyCut [.ref b, .int (nI c), .int (mm_enc x), .ref sa, .int (nI lv)] (ks_set2 h b sa T) (mm_is (.inl (some (.int (mm_enc (if f = 0 then none else ks_slot T.1 1))))) (ks_set2 h b sa (ks_cp f T c x))) := by
  intro f
  induction f with
  | zero =>
    intro lv e T c x hlv o hc hx
    show mm_W Γ l mS_copyCut (e + 4) _ 0 [some (.ref b), some (.int (nI c)), some (.int (mm_enc x)), some (.ref sa), some (.int (nI lv)), none, none] [] _
    refine mm_iload dS_copyCut_0 rfl ?_
    refine mm_bipush (v := nI 12) dS_copyCut_2 (by decide) ?_
    refine mm_icmp_lt_F (tgt := 9) dS_copyCut_4 (by decide) (nI_nlt (by omega) (by omega)) ?_
    refine mm_iconst (v := -1) dS_copyCut_7 (by decide) ?_
    refine mm_ireturn dS_copyCut_8 rfl ?_
    exact ⟨rfl, rfl⟩
  | succ f ih =>
    intro lv e T c x hlv o hc hx
    rw [if_neg (Nat.succ_ne_zero f)]
    have hm : mm_lt (ks_slot T.1 1) 13 := ks_slot_lt
    have hdp := ks_dp_le f
    have hend : ∀ U : ks_T, ks_okT U → mm_W Γ l mS_copyCut (e + ks_dp f + 1 + 1) (mm_is (.inl (some (.int (mm_enc (ks_slot T.1 1))))) (ks_set2 h b sa (ks_cpC (ks_cp f) c (ks_slot T.1 1) 1 12 U))) 92 [some (.ref b), some (.int (nI c)), some (.int (mm_enc x)), some (.ref sa), some (.int (nI lv)), some (.int (mm_enc (ks_slot T.1 1))), none] [] (ks_set2 h b sa U) := by
      intro U ok
      have a : ks_at (ks_set2 h b sa U) b U.1 := k2_at hb hs
      refine mm_aload_n dS_copyCut_92 rfl rfl ?_
      refine mm_iload_n dS_copyCut_93 rfl rfl ?_
      refine mm_iload dS_copyCut_94 rfl ?_
      refine mm_aload_n dS_copyCut_96 rfl rfl ?_
      refine mm_iload dS_copyCut_97 rfl ?_
      refine mm_v4 dS_copyCut_99 lS_97 a.1 rfl rfl rfl rfl (by decide) (Nat.le_of_ble_eq_true rfl) (kS_copyCutsIn hb hs (by omega) hc hm (fun T i ok hi => ih (lv + 1) e T i _ (by omega) ok hi hm) ok) ?_
      refine mm_iload dS_copyCut_102 rfl ?_
      refine mm_ireturn dS_copyCut_104 rfl ?_
      exact ⟨rfl, rfl⟩
    have loopS : ∀ (j i : Nat) (U : ks_T), i + j = 12 → ks_okT U → mm_W Γ l mS_copyCut (e + ks_dp f + 1 + 1) (mm_is (.inl (some (.int (mm_enc (ks_slot T.1 1))))) (ks_set2 h b sa (ks_cpC (ks_cp f) c (ks_slot T.1 1) 1 12 (ks_cpS c (ks_slot T.1 1) i j U)))) 58 [some (.ref b), some (.int (nI c)), some (.int (mm_enc x)), some (.ref sa), some (.int (nI lv)), some (.int (mm_enc (ks_slot T.1 1))), some (.int (nI i))] [] (ks_set2 h b sa U) := by
      intro j
      induction j with
      | zero =>
        intro i U hi ok
        refine mm_iload dS_copyCut_58 rfl ?_
        refine mm_bipush (v := nI 12) dS_copyCut_60 (by decide) ?_
        refine mm_icmp_ge_T (tgt := 92) dS_copyCut_62 (by decide) (nI_le (by omega) (by omega)) ?_
        exact mm_sub (fun i v hv => by
          match i, hv with
          | 0, hv => exact hv
          | 1, hv => exact hv
          | 2, hv => exact hv
          | 3, hv => exact hv
          | 4, hv => exact hv
          | 5, hv => exact hv
          | 6, hv => cases hv
          | n + 7, hv => cases hv) (hend U ok)
      | succ j ih' =>
        intro i U hi ok
        have a : ks_at (ks_set2 h b sa U) b U.1 := k2_at hb hs
        have hn : ks_okT (if U.1.1 i = some c then (ks_copySpot U.1 U.2 i (ks_slot T.1 1), U.2) else U) := by
          by_cases hq : U.1.1 i = some c
          · rw [if_pos hq]; exact ⟨ks_ok_copySpot ok (by omega) hm, ok.2⟩
          · rw [if_neg hq]; exact ok
        have hh : mm_W Γ l mS_copyCut (e + ks_dp f + 1 + 1) (mm_is (.inl (some (.int (mm_enc (ks_slot T.1 1))))) (ks_set2 h b sa (ks_cpC (ks_cp f) c (ks_slot T.1 1) 1 12 (ks_cpS c (ks_slot T.1 1) i (j + 1) U)))) 58 [some (.ref b), some (.int (nI c)), some (.int (mm_enc x)), some (.ref sa), some (.int (nI lv)), some (.int (mm_enc (ks_slot T.1 1))), some (.int (nI (i + 1)))] [] (ks_set2 h b sa (if U.1.1 i = some c then (ks_copySpot U.1 U.2 i (ks_slot T.1 1), U.2) else U)) := ih' (i + 1) _ (by omega) hn
        refine mm_iload dS_copyCut_58 rfl ?_
        refine mm_bipush (v := nI 12) dS_copyCut_60 (by decide) ?_
        refine mm_icmp_ge_F (tgt := 92) dS_copyCut_62 (by decide) (nI_ge (by omega) (by omega)) ?_
        refine mm_aload_n dS_copyCut_65 rfl rfl ?_
        refine mm_getf dS_copyCut_66 fS_9 a.1 rfl ?_
        refine mm_iload dS_copyCut_69 rfl ?_
        refine mm_iaload dS_copyCut_71 a.2.1 rfl (by omega) (by decide) ?_
        refine mm_iload_n dS_copyCut_72 rfl rfl ?_
        refine mm_icmp_ne_k (tgt := 86) dS_copyCut_73 (by decide) (ok.1.sm (k := 0) (by show i < 12; omega)) (by omega) (fun q73 => ?_) (fun q73 => ?_)
        · refine mm_iinc dS_copyCut_86 (by decide) rfl (mm_inc _) rfl ?_
          refine mm_goto (tgt := 58) dS_copyCut_89 (by decide) ?_
          rw [if_neg q73] at hh
          exact hh
        · refine mm_aload_n dS_copyCut_76 rfl rfl ?_
          refine mm_iload dS_copyCut_77 rfl ?_
          refine mm_iload dS_copyCut_79 rfl ?_
          refine mm_aload_n dS_copyCut_81 rfl rfl ?_
          refine mm_v3 dS_copyCut_82 lS_85 a.1 rfl rfl rfl (by decide) (Nat.le_of_ble_eq_true rfl) (mm_deep (by omega) (kS_copySpot (d := 0) hb hs ok (s := i) (by omega))) ?_
          refine mm_pop dS_copyCut_85 rfl ?_
          refine mm_iinc dS_copyCut_86 (by decide) rfl (mm_inc _) rfl ?_
          refine mm_goto (tgt := 58) dS_copyCut_89 (by decide) ?_
          rw [if_pos q73] at hh
          exact hh
    have loopL : ∀ (j i : Nat) (U : ks_T), i + j = 6 → ks_okT U → mm_W Γ l mS_copyCut (e + ks_dp f + 1 + 1) (mm_is (.inl (some (.int (mm_enc (ks_slot T.1 1))))) (ks_set2 h b sa (ks_cpC (ks_cp f) c (ks_slot T.1 1) 1 12 (ks_cpS c (ks_slot T.1 1) 0 12 (ks_cpL c (ks_slot T.1 1) i j U))))) 20 [some (.ref b), some (.int (nI c)), some (.int (mm_enc x)), some (.ref sa), some (.int (nI lv)), some (.int (mm_enc (ks_slot T.1 1))), some (.int (nI i))] [] (ks_set2 h b sa U) := by
      intro j
      induction j with
      | zero =>
        intro i U hi ok
        refine mm_iload dS_copyCut_20 rfl ?_
        refine mm_bipush (v := nI 6) dS_copyCut_22 (by decide) ?_
        refine mm_icmp_ge_T (tgt := 55) dS_copyCut_24 (by decide) (nI_le (by omega) (by omega)) ?_
        refine mm_iconst (v := nI 0) dS_copyCut_55 (by decide) ?_
        refine mm_istore dS_copyCut_56 (by decide) rfl ?_
        exact loopS 12 0 U rfl ok
      | succ j ih' =>
        intro i U hi ok
        have a : ks_at (ks_set2 h b sa U) b U.1 := k2_at hb hs
        have asf : (ks_set2 h b sa U).2.2 sa = some (ks_arr 6 U.2) := k2_sf
        have hn : ks_okT (if U.1.2.2.1 i = some c then (ks_add U.1 2 (ks_slot T.1 1), ks_u U.2 i (ks_slot U.1 2)) else U) := ks_okT_L hm 1 i U ok
        have hh : mm_W Γ l mS_copyCut (e + ks_dp f + 1 + 1) (mm_is (.inl (some (.int (mm_enc (ks_slot T.1 1))))) (ks_set2 h b sa (ks_cpC (ks_cp f) c (ks_slot T.1 1) 1 12 (ks_cpS c (ks_slot T.1 1) 0 12 (ks_cpL c (ks_slot T.1 1) i (j + 1) U))))) 20 [some (.ref b), some (.int (nI c)), some (.int (mm_enc x)), some (.ref sa), some (.int (nI lv)), some (.int (mm_enc (ks_slot T.1 1))), some (.int (nI (i + 1)))] [] (ks_set2 h b sa (if U.1.2.2.1 i = some c then (ks_add U.1 2 (ks_slot T.1 1), ks_u U.2 i (ks_slot U.1 2)) else U)) := ih' (i + 1) _ (by omega) hn
        refine mm_iload dS_copyCut_20 rfl ?_
        refine mm_bipush (v := nI 6) dS_copyCut_22 (by decide) ?_
        refine mm_icmp_ge_F (tgt := 55) dS_copyCut_24 (by decide) (nI_ge (by omega) (by omega)) ?_
        refine mm_aload_n dS_copyCut_27 rfl rfl ?_
        refine mm_getf dS_copyCut_28 fS_18 a.1 rfl ?_
        refine mm_iload dS_copyCut_31 rfl ?_
        refine mm_iaload dS_copyCut_33 a.2.2.2.1 rfl (by omega) (by decide) ?_
        refine mm_iload_n dS_copyCut_34 rfl rfl ?_
        refine mm_icmp_ne_k (tgt := 49) dS_copyCut_35 (by decide) (ok.1.sm (k := 2) (by show i < 6; omega)) (by omega) (fun q35 => ?_) (fun q35 => ?_)
        · refine mm_iinc dS_copyCut_49 (by decide) rfl (mm_inc _) rfl ?_
          refine mm_goto (tgt := 20) dS_copyCut_52 (by decide) ?_
          rw [if_neg q35] at hh
          exact hh
        · refine mm_aload_n dS_copyCut_38 rfl rfl ?_
          refine mm_iload dS_copyCut_39 rfl ?_
          refine mm_aload_n dS_copyCut_41 rfl rfl ?_
          refine mm_iconst (v := nI 2) dS_copyCut_42 (by decide) ?_
          refine mm_iload dS_copyCut_43 rfl ?_
          refine mm_v2 dS_copyCut_45 lS_68 a.1 rfl rfl (by decide) (Nat.le_of_ble_eq_true rfl) (kS_add a ok.1 (by decide)) ?_
          rw [k2_set hs]
          refine mm_iastore dS_copyCut_48 k2_sf rfl (by omega) (by decide) ?_
          rw [ks_u_enc]
          refine mm_eqh (k2_up _).symm ?_
          refine mm_iinc dS_copyCut_49 (by decide) rfl (mm_inc _) rfl ?_
          refine mm_goto (tgt := 20) dS_copyCut_52 (by decide) ?_
          rw [if_pos q35] at hh
          exact hh
    have a : ks_at (ks_set2 h b sa T) b T.1 := k2_at hb hs
    show mm_W Γ l mS_copyCut (e + ks_dp f + 1 + 1) _ 0 [some (.ref b), some (.int (nI c)), some (.int (mm_enc x)), some (.ref sa), some (.int (nI lv)), none, none] [] _
    refine mm_iload dS_copyCut_0 rfl ?_
    refine mm_bipush (v := nI 12) dS_copyCut_2 (by decide) ?_
    refine mm_icmp_lt_T (tgt := 9) dS_copyCut_4 (by decide) (nI_lt (by omega) (by omega)) ?_
    refine mm_aload_n dS_copyCut_9 rfl rfl ?_
    refine mm_iconst (v := nI 1) dS_copyCut_10 (by decide) ?_
    refine mm_iload_n dS_copyCut_11 rfl rfl ?_
    refine mm_v2 dS_copyCut_12 lS_68 a.1 rfl rfl (by decide) (Nat.le_of_ble_eq_true rfl) (kS_add a o.1 (by decide)) ?_
    rw [k2_set hs]
    refine mm_istore dS_copyCut_15 (by decide) rfl ?_
    refine mm_iconst (v := nI 0) dS_copyCut_17 (by decide) ?_
    refine mm_istore dS_copyCut_18 (by decide) rfl ?_
    exact loopL 6 0 (ks_add T.1 1 x, T.2) rfl ⟨ks_ok_add o.1 (by decide) hx, o.2⟩
theorem kS_addCopy {T : ks_T} (hb : h.2.2 b = some (ks_obj b)) (hs : sa < b ∨ b + 5 < sa) (o : ks_okT T) {k n : Nat} (hk : k < 2) (hn : n < ks_len k) {x : Option Nat} (hx : mm_lt x 13) : mm_Ev Γ l (d + 40) mS_addCopy [.ref b, .int (nI k), .int (nI n), .int (mm_enc x), .ref sa] (ks_set2 h b sa T) (mm_is (.inl (some (.int (mm_enc (ks_slot T.1 k))))) (ks_set2 h b sa (if k = 0 then (ks_copySpot T.1 T.2 n x, T.2) else ks_cp 12 T n x))) := by
  have a : ks_at (ks_set2 h b sa T) b T.1 := k2_at hb hs
  show mm_W Γ l mS_addCopy (d + 40) _ 0 [some (.ref b), some (.int (nI k)), some (.int (nI n)), some (.int (mm_enc x)), some (.ref sa)] [] _
  obtain rfl | rfl : k = 0 ∨ k = 1 := by omega
  · rw [if_pos rfl]
    refine mm_iload_n dS_addCopy_0 rfl rfl ?_
    refine mm_if_ne_F (tgt := 15) dS_addCopy_1 (by decide) rfl ?_
    refine mm_aload_n dS_addCopy_4 rfl rfl ?_
    refine mm_iload_n dS_addCopy_5 rfl rfl ?_
    refine mm_iload_n dS_addCopy_6 rfl rfl ?_
    refine mm_aload dS_addCopy_7 rfl ?_
    refine mm_v3 dS_addCopy_9 lS_85 a.1 rfl rfl rfl (by decide) (Nat.le_of_ble_eq_true rfl) (mm_deep (by omega) (kS_copySpot (d := 0) hb hs o hn)) ?_
    refine mm_goto (tgt := 24) dS_addCopy_12 (by decide) ?_
    refine mm_ireturn dS_addCopy_24 rfl ?_
    exact ⟨rfl, rfl⟩
  · rw [if_neg (by decide)]
    refine mm_iload_n dS_addCopy_0 rfl rfl ?_
    refine mm_if_ne_T (tgt := 15) dS_addCopy_1 (by decide) (by decide) ?_
    refine mm_aload_n dS_addCopy_15 rfl rfl ?_
    refine mm_iload_n dS_addCopy_16 rfl rfl ?_
    refine mm_iload_n dS_addCopy_17 rfl rfl ?_
    refine mm_aload dS_addCopy_18 rfl ?_
    refine mm_iconst (v := nI 0) dS_addCopy_20 (by decide) ?_
    refine mm_v4 dS_addCopy_21 lS_89 a.1 rfl rfl rfl rfl (by decide) (Nat.le_of_ble_eq_true rfl) (mm_deep (by show 0 + 28 ≤ d + 39; omega) (kS_copyCut hb hs 12 0 0 T n x rfl o hn hx)) ?_
    refine mm_ireturn dS_addCopy_24 rfl ?_
    exact ⟨rfl, rfl⟩
end KS5
