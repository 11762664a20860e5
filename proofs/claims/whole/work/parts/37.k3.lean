/-! Contracts of Look: truth of areas. Printed by wip/whole/spec/k3.py -/
section KK2
variable {Γ : mm_G} {l : Launch} {d : Nat} {h : mm_H} {k : Nat} {K : kl_K}
theorem kK_cuts (ok : kl_ok K) {f lv e : Nat} (hlv : lv + f = 12)
    (ih : ∀ (t : Nat → Nat) (c : Nat), kl_okt t → c < 13 → mm_Ev Γ l (e + kl_dp f) mK_isAreaTrue [.ref k, .int (nI c), .int (nI (lv + 1))] (kl_set h k (kl_th K t)) (mm_is (.inl (some (.int (mm_bI (kl_true K f t c).1)))) (kl_set h k (kl_th K (kl_true K f t c).2))))
    {t : Nat → Nat} (ot : kl_okt t) {a : Nat} (ha : a < 13) : mm_Ev Γ l (e + kl_dp f + 1) mK_areCutsFalse [.ref k, .int (nI a), .int (nI lv)] (kl_set h k (kl_th K t)) (mm_is (.inl (some (.int (mm_bI (kl_cutsF K (kl_true K f) a t).1)))) (kl_set h k (kl_th K (kl_cutsF K (kl_true K f) a t).2))) := by
  obtain ⟨g1, g2⟩ := ok.1.2.2.1 a ha
  have gn := ok.1.2.2.2
  have loop : ∀ (j i : Nat) (u : Nat → Nat), i + j = K.1.2.2.1 (a + 1) → kl_okt u → mm_W Γ l mK_areCutsFalse (e + kl_dp f + 1) (mm_is (.inl (some (.int (mm_bI (kl_nocut K (kl_true K f) i j u).1)))) (kl_set h k (kl_th K (kl_nocut K (kl_true K f) i j u).2))) 10 [some (.ref k), some (.int (nI a)), some (.int (nI lv)), some (.int (nI i))] [] (kl_set h k (kl_th K u)) := by
    intro j
    induction j with
    | zero =>
      intro i u hi ou
      refine mm_iload_n dK_areCutsFalse_10 rfl rfl ?_
      refine mm_aload_n dK_areCutsFalse_11 rfl rfl ?_
      refine mm_getf dK_areCutsFalse_12 fK_23 (kl_at0 h k (kl_th K u)) rfl ?_
      refine mm_getf dK_areCutsFalse_15 fK_79 (kl_at h k (kl_th K u) (i := 7) (by decide)) rfl ?_
      refine mm_iload_n dK_areCutsFalse_18 rfl rfl ?_
      refine mm_iconst (v := nI 1) dK_areCutsFalse_19 (by decide) ?_
      refine mm_iadd dK_areCutsFalse_20 ?_
      refine mm_iaload dK_areCutsFalse_21 (kl_at h k (kl_th K u) (i := 8) (by decide)) (show nI a + nI 1 = nI (a + 1) from nI_add a 1) (by omega) (by decide) ?_
      refine mm_icmp_ge_T (tgt := 52) dK_areCutsFalse_22 (by decide) (nI_le (a := K.1.2.2.1 (a + 1)) (by omega) (by omega)) ?_
      refine mm_iconst (v := nI 1) dK_areCutsFalse_52 (by decide) ?_
      refine mm_zreturn dK_areCutsFalse_53 rfl rfl ?_
      exact ⟨rfl, rfl⟩
    | succ j ih' =>
      intro i u hi ou
      have hs := gn i (by omega)
      have hc : kl_nocut K (kl_true K f) i (j + 1) u = if (kl_true K f u (K.1.2.2.2 i)).1 = true then (false, (kl_true K f u (K.1.2.2.2 i)).2) else kl_nocut K (kl_true K f) (i + 1) j (kl_true K f u (K.1.2.2.2 i)).2 := rfl
      refine mm_iload_n dK_areCutsFalse_10 rfl rfl ?_
      refine mm_aload_n dK_areCutsFalse_11 rfl rfl ?_
      refine mm_getf dK_areCutsFalse_12 fK_23 (kl_at0 h k (kl_th K u)) rfl ?_
      refine mm_getf dK_areCutsFalse_15 fK_79 (kl_at h k (kl_th K u) (i := 7) (by decide)) rfl ?_
      refine mm_iload_n dK_areCutsFalse_18 rfl rfl ?_
      refine mm_iconst (v := nI 1) dK_areCutsFalse_19 (by decide) ?_
      refine mm_iadd dK_areCutsFalse_20 ?_
      refine mm_iaload dK_areCutsFalse_21 (kl_at h k (kl_th K u) (i := 8) (by decide)) (show nI a + nI 1 = nI (a + 1) from nI_add a 1) (by omega) (by decide) ?_
      refine mm_icmp_ge_F (tgt := 52) dK_areCutsFalse_22 (by decide) (nI_ge (b := K.1.2.2.1 (a + 1)) (by omega) (by omega)) ?_
      refine mm_aload_n dK_areCutsFalse_25 rfl rfl ?_
      refine mm_aload_n dK_areCutsFalse_26 rfl rfl ?_
      refine mm_getf dK_areCutsFalse_27 fK_23 (kl_at0 h k (kl_th K u)) rfl ?_
      refine mm_getf dK_areCutsFalse_30 fK_82 (kl_at h k (kl_th K u) (i := 7) (by decide)) rfl ?_
      refine mm_iload_n dK_areCutsFalse_33 rfl rfl ?_
      refine mm_iaload dK_areCutsFalse_34 (kl_at h k (kl_th K u) (i := 9) (by decide)) rfl (by omega) (by decide) ?_
      refine mm_iload_n dK_areCutsFalse_35 rfl rfl ?_
      refine mm_iconst (v := nI 1) dK_areCutsFalse_36 (by decide) ?_
      refine mm_iadd dK_areCutsFalse_37 ?_
      refine mm_top (v' := .int (nI (lv + 1))) (congrArg Value.int (nI_add lv 1)) ?_
      refine mm_v2 dK_areCutsFalse_38 lK_75 (kl_at0 h k (kl_th K u)) rfl rfl (by decide) (Nat.le_of_ble_eq_true rfl) (ih u _ ou hs) ?_
      refine mm_if_eq_b (tgt := 46) dK_areCutsFalse_41 (by decide) (fun q41 => ?_) (fun q41 => ?_)
      · refine mm_iinc dK_areCutsFalse_46 (by decide) rfl (mm_inc _) rfl ?_
        refine mm_goto (tgt := 10) dK_areCutsFalse_49 (by decide) ?_
        have q41 : (kl_true K f u (K.1.2.2.2 i)).1 = false := q41
        rw [hc, if_neg (by rw [q41]; decide)]
        exact ih' (i + 1) _ (by omega) (kl_okt_true ok f u _ ou)
      · refine mm_iconst (v := nI 0) dK_areCutsFalse_44 (by decide) ?_
        refine mm_zreturn dK_areCutsFalse_45 rfl rfl ?_
        have q41 : (kl_true K f u (K.1.2.2.2 i)).1 = true := q41
        rw [hc, if_pos q41]
        exact ⟨rfl, rfl⟩
  show mm_W Γ l mK_areCutsFalse (e + kl_dp f + 1) _ 0 [some (.ref k), some (.int (nI a)), some (.int (nI lv)), none] [] _
  refine mm_aload_n dK_areCutsFalse_0 rfl rfl ?_
  refine mm_getf dK_areCutsFalse_1 fK_23 (kl_at0 h k (kl_th K t)) rfl ?_
  refine mm_getf dK_areCutsFalse_4 fK_79 (kl_at h k (kl_th K t) (i := 7) (by decide)) rfl ?_
  refine mm_iload_n dK_areCutsFalse_7 rfl rfl ?_
  refine mm_iaload dK_areCutsFalse_8 (kl_at h k (kl_th K t) (i := 8) (by decide)) rfl (by omega) (by decide) ?_
  refine mm_istore_n dK_areCutsFalse_9 rfl (by decide) rfl ?_
  exact loop (K.1.2.2.1 (a + 1) - K.1.2.2.1 a) (K.1.2.2.1 a) t (by omega) ot
theorem kK_area (ok : kl_ok K) : ∀ (f lv e : Nat) (t : Nat → Nat) (a : Nat), lv + f = 13 → kl_okt t → a < 13 →
    mm_Ev Γ l (e + kl_dp f) mK_isAreaTrue [.ref k, .int (nI a), .int (nI lv)] (kl_set h k (kl_th K t)) (mm_is (.inl (some (.int (mm_bI (kl_true K f t a).1)))) (kl_set h k (kl_th K (kl_true K f t a).2))) := by
  intro f
  induction f with
  | zero =>
    intro lv e t a hlv ot ha
    show mm_W Γ l mK_isAreaTrue (e + 5) _ 0 [some (.ref k), some (.int (nI a)), some (.int (nI lv)), none, none] [] _
    refine mm_iload_n dK_isAreaTrue_0 rfl rfl ?_
    refine mm_bipush (v := nI 12) dK_isAreaTrue_1 (by decide) ?_
    refine mm_icmp_le_F (tgt := 8) dK_isAreaTrue_3 (by decide) (nI_ge (by omega) (by omega)) ?_
    refine mm_iconst (v := nI 0) dK_isAreaTrue_6 (by decide) ?_
    refine mm_zreturn dK_isAreaTrue_7 rfl rfl ?_
    exact ⟨rfl, rfl⟩
  | succ f ih =>
    intro lv e t a hlv ot ha
    have hdp := kl_dp_le f
    obtain ⟨g1, g2⟩ := ok.1.1.1 a ha
    have gn := ok.1.1.2
    have h3 := ok.2.2.2.2.1
    obtain ⟨Z, hZ⟩ : ∃ Z, kl_zero K (K.1.1.1 a) (K.1.1.1 (a + 1) - K.1.1.1 a) (t, 1) = Z := ⟨_, rfl⟩
    have hZw : Z.2 ≤ 729 := by rw [← hZ]; exact kl_ways_le ok (by omega) t
    have hD : kl_true K (f + 1) t a = kl_ways K (kl_true K f) a Z.2 Z.1 := by rw [← hZ]; rfl
    rw [hD]
    have loopW : ∀ (j x : Nat) (u : Nat → Nat), x + j = Z.2 → kl_okt u → mm_W Γ l mK_isAreaTrue (e + kl_dp f + 1 + 1) (mm_is (.inl (some (.int (mm_bI (kl_ways K (kl_true K f) a j u).1)))) (kl_set h k (kl_th K (kl_ways K (kl_true K f) a j u).2))) 69 [some (.ref k), some (.int (nI a)), some (.int (nI lv)), some (.int (nI Z.2)), some (.int (nI x))] [] (kl_set h k (kl_th K u)) := by
      intro j
      induction j with
      | zero =>
        intro x u hx ou
        refine mm_iload dK_isAreaTrue_69 rfl ?_
        refine mm_iload_n dK_isAreaTrue_71 rfl rfl ?_
        refine mm_icmp_ge_T (tgt := 105) dK_isAreaTrue_72 (by decide) (nI_le (by omega) (by omega)) ?_
        refine mm_iconst (v := nI 0) dK_isAreaTrue_105 (by decide) ?_
        refine mm_zreturn dK_isAreaTrue_106 rfl rfl ?_
        exact ⟨rfl, rfl⟩
      | succ j ih' =>
        intro x u hx ou
        have hc : kl_ways K (kl_true K f) a (j + 1) u = if kl_spots K u a = true then (if (kl_cutsF K (kl_true K f) a u).1 = true then (true, (kl_cutsF K (kl_true K f) a u).2) else kl_ways K (kl_true K f) a j (kl_step K a (kl_cutsF K (kl_true K f) a u).2)) else kl_ways K (kl_true K f) a j (kl_step K a u) := rfl
        have o1 : kl_okt (kl_cutsF K (kl_true K f) a u).2 := kl_okt_nocut (kl_okt_true ok f) _ _ _ ou
        refine mm_iload dK_isAreaTrue_69 rfl ?_
        refine mm_iload_n dK_isAreaTrue_71 rfl rfl ?_
        refine mm_icmp_ge_F (tgt := 105) dK_isAreaTrue_72 (by decide) (nI_ge (by omega) (by omega)) ?_
        refine mm_aload_n dK_isAreaTrue_75 rfl rfl ?_
        refine mm_iload_n dK_isAreaTrue_76 rfl rfl ?_
        refine mm_v1 dK_isAreaTrue_77 lK_85 (kl_at0 h k (kl_th K u)) rfl (by decide) (Nat.le_of_ble_eq_true rfl) (mm_deep (by omega) (kK_spots (d := 0) ok ou ha)) ?_
        refine mm_if_eq_b (tgt := 94) dK_isAreaTrue_80 (by decide) (fun q80 => ?_) (fun q80 => ?_)
        · refine mm_aload_n dK_isAreaTrue_94 rfl rfl ?_
          refine mm_iload_n dK_isAreaTrue_95 rfl rfl ?_
          refine mm_v1 dK_isAreaTrue_96 lK_91 (kl_at0 h k (kl_th K u)) rfl (by decide) (Nat.le_of_ble_eq_true rfl) (mm_deep (by omega) (kK_next (d := 0) ok ou ha)) ?_
          refine mm_iinc dK_isAreaTrue_99 (by decide) rfl (mm_inc _) rfl ?_
          refine mm_goto (tgt := 69) dK_isAreaTrue_102 (by decide) ?_
          rw [hc, if_neg (by rw [q80]; decide)]
          exact ih' (x + 1) _ (by omega) (kl_okt_next ok _ _ _ ou)
        · refine mm_aload_n dK_isAreaTrue_83 rfl rfl ?_
          refine mm_iload_n dK_isAreaTrue_84 rfl rfl ?_
          refine mm_iload_n dK_isAreaTrue_85 rfl rfl ?_
          refine mm_v2 dK_isAreaTrue_86 lK_88 (kl_at0 h k (kl_th K u)) rfl rfl (by decide) (Nat.le_of_ble_eq_true rfl) (kK_cuts ok (by omega) (fun t c o hc => ih (lv + 1) e t c (by omega) o hc) ou ha) ?_
          refine mm_if_eq_b (tgt := 94) dK_isAreaTrue_89 (by decide) (fun q89 => ?_) (fun q89 => ?_)
          · refine mm_aload_n dK_isAreaTrue_94 rfl rfl ?_
            refine mm_iload_n dK_isAreaTrue_95 rfl rfl ?_
            refine mm_v1 dK_isAreaTrue_96 lK_91 (kl_at0 h k (kl_th K _)) rfl (by decide) (Nat.le_of_ble_eq_true rfl) (mm_deep (by omega) (kK_next (d := 0) ok o1 ha)) ?_
            refine mm_iinc dK_isAreaTrue_99 (by decide) rfl (mm_inc _) rfl ?_
            refine mm_goto (tgt := 69) dK_isAreaTrue_102 (by decide) ?_
            rw [hc, if_pos q80, if_neg (by rw [q89]; decide)]
            exact ih' (x + 1) _ (by omega) (kl_okt_next ok _ _ _ o1)
          · refine mm_iconst (v := nI 1) dK_isAreaTrue_92 (by decide) ?_
            refine mm_zreturn dK_isAreaTrue_93 rfl rfl ?_
            rw [hc, if_pos q80, if_pos q89]
            exact ⟨rfl, rfl⟩
    have loopZ : ∀ (j i : Nat) (T : (Nat → Nat) × Nat), i + j = K.1.1.1 (a + 1) → kl_okt T.1 → kl_zero K i j T = Z → mm_W Γ l mK_isAreaTrue (e + kl_dp f + 1 + 1) (mm_is (.inl (some (.int (mm_bI (kl_ways K (kl_true K f) a Z.2 Z.1).1)))) (kl_set h k (kl_th K (kl_ways K (kl_true K f) a Z.2 Z.1).2))) 21 [some (.ref k), some (.int (nI a)), some (.int (nI lv)), some (.int (nI T.2)), some (.int (nI i))] [] (kl_set h k (kl_th K T.1)) := by
      intro j
      induction j with
      | zero =>
        intro i T hi oT hT
        have hT : T = Z := hT
        subst hT
        refine mm_iload dK_isAreaTrue_21 rfl ?_
        refine mm_aload_n dK_isAreaTrue_23 rfl rfl ?_
        refine mm_getf dK_isAreaTrue_24 fK_14 (kl_at0 h k (kl_th K T.1)) rfl ?_
        refine mm_getf dK_isAreaTrue_27 fK_79 (kl_at h k (kl_th K T.1) (i := 1) (by decide)) rfl ?_
        refine mm_iload_n dK_isAreaTrue_30 rfl rfl ?_
        refine mm_iconst (v := nI 1) dK_isAreaTrue_31 (by decide) ?_
        refine mm_iadd dK_isAreaTrue_32 ?_
        refine mm_iaload dK_isAreaTrue_33 (kl_at h k (kl_th K T.1) (i := 2) (by decide)) (show nI a + nI 1 = nI (a + 1) from nI_add a 1) (by omega) (by decide) ?_
        refine mm_icmp_ge_T (tgt := 66) dK_isAreaTrue_34 (by decide) (nI_le (a := K.1.1.1 (a + 1)) (by omega) (by omega)) ?_
        refine mm_iconst (v := nI 0) dK_isAreaTrue_66 (by decide) ?_
        refine mm_istore dK_isAreaTrue_67 (by decide) rfl ?_
        exact loopW T.2 0 T.1 (by omega) oT
      | succ j ih' =>
        intro i T hi oT hT
        have hs := gn i (by omega)
        have hh := ih' (i + 1) (ks_un T.1 (K.1.1.2 i) 0, T.2 * K.2.2.2.2.2.1) (by omega) (kl_okt_un oT _ (by decide)) hT
        refine mm_iload dK_isAreaTrue_21 rfl ?_
        refine mm_aload_n dK_isAreaTrue_23 rfl rfl ?_
        refine mm_getf dK_isAreaTrue_24 fK_14 (kl_at0 h k (kl_th K T.1)) rfl ?_
        refine mm_getf dK_isAreaTrue_27 fK_79 (kl_at h k (kl_th K T.1) (i := 1) (by decide)) rfl ?_
        refine mm_iload_n dK_isAreaTrue_30 rfl rfl ?_
        refine mm_iconst (v := nI 1) dK_isAreaTrue_31 (by decide) ?_
        refine mm_iadd dK_isAreaTrue_32 ?_
        refine mm_iaload dK_isAreaTrue_33 (kl_at h k (kl_th K T.1) (i := 2) (by decide)) (show nI a + nI 1 = nI (a + 1) from nI_add a 1) (by omega) (by decide) ?_
        refine mm_icmp_ge_F (tgt := 66) dK_isAreaTrue_34 (by decide) (nI_ge (b := K.1.1.1 (a + 1)) (by omega) (by omega)) ?_
        refine mm_aload_n dK_isAreaTrue_37 rfl rfl ?_
        refine mm_getf dK_isAreaTrue_38 fK_36 (kl_at0 h k (kl_th K T.1)) rfl ?_
        refine mm_aload_n dK_isAreaTrue_41 rfl rfl ?_
        refine mm_getf dK_isAreaTrue_42 fK_14 (kl_at0 h k (kl_th K T.1)) rfl ?_
        refine mm_getf dK_isAreaTrue_45 fK_82 (kl_at h k (kl_th K T.1) (i := 1) (by decide)) rfl ?_
        refine mm_iload dK_isAreaTrue_48 rfl ?_
        refine mm_iaload dK_isAreaTrue_50 (kl_at h k (kl_th K T.1) (i := 3) (by decide)) rfl (by omega) (by decide) ?_
        refine mm_iconst (v := nI 0) dK_isAreaTrue_51 (by decide) ?_
        refine mm_iastore dK_isAreaTrue_52 (kl_at h k (kl_th K T.1) (i := 13) (by decide)) rfl hs (by decide) ?_
        refine mm_eqh (show kl_set h k (kl_th K (ks_un T.1 (K.1.1.2 i) 0)) = _ by rw [show kl_th K (ks_un T.1 (K.1.1.2 i) 0) = kl_th (kl_th K T.1) (ks_un T.1 (K.1.1.2 i) 0) from rfl, ← kl_up_th]; unfold kg_ar; rw [← ks_un_enc]; rfl) ?_
        refine mm_iload_n dK_isAreaTrue_53 rfl rfl ?_
        refine mm_aload_n dK_isAreaTrue_54 rfl rfl ?_
        refine mm_getf dK_isAreaTrue_55 fK_39 (kl_at0 h k (kl_th K _)) rfl ?_
        refine mm_imul dK_isAreaTrue_58 ?_
        refine mm_top (v' := .int (nI (T.2 * K.2.2.2.2.2.1))) (congrArg Value.int (pk_mul _ _)) ?_
        refine mm_istore_n dK_isAreaTrue_59 rfl (by decide) rfl ?_
        refine mm_iinc dK_isAreaTrue_60 (by decide) rfl (mm_inc _) rfl ?_
        refine mm_goto (tgt := 21) dK_isAreaTrue_63 (by decide) ?_
        exact hh
    show mm_W Γ l mK_isAreaTrue (e + kl_dp f + 1 + 1) _ 0 [some (.ref k), some (.int (nI a)), some (.int (nI lv)), none, none] [] _
    refine mm_iload_n dK_isAreaTrue_0 rfl rfl ?_
    refine mm_bipush (v := nI 12) dK_isAreaTrue_1 (by decide) ?_
    refine mm_icmp_le_T (tgt := 8) dK_isAreaTrue_3 (by decide) (nI_le (by omega) (by omega)) ?_
    refine mm_iconst (v := nI 1) dK_isAreaTrue_8 (by decide) ?_
    refine mm_istore_n dK_isAreaTrue_9 rfl (by decide) rfl ?_
    refine mm_aload_n dK_isAreaTrue_10 rfl rfl ?_
    refine mm_getf dK_isAreaTrue_11 fK_14 (kl_at0 h k (kl_th K t)) rfl ?_
    refine mm_getf dK_isAreaTrue_14 fK_79 (kl_at h k (kl_th K t) (i := 1) (by decide)) rfl ?_
    refine mm_iload_n dK_isAreaTrue_17 rfl rfl ?_
    refine mm_iaload dK_isAreaTrue_18 (kl_at h k (kl_th K t) (i := 2) (by decide)) rfl (by omega) (by decide) ?_
    refine mm_istore dK_isAreaTrue_19 (by decide) rfl ?_
    exact loopZ (K.1.1.1 (a + 1) - K.1.1.1 a) (K.1.1.1 a) (t, 1) (by omega) ot hZ
def kl_tb (K : kl_K) (n m : Nat) : kl_K := (K.1, K.2.1, K.2.2.1, K.2.2.2.1, K.2.2.2.2.1, n, m)
theorem kl_up_0 (h : mm_H) (k : Nat) (K : kl_K) (n m : Nat) : mm_up (kl_set h k K) k (kl_cell k (kl_tb K n m) 0) = kl_set h k (kl_tb K n m) := by
  refine kl_up (i := 0) (by decide) rfl ?_
  exact kl_14 (fun h => absurd rfl h) (fun _ => rfl) (fun _ => rfl) (fun _ => rfl) (fun _ => rfl) (fun _ => rfl) (fun _ => rfl) (fun _ => rfl) (fun _ => rfl) (fun _ => rfl) (fun _ => rfl) (fun _ => rfl) (fun _ => rfl) (fun _ => rfl)
theorem kK_isTrueIn {n m : Nat} (ok : kl_ok (kl_tb K n m)) (ot : kl_okt K.2.2.2.2.1) : mm_Ev Γ l (d + 40) mK_isTrueIn [.ref k, .int (nI n), .int (nI m)] (kl_set h k K) (mm_is (.inl (some (.int (mm_bI (kl_true (kl_tb K n m) 13 K.2.2.2.2.1 0).1)))) (kl_set h k (kl_th (kl_tb K n m) (kl_true (kl_tb K n m) 13 K.2.2.2.2.1 0).2))) := by
  show mm_W Γ l mK_isTrueIn (d + 40) _ 0 [some (.ref k), some (.int (nI n)), some (.int (nI m))] [] _
  refine mm_aload_n dK_isTrueIn_0 rfl rfl ?_
  refine mm_iload_n dK_isTrueIn_1 rfl rfl ?_
  refine mm_putf dK_isTrueIn_2 fK_39 rfl rfl rfl rfl (kl_at0 h k K) (Nat.le_of_ble_eq_true rfl) ?_
  refine mm_eqh (kl_up_0 h k K n K.2.2.2.2.2.2).symm ?_
  refine mm_aload_n dK_isTrueIn_5 rfl rfl ?_
  refine mm_iload_n dK_isTrueIn_6 rfl rfl ?_
  refine mm_putf dK_isTrueIn_7 fK_43 rfl rfl rfl rfl (kl_at0 h k (kl_tb K n K.2.2.2.2.2.2)) (Nat.le_of_ble_eq_true rfl) ?_
  refine mm_eqh (kl_up_0 h k (kl_tb K n K.2.2.2.2.2.2) n m).symm ?_
  refine mm_aload_n dK_isTrueIn_10 rfl rfl ?_
  refine mm_iconst (v := nI 0) dK_isTrueIn_11 (by decide) ?_
  refine mm_iconst (v := nI 0) dK_isTrueIn_12 (by decide) ?_
  refine mm_v2 dK_isTrueIn_13 lK_75 (kl_at0 h k (kl_tb K n m)) rfl rfl (by decide) (Nat.le_of_ble_eq_true rfl) (mm_deep (by show 0 + 31 ≤ d + 39; omega) (kK_area (K := kl_tb K n m) ok 13 0 0 K.2.2.2.2.1 0 rfl ot (by decide))) ?_
  refine mm_zreturn dK_isTrueIn_16 rfl (mm_bI_narrow _) ?_
  exact ⟨rfl, rfl⟩
end KK2
