/-! Contracts of Groups. Printed by wip/whole/spec/k1.py -/
section KG1
variable {Γ : mm_G} {l : Launch} {d : Nat} {h : mm_H} {g c most n : Nat} {f : Nat → Option Nat}
theorem kg_u1 (G : kg_G) (x : Nat → Nat) : mm_up (bk_set h g 3 (kg_cell g most G)) (g + 1) (kg_ar 14 x) = bk_set h g 3 (kg_cell g most (x, G.2)) := by
  rw [bk_up _ _ _ (by decide)]
  refine bk_cong fun j hj => ?_
  match j, hj with
  | 0, _ => rfl
  | 1, _ => rfl
  | 2, _ => rfl
  | n + 3, h => exact absurd h (by omega)
theorem kg_u2 (G : kg_G) (x : Nat → Nat) : mm_up (bk_set h g 3 (kg_cell g most G)) (g + 2) (kg_ar most x) = bk_set h g 3 (kg_cell g most (G.1, x)) := by
  rw [bk_up _ _ _ (by decide)]
  refine bk_cong fun j hj => ?_
  match j, hj with
  | 0, _ => rfl
  | 1, _ => rfl
  | 2, _ => rfl
  | n + 3, h => exact absurd h (by omega)
theorem kG_arrange (G : kg_G) (hc : h.2.2 c = some (ks_arr n f)) (ho : c < g ∨ g + 2 < c) (hf : ∀ i, i < n → mm_sm (f i)) (hm : most < 1000) (hn : n < 1000) : mm_Ev Γ l d mG_arrange [.ref g, .ref c] (bk_set h g 3 (kg_cell g most G)) (mm_is (.inl none) (bk_set h g 3 (kg_cell g most (kg_arr f n most G)))) := by
  have ac : ∀ X : kg_G, (bk_set h g 3 (kg_cell g most X)).2.2 c = some (ks_arr n f) := fun X => by rw [bk_out _ _ (by omega)]; exact hc
  have a0 : ∀ X : kg_G, (bk_set h g 3 (kg_cell g most X)).2.2 g = some (.inr (0, [.ref (g + 2), .ref (g + 1)])) := fun X => bk_at0 h g _ (by decide)
  have a1 : ∀ X : kg_G, (bk_set h g 3 (kg_cell g most X)).2.2 (g + 1) = some (kg_ar 14 X.1) := fun X => bk_at h g (kg_cell g most X) (i := 1) (by decide)
  have a2 : ∀ X : kg_G, (bk_set h g 3 (kg_cell g most X)).2.2 (g + 2) = some (kg_ar most X.2) := fun X => bk_at h g (kg_cell g most X) (i := 2) (by decide)
  have outer : ∀ (j a : Nat) (T : kg_G × Nat), a + j = 13 → T.2 ≤ most → mm_W Γ l mG_arrange d (mm_is (.inl none) (bk_set h g 3 (kg_cell g most (ks_un (kg_out f n most a j T).1.1 13 (kg_out f n most a j T).2, (kg_out f n most a j T).1.2)))) 4 [some (.ref g), some (.ref c), some (.int (nI T.2)), some (.int (nI a)), none] [] (bk_set h g 3 (kg_cell g most T.1)) := by
    intro j
    induction j with
    | zero =>
      intro a T ha hT
      refine mm_iload_n dG_arrange_4 rfl rfl ?_
      refine mm_bipush (v := nI 13) dG_arrange_5 (by decide) ?_
      refine mm_icmp_ge_T (tgt := 67) dG_arrange_7 (by decide) (nI_le (by omega) (by omega)) ?_
      refine mm_aload_n dG_arrange_67 rfl rfl ?_
      refine mm_getf dG_arrange_68 fG_9 (a0 _) rfl ?_
      refine mm_bipush (v := nI 13) dG_arrange_71 (by decide) ?_
      refine mm_iload_n dG_arrange_73 rfl rfl ?_
      refine mm_iastore dG_arrange_74 (a1 _) rfl (by decide) (by decide) ?_
      rw [ks_un_enc]
      refine mm_eqh (kg_u1 T.1 _).symm ?_
      refine mm_return dG_arrange_75 rfl ?_
      exact ⟨rfl, rfl⟩
    | succ j ih =>
      intro a T ha hT
      have inner : ∀ (j' i : Nat) (U : (Nat → Nat) × Nat), i + j' = n → U.2 ≤ most → kg_in f most a i j' U = kg_in f most a 0 n (T.1.2, T.2) → mm_W Γ l mG_arrange d (mm_is (.inl none) (bk_set h g 3 (kg_cell g most (ks_un (kg_out f n most a (j + 1) T).1.1 13 (kg_out f n most a (j + 1) T).2, (kg_out f n most a (j + 1) T).1.2)))) 20 [some (.ref g), some (.ref c), some (.int (nI U.2)), some (.int (nI a)), some (.int (nI i))] [] (bk_set h g 3 (kg_cell g most (ks_un T.1.1 a T.2, U.1))) := by
        intro j'
        induction j' with
        | zero =>
          intro i U hi hU hE
          have hE : U = kg_in f most a 0 n (T.1.2, T.2) := hE
          have hh := ih (a + 1) ((ks_un T.1.1 a T.2, U.1), U.2) (by omega) hU
          rw [show kg_out f n most (a + 1) j ((ks_un T.1.1 a T.2, U.1), U.2) = kg_out f n most a (j + 1) T by rw [hE]; rfl] at hh
          refine mm_iload dG_arrange_20 rfl ?_
          refine mm_aload_n dG_arrange_22 rfl rfl ?_
          refine mm_alen dG_arrange_23 (ac _) (by decide) rfl ?_
          refine mm_icmp_ge_T (tgt := 61) dG_arrange_24 (by decide) (nI_le (by omega) (by omega)) ?_
          refine mm_iinc dG_arrange_61 (by decide) rfl (mm_inc _) rfl ?_
          refine mm_goto (tgt := 4) dG_arrange_64 (by decide) ?_
          exact mm_sub (fun i v hv => by
            match i, hv with
            | 0, hv => exact hv
            | 1, hv => exact hv
            | 2, hv => exact hv
            | 3, hv => exact hv
            | 4, hv => cases hv
            | n + 5, hv => cases hv) hh
        | succ j' ih' =>
          intro i U hi hU hE
          have hi' : i < n := by omega
          refine mm_iload dG_arrange_20 rfl ?_
          refine mm_aload_n dG_arrange_22 rfl rfl ?_
          refine mm_alen dG_arrange_23 (ac _) (by decide) rfl ?_
          refine mm_icmp_ge_F (tgt := 61) dG_arrange_24 (by decide) (nI_ge (by omega) (by omega)) ?_
          refine mm_aload_n dG_arrange_27 rfl rfl ?_
          refine mm_iload dG_arrange_28 rfl ?_
          refine mm_iaload dG_arrange_30 (ac _) rfl hi' (by omega) ?_
          refine mm_iload_n dG_arrange_31 rfl rfl ?_
          refine mm_icmp_ne_k (tgt := 55) dG_arrange_32 (by decide) (hf i hi') (by omega) (fun q32 => ?_) (fun q32 => ?_)
          · refine mm_iinc dG_arrange_55 (by decide) rfl (mm_inc _) rfl ?_
            refine mm_goto (tgt := 20) dG_arrange_58 (by decide) ?_
            refine ih' (i + 1) U (by omega) hU ?_
            rw [← hE]
            show _ = kg_in f most a (i + 1) j' (if f i = some a ∧ U.2 < most then _ else _)
            rw [if_neg (fun w => q32 w.1)]
          · refine mm_iload_n dG_arrange_35 rfl rfl ?_
            refine mm_aload_n dG_arrange_36 rfl rfl ?_
            refine mm_getf dG_arrange_37 fG_15 (a0 _) rfl ?_
            refine mm_alen dG_arrange_40 (a2 _) (by decide) rfl ?_
            refine mm_icmp_ge_n (tgt := 55) dG_arrange_41 (by decide) (by omega) (by omega) (fun q41 => ?_) (fun q41 => ?_)
            · refine mm_iinc dG_arrange_55 (by decide) rfl (mm_inc _) rfl ?_
              refine mm_goto (tgt := 20) dG_arrange_58 (by decide) ?_
              refine ih' (i + 1) U (by omega) hU ?_
              rw [← hE]
              show _ = kg_in f most a (i + 1) j' (if f i = some a ∧ U.2 < most then _ else _)
              rw [if_neg (fun w => absurd w.2 (by omega))]
            · refine mm_aload_n dG_arrange_44 rfl rfl ?_
              refine mm_getf dG_arrange_45 fG_15 (a0 _) rfl ?_
              refine mm_iload_n dG_arrange_48 rfl rfl ?_
              refine mm_iload dG_arrange_49 rfl ?_
              refine mm_iastore dG_arrange_51 (a2 _) rfl q41 (by omega) ?_
              rw [ks_un_enc]
              refine mm_eqh (kg_u2 (ks_un T.1.1 a T.2, U.1) _).symm ?_
              refine mm_iinc dG_arrange_52 (by decide) rfl (mm_inc _) rfl ?_
              refine mm_iinc dG_arrange_55 (by decide) rfl (mm_inc _) rfl ?_
              refine mm_goto (tgt := 20) dG_arrange_58 (by decide) ?_
              refine ih' (i + 1) (ks_un U.1 U.2 i, U.2 + 1) (by omega) q41 ?_
              rw [← hE]
              show _ = kg_in f most a (i + 1) j' (if f i = some a ∧ U.2 < most then _ else _)
              rw [if_pos ⟨q32, q41⟩]
      have hin := inner n 0 (T.1.2, T.2) (by omega) hT rfl
      refine mm_iload_n dG_arrange_4 rfl rfl ?_
      refine mm_bipush (v := nI 13) dG_arrange_5 (by decide) ?_
      refine mm_icmp_ge_F (tgt := 67) dG_arrange_7 (by decide) (nI_ge (by omega) (by omega)) ?_
      refine mm_aload_n dG_arrange_10 rfl rfl ?_
      refine mm_getf dG_arrange_11 fG_9 (a0 _) rfl ?_
      refine mm_iload_n dG_arrange_14 rfl rfl ?_
      refine mm_iload_n dG_arrange_15 rfl rfl ?_
      refine mm_iastore dG_arrange_16 (a1 _) rfl (by omega) (by decide) ?_
      rw [ks_un_enc]
      refine mm_eqh (kg_u1 T.1 _).symm ?_
      refine mm_iconst (v := nI 0) dG_arrange_17 (by decide) ?_
      refine mm_istore dG_arrange_18 (by decide) rfl ?_
      exact hin
  show mm_W Γ l mG_arrange d _ 0 [some (.ref g), some (.ref c), none, none, none] [] _
  refine mm_iconst (v := nI 0) dG_arrange_0 (by decide) ?_
  refine mm_istore_n dG_arrange_1 rfl (by decide) rfl ?_
  refine mm_iconst (v := nI 0) dG_arrange_2 (by decide) ?_
  refine mm_istore_n dG_arrange_3 rfl (by decide) rfl ?_
  exact outer 13 0 (G, 0) rfl (Nat.zero_le _)
end KG1
