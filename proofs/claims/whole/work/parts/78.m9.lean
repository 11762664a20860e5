/-! Contracts of the reference. Printed by wip/whole/spec/m9.py -/
section KM9
variable {Γ : mm_G} {l : Launch} {d : Nat} {h : mm_H} {m : Nat} {M : km_M}
theorem kM_thing {i n T : Nat} (hi : i < 2 ^ 31) (hn : n < 6) (hT : 0 < T) (hT3 : T ≤ 3) (hu : 0 < m_un M n) (hu2 : m_un M n < 2 ^ 31) : mm_Ev Γ l d mM_thing [.ref m, .int (nI i), .int (nI n), .int (nI T)] (km_set h m M) (mm_is (.inl (some (.int (nI (i / m_un M n % T))))) (km_set h m M)) := by
  have le : i / m_un M n < 2 ^ 31 := Nat.lt_of_le_of_lt (Nat.div_le_self _ _) hi
  show mm_W Γ l mM_thing d _ 0 [some (.ref m), some (.int (nI i)), some (.int (nI n)), some (.int (nI T))] [] _
  refine mm_iload_n dM_thing_0 rfl rfl ?_
  refine mm_aload_n dM_thing_1 rfl rfl ?_
  refine mm_getf dM_thing_2 fM_44 (km_0 h m _) rfl ?_
  refine mm_iload_n dM_thing_5 rfl rfl ?_
  refine mm_iaload dM_thing_6 (km_un h m _) rfl (by omega) (by decide) ?_
  refine mm_idiv dM_thing_7 (fun w => by have := (nI_eq (b := 0) (by omega) (by decide)).mp w; omega) ?_
  refine mm_top (v' := .int (nI (i / m_un M n))) (congrArg Value.int (pk_div hi hu hu2)) ?_
  refine mm_iload_n dM_thing_8 rfl rfl ?_
  refine mm_irem dM_thing_9 (fun w => by have := (nI_eq (b := 0) (by omega) (by decide)).mp w; omega) ?_
  refine mm_top (v' := .int (nI (i / m_un M n % T))) (congrArg Value.int (pk_rem le hT (by omega))) ?_
  refine mm_ireturn dM_thing_10 rfl ?_
  exact ⟨rfl, rfl⟩
theorem kM_spotHolds {s i T B g : Nat} (hs : s < 12) (hi : i < 2 ^ 31) (hT : 0 < T) (hT3 : T ≤ 3) (hB : B < 2 ^ 31) (hg4 : g < 4) (hg : m_sh M (31 + s) = some g) (hh : ∀ k, k < kc_places g → ∃ n, n < 6 ∧ m_sh M (43 + 2 * s + k) = some n ∧ ¬ m_sh M (13 + n) = none) (hun : ∀ n, n < 6 → m_un M n = kh_u (km_S M) T n) :
    mm_Ev Γ l (d + 1) mM_spotHolds [.ref m, .int (nI s), .int (nI i), .int (nI T), .int (nI B)] (km_set h m M) (mm_is (.inl (some (.int (mm_bI (kh_sp (km_S M) T B i s))))) (km_set h m M)) := by
  have eg : (km_S M).2.2.2.1 s = g := by
    have e : (km_S M).2.2.2.1 s = (m_sh M (31 + s)).getD 0 := if_pos hs
    rw [e, hg]; rfl
  have up : ∀ n, n < 6 → 0 < m_un M n ∧ m_un M n < 2 ^ 31 := fun n hn => by
    rw [hun n hn]
    refine ⟨kh_u_pos _ hT n, Nat.lt_of_le_of_lt (kh_u_le _ hT3 hT n) ?_⟩
    exact Nat.lt_of_le_of_lt (Nat.pow_le_pow_right (by decide) (show n ≤ 6 by omega)) (by decide)
  have hk : ∀ k n, k < 2 → m_sh M (43 + 2 * s + k) = some n → ((km_S M).2.2.2.2 (2 * s + k)).getD 0 = n := fun k n hk e => by
    have e9 : (km_S M).2.2.2.2 (2 * s + k) = m_sh M (43 + (2 * s + k)) := kz_h (m_sh M) (by omega)
    rw [e9, ← Nat.add_assoc, e]; rfl
  have dl : ∀ n, kh_w (km_S M) T i n < T := fun n => Nat.mod_lt _ hT
  have fin : ∀ (b : Nat) (x6 x7 x8 : Option Value), b = kh_bit (km_S M) (kh_w (km_S M) T i) s → b < 32 → mm_W Γ l mM_spotHolds (d + 1) (mm_is (.inl (some (.int (mm_bI (kh_sp (km_S M) T B i s))))) (km_set h m M)) 104 [some (.ref m), some (.int (nI s)), some (.int (nI i)), some (.int (nI T)), some (.int (nI B)), some (.int (nI g)), x6, x7, x8] [.int (nI b)] (km_set h m M) := by
    intro b x6 x7 x8 eb hb
    have es : kh_sp (km_S M) T B i s = B.testBit b := by rw [eb]; rfl
    rw [es]
    refine mm_istore dM_spotHolds_104 (by decide) rfl ?_
    refine mm_iload dM_spotHolds_106 rfl ?_
    refine mm_iload dM_spotHolds_108 rfl ?_
    refine mm_ishr dM_spotHolds_110 ?_
    refine mm_iconst (v := nI 1) dM_spotHolds_111 (by decide) ?_
    refine mm_iand dM_spotHolds_112 ?_
    refine mm_top (v' := .int (nI (if B.testBit b then 1 else 0))) (congrArg Value.int (kb_one hB hb)) ?_
    refine mm_iconst (v := nI 1) dM_spotHolds_113 (by decide) ?_
    refine mm_icmp_ne_n (tgt := 121) dM_spotHolds_114 (by decide) (by split <;> decide) (by decide) (fun q114 => ?_) (fun q114 => ?_)
    · have q : B.testBit b = false := by
        cases hq : B.testBit b with
        | false => rfl
        | true => rw [hq] at q114; exact absurd rfl q114
      rw [q]
      refine mm_iconst (v := nI 0) dM_spotHolds_121 (by decide) ?_
      refine mm_zreturn dM_spotHolds_122 rfl rfl ?_
      exact ⟨rfl, rfl⟩
    · have q : B.testBit b = true := by
        cases hq : B.testBit b with
        | true => rfl
        | false => rw [hq] at q114; exact absurd q114 (by decide)
      rw [q]
      refine mm_iconst (v := nI 1) dM_spotHolds_117 (by decide) ?_
      refine mm_goto (tgt := 122) dM_spotHolds_118 (by decide) ?_
      refine mm_zreturn dM_spotHolds_122 rfl rfl ?_
      exact ⟨rfl, rfl⟩
  show mm_W Γ l mM_spotHolds (d + 1) _ 0 [some (.ref m), some (.int (nI s)), some (.int (nI i)), some (.int (nI T)), some (.int (nI B)), none, none, none, none] [] _
  refine mm_aload_n dM_spotHolds_0 rfl rfl ?_
  refine mm_getf dM_spotHolds_1 fM_7 (km_0 h m _) rfl ?_
  refine mm_bipush (v := nI 31) dM_spotHolds_4 (by decide) ?_
  refine mm_iload_n dM_spotHolds_6 rfl rfl ?_
  refine mm_iadd dM_spotHolds_7 ?_
  refine mm_iaload dM_spotHolds_8 (km_sh h m _) (nI_add 31 s) (by omega) (by decide) ?_
  refine mm_top (v' := .int (nI g)) (congrArg Value.int (by rw [hg]; rfl)) ?_
  refine mm_istore dM_spotHolds_9 (by decide) rfl ?_
  refine mm_iload dM_spotHolds_11 rfl ?_
  refine mm_iconst (v := nI 1) dM_spotHolds_13 (by decide) ?_
  refine mm_icmp_le_n (tgt := 37) dM_spotHolds_14 (by decide) (by omega) (by decide) (fun q14 => ?_) (fun q14 => ?_)
  · refine mm_iconst (v := nI 0) dM_spotHolds_37 (by decide) ?_
    refine mm_istore dM_spotHolds_38 (by decide) rfl ?_
    refine mm_iload dM_spotHolds_40 rfl ?_
    refine mm_iconst (v := nI 2) dM_spotHolds_42 (by decide) ?_
    refine mm_icmp_le_n (tgt := 68) dM_spotHolds_43 (by decide) (by omega) (by decide) (fun q43 => ?_) (fun q43 => ?_)
    · refine mm_iconst (v := nI 0) dM_spotHolds_68 (by decide) ?_
      refine mm_istore dM_spotHolds_69 (by decide) rfl ?_
      refine mm_iload dM_spotHolds_71 rfl ?_
      refine mm_iconst (v := nI 2) dM_spotHolds_73 (by decide) ?_
      refine mm_icmp_ge_n (tgt := 82) dM_spotHolds_74 (by decide) (by omega) (by decide) (fun q74 => ?_) (fun q74 => ?_)
      · exact absurd q74 (by first | omega | decide)
      · refine mm_iload dM_spotHolds_77 rfl ?_
        refine mm_goto (tgt := 104) dM_spotHolds_79 (by decide) ?_
        exact fin _ _ _ _ (by unfold kh_bit; rw [eg, if_pos q74]) (by omega)
    · exact absurd q43 (by first | omega | decide)
  · obtain ⟨x, hx6, hx, -⟩ := hh 0 (by unfold kc_places; rw [if_neg (by omega)]; omega)
    have hk0 := hk 0 x (by decide) hx
    rw [Nat.add_zero] at hx hk0
    refine mm_aload_n dM_spotHolds_17 rfl rfl ?_
    refine mm_iload_n dM_spotHolds_18 rfl rfl ?_
    refine mm_aload_n dM_spotHolds_19 rfl rfl ?_
    refine mm_getf dM_spotHolds_20 fM_7 (km_0 h m _) rfl ?_
    refine mm_bipush (v := nI 43) dM_spotHolds_23 (by decide) ?_
    refine mm_iconst (v := nI 2) dM_spotHolds_25 (by decide) ?_
    refine mm_iload_n dM_spotHolds_26 rfl rfl ?_
    refine mm_imul dM_spotHolds_27 ?_
    refine mm_iadd dM_spotHolds_28 ?_
    refine mm_iaload dM_spotHolds_29 (km_sh h m _) (by rw [pk_mul, nI_add]) (by omega) (by decide) ?_
    refine mm_top (v' := .int (nI x)) (congrArg Value.int (by rw [hx]; rfl)) ?_
    refine mm_iload_n dM_spotHolds_30 rfl rfl ?_
    refine mm_v3 dM_spotHolds_31 lM_181 (km_0 h m _) rfl rfl rfl (by decide) (Nat.le_of_ble_eq_true rfl) (kM_thing hi hx6 hT hT3 (up x hx6).1 (up x hx6).2) ?_
    refine mm_top (v' := .int (nI (kh_w (km_S M) T i x))) (congrArg Value.int (show nI (i / m_un M x % T) = _ by rw [hun x hx6]; rfl)) ?_
    refine mm_goto (tgt := 38) dM_spotHolds_34 (by decide) ?_
    refine mm_istore dM_spotHolds_38 (by decide) rfl ?_
    refine mm_iload dM_spotHolds_40 rfl ?_
    refine mm_iconst (v := nI 2) dM_spotHolds_42 (by decide) ?_
    refine mm_icmp_le_n (tgt := 68) dM_spotHolds_43 (by decide) (by omega) (by decide) (fun q43 => ?_) (fun q43 => ?_)
    · refine mm_iconst (v := nI 0) dM_spotHolds_68 (by decide) ?_
      refine mm_istore dM_spotHolds_69 (by decide) rfl ?_
      refine mm_iload dM_spotHolds_71 rfl ?_
      refine mm_iconst (v := nI 2) dM_spotHolds_73 (by decide) ?_
      refine mm_icmp_ge_n (tgt := 82) dM_spotHolds_74 (by decide) (by omega) (by decide) (fun q74 => ?_) (fun q74 => ?_)
      · refine mm_iload dM_spotHolds_82 rfl ?_
        refine mm_iconst (v := nI 2) dM_spotHolds_84 (by decide) ?_
        refine mm_icmp_ne_n (tgt := 95) dM_spotHolds_85 (by decide) (by omega) (by decide) (fun q85 => ?_) (fun q85 => ?_)
        · exact absurd q85 (by first | omega | decide)
        · refine mm_iconst (v := nI 2) dM_spotHolds_88 (by decide) ?_
          refine mm_iload dM_spotHolds_89 rfl ?_
          refine mm_iadd dM_spotHolds_91 ?_
          refine mm_goto (tgt := 104) dM_spotHolds_92 (by decide) ?_
          refine mm_top (v' := .int (nI (2 + kh_w (km_S M) T i x))) (congrArg Value.int (nI_add 2 _)) ?_
          have := dl x
          exact fin _ _ _ _ (by unfold kh_bit; rw [eg, if_neg (by omega), if_pos q85, hk0]) (by omega)
      · exact absurd q74 (by first | omega | decide)
    · obtain ⟨y, hy6, hy, -⟩ := hh 1 (by unfold kc_places; rw [if_neg (by omega)]; omega)
      refine mm_aload_n dM_spotHolds_46 rfl rfl ?_
      refine mm_iload_n dM_spotHolds_47 rfl rfl ?_
      refine mm_aload_n dM_spotHolds_48 rfl rfl ?_
      refine mm_getf dM_spotHolds_49 fM_7 (km_0 h m _) rfl ?_
      refine mm_bipush (v := nI 43) dM_spotHolds_52 (by decide) ?_
      refine mm_iconst (v := nI 2) dM_spotHolds_54 (by decide) ?_
      refine mm_iload_n dM_spotHolds_55 rfl rfl ?_
      refine mm_imul dM_spotHolds_56 ?_
      refine mm_iadd dM_spotHolds_57 ?_
      refine mm_iconst (v := nI 1) dM_spotHolds_58 (by decide) ?_
      refine mm_iadd dM_spotHolds_59 ?_
      refine mm_iaload dM_spotHolds_60 (km_sh h m _) (by rw [pk_mul, nI_add, nI_add]) (by omega) (by decide) ?_
      refine mm_top (v' := .int (nI y)) (congrArg Value.int (by rw [hy]; rfl)) ?_
      refine mm_iload_n dM_spotHolds_61 rfl rfl ?_
      refine mm_v3 dM_spotHolds_62 lM_181 (km_0 h m _) rfl rfl rfl (by decide) (Nat.le_of_ble_eq_true rfl) (kM_thing hi hy6 hT hT3 (up y hy6).1 (up y hy6).2) ?_
      refine mm_top (v' := .int (nI (kh_w (km_S M) T i y))) (congrArg Value.int (show nI (i / m_un M y % T) = _ by rw [hun y hy6]; rfl)) ?_
      refine mm_goto (tgt := 69) dM_spotHolds_65 (by decide) ?_
      refine mm_istore dM_spotHolds_69 (by decide) rfl ?_
      refine mm_iload dM_spotHolds_71 rfl ?_
      refine mm_iconst (v := nI 2) dM_spotHolds_73 (by decide) ?_
      refine mm_icmp_ge_n (tgt := 82) dM_spotHolds_74 (by decide) (by omega) (by decide) (fun q74 => ?_) (fun q74 => ?_)
      · refine mm_iload dM_spotHolds_82 rfl ?_
        refine mm_iconst (v := nI 2) dM_spotHolds_84 (by decide) ?_
        refine mm_icmp_ne_n (tgt := 95) dM_spotHolds_85 (by decide) (by omega) (by decide) (fun q85 => ?_) (fun q85 => ?_)
        · refine mm_iconst (v := nI 5) dM_spotHolds_95 (by decide) ?_
          refine mm_iconst (v := nI 3) dM_spotHolds_96 (by decide) ?_
          refine mm_iload dM_spotHolds_97 rfl ?_
          refine mm_imul dM_spotHolds_99 ?_
          refine mm_iadd dM_spotHolds_100 ?_
          refine mm_iload dM_spotHolds_101 rfl ?_
          refine mm_iadd dM_spotHolds_103 ?_
          refine mm_top (v' := .int (nI (5 + 3 * kh_w (km_S M) T i x + kh_w (km_S M) T i y))) (congrArg Value.int (show nI 5 + nI 3 * nI _ + nI _ = _ by rw [pk_mul, nI_add, nI_add])) ?_
          have := dl x
          have := dl y
          exact fin _ _ _ _ (by unfold kh_bit; rw [eg, if_neg (by omega), if_neg q85, hk0, hk 1 y (by decide) hy]) (by omega)
        · exact absurd q85 (by first | omega | decide)
      · exact absurd q74 (by first | omega | decide)
set_option maxHeartbeats 1000000 in
theorem kM_any {a T u all w : Nat} (ha : a < 13) (hT : 0 < T) (hT3 : T ≤ 3) (hu : 0 < u) (ha7 : all ≤ 729) (hw : all = u * T * w) :
    mm_Ev Γ l d mM_any [.ref m, .int (nI a), .int (nI T), .int (nI u), .int (nI all)] (km_set h m M) (km_D h m (fun v M' => v = none ∧ ∃ H, M' = s_hd M H ∧ (∀ p, p < all → H (729 * a + p) = kh_any u T (fun p => m_hd M (729 * a + p)) p) ∧ ∀ q, (q < 729 * a ∨ 729 * a + all ≤ q) → H q = m_hd M q)) := by
  obtain ⟨g, eg⟩ : ∃ g : Nat → Bool, g = fun p => m_hd M (729 * a + p) := ⟨_, rfl⟩
  rw [← eg]
  have u31 : ∀ i, i < all → u < 2 ^ 31 := fun i hi => by
    have h1 : u * 1 ≤ u * (T * w) := Nat.mul_le_mul_left u (by
      rcases Nat.eq_zero_or_pos (T * w) with h0 | h0
      · rw [Nat.mul_assoc, h0, Nat.mul_zero] at hw; omega
      · exact h0)
    rw [← Nat.mul_assoc, ← hw] at h1
    omega
  have tu : ∀ i t, i < all → i / u % T = 0 → t < T → i + t * u < all := fun i t h1 h2 h3 => by rw [hw] at h1 ⊢; exact kh_in hu h3 h1 h2
  -- the rest of a group is written
  have wr : ∀ (D : mm_D) (i : Nat) (v : Bool), i < all → i / u % T = 0 → (∀ (H : Nat → Bool) (x7 : Option Value), (∀ p, p < all → H (729 * a + p) = if kh_base u T p < i then kh_any u T g p else if kh_base u T p = i then v else g p) → (∀ q, (q < 729 * a ∨ 729 * a + all ≤ q) → H q = m_hd M q) → mm_W Γ l mM_any d D 105 [some (.ref m), some (.int (nI a)), some (.int (nI T)), some (.int (nI u)), some (.int (nI all)), some (.int (nI i)), some (.int (mm_bI v)), x7] [] (km_set h m (s_hd M H))) → ∀ (j t : Nat) (H : Nat → Bool), t + j = T → (∀ p, p < all → H (729 * a + p) = if kh_base u T p < i then kh_any u T g p else if kh_base u T p = i ∧ p / u % T < t then v else g p) → (∀ q, (q < 729 * a ∨ 729 * a + all ≤ q) → H q = m_hd M q) → mm_W Γ l mM_any d D 73 [some (.ref m), some (.int (nI a)), some (.int (nI T)), some (.int (nI u)), some (.int (nI all)), some (.int (nI i)), some (.int (mm_bI v)), some (.int (nI t))] [] (km_set h m (s_hd M H)) := by
    intro D i v hi hi0 cont j
    induction j with
    | zero =>
      intro t H ht h1 h2
      have ht : t = T := by omega
      subst ht
      refine mm_iload dM_any_73 rfl ?_
      refine mm_iload_n dM_any_75 rfl rfl ?_
      refine mm_icmp_ge_T (tgt := 105) dM_any_76 (by decide) (nI_le (Nat.le_refl _) (by omega)) ?_
      refine cont H _ (fun p hp => ?_) h2
      rw [h1 p hp]
      have := Nat.mod_lt (p / u) hT
      by_cases c1 : kh_base u t p < i
      · rw [if_pos c1, if_pos c1]
      · rw [if_neg c1, if_neg c1]
        by_cases c2 : kh_base u t p = i
        · rw [if_pos ⟨c2, this⟩, if_pos c2]
        · rw [if_neg (fun w => c2 w.1), if_neg c2]
    | succ j ih =>
      intro t H ht h1 h2
      have lt := tu i t hi hi0 (by omega)
      refine mm_iload dM_any_73 rfl ?_
      refine mm_iload_n dM_any_75 rfl rfl ?_
      refine mm_icmp_ge_F (tgt := 105) dM_any_76 (by decide) (nI_ge (by omega) (by omega)) ?_
      refine mm_aload_n dM_any_79 rfl rfl ?_
      refine mm_getf dM_any_80 fM_31 (km_0 h m _) rfl ?_
      refine mm_sipush (v := nI 729) dM_any_83 (by decide) ?_
      refine mm_iload_n dM_any_86 rfl rfl ?_
      refine mm_imul dM_any_87 ?_
      refine mm_iload dM_any_88 rfl ?_
      refine mm_iadd dM_any_90 ?_
      refine mm_iload dM_any_91 rfl ?_
      refine mm_iload_n dM_any_93 rfl rfl ?_
      refine mm_imul dM_any_94 ?_
      refine mm_iadd dM_any_95 ?_
      refine mm_iload dM_any_96 rfl ?_
      refine mm_bastore dM_any_98 (km_hd h m _) (by rw [pk_mul, nI_add, pk_mul, nI_add]) (show 729 * a + i + t * u < 9477 by omega) (by decide) (by cases v <;> rfl) ?_
      refine mm_eqh (kv_hd h m _ _ v).symm ?_
      refine mm_iinc dM_any_99 (by decide) rfl (mm_inc _) rfl ?_
      refine mm_goto (tgt := 73) dM_any_102 (by decide) ?_
      refine ih (t + 1) (kh_ub H (729 * a + i + t * u) v) (by omega) (fun p hp => ?_) (fun q hq => ?_)
      · show (if 729 * a + p = 729 * a + i + t * u then v else H (729 * a + p)) = _
        by_cases c0 : p = i + t * u
        · have b1 := kh_base_add hu (show t < T by omega) hi0
          have b2 := kh_dg_add hu (show t < T by omega) hi0
          rw [if_pos (by omega), c0, b1, b2, if_neg (by omega), if_pos ⟨rfl, by omega⟩]
        · rw [if_neg (by omega), h1 p hp]
          by_cases c1 : kh_base u T p < i
          · rw [if_pos c1, if_pos c1]
          · rw [if_neg c1, if_neg c1]
            have e := kh_base_eq u T p
            by_cases c2 : kh_base u T p = i ∧ p / u % T < t
            · rw [if_pos c2, if_pos ⟨c2.1, by omega⟩]
            · rw [if_neg c2, if_neg (fun w => ?_)]
              have hd : p / u % T = t := by
                rcases Nat.lt_or_ge (p / u % T) t with h9 | h9
                · exact absurd ⟨w.1, h9⟩ c2
                · omega
              rw [w.1, hd] at e
              exact c0 e
      · show (if q = 729 * a + i + t * u then v else H q) = _
        rw [if_neg (by omega)]
        exact h2 q hq
  have rd : ∀ (D : mm_D) (i : Nat) (H : Nat → Bool), i < all → i / u % T = 0 → (∀ t, t < T → H (729 * a + (i + t * u)) = g (i + t * u)) → (∀ x7, mm_W Γ l mM_any d D 70 [some (.ref m), some (.int (nI a)), some (.int (nI T)), some (.int (nI u)), some (.int (nI all)), some (.int (nI i)), some (.int (mm_bI (kh_any u T g i))), x7] [] (km_set h m (s_hd M H))) → ∀ (j t : Nat) (b : Bool), t + j = T → (b || ks_any (fun t => g (i + t * u)) t j) = kh_any u T g i → mm_W Γ l mM_any d D 25 [some (.ref m), some (.int (nI a)), some (.int (nI T)), some (.int (nI u)), some (.int (nI all)), some (.int (nI i)), some (.int (mm_bI b)), some (.int (nI t))] [] (km_set h m (s_hd M H)) := by
    intro D i H hi hi0 hH cont j
    induction j with
    | zero =>
      intro t b ht e
      have e : (b || false) = kh_any u T g i := e
      rw [Bool.or_false] at e
      refine mm_iload dM_any_25 rfl ?_
      refine mm_iload_n dM_any_27 rfl rfl ?_
      refine mm_icmp_ge_T (tgt := 70) dM_any_28 (by decide) (nI_le (by omega) (by omega)) ?_
      rw [e]
      exact cont _
    | succ j ih =>
      intro t b ht e
      have lt := tu i t hi hi0 (by omega)
      have eh := hH t (by omega)
      rw [ke_any_c] at e
      refine mm_iload dM_any_25 rfl ?_
      refine mm_iload_n dM_any_27 rfl rfl ?_
      refine mm_icmp_ge_F (tgt := 70) dM_any_28 (by decide) (nI_ge (by omega) (by omega)) ?_
      refine mm_iload dM_any_31 rfl ?_
      refine mm_if_ne_b (tgt := 57) dM_any_33 (by decide) (fun q33 => ?_) (fun q33 => ?_)
      · refine mm_iconst (v := nI 1) dM_any_57 (by decide) ?_
        refine mm_goto (tgt := 62) dM_any_58 (by decide) ?_
        refine mm_istore dM_any_62 (by decide) rfl ?_
        refine mm_iinc dM_any_64 (by decide) rfl (mm_inc _) rfl ?_
        refine mm_goto (tgt := 25) dM_any_67 (by decide) ?_
        refine ih (t + 1) true (by omega) ?_
        rw [← e, q33]; rfl
      · refine mm_aload_n dM_any_36 rfl rfl ?_
        refine mm_getf dM_any_37 fM_31 (km_0 h m _) rfl ?_
        refine mm_sipush (v := nI 729) dM_any_40 (by decide) ?_
        refine mm_iload_n dM_any_43 rfl rfl ?_
        refine mm_imul dM_any_44 ?_
        refine mm_iload dM_any_45 rfl ?_
        refine mm_iadd dM_any_47 ?_
        refine mm_iload dM_any_48 rfl ?_
        refine mm_iload_n dM_any_50 rfl rfl ?_
        refine mm_imul dM_any_51 ?_
        refine mm_iadd dM_any_52 ?_
        refine mm_baload dM_any_53 (km_hd h m _) (by rw [pk_mul, nI_add, pk_mul, nI_add]) (show 729 * a + i + t * u < 9477 by omega) (by decide) ?_
        refine mm_if_eq_b (tgt := 61) dM_any_54 (by decide) (fun q54 => ?_) (fun q54 => ?_)
        · refine mm_iconst (v := nI 0) dM_any_61 (by decide) ?_
          refine mm_istore dM_any_62 (by decide) rfl ?_
          refine mm_iinc dM_any_64 (by decide) rfl (mm_inc _) rfl ?_
          refine mm_goto (tgt := 25) dM_any_67 (by decide) ?_
          have q54 : H (729 * a + i + t * u) = false := q54
          rw [Nat.add_assoc, eh] at q54
          refine ih (t + 1) false (by omega) ?_
          rw [← e, q33, q54]; rfl
        · refine mm_iconst (v := nI 1) dM_any_57 (by decide) ?_
          refine mm_goto (tgt := 62) dM_any_58 (by decide) ?_
          refine mm_istore dM_any_62 (by decide) rfl ?_
          refine mm_iinc dM_any_64 (by decide) rfl (mm_inc _) rfl ?_
          refine mm_goto (tgt := 25) dM_any_67 (by decide) ?_
          have q54 : H (729 * a + i + t * u) = true := q54
          rw [Nat.add_assoc, eh] at q54
          refine ih (t + 1) true (by omega) ?_
          rw [← e, q33, q54]; rfl
  have loop : ∀ (D : mm_D), (∀ (H : Nat → Bool), (∀ p, p < all → H (729 * a + p) = kh_any u T g p) → (∀ q, (q < 729 * a ∨ 729 * a + all ≤ q) → H q = m_hd M q) → D (.inl none) (km_set h m (s_hd M H))) → ∀ (j i : Nat) (H : Nat → Bool) (x6 x7 : Option Value), i + j = all → (∀ p, p < all → H (729 * a + p) = if kh_base u T p < i then kh_any u T g p else g p) → (∀ q, (q < 729 * a ∨ 729 * a + all ≤ q) → H q = m_hd M q) → mm_W Γ l mM_any d D 3 [some (.ref m), some (.int (nI a)), some (.int (nI T)), some (.int (nI u)), some (.int (nI all)), some (.int (nI i)), x6, x7] [] (km_set h m (s_hd M H)) := by
    intro D hD j
    induction j with
    | zero =>
      intro i H x6 x7 hi h1 h2
      refine mm_iload dM_any_3 rfl ?_
      refine mm_iload dM_any_5 rfl ?_
      refine mm_icmp_ge_T (tgt := 111) dM_any_7 (by decide) (nI_le (by omega) (by omega)) ?_
      refine mm_return dM_any_111 rfl ?_
      exact hD H (fun p hp => by rw [h1 p hp, if_pos (by have := kh_base_le u T p; omega)]) h2
    | succ j ih =>
      intro i H x6 x7 hi h1 h2
      have u3 := u31 i (by omega)
      have le : i / u < 2 ^ 31 := Nat.lt_of_le_of_lt (Nat.div_le_self _ _) (by omega)
      have ml := Nat.mod_lt (i / u) hT
      refine mm_iload dM_any_3 rfl ?_
      refine mm_iload dM_any_5 rfl ?_
      refine mm_icmp_ge_F (tgt := 111) dM_any_7 (by decide) (nI_ge (by omega) (by omega)) ?_
      refine mm_iload dM_any_10 rfl ?_
      refine mm_iload_n dM_any_12 rfl rfl ?_
      refine mm_idiv dM_any_13 (fun w => by have := (nI_eq (b := 0) u3 (by decide)).mp w; omega) ?_
      refine mm_top (v' := .int (nI (i / u))) (congrArg Value.int (pk_div (by omega) hu u3)) ?_
      refine mm_iload_n dM_any_14 rfl rfl ?_
      refine mm_irem dM_any_15 (fun w => by have := (nI_eq (b := 0) (show T < 2 ^ 31 by omega) (by decide)).mp w; omega) ?_
      refine mm_top (v' := .int (nI (i / u % T))) (congrArg Value.int (pk_rem le hT (by omega))) ?_
      refine mm_if_ne_n (tgt := 105) dM_any_16 (by decide) (by omega) (fun q16 => ?_) (fun q16 => ?_)
      · refine mm_iinc dM_any_105 (by decide) rfl (mm_inc _) rfl ?_
        refine mm_goto (tgt := 3) dM_any_108 (by decide) ?_
        refine ih (i + 1) H _ _ (by omega) (fun p hp => ?_) h2
        rw [h1 p hp]
        have hb : ¬ kh_base u T p = i := fun w => q16 (by rw [← w]; exact kh_base_dg hu)
        by_cases c1 : kh_base u T p < i
        · rw [if_pos c1, if_pos (by omega)]
        · rw [if_neg c1, if_neg (by omega)]
      · refine mm_iconst (v := nI 0) dM_any_19 (by decide) ?_
        refine mm_istore dM_any_20 (by decide) rfl ?_
        refine mm_iconst (v := nI 0) dM_any_22 (by decide) ?_
        refine mm_istore dM_any_23 (by decide) rfl ?_
        have hH : ∀ t, t < T → H (729 * a + (i + t * u)) = g (i + t * u) := fun t ht => by rw [h1 _ (tu i t (by omega) q16 ht), if_neg (by rw [kh_base_add hu ht q16]; omega)]
        refine rd D i H (by omega) q16 hH (fun x7 => ?_) T 0 false (Nat.zero_add _) (by show ks_any _ 0 T = ks_any (fun t => g (kh_base u T i + t * u)) 0 T; rw [kh_base_0 q16])
        refine mm_iconst (v := nI 0) dM_any_70 (by decide) ?_
        refine mm_istore dM_any_71 (by decide) rfl ?_
        refine wr D i _ (by omega) q16 (fun H2 x7 k1 k2 => ?_) T 0 H (Nat.zero_add _) (fun p hp => ?_) h2
        · refine mm_iinc dM_any_105 (by decide) rfl (mm_inc _) rfl ?_
          refine mm_goto (tgt := 3) dM_any_108 (by decide) ?_
          refine ih (i + 1) H2 _ _ (by omega) (fun p hp => ?_) k2
          rw [k1 p hp]
          by_cases c1 : kh_base u T p < i
          · rw [if_pos c1, if_pos (by omega)]
          · rw [if_neg c1]
            by_cases c2 : kh_base u T p = i
            · rw [if_pos c2, if_pos (by omega)]
              show ks_any (fun t => g (kh_base u T i + t * u)) 0 T = ks_any (fun t => g (kh_base u T p + t * u)) 0 T
              rw [c2, kh_base_0 q16]
            · rw [if_neg c2, if_neg (by omega)]
        · rw [h1 p hp]
          by_cases c1 : kh_base u T p < i
          · rw [if_pos c1, if_pos c1]
          · rw [if_neg c1, if_neg c1, if_neg (fun w => by have := w.2; omega)]
  show mm_W Γ l mM_any d _ 0 [some (.ref m), some (.int (nI a)), some (.int (nI T)), some (.int (nI u)), some (.int (nI all)), none, none, none] [] _
  refine mm_iconst (v := nI 0) dM_any_0 (by decide) ?_
  refine mm_istore dM_any_1 (by decide) rfl ?_
  exact loop _ (fun H k1 k2 => ⟨_, _, rfl, rfl, rfl, H, rfl, k1, k2⟩) all 0 (m_hd M) _ _ (Nat.zero_add _) (fun p hp => by rw [if_neg (by omega), eg]) (fun _ _ => rfl)
end KM9
