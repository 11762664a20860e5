/-! Contracts of the reference. Printed by wip/whole/spec/m5.py -/
section KM5
variable {Γ : mm_G} {l : Launch} {d : Nat} {h : mm_H} {m : Nat} {M : km_M}
set_option maxHeartbeats 1000000 in
theorem kM_sever (o : kt_ok (km_S M)) (hm : m_mv M ≤ 20) (n a : Int32) : mm_Ev Γ l (d + 1 + 1) mM_sever [.ref m, .int n, .int a] (km_set h m M) (mm_is (.inl (some (.int (nI (km_sever M n a).1)))) (km_set h m (km_sever M n a).2)) := by
  have inn : ∀ (D : mm_D) (n' v a' i k : Nat) (x3 x7 : Option Value) (M1 : km_M), n' < 6 → v < 6 → a' < 13 → i < 12 → k < 2 → kt_ok (km_S M1) →
      (∀ x7', mm_W Γ l mM_sever (d + 1 + 1) D 146 [some (.ref m), some (.int (nI n')), some (.int (nI a')), x3, some (.int (nI v)), some (.int (nI i)), some (.int (nI (k + 1))), x7'] [] (km_set h m (km_sv1 n' v a' M1 i (43 + 2 * i + k)))) →
      mm_W Γ l mM_sever (d + 1 + 1) D 146 [some (.ref m), some (.int (nI n')), some (.int (nI a')), x3, some (.int (nI v)), some (.int (nI i)), some (.int (nI k)), x7] [] (km_set h m M1) := by
    intro D n' v a' i k x3 x7 M1 hn hv ha hi hk o1 cont
    have hsm : mm_sm (m_sh M1 (43 + 2 * i + k)) := by
      rw [Nat.add_assoc]
      exact (km_hk_lt o1.1 (by omega)).sm (by decide)
    have no : ¬ (ks_in (km_S M1) ((km_S M1).1 i) (some a') = true ∧ m_sh M1 (43 + 2 * i + k) = some n') → km_sv1 n' v a' M1 i (43 + 2 * i + k) = km_st M1 (43 + 2 * i + k) (m_sh M1 (43 + 2 * i + k)) := fun w => congrArg (km_st M1 _) (if_neg w)
    have yes : (ks_in (km_S M1) ((km_S M1).1 i) (some a') = true ∧ m_sh M1 (43 + 2 * i + k) = some n') → km_sv1 n' v a' M1 i (43 + 2 * i + k) = km_st M1 (43 + 2 * i + k) (some v) := fun w => congrArg (km_st M1 _) (if_pos w)
    refine mm_iload dM_sever_146 rfl ?_
    refine mm_iconst (v := nI 2) dM_sever_148 (by decide) ?_
    refine mm_icmp_ge_F (tgt := 251) dM_sever_149 (by decide) (nI_ge (by omega) (by omega)) ?_
    refine mm_aload_n dM_sever_152 rfl rfl ?_
    refine mm_iload dM_sever_153 rfl ?_
    refine mm_v1 dM_sever_155 lM_105 (km_0 h m _) rfl (by decide) (Nat.le_of_ble_eq_true rfl) (kM_isSpot o1.1 (nI i)) ?_
    refine mm_if_eq_b (tgt := 202) dM_sever_158 (by decide) (fun q158 => ?_) (fun q158 => ?_)
    · refine mm_iconst (v := nI 0) dM_sever_202 (by decide) ?_
      refine mm_istore dM_sever_203 (by decide) rfl ?_
      refine mm_aload_n dM_sever_205 rfl rfl ?_
      refine mm_getf dM_sever_206 fM_7 (km_0 h m _) rfl ?_
      refine mm_bipush (v := nI 43) dM_sever_209 (by decide) ?_
      refine mm_iconst (v := nI 2) dM_sever_211 (by decide) ?_
      refine mm_iload dM_sever_212 rfl ?_
      refine mm_imul dM_sever_214 ?_
      refine mm_iadd dM_sever_215 ?_
      refine mm_iload dM_sever_216 rfl ?_
      refine mm_iadd dM_sever_218 ?_
      refine mm_iload dM_sever_219 rfl ?_
      refine mm_if_eq_T (tgt := 229) dM_sever_221 (by decide) rfl ?_
      refine mm_aload_n dM_sever_229 rfl rfl ?_
      refine mm_getf dM_sever_230 fM_7 (km_0 h m _) rfl ?_
      refine mm_bipush (v := nI 43) dM_sever_233 (by decide) ?_
      refine mm_iconst (v := nI 2) dM_sever_235 (by decide) ?_
      refine mm_iload dM_sever_236 rfl ?_
      refine mm_imul dM_sever_238 ?_
      refine mm_iadd dM_sever_239 ?_
      refine mm_iload dM_sever_240 rfl ?_
      refine mm_iadd dM_sever_242 ?_
      refine mm_iaload dM_sever_243 (km_sh h m _) (by rw [pk_mul, nI_add, nI_add]) (by omega) (by decide) ?_
      refine mm_iastore dM_sever_244 (km_sh h m _) (by rw [pk_mul, nI_add, nI_add]) (by omega) (by decide) ?_
      refine mm_eqh (kv_sh h m _ _ (m_sh M1 (43 + 2 * i + k))).symm ?_
      refine mm_iinc dM_sever_245 (by decide) rfl (mm_inc _) rfl ?_
      refine mm_goto (tgt := 146) dM_sever_248 (by decide) ?_
      have hh := cont (some (.int (nI 0)))
      rw [no (fun w => by have w := w.1; rw [show (km_S M1).1 i = none from km_no_row (k := 0) (by decide) (by show i < 12; omega) q158] at w; cases w)] at hh
      exact hh
    · obtain ⟨i2, x, hi2, e2, hx⟩ := ks_hasI_k (k := 0) (by decide) q158
      have e2 := (nI_eq (by omega) (by have := ks_len_le 0; omega)).mp e2
      subst e2
      have hx : (km_S M1).1 i = some x := hx
      have hx2 : m_sh M1 (19 + i) = some x := (kz_s _ hi2).symm.trans hx
      have hk9 := o1.2.1 0 i x (by decide) hi2 hx
      refine mm_aload_n dM_sever_161 rfl rfl ?_
      refine mm_aload_n dM_sever_162 rfl rfl ?_
      refine mm_getf dM_sever_163 fM_7 (km_0 h m _) rfl ?_
      refine mm_bipush (v := nI 19) dM_sever_166 (by decide) ?_
      refine mm_iload dM_sever_168 rfl ?_
      refine mm_iadd dM_sever_170 ?_
      refine mm_iaload dM_sever_171 (km_sh h m _) (nI_add 19 i) (by omega) (by decide) ?_
      refine mm_top (v' := .int (nI x)) (congrArg Value.int (show mm_enc (m_sh M1 (19 + i)) = nI x by rw [hx2]; rfl)) ?_
      refine mm_iload_n dM_sever_172 rfl rfl ?_
      refine mm_v2 dM_sever_173 lM_92 (km_0 h m _) rfl rfl (by decide) (Nat.le_of_ble_eq_true rfl) (kM_isWithin o1.1 hk9 (by omega)) ?_
      refine mm_if_eq_b (tgt := 202) dM_sever_176 (by decide) (fun q176 => ?_) (fun q176 => ?_)
      · refine mm_iconst (v := nI 0) dM_sever_202 (by decide) ?_
        refine mm_istore dM_sever_203 (by decide) rfl ?_
        refine mm_aload_n dM_sever_205 rfl rfl ?_
        refine mm_getf dM_sever_206 fM_7 (km_0 h m _) rfl ?_
        refine mm_bipush (v := nI 43) dM_sever_209 (by decide) ?_
        refine mm_iconst (v := nI 2) dM_sever_211 (by decide) ?_
        refine mm_iload dM_sever_212 rfl ?_
        refine mm_imul dM_sever_214 ?_
        refine mm_iadd dM_sever_215 ?_
        refine mm_iload dM_sever_216 rfl ?_
        refine mm_iadd dM_sever_218 ?_
        refine mm_iload dM_sever_219 rfl ?_
        refine mm_if_eq_T (tgt := 229) dM_sever_221 (by decide) rfl ?_
        refine mm_aload_n dM_sever_229 rfl rfl ?_
        refine mm_getf dM_sever_230 fM_7 (km_0 h m _) rfl ?_
        refine mm_bipush (v := nI 43) dM_sever_233 (by decide) ?_
        refine mm_iconst (v := nI 2) dM_sever_235 (by decide) ?_
        refine mm_iload dM_sever_236 rfl ?_
        refine mm_imul dM_sever_238 ?_
        refine mm_iadd dM_sever_239 ?_
        refine mm_iload dM_sever_240 rfl ?_
        refine mm_iadd dM_sever_242 ?_
        refine mm_iaload dM_sever_243 (km_sh h m _) (by rw [pk_mul, nI_add, nI_add]) (by omega) (by decide) ?_
        refine mm_iastore dM_sever_244 (km_sh h m _) (by rw [pk_mul, nI_add, nI_add]) (by omega) (by decide) ?_
        refine mm_eqh (kv_sh h m _ _ (m_sh M1 (43 + 2 * i + k))).symm ?_
        refine mm_iinc dM_sever_245 (by decide) rfl (mm_inc _) rfl ?_
        refine mm_goto (tgt := 146) dM_sever_248 (by decide) ?_
        have hh := cont (some (.int (nI 0)))
        rw [no (fun w => by have w := w.1; rw [hx, q176] at w; cases w)] at hh
        exact hh
      · refine mm_aload_n dM_sever_179 rfl rfl ?_
        refine mm_getf dM_sever_180 fM_7 (km_0 h m _) rfl ?_
        refine mm_bipush (v := nI 43) dM_sever_183 (by decide) ?_
        refine mm_iconst (v := nI 2) dM_sever_185 (by decide) ?_
        refine mm_iload dM_sever_186 rfl ?_
        refine mm_imul dM_sever_188 ?_
        refine mm_iadd dM_sever_189 ?_
        refine mm_iload dM_sever_190 rfl ?_
        refine mm_iadd dM_sever_192 ?_
        refine mm_iaload dM_sever_193 (km_sh h m _) (by rw [pk_mul, nI_add, nI_add]) (by omega) (by decide) ?_
        refine mm_iload_n dM_sever_194 rfl rfl ?_
        refine mm_icmp_ne_k (tgt := 202) dM_sever_195 (by decide) hsm (by omega) (fun q195 => ?_) (fun q195 => ?_)
        · refine mm_iconst (v := nI 0) dM_sever_202 (by decide) ?_
          refine mm_istore dM_sever_203 (by decide) rfl ?_
          refine mm_aload_n dM_sever_205 rfl rfl ?_
          refine mm_getf dM_sever_206 fM_7 (km_0 h m _) rfl ?_
          refine mm_bipush (v := nI 43) dM_sever_209 (by decide) ?_
          refine mm_iconst (v := nI 2) dM_sever_211 (by decide) ?_
          refine mm_iload dM_sever_212 rfl ?_
          refine mm_imul dM_sever_214 ?_
          refine mm_iadd dM_sever_215 ?_
          refine mm_iload dM_sever_216 rfl ?_
          refine mm_iadd dM_sever_218 ?_
          refine mm_iload dM_sever_219 rfl ?_
          refine mm_if_eq_T (tgt := 229) dM_sever_221 (by decide) rfl ?_
          refine mm_aload_n dM_sever_229 rfl rfl ?_
          refine mm_getf dM_sever_230 fM_7 (km_0 h m _) rfl ?_
          refine mm_bipush (v := nI 43) dM_sever_233 (by decide) ?_
          refine mm_iconst (v := nI 2) dM_sever_235 (by decide) ?_
          refine mm_iload dM_sever_236 rfl ?_
          refine mm_imul dM_sever_238 ?_
          refine mm_iadd dM_sever_239 ?_
          refine mm_iload dM_sever_240 rfl ?_
          refine mm_iadd dM_sever_242 ?_
          refine mm_iaload dM_sever_243 (km_sh h m _) (by rw [pk_mul, nI_add, nI_add]) (by omega) (by decide) ?_
          refine mm_iastore dM_sever_244 (km_sh h m _) (by rw [pk_mul, nI_add, nI_add]) (by omega) (by decide) ?_
          refine mm_eqh (kv_sh h m _ _ (m_sh M1 (43 + 2 * i + k))).symm ?_
          refine mm_iinc dM_sever_245 (by decide) rfl (mm_inc _) rfl ?_
          refine mm_goto (tgt := 146) dM_sever_248 (by decide) ?_
          have hh := cont (some (.int (nI 0)))
          rw [no (fun w => q195 w.2)] at hh
          exact hh
        · refine mm_iconst (v := nI 1) dM_sever_198 (by decide) ?_
          refine mm_goto (tgt := 203) dM_sever_199 (by decide) ?_
          refine mm_istore dM_sever_203 (by decide) rfl ?_
          refine mm_aload_n dM_sever_205 rfl rfl ?_
          refine mm_getf dM_sever_206 fM_7 (km_0 h m _) rfl ?_
          refine mm_bipush (v := nI 43) dM_sever_209 (by decide) ?_
          refine mm_iconst (v := nI 2) dM_sever_211 (by decide) ?_
          refine mm_iload dM_sever_212 rfl ?_
          refine mm_imul dM_sever_214 ?_
          refine mm_iadd dM_sever_215 ?_
          refine mm_iload dM_sever_216 rfl ?_
          refine mm_iadd dM_sever_218 ?_
          refine mm_iload dM_sever_219 rfl ?_
          refine mm_if_eq_F (tgt := 229) dM_sever_221 (by decide) (show ¬ nI 1 = 0 by decide) ?_
          refine mm_iload dM_sever_224 rfl ?_
          refine mm_goto (tgt := 244) dM_sever_226 (by decide) ?_
          refine mm_iastore dM_sever_244 (km_sh h m _) (by rw [pk_mul, nI_add, nI_add]) (by omega) (by decide) ?_
          refine mm_eqh (kv_sh h m _ _ (some v)).symm ?_
          refine mm_iinc dM_sever_245 (by decide) rfl (mm_inc _) rfl ?_
          refine mm_goto (tgt := 146) dM_sever_248 (by decide) ?_
          have hh := cont (some (.int (nI 1)))
          rw [yes ⟨by rw [hx]; exact q176, q195⟩] at hh
          exact hh
  have outl : ∀ (D : mm_D) (n' v a' : Nat) (x3 : Option Value) (R : km_M), n' < 6 → v < 6 → a' < 13 → D (.inl (some (.int (nI v)))) (km_set h m R) → ∀ (j i : Nat) (x6 x7 : Option Value) (M1 : km_M), i + j = 12 → km_sv n' v a' i j M1 = R → kt_ok (km_S M1) → mm_W Γ l mM_sever (d + 1 + 1) D 136 [some (.ref m), some (.int (nI n')), some (.int (nI a')), x3, some (.int (nI v)), some (.int (nI i)), x6, x7] [] (km_set h m M1) := by
    intro D n' v a' x3 R hn hv ha hD j
    induction j with
    | zero =>
      intro i x6 x7 M1 hi e o1
      have e : M1 = R := e
      subst e
      refine mm_iload dM_sever_136 rfl ?_
      refine mm_bipush (v := nI 12) dM_sever_138 (by decide) ?_
      refine mm_icmp_ge_T (tgt := 257) dM_sever_140 (by decide) (nI_le (by omega) (by omega)) ?_
      refine mm_iload dM_sever_257 rfl ?_
      refine mm_ireturn dM_sever_259 rfl ?_
      exact hD
    | succ j ih =>
      intro i x6 x7 M1 hi e o1
      have o2 := kt_ok_sv1 (n := n') (v := v) (a := a') (s := i) (q := 2 * i) (by omega) o1 hv
      have o3 := kt_ok_sv1 (n := n') (v := v) (a := a') (s := i) (q := 2 * i + 1) (by omega) o2 hv
      refine mm_iload dM_sever_136 rfl ?_
      refine mm_bipush (v := nI 12) dM_sever_138 (by decide) ?_
      refine mm_icmp_ge_F (tgt := 257) dM_sever_140 (by decide) (nI_ge (by omega) (by omega)) ?_
      refine mm_iconst (v := nI 0) dM_sever_143 (by decide) ?_
      refine mm_istore dM_sever_144 (by decide) rfl ?_
      refine inn D n' v a' i 0 x3 x7 M1 hn hv ha (by omega) (by decide) o1 fun y7 => ?_
      refine inn D n' v a' i 1 x3 y7 _ hn hv ha (by omega) (by decide) o2 fun z7 => ?_
      refine mm_iload dM_sever_146 rfl ?_
      refine mm_iconst (v := nI 2) dM_sever_148 (by decide) ?_
      refine mm_icmp_ge_T (tgt := 251) dM_sever_149 (by decide) (show nI 2 ≤ nI 2 by decide) ?_
      refine mm_iinc dM_sever_251 (by decide) rfl (mm_inc _) rfl ?_
      refine mm_goto (tgt := 136) dM_sever_254 (by decide) ?_
      exact ih (i + 1) _ _ _ (by omega) (by rw [← e, km_sv_s]; rfl) o3
  have bad : (ks_hasI (km_S M) (nI 2) n && ks_harI (km_S M) a) = false → mm_W Γ l mM_sever (d + 1 + 1) (mm_is (.inl (some (.int (nI (km_sever M n a).1)))) (km_set h m (km_sever M n a).2)) 17 [some (.ref m), some (.int n), some (.int a), none, none, none, none, none] [.ref m] (km_set h m M) := by
    intro hb
    refine mm_iconst (v := nI 1) dM_sever_17 (by decide) ?_
    refine mm_goto (tgt := 22) dM_sever_18 (by decide) ?_
    refine mm_putf dM_sever_22 fM_56 rfl rfl rfl rfl (km_0 h m _) (Nat.le_of_ble_eq_true rfl) ?_
    refine mm_eqh (ku_th h m _ 1).symm ?_
    refine mm_aload_n dM_sever_25 rfl rfl ?_
    refine mm_getf dM_sever_26 fM_56 (km_0 h m _) rfl ?_
    refine mm_if_eq_F (tgt := 34) dM_sever_29 (by decide) (show ¬ nI 1 = 0 by decide) ?_
    refine mm_iconst (v := nI 0) dM_sever_32 (by decide) ?_
    refine mm_ireturn dM_sever_33 rfl ?_
    exact km_fin (if_neg (by rw [hb]; decide))
  have good : ∀ (n' a' x : Nat), n = nI n' → a = nI a' → n' < 6 → a' < 13 → (km_S M).2.2.1 n' = some x → kt_is (km_S M) a' → (ks_hasI (km_S M) (nI 2) n && ks_harI (km_S M) a) = true → mm_W Γ l mM_sever (d + 1 + 1) (mm_is (.inl (some (.int (nI (km_sever M n a).1)))) (km_set h m (km_sever M n a).2)) 21 [some (.ref m), some (.int n), some (.int a), none, none, none, none, none] [.ref m] (km_set h m M) := by
    intro n' a' x en ea hn ha hx ka hb
    subst en ea
    have cn : (nI n').toNatClampNeg = n' := nI_clamp (by omega)
    have ca : (nI a').toNatClampNeg = a' := nI_clamp (by omega)
    have hx2 : m_sh M (13 + n') = some x := (kz_l _ hn).symm.trans hx
    have x13 := o.1.1 2 n' x hn hx
    have hl12 := km_dp_le (km_S M) a'
    have gd := ks_slot_gd (km_S M) 2
    have gd : km_new M 2 ≤ 6 := gd
    have tail : ∀ x3, mm_W Γ l mM_sever (d + 1 + 1) (mm_is (.inl (some (.int (nI (km_sever M (nI n') (nI a')).1)))) (km_set h m (km_sever M (nI n') (nI a')).2)) 100 [some (.ref m), some (.int (nI n')), some (.int (nI a')), x3, none, none, none, none] [.int (nI (km_svT M n' a')), .ref m] (km_set h m (s_th M 0)) := by
      intro x3
      refine mm_putf dM_sever_100 fM_56 rfl rfl rfl rfl (km_0 h m _) (Nat.le_of_ble_eq_true rfl) ?_
      refine mm_eqh (ku_th h m _ (km_svT M n' a')).symm ?_
      refine mm_aload_n dM_sever_103 rfl rfl ?_
      refine mm_getf dM_sever_104 fM_56 (km_0 h m _) rfl ?_
      refine mm_if_eq_n (tgt := 112) dM_sever_107 (by decide) (Nat.lt_of_le_of_lt (km_svT_le M n' a') (by decide)) (fun q107 => ?_) (fun q107 => ?_)
      · have q107 : km_svT M n' a' = 0 := q107
        obtain ⟨z1, z2, z3⟩ := km_svT_0 q107
        have g6 : km_new M 2 < 6 := by
          rcases Nat.lt_or_eq_of_le gd with g | g
          · exact g
          · have : km_fu M 2 = true := decide_eq_true g
            rw [z2] at this; cases this
        have hM : s_th (s_th M 0) (km_svT M n' a') = s_th M 0 := by rw [q107]; rfl
        rw [hM]
        refine mm_aload_n dM_sever_112 rfl rfl ?_
        refine mm_v0 dM_sever_113 lM_83 (km_0 h m _) (by decide) (Nat.le_of_ble_eq_true rfl) (kM_keep (M := s_th M 0) (fun _ => km_late_mv z3 hm)) ?_
        refine mm_aload_n dM_sever_116 rfl rfl ?_
        
        refine mm_v0 dM_sever_117 lM_86 (km_0 h m _) (by decide) (Nat.le_of_ble_eq_true rfl) (kM_freeLine (M := km_keep (s_th M 0)) (by rw [km_keep_S]; exact o.1)) ?_
        refine mm_top (v' := .int (nI (km_new M 2))) (by rw [km_keep_S]; rfl) ?_
        refine mm_istore dM_sever_120 (by decide) rfl ?_
        refine mm_aload_n dM_sever_122 rfl rfl ?_
        refine mm_getf dM_sever_123 fM_7 (km_0 h m _) rfl ?_
        refine mm_bipush (v := nI 13) dM_sever_126 (by decide) ?_
        refine mm_iload dM_sever_128 rfl ?_
        refine mm_iadd dM_sever_130 ?_
        refine mm_iload_n dM_sever_131 rfl rfl ?_
        refine mm_iastore dM_sever_132 (km_sh h m _) (nI_add 13 _) (by omega) (by decide) ?_
        refine mm_eqh (kv_sh h m _ _ (some a')).symm ?_
        refine mm_iconst (v := nI 0) dM_sever_133 (by decide) ?_
        refine mm_istore dM_sever_134 (by decide) rfl ?_
        have eS : km_S (km_keep (s_th M 0)) = km_S M := km_keep_S _
        have en : km_new (km_keep (s_th M 0)) 2 = km_new M 2 := by unfold km_new; rw [eS]
        refine outl _ n' (km_new M 2) a' _ _ hn g6 ha (km_fin ((if_pos hb).trans (by rw [cn, ca]; exact km_severN_t q107 rfl))) 12 0 _ _ (km_st (km_keep (s_th M 0)) (13 + km_new M 2) (some a')) rfl (by rw [← en]; rfl) ?_
        rw [km_st_S, kz_ul _ g6]
        exact kt_ok_line (S := km_S (km_keep (s_th M 0))) (by rw [eS]; exact o) (fun z hz => by cases hz; rw [eS]; exact ka)
      · have q107 : ¬ km_svT M n' a' = 0 := q107
        refine mm_iconst (v := nI 0) dM_sever_110 (by decide) ?_
        refine mm_ireturn dM_sever_111 rfl ?_
        exact km_fin ((if_pos hb).trans (by rw [cn, ca]; exact if_neg q107))
    refine mm_iconst (v := nI 0) dM_sever_21 (by decide) ?_
    refine mm_putf dM_sever_22 fM_56 rfl rfl rfl rfl (km_0 h m _) (Nat.le_of_ble_eq_true rfl) ?_
    refine mm_eqh (ku_th h m _ 0).symm ?_
    refine mm_aload_n dM_sever_25 rfl rfl ?_
    refine mm_getf dM_sever_26 fM_56 (km_0 h m _) rfl ?_
    refine mm_if_eq_T (tgt := 34) dM_sever_29 (by decide) rfl ?_
    refine mm_aload_n dM_sever_34 rfl rfl ?_
    refine mm_getf dM_sever_35 fM_64 (km_0 h m _) rfl ?_
    refine mm_if_eq_b (tgt := 72) dM_sever_38 (by decide) (fun q38 => ?_) (fun q38 => ?_)
    · refine mm_iconst (v := nI 0) dM_sever_72 (by decide) ?_
      refine mm_istore_n dM_sever_73 rfl (by decide) rfl ?_
      refine mm_aload_n dM_sever_74 rfl rfl ?_
      refine mm_iload_n dM_sever_75 rfl rfl ?_
      refine mm_if_ne_F (tgt := 83) dM_sever_76 (by decide) rfl ?_
      refine mm_iconst (v := nI 2) dM_sever_79 (by decide) ?_
      refine mm_goto (tgt := 100) dM_sever_80 (by decide) ?_
      refine mm_top (v' := .int (nI (km_svT M n' a'))) (by rw [show km_svT M n' a' = 2 from if_neg (fun w => by have q38 : m_st M = false := q38; rw [q38] at w; cases w.1)]; first | done | rfl) ?_
      exact tail _
    · refine mm_aload_n dM_sever_41 rfl rfl ?_
      refine mm_iload_n dM_sever_42 rfl rfl ?_
      refine mm_v1 dM_sever_43 lM_71 (km_0 h m _) rfl (by decide) (Nat.le_of_ble_eq_true rfl) (kM_depthOf (M := s_th M 0) o.1 ka) ?_
      refine mm_top (v' := .int (nI (km_dp (km_S M) a'))) rfl ?_
      refine mm_iconst (v := nI 2) dM_sever_46 (by decide) ?_
      refine mm_irem dM_sever_47 (by decide) ?_
      refine mm_top (v' := .int (nI (km_dp (km_S M) a' % 2))) (congrArg Value.int (pk_rem (by omega) (by decide) (by decide))) ?_
      refine mm_if_ne_n (tgt := 72) dM_sever_48 (by decide) (by omega) (fun q48 => ?_) (fun q48 => ?_)
      · refine mm_iconst (v := nI 0) dM_sever_72 (by decide) ?_
        refine mm_istore_n dM_sever_73 rfl (by decide) rfl ?_
        refine mm_aload_n dM_sever_74 rfl rfl ?_
        refine mm_iload_n dM_sever_75 rfl rfl ?_
        refine mm_if_ne_F (tgt := 83) dM_sever_76 (by decide) rfl ?_
        refine mm_iconst (v := nI 2) dM_sever_79 (by decide) ?_
        refine mm_goto (tgt := 100) dM_sever_80 (by decide) ?_
        refine mm_top (v' := .int (nI (km_svT M n' a'))) (by rw [show km_svT M n' a' = 2 from if_neg (fun w => q48 w.2.1)]; first | done | rfl) ?_
        exact tail _
      · refine mm_aload_n dM_sever_51 rfl rfl ?_
        refine mm_iload_n dM_sever_52 rfl rfl ?_
        refine mm_aload_n dM_sever_53 rfl rfl ?_
        refine mm_getf dM_sever_54 fM_7 (km_0 h m _) rfl ?_
        refine mm_bipush (v := nI 13) dM_sever_57 (by decide) ?_
        refine mm_iload_n dM_sever_59 rfl rfl ?_
        refine mm_iadd dM_sever_60 ?_
        refine mm_iaload dM_sever_61 (km_sh h m _) (nI_add 13 n') (by omega) (by decide) ?_
        refine mm_top (v' := .int (nI x)) (congrArg Value.int (show mm_enc (m_sh M (13 + n')) = nI x by rw [hx2]; rfl)) ?_
        refine mm_v2 dM_sever_62 lM_92 (km_0 h m _) rfl rfl (by decide) (Nat.le_of_ble_eq_true rfl) (kM_isWithin (M := s_th M 0) o.1 ka (by omega)) ?_
        refine mm_if_eq_b (tgt := 72) dM_sever_65 (by decide) (fun q65 => ?_) (fun q65 => ?_)
        · refine mm_iconst (v := nI 0) dM_sever_72 (by decide) ?_
          refine mm_istore_n dM_sever_73 rfl (by decide) rfl ?_
          refine mm_aload_n dM_sever_74 rfl rfl ?_
          refine mm_iload_n dM_sever_75 rfl rfl ?_
          refine mm_if_ne_F (tgt := 83) dM_sever_76 (by decide) rfl ?_
          refine mm_iconst (v := nI 2) dM_sever_79 (by decide) ?_
          refine mm_goto (tgt := 100) dM_sever_80 (by decide) ?_
          refine mm_top (v' := .int (nI (km_svT M n' a'))) (by rw [show km_svT M n' a' = 2 from if_neg (fun w => by have w := w.2.2; rw [hx] at w; have q65 : ks_in (km_S M) (some a') (some x) = false := q65; rw [q65] at w; cases w)]; first | done | rfl) ?_
          exact tail _
        · refine mm_iconst (v := nI 1) dM_sever_68 (by decide) ?_
          refine mm_goto (tgt := 73) dM_sever_69 (by decide) ?_
          refine mm_istore_n dM_sever_73 rfl (by decide) rfl ?_
          refine mm_aload_n dM_sever_74 rfl rfl ?_
          refine mm_iload_n dM_sever_75 rfl rfl ?_
          refine mm_if_ne_T (tgt := 83) dM_sever_76 (by decide) (show ¬ nI 1 = 0 by decide) ?_
          refine mm_aload_n dM_sever_83 rfl rfl ?_
          refine mm_v0 dM_sever_84 lM_86 (km_0 h m _) (by decide) (Nat.le_of_ble_eq_true rfl) (kM_freeLine (M := s_th M 0) o.1) ?_
          refine mm_bipush (v := nI 6) dM_sever_87 (by decide) ?_
          refine mm_icmp_ne_n (tgt := 96) dM_sever_89 (by decide) (by have : km_new M 2 ≤ 6 := gd; exact Nat.lt_of_le_of_lt this (by decide)) (by decide) (fun q89 => ?_) (fun q89 => ?_)
          · refine mm_aload_n dM_sever_96 rfl rfl ?_
            refine mm_v0 dM_sever_97 lM_125 (km_0 h m _) (by decide) (Nat.le_of_ble_eq_true rfl) (kM_lateN (M := s_th M 0) hm) ?_
            refine mm_top (v' := .int (nI (km_svT M n' a'))) (by rw [show km_svT M n' a' = km_late M from (if_pos ⟨q38, q48, by rw [hx]; exact q65⟩).trans (if_neg (fun w => q89 (of_decide_eq_true w)))]; first | done | rfl) ?_
            exact tail _
          · refine mm_iconst (v := nI 3) dM_sever_92 (by decide) ?_
            refine mm_goto (tgt := 100) dM_sever_93 (by decide) ?_
            refine mm_top (v' := .int (nI (km_svT M n' a'))) (by rw [show km_svT M n' a' = 3 from (if_pos ⟨q38, q48, by rw [hx]; exact q65⟩).trans (if_pos (decide_eq_true q89))]; first | done | rfl) ?_
            exact tail _
  show mm_W Γ l mM_sever (d + 1 + 1) _ 0 [some (.ref m), some (.int n), some (.int a), none, none, none, none, none] [] _
  refine mm_aload_n dM_sever_0 rfl rfl ?_
  refine mm_aload_n dM_sever_1 rfl rfl ?_
  refine mm_iload_n dM_sever_2 rfl rfl ?_
  refine mm_v1 dM_sever_3 lM_89 (km_0 h m _) rfl (by decide) (Nat.le_of_ble_eq_true rfl) (kM_isLine o.1 n) ?_
  refine mm_if_eq_b (tgt := 17) dM_sever_6 (by decide) (fun q6 => ?_) (fun q6 => ?_)
  · exact bad (by rw [q6]; rfl)
  · refine mm_aload_n dM_sever_9 rfl rfl ?_
    refine mm_iload_n dM_sever_10 rfl rfl ?_
    refine mm_v1 dM_sever_11 lM_60 (km_0 h m _) rfl (by decide) (Nat.le_of_ble_eq_true rfl) (kM_isArea o.1 a) ?_
    refine mm_if_ne_b (tgt := 21) dM_sever_14 (by decide) (fun q14 => ?_) (fun q14 => ?_)
    · obtain ⟨n', x, hn, en, hx⟩ := ks_hasI_k (k := 2) (by decide) q6
      obtain ⟨a', ha, ea, ka⟩ := km_har o q14
      exact good n' a' x en ea hn ha hx ka (by rw [q6, q14]; rfl)
    · exact bad (by rw [q6, q14]; rfl)
theorem kM_isRoomFor (o : kt_ok (km_S M)) {c : Nat} (hc : c < 13) : mm_Ev Γ l (d + 1 + 1) mM_isRoomFor [.ref m, .int (nI c)] (km_set h m M) (mm_is (.inl (some (.int (mm_bI (km_room M c))))) (km_set h m M)) := by
  have b1 := km_amt_le (m_sh M) 12 1
  have b2 := km_amt_le (m_sh M) 6 13
  have b3 := km_amt_le (m_sh M) 12 19
  have fin : ∀ (x y z : Nat), x < 1000 → y < 1000 → z < 1000 → ∀ x5 : Option Value, mm_W Γ l mM_isRoomFor (d + 1 + 1) (mm_is (.inl (some (.int (mm_bI (decide (x ≤ 12) && (decide (y ≤ 6) && decide (z ≤ 12))))))) (km_set h m M)) 183 [some (.ref m), some (.int (nI c)), some (.int (nI 12 - nI x)), some (.int (nI 6 - nI y)), some (.int (nI 12 - nI z)), x5] [] (km_set h m M) := by
    intro x y z hx hy hz x5
    refine mm_iload_n dM_isRoomFor_183 rfl rfl ?_
    refine mm_if_lt (tgt := 200) dM_isRoomFor_184 (by decide) (fun q184 => ?_) (fun q184 => ?_)
    · refine mm_iconst (v := nI 0) dM_isRoomFor_200 (by decide) ?_
      refine mm_zreturn dM_isRoomFor_201 rfl rfl ?_
      exact mm_f0 (by rw [decide_eq_false (p := x ≤ 12) (fun w => by rw [nI_sub_lt (by omega) (by omega)] at q184; omega)]; rfl)
    · refine mm_iload_n dM_isRoomFor_187 rfl rfl ?_
      refine mm_if_lt (tgt := 200) dM_isRoomFor_188 (by decide) (fun q188 => ?_) (fun q188 => ?_)
      · refine mm_iconst (v := nI 0) dM_isRoomFor_200 (by decide) ?_
        refine mm_zreturn dM_isRoomFor_201 rfl rfl ?_
        exact mm_f0 (by rw [decide_eq_false (p := y ≤ 6) (fun w => by rw [nI_sub_lt (by omega) (by omega)] at q188; omega), Bool.false_and, Bool.and_false])
      · refine mm_iload dM_isRoomFor_191 rfl ?_
        refine mm_if_lt (tgt := 200) dM_isRoomFor_193 (by decide) (fun q193 => ?_) (fun q193 => ?_)
        · refine mm_iconst (v := nI 0) dM_isRoomFor_200 (by decide) ?_
          refine mm_zreturn dM_isRoomFor_201 rfl rfl ?_
          exact mm_f0 (by rw [decide_eq_false (p := z ≤ 12) (fun w => by rw [nI_sub_lt (by omega) (by omega)] at q193; omega), Bool.and_false, Bool.and_false])
        · refine mm_iconst (v := nI 1) dM_isRoomFor_196 (by decide) ?_
          refine mm_goto (tgt := 201) dM_isRoomFor_197 (by decide) ?_
          refine mm_zreturn dM_isRoomFor_201 rfl rfl ?_
          exact mm_f1 (by rw [nI_sub_lt (by omega) (by omega)] at q184 q188 q193; rw [decide_eq_true (p := x ≤ 12) (by omega), decide_eq_true (p := y ≤ 6) (by omega), decide_eq_true (p := z ≤ 12) (by omega)]; rfl)
  have l3 : ∀ (x : Nat), x < 1000 → ∀ (j i y z : Nat), i + j = 12 → y + 6 + j < 900 → z + 12 + j < 900 → mm_W Γ l mM_isRoomFor (d + 1 + 1) (mm_is (.inl (some (.int (mm_bI (decide (x ≤ 12) && (decide (y ≤ 6) && decide ((z + km_rmX (km_S M) (km_S M).1 c i j) ≤ 12))))))) (km_set h m M)) 133 [some (.ref m), some (.int (nI c)), some (.int (nI 12 - nI x)), some (.int (nI 6 - nI y)), some (.int (nI 12 - nI z)), some (.int (nI i))] [] (km_set h m M) := by
    intro x hx j
    induction j with
    | zero =>
      intro i y z hi hy hz
      refine mm_iload dM_isRoomFor_133 rfl ?_
      refine mm_bipush (v := nI 12) dM_isRoomFor_135 (by decide) ?_
      refine mm_icmp_ge_T (tgt := 183) dM_isRoomFor_137 (by decide) (nI_le (by omega) (by omega)) ?_
      exact fin x y z hx (by omega) (by omega) _
    | succ j ih =>
      intro i y z hi hy hz
      have hz0 : ∀ b, b ≤ 1 → (if ks_in (km_S M) ((km_S M).1 i) (some c) = true then 1 else 0) = b → mm_W Γ l mM_isRoomFor (d + 1 + 1) (mm_is (.inl (some (.int (mm_bI (decide (x ≤ 12) && (decide (y ≤ 6) && decide ((z + km_rmX (km_S M) (km_S M).1 c i (j + 1)) ≤ 12))))))) (km_set h m M)) 133 [some (.ref m), some (.int (nI c)), some (.int (nI 12 - nI x)), some (.int (nI 6 - nI y)), some (.int (nI 12 - nI (z + b))), some (.int (nI (i + 1)))] [] (km_set h m M) := by
        intro b hb1 hb
        have hh := ih (i + 1) y (z + b) (by omega) (by omega) (by omega)
        rw [show z + km_rmX (km_S M) (km_S M).1 c i (j + 1) = z + b + km_rmX (km_S M) (km_S M).1 c (i + 1) j by rw [show km_rmX (km_S M) (km_S M).1 c i (j + 1) = b + km_rmX (km_S M) (km_S M).1 c (i + 1) j from congrArg (· + _) hb]; omega]
        exact hh
      refine mm_iload dM_isRoomFor_133 rfl ?_
      refine mm_bipush (v := nI 12) dM_isRoomFor_135 (by decide) ?_
      refine mm_icmp_ge_F (tgt := 183) dM_isRoomFor_137 (by decide) (nI_ge (by omega) (by omega)) ?_
      refine mm_iload dM_isRoomFor_140 rfl ?_
      refine mm_aload_n dM_isRoomFor_142 rfl rfl ?_
      refine mm_iload dM_isRoomFor_143 rfl ?_
      refine mm_v1 dM_isRoomFor_145 lM_105 (km_0 h m _) rfl (by decide) (Nat.le_of_ble_eq_true rfl) (kM_isSpot o.1 (nI i)) ?_
      refine mm_if_eq_b (tgt := 173) dM_isRoomFor_148 (by decide) (fun q148 => ?_) (fun q148 => ?_)
      · refine mm_iconst (v := nI 0) dM_isRoomFor_173 (by decide) ?_
        refine mm_isub dM_isRoomFor_174 ?_
        refine mm_top (v' := .int (nI 12 - nI (z + 0))) (congrArg Value.int (nI_sub2 12 z 0)) ?_
        refine mm_istore dM_isRoomFor_175 (by decide) rfl ?_
        refine mm_iinc dM_isRoomFor_177 (by decide) rfl (mm_inc _) rfl ?_
        refine mm_goto (tgt := 133) dM_isRoomFor_180 (by decide) ?_
        exact hz0 0 (by decide) (if_neg (by rw [show (km_S M).1 i = none from km_no_row (k := 0) (by decide) (by show i < 12; omega) q148]; exact Bool.false_ne_true))
      · obtain ⟨i2, w, hi2, e2, hw⟩ := ks_hasI_k (k := 0) (by decide) q148
        have e2 := (nI_eq (by omega) (by have := ks_len_le 0; omega)).mp e2
        subst e2
        have hw : (km_S M).1 i = some w := hw
        have hw2 : m_sh M (19 + i) = some w := (kz_s _ hi2).symm.trans hw
        have hk := o.2.1 0 i w (by decide) hi2 hw
        refine mm_aload_n dM_isRoomFor_151 rfl rfl ?_
        refine mm_aload_n dM_isRoomFor_152 rfl rfl ?_
        refine mm_getf dM_isRoomFor_153 fM_7 (km_0 h m _) rfl ?_
        refine mm_bipush (v := nI 19) dM_isRoomFor_156 (by decide) ?_
        refine mm_iload dM_isRoomFor_158 rfl ?_
        refine mm_iadd dM_isRoomFor_160 ?_
        refine mm_iaload dM_isRoomFor_161 (km_sh h m _) (nI_add 19 i) (by omega) (by decide) ?_
        refine mm_top (v' := .int (nI w)) (congrArg Value.int (show mm_enc (m_sh M (19 + i)) = nI w by rw [hw2]; rfl)) ?_
        refine mm_iload_n dM_isRoomFor_162 rfl rfl ?_
        refine mm_v2 dM_isRoomFor_163 lM_92 (km_0 h m _) rfl rfl (by decide) (Nat.le_of_ble_eq_true rfl) (kM_isWithin o.1 hk (by omega)) ?_
        refine mm_if_eq_b (tgt := 173) dM_isRoomFor_166 (by decide) (fun q166 => ?_) (fun q166 => ?_)
        · refine mm_iconst (v := nI 0) dM_isRoomFor_173 (by decide) ?_
          refine mm_isub dM_isRoomFor_174 ?_
          refine mm_top (v' := .int (nI 12 - nI (z + 0))) (congrArg Value.int (nI_sub2 12 z 0)) ?_
          refine mm_istore dM_isRoomFor_175 (by decide) rfl ?_
          refine mm_iinc dM_isRoomFor_177 (by decide) rfl (mm_inc _) rfl ?_
          refine mm_goto (tgt := 133) dM_isRoomFor_180 (by decide) ?_
          exact hz0 0 (by decide) (if_neg (by rw [hw, q166]; decide))
        · refine mm_iconst (v := nI 1) dM_isRoomFor_169 (by decide) ?_
          refine mm_goto (tgt := 174) dM_isRoomFor_170 (by decide) ?_
          refine mm_isub dM_isRoomFor_174 ?_
          refine mm_top (v' := .int (nI 12 - nI (z + 1))) (congrArg Value.int (nI_sub2 12 z 1)) ?_
          refine mm_istore dM_isRoomFor_175 (by decide) rfl ?_
          refine mm_iinc dM_isRoomFor_177 (by decide) rfl (mm_inc _) rfl ?_
          refine mm_goto (tgt := 133) dM_isRoomFor_180 (by decide) ?_
          exact hz0 1 (by decide) (if_pos (by rw [hw]; exact q166))
  have l2 : ∀ (x : Nat), x < 1000 → ∀ (j i y z : Nat), i + j = 6 → y + 6 + j < 800 → z + 12 + j < 800 → mm_W Γ l mM_isRoomFor (d + 1 + 1) (mm_is (.inl (some (.int (mm_bI (decide (x ≤ 12) && (decide ((y + km_rmX (km_S M) (km_S M).2.2.1 c i j) ≤ 6) && decide ((z + km_rmX (km_S M) (km_S M).1 c 0 12) ≤ 12))))))) (km_set h m M)) 82 [some (.ref m), some (.int (nI c)), some (.int (nI 12 - nI x)), some (.int (nI 6 - nI y)), some (.int (nI 12 - nI z)), some (.int (nI i))] [] (km_set h m M) := by
    intro x hx j
    induction j with
    | zero =>
      intro i y z hi hy hz
      refine mm_iload dM_isRoomFor_82 rfl ?_
      refine mm_bipush (v := nI 6) dM_isRoomFor_84 (by decide) ?_
      refine mm_icmp_ge_T (tgt := 130) dM_isRoomFor_86 (by decide) (nI_le (by omega) (by omega)) ?_
      refine mm_iconst (v := nI 0) dM_isRoomFor_130 (by decide) ?_
      refine mm_istore dM_isRoomFor_131 (by decide) rfl ?_
      exact l3 x hx 12 0 y z rfl (by omega) (by omega)
    | succ j ih =>
      intro i y z hi hy hz
      have hz0 : ∀ b, b ≤ 1 → (if ks_in (km_S M) ((km_S M).2.2.1 i) (some c) = true then 1 else 0) = b → mm_W Γ l mM_isRoomFor (d + 1 + 1) (mm_is (.inl (some (.int (mm_bI (decide (x ≤ 12) && (decide ((y + km_rmX (km_S M) (km_S M).2.2.1 c i (j + 1)) ≤ 6) && decide ((z + km_rmX (km_S M) (km_S M).1 c 0 12) ≤ 12))))))) (km_set h m M)) 82 [some (.ref m), some (.int (nI c)), some (.int (nI 12 - nI x)), some (.int (nI 6 - nI (y + b))), some (.int (nI 12 - nI z)), some (.int (nI (i + 1)))] [] (km_set h m M) := by
        intro b hb1 hb
        have hh := ih (i + 1) (y + b) z (by omega) (by omega) (by omega)
        rw [show y + km_rmX (km_S M) (km_S M).2.2.1 c i (j + 1) = y + b + km_rmX (km_S M) (km_S M).2.2.1 c (i + 1) j by rw [show km_rmX (km_S M) (km_S M).2.2.1 c i (j + 1) = b + km_rmX (km_S M) (km_S M).2.2.1 c (i + 1) j from congrArg (· + _) hb]; omega]
        exact hh
      refine mm_iload dM_isRoomFor_82 rfl ?_
      refine mm_bipush (v := nI 6) dM_isRoomFor_84 (by decide) ?_
      refine mm_icmp_ge_F (tgt := 130) dM_isRoomFor_86 (by decide) (nI_ge (by omega) (by omega)) ?_
      refine mm_iload_n dM_isRoomFor_89 rfl rfl ?_
      refine mm_aload_n dM_isRoomFor_90 rfl rfl ?_
      refine mm_iload dM_isRoomFor_91 rfl ?_
      refine mm_v1 dM_isRoomFor_93 lM_89 (km_0 h m _) rfl (by decide) (Nat.le_of_ble_eq_true rfl) (kM_isLine o.1 (nI i)) ?_
      refine mm_if_eq_b (tgt := 121) dM_isRoomFor_96 (by decide) (fun q96 => ?_) (fun q96 => ?_)
      · refine mm_iconst (v := nI 0) dM_isRoomFor_121 (by decide) ?_
        refine mm_isub dM_isRoomFor_122 ?_
        refine mm_top (v' := .int (nI 6 - nI (y + 0))) (congrArg Value.int (nI_sub2 6 y 0)) ?_
        refine mm_istore_n dM_isRoomFor_123 rfl (by decide) rfl ?_
        refine mm_iinc dM_isRoomFor_124 (by decide) rfl (mm_inc _) rfl ?_
        refine mm_goto (tgt := 82) dM_isRoomFor_127 (by decide) ?_
        exact hz0 0 (by decide) (if_neg (by rw [show (km_S M).2.2.1 i = none from km_no_row (k := 2) (by decide) (by show i < 6; omega) q96]; exact Bool.false_ne_true))
      · obtain ⟨i2, w, hi2, e2, hw⟩ := ks_hasI_k (k := 2) (by decide) q96
        have e2 := (nI_eq (by omega) (by have := ks_len_le 2; omega)).mp e2
        subst e2
        have hw : (km_S M).2.2.1 i = some w := hw
        have hw2 : m_sh M (13 + i) = some w := (kz_l _ hi2).symm.trans hw
        have hk := o.2.1 2 i w (by decide) hi2 hw
        refine mm_aload_n dM_isRoomFor_99 rfl rfl ?_
        refine mm_aload_n dM_isRoomFor_100 rfl rfl ?_
        refine mm_getf dM_isRoomFor_101 fM_7 (km_0 h m _) rfl ?_
        refine mm_bipush (v := nI 13) dM_isRoomFor_104 (by decide) ?_
        refine mm_iload dM_isRoomFor_106 rfl ?_
        refine mm_iadd dM_isRoomFor_108 ?_
        refine mm_iaload dM_isRoomFor_109 (km_sh h m _) (nI_add 13 i) (by omega) (by decide) ?_
        refine mm_top (v' := .int (nI w)) (congrArg Value.int (show mm_enc (m_sh M (13 + i)) = nI w by rw [hw2]; rfl)) ?_
        refine mm_iload_n dM_isRoomFor_110 rfl rfl ?_
        refine mm_v2 dM_isRoomFor_111 lM_92 (km_0 h m _) rfl rfl (by decide) (Nat.le_of_ble_eq_true rfl) (kM_isWithin o.1 hk (by omega)) ?_
        refine mm_if_eq_b (tgt := 121) dM_isRoomFor_114 (by decide) (fun q114 => ?_) (fun q114 => ?_)
        · refine mm_iconst (v := nI 0) dM_isRoomFor_121 (by decide) ?_
          refine mm_isub dM_isRoomFor_122 ?_
          refine mm_top (v' := .int (nI 6 - nI (y + 0))) (congrArg Value.int (nI_sub2 6 y 0)) ?_
          refine mm_istore_n dM_isRoomFor_123 rfl (by decide) rfl ?_
          refine mm_iinc dM_isRoomFor_124 (by decide) rfl (mm_inc _) rfl ?_
          refine mm_goto (tgt := 82) dM_isRoomFor_127 (by decide) ?_
          exact hz0 0 (by decide) (if_neg (by rw [hw, q114]; decide))
        · refine mm_iconst (v := nI 1) dM_isRoomFor_117 (by decide) ?_
          refine mm_goto (tgt := 122) dM_isRoomFor_118 (by decide) ?_
          refine mm_isub dM_isRoomFor_122 ?_
          refine mm_top (v' := .int (nI 6 - nI (y + 1))) (congrArg Value.int (nI_sub2 6 y 1)) ?_
          refine mm_istore_n dM_isRoomFor_123 rfl (by decide) rfl ?_
          refine mm_iinc dM_isRoomFor_124 (by decide) rfl (mm_inc _) rfl ?_
          refine mm_goto (tgt := 82) dM_isRoomFor_127 (by decide) ?_
          exact hz0 1 (by decide) (if_pos (by rw [hw]; exact q114))
  have l1 : ∀ (j i x y z : Nat), i + j = 13 → x + j < 900 → y < 100 → z < 100 → mm_W Γ l mM_isRoomFor (d + 1 + 1) (mm_is (.inl (some (.int (mm_bI (decide (x + km_rmC (km_S M) c i j ≤ 12) && (decide (y + km_rmX (km_S M) (km_S M).2.2.1 c 0 6 ≤ 6) && decide (z + km_rmX (km_S M) (km_S M).1 c 0 12 ≤ 12))))))) (km_set h m M)) 39 [some (.ref m), some (.int (nI c)), some (.int (nI 12 - nI x)), some (.int (nI 6 - nI y)), some (.int (nI 12 - nI z)), some (.int (nI i))] [] (km_set h m M) := by
    intro j
    induction j with
    | zero =>
      intro i x y z hi hx hy hz
      refine mm_iload dM_isRoomFor_39 rfl ?_
      refine mm_bipush (v := nI 13) dM_isRoomFor_41 (by decide) ?_
      refine mm_icmp_ge_T (tgt := 79) dM_isRoomFor_43 (by decide) (nI_le (by omega) (by omega)) ?_
      refine mm_iconst (v := nI 0) dM_isRoomFor_79 (by decide) ?_
      refine mm_istore dM_isRoomFor_80 (by decide) rfl ?_
      exact l2 x (by omega) 6 0 y z rfl (by omega) (by omega)
    | succ j ih =>
      intro i x y z hi hx hy hz
      have hz0 : ∀ b, b ≤ 1 → (if (ks_has (km_S M) 1 i && ks_in (km_S M) (some i) (some c)) = true then 1 else 0) = b → mm_W Γ l mM_isRoomFor (d + 1 + 1) (mm_is (.inl (some (.int (mm_bI (decide (x + km_rmC (km_S M) c i (j + 1) ≤ 12) && (decide (y + km_rmX (km_S M) (km_S M).2.2.1 c 0 6 ≤ 6) && decide (z + km_rmX (km_S M) (km_S M).1 c 0 12 ≤ 12))))))) (km_set h m M)) 39 [some (.ref m), some (.int (nI c)), some (.int (nI 12 - nI (x + b))), some (.int (nI 6 - nI y)), some (.int (nI 12 - nI z)), some (.int (nI (i + 1)))] [] (km_set h m M) := by
        intro b hb1 hb
        have hh := ih (i + 1) (x + b) y z (by omega) (by omega) hy hz
        rw [show x + km_rmC (km_S M) c i (j + 1) = x + b + km_rmC (km_S M) c (i + 1) j by rw [show km_rmC (km_S M) c i (j + 1) = b + km_rmC (km_S M) c (i + 1) j from congrArg (· + _) hb]; omega]
        exact hh
      refine mm_iload dM_isRoomFor_39 rfl ?_
      refine mm_bipush (v := nI 13) dM_isRoomFor_41 (by decide) ?_
      refine mm_icmp_ge_F (tgt := 79) dM_isRoomFor_43 (by decide) (nI_ge (by omega) (by omega)) ?_
      refine mm_iload_n dM_isRoomFor_46 rfl rfl ?_
      refine mm_aload_n dM_isRoomFor_47 rfl rfl ?_
      refine mm_iload dM_isRoomFor_48 rfl ?_
      refine mm_v1 dM_isRoomFor_50 lM_112 (km_0 h m _) rfl (by decide) (Nat.le_of_ble_eq_true rfl) (kM_isCut o.1 (nI i)) ?_
      refine mm_if_eq_b (tgt := 70) dM_isRoomFor_53 (by decide) (fun q53 => ?_) (fun q53 => ?_)
      · have q53 : ks_has (km_S M) 1 i = false := (ks_hasI_n (by decide) (by omega)).symm.trans q53
        refine mm_iconst (v := nI 0) dM_isRoomFor_70 (by decide) ?_
        refine mm_isub dM_isRoomFor_71 ?_
        refine mm_top (v' := .int (nI 12 - nI (x + 0))) (congrArg Value.int (nI_sub2 12 x 0)) ?_
        refine mm_istore_n dM_isRoomFor_72 rfl (by decide) rfl ?_
        refine mm_iinc dM_isRoomFor_73 (by decide) rfl (mm_inc _) rfl ?_
        refine mm_goto (tgt := 39) dM_isRoomFor_76 (by decide) ?_
        exact hz0 0 (by decide) (if_neg (by rw [q53]; exact Bool.false_ne_true))
      · have q53 : ks_has (km_S M) 1 i = true := (ks_hasI_n (by decide) (by omega)).symm.trans q53
        have hk := o.2.2 i (by omega) (Or.inr (fun w => by obtain ⟨-, -, x, hx⟩ := ks_has_iff.mp q53; have hx : (km_S M).2.1 i = some x := hx; rw [w] at hx; cases hx))
        refine mm_aload_n dM_isRoomFor_56 rfl rfl ?_
        refine mm_iload dM_isRoomFor_57 rfl ?_
        refine mm_iload_n dM_isRoomFor_59 rfl rfl ?_
        refine mm_v2 dM_isRoomFor_60 lM_92 (km_0 h m _) rfl rfl (by decide) (Nat.le_of_ble_eq_true rfl) (kM_isWithin o.1 hk (by omega)) ?_
        refine mm_if_eq_b (tgt := 70) dM_isRoomFor_63 (by decide) (fun q63 => ?_) (fun q63 => ?_)
        · refine mm_iconst (v := nI 0) dM_isRoomFor_70 (by decide) ?_
          refine mm_isub dM_isRoomFor_71 ?_
          refine mm_top (v' := .int (nI 12 - nI (x + 0))) (congrArg Value.int (nI_sub2 12 x 0)) ?_
          refine mm_istore_n dM_isRoomFor_72 rfl (by decide) rfl ?_
          refine mm_iinc dM_isRoomFor_73 (by decide) rfl (mm_inc _) rfl ?_
          refine mm_goto (tgt := 39) dM_isRoomFor_76 (by decide) ?_
          exact hz0 0 (by decide) (if_neg (by rw [q53, q63]; decide))
        · refine mm_iconst (v := nI 1) dM_isRoomFor_66 (by decide) ?_
          refine mm_goto (tgt := 71) dM_isRoomFor_67 (by decide) ?_
          refine mm_isub dM_isRoomFor_71 ?_
          refine mm_top (v' := .int (nI 12 - nI (x + 1))) (congrArg Value.int (nI_sub2 12 x 1)) ?_
          refine mm_istore_n dM_isRoomFor_72 rfl (by decide) rfl ?_
          refine mm_iinc dM_isRoomFor_73 (by decide) rfl (mm_inc _) rfl ?_
          refine mm_goto (tgt := 39) dM_isRoomFor_76 (by decide) ?_
          exact hz0 1 (by decide) (if_pos (by rw [q53, q63]; rfl))
  show mm_W Γ l mM_isRoomFor (d + 1 + 1) _ 0 [some (.ref m), some (.int (nI c)), none, none, none, none] [] _
  refine mm_bipush (v := nI 12) dM_isRoomFor_0 (by decide) ?_
  refine mm_aload_n dM_isRoomFor_2 rfl rfl ?_
  refine mm_iconst (v := nI 1) dM_isRoomFor_3 (by decide) ?_
  refine mm_bipush (v := nI 13) dM_isRoomFor_4 (by decide) ?_
  refine mm_v2 dM_isRoomFor_6 lM_142 (km_0 h m _) rfl rfl (by decide) (Nat.le_of_ble_eq_true rfl) (kM_amount (i := 1) (j := 12) (by decide) (fun k g1 g2 => km_sm31 o.1 (by omega))) ?_
  refine mm_isub dM_isRoomFor_9 ?_
  refine mm_istore_n dM_isRoomFor_10 rfl (by decide) rfl ?_
  refine mm_bipush (v := nI 6) dM_isRoomFor_11 (by decide) ?_
  refine mm_aload_n dM_isRoomFor_13 rfl rfl ?_
  refine mm_bipush (v := nI 13) dM_isRoomFor_14 (by decide) ?_
  refine mm_bipush (v := nI 19) dM_isRoomFor_16 (by decide) ?_
  refine mm_v2 dM_isRoomFor_18 lM_142 (km_0 h m _) rfl rfl (by decide) (Nat.le_of_ble_eq_true rfl) (kM_amount (i := 13) (j := 6) (by decide) (fun k g1 g2 => km_sm31 o.1 (by omega))) ?_
  refine mm_isub dM_isRoomFor_21 ?_
  refine mm_istore_n dM_isRoomFor_22 rfl (by decide) rfl ?_
  refine mm_bipush (v := nI 12) dM_isRoomFor_23 (by decide) ?_
  refine mm_aload_n dM_isRoomFor_25 rfl rfl ?_
  refine mm_bipush (v := nI 19) dM_isRoomFor_26 (by decide) ?_
  refine mm_bipush (v := nI 31) dM_isRoomFor_28 (by decide) ?_
  refine mm_v2 dM_isRoomFor_30 lM_142 (km_0 h m _) rfl rfl (by decide) (Nat.le_of_ble_eq_true rfl) (kM_amount (i := 19) (j := 12) (by decide) (fun k g1 g2 => km_sm31 o.1 (by omega))) ?_
  refine mm_isub dM_isRoomFor_33 ?_
  refine mm_istore dM_isRoomFor_34 (by decide) rfl ?_
  refine mm_iconst (v := nI 1) dM_isRoomFor_36 (by decide) ?_
  refine mm_istore dM_isRoomFor_37 (by decide) rfl ?_
  exact l1 12 1 _ _ _ rfl (by omega) (by omega) (by omega)
end KM5
