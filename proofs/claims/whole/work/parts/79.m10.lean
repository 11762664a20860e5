/-! Contracts of the reference. Printed by wip/whole/spec/m10.py -/
theorem kh_M_hd (M : km_M) (H : Nat → Bool) (un os oc : Nat → Nat) (H2 : Nat → Bool) : s_hd (kh_M M H un os oc) H2 = kh_M M H2 un os oc := rfl
theorem kh_M_os (M : km_M) (H : Nat → Bool) (un os oc : Nat → Nat) (x : Nat → Nat) : s_os (kh_M M H un os oc) x = kh_M M H un x oc := rfl
theorem kh_M_oc (M : km_M) (H : Nat → Bool) (un os oc : Nat → Nat) (x : Nat → Nat) : s_oc (kh_M M H un os oc) x = kh_M M H un os x := rfl
theorem kh_M_un (M : km_M) (H : Nat → Bool) (un os oc : Nat → Nat) (x : Nat → Nat) : s_un (kh_M M H un os oc) x = kh_M M H x os oc := rfl
theorem kh_M_M (M : km_M) (H H2 : Nat → Bool) (un os oc un2 os2 oc2 : Nat → Nat) : kh_M (kh_M M H un os oc) H2 un2 os2 oc2 = kh_M M H2 un2 os2 oc2 := rfl
theorem kh_M_id (M : km_M) : M = kh_M M (m_hd M) (m_un M) (m_os M) (m_oc M) := rfl
section KM10
variable {Γ : mm_G} {l : Launch} {d : Nat} {h : mm_H} {m : Nat} {M : km_M}
set_option maxHeartbeats 1000000 in
theorem kM_look (o : kt_ok (km_S M)) (hw : ke_raw (m_sh M)) {a T B all f : Nat} (ha : a < 13) (hT : 0 < T) (hT3 : T ≤ 3) (hB : B < 2 ^ 31) (hall : all = kh_u (km_S M) T 6) (hun : ∀ n, n < 6 → m_un M n = kh_u (km_S M) T n)
    (kids : ∀ c, c < 13 → (km_S M).2.1 c = some a → ¬ c = a ∧ ∀ p, p < all → m_hd M (729 * c + p) = kh (km_S M) T B f c p) :
    mm_Ev Γ l (d + 1 + 1) mM_look [.ref m, .int (nI a), .int (nI T), .int (nI B), .int (nI all)] (km_set h m M) (km_D h m (fun v M' => v = none ∧ ∃ H os oc, M' = kh_M M H (m_un M) os oc ∧ (∀ p, p < all → H (729 * a + p) = kh (km_S M) T B (f + 1) a p) ∧ ∀ q, (q < 729 * a ∨ 729 * a + all ≤ q) → H q = m_hd M q)) := by
  have a7 : all ≤ 729 := by rw [hall]; exact kh_u_le (km_S M) hT3 hT 6
  obtain ⟨Ls, eLs⟩ : ∃ L, L = kh_own (km_S M).1 a 0 12 := ⟨_, rfl⟩
  obtain ⟨Lc, eLc⟩ : ∃ L, L = kh_own (km_S M).2.1 a 1 12 := ⟨_, rfl⟩
  have lS : Ls.length ≤ 12 := by rw [eLs]; exact kh_own_len _ _
  have lC : Lc.length ≤ 12 := by rw [eLc]; exact kh_own_len _ _
  have mS : ∀ s, s ∈ Ls → s < 12 ∧ (km_S M).1 s = some a := fun s hs => by rw [eLs] at hs; have := kh_own_mem _ _ hs; exact ⟨by omega, this.2.2⟩
  have mC : ∀ c, c ∈ Lc → c < 13 ∧ (km_S M).2.1 c = some a := fun c hc => by rw [eLc] at hc; have := kh_own_mem _ _ hc; exact ⟨by omega, this.2.2⟩
  obtain ⟨b0, eb0⟩ : ∃ g : Nat → Bool, g = fun i => Ls.all (kh_sp (km_S M) T B i) && Lc.all (fun c => !kh (km_S M) T B f c i) := ⟨_, rfl⟩
  have ekh : kh (km_S M) T B (f + 1) a = kh_lns (km_S M) T a 0 6 b0 := by rw [eb0, eLs, eLc]; rfl
  -- the lines of the area
  have ld : ∀ (D : mm_D) (x5 x6 x8 x9 : Option Value) (os oc : Nat → Nat), (∀ (H : Nat → Bool), (∀ p, p < all → H (729 * a + p) = kh (km_S M) T B (f + 1) a p) → (∀ q, (q < 729 * a ∨ 729 * a + all ≤ q) → H q = m_hd M q) → D (.inl none) (km_set h m (kh_M M H (m_un M) os oc))) → ∀ (j n : Nat) (H g : Nat → Bool), n + j = 6 → (∀ p, p < all → H (729 * a + p) = g p) → (∀ q, (q < 729 * a ∨ 729 * a + all ≤ q) → H q = m_hd M q) → (∀ p, p < all → kh_lns (km_S M) T a n j g p = kh (km_S M) T B (f + 1) a p) → mm_W Γ l mM_look (d + 1 + 1) D 212 [some (.ref m), some (.int (nI a)), some (.int (nI T)), some (.int (nI B)), some (.int (nI all)), x5, x6, some (.int (nI n)), x8, x9] [] (km_set h m (kh_M M H (m_un M) os oc)) := by
    intro D x5 x6 x8 x9 os oc hD j
    induction j with
    | zero =>
      intro n H g hn h1 h2 h3
      refine mm_iload dM_look_212 rfl ?_
      refine mm_bipush (v := nI 6) dM_look_214 (by decide) ?_
      refine mm_icmp_ge_T (tgt := 254) dM_look_216 (by decide) (nI_le (by omega) (by omega)) ?_
      refine mm_return dM_look_254 rfl ?_
      exact hD H (fun p hp => (h1 p hp).trans (h3 p hp)) h2
    | succ j ih =>
      intro n H g hn h1 h2 h3
      have hz : (km_S M).2.2.1 n = m_sh M (13 + n) := kz_l _ (by omega)
      refine mm_iload dM_look_212 rfl ?_
      refine mm_bipush (v := nI 6) dM_look_214 (by decide) ?_
      refine mm_icmp_ge_F (tgt := 254) dM_look_216 (by decide) (nI_ge (by omega) (by omega)) ?_
      refine mm_aload_n dM_look_219 rfl rfl ?_
      refine mm_getf dM_look_220 fM_7 (km_0 h m _) rfl ?_
      refine mm_bipush (v := nI 13) dM_look_223 (by decide) ?_
      refine mm_iload dM_look_225 rfl ?_
      refine mm_iadd dM_look_227 ?_
      refine mm_iaload dM_look_228 (km_sh h m _) (nI_add 13 n) (by omega) (by decide) ?_
      refine mm_iload_n dM_look_229 rfl rfl ?_
      refine mm_icmp_ne_k (tgt := 248) dM_look_230 (by decide) (kz_sml o.1 (by omega)) (by omega) (fun q230 => ?_) (fun q230 => ?_)
      · have q230 : ¬ m_sh M (13 + n) = some a := q230
        refine mm_iinc dM_look_248 (by decide) rfl (mm_inc _) rfl ?_
        refine mm_goto (tgt := 212) dM_look_251 (by decide) ?_
        refine ih (n + 1) H g (by omega) h1 h2 (fun p hp => ?_)
        rw [← h3 p hp, kh_lns_f (fun w => q230 (hz.symm.trans w))]
      · have q230 : (km_S M).2.2.1 n = some a := hz.trans q230
        obtain ⟨w, ew⟩ := kh_u_6 (S := km_S M) (T := T) (n := n) (by omega) (by rw [q230]; exact fun z => nomatch z)
        refine mm_aload_n dM_look_233 rfl rfl ?_
        refine mm_iload_n dM_look_234 rfl rfl ?_
        refine mm_iload_n dM_look_235 rfl rfl ?_
        refine mm_aload_n dM_look_236 rfl rfl ?_
        refine mm_getf dM_look_237 fM_44 (km_0 h m _) rfl ?_
        refine mm_iload dM_look_240 rfl ?_
        refine mm_iaload dM_look_242 (km_un h m _) rfl (by omega) (by decide) ?_
        refine mm_top (v' := .int (nI (kh_u (km_S M) T n))) (congrArg Value.int (show nI (m_un M n) = _ by rw [hun n (by omega)])) ?_
        refine mm_iload dM_look_243 rfl ?_
        refine mm_v4x dM_look_245 lM_189 (km_0 h m _) rfl rfl rfl rfl (by decide) (Nat.le_of_ble_eq_true rfl) (kM_any (M := kh_M M H (m_un M) os oc) ha hT hT3 (kh_u_pos (km_S M) hT n) a7 (hall.trans ew)) ?_
        rintro v M1 ⟨rfl, H2, rfl, k1, k2⟩
        refine mm_iinc dM_look_248 (by decide) rfl (mm_inc _) rfl ?_
        refine mm_goto (tgt := 212) dM_look_251 (by decide) ?_
        refine mm_eqh (congrArg (km_set h m) (kh_M_hd M H (m_un M) os oc H2).symm) ?_
        refine ih (n + 1) H2 (kh_any (kh_u (km_S M) T n) T g) (by omega) (fun p hp => ?_) (fun q hq => (k2 q hq).trans (h2 q hq)) (fun p hp => ?_)
        · rw [k1 p hp]
          rw [hall, ew] at hp
          exact kh_any_congr (kh_u_pos (km_S M) hT n) (fun q hq => h1 q (by rw [hall, ew]; exact hq)) hp
        · rw [← h3 p hp, kh_lns_t q230]
  -- spots, then cuts, at one number
  have c2o : ∀ (D : mm_D) (i q : Nat) (H : Nat → Bool) (os oc : Nat → Nat) (x5 : Option Value), q ≤ 13 → (∀ x9, mm_W Γ l mM_look (d + 1 + 1) D 188 [some (.ref m), some (.int (nI a)), some (.int (nI T)), some (.int (nI B)), some (.int (nI all)), x5, some (.int (nI Lc.length)), some (.int (nI i)), some (.int (mm_bI false)), x9] [] (km_set h m (kh_M M H (m_un M) os oc))) → mm_W Γ l mM_look (d + 1 + 1) D 141 [some (.ref m), some (.int (nI a)), some (.int (nI T)), some (.int (nI B)), some (.int (nI all)), x5, some (.int (nI Lc.length)), some (.int (nI i)), some (.int (mm_bI false)), some (.int (nI q))] [] (km_set h m (kh_M M H (m_un M) os oc)) := by
    intro D i q H os oc x5 hq cont
    refine mm_iload dM_look_141 rfl ?_
    refine mm_iload dM_look_143 rfl ?_
    refine mm_icmp_ge_n (tgt := 188) dM_look_145 (by decide) (by omega) (by omega) (fun q145 => ?_) (fun q145 => ?_)
    · exact cont _
    · refine mm_iload dM_look_148 rfl ?_
      refine mm_if_eq_T (tgt := 188) dM_look_150 (by decide) rfl ?_
      exact cont _
  have c2 : ∀ (D : mm_D) (i : Nat) (H : Nat → Bool) (os oc : Nat → Nat) (x5 : Option Value), i < all → (∀ c, c ∈ Lc → H (729 * c + i) = kh (km_S M) T B f c i) → ∀ (ts : List Nat) (q : Nat), q + ts.length = Lc.length → ke_hasL oc q ts → (∀ c, c ∈ ts → c ∈ Lc) → (∀ x9, mm_W Γ l mM_look (d + 1 + 1) D 188 [some (.ref m), some (.int (nI a)), some (.int (nI T)), some (.int (nI B)), some (.int (nI all)), x5, some (.int (nI Lc.length)), some (.int (nI i)), some (.int (mm_bI (ts.all (fun c => !kh (km_S M) T B f c i)))), x9] [] (km_set h m (kh_M M H (m_un M) os oc))) → mm_W Γ l mM_look (d + 1 + 1) D 141 [some (.ref m), some (.int (nI a)), some (.int (nI T)), some (.int (nI B)), some (.int (nI all)), x5, some (.int (nI Lc.length)), some (.int (nI i)), some (.int (mm_bI true)), some (.int (nI q))] [] (km_set h m (kh_M M H (m_un M) os oc)) := by
    intro D i H os oc x5 hi hH ts
    induction ts with
    | nil =>
      intro q hq ho hm cont
      have hq : q = Lc.length := hq
      refine mm_iload dM_look_141 rfl ?_
      refine mm_iload dM_look_143 rfl ?_
      refine mm_icmp_ge_T (tgt := 188) dM_look_145 (by decide) (nI_le (by omega) (by omega)) ?_
      exact cont _
    | cons c ts ih =>
      intro q hq ho hm cont
      have hq : q + (ts.length + 1) = Lc.length := hq
      have hc := hm c List.mem_cons_self
      have c13 := (mC c hc).1
      have e0 : oc q = c := ke_hasL_hd ho
      have eH := hH c hc
      refine mm_iload dM_look_141 rfl ?_
      refine mm_iload dM_look_143 rfl ?_
      refine mm_icmp_ge_F (tgt := 188) dM_look_145 (by decide) (nI_ge (by omega) (by omega)) ?_
      refine mm_iload dM_look_148 rfl ?_
      refine mm_if_eq_F (tgt := 188) dM_look_150 (by decide) (by decide) ?_
      refine mm_aload_n dM_look_153 rfl rfl ?_
      refine mm_getf dM_look_154 fM_31 (km_0 h m _) rfl ?_
      refine mm_sipush (v := nI 729) dM_look_157 (by decide) ?_
      refine mm_aload_n dM_look_160 rfl rfl ?_
      refine mm_getf dM_look_161 fM_50 (km_0 h m _) rfl ?_
      refine mm_iload dM_look_164 rfl ?_
      refine mm_iaload dM_look_166 (km_oc h m _) rfl (by omega) (by decide) ?_
      refine mm_top (v' := .int (nI c)) (congrArg Value.int (by show nI (oc q) = nI c; rw [e0])) ?_
      refine mm_imul dM_look_167 ?_
      refine mm_iload dM_look_168 rfl ?_
      refine mm_iadd dM_look_170 ?_
      refine mm_baload dM_look_171 (km_hd h m _) (by rw [pk_mul, nI_add]) (show 729 * c + i < 9477 by omega) (by decide) ?_
      refine mm_if_ne_b (tgt := 179) dM_look_172 (by decide) (fun q172 => ?_) (fun q172 => ?_)
      · have q172 : H (729 * c + i) = true := q172
        refine mm_iconst (v := nI 0) dM_look_179 (by decide) ?_
        refine mm_istore dM_look_180 (by decide) rfl ?_
        refine mm_iinc dM_look_182 (by decide) rfl (mm_inc _) rfl ?_
        refine mm_goto (tgt := 141) dM_look_185 (by decide) ?_
        have e9 : (c :: ts).all (fun c => !kh (km_S M) T B f c i) = false := by rw [List.all_cons, ← eH, q172]; rfl
        rw [e9] at cont
        exact c2o D i (q + 1) H os oc x5 (by omega) cont
      · have q172 : H (729 * c + i) = false := q172
        refine mm_iconst (v := nI 1) dM_look_175 (by decide) ?_
        refine mm_goto (tgt := 180) dM_look_176 (by decide) ?_
        refine mm_istore dM_look_180 (by decide) rfl ?_
        refine mm_iinc dM_look_182 (by decide) rfl (mm_inc _) rfl ?_
        refine mm_goto (tgt := 141) dM_look_185 (by decide) ?_
        have e9 : (c :: ts).all (fun c => !kh (km_S M) T B f c i) = ts.all (fun c => !kh (km_S M) T B f c i) := by rw [List.all_cons, ← eH, q172]; rfl
        rw [e9] at cont
        exact ih (q + 1) (by omega) (ke_hasL_tl ho) (fun y hy => hm y (List.mem_cons_of_mem _ hy)) cont
  have c1o : ∀ (D : mm_D) (i q : Nat) (H : Nat → Bool) (os oc : Nat → Nat) (x6 : Option Value), q ≤ 13 → (∀ x9, mm_W Γ l mM_look (d + 1 + 1) D 138 [some (.ref m), some (.int (nI a)), some (.int (nI T)), some (.int (nI B)), some (.int (nI all)), some (.int (nI Ls.length)), x6, some (.int (nI i)), some (.int (mm_bI false)), x9] [] (km_set h m (kh_M M H (m_un M) os oc))) → mm_W Γ l mM_look (d + 1 + 1) D 103 [some (.ref m), some (.int (nI a)), some (.int (nI T)), some (.int (nI B)), some (.int (nI all)), some (.int (nI Ls.length)), x6, some (.int (nI i)), some (.int (mm_bI false)), some (.int (nI q))] [] (km_set h m (kh_M M H (m_un M) os oc)) := by
    intro D i q H os oc x6 hq cont
    refine mm_iload dM_look_103 rfl ?_
    refine mm_iload dM_look_105 rfl ?_
    refine mm_icmp_ge_n (tgt := 138) dM_look_107 (by decide) (by omega) (by omega) (fun q107 => ?_) (fun q107 => ?_)
    · exact cont _
    · refine mm_iload dM_look_110 rfl ?_
      refine mm_if_eq_T (tgt := 138) dM_look_112 (by decide) rfl ?_
      exact cont _
  have c1 : ∀ (D : mm_D) (i : Nat) (H : Nat → Bool) (os oc : Nat → Nat) (x6 : Option Value), i < all → ∀ (ts : List Nat) (q : Nat), q + ts.length = Ls.length → ke_hasL os q ts → (∀ c, c ∈ ts → c ∈ Ls) → (∀ x9, mm_W Γ l mM_look (d + 1 + 1) D 138 [some (.ref m), some (.int (nI a)), some (.int (nI T)), some (.int (nI B)), some (.int (nI all)), some (.int (nI Ls.length)), x6, some (.int (nI i)), some (.int (mm_bI (ts.all (kh_sp (km_S M) T B i)))), x9] [] (km_set h m (kh_M M H (m_un M) os oc))) → mm_W Γ l mM_look (d + 1 + 1) D 103 [some (.ref m), some (.int (nI a)), some (.int (nI T)), some (.int (nI B)), some (.int (nI all)), some (.int (nI Ls.length)), x6, some (.int (nI i)), some (.int (mm_bI true)), some (.int (nI q))] [] (km_set h m (kh_M M H (m_un M) os oc)) := by
    intro D i H os oc x6 hi ts
    induction ts with
    | nil =>
      intro q hq ho hm cont
      have hq : q = Ls.length := hq
      refine mm_iload dM_look_103 rfl ?_
      refine mm_iload dM_look_105 rfl ?_
      refine mm_icmp_ge_T (tgt := 138) dM_look_107 (by decide) (nI_le (by omega) (by omega)) ?_
      exact cont _
    | cons s ts ih =>
      intro q hq ho hm cont
      have hq : q + (ts.length + 1) = Ls.length := hq
      have hs := hm s List.mem_cons_self
      have s12 := mS s hs
      have e0 : os q = s := ke_hasL_hd ho
      obtain ⟨g, hg4, hg, hh⟩ := hw s s12.1 (by rw [← kz_s (m_sh M) s12.1]; show ¬ (km_S M).1 s = none; rw [s12.2]; exact fun w => nomatch w)
      refine mm_iload dM_look_103 rfl ?_
      refine mm_iload dM_look_105 rfl ?_
      refine mm_icmp_ge_F (tgt := 138) dM_look_107 (by decide) (nI_ge (by omega) (by omega)) ?_
      refine mm_iload dM_look_110 rfl ?_
      refine mm_if_eq_F (tgt := 138) dM_look_112 (by decide) (by decide) ?_
      refine mm_aload_n dM_look_115 rfl rfl ?_
      refine mm_aload_n dM_look_116 rfl rfl ?_
      refine mm_getf dM_look_117 fM_47 (km_0 h m _) rfl ?_
      refine mm_iload dM_look_120 rfl ?_
      refine mm_iaload dM_look_122 (km_os h m _) rfl (by omega) (by decide) ?_
      refine mm_top (v' := .int (nI s)) (congrArg Value.int (by show nI (os q) = nI s; rw [e0])) ?_
      refine mm_iload dM_look_123 rfl ?_
      refine mm_iload_n dM_look_125 rfl rfl ?_
      refine mm_iload_n dM_look_126 rfl rfl ?_
      refine mm_v4 dM_look_127 lM_185 (km_0 h m _) rfl rfl rfl rfl (by decide) (Nat.le_of_ble_eq_true rfl) (kM_spotHolds (M := kh_M M H (m_un M) os oc) s12.1 (by omega) hT hT3 hB hg4 hg hh hun) ?_
      refine mm_istore dM_look_130 (by decide) rfl ?_
      refine mm_iinc dM_look_132 (by decide) rfl (mm_inc _) rfl ?_
      refine mm_goto (tgt := 103) dM_look_135 (by decide) ?_
      have hb : kh_sp (km_S (kh_M M H (m_un M) os oc)) T B i s = kh_sp (km_S M) T B i s := rfl
      rw [hb]
      cases hp : kh_sp (km_S M) T B i s with
      | false =>
        have e9 : (s :: ts).all (kh_sp (km_S M) T B i) = false := by rw [List.all_cons, hp]; rfl
        rw [e9] at cont
        exact c1o D i (q + 1) H os oc x6 (by omega) cont
      | true =>
        have e9 : (s :: ts).all (kh_sp (km_S M) T B i) = ts.all (kh_sp (km_S M) T B i) := by rw [List.all_cons, hp]; rfl
        rw [e9] at cont
        exact ih (q + 1) (by omega) (ke_hasL_tl ho) (fun y hy => hm y (List.mem_cons_of_mem _ hy)) cont
  -- all numbers
  have lp : ∀ (D : mm_D) (os oc : Nat → Nat), ke_hasL os 0 Ls → ke_hasL oc 0 Lc → (∀ (H : Nat → Bool) (x7 x8 x9 : Option Value), (∀ p, p < all → H (729 * a + p) = b0 p) → (∀ q, (q < 729 * a ∨ 729 * a + all ≤ q) → H q = m_hd M q) → mm_W Γ l mM_look (d + 1 + 1) D 209 [some (.ref m), some (.int (nI a)), some (.int (nI T)), some (.int (nI B)), some (.int (nI all)), some (.int (nI Ls.length)), some (.int (nI Lc.length)), x7, x8, x9] [] (km_set h m (kh_M M H (m_un M) os oc))) → ∀ (j i : Nat) (H : Nat → Bool) (x8 x9 : Option Value), i + j = all → (∀ p, p < i → H (729 * a + p) = b0 p) → (∀ q, (q < 729 * a ∨ 729 * a + all ≤ q) → H q = m_hd M q) → mm_W Γ l mM_look (d + 1 + 1) D 90 [some (.ref m), some (.int (nI a)), some (.int (nI T)), some (.int (nI B)), some (.int (nI all)), some (.int (nI Ls.length)), some (.int (nI Lc.length)), some (.int (nI i)), x8, x9] [] (km_set h m (kh_M M H (m_un M) os oc)) := by
    intro D os oc ho hc cont j
    induction j with
    | zero =>
      intro i H x8 x9 hi h1 h2
      have hi : i = all := hi
      subst hi
      refine mm_iload dM_look_90 rfl ?_
      refine mm_iload dM_look_92 rfl ?_
      refine mm_icmp_ge_T (tgt := 209) dM_look_94 (by decide) (nI_le (Nat.le_refl _) (by omega)) ?_
      exact cont H _ _ _ h1 h2
    | succ j ih =>
      intro i H x8 x9 hi h1 h2
      have st : ∀ (b : Bool) (x9 : Option Value), b = b0 i → mm_W Γ l mM_look (d + 1 + 1) D 188 [some (.ref m), some (.int (nI a)), some (.int (nI T)), some (.int (nI B)), some (.int (nI all)), some (.int (nI Ls.length)), some (.int (nI Lc.length)), some (.int (nI i)), some (.int (mm_bI b)), x9] [] (km_set h m (kh_M M H (m_un M) os oc)) := by
        intro b x9 eb
        refine mm_aload_n dM_look_188 rfl rfl ?_
        refine mm_getf dM_look_189 fM_31 (km_0 h m _) rfl ?_
        refine mm_sipush (v := nI 729) dM_look_192 (by decide) ?_
        refine mm_iload_n dM_look_195 rfl rfl ?_
        refine mm_imul dM_look_196 ?_
        refine mm_iload dM_look_197 rfl ?_
        refine mm_iadd dM_look_199 ?_
        refine mm_iload dM_look_200 rfl ?_
        refine mm_bastore dM_look_202 (km_hd h m _) (by rw [pk_mul, nI_add]) (show 729 * a + i < 9477 by omega) (by decide) (by cases b <;> rfl) ?_
        refine mm_eqh (kv_hd h m _ _ b).symm ?_
        refine mm_iinc dM_look_203 (by decide) rfl (mm_inc _) rfl ?_
        refine mm_goto (tgt := 90) dM_look_206 (by decide) ?_
        refine mm_eqh (congrArg (km_set h m) (kh_M_hd M H (m_un M) os oc _).symm) ?_
        refine ih (i + 1) (kh_ub H (729 * a + i) b) _ _ (by omega) (fun p hp => ?_) (fun q hq => ?_)
        · show (if 729 * a + p = 729 * a + i then b else H (729 * a + p)) = _
          by_cases c : p = i
          · rw [if_pos (by omega), eb, c]
          · rw [if_neg (by omega), h1 p (by omega)]
        · show (if q = 729 * a + i then b else H q) = _
          rw [if_neg (by omega)]
          exact h2 q hq
      refine mm_iload dM_look_90 rfl ?_
      refine mm_iload dM_look_92 rfl ?_
      refine mm_icmp_ge_F (tgt := 209) dM_look_94 (by decide) (nI_ge (by omega) (by omega)) ?_
      refine mm_iconst (v := nI 1) dM_look_97 (by decide) ?_
      refine mm_istore dM_look_98 (by decide) rfl ?_
      refine mm_iconst (v := nI 0) dM_look_100 (by decide) ?_
      refine mm_istore dM_look_101 (by decide) rfl ?_
      refine c1 D i H os oc _ (by omega) Ls 0 (Nat.zero_add _) ho (fun _ hy => hy) (fun x9 => ?_)
      refine mm_iconst (v := nI 0) dM_look_138 (by decide) ?_
      refine mm_istore dM_look_139 (by decide) rfl ?_
      cases hb : Ls.all (kh_sp (km_S M) T B i) with
      | false => exact c2o D i 0 H os oc _ (by omega) (fun x9 => st false x9 (by rw [eb0]; show false = (Ls.all (kh_sp (km_S M) T B i) && _); rw [hb]; rfl))
      | true =>
        refine c2 D i H os oc _ (by omega) (fun c hc => ?_) Lc 0 (Nat.zero_add _) hc (fun _ hy => hy) (fun x9 => st _ x9 (by rw [eb0]; show _ = (Ls.all (kh_sp (km_S M) T B i) && _); rw [hb, Bool.true_and]))
        have hk := kids c (mC c hc).1 (mC c hc).2
        rw [h2 _ (by have := hk.1; omega)]
        exact hk.2 i (by omega)
  have pb : ∀ (D : mm_D) (os : Nat → Nat), (∀ (oc : Nat → Nat) (x7 : Option Value) (x8 x9 : Option Value), ke_hasL oc 0 Lc → mm_W Γ l mM_look (d + 1 + 1) D 87 [some (.ref m), some (.int (nI a)), some (.int (nI T)), some (.int (nI B)), some (.int (nI all)), some (.int (nI Ls.length)), some (.int (nI Lc.length)), x7, x8, x9] [] (km_set h m (kh_M M (m_hd M) (m_un M) os oc))) → ∀ (j i : Nat) (oc : Nat → Nat) (pre : List Nat) (x8 x9 : Option Value), i + j = 13 → 1 ≤ i → ke_hasL oc 0 pre → pre.length < i → pre ++ kh_own (km_S M).2.1 a i j = Lc → mm_W Γ l mM_look (d + 1 + 1) D 51 [some (.ref m), some (.int (nI a)), some (.int (nI T)), some (.int (nI B)), some (.int (nI all)), some (.int (nI Ls.length)), some (.int (nI pre.length)), some (.int (nI i)), x8, x9] [] (km_set h m (kh_M M (m_hd M) (m_un M) os oc)) := by
    intro D os cont j
    induction j with
    | zero =>
      intro i oc pre x8 x9 hi h1 hp hl e
      have e : pre ++ [] = Lc := e
      rw [List.append_nil] at e
      subst e
      refine mm_iload dM_look_51 rfl ?_
      refine mm_bipush (v := nI 13) dM_look_53 (by decide) ?_
      refine mm_icmp_ge_T (tgt := 87) dM_look_55 (by decide) (nI_le (by omega) (by omega)) ?_
      exact cont oc _ _ _ hp
    | succ j ih =>
      intro i oc pre x8 x9 hi h1 hp hl e
      have hz : (km_S M).2.1 i = m_sh M i := kz_c _ (by omega)
      refine mm_iload dM_look_51 rfl ?_
      refine mm_bipush (v := nI 13) dM_look_53 (by decide) ?_
      refine mm_icmp_ge_F (tgt := 87) dM_look_55 (by decide) (nI_ge (by omega) (by omega)) ?_
      refine mm_aload_n dM_look_58 rfl rfl ?_
      refine mm_getf dM_look_59 fM_7 (km_0 h m _) rfl ?_
      refine mm_iload dM_look_62 rfl ?_
      refine mm_iaload dM_look_64 (km_sh h m _) rfl (by omega) (by decide) ?_
      refine mm_iload_n dM_look_65 rfl rfl ?_
      refine mm_icmp_ne_k (tgt := 81) dM_look_66 (by decide) (kz_smc o.1 (by omega)) (by omega) (fun q66 => ?_) (fun q66 => ?_)
      · rw [kh_own_f (fun w => q66 (hz.symm.trans w))] at e
        refine mm_iinc dM_look_81 (by decide) rfl (mm_inc _) rfl ?_
        refine mm_goto (tgt := 51) dM_look_84 (by decide) ?_
        exact ih (i + 1) oc pre _ _ (by omega) (by omega) hp (by omega) e
      · rw [kh_own_t (hz.trans q66)] at e
        refine mm_aload_n dM_look_69 rfl rfl ?_
        refine mm_getf dM_look_70 fM_50 (km_0 h m _) rfl ?_
        refine mm_iload dM_look_73 rfl ?_
        refine mm_iload dM_look_75 rfl ?_
        refine mm_iastore dM_look_77 (km_oc h m _) rfl (by omega) (by decide) ?_
        refine mm_eqh (kv_oc h m _ _ i).symm ?_
        refine mm_iinc dM_look_78 (by decide) rfl (mm_inc _) rfl ?_
        refine mm_iinc dM_look_81 (by decide) rfl (mm_inc _) rfl ?_
        refine mm_goto (tgt := 51) dM_look_84 (by decide) ?_
        have e1 : (pre ++ [i]).length = pre.length + 1 := by rw [List.length_append]; rfl
        have hh := ih (i + 1) (ks_un oc pre.length i) (pre ++ [i]) x8 x9 (by omega) (by omega) (ke_hasL_snoc (ke_hasL_un hp (Or.inr (by omega))) (by rw [Nat.zero_add]; exact if_pos rfl)) (by omega) (by rw [List.append_assoc]; exact e)
        rw [e1] at hh
        refine mm_eqh (congrArg (km_set h m) (kh_M_oc M (m_hd M) (m_un M) os oc _).symm) ?_
        exact hh
  have pa : ∀ (D : mm_D) (oc : Nat → Nat), (∀ (os : Nat → Nat) (x7 : Option Value) (x8 x9 : Option Value), ke_hasL os 0 Ls → mm_W Γ l mM_look (d + 1 + 1) D 48 [some (.ref m), some (.int (nI a)), some (.int (nI T)), some (.int (nI B)), some (.int (nI all)), some (.int (nI Ls.length)), some (.int (nI 0)), x7, x8, x9] [] (km_set h m (kh_M M (m_hd M) (m_un M) os oc))) → ∀ (j i : Nat) (os : Nat → Nat) (pre : List Nat) (x8 x9 : Option Value), i + j = 12 → ke_hasL os 0 pre → pre.length ≤ i → pre ++ kh_own (km_S M).1 a i j = Ls → mm_W Γ l mM_look (d + 1 + 1) D 9 [some (.ref m), some (.int (nI a)), some (.int (nI T)), some (.int (nI B)), some (.int (nI all)), some (.int (nI pre.length)), some (.int (nI 0)), some (.int (nI i)), x8, x9] [] (km_set h m (kh_M M (m_hd M) (m_un M) os oc)) := by
    intro D oc cont j
    induction j with
    | zero =>
      intro i os pre x8 x9 hi hp hl e
      have e : pre ++ [] = Ls := e
      rw [List.append_nil] at e
      subst e
      refine mm_iload dM_look_9 rfl ?_
      refine mm_bipush (v := nI 12) dM_look_11 (by decide) ?_
      refine mm_icmp_ge_T (tgt := 48) dM_look_13 (by decide) (nI_le (by omega) (by omega)) ?_
      exact cont os _ _ _ hp
    | succ j ih =>
      intro i os pre x8 x9 hi hp hl e
      have hz : (km_S M).1 i = m_sh M (19 + i) := kz_s _ (by omega)
      refine mm_iload dM_look_9 rfl ?_
      refine mm_bipush (v := nI 12) dM_look_11 (by decide) ?_
      refine mm_icmp_ge_F (tgt := 48) dM_look_13 (by decide) (nI_ge (by omega) (by omega)) ?_
      refine mm_aload_n dM_look_16 rfl rfl ?_
      refine mm_getf dM_look_17 fM_7 (km_0 h m _) rfl ?_
      refine mm_bipush (v := nI 19) dM_look_20 (by decide) ?_
      refine mm_iload dM_look_22 rfl ?_
      refine mm_iadd dM_look_24 ?_
      refine mm_iaload dM_look_25 (km_sh h m _) (nI_add 19 i) (by omega) (by decide) ?_
      refine mm_iload_n dM_look_26 rfl rfl ?_
      refine mm_icmp_ne_k (tgt := 42) dM_look_27 (by decide) (kz_sms o.1 (by omega)) (by omega) (fun q27 => ?_) (fun q27 => ?_)
      · rw [kh_own_f (fun w => q27 (hz.symm.trans w))] at e
        refine mm_iinc dM_look_42 (by decide) rfl (mm_inc _) rfl ?_
        refine mm_goto (tgt := 9) dM_look_45 (by decide) ?_
        exact ih (i + 1) os pre _ _ (by omega) hp (by omega) e
      · rw [kh_own_t (hz.trans q27)] at e
        refine mm_aload_n dM_look_30 rfl rfl ?_
        refine mm_getf dM_look_31 fM_47 (km_0 h m _) rfl ?_
        refine mm_iload dM_look_34 rfl ?_
        refine mm_iload dM_look_36 rfl ?_
        refine mm_iastore dM_look_38 (km_os h m _) rfl (by omega) (by decide) ?_
        refine mm_eqh (kv_os h m _ _ i).symm ?_
        refine mm_iinc dM_look_39 (by decide) rfl (mm_inc _) rfl ?_
        refine mm_iinc dM_look_42 (by decide) rfl (mm_inc _) rfl ?_
        refine mm_goto (tgt := 9) dM_look_45 (by decide) ?_
        have e1 : (pre ++ [i]).length = pre.length + 1 := by rw [List.length_append]; rfl
        have hh := ih (i + 1) (ks_un os pre.length i) (pre ++ [i]) x8 x9 (by omega) (ke_hasL_snoc (ke_hasL_un hp (Or.inr (by omega))) (by rw [Nat.zero_add]; exact if_pos rfl)) (by omega) (by rw [List.append_assoc]; exact e)
        rw [e1] at hh
        refine mm_eqh (congrArg (km_set h m) (kh_M_os M (m_hd M) (m_un M) os oc _).symm) ?_
        exact hh
  show mm_W Γ l mM_look (d + 1 + 1) _ 0 [some (.ref m), some (.int (nI a)), some (.int (nI T)), some (.int (nI B)), some (.int (nI all)), none, none, none, none, none] [] _
  refine mm_iconst (v := nI 0) dM_look_0 (by decide) ?_
  refine mm_istore dM_look_1 (by decide) rfl ?_
  refine mm_iconst (v := nI 0) dM_look_3 (by decide) ?_
  refine mm_istore dM_look_4 (by decide) rfl ?_
  refine mm_iconst (v := nI 0) dM_look_6 (by decide) ?_
  refine mm_istore dM_look_7 (by decide) rfl ?_
  refine mm_eqh (congrArg (km_set h m) (kh_M_id M).symm) ?_
  refine pa _ (m_oc M) (fun os x7 x8 x9 hos => ?_) 12 0 (m_os M) [] _ _ rfl (ke_hasL_nil _ _) (Nat.le_refl _) (by rw [List.nil_append, ← eLs])
  refine mm_iconst (v := nI 1) dM_look_48 (by decide) ?_
  refine mm_istore dM_look_49 (by decide) rfl ?_
  refine pb _ os (fun oc x7 x8 x9 hoc => ?_) 12 1 (m_oc M) [] _ _ rfl (Nat.le_refl _) (ke_hasL_nil _ _) (by decide) (by rw [List.nil_append, ← eLc])
  refine mm_iconst (v := nI 0) dM_look_87 (by decide) ?_
  refine mm_istore dM_look_88 (by decide) rfl ?_
  refine lp _ os oc hos hoc (fun H x7 x8 x9 k1 k2 => ?_) all 0 (m_hd M) _ _ (Nat.zero_add _) (fun p hp => absurd hp (by omega)) (fun _ _ => rfl)
  refine mm_iconst (v := nI 0) dM_look_209 (by decide) ?_
  refine mm_istore dM_look_210 (by decide) rfl ?_
  exact ld _ _ _ _ _ os oc (fun H k1 k2 => ⟨_, _, rfl, rfl, rfl, H, os, oc, rfl, k1, k2⟩) 6 0 H b0 rfl k1 k2 (fun p _ => by rw [ekh])
end KM10
