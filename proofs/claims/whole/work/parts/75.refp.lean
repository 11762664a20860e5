/-! Readings of parts, in the reference. -/
/-- a row of tokens stands in an array, from place i on -/
def ke_hasL (f : Nat → Nat) (i : Nat) (L : List Nat) : Prop := ∀ p x, L[p]? = some x → f (i + p) = x
def ke_is (M : km_M) (L : List Nat) : Prop := m_rd M = L.length ∧ ke_hasL (m_tk M) 0 L
def ke_isO (M : km_M) (L : List Nat) : Prop := m_od M = L.length ∧ ke_hasL (m_ot M) 0 L
theorem ke_hasL_nil (f : Nat → Nat) (i : Nat) : ke_hasL f i [] := fun p x h => by simp at h
theorem ke_hasL_cons {f : Nat → Nat} {i t : Nat} {ts : List Nat} (h0 : f i = t) (h1 : ke_hasL f (i + 1) ts) : ke_hasL f i (t :: ts) := by
  intro p x hp
  cases p with
  | zero => exact h0.trans (Option.some.inj hp)
  | succ p =>
    have e := h1 p x hp
    rw [show i + (p + 1) = i + 1 + p by omega]
    exact e
theorem ke_hasL_hd {f : Nat → Nat} {i t : Nat} {ts : List Nat} (h : ke_hasL f i (t :: ts)) : f i = t := h 0 t rfl
theorem ke_hasL_tl {f : Nat → Nat} {i t : Nat} {ts : List Nat} (h : ke_hasL f i (t :: ts)) : ke_hasL f (i + 1) ts := by
  intro p x hp
  have e := h (p + 1) x hp
  rw [show i + 1 + p = i + (p + 1) by omega]
  exact e
theorem ke_hasL_snoc {f : Nat → Nat} {i t : Nat} {ts : List Nat} (h : ke_hasL f i ts) (h1 : f (i + ts.length) = t) : ke_hasL f i (ts ++ [t]) := by
  intro p x hp
  by_cases hl : p < ts.length
  · rw [List.getElem?_append_left hl] at hp
    exact h p x hp
  · rw [List.getElem?_append_right (by omega)] at hp
    by_cases h2 : p = ts.length
    · subst h2
      rw [Nat.sub_self] at hp
      exact h1.trans (Option.some.inj hp)
    · rw [List.getElem?_eq_none (by simp; omega)] at hp
      cases hp
theorem ke_hasL_un {f : Nat → Nat} {i j v : Nat} {L : List Nat} (h : ke_hasL f i L) (hj : j < i ∨ i + L.length ≤ j) : ke_hasL (ks_un f j v) i L := by
  intro p x hp
  have hl : p < L.length := by
    rcases Nat.lt_or_ge p L.length with h | h
    · exact h
    · rw [List.getElem?_eq_none h] at hp; cases hp
  have e : ks_un f j v (i + p) = f (i + p) := if_neg (by omega)
  rw [e]
  exact h p x hp
theorem ke_adds_has : ∀ (L : List Nat) (f : Nat → Nat) (i : Nat), ke_hasL (ke_adds (f, i) L).1 i L ∧ ∀ q, q < i → (ke_adds (f, i) L).1 q = f q := by
  intro L
  induction L with
  | nil => exact fun f i => ⟨ke_hasL_nil _ _, fun _ _ => rfl⟩
  | cons t ts ih =>
    intro f i
    obtain ⟨h1, h2⟩ := ih (ks_un f i t) (i + 1)
    have e : ke_adds (f, i) (t :: ts) = ke_adds (ks_un f i t, i + 1) ts := rfl
    rw [e]
    refine ⟨ke_hasL_cons ((h2 i (by omega)).trans (if_pos rfl)) h1, fun q hq => (h2 q (by omega)).trans (if_neg (by omega))⟩
theorem ke_is_adds {M M' : km_M} {L : List Nat} (h : (m_tk M', m_rd M') = ke_adds (m_tk M, 0) L) : ke_is M' L := by
  have h1 : m_tk M' = (ke_adds (m_tk M, 0) L).1 := congrArg Prod.fst h
  have h2 : m_rd M' = (ke_adds (m_tk M, 0) L).2 := congrArg Prod.snd h
  refine ⟨?_, ?_⟩
  · rw [h2, ke_adds_n]; show 0 + L.length = L.length; omega
  · rw [h1]; exact (ke_adds_has L (m_tk M) 0).1
theorem ke_hasL_eq {f g : Nat → Nat} {i : Nat} {L : List Nat} (h : ke_hasL f i L) (e : ∀ p, p < L.length → g (i + p) = f (i + p)) : ke_hasL g i L := by
  intro p x hp
  have hl : p < L.length := by
    rcases Nat.lt_or_ge p L.length with h | h
    · exact h
    · rw [List.getElem?_eq_none h] at hp; cases hp
  rw [e p hl]
  exact h p x hp
/-- what tokens of an area look like -/
def ke_tok (S : ks_S) (t : Nat) : Prop := t < 100 ∨ ∃ n, n < 6 ∧ t = 100 + n ∧ ¬ S.2.2.1 n = none
theorem ke_tok_hk {f : Nat → Option Nat} {s g : Nat} (hs : s < 12) (hh : ∀ k, k < g → ∃ n, n < 6 ∧ f (43 + 2 * s + k) = some n ∧ ¬ f (13 + n) = none) : ∀ (j i : Nat), i + j = g → g ≤ 2 → ∀ t, t ∈ ke_hk (kz f) s i j → ke_tok (kz f) t := by
  intro j
  induction j with
  | zero => intro i _ _ t ht; cases ht
  | succ j ih =>
    intro i hi hg t ht
    rcases List.mem_cons.mp ht with h | h
    · obtain ⟨n, h6, h1, h2⟩ := hh i (by omega)
      refine Or.inr ⟨n, h6, ?_, by rw [kz_l f h6]; exact h2⟩
      rw [h, kz_h f (by omega), ← Nat.add_assoc, h1]
      rfl
    · exact ih (i + 1) (by omega) hg t h
theorem ke_tok_sp {f : Nat → Option Nat} (hw : ke_raw f) {s : Nat} (hs : s < 12) (h1 : ¬ f (19 + s) = none) : ∀ t, t ∈ ke_sp (kz f) s → ke_tok (kz f) t := by
  obtain ⟨g, hg4, hg, hh⟩ := hw s hs h1
  have eg : (kz f).2.2.2.1 s = g := by
    have e : (kz f).2.2.2.1 s = (f (31 + s)).getD 0 := if_pos hs
    rw [e, hg]; rfl
  intro t ht
  unfold ke_sp at ht
  rw [eg] at ht
  rcases List.mem_cons.mp ht with h | h
  · exact Or.inl (by omega)
  · exact ke_tok_hk hs hh _ 0 (by omega) (kc_places_le hg4) t h
theorem ke_tok_lnL {f : Nat → Option Nat} {a : Nat} : ∀ (j i : Nat), i + j = 6 → ∀ t, t ∈ ke_lnL (kz f) a i j → ke_tok (kz f) t := by
  intro j
  induction j with
  | zero => intro i _ t ht; cases ht
  | succ j ih =>
    intro i hi t ht
    by_cases h : (kz f).2.2.1 i = some a
    · rw [ke_lnL_t h] at ht
      rcases List.mem_cons.mp ht with h2 | h2
      · exact Or.inr ⟨i, by omega, h2, by rw [h]; exact fun w => nomatch w⟩
      · exact ih (i + 1) (by omega) t h2
    · rw [ke_lnL_f h] at ht; exact ih (i + 1) (by omega) t ht
theorem ke_tok_spL {f : Nat → Option Nat} (hw : ke_raw f) {a : Nat} : ∀ (j i : Nat), i + j = 12 → ∀ t, t ∈ ke_spL (kz f) a i j → ke_tok (kz f) t := by
  intro j
  induction j with
  | zero => intro i _ t ht; cases ht
  | succ j ih =>
    intro i hi t ht
    by_cases h : (kz f).1 i = some a
    · rw [ke_spL_t h] at ht
      rcases List.mem_append.mp ht with h2 | h2
      · exact ke_tok_sp hw (by omega) (by rw [← kz_s f (show i < 12 by omega), h]; exact fun w => nomatch w) t h2
      · exact ih (i + 1) (by omega) t h2
    · rw [ke_spL_f h] at ht; exact ih (i + 1) (by omega) t ht
theorem ke_tok_kids {S : ks_S} {rec : Nat → List Nat} (hr : ∀ a t, t ∈ rec a → ke_tok S t) {a : Nat} : ∀ (j i : Nat), ∀ t, t ∈ ke_kids rec S a i j → ke_tok S t := by
  intro j
  induction j with
  | zero => intro i t ht; cases ht
  | succ j ih =>
    intro i t ht
    by_cases h : S.2.1 i = some a
    · rw [ke_kids_t h] at ht
      rcases List.mem_append.mp ht with h2 | h2
      · rcases List.mem_cons.mp h2 with h3 | h3
        · exact Or.inl (by omega)
        · rcases List.mem_append.mp h3 with h4 | h4
          · exact hr _ t h4
          · rw [List.mem_singleton] at h4; exact Or.inl (by omega)
      · exact ih (i + 1) t h2
    · rw [ke_kids_f h] at ht; exact ih (i + 1) t ht
theorem ke_tok_area {f : Nat → Option Nat} (hw : ke_raw f) : ∀ (g a : Nat), ∀ t, t ∈ ke_area (kz f) g a → ke_tok (kz f) t := by
  intro g
  induction g with
  | zero => intro a t ht; cases ht
  | succ g ih =>
    intro a t ht
    rcases List.mem_append.mp ht with h | h
    · rcases List.mem_append.mp h with h | h
      · exact ke_tok_lnL _ _ rfl t h
      · exact ke_tok_spL hw _ _ rfl t h
    · exact ke_tok_kids ih _ _ t h
/-- lines within an area are told by the order in which they are read -/
def ke_ren (S : ks_S) (b : Nat) : List Nat → (Nat → Option Nat) → Nat → List Nat
  | [], _, _ => []
  | t :: ts, rn, n => if 100 ≤ t ∧ ks_in S (S.2.2.1 (t - 100)) (some b) = true then (match rn (t - 100) with
    | none => (200 + n) :: ke_ren S b ts (ks_u rn (t - 100) (some n)) (n + 1)
    | some v => (200 + v) :: ke_ren S b ts rn n) else t :: ke_ren S b ts rn n
theorem ke_ren_f {S : ks_S} {b t : Nat} {ts : List Nat} {rn : Nat → Option Nat} {n : Nat} (h : ¬ (100 ≤ t ∧ ks_in S (S.2.2.1 (t - 100)) (some b) = true)) : ke_ren S b (t :: ts) rn n = t :: ke_ren S b ts rn n := if_neg h
theorem ke_ren_n {S : ks_S} {b t : Nat} {ts : List Nat} {rn : Nat → Option Nat} {n : Nat} (h : 100 ≤ t ∧ ks_in S (S.2.2.1 (t - 100)) (some b) = true) (h2 : rn (t - 100) = none) : ke_ren S b (t :: ts) rn n = (200 + n) :: ke_ren S b ts (ks_u rn (t - 100) (some n)) (n + 1) := by
  refine (if_pos h).trans ?_
  rw [h2]
theorem ke_ren_s {S : ks_S} {b t : Nat} {ts : List Nat} {rn : Nat → Option Nat} {n v : Nat} (h : 100 ≤ t ∧ ks_in S (S.2.2.1 (t - 100)) (some b) = true) (h2 : rn (t - 100) = some v) : ke_ren S b (t :: ts) rn n = (200 + v) :: ke_ren S b ts rn n := by
  refine (if_pos h).trans ?_
  rw [h2]
theorem ke_ren_len (S : ks_S) (b : Nat) : ∀ (ts : List Nat) (rn : Nat → Option Nat) (n : Nat), (ke_ren S b ts rn n).length = ts.length := by
  intro ts
  induction ts with
  | nil => exact fun _ _ => rfl
  | cons t ts ih =>
    intro rn n
    by_cases h : 100 ≤ t ∧ ks_in S (S.2.2.1 (t - 100)) (some b) = true
    · cases h2 : rn (t - 100) with
      | none => rw [ke_ren_n h h2, List.length_cons, ih, List.length_cons]
      | some v => rw [ke_ren_s h h2, List.length_cons, ih, List.length_cons]
    · rw [ke_ren_f h, List.length_cons, ih, List.length_cons]
theorem ke_ren_lt (S : ks_S) (b : Nat) : ∀ (ts : List Nat) (rn : Nat → Option Nat) (n : Nat), (∀ t, t ∈ ts → ke_tok S t) → (∀ q v, rn q = some v → v < 100) → n + ts.length ≤ 100 → ∀ t, t ∈ ke_ren S b ts rn n → t < 1000 := by
  intro ts
  induction ts with
  | nil => intro _ _ _ _ _ t ht; cases ht
  | cons t ts ih =>
    intro rn n ht hr hn x hx
    have hl : n + (ts.length + 1) ≤ 100 := hn
    by_cases h : 100 ≤ t ∧ ks_in S (S.2.2.1 (t - 100)) (some b) = true
    · cases h2 : rn (t - 100) with
      | none =>
        rw [ke_ren_n h h2] at hx
        rcases List.mem_cons.mp hx with h3 | h3
        · omega
        · refine ih _ _ (fun y hy => ht y (List.mem_cons_of_mem _ hy)) (fun q v hq => ?_) (by omega) x h3
          unfold ks_u at hq
          by_cases hq2 : q = t - 100
          · rw [if_pos hq2] at hq; have := Option.some.inj hq; omega
          · rw [if_neg hq2] at hq; exact hr q v hq
      | some v =>
        rw [ke_ren_s h h2] at hx
        have := hr _ _ h2
        rcases List.mem_cons.mp hx with h3 | h3
        · omega
        · exact ih _ _ (fun y hy => ht y (List.mem_cons_of_mem _ hy)) hr (by omega) x h3
    · rw [ke_ren_f h] at hx
      rcases List.mem_cons.mp hx with h3 | h3
      · rcases ht t List.mem_cons_self with h4 | ⟨n, h4, h5, -⟩
        · omega
        · omega
      · exact ih _ _ (fun y hy => ht y (List.mem_cons_of_mem _ hy)) hr (by omega) x h3
def ke_part (S : ks_S) (k n : Nat) : List Nat := if k = 0 then ke_sp S n else ke_ren S n (ke_area S 13 n) (fun _ => none) 0
/-- no area is longer than the rows of tokens -/
def ke_short (S : ks_S) : Prop := ∀ a, kt_is S a → (ke_area S 13 a).length ≤ 70
theorem ke_sp_len {S : ks_S} (o : ks_ok S) {s : Nat} (hs : s < 12) : (ke_sp S s).length ≤ 3 := by
  unfold ke_sp
  rw [List.length_cons, ke_hk_len]
  have := kc_places_le (o.2.1 s hs)
  omega
theorem ke_lt100 {t : Nat} (h : t < 100) : nI t - nI 100 < 0 := pk_sneg (by decide) h
/-- no line has a new name yet -/
def ke_rn0 (f : Nat → Option Nat) (i : Nat) : Nat → Option Nat := kd_nl0 f i
theorem ke_sp_lt {S : ks_S} (o : ks_ok S) {s : Nat} (hs : s < 12) : ∀ t, t ∈ ke_sp S s → t < 1000 := by
  have hk : ∀ (j i : Nat), i + j ≤ 2 → ∀ t, t ∈ ke_hk S s i j → t < 1000 := by
    intro j
    induction j with
    | zero => intro i _ t ht; cases ht
    | succ j ih =>
      intro i hi t ht
      rcases List.mem_cons.mp ht with h | h
      · have h6 := o.hk (i := 2 * s + i) (by omega)
        cases hv : S.2.2.2.2 (2 * s + i) with
        | none => rw [hv] at h; have h : t = 100 + 0 := h; omega
        | some v => have := h6 v hv; rw [hv] at h; have h : t = 100 + v := h; omega
      · exact ih (i + 1) (by omega) t h
  intro t ht
  have h4 := o.2.1 s hs
  rcases List.mem_cons.mp ht with h | h
  · omega
  · exact hk _ 0 (by have := kc_places_le h4; omega) t h
theorem ke_part_lt {f : Nat → Option Nat} (o : ks_ok (kz f)) (hw : ke_raw f) (hr : ∀ a, a = 0 ∨ ¬ (kz f).2.1 a = none → a < 13 → (ke_area (kz f) 13 a).length ≤ 70) {k n : Nat} (hk : k < 2) (hn : n < ks_len k) (h1 : k = 1 → ¬ (kz f).2.1 n = none) : (∀ t, t ∈ ke_part (kz f) k n → t < 1000) ∧ (ke_part (kz f) k n).length ≤ 70 := by
  unfold ke_part
  by_cases h0 : k = 0
  · rw [if_pos h0]
    subst h0
    have hn : n < 12 := hn
    have := ke_sp_len o hn
    exact ⟨ke_sp_lt o hn, by omega⟩
  · rw [if_neg h0]
    have k1 : k = 1 := by omega
    subst k1
    have hn : n < 13 := hn
    have hl := hr n (Or.inr (h1 rfl)) hn
    refine ⟨ke_ren_lt _ _ _ _ _ (ke_tok_area hw 13 n) (fun q v hq => nomatch hq) (by omega), ?_⟩
    rw [ke_ren_len]; exact hl
/-- another part that is alike -/
def ke_other (S : ks_S) (k n : Nat) : Bool := ks_any (fun i => kc_may S k n i (ks_areaI S (nI k) (nI n)) && decide (ke_part S k i = ke_part S k n)) k 12
def ke_W (M : km_M) : (Nat × Bool × Nat) × (Nat → Option Nat) × (Nat → Option Nat) × (Nat → Nat) × (Nat → Nat) := ((m_th M, m_st M, m_mv M), m_sh M, m_kp M, m_hb M, m_nn M)
theorem ke_W_of {A B : km_M} (h : ke_V A = ke_V B) : ke_W A = ke_W B := by
  have e1 : m_th A = m_th B := congrArg (fun z => z.1.1) h
  have e2 : m_st A = m_st B := congrArg (fun z => z.1.2.1) h
  have e3 : m_mv A = m_mv B := congrArg (fun z => z.1.2.2.1) h
  have e4 : m_sh A = m_sh B := congrArg (fun z => z.2.1) h
  have e5 : m_kp A = m_kp B := congrArg (fun z => z.2.2.1) h
  have e6 : m_hb A = m_hb B := congrArg (fun z => z.2.2.2.2.1) h
  have e7 : m_nn A = m_nn B := congrArg (fun z => z.2.2.2.2.2) h
  unfold ke_W
  rw [e1, e2, e3, e4, e5, e6, e7]
/-- the same to the eye -/
def ke_Vu (A B : km_M) : Prop := m_th A = m_th B ∧ m_st A = m_st B ∧ m_mv A = m_mv B ∧ m_sh A = m_sh B ∧ m_kp A = m_kp B ∧ m_nn A = m_nn B ∧ m_rd A = m_rd B ∧ ∀ i, i < m_rd B → m_tk A i = m_tk B i
theorem ke_Vu.th {A B : km_M} (h : ke_Vu A B) : m_th A = m_th B := h.1
theorem ke_Vu.st {A B : km_M} (h : ke_Vu A B) : m_st A = m_st B := h.2.1
theorem ke_Vu.mv {A B : km_M} (h : ke_Vu A B) : m_mv A = m_mv B := h.2.2.1
theorem ke_Vu.sh {A B : km_M} (h : ke_Vu A B) : m_sh A = m_sh B := h.2.2.2.1
theorem ke_Vu.kp {A B : km_M} (h : ke_Vu A B) : m_kp A = m_kp B := h.2.2.2.2.1
theorem ke_Vu.nn {A B : km_M} (h : ke_Vu A B) : m_nn A = m_nn B := h.2.2.2.2.2.1
theorem ke_Vu.rd {A B : km_M} (h : ke_Vu A B) : m_rd A = m_rd B := h.2.2.2.2.2.2.1
theorem ke_Vu.tk {A B : km_M} (h : ke_Vu A B) : ∀ i, i < m_rd B → m_tk A i = m_tk B i := h.2.2.2.2.2.2.2
theorem ke_Vu_st {A B : km_M} (h : ke_Vu A B) (i : Nat) (o : Option Nat) : ke_Vu (km_st A i o) (km_st B i o) := by
  refine ⟨h.th, h.st, h.mv, ?_, h.kp, h.nn, h.rd, h.tk⟩
  show ks_u (m_sh A) i o = ks_u (m_sh B) i o
  rw [h.sh]
theorem ke_Vu_rmS {A B : km_M} (h : ke_Vu A B) (s : Nat) : ke_Vu (km_rmS A s) (km_rmS B s) := ke_Vu_st (ke_Vu_st (ke_Vu_st (ke_Vu_st h _ _) _ _) _ _) _ _
theorem ke_Vu_S {A B : km_M} (h : ke_Vu A B) : km_S A = km_S B := congrArg kz h.sh
theorem ke_Vu_rcS (c : Nat) : ∀ (j i : Nat) (A B : km_M), ke_Vu A B → ke_Vu (km_rcS c i j A) (km_rcS c i j B) := by
  intro j
  induction j with
  | zero => exact fun _ _ _ h => h
  | succ j ih =>
    intro i A B h
    refine ih _ _ _ ?_
    rw [ke_Vu_S h]
    split
    · exact ke_Vu_rmS h i
    · exact h
theorem ke_Vu_rcL (c : Nat) : ∀ (j i : Nat) (A B : km_M), ke_Vu A B → ke_Vu (km_rcL c i j A) (km_rcL c i j B) := by
  intro j
  induction j with
  | zero => exact fun _ _ _ h => h
  | succ j ih =>
    intro i A B h
    refine ih _ _ _ ?_
    rw [ke_Vu_S h]
    split
    · exact ke_Vu_st h _ _
    · exact h
theorem ke_Vu_rcN (c : Nat) : ∀ (j i : Nat) (A B : km_M), ke_Vu A B → ke_Vu (km_rcN c i j A) (km_rcN c i j B) := by
  intro j
  induction j with
  | zero => exact fun _ _ _ h => h
  | succ j ih =>
    intro i A B h
    refine ih _ _ _ ⟨h.th, h.st, h.mv, h.sh, h.kp, ?_, h.rd, h.tk⟩
    show ks_un (m_nn A) i (km_rcNat A c i) = ks_un (m_nn B) i (km_rcNat B c i)
    unfold km_rcNat
    rw [ke_Vu_S h, h.nn]
theorem ke_Vu_rcC : ∀ (j i : Nat) (A B : km_M), ke_Vu A B → ke_Vu (km_rcC i j A) (km_rcC i j B) := by
  intro j
  induction j with
  | zero => exact fun _ _ _ h => h
  | succ j ih =>
    intro i A B h
    refine ih _ _ _ ?_
    rw [h.nn, h.sh]
    exact ke_Vu_st h _ _
theorem ke_Vu_rcA {A B : km_M} (h : ke_Vu A B) (c : Nat) : ke_Vu (km_rcA A c) (km_rcA B c) := ke_Vu_rcC _ _ _ _ (ke_Vu_rcN c _ _ _ _ (ke_Vu_rcL c _ _ _ _ (ke_Vu_rcS c _ _ _ _ h)))
theorem ke_Vu_keep {A B : km_M} (h : ke_Vu A B) : ke_Vu (km_keep A) (km_keep B) := by
  unfold km_keep
  rw [h.st]
  by_cases hs : m_st B = true
  · rw [if_pos hs, if_pos hs]
    refine ⟨h.th, h.st, ?_, h.sh, ?_, h.nn, h.rd, h.tk⟩
    · show m_mv A + 1 = m_mv B + 1
      rw [h.mv]
    · show km_kc (m_kp A) (m_sh A) (67 * m_mv A) 67 = km_kc (m_kp B) (m_sh B) (67 * m_mv B) 67
      rw [h.kp, h.sh, h.mv]
  · rw [if_neg hs, if_neg hs]; exact h
theorem ke_Vu_refl (A : km_M) : ke_Vu A A := ⟨rfl, rfl, rfl, rfl, rfl, rfl, rfl, fun _ _ => rfl⟩
def km_unT (M : km_M) (k n : Nat) : Nat := if m_st M = true ∧ ke_other (km_S M) k n = true then km_late M else 2
def km_uncopyN (M : km_M) (k n : Nat) : Nat × km_M := if km_unT M k n = 0 then (m_mv (km_erM (km_keep (s_th M 0)) k n), km_erM (km_keep (s_th M 0)) k n) else (0, s_th M (km_unT M k n))
def km_uncopy (M : km_M) (k n : Int32) : Nat × km_M := if ks_partI (km_S M) k n = true then km_uncopyN M k.toNatClampNeg n.toNatClampNeg else (0, s_th M 1)
def ke_unP (M : km_M) (k n : Int32) (v : Option Value) (M' : km_M) : Prop := v = some (.int (nI (km_uncopy M k n).1)) ∧ ke_Vu M' (km_uncopy M k n).2
/-- the first i tokens laid aside -/
def ke_sv (f g : Nat → Nat) (i : Nat) : Nat → Nat := fun q => if q < i then g q else f q
theorem ke_sv_0 (f g : Nat → Nat) : ke_sv f g 0 = f := by
  funext q
  exact if_neg (by omega)
theorem ke_sv_u (f g : Nat → Nat) (i : Nat) : ks_un (ke_sv f g i) i (g i) = ke_sv f g (i + 1) := by
  funext q
  unfold ks_un ke_sv
  by_cases h : q = i
  · subst h
    rw [if_pos rfl, if_pos (by omega)]
  · rw [if_neg h]
    by_cases h2 : q < i
    · rw [if_pos h2, if_pos (by omega)]
    · rw [if_neg h2, if_neg (by omega)]
theorem ke_ext {L O : List Nat} (hl : L.length = O.length) (h : ∀ p, p < L.length → L[p]? = O[p]?) : L = O := by
  refine List.ext_getElem? fun p => ?_
  by_cases hp : p < L.length
  · exact h p hp
  · rw [List.getElem?_eq_none (by omega), List.getElem?_eq_none (by omega)]
theorem ke_get {L : List Nat} {p : Nat} (h : p < L.length) : ∃ t, L[p]? = some t ∧ t ∈ L := ⟨L[p], List.getElem?_eq_getElem h, List.getElem_mem h⟩
