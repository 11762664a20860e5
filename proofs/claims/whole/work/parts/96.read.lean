/-! Mathematics: readings. -/
def kx_st (S : ks_S) (X : kr_X) (t : Nat) : kr_X := if t < 100 then kr_add X t else kr_line S X (some (t - 100))
def kx_run (S : ks_S) (X : kr_X) (L : List Nat) : kr_X := L.foldl (kx_st S) X
theorem kx_app (S : ks_S) (X : kr_X) (A B : List Nat) : kx_run S X (A ++ B) = kx_run S (kx_run S X A) B := List.foldl_append
theorem kx_cons (S : ks_S) (X : kr_X) (t : Nat) (B : List Nat) : kx_run S X (t :: B) = kx_run S (kx_st S X t) B := rfl
theorem kx_lo (S : ks_S) (X : kr_X) {t : Nat} (h : t < 100) : kx_st S X t = kr_add X t := if_pos h
theorem kx_hi (S : ks_S) (X : kr_X) (n : Nat) : kx_st S X (100 + n) = kr_line S X (some n) := by
  unfold kx_st
  rw [if_neg (by omega), Nat.add_sub_cancel_left]
theorem kx_hooks {S T : ks_S} {s g : Nat} (hh : ∀ k, k < g → ∃ n, S.2.2.2.2 (2 * s + k) = some n ∧ T.2.2.2.2 (2 * s + k) = some n) : ∀ (j i : Nat) (X : kr_X), i + j = g → kr_hooks S s i j X = kx_run S X (ke_hk T s i j) := by
  intro j
  induction j with
  | zero => exact fun _ _ _ => rfl
  | succ j ih =>
    intro i X hi
    obtain ⟨n, h1, h2⟩ := hh i (by omega)
    have e1 : kr_hooks S s i (j + 1) X = kr_hooks S s (i + 1) j (kr_line S X (S.2.2.2.2 (2 * s + i))) := rfl
    have e2 : ke_hk T s i (j + 1) = (100 + (T.2.2.2.2 (2 * s + i)).getD 0) :: ke_hk T s (i + 1) j := rfl
    rw [e1, e2, h1, h2, kx_cons, show (some n).getD 0 = n from rfl, kx_hi]
    exact ih (i + 1) _ (by omega)
theorem kx_spot {S : ks_S} {f : Nat → Option Nat} (h : kq S f) {s : Nat} (hs : s < 12) (hn : ¬ (kz f).1 s = none) (X : kr_X) : kr_spot S X s = kx_run S X (ke_sp (kz f) s) := by
  obtain ⟨⟨e, e2⟩, ⟨o, hk⟩, h3⟩ := h
  obtain ⟨g1, g2⟩ := e2 s hs hn
  obtain ⟨a, ha⟩ : ∃ a, (kz f).1 s = some a := by
    cases ha : (kz f).1 s with
    | none => exact absurd ha hn
    | some a => exact ⟨a, rfl⟩
  have g4 := o.1.2.1 s hs
  have pl := kc_places_le g4
  unfold kr_spot ke_sp
  rw [g1, kx_cons, kx_lo S X (by omega)]
  refine kx_hooks (g := kc_places ((kz f).2.2.2.1 s)) (fun k hk2 => ?_) _ _ _ (by omega)
  obtain ⟨n, b, -, h7, -⟩ := (hk.1 s a hs ha k (by omega)).1 hk2
  exact ⟨n, (g2 k (by omega)).trans h7, h7⟩
theorem kx_lines {S T : ks_S} (e : S.2.2.1 = T.2.2.1) {a : Nat} : ∀ (j i : Nat) (X : kr_X), kr_lines S a i j X = kx_run S X (ke_lnL T a i j) := by
  intro j
  induction j with
  | zero => exact fun _ _ => rfl
  | succ j ih =>
    intro i X
    have e1 : kr_lines S a i (j + 1) X = kr_lines S a (i + 1) j (if S.2.2.1 i = some a then kr_line S X (some i) else X) := rfl
    rw [e1, e]
    by_cases h : T.2.2.1 i = some a
    · rw [if_pos h, ke_lnL_t h, kx_cons, kx_hi]; exact ih _ _
    · rw [if_neg h, ke_lnL_f h]; exact ih _ _
theorem kx_spots {S : ks_S} {f : Nat → Option Nat} (h : kq S f) {a : Nat} : ∀ (j i : Nat) (X : kr_X), i + j = 12 → kr_spots S a i j X = kx_run S X (ke_spL (kz f) a i j) := by
  intro j
  induction j with
  | zero => exact fun _ _ _ => rfl
  | succ j ih =>
    intro i X hi
    have e1 : kr_spots S a i (j + 1) X = kr_spots S a (i + 1) j (if S.1 i = some a then kr_spot S X i else X) := rfl
    rw [e1, h.1.1.1]
    by_cases c : (kz f).1 i = some a
    · rw [if_pos c, ke_spL_t c, kx_app, ← kx_spot h (by omega) (by rw [c]; exact fun w => nomatch w)]; exact ih _ _ (by omega)
    · rw [if_neg c, ke_spL_f c]; exact ih _ _ (by omega)
theorem kx_area {S : ks_S} {f : Nat → Option Nat} (h : kq S f) : ∀ (n : Nat) (X : kr_X) (a : Nat), kr_area S n X a = kx_run S X (ke_area (kz f) n a) := by
  intro n
  induction n with
  | zero => exact fun _ _ => rfl
  | succ n ih =>
    intro X a
    have kids : ∀ (j i : Nat) (X : kr_X), kr_cuts (kr_area S n) S a i j X = kx_run S X (ke_kids (ke_area (kz f) n) (kz f) a i j) := by
      intro j
      induction j with
      | zero => exact fun _ _ => rfl
      | succ j ihj =>
        intro i X
        have e1 : kr_cuts (kr_area S n) S a i (j + 1) X = kr_cuts (kr_area S n) S a (i + 1) j (if S.2.1 i = some a then kr_add (kr_area S n (kr_add X 1) i) 2 else X) := rfl
        rw [e1, h.1.1.2.1]
        by_cases c : (kz f).2.1 i = some a
        · rw [if_pos c, ke_kids_t c, List.cons_append, kx_cons, kx_lo S X (by decide), List.append_assoc, kx_app, ← ih]
          rw [List.singleton_append, kx_cons, kx_lo S _ (by decide)]
          exact ihj _ _
        · rw [if_neg c, ke_kids_f c]; exact ihj _ _
    have e1 : kr_area S (n + 1) X a = kr_cuts (kr_area S n) S a 1 12 (kr_spots S a 0 12 (kr_lines S a 0 6 X)) := rfl
    have e2 : ke_area (kz f) (n + 1) a = ke_own (kz f) a ++ ke_kids (ke_area (kz f) n) (kz f) a 1 12 := rfl
    rw [e1, e2, kx_app, kids 12 1]
    unfold ke_own
    rw [kx_app, ← kx_lines h.1.1.2.2, ← kx_spots h 12 0 _ rfl]
/-- a reading holds a row of tokens -/
def kx_has (X : kr_X) (L : List Nat) : Prop := X.2.1 = L.length ∧ ke_hasL X.1 0 L
theorem kx_has_add {X : kr_X} {L : List Nat} (h : kx_has X L) (hl : L.length < 66) (t : Nat) : kx_has (kr_add X t) (L ++ [t]) ∧ (kr_add X t).2.2 = X.2.2 := by
  have e : kr_add X t = (ks_un X.1 X.2.1 t, X.2.1 + 1, X.2.2) := if_pos (by rw [h.1]; exact hl)
  rw [e]
  refine ⟨⟨?_, ?_⟩, rfl⟩
  · show X.2.1 + 1 = _
    rw [h.1, List.length_append]; rfl
  · show ke_hasL (ks_un X.1 X.2.1 t) 0 (L ++ [t])
    refine ke_hasL_snoc (ke_hasL_un h.2 (Or.inr (by rw [h.1]; omega))) ?_
    rw [Nat.zero_add, h.1]
    exact if_pos rfl
/-- lines that are told by their order -/
theorem kx_ren {S T : ks_S} (e : S.2.2.1 = T.2.2.1) {b : Nat} {m : Nat} (hm : ∀ q y, q < 6 → T.2.2.1 q = some y → ks_am m (T.2.2.1 q) = ks_in T (T.2.2.1 q) (some b)) : ∀ (ts : List Nat) (X : kr_X) (pre : List Nat) (rn : Nat → Option Nat) (n : Nat), (∀ t, t ∈ ts → ke_tok T t) → kx_has X pre → X.2.2.1 = m → (∀ q, q < 6 → X.2.2.2.1 q = rn q) → X.2.2.2.2 = n → pre.length + ts.length ≤ 66 → kx_has (kx_run S X ts) (pre ++ ke_ren T b ts rn n) := by
  intro ts
  induction ts with
  | nil => intro X pre rn n _ h _ _ _ _; rw [show ke_ren T b [] rn n = [] from rfl, List.append_nil]; exact h
  | cons t ts ih =>
    intro X pre rn n ht hX hm2 hr hn hl
    have hl : pre.length + (ts.length + 1) ≤ 66 := hl
    have ht' : ∀ y, y ∈ ts → ke_tok T y := fun y hy => ht y (List.mem_cons_of_mem _ hy)
    have fwd : ∀ (Y : kr_X) (v : Nat) (rn2 : Nat → Option Nat) (n2 : Nat), kx_has Y (pre ++ [v]) → Y.2.2.1 = m → (∀ q, q < 6 → Y.2.2.2.1 q = rn2 q) → Y.2.2.2.2 = n2 → ke_ren T b (t :: ts) rn n = v :: ke_ren T b ts rn2 n2 → kx_has (kx_run S Y ts) (pre ++ ke_ren T b (t :: ts) rn n) := fun Y v rn2 n2 a1 a2 a3 a4 a5 => by
      have := ih Y (pre ++ [v]) rn2 n2 ht' a1 a2 a3 a4 (by rw [List.length_append]; show pre.length + 1 + _ ≤ 66; omega)
      rw [a5]
      rw [List.append_assoc] at this
      exact this
    rw [kx_cons]
    rcases ht t List.mem_cons_self with h100 | ⟨q, q6, eq, hq⟩
    · rw [kx_lo S X h100]
      obtain ⟨a1, a2⟩ := kx_has_add hX (by omega) t
      exact fwd _ t rn n a1 (by rw [a2]; exact hm2) (by rw [a2]; exact hr) (by rw [a2]; exact hn) (ke_ren_f (fun w => by have := w.1; omega))
    · obtain ⟨y, hy⟩ : ∃ y, T.2.2.1 q = some y := by
        cases hy : T.2.2.1 q with
        | none => exact absurd hy hq
        | some y => exact ⟨y, rfl⟩
      have am := hm q y q6 hy
      have tq : t - 100 = q := by omega
      rw [eq, kx_hi]
      rw [eq] at fwd
      have el : kr_line S X (some q) = if ks_am X.2.2.1 (S.2.2.1 q) = true then kr_add (kr_ord X q) (200 + ((kr_ord X q).2.2.2.1 q).getD 0) else kr_add X (100 + q) := rfl
      rw [el, hm2, e, am]
      have cq : 100 + q - 100 = q := by omega
      cases hin : ks_in T (T.2.2.1 q) (some b) with
      | false =>
        rw [if_neg (by decide)]
        obtain ⟨a1, a2⟩ := kx_has_add hX (by omega) (100 + q)
        refine fwd _ (100 + q) rn n a1 (by rw [a2]; exact hm2) (by rw [a2]; exact hr) (by rw [a2]; exact hn) (ke_ren_f (fun w => ?_))
        have w := w.2
        rw [cq, hin] at w; cases w
      | true =>
        rw [if_pos rfl]
        have cc : 100 ≤ 100 + q ∧ ks_in T (T.2.2.1 (100 + q - 100)) (some b) = true := ⟨by omega, by rw [cq]; exact hin⟩
        cases hrn : rn q with
        | none =>
          have eo : kr_ord X q = (X.1, X.2.1, X.2.2.1, ks_u X.2.2.2.1 q (some X.2.2.2.2), X.2.2.2.2 + 1) := if_pos ((hr q q6).trans hrn)
          have hX2 : kx_has (kr_ord X q) pre := by rw [eo]; exact hX
          obtain ⟨a1, a2⟩ := kx_has_add hX2 (by omega) (200 + n)
          have ev : 200 + ((kr_ord X q).2.2.2.1 q).getD 0 = 200 + n := by
            rw [eo]
            show 200 + (ks_u X.2.2.2.1 q (some X.2.2.2.2) q).getD 0 = _
            rw [ks_u_at, hn]; rfl
          rw [ev]
          have hnn := ke_ren_n (ts := ts) (rn := rn) (n := n) cc (by rw [cq]; exact hrn)
          rw [cq] at hnn
          refine fwd _ (200 + n) (ks_u rn q (some n)) (n + 1) a1 (by rw [a2, eo]; exact hm2) (fun p hp => ?_) (by rw [a2, eo]; show X.2.2.2.2 + 1 = _; rw [hn]) hnn
          rw [a2, eo]
          show ks_u X.2.2.2.1 q (some X.2.2.2.2) p = ks_u rn q (some n) p
          by_cases c : p = q
          · rw [c, ks_u_at, ks_u_at, hn]
          · rw [ks_u_ne _ _ c, ks_u_ne _ _ c, hr p hp]
        | some v =>
          have eo : kr_ord X q = X := if_neg (by rw [hr q q6, hrn]; exact fun w => nomatch w)
          obtain ⟨a1, a2⟩ := kx_has_add hX (by omega) (200 + v)
          have ev : 200 + ((kr_ord X q).2.2.2.1 q).getD 0 = 200 + v := by rw [eo, hr q q6, hrn]; rfl
          rw [ev, eo]
          exact fwd _ (200 + v) rn n a1 (by rw [a2]; exact hm2) (by rw [a2]; exact hr) (by rw [a2]; exact hn) (ke_ren_s cc (by rw [cq]; exact hrn))
/-- no line is told by its order -/
theorem kx_plain {S : ks_S} : ∀ (ts : List Nat) (X : kr_X) (pre : List Nat), kx_has X pre → X.2.2.1 = 0 → pre.length + ts.length ≤ 66 → kx_has (kx_run S X ts) (pre ++ ts) := by
  intro ts
  induction ts with
  | nil => intro X pre h _ _; rw [List.append_nil]; exact h
  | cons t ts ih =>
    intro X pre h h0 hl
    have hl : pre.length + (ts.length + 1) ≤ 66 := hl
    have est : kx_st S X t = kr_add X t := by
      by_cases c : t < 100
      · exact kx_lo S X c
      · have e : t = 100 + (t - 100) := by omega
        rw [e, kx_hi]
        have el : kr_line S X (some (t - 100)) = if ks_am X.2.2.1 (S.2.2.1 (t - 100)) = true then kr_add (kr_ord X (t - 100)) (200 + ((kr_ord X (t - 100)).2.2.2.1 (t - 100)).getD 0) else kr_add X (100 + (t - 100)) := rfl
        rw [el, h0, if_neg (fun w => ?_)]
        cases hz : S.2.2.1 (t - 100) with
        | none => rw [hz] at w; cases w
        | some a =>
          rw [hz] at w
          have w : (0 : Nat).testBit a = true := w
          rw [Nat.zero_testBit] at w; cases w
    rw [kx_cons, est]
    obtain ⟨a1, a2⟩ := kx_has_add h (by omega) t
    have := ih (kr_add X t) (pre ++ [t]) a1 (by rw [a2]; exact h0) (by rw [List.length_append]; show pre.length + 1 + _ ≤ 66; omega)
    rw [List.append_assoc] at this
    exact this
theorem kx_take {S : ks_S} {f : Nat → Option Nat} (h : kq S f) (X : kr_X) {a : Nat} (ha : kt_is (kz f) a) : kx_has (kr_take S X a) (ke_area (kz f) 13 a) := by
  unfold kr_take
  rw [kx_area h]
  have := kx_plain (S := S) (ke_area (kz f) 13 a) (kr_clear X 0) [] ⟨rfl, ke_hasL_nil _ _⟩ rfl (by have := ke_area_66 h.2.1.1 ha; show 0 + _ ≤ 66; omega)
  rw [List.nil_append] at this
  exact this
theorem kx_part {S : ks_S} {f : Nat → Option Nat} (h : kq S f) (X : kr_X) {k n x : Nat} (hk : k < 2) (hn : n < ks_len k) (hx : ks_row (kz f) k n = some x) : kx_has (kr_part S X k n) (ke_part (kz f) k n) ∧ (ke_part (kz f) k n).length ≤ 66 := by
  have o := h.2.1.1
  unfold kr_part ke_part
  by_cases k0 : k = 0
  · rw [if_pos k0, if_pos k0]
    subst k0
    have hn : n < 12 := hn
    have hx : (kz f).1 n = some x := hx
    have l3 := ke_sp_len o.1 hn
    rw [kx_spot h hn (by rw [hx]; exact fun w => nomatch w)]
    have := kx_plain (S := S) (ke_sp (kz f) n) (kr_clear X 0) [] ⟨rfl, ke_hasL_nil _ _⟩ rfl (by show 0 + _ ≤ 66; omega)
    rw [List.nil_append] at this
    exact ⟨this, by omega⟩
  · rw [if_neg k0, if_neg k0]
    have k1 : k = 1 := by omega
    subst k1
    have hn : n < 13 := hn
    have hx : (kz f).2.1 n = some x := hx
    have hi : kt_is (kz f) n := o.2.2 n hn (Or.inr (by rw [hx]; exact fun w => nomatch w))
    have l66 := ke_area_66 o hi
    rw [kx_area h]
    have := kx_ren (S := S) (T := kz f) h.1.1.2.2 (b := n) (m := ks_mask S (some n)) (fun q y q6 hy => by rw [kq_mask h.1.1]; exact kq_am o (fun z hz => o.2.1 2 q z (by decide) q6 hz) n) (ke_area (kz f) 13 n) (kr_clear X (ks_mask S (some n))) [] (fun _ => none) 0 (ke_tok_area (kq_raw h.2) 13 n) ⟨rfl, ke_hasL_nil _ _⟩ rfl (fun q q6 => if_pos q6) rfl (by show 0 + _ ≤ 66; omega)
    rw [List.nil_append] at this
    exact ⟨this, by rw [ke_ren_len]; exact l66⟩
theorem kx_same {X Y : kr_X} {A B : List Nat} (hX : kx_has X A) (hY : kx_has Y B) : kr_same X Y = decide (A = B) := by
  unfold kr_same
  rw [hX.1, hY.1]
  by_cases c : A = B
  · rw [decide_eq_true c, decide_eq_true (by rw [c]), Bool.true_and]
    cases hz : ks_any (fun i => !decide (X.1 i = Y.1 i)) 0 A.length with
    | false => rfl
    | true =>
      obtain ⟨i, -, h2, h3⟩ := ks_any_iff.mp hz
      obtain ⟨t, ht, -⟩ := ke_get (L := A) (p := i) (by omega)
      have a1 := hX.2 i t ht
      have a2 := hY.2 i t (by rw [← c]; exact ht)
      rw [Nat.zero_add] at a1 a2
      rw [a1, a2, decide_eq_true rfl] at h3
      cases h3
  · rw [decide_eq_false c]
    by_cases cl : A.length = B.length
    · rw [decide_eq_true cl, Bool.true_and]
      cases hz : ks_any (fun i => !decide (X.1 i = Y.1 i)) 0 A.length with
      | true => rfl
      | false =>
        refine absurd (ke_ext cl (fun p hp => ?_)) c
        obtain ⟨t, ht, -⟩ := ke_get hp
        obtain ⟨u, hu, -⟩ := ke_get (L := B) (p := p) (by omega)
        have a1 := hX.2 p t ht
        have a2 := hY.2 p u hu
        rw [Nat.zero_add] at a1 a2
        by_cases e : t = u
        · rw [ht, hu, e]
        · have : ks_any (fun i => !decide (X.1 i = Y.1 i)) 0 A.length = true := ks_any_iff.mpr ⟨p, by omega, by omega, by show (!decide (X.1 p = Y.1 p)) = true; rw [a1, a2, decide_eq_false e]; rfl⟩
          rw [hz] at this; cases this
    · rw [decide_eq_false cl]; rfl
theorem kq_read {C : kc_C} {M M' : km_M} {v : Option Value} (h : kq_R C M) (a : Int32) (hP : ke_readP M a v M') : ∃ b : Int32, v = some (.int b) ∧ kq_st (fun _ => 1) (kc_read C a) b M' := by
  have h4 := h.2.2.1.1
  have e := h4.1.1
  have o := h4.2.1.1
  rcases hP with ⟨c1, rfl, hi, hV⟩ | ⟨c1, rfl, rfl⟩
  · refine ⟨_, rfl, ?_⟩
    unfold kc_read
    rw [kq_harI e, if_pos (show ks_harI (kz (m_sh M)) a = true from c1)]
    obtain ⟨i, i13, rfl, hti⟩ := km_har o c1
    have cl : (nI i).toNatClampNeg = i := nI_clamp (by omega)
    rw [cl] at hi ⊢
    have tk := kx_take h4 C.2.1.1 hti
    have v1 : m_th M' = 0 := congrArg (fun z => z.1.1) hV
    have v2 : m_st M' = m_st M := congrArg (fun z => z.1.2.1) hV
    have v3 : m_mv M' = m_mv M := congrArg (fun z => z.1.2.2.1) hV
    have v4 : m_sh M' = m_sh M := congrArg (fun z => z.2.1) hV
    have v5 : m_kp M' = m_kp M := congrArg (fun z => z.2.2.1) hV
    obtain ⟨⟨ok, k1⟩, ⟨k2, k3⟩, k4, -⟩ := h
    refine ⟨v1.symm, fun y w => ?_, ⟨⟨⟨ok.1, ok.2.1, ok.2.2.1, kr_ok_area (ok.1 _ (by have := ok.2.1; omega)) 13 _ i (kr_ok_clear _ (by decide)), ok.2.2.2.2⟩, k1⟩, ⟨v3.trans k2, v2.trans k3⟩, by rw [v3, v4, v5]; exact k4, _, ke_area_66 o hti, tk, hi⟩⟩
    unfold kc_nat at w
    cases w
    rw [tk.1]
    rfl
  · refine ⟨_, rfl, ?_⟩
    unfold kc_read
    rw [kq_harI e, if_neg (show ¬ ks_harI (kz (m_sh M)) a = true by rw [show ks_harI (kz (m_sh M)) a = false from c1]; decide)]
    exact kq_bad h rfl
/-- another part that is alike is found by both -/
theorem kq_alike {C : kc_C} {M : km_M} (h : kq_R C M) {k n x : Nat} (hk : k < 2) (hn : n < ks_len k) (hx : ks_row (km_S M) k n = some x) : (kc_alike C k n).1 = ke_other (km_S M) k n := by
  have h4 := h.2.2.1.1
  have e := h4.1.1
  have o := h4.2.1.1
  obtain ⟨tX, -⟩ := kx_part h4 C.2.1.2.1 hk hn hx
  have may : ∀ i y, kc_may (kc_S C) k n i y = kc_may (km_S M) k n i y := fun i y => by
    unfold kc_may
    rw [kq_partI e, kq_in e, kq_areaI e]
    rfl
  have ea : ks_areaI (kc_S C) (nI k) (nI n) = ks_areaI (km_S M) (nI k) (nI n) := by rw [kq_areaI e]; rfl
  obtain ⟨p, ep⟩ : ∃ p : Nat → Bool, p = fun i => kc_may (km_S M) k n i (ks_areaI (km_S M) (nI k) (nI n)) && decide (ke_part (km_S M) k i = ke_part (km_S M) k n) := ⟨_, rfl⟩
  have pin : ∀ i, i < 100 → kc_may (km_S M) k n i (ks_areaI (km_S M) (nI k) (nI n)) = true → i < ks_len k ∧ ∃ y, ks_row (km_S M) k i = some y := fun i hi this => by
    unfold kc_may at this
    obtain ⟨-, w⟩ := Bool.and_eq_true_iff.mp this
    obtain ⟨w, -⟩ := Bool.and_eq_true_iff.mp w
    obtain ⟨-, w⟩ := Bool.and_eq_true_iff.mp w
    obtain ⟨k', n', y, e1, e2, g1, g2, g3⟩ := ks_hasI_true w
    have hl' := ks_len_le k'
    have e1 := (nI_eq (by omega) (by omega)).mp e1
    subst e1
    have e2 := (nI_eq (by omega) (by omega)).mp e2
    subst e2
    exact ⟨g2, y, g3⟩
  have loop : ∀ (j i : Nat) (Y : kr_X), i + j = 13 → (kc_alk (kc_S C) k n (ks_areaI (kc_S C) (nI k) (nI n)) (kr_part (kc_S C) C.2.1.2.1 k n) i j Y).1 = ks_any p i j := by
    intro j
    induction j with
    | zero => exact fun _ _ _ => rfl
    | succ j ih =>
      intro i Y hij
      have st : kc_alk (kc_S C) k n (ks_areaI (kc_S C) (nI k) (nI n)) (kr_part (kc_S C) C.2.1.2.1 k n) i (j + 1) Y = if kc_may (kc_S C) k n i (ks_areaI (kc_S C) (nI k) (nI n)) = true then (if kr_same (kr_part (kc_S C) C.2.1.2.1 k n) (kr_part (kc_S C) Y k i) = true then (true, kr_part (kc_S C) Y k i) else kc_alk (kc_S C) k n (ks_areaI (kc_S C) (nI k) (nI n)) (kr_part (kc_S C) C.2.1.2.1 k n) (i + 1) j (kr_part (kc_S C) Y k i)) else kc_alk (kc_S C) k n (ks_areaI (kc_S C) (nI k) (nI n)) (kr_part (kc_S C) C.2.1.2.1 k n) (i + 1) j Y := rfl
      rw [st, ke_any_c, may, ea]
      have epi : p i = (kc_may (km_S M) k n i (ks_areaI (km_S M) (nI k) (nI n)) && decide (ke_part (km_S M) k i = ke_part (km_S M) k n)) := by rw [ep]
      cases hm : kc_may (km_S M) k n i (ks_areaI (km_S M) (nI k) (nI n)) with
      | false =>
        rw [if_neg (by decide), epi, hm, Bool.false_and, Bool.false_or, ← ea]
        exact ih (i + 1) Y (by omega)
      | true =>
        rw [if_pos rfl, epi, hm, Bool.true_and]
        obtain ⟨i3, y, i4⟩ := pin i (by omega) hm
        obtain ⟨tY, -⟩ := kx_part h4 Y hk i3 i4
        rw [kx_same tX tY]
        have sy : decide (ke_part (kz (m_sh M)) k n = ke_part (kz (m_sh M)) k i) = decide (ke_part (km_S M) k i = ke_part (km_S M) k n) := by
          by_cases c : ke_part (km_S M) k i = ke_part (km_S M) k n
          · rw [decide_eq_true c, decide_eq_true (show ke_part (kz (m_sh M)) k n = ke_part (kz (m_sh M)) k i from c.symm)]
          · rw [decide_eq_false c, decide_eq_false (fun w => c w.symm)]
        rw [sy]
        cases hq : decide (ke_part (km_S M) k i = ke_part (km_S M) k n) with
        | true => rw [if_pos rfl]; rfl
        | false =>
          rw [if_neg (by decide), Bool.false_or, ← ea]
          exact ih (i + 1) _ (by omega)
  have e1 : (kc_alike C k n).1 = ks_any p 0 13 := loop 13 0 _ rfl
  have e2 : ke_other (km_S M) k n = ks_any p k 12 := by rw [ep]; rfl
  rw [e1, e2, Bool.eq_iff_iff, ks_any_iff, ks_any_iff]
  have pt : ∀ i, i < 100 → p i = true → i < ks_len k ∧ ∃ y, ks_row (km_S M) k i = some y := fun i hi w => by
    rw [ep] at w
    exact pin i hi (Bool.and_eq_true_iff.mp w).1
  constructor
  · rintro ⟨i, -, h2, h3⟩
    obtain ⟨g1, y, g2⟩ := pt i (by omega) h3
    refine ⟨i, ?_, ?_, h3⟩
    · match k, hk, g2 with
      | 0, _, _ => omega
      | 1, _, g2 =>
        rcases Nat.eq_zero_or_pos i with w | w
        · have g2 : (km_S M).2.1 i = some y := g2
          rw [w, show (km_S M).2.1 0 = none from o.1.2.2.2] at g2; cases g2
        · omega
      | q + 2, hk, _ => exact absurd hk (by omega)
    · match k, hk, g1 with
      | 0, _, g1 => have g1 : i < 12 := g1; omega
      | 1, _, g1 => have g1 : i < 13 := g1; omega
      | q + 2, hk, _ => exact absurd hk (by omega)
  · rintro ⟨i, h1, h2, h3⟩
    exact ⟨i, by omega, by omega, h3⟩
theorem kq_st_Vu {cd : Nat → Nat} {R : kc_R} {b : Int32} {M' M'' : km_M} (h : kq_st cd R b M'') (v : ke_Vu M' M'') : kq_st cd R b M' := ⟨h.1.trans v.th.symm, h.2.1, kq_R_th h.2.2 v.mv v.st v.sh v.kp v.rd v.tk⟩
theorem kq_alikeC {C : kc_C} {M : km_M} (h : kq_R C M) {k n : Nat} (hk : k < 2) (hn : n < ks_len k) : kq_R (kc_alikeC C k n) M := by
  obtain ⟨⟨ok, ⟨t1, t2⟩, k1⟩, h2, h3, h4⟩ := h
  have oS : ks_ok (kc_S C) := ok.1 _ (by have := ok.2.1; omega)
  obtain ⟨a1, a2⟩ := kc_alk_ok oS (n := n) hk (y := ks_areaI (kc_S C) (nI k) (nI n)) (X := kr_part (kc_S C) C.2.1.2.1 k n) 13 0 C.2.1.2.2 rfl ok.2.2.2.2.2 t2
  exact ⟨⟨⟨ok.1, ok.2.1, ok.2.2.1, ok.2.2.2.1, kr_ok_part oS _ hk hn, a1⟩, ⟨kr_tk_part oS t1 hk hn, a2⟩, k1⟩, h2, h3, h4⟩
theorem kq_uncopy {C : kc_C} {M M' : km_M} {v : Option Value} (h : kq_R C M) (k n : Int32) (hP : ke_unP M k n v M') : ∃ b : Int32, v = some (.int b) ∧ kq_st (fun k => k + 1) (kc_uncopy C k n) b M' := by
  refine ⟨_, hP.1, kq_st_Vu ?_ hP.2⟩
  have h4 := h.2.2.1.1
  have e := h4.1.1
  have o := h4.2.1.1
  unfold kc_uncopy km_uncopy
  rw [kq_partI e]
  by_cases c1 : ks_partI (km_S M) k n = true
  · rw [if_pos (show ks_partI (kz (m_sh M)) k n = true from c1), if_pos c1]
    obtain ⟨c2, c3⟩ := Bool.and_eq_true_iff.mp c1
    obtain ⟨k', n', x, rfl, rfl, hk, hn, hx⟩ := ks_hasI_true c3
    have hl := ks_len_le k'
    have hk2 : k' < 2 := by
      have : ¬ k' = 2 := fun w => (of_decide_eq_true c2) (by rw [w])
      omega
    rw [nI_clamp (by omega), nI_clamp (by omega)]
    unfold kc_uncopyN km_uncopyN
    have al := kq_alike h hk2 hn hx
    have hC := kq_alikeC h hk2 hn
    cases hd : C.2.2.2.2.1 with
    | true =>
      have st : m_st M = false := by rw [h.2.1.2, hd]; rfl
      have eT : km_unT M k' n' = 2 := if_neg (fun w => by rw [st] at w; cases w.1)
      rw [if_pos rfl, eT, if_neg (show ¬ (2 : Nat) = 0 by decide)]
      exact kq_bad h rfl
    | false =>
      have st : m_st M = true := by rw [h.2.1.2, hd]; rfl
      rw [if_neg (show ¬ false = true by decide), al]
      cases ho : ke_other (km_S M) k' n' with
      | false =>
        have eT : km_unT M k' n' = 2 := if_neg (fun w => by rw [ho] at w; cases w.2)
        rw [if_neg (show ¬ false = true by decide), eT, if_neg (show ¬ (2 : Nat) = 0 by decide)]
        exact kq_bad hC rfl
      | true =>
        have eT : km_unT M k' n' = km_late M := if_pos ⟨st, ho⟩
        rw [if_pos rfl, eT, kc_may_st h hd]
        by_cases c7 : km_late M = 0
        · rw [if_pos c7, decide_eq_true c7, if_pos rfl]
          have hm : kc_mayCh C = true := by rw [kc_may_st h hd]; exact decide_eq_true c7
          obtain ⟨g1, g2, g3⟩ := kq_er h hk hn hx (fun w => absurd w (by omega))
          have emv : kc_mv (kc_alikeC C k' n') = kc_mv C := rfl
          refine kq_good2 hC hm g2 g1 ?_ g3
          show kc_nat (kc_mv C) = Sum.inl (some (Value.int (nI (m_mv (km_erM (km_keep (s_th M 0)) k' n')))))
          rw [kq_V_mv g3, kc_mv_st h hm]
          rfl
        · rw [if_neg c7, decide_eq_false c7, if_neg (show ¬ false = true by decide), km_late_03 M c7]
          exact kq_bad hC rfl
  · rw [if_neg (show ¬ ks_partI (kz (m_sh M)) k n = true from c1), if_neg c1]
    exact kq_bad h rfl
