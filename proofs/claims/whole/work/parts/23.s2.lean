/-! Contracts of Sheet: loops that only read. Printed by wip/whole/spec/s2.py -/
theorem mm_inc (a : Nat) : nI a + Int32.ofInt 1 = nI (a + 1) := nI_1 a
theorem mm_some {o : Option Nat} (h : ¬ o = none) : ∃ a, o = some a := by
  cases o with
  | none => exact absurd rfl h
  | some a => exact ⟨a, rfl⟩
def mm_lt (o : Option Nat) (n : Nat) : Prop := ∀ a, o = some a → a < n
theorem mm_lt.sm {o : Option Nat} {n : Nat} (h : mm_lt o n) (hn : n ≤ 2 ^ 31) : mm_sm o := fun a e => Nat.lt_of_lt_of_le (h a e) hn
theorem mm_lt_none {n : Nat} : mm_lt none n := fun _ h => nomatch h
theorem mm_lt_some {a n : Nat} (h : a < n) : mm_lt (some a) n := fun _ e => by cases e; exact h
theorem ks_ok.lt {S : ks_S} (o : ks_ok S) {k i : Nat} (hi : i < ks_len k) : mm_lt (ks_row S k i) 13 := fun n e => o.1 k i n hi e
theorem ks_ok.hk {S : ks_S} (o : ks_ok S) {i : Nat} (hi : i < 24) : mm_lt (S.2.2.2.2 i) 6 := fun n e => o.2.2.1 i n hi e
theorem ks_area_lt {S : ks_S} (o : ks_ok S) (k n : Int32) : mm_lt (ks_areaI S k n) 13 := by
  intro a e
  unfold ks_areaI at e
  by_cases hh : ks_hasI S k n = true
  · rw [if_pos hh] at e
    obtain ⟨k', n', x, rfl, rfl, h1, h2, h3⟩ := ks_hasI_true hh
    have := ks_len_le k'
    rw [nI_clamp (by omega), nI_clamp (by omega)] at e
    exact o.1 k' n' a h2 e
  · rw [if_neg hh] at e
    cases e
section KS2
variable {Γ : mm_G} {l : Launch} {d : Nat} {h : mm_H} {b : Nat} {S : ks_S}
theorem kC_isAmong {m : Nat} (hm : m < 2 ^ 31) {o : Option Nat} (ho : mm_lt o 32) : mm_Ev Γ l d mC_isAmong [.int (nI m), .int (mm_enc o)] h (mm_is (.inl (some (.int (mm_bI (ks_am m o))))) h) := by
  show mm_W Γ l mC_isAmong d _ 0 [some (.int (nI m)), some (.int (mm_enc o))] [] h
  refine mm_iload_n dC_isAmong_0 rfl rfl ?_
  refine mm_iconst (v := -1) dC_isAmong_1 (by decide) ?_
  refine mm_icmp_eq_o (tgt := 18) dC_isAmong_2 (by decide) (ho.sm (by decide)) (fun q2 => ?_) (fun q2 => ?_)
  · refine mm_iconst (v := nI 0) dC_isAmong_18 (by decide) ?_
    refine mm_zreturn dC_isAmong_19 rfl rfl ?_
    exact mm_f0 (by rw [q2]; rfl)
  · obtain ⟨a, rfl⟩ := mm_some q2
    refine mm_iload_n dC_isAmong_5 rfl rfl ?_
    refine mm_iload_n dC_isAmong_6 rfl rfl ?_
    refine mm_ishr dC_isAmong_7 ?_
    refine mm_iconst (v := nI 1) dC_isAmong_8 (by decide) ?_
    refine mm_iand dC_isAmong_9 ?_
    refine mm_top (v' := .int (nI (if m.testBit a then 1 else 0))) (congrArg Value.int (kb_one hm (ho a rfl))) ?_
    refine mm_iconst (v := nI 1) dC_isAmong_10 (by decide) ?_
    refine mm_icmp_ne_n (tgt := 18) dC_isAmong_11 (by decide) (by split <;> decide) (by decide) (fun q11 => ?_) (fun q11 => ?_)
    · refine mm_iconst (v := nI 0) dC_isAmong_18 (by decide) ?_
      refine mm_zreturn dC_isAmong_19 rfl rfl ?_
      exact mm_f0 (by cases ht : m.testBit a with | true => rw [ht] at q11; exact absurd rfl q11 | false => exact ht)
    · refine mm_iconst (v := nI 1) dC_isAmong_14 (by decide) ?_
      refine mm_goto (tgt := 19) dC_isAmong_15 (by decide) ?_
      refine mm_zreturn dC_isAmong_19 rfl rfl ?_
      exact mm_f1 (by cases ht : m.testBit a with | true => exact ht | false => rw [ht] at q11; exact absurd q11 (by decide))
theorem kS_howManyIn (a : ks_at h b S) (o : ks_ok S) {k m : Nat} (hk : k < 3) (hm : m < 2 ^ 31) : mm_Ev Γ l (d + 1) mS_howManyIn [.ref b, .int (nI k), .int (nI m)] h (mm_is (.inl (some (.int (nI (ks_many S k m))))) h) := by
  have hle := ks_len_le k
  have loop : ∀ j i : Nat, i + j = ks_len k → mm_W Γ l mS_howManyIn (d + 1) (mm_is (.inl (some (.int (nI (ks_many S k m))))) h) 5 [some (.ref b), some (.int (nI k)), some (.int (nI m)), some (.int (nI (ks_cnt (ks_row S k) m i))), some (.int (nI i))] [] h := by
    intro j
    induction j with
    | zero =>
      intro i hi
      refine mm_iload dS_howManyIn_5 rfl ?_
      refine mm_aload_n dS_howManyIn_7 rfl rfl ?_
      refine mm_iload_n dS_howManyIn_8 rfl rfl ?_
      refine mm_v1 dS_howManyIn_9 lS_33 a.1 rfl (by decide) (Nat.le_of_ble_eq_true rfl) (kS_areas a hk) ?_
      refine mm_alen dS_howManyIn_12 (a.row hk) (by decide) rfl ?_
      refine mm_icmp_ge_T (tgt := 40) dS_howManyIn_13 (by decide) (nI_le (by omega) (by omega)) ?_
      refine mm_iload_n dS_howManyIn_40 rfl rfl ?_
      refine mm_ireturn dS_howManyIn_41 rfl ?_
      exact ⟨by unfold ks_many; rw [show i = ks_len k by omega], rfl⟩
    | succ j ih =>
      intro i hi
      have q13 : i < ks_len k := by omega
      have hc : ks_cnt (ks_row S k) m (i + 1) = ks_cnt (ks_row S k) m i + (if ks_am m (ks_row S k i) = true then 1 else 0) := by
        show ks_cnt (ks_row S k) m i + _ = _
        cases ks_row S k i <;> rfl
      refine mm_iload dS_howManyIn_5 rfl ?_
      refine mm_aload_n dS_howManyIn_7 rfl rfl ?_
      refine mm_iload_n dS_howManyIn_8 rfl rfl ?_
      refine mm_v1 dS_howManyIn_9 lS_33 a.1 rfl (by decide) (Nat.le_of_ble_eq_true rfl) (kS_areas a hk) ?_
      refine mm_alen dS_howManyIn_12 (a.row hk) (by decide) rfl ?_
      refine mm_icmp_ge_F (tgt := 40) dS_howManyIn_13 (by decide) (nI_ge q13 (by omega)) ?_
      refine mm_iload_n dS_howManyIn_16 rfl rfl ?_
      refine mm_aload_n dS_howManyIn_17 rfl rfl ?_
      refine mm_iload_n dS_howManyIn_18 rfl rfl ?_
      refine mm_v1 dS_howManyIn_19 lS_33 a.1 rfl (by decide) (Nat.le_of_ble_eq_true rfl) (kS_areas a hk) ?_
      refine mm_iload dS_howManyIn_22 rfl ?_
      refine mm_iaload dS_howManyIn_24 (a.row hk) rfl q13 (by omega) ?_
      refine mm_s2 dS_howManyIn_25 lS_52 rfl rfl (by decide) (Nat.le_of_ble_eq_true rfl) (kC_isAmong hm (fun x e => Nat.lt_trans (o.lt q13 x e) (by decide))) ?_
      refine mm_if_eq_b (tgt := 34) dS_howManyIn_28 (by decide) (fun q28 => ?_) (fun q28 => ?_)
      · refine mm_iinc dS_howManyIn_34 (by decide) rfl (mm_inc _) rfl ?_
        refine mm_goto (tgt := 5) dS_howManyIn_37 (by decide) ?_
        have hh := ih (i + 1) (by omega)
        rw [hc, q28] at hh
        exact hh
      · refine mm_iinc dS_howManyIn_31 (by decide) rfl (mm_inc _) rfl ?_
        refine mm_iinc dS_howManyIn_34 (by decide) rfl (mm_inc _) rfl ?_
        refine mm_goto (tgt := 5) dS_howManyIn_37 (by decide) ?_
        have hh := ih (i + 1) (by omega)
        rw [hc, q28] at hh
        exact hh
  show mm_W Γ l mS_howManyIn (d + 1) _ 0 [some (.ref b), some (.int (nI k)), some (.int (nI m)), none, none] [] h
  refine mm_iconst (v := nI 0) dS_howManyIn_0 (by decide) ?_
  refine mm_istore_n dS_howManyIn_1 rfl (by decide) rfl ?_
  refine mm_iconst (v := nI 0) dS_howManyIn_2 (by decide) ?_
  refine mm_istore dS_howManyIn_3 (by decide) rfl ?_
  exact loop (ks_len k) 0 (by omega)
theorem kS_howMany (a : ks_at h b S) (o : ks_ok S) {k : Nat} (hk : k < 3) : mm_Ev Γ l (d + 2) mS_howMany [.ref b, .int (nI k)] h (mm_is (.inl (some (.int (nI (ks_many S k 8191))))) h) := by
  show mm_W Γ l mS_howMany (d + 2) _ 0 [some (.ref b), some (.int (nI k))] [] h
  refine mm_aload_n dS_howMany_0 rfl rfl ?_
  refine mm_iload_n dS_howMany_1 rfl rfl ?_
  refine mm_sipush (v := nI 8191) dS_howMany_2 (by decide) ?_
  refine mm_v2 dS_howMany_5 lS_41 a.1 rfl rfl (by decide) (Nat.le_of_ble_eq_true rfl) (kS_howManyIn a o hk (m := 8191) (by decide)) ?_
  refine mm_ireturn dS_howMany_8 rfl ?_
  exact ⟨rfl, rfl⟩
theorem kS_free (a : ks_at h b S) (o : ks_ok S) {k : Nat} (hk : k < 3) : mm_Ev Γ l (d + 3) mS_free [.ref b, .int (nI k)] h (mm_is (.inl (some (.int (nI (ks_freeN S k))))) h) := by
  show mm_W Γ l mS_free (d + 3) _ 0 [some (.ref b), some (.int (nI k))] [] h
  have hm := ks_many_le o k 8191
  refine mm_aload_n dS_free_0 rfl rfl ?_
  refine mm_iload_n dS_free_1 rfl rfl ?_
  refine mm_v1 dS_free_2 lS_33 a.1 rfl (by decide) (Nat.le_of_ble_eq_true rfl) (kS_areas a hk) ?_
  refine mm_alen dS_free_5 (a.row hk) (by decide) rfl ?_
  refine mm_aload_n dS_free_6 rfl rfl ?_
  refine mm_iload_n dS_free_7 rfl rfl ?_
  refine mm_v1 dS_free_8 lS_45 a.1 rfl (by decide) (Nat.le_of_ble_eq_true rfl) (kS_least hk) ?_
  refine mm_isub dS_free_11 ?_
  refine mm_aload_n dS_free_12 rfl rfl ?_
  refine mm_iload_n dS_free_13 rfl rfl ?_
  refine mm_v1 dS_free_14 lS_49 a.1 rfl (by decide) (Nat.le_of_ble_eq_true rfl) (kS_howMany a o hk) ?_
  refine mm_isub dS_free_17 ?_
  refine mm_ireturn dS_free_18 rfl ?_
  exact ⟨by unfold ks_freeN; rw [pk_sub (by omega), pk_sub (by omega)], rfl⟩
theorem kS_depthOf (a : ks_at h b S) (o : ks_ok S) (n : Int32) : mm_Ev Γ l (d + 3) mS_depthOf [.ref b, .int n] h (mm_is (.inl (some (.int (nI (ks_depth S n))))) h) := by
  have loop : ∀ (f e : Nat) (x : Option Nat), e + f = 12 → mm_lt x 13 → mm_W Γ l mS_depthOf (d + 3) (mm_is (.inl (some (.int (nI (e + ks_ups S f x))))) h) 9 [some (.ref b), some (.int n), some (.int (nI e)), some (.int (mm_enc x))] [] h := by
    intro f
    induction f with
    | zero =>
      intro e x he hx
      refine mm_iload_n dS_depthOf_9 rfl rfl ?_
      refine mm_iconst (v := -1) dS_depthOf_10 (by decide) ?_
      refine mm_icmp_eq_o (tgt := 33) dS_depthOf_11 (by decide) (hx.sm (by decide)) (fun q11 => ?_) (fun q11 => ?_)
      · refine mm_iload_n dS_depthOf_33 rfl rfl ?_
        refine mm_ireturn dS_depthOf_34 rfl ?_
        exact ⟨rfl, rfl⟩
      · refine mm_iload_n dS_depthOf_14 rfl rfl ?_
        refine mm_bipush (v := nI 12) dS_depthOf_15 (by decide) ?_
        refine mm_icmp_ge_T (tgt := 33) dS_depthOf_17 (by decide) (nI_le (by omega) (by omega)) ?_
        refine mm_iload_n dS_depthOf_33 rfl rfl ?_
        refine mm_ireturn dS_depthOf_34 rfl ?_
        exact ⟨rfl, rfl⟩
    | succ f ih =>
      intro e x he hx
      refine mm_iload_n dS_depthOf_9 rfl rfl ?_
      refine mm_iconst (v := -1) dS_depthOf_10 (by decide) ?_
      refine mm_icmp_eq_o (tgt := 33) dS_depthOf_11 (by decide) (hx.sm (by decide)) (fun q11 => ?_) (fun q11 => ?_)
      · refine mm_iload_n dS_depthOf_33 rfl rfl ?_
        refine mm_ireturn dS_depthOf_34 rfl ?_
        exact ⟨by rw [q11]; rfl, rfl⟩
      · obtain ⟨y, rfl⟩ := mm_some q11
        refine mm_iload_n dS_depthOf_14 rfl rfl ?_
        refine mm_bipush (v := nI 12) dS_depthOf_15 (by decide) ?_
        refine mm_icmp_ge_F (tgt := 33) dS_depthOf_17 (by decide) (nI_ge (by omega) (by omega)) ?_
        refine mm_iinc dS_depthOf_20 (by decide) rfl (mm_inc _) rfl ?_
        refine mm_aload_n dS_depthOf_23 rfl rfl ?_
        refine mm_getf dS_depthOf_24 fS_15 a.1 rfl ?_
        refine mm_iload_n dS_depthOf_27 rfl rfl ?_
        refine mm_iaload dS_depthOf_28 a.2.2.1 rfl (hx y rfl) (by decide) ?_
        refine mm_istore_n dS_depthOf_29 rfl (by decide) rfl ?_
        refine mm_goto (tgt := 9) dS_depthOf_30 (by decide) ?_
        have hh := ih (e + 1) (S.2.1 y) (by omega) (o.lt (k := 1) (hx y rfl))
        rw [Nat.add_right_comm] at hh
        exact hh
  show mm_W Γ l mS_depthOf (d + 3) _ 0 [some (.ref b), some (.int n), none, none] [] h
  refine mm_iconst (v := nI 0) dS_depthOf_0 (by decide) ?_
  refine mm_istore_n dS_depthOf_1 rfl (by decide) rfl ?_
  refine mm_aload_n dS_depthOf_2 rfl rfl ?_
  refine mm_iconst (v := nI 1) dS_depthOf_3 (by decide) ?_
  refine mm_iload_n dS_depthOf_4 rfl rfl ?_
  refine mm_v2 dS_depthOf_5 lS_55 a.1 rfl rfl (by decide) (Nat.le_of_ble_eq_true rfl) (kS_areaOf a o (nI 1) n) ?_
  refine mm_istore_n dS_depthOf_8 rfl (by decide) rfl ?_
  have hh := loop 12 0 (ks_areaI S (nI 1) n) rfl (ks_area_lt o _ _)
  rw [Nat.zero_add] at hh
  exact hh
theorem ks_ups_le (S : ks_S) (f : Nat) (x : Option Nat) : ks_ups S f x ≤ f := by
  induction f generalizing x with
  | zero => exact Nat.le_refl _
  | succ f ih =>
    cases x with
    | none => exact Nat.zero_le _
    | some y =>
      have := ih (S.2.1 y)
      show ks_ups S f (S.2.1 y) + 1 ≤ f + 1
      omega
def ks_odd (S : ks_S) (n : Int32) : Bool := decide (ks_depth S n % 2 = 1)
theorem kS_isOdd (a : ks_at h b S) (o : ks_ok S) (n : Int32) : mm_Ev Γ l (d + 4) mS_isOdd [.ref b, .int n] h (mm_is (.inl (some (.int (mm_bI (ks_odd S n))))) h) := by
  show mm_W Γ l mS_isOdd (d + 4) _ 0 [some (.ref b), some (.int n)] [] h
  have hd : ks_depth S n ≤ 12 := ks_ups_le _ _ _
  refine mm_aload_n dS_isOdd_0 rfl rfl ?_
  refine mm_iload_n dS_isOdd_1 rfl rfl ?_
  refine mm_v1 dS_isOdd_2 lS_58 a.1 rfl (by decide) (Nat.le_of_ble_eq_true rfl) (kS_depthOf a o n) ?_
  refine mm_iconst (v := nI 2) dS_isOdd_5 (by decide) ?_
  refine mm_irem dS_isOdd_6 (by decide) ?_
  refine mm_top (v' := .int (nI (ks_depth S n % 2))) (congrArg Value.int (pk_rem (by omega) (by decide) (by decide))) ?_
  refine mm_iconst (v := nI 1) dS_isOdd_7 (by decide) ?_
  refine mm_icmp_ne_n (tgt := 15) dS_isOdd_8 (by decide) (by omega) (by decide) (fun q8 => ?_) (fun q8 => ?_)
  · refine mm_iconst (v := nI 0) dS_isOdd_15 (by decide) ?_
    refine mm_zreturn dS_isOdd_16 rfl rfl ?_
    exact mm_f0 (by simp [ks_odd, q8])
  · refine mm_iconst (v := nI 1) dS_isOdd_11 (by decide) ?_
    refine mm_goto (tgt := 16) dS_isOdd_12 (by decide) ?_
    refine mm_zreturn dS_isOdd_16 rfl rfl ?_
    exact mm_f1 (by simp [ks_odd, q8])
theorem kS_isWithin (a : ks_at h b S) (o : ks_ok S) {x y : Option Nat} (hx : mm_lt x 13) (hy : mm_sm y) : mm_Ev Γ l d mS_isWithin [.ref b, .int (mm_enc x), .int (mm_enc y)] h (mm_is (.inl (some (.int (mm_bI (ks_in S x y))))) h) := by
  have loop : ∀ (f e : Nat) (z : Option Nat), e + f = 13 → mm_lt z 13 → mm_W Γ l mS_isWithin d (mm_is (.inl (some (.int (mm_bI (ks_meets S y f z))))) h) 5 [some (.ref b), some (.int (mm_enc x)), some (.int (mm_enc y)), some (.int (mm_enc z)), some (.int (nI e))] [] h := by
    intro f
    induction f with
    | zero =>
      intro e z he hz
      refine mm_iload dS_isWithin_5 rfl ?_
      refine mm_bipush (v := nI 13) dS_isWithin_7 (by decide) ?_
      refine mm_icmp_ge_T (tgt := 37) dS_isWithin_9 (by decide) (nI_le (by omega) (by omega)) ?_
      refine mm_iconst (v := nI 0) dS_isWithin_37 (by decide) ?_
      refine mm_zreturn dS_isWithin_38 rfl rfl ?_
      exact mm_f0 rfl
    | succ f ih =>
      intro e z he hz
      refine mm_iload dS_isWithin_5 rfl ?_
      refine mm_bipush (v := nI 13) dS_isWithin_7 (by decide) ?_
      refine mm_icmp_ge_F (tgt := 37) dS_isWithin_9 (by decide) (nI_ge (by omega) (by omega)) ?_
      refine mm_iload_n dS_isWithin_12 rfl rfl ?_
      refine mm_iconst (v := -1) dS_isWithin_13 (by decide) ?_
      refine mm_icmp_eq_o (tgt := 37) dS_isWithin_14 (by decide) (hz.sm (by decide)) (fun q14 => ?_) (fun q14 => ?_)
      · refine mm_iconst (v := nI 0) dS_isWithin_37 (by decide) ?_
        refine mm_zreturn dS_isWithin_38 rfl rfl ?_
        exact mm_f0 (by rw [q14]; rfl)
      · obtain ⟨c, rfl⟩ := mm_some q14
        refine mm_iload_n dS_isWithin_17 rfl rfl ?_
        refine mm_iload_n dS_isWithin_18 rfl rfl ?_
        refine mm_icmp_ne_e (tgt := 24) dS_isWithin_19 (by decide) (hz.sm (by decide)) hy (fun q19 => ?_) (fun q19 => ?_)
        · refine mm_aload_n dS_isWithin_24 rfl rfl ?_
          refine mm_getf dS_isWithin_25 fS_15 a.1 rfl ?_
          refine mm_iload_n dS_isWithin_28 rfl rfl ?_
          refine mm_iaload dS_isWithin_29 a.2.2.1 rfl (hz c rfl) (by decide) ?_
          refine mm_istore_n dS_isWithin_30 rfl (by decide) rfl ?_
          refine mm_iinc dS_isWithin_31 (by decide) rfl (mm_inc _) rfl ?_
          refine mm_goto (tgt := 5) dS_isWithin_34 (by decide) ?_
          have hh := ih (e + 1) (S.2.1 c) (by omega) (o.lt (k := 1) (hz c rfl))
          rw [show ks_meets S y (f + 1) (some c) = ks_meets S y f (S.2.1 c) from if_neg q19]
          exact hh
        · refine mm_iconst (v := nI 1) dS_isWithin_22 (by decide) ?_
          refine mm_zreturn dS_isWithin_23 rfl rfl ?_
          exact mm_f1 (if_pos q19)
  show mm_W Γ l mS_isWithin d _ 0 [some (.ref b), some (.int (mm_enc x)), some (.int (mm_enc y)), none, none] [] h
  refine mm_iload_n dS_isWithin_0 rfl rfl ?_
  refine mm_istore_n dS_isWithin_1 rfl (by decide) rfl ?_
  refine mm_iconst (v := nI 0) dS_isWithin_2 (by decide) ?_
  refine mm_istore dS_isWithin_3 (by decide) rfl ?_
  exact loop 13 0 x rfl hx
theorem kS_areasWithin (a : ks_at h b S) (o : ks_ok S) {y : Option Nat} (hy : mm_sm y) : mm_Ev Γ l (d + 3) mS_areasWithin [.ref b, .int (mm_enc y)] h (mm_is (.inl (some (.int (nI (ks_mask S y))))) h) := by
  have loop : ∀ j i : Nat, i + j = 13 → mm_W Γ l mS_areasWithin (d + 3) (mm_is (.inl (some (.int (nI (ks_mask S y))))) h) 4 [some (.ref b), some (.int (mm_enc y)), some (.int (nI (kb_mask (ks_inside S y) i))), some (.int (nI i))] [] h := by
    intro j
    induction j with
    | zero =>
      intro i hi
      refine mm_iload_n dS_areasWithin_4 rfl rfl ?_
      refine mm_bipush (v := nI 13) dS_areasWithin_5 (by decide) ?_
      refine mm_icmp_ge_T (tgt := 39) dS_areasWithin_7 (by decide) (nI_le (by omega) (by omega)) ?_
      refine mm_iload_n dS_areasWithin_39 rfl rfl ?_
      refine mm_ireturn dS_areasWithin_40 rfl ?_
      exact ⟨by unfold ks_mask; rw [show i = 13 by omega], rfl⟩
    | succ j ih =>
      intro i hi
      have hlt := kb_mask_lt (ks_inside S y) i
      have h13 : 2 ^ i ≤ 2 ^ 12 := Nat.pow_le_pow_right (by decide) (by omega)
      have hc : kb_mask (ks_inside S y) (i + 1) = if (ks_harI S (nI i) && ks_in S (some i) y) = true then kb_mask (ks_inside S y) i ||| 2 ^ i else kb_mask (ks_inside S y) i := rfl
      refine mm_iload_n dS_areasWithin_4 rfl rfl ?_
      refine mm_bipush (v := nI 13) dS_areasWithin_5 (by decide) ?_
      refine mm_icmp_ge_F (tgt := 39) dS_areasWithin_7 (by decide) (nI_ge (by omega) (by omega)) ?_
      refine mm_aload_n dS_areasWithin_10 rfl rfl ?_
      refine mm_iload_n dS_areasWithin_11 rfl rfl ?_
      refine mm_v1 dS_areasWithin_12 lS_61 a.1 rfl (by decide) (Nat.le_of_ble_eq_true rfl) (kS_hasArea a o (nI i)) ?_
      refine mm_if_eq_b (tgt := 33) dS_areasWithin_15 (by decide) (fun q15 => ?_) (fun q15 => ?_)
      · refine mm_iinc dS_areasWithin_33 (by decide) rfl (mm_inc _) rfl ?_
        refine mm_goto (tgt := 4) dS_areasWithin_36 (by decide) ?_
        have hh := ih (i + 1) (by omega)
        rw [hc, q15, Bool.false_and, if_neg (by decide)] at hh
        exact hh
      · refine mm_aload_n dS_areasWithin_18 rfl rfl ?_
        refine mm_iload_n dS_areasWithin_19 rfl rfl ?_
        refine mm_iload_n dS_areasWithin_20 rfl rfl ?_
        refine mm_v2 dS_areasWithin_21 lS_65 a.1 rfl rfl (by decide) (Nat.le_of_ble_eq_true rfl) (kS_isWithin a o (x := some i) (mm_lt_some (by omega)) hy) ?_
        refine mm_if_eq_b (tgt := 33) dS_areasWithin_24 (by decide) (fun q24 => ?_) (fun q24 => ?_)
        · refine mm_iinc dS_areasWithin_33 (by decide) rfl (mm_inc _) rfl ?_
          refine mm_goto (tgt := 4) dS_areasWithin_36 (by decide) ?_
          have hh := ih (i + 1) (by omega)
          rw [hc, q15, q24, Bool.and_false, if_neg (by decide)] at hh
          exact hh
        · refine mm_iload_n dS_areasWithin_27 rfl rfl ?_
          refine mm_iconst (v := nI 1) dS_areasWithin_28 (by decide) ?_
          refine mm_iload_n dS_areasWithin_29 rfl rfl ?_
          refine mm_ishl dS_areasWithin_30 ?_
          refine mm_ior dS_areasWithin_31 ?_
          refine mm_top (v' := .int (nI (kb_mask (ks_inside S y) i ||| 2 ^ i))) (congrArg Value.int (by rw [kb_shl (by omega) (by omega), kb_or, Nat.one_mul])) ?_
          refine mm_istore_n dS_areasWithin_32 rfl (by decide) rfl ?_
          refine mm_iinc dS_areasWithin_33 (by decide) rfl (mm_inc _) rfl ?_
          refine mm_goto (tgt := 4) dS_areasWithin_36 (by decide) ?_
          have hh := ih (i + 1) (by omega)
          rw [hc, q15, q24, Bool.and_true, if_pos rfl] at hh
          exact hh
  show mm_W Γ l mS_areasWithin (d + 3) _ 0 [some (.ref b), some (.int (mm_enc y)), none, none] [] h
  refine mm_iconst (v := nI 0) dS_areasWithin_0 (by decide) ?_
  refine mm_istore_n dS_areasWithin_1 rfl (by decide) rfl ?_
  refine mm_iconst (v := nI 0) dS_areasWithin_2 (by decide) ?_
  refine mm_istore_n dS_areasWithin_3 rfl (by decide) rfl ?_
  exact loop 13 0 rfl
theorem kS_reaches (a : ks_at h b S) (o : ks_ok S) (n : Int32) {x : Option Nat} (hx : mm_lt x 13) : mm_Ev Γ l (d + 2) mS_reaches [.ref b, .int n, .int (mm_enc x)] h (mm_is (.inl (some (.int (mm_bI (ks_reach S n x))))) h) := by
  show mm_W Γ l mS_reaches (d + 2) _ 0 [some (.ref b), some (.int n), some (.int (mm_enc x))] [] h
  refine mm_aload_n dS_reaches_0 rfl rfl ?_
  refine mm_iconst (v := nI 2) dS_reaches_1 (by decide) ?_
  refine mm_iload_n dS_reaches_2 rfl rfl ?_
  refine mm_v2 dS_reaches_3 lS_37 a.1 rfl rfl (by decide) (Nat.le_of_ble_eq_true rfl) (kS_has a o (nI 2) n) ?_
  refine mm_if_eq_b (tgt := 27) dS_reaches_6 (by decide) (fun q6 => ?_) (fun q6 => ?_)
  · refine mm_iconst (v := nI 0) dS_reaches_27 (by decide) ?_
    refine mm_zreturn dS_reaches_28 rfl rfl ?_
    exact mm_f0 (by simp [ks_reach, q6])
  · obtain ⟨k, i, z, e1, rfl, hk, hi, hz⟩ := ks_hasI_true q6
    have e2 : 2 = k := (nI_eq (by decide) (by omega)).mp e1
    subst e2
    have e3 : ks_areaI S (nI 2) (nI i) = S.2.2.1 i := by have h6 : i < 6 := hi; rw [ks_areaI, if_pos q6, nI_clamp (by decide), nI_clamp (by omega)]; rfl
    refine mm_aload_n dS_reaches_9 rfl rfl ?_
    refine mm_iload_n dS_reaches_10 rfl rfl ?_
    refine mm_aload_n dS_reaches_11 rfl rfl ?_
    refine mm_getf dS_reaches_12 fS_18 a.1 rfl ?_
    refine mm_iload_n dS_reaches_15 rfl rfl ?_
    refine mm_iaload dS_reaches_16 a.2.2.2.1 rfl hi (by decide) ?_
    refine mm_v2 dS_reaches_17 lS_65 a.1 rfl rfl (by decide) (Nat.le_of_ble_eq_true rfl) (kS_isWithin a o hx (y := S.2.2.1 i) (o.sm (k := 2) hi)) ?_
    refine mm_if_eq_b (tgt := 27) dS_reaches_20 (by decide) (fun q20 => ?_) (fun q20 => ?_)
    · refine mm_iconst (v := nI 0) dS_reaches_27 (by decide) ?_
      refine mm_zreturn dS_reaches_28 rfl rfl ?_
      exact mm_f0 (by simp [ks_reach, q6, e3, q20])
    · refine mm_iconst (v := nI 1) dS_reaches_23 (by decide) ?_
      refine mm_goto (tgt := 28) dS_reaches_24 (by decide) ?_
      refine mm_zreturn dS_reaches_28 rfl rfl ?_
      exact mm_f1 (by simp [ks_reach, q6, e3, q20])
theorem kS_isHooked (a : ks_at h b S) (o : ks_ok S) {ln : Nat} (hln : ln < 2 ^ 31) : mm_Ev Γ l d mS_isHooked [.ref b, .int (nI ln)] h (mm_is (.inl (some (.int (mm_bI (ks_hooked S ln))))) h) := by
  have loop : ∀ j i : Nat, i + j = 12 → mm_W Γ l mS_isHooked d (mm_is (.inl (some (.int (mm_bI (ks_any (ks_hookAt S ln) i j))))) h) 2 [some (.ref b), some (.int (nI ln)), some (.int (nI i))] [] h := by
    intro j
    induction j with
    | zero =>
      intro i hi
      refine mm_iload_n dS_isHooked_2 rfl rfl ?_
      refine mm_bipush (v := nI 12) dS_isHooked_3 (by decide) ?_
      refine mm_icmp_ge_T (tgt := 52) dS_isHooked_5 (by decide) (nI_le (by omega) (by omega)) ?_
      refine mm_iconst (v := nI 0) dS_isHooked_52 (by decide) ?_
      refine mm_zreturn dS_isHooked_53 rfl rfl ?_
      exact mm_f0 rfl
    | succ j ih =>
      intro i hi
      have hc : ks_any (ks_hookAt S ln) i (j + 1) = if ks_hookAt S ln i = true then true else ks_any (ks_hookAt S ln) (i + 1) j := rfl
      refine mm_iload_n dS_isHooked_2 rfl rfl ?_
      refine mm_bipush (v := nI 12) dS_isHooked_3 (by decide) ?_
      refine mm_icmp_ge_F (tgt := 52) dS_isHooked_5 (by decide) (nI_ge (by omega) (by omega)) ?_
      refine mm_aload_n dS_isHooked_8 rfl rfl ?_
      refine mm_getf dS_isHooked_9 fS_9 a.1 rfl ?_
      refine mm_iload_n dS_isHooked_12 rfl rfl ?_
      refine mm_iaload dS_isHooked_13 a.2.1 rfl (by omega) (by decide) ?_
      refine mm_iconst (v := -1) dS_isHooked_14 (by decide) ?_
      refine mm_icmp_eq_o (tgt := 46) dS_isHooked_15 (by decide) (o.sm (k := 0) (by show i < 12; omega)) (fun q15 => ?_) (fun q15 => ?_)
      · refine mm_iinc dS_isHooked_46 (by decide) rfl (mm_inc _) rfl ?_
        refine mm_goto (tgt := 2) dS_isHooked_49 (by decide) ?_
        have hh := ih (i + 1) (by omega)
        rw [hc, if_neg (by simp [ks_hookAt, q15])]
        exact hh
      · refine mm_aload_n dS_isHooked_18 rfl rfl ?_
        refine mm_getf dS_isHooked_19 fS_24 a.1 rfl ?_
        refine mm_iconst (v := nI 2) dS_isHooked_22 (by decide) ?_
        refine mm_iload_n dS_isHooked_23 rfl rfl ?_
        refine mm_imul dS_isHooked_24 ?_
        refine mm_iaload dS_isHooked_25 a.2.2.2.2.2 (pk_mul 2 i) (by omega) (by decide) ?_
        refine mm_iload_n dS_isHooked_26 rfl rfl ?_
        refine mm_icmp_eq_k (tgt := 44) dS_isHooked_27 (by decide) ((o.hk (by omega)).sm (by decide)) hln (fun q27 => ?_) (fun q27 => ?_)
        · refine mm_iconst (v := nI 1) dS_isHooked_44 (by decide) ?_
          refine mm_zreturn dS_isHooked_45 rfl rfl ?_
          exact mm_f1 (by rw [hc, if_pos (by simp [ks_hookAt, q15, q27])])
        · refine mm_aload_n dS_isHooked_30 rfl rfl ?_
          refine mm_getf dS_isHooked_31 fS_24 a.1 rfl ?_
          refine mm_iconst (v := nI 2) dS_isHooked_34 (by decide) ?_
          refine mm_iload_n dS_isHooked_35 rfl rfl ?_
          refine mm_imul dS_isHooked_36 ?_
          refine mm_iconst (v := nI 1) dS_isHooked_37 (by decide) ?_
          refine mm_iadd dS_isHooked_38 ?_
          refine mm_iaload dS_isHooked_39 a.2.2.2.2.2 (by rw [pk_mul, nI_add]) (by omega) (by decide) ?_
          refine mm_iload_n dS_isHooked_40 rfl rfl ?_
          refine mm_icmp_ne_k (tgt := 46) dS_isHooked_41 (by decide) ((o.hk (by omega)).sm (by decide)) hln (fun q41 => ?_) (fun q41 => ?_)
          · refine mm_iinc dS_isHooked_46 (by decide) rfl (mm_inc _) rfl ?_
            refine mm_goto (tgt := 2) dS_isHooked_49 (by decide) ?_
            have hh := ih (i + 1) (by omega)
            rw [hc, if_neg (by simp [ks_hookAt, q15, q27, q41])]
            exact hh
          · refine mm_iconst (v := nI 1) dS_isHooked_44 (by decide) ?_
            refine mm_zreturn dS_isHooked_45 rfl rfl ?_
            exact mm_f1 (by rw [hc, if_pos (by simp [ks_hookAt, q15, q27, q41])])
  show mm_W Γ l mS_isHooked d _ 0 [some (.ref b), some (.int (nI ln)), none] [] h
  refine mm_iconst (v := nI 0) dS_isHooked_0 (by decide) ?_
  refine mm_istore_n dS_isHooked_1 rfl (by decide) rfl ?_
  exact loop 12 0 rfl
end KS2
