/-! What the class's methods answer: 0 an argument, 1 a state, 2 no room, 3 an index. -/
def kc_n (a : Int32) : Option Nat := some a.toNatClampNeg
theorem ks_harI_true {S : ks_S} {n : Int32} (h : ks_harI S n = true) : ∃ a : Nat, a < 13 ∧ n = nI a := by
  unfold ks_harI at h
  rw [Bool.or_eq_true, decide_eq_true_eq] at h
  rcases h with h | h
  · exact ⟨0, by decide, h⟩
  · obtain ⟨k, i, a, e1, e2, h1, h2, h3⟩ := ks_hasI_true h
    have hk : 1 = k := (nI_eq (by decide) (by omega)).mp e1
    subst hk
    exact ⟨i, h2, e2⟩
theorem kc_n_nI {a : Nat} (h : a < 2 ^ 31) : kc_n (nI a) = some a := by unfold kc_n; rw [nI_clamp h]
theorem kc_up_up (f : Nat → ks_S) (i : Nat) (S S' : ks_S) : kc_up (kc_up f i S) i S' = kc_up f i S' := by
  funext j
  unfold kc_up
  by_cases hj : j = i
  · rw [if_pos hj, if_pos hj]
  · rw [if_neg hj, if_neg hj, if_neg hj]
section KCf
variable {h : mm_H} {x : Nat} {C : kc_C}
theorem kc_chg_S (A : kc_at h x C) (o : kc_ok C) : ks_at (kc_chgH x h C) (kc_b x (kc_mv C)) (kc_S C) := by
  have h1 := (kc_chg_at A o).2.1 (kc_mv C) (Nat.lt_succ_of_le (kc_mv_le o))
  have e : (kc_new C (kc_S C)).1 (kc_mv C) = kc_S C := if_pos rfl
  rw [e] at h1
  exact h1
theorem kc_chg_to (A : kc_at h x C) (o : kc_ok C) (S : ks_S) : kc_at (ks_set (kc_chgH x h C) (kc_b x (kc_mv C)) S) x (kc_new C S) := by
  have h1 := kc_sheet (kc_chg_at A o) (Nat.lt_succ_of_le (kc_mv_le o)) S
  have e : kc_up (kc_new C (kc_S C)).1 (kc_mv C) S = kc_up C.1 (kc_mv C) S := kc_up_up _ _ _ _
  rw [e] at h1
  exact h1
theorem kc_done (A : kc_at h x C) (o : kc_ok C) (S : ks_S) (r : mm_O) : kc_D x h (r, kc_new C S) r (ks_set (kc_chgH x h C) (kc_b x (kc_mv C)) S) :=
  ⟨rfl, kc_chg_to A o S, kc_fsheet (kc_chg_fr o) (Nat.lt_succ_of_le (kc_mv_le o)) S⟩
theorem kc_thrown (A : kc_at h x C) (k : Nat) : kc_D x h (.inr k, C) (.inr k) (mm_exn h) := ⟨rfl, A, kc_fr_exn x h⟩
theorem kc_same (A : kc_at h x C) (r : mm_O) : kc_D x h (r, C) r h := ⟨rfl, A, kc_fr_refl x h⟩
end KCf
def kc_int (o : Option Nat) : mm_O := .inl (some (.int (mm_enc o)))
def kc_nat (n : Nat) : mm_O := .inl (some (.int (nI n)))
/-- k = 1: cut; k = 2: line -/
def kc_put (C : kc_C) (k : Nat) (a : Int32) : kc_R :=
  if ks_harI (kc_S C) a = true then if kc_mayIn C a = true then if (kc_mayCh C && decide (0 < ks_freeN (kc_S C) k)) = true then (kc_int (ks_slot (kc_S C) k), kc_new C (ks_add (kc_S C) k (kc_n a))) else (.inr 2, C) else (.inr 1, C) else (.inr 0, C)
def kc_hk (n : Nat) (p : Nat) (f : Int32) : Option Nat := if p < n then none else kc_n f
def kc_spotN (C : kc_C) (a : Int32) (g : Nat) (f s : Int32) : kc_R :=
    if (decide (kc_places g < 1) || ks_reach (kc_S C) f (kc_n a)) = true then if (decide (kc_places g < 2) || ks_reach (kc_S C) s (kc_n a)) = true then
      if kc_mayIn C a = true then if (kc_mayCh C && decide (0 < ks_freeN (kc_S C) 0)) = true then (kc_int (ks_slot (kc_S C) 0), kc_new C (ks_addSpot (kc_S C) (kc_n a) g (kc_hk 1 (kc_places g) f) (kc_hk 2 (kc_places g) s)))
      else (.inr 2, C) else (.inr 1, C) else (.inr 0, C) else (.inr 0, C)
def kc_spot (C : kc_C) (a sg f s : Int32) : kc_R := if (ks_harI (kc_S C) a && (decide (0 ≤ sg) && decide (sg < nI 4))) = true then kc_spotN C a sg.toNatClampNeg f s else (.inr 0, C)
def kc_start (C : kc_C) : kc_R := if C.2.2.2.2.1 = true then (.inl none, (C.1, C.2.1, C.2.2.1, C.2.2.2.1, false, C.2.2.2.2.2)) else (.inr 1, C)
def kc_erase (C : kc_C) (k n : Int32) : kc_R :=
  if ks_hasI (kc_S C) k n = true then if (!C.2.2.2.2.1 && !ks_odd (kc_S C) (mm_enc (ks_areaI (kc_S C) k n))) = true then if (decide (¬ k = nI 2) || !ks_hooked (kc_S C) n.toNatClampNeg) = true then
    if kc_mayCh C = true then (kc_nat (kc_mv C), kc_new C (ks_remove (kc_S C) k n (kc_n n))) else (.inr 2, C) else (.inr 1, C) else (.inr 1, C) else (.inr 0, C)
def kc_id (f : Nat → Option Nat) (i : Nat) : Nat → Option Nat := fun q => if q < i then some q else f q
def kc_copyT (C : kc_C) (k n : Nat) (x : Option Nat) : ks_T := if k = 0 then (ks_copySpot (kc_S C) (kc_id C.2.2.2.1 6) n x, kc_id C.2.2.2.1 6) else ks_cp 12 (kc_S C, kc_id C.2.2.2.1 6) n x
def kc_copy (C : kc_C) (k n a : Int32) : kc_R :=
  if (ks_partI (kc_S C) k n && ks_harI (kc_S C) a) = true then if (!C.2.2.2.2.1 && ks_in (kc_S C) (kc_n a) (ks_areaI (kc_S C) k n)) = true then if (decide (¬ k = nI 1) || !ks_in (kc_S C) (kc_n a) (kc_n n)) = true then
    if (kc_mayCh C && ks_room (kc_S C) k (kc_n n)) = true then (kc_int (ks_slot (kc_S C) k.toNatClampNeg), ((kc_new C (kc_copyT C k.toNatClampNeg n.toNatClampNeg (kc_n a)).1).1, C.2.1, C.2.2.1, (kc_copyT C k.toNatClampNeg n.toNatClampNeg (kc_n a)).2, C.2.2.2.2.1, kc_mv C))
    else (.inr 2, C) else (.inr 1, C) else (.inr 1, C) else (.inr 0, C)
def kc_wrapS (S : ks_S) (k n : Int32) : ks_S := ks_add (ks_add S 1 (if k = nI 2 then kc_n n else ks_areaI S k n)) 1 (ks_slot S 1)
def kc_wrap (C : kc_C) (k n : Int32) : kc_R :=
  if (if k = nI 2 then ks_harI (kc_S C) n else ks_partI (kc_S C) k n) = true then if (!C.2.2.2.2.1) = true then if (kc_mayCh C && decide (2 ≤ ks_freeN (kc_S C) 1)) = true then
    (kc_int (ks_slot (kc_S C) 1), kc_new C (if k = nI 2 then kc_wrapS (kc_S C) k n else ks_putI (kc_wrapS (kc_S C) k n) k n (ks_slot (ks_add (kc_S C) 1 (ks_areaI (kc_S C) k n)) 1)))
    else (.inr 2, C) else (.inr 1, C) else (.inr 0, C)
def kc_unwrap (C : kc_C) (n : Int32) : kc_R :=
  if ks_hasI (kc_S C) (nI 1) n = true then if (!C.2.2.2.2.1 && ks_alone (kc_S C) n.toNatClampNeg) = true then if kc_mayCh C = true then (kc_nat (kc_mv C), kc_new C (ks_undouble (kc_S C) n.toNatClampNeg)) else (.inr 2, C) else (.inr 1, C) else (.inr 0, C)
def kc_join (C : kc_C) (f s : Int32) : kc_R :=
  if (ks_hasI (kc_S C) (nI 2) f && (ks_hasI (kc_S C) (nI 2) s && decide (¬ f = s))) = true then if (!C.2.2.2.2.1 && (ks_odd (kc_S C) (mm_enc (ks_areaI (kc_S C) (nI 2) f)) && ks_reach (kc_S C) s (ks_areaI (kc_S C) (nI 2) f))) = true then
    if kc_mayCh C = true then (kc_nat (kc_mv C), kc_new C (ks_remove (ks_rehook (kc_S C) f.toNatClampNeg (kc_n s) (ks_areaI (kc_S C) (nI 2) f)) (nI 2) f none)) else (.inr 2, C) else (.inr 1, C) else (.inr 0, C)
def kc_sever (C : kc_C) (n a : Int32) : kc_R :=
  if (ks_hasI (kc_S C) (nI 2) n && ks_harI (kc_S C) a) = true then if (!C.2.2.2.2.1 && (!ks_odd (kc_S C) a && ks_reach (kc_S C) n (kc_n a))) = true then if (kc_mayCh C && decide (0 < ks_freeN (kc_S C) 2)) = true then
    (kc_int (ks_slot (kc_S C) 2), kc_new C (ks_rehook (ks_add (kc_S C) 2 (kc_n a)) n.toNatClampNeg (ks_slot (kc_S C) 2) (kc_n a))) else (.inr 2, C) else (.inr 1, C) else (.inr 0, C)
def kc_back (C : kc_C) : kc_R := if 0 < C.2.2.2.2.2 then (kc_nat (C.2.2.2.2.2 - 1), (C.1, C.2.1, C.2.2.1, C.2.2.2.1, C.2.2.2.2.1, C.2.2.2.2.2 - 1)) else (.inr 1, C)
def kc_depth (C : kc_C) (a : Int32) : kc_R := if ks_harI (kc_S C) a = true then (kc_nat (ks_depth (kc_S C) a), C) else (.inr 0, C)
def kc_read (C : kc_C) (a : Int32) : kc_R := if ks_harI (kc_S C) a = true then (kc_nat (kr_take (kc_S C) C.2.1.1 a.toNatClampNeg).2.1, (C.1, (kr_take (kc_S C) C.2.1.1 a.toNatClampNeg, C.2.1.2), C.2.2)) else (.inr 0, C)
def kc_token (C : kc_C) (i : Int32) : kc_R := if (decide (0 ≤ i) && decide (i < nI C.2.1.1.2.1)) = true then (kc_nat (C.2.1.1.1 i.toNatClampNeg), C) else (.inr 3, C)
def kc_count (C : kc_C) (n : Int32) : kc_R := if (decide (0 ≤ n) && decide (n ≤ nI 3)) = true then (kc_nat (if n = nI 0 then ks_many (kc_S C) 1 8191 else if n = nI 1 then ks_many (kc_S C) 0 8191 else if n = nI 2 then ks_many (kc_S C) 2 8191 else C.2.2.2.2.2), C) else (.inr 0, C)
