/-! The class's constructor: while the sheets are made. -/
def kn_row (x i : Nat) : mm_E := .inl (3, 21, .inr (.inr (.inr (.inr (fun j => if j < i then some (kc_b x j) else none)))))
def kn_F0 (x : Nat) : List Value := [.ref (x + 1), .null, .null, .null, .null, .null, .null, .int (nI 0), .int (nI 0)]
def kn_I (h : mm_H) (i : Nat) (g : mm_H) : Prop := g.1 = h.1 + 2 + 6 * i ∧ g.2.1 = h.2.1 + 30 + 72 * i ∧ g.2.2 h.1 = some (.inr (4, kn_F0 h.1)) ∧ g.2.2 (h.1 + 1) = some (kn_row h.1 i) ∧ (∀ j, j < i → ks_at g (kc_b h.1 j) kn_S0) ∧ ∀ q, q < h.1 → g.2.2 q = h.2.2 q
theorem kn_SL_at (g : mm_H) (s : Nat) (S : ks_S) : ks_at (bl g s (kn_SL g.1 S)) g.1 S := ⟨bl_at0 rfl, bl_at (i := 1) rfl, bl_at (i := 2) rfl, bl_at (i := 3) rfl, bl_at (i := 4) rfl, bl_at (i := 5) rfl⟩
theorem kn_row_up (x i : Nat) : va_up (fun j => if j < i then some (kc_b x j) else none) i (some (kc_b x i)) = fun j => if j < i + 1 then some (kc_b x j) else none := by
  funext j
  unfold va_up
  by_cases h : j = i
  · rw [if_pos h, if_pos (by omega), h]
  · rw [if_neg h]
    show (if j < i then some (kc_b x j) else none) = _
    by_cases h2 : j < i
    · rw [if_pos h2, if_pos (by omega)]
    · rw [if_neg h2, if_neg (by omega)]
theorem kn_I_next {h g : mm_H} {i : Nat} (I : kn_I h i g) : kn_I h (i + 1) (mm_up (bl g 72 (kn_SL g.1 kn_S0)) (h.1 + 1) (kn_row h.1 (i + 1))) := by
  obtain ⟨I1, I2, I3, I4, I5, I6⟩ := I
  refine ⟨?_, ?_, ?_, mm_up_at _ _ _, fun j hj => ?_, fun q hq => ?_⟩
  · show g.1 + 6 = _
    omega
  · show g.2.1 + 72 = _
    omega
  · rw [mm_up_ne _ _ (by omega), bl_old _ _ _ (by omega)]; exact I3
  · have hb : kc_b h.1 j = h.1 + 2 + 6 * j := rfl
    by_cases e : j = i
    · have e2 : kc_b h.1 j = g.1 := by omega
      rw [e2]
      exact ks_at_same (kn_SL_at g 72 kn_S0) fun q h1 h2 => mm_up_ne _ _ (by omega)
    · exact ks_at_same (I5 j (by omega)) fun q h1 h2 => (mm_up_ne _ _ (by omega)).trans (bl_old _ _ _ (by omega))
  · rw [mm_up_ne _ _ (by omega), bl_old _ _ _ (by omega)]; exact I6 q hq
theorem kn_upup (g : mm_H) (a : Nat) (x y : mm_E) : mm_up (mm_up g a x) a y = mm_up g a y := by
  refine bl_ext rfl rfl fun q => ?_
  show (if q = a then some y else (if q = a then some x else g.2.2 q)) = if q = a then some y else g.2.2 q
  by_cases h : q = a
  · rw [if_pos h, if_pos h]
  · rw [if_neg h, if_neg h, if_neg h]
/-- the class's first state -/
def kn_C0 : kc_C := ((fun _ => kn_S0), (kn_X0, kn_X0, kn_X0), (kn_K0, kn_K0), kn_z 6, true, 0)
def kn_CL (x : Nat) : List mm_E := kn_RL (x + 128) ++ kn_RL (x + 131) ++ kn_RL (x + 134) ++ kn_KL (x + 137) ++ kn_KL (x + 151) ++ [ks_arr 6 (kn_z 6)]
def kn_DC (h : mm_H) : mm_D := fun o g => o = .inl none ∧ kc_at g h.1 kn_C0 ∧ g.1 = h.1 + 166 ∧ g.2.1 = h.2.1 + 2049 ∧ ∀ q, q < h.1 → g.2.2 q = h.2.2 q
theorem kn_end {h g : mm_H} (I : kn_I h 21 g) : kn_DC h (.inl none) (bl (mm_up g h.1 (kc_obj h.1 true 0)) 507 (kn_CL h.1)) := by
  obtain ⟨I1, I2, I3, I4, I5, I6⟩ := I
  obtain ⟨G, eG⟩ : ∃ G, G = mm_up g h.1 (kc_obj h.1 true 0) := ⟨_, rfl⟩
  have G1 : G.1 = h.1 + 128 := by rw [eG]; exact I1
  rw [← eG]
  have old : ∀ q, q < h.1 + 128 → ¬ q = h.1 → (bl G 507 (kn_CL h.1)).2.2 q = g.2.2 q := fun q h1 h2 => by rw [bl_old _ _ _ (by omega), eG, mm_up_ne _ _ h2]
  have new : ∀ i x, (kn_CL h.1)[i]? = some x → (bl G 507 (kn_CL h.1)).2.2 (h.1 + 128 + i) = some x := fun i x e => by rw [← G1]; exact bl_at e
  refine ⟨rfl, ⟨⟨?_, ?_⟩, fun i hi => ?_, ⟨⟨?_, ?_, ?_⟩, ⟨?_, ?_, ?_⟩, ⟨?_, ?_, ?_⟩⟩, ⟨?_, ?_⟩, ?_⟩, ?_, ?_, fun q hq => ?_⟩
  · rw [bl_old _ _ _ (by omega), eG]; exact mm_up_at _ _ _
  · rw [old _ (by omega) (by omega)]; exact I4
  · have hb : kc_b h.1 i = h.1 + 2 + 6 * i := rfl
    exact ks_at_same (I5 i hi) fun q h1 h2 => old q (by omega) (by omega)
  · exact new 0 _ rfl
  · exact new 1 _ rfl
  · exact new 2 _ rfl
  · exact new 3 _ rfl
  · exact new 4 _ rfl
  · exact new 5 _ rfl
  · exact new 6 _ rfl
  · exact new 7 _ rfl
  · exact new 8 _ rfl
  · intro i hi
    rw [show h.1 + 137 + i = h.1 + 128 + (9 + i) by omega]
    refine new (9 + i) _ ?_
    match i, hi with
    | 0, _ => rfl
    | 1, _ => rfl
    | 2, _ => rfl
    | 3, _ => rfl
    | 4, _ => rfl
    | 5, _ => rfl
    | 6, _ => rfl
    | 7, _ => rfl
    | 8, _ => rfl
    | 9, _ => rfl
    | 10, _ => rfl
    | 11, _ => rfl
    | 12, _ => rfl
    | 13, _ => rfl
    | n + 14, h => exact absurd h (by omega)
  · intro i hi
    rw [show h.1 + 151 + i = h.1 + 128 + (23 + i) by omega]
    refine new (23 + i) _ ?_
    match i, hi with
    | 0, _ => rfl
    | 1, _ => rfl
    | 2, _ => rfl
    | 3, _ => rfl
    | 4, _ => rfl
    | 5, _ => rfl
    | 6, _ => rfl
    | 7, _ => rfl
    | 8, _ => rfl
    | 9, _ => rfl
    | 10, _ => rfl
    | 11, _ => rfl
    | 12, _ => rfl
    | 13, _ => rfl
    | n + 14, h => exact absurd h (by omega)
  · exact new 37 _ rfl
  · show G.1 + 38 = _
    omega
  · show G.2.1 + 507 = _
    have : G.2.1 = g.2.1 := by rw [eG]; rfl
    omega
  · rw [old q (by omega) (by omega)]; exact I6 q hq
