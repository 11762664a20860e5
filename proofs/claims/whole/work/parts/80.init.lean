/-! New cells, side by side at the heap's end. -/
def bl (h : mm_H) (s : Nat) (L : List mm_E) : mm_H := (h.1 + L.length, h.2.1 + s, fun q => if q < h.1 then h.2.2 q else (L[q - h.1]?).or (h.2.2 q))
theorem bl_q (h : mm_H) (s : Nat) (L : List mm_E) (q : Nat) : (bl h s L).2.2 q = if q < h.1 then h.2.2 q else (L[q - h.1]?).or (h.2.2 q) := rfl
theorem bl_ext {a b : mm_H} (h1 : a.1 = b.1) (h2 : a.2.1 = b.2.1) (h3 : ∀ q, a.2.2 q = b.2.2 q) : a = b := ks_set_ext h1 h2 h3
theorem bl_one (h : mm_H) (n : Nat) (x : mm_E) : mm_add h n x = bl h n [x] := by
  refine bl_ext rfl rfl fun q => ?_
  rw [bl_q]
  show (if q = h.1 then some x else h.2.2 q) = _
  by_cases h1 : q < h.1
  · rw [if_neg (by omega), if_pos h1]
  · rw [if_neg h1]
    by_cases h2 : q = h.1
    · rw [if_pos h2, h2, Nat.sub_self]; rfl
    · rw [if_neg h2, List.getElem?_eq_none (by show 1 ≤ q - h.1; omega)]; rfl
theorem bl_add (h : mm_H) (s n : Nat) (L : List mm_E) (x : mm_E) : mm_add (bl h s L) n x = bl h (s + n) (L ++ [x]) := by
  refine bl_ext ?_ ?_ fun q => ?_
  · show h.1 + L.length + 1 = h.1 + (L ++ [x]).length
    rw [List.length_append]; rfl
  · show h.2.1 + s + n = h.2.1 + (s + n)
    omega
  · rw [bl_q]
    show (if q = h.1 + L.length then some x else (if q < h.1 then h.2.2 q else (L[q - h.1]?).or (h.2.2 q))) = _
    by_cases h1 : q < h.1
    · rw [if_neg (by omega), if_pos h1, if_pos h1]
    · rw [if_neg h1, if_neg h1]
      by_cases h2 : q = h.1 + L.length
      · rw [if_pos h2, show q - h.1 = L.length by omega, List.getElem?_append_right (Nat.le_refl _), Nat.sub_self]; rfl
      · rw [if_neg h2]
        by_cases h3 : q - h.1 < L.length
        · rw [List.getElem?_append_left h3]
        · rw [List.getElem?_eq_none (by omega), List.getElem?_eq_none (by rw [List.length_append]; show L.length + 1 ≤ _; omega)]
theorem bl_up (h : mm_H) (s : Nat) (L : List mm_E) {i : Nat} (hi : i < L.length) (x : mm_E) : mm_up (bl h s L) (h.1 + i) x = bl h s (L.set i x) := by
  refine bl_ext ?_ rfl fun q => ?_
  · show h.1 + L.length = h.1 + (L.set i x).length
    rw [List.length_set]
  · rw [bl_q]
    show (if q = h.1 + i then some x else (if q < h.1 then h.2.2 q else (L[q - h.1]?).or (h.2.2 q))) = _
    by_cases h1 : q < h.1
    · rw [if_neg (by omega), if_pos h1, if_pos h1]
    · rw [if_neg h1, if_neg h1]
      by_cases h2 : q = h.1 + i
      · rw [if_pos h2, show q - h.1 = i by omega, List.getElem?_set_self hi]; rfl
      · rw [if_neg h2, List.getElem?_set_ne (by omega)]
theorem bl_up0 (h : mm_H) (s : Nat) (L : List mm_E) (hi : 0 < L.length) (x : mm_E) : mm_up (bl h s L) h.1 x = bl h s (L.set 0 x) := bl_up h s L (i := 0) hi x
theorem bl_at {h : mm_H} {s : Nat} {L : List mm_E} {i : Nat} {x : mm_E} (e : L[i]? = some x) : (bl h s L).2.2 (h.1 + i) = some x := by
  rw [bl_q, if_neg (by omega), Nat.add_sub_cancel_left, e]
  rfl
theorem bl_at0 {h : mm_H} {s : Nat} {L : List mm_E} {x : mm_E} (e : L[0]? = some x) : (bl h s L).2.2 h.1 = some x := bl_at (i := 0) e
theorem bl_old (h : mm_H) (s : Nat) (L : List mm_E) {q : Nat} (hq : q < h.1) : (bl h s L).2.2 q = h.2.2 q := by
  rw [bl_q, if_pos hq]
theorem bl_bl (h : mm_H) (s s' : Nat) (L L' : List mm_E) : bl (bl h s L) s' L' = bl h (s + s') (L ++ L') := by
  refine bl_ext ?_ ?_ fun q => ?_
  · show h.1 + L.length + L'.length = h.1 + (L ++ L').length
    rw [List.length_append]; omega
  · show h.2.1 + s + s' = h.2.1 + (s + s')
    omega
  · rw [bl_q, bl_q, bl_q]
    show (if q < h.1 + L.length then (if q < h.1 then h.2.2 q else (L[q - h.1]?).or (h.2.2 q)) else (L'[q - (h.1 + L.length)]?).or (if q < h.1 then h.2.2 q else (L[q - h.1]?).or (h.2.2 q))) = _
    by_cases h1 : q < h.1
    · rw [if_pos (by omega), if_pos h1, if_pos h1]
    · rw [if_neg h1, if_neg h1]
      by_cases h2 : q < h.1 + L.length
      · rw [if_pos h2, List.getElem?_append_left (by omega)]
      · rw [if_neg h2, List.getElem?_append_right (by omega), List.getElem?_eq_none (l := L) (by omega), show q - h.1 - L.length = q - (h.1 + L.length) by omega]; rfl
theorem bl_upold (h : mm_H) (s : Nat) (L : List mm_E) {a : Nat} (ha : a < h.1) (x : mm_E) : mm_up (bl h s L) a x = bl (mm_up h a x) s L := by
  refine bl_ext rfl rfl fun q => ?_
  show (if q = a then some x else (if q < h.1 then h.2.2 q else (L[q - h.1]?).or (h.2.2 q))) = (if q < h.1 then (if q = a then some x else h.2.2 q) else (L[q - h.1]?).or (if q = a then some x else h.2.2 q))
  by_cases h1 : q = a
  · rw [if_pos h1, if_pos (by omega), if_pos h1]
  · rw [if_neg h1, if_neg h1]
theorem bl_1 (h : mm_H) (s : Nat) (L : List mm_E) : (bl h s L).1 = h.1 + L.length := rfl
theorem bl_2 (h : mm_H) (s : Nat) (L : List mm_E) : (bl h s L).2.1 = h.2.1 + s := rfl
/-- a new array of ints: noughts within its length -/
theorem kn_ints {N : Nat} {f : Nat → Int32} (hf : ∀ j, j < N → f j = 0) : ∀ cA : ClassId, vp_cell cA (N, .inl f) = arrV cA N (fun _ => defaultValue (mm_aty 0)) := by
  intro cA
  show arrV cA N (fun j => .int (f j)) = _
  unfold arrV
  congr 2
  funext j
  show Value.int (f j.val) = defaultValue (mm_aty 0)
  rw [hf j.val j.isLt]
  rfl
/-- an array of N, noughts, and nothing behind them -/
def kn_z (N : Nat) : Nat → Option Nat := fun j => if j < N then some 0 else none
/-- the first i of them are taken away -/
def kn_w (N i : Nat) : Nat → Option Nat := fun j => if j < i then none else kn_z N j
theorem kn_z_0 (N : Nat) : ∀ j, j < N → (fun i => mm_enc (kn_z N i)) j = 0 := fun j hj => by
  show mm_enc (kn_z N j) = 0
  unfold kn_z
  rw [if_pos hj]; rfl
theorem kn_w_0 (N : Nat) : kn_w N 0 = kn_z N := funext fun j => if_neg (by omega)
theorem kn_w_N (N : Nat) : kn_w N N = fun _ => none := by
  funext j
  unfold kn_w kn_z
  by_cases h : j < N
  · rw [if_pos h]
  · rw [if_neg h, if_neg h]
theorem kn_w_u (N i : Nat) : ks_u (kn_w N i) i none = kn_w N (i + 1) := by
  funext j
  unfold ks_u kn_w
  by_cases h : j = i
  · rw [if_pos h, if_pos (by omega)]
  · rw [if_neg h]
    by_cases h2 : j < i
    · rw [if_pos h2, if_pos (by omega)]
    · rw [if_neg h2, if_neg (by omega)]
def kn_S (a b c : Nat) : ks_S := (kn_w 12 a, kn_w 13 b, kn_w 6 c, fun _ => 0, kn_z 24)
def kn_SL (b : Nat) (S : ks_S) : List mm_E := [ks_obj b, ks_arr 12 S.1, ks_arr 13 S.2.1, ks_arr 6 S.2.2.1, .inl (0, 12, .inl (fun i => nI (S.2.2.2.1 i))), ks_arr 24 S.2.2.2.2]
/-- the sheet that nothing is on -/
def kn_S0 : ks_S := (fun _ => none, fun _ => none, fun _ => none, fun _ => 0, kn_z 24)
theorem kn_S_S0 : kn_S 12 13 6 = kn_S0 := by unfold kn_S kn_S0; rw [kn_w_N, kn_w_N, kn_w_N]
def kn_X0 : kr_X := (fun _ => 0, 0, 0, kn_z 6, 0)
def kn_RL (r : Nat) : List mm_E := [kr_obj r kn_X0, kr_tok kn_X0, ks_arr 6 kn_X0.2.2.2.1]
def kn_GL (g most : Nat) : List mm_E := [kg_cell g most (fun _ => 0, fun _ => 0) 0, kg_cell g most (fun _ => 0, fun _ => 0) 1, kg_cell g most (fun _ => 0, fun _ => 0) 2]
def kn_K0 : kl_K := (((fun _ => 0, fun _ => 0), (fun _ => 0, fun _ => 0), (fun _ => 0, fun _ => 0)), kn_z 6, (fun _ => 0), kn_z 24, (fun _ => 0), 1, 0)
def kn_KL (k : Nat) : List mm_E := (List.range 14).map (kl_cell k kn_K0)
theorem kn_bools {N : Nat} {f : Nat → Int32} (hf : ∀ j, j < N → f j = 0) : ∀ cA : ClassId, vp_cell cA (N, .inl f) = arrV cA N (fun _ => defaultValue (mm_aty 1)) := by
  intro cA
  show arrV cA N (fun j => .int (f j)) = _
  unfold arrV
  congr 2
  funext j
  show Value.int (f j.val) = defaultValue (mm_aty 1)
  rw [hf j.val j.isLt]
  rfl
theorem kn_nest {c : String} {i : Nat} (h : mm_NF.all (fun z => !(decide (z.1 = c) && decide (z.2.1 = i))) = true) : ∀ x, (c, i, x) ∉ mm_NF := by
  intro x hx
  have := List.all_eq_true.mp h _ hx
  simp at this
theorem kn_set1 (h : mm_H) (s j : Nat) (S : ks_S) : mm_up (bl h s (kn_SL h.1 S)) (h.1 + 1) (.inl (0, 12, .inl (upd (fun i => mm_enc (S.1 i)) j (-1)))) = bl h s (kn_SL h.1 (ks_u S.1 j none, S.2)) := by
  rw [bl_up _ _ _ (Nat.le_of_ble_eq_true rfl)]
  show bl h s [_, _, _, _, _, _] = bl h s [_, _, _, _, _, _]
  unfold ks_arr
  rw [show (-1 : Int32) = mm_enc none from rfl, ks_u_enc]
theorem kn_set2 (h : mm_H) (s j : Nat) (S : ks_S) : mm_up (bl h s (kn_SL h.1 S)) (h.1 + 2) (.inl (0, 13, .inl (upd (fun i => mm_enc (S.2.1 i)) j (-1)))) = bl h s (kn_SL h.1 (S.1, ks_u S.2.1 j none, S.2.2)) := by
  rw [bl_up _ _ _ (Nat.le_of_ble_eq_true rfl)]
  show bl h s [_, _, _, _, _, _] = bl h s [_, _, _, _, _, _]
  unfold ks_arr
  rw [show (-1 : Int32) = mm_enc none from rfl, ks_u_enc]
theorem kn_set3 (h : mm_H) (s j : Nat) (S : ks_S) : mm_up (bl h s (kn_SL h.1 S)) (h.1 + 3) (.inl (0, 6, .inl (upd (fun i => mm_enc (S.2.2.1 i)) j (-1)))) = bl h s (kn_SL h.1 (S.1, S.2.1, ks_u S.2.2.1 j none, S.2.2.2)) := by
  rw [bl_up _ _ _ (Nat.le_of_ble_eq_true rfl)]
  show bl h s [_, _, _, _, _, _] = bl h s [_, _, _, _, _, _]
  unfold ks_arr
  rw [show (-1 : Int32) = mm_enc none from rfl, ks_u_enc]
/-- a new reference -/
def kn_M (i : Nat) : km_M := ((0, false, 0, 0, 0, 0), kn_w 67 i, (fun _ => some 0), (fun _ => 0), (fun _ => 0), (fun _ => some 0), (fun _ => 0), (fun _ => 0), (fun _ => false), (fun _ => 0), (fun _ => some 0), (fun _ => 0), (fun _ => 0), (fun _ => 0), (fun _ => 0), (fun _ => some 0))
def kn_ML (m : Nat) (M : km_M) : List mm_E := [km_cell m M 0, km_cell m M 1, km_cell m M 2, km_cell m M 3, km_cell m M 4, km_cell m M 5, km_cell m M 6, km_cell m M 7, km_cell m M 8, km_cell m M 9, km_cell m M 10, km_cell m M 11, km_cell m M 12, km_cell m M 13, km_cell m M 14, km_cell m M 15]
