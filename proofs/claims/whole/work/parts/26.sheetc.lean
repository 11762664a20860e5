/-! Sheet: rehooking, double cuts, copies. -/
def ks_rdStep (S : ks_S) (c : Nat) (x : Option Nat) (i : Nat) : ks_S := if S.2.1 i = some c then ks_putI (ks_moves S (2 ^ i) x 3) (nI 1) (nI i) none else S
def ks_rdLoop (c : Nat) (x : Option Nat) : Nat → Nat → ks_S → ks_S
  | _, 0, S => S
  | i, k + 1, S => ks_rdLoop c x (i + 1) k (ks_rdStep S c x i)
def ks_undouble (S : ks_S) (c : Nat) : ks_S := ks_putI (ks_rdLoop c (ks_areaI S (nI 1) (nI c)) 1 12 S) (nI 1) (nI c) none
def ks_room (S : ks_S) (k : Int32) (x : Option Nat) : Bool := if k = 0 then decide (0 < ks_freeN S 0) else decide (ks_many S 1 (ks_mask S x) < ks_freeN S 1) && (decide (ks_many S 2 (ks_mask S x) ≤ ks_freeN S 2) && decide (ks_many S 0 (ks_mask S x) ≤ ks_freeN S 0))
def ks_th (sf : Nat → Option Nat) (o : Option Nat) : Option Nat := match o with
  | none => none
  | some f => sf f
def ks_copySpot (S : ks_S) (sf : Nat → Option Nat) (s : Nat) (x : Option Nat) : ks_S := ks_addSpot S x (S.2.2.2.1 s) (ks_th sf (S.2.2.2.2 (2 * s))) (ks_th sf (S.2.2.2.2 (2 * s + 1)))
abbrev ks_T : Type := ks_S × (Nat → Option Nat)
def ks_cpL (c : Nat) (made : Option Nat) : Nat → Nat → ks_T → ks_T
  | _, 0, T => T
  | i, k + 1, T => ks_cpL c made (i + 1) k (if T.1.2.2.1 i = some c then (ks_add T.1 2 made, ks_u T.2 i (ks_slot T.1 2)) else T)
def ks_cpS (c : Nat) (made : Option Nat) : Nat → Nat → ks_T → ks_T
  | _, 0, T => T
  | i, k + 1, T => ks_cpS c made (i + 1) k (if T.1.1 i = some c then (ks_copySpot T.1 T.2 i made, T.2) else T)
def ks_cpC (rec : ks_T → Nat → Option Nat → ks_T) (c : Nat) (made : Option Nat) : Nat → Nat → ks_T → ks_T
  | _, 0, T => T
  | i, k + 1, T => ks_cpC rec c made (i + 1) k (if T.1.2.1 i = some c then rec T i made else T)
def ks_cp : Nat → ks_T → Nat → Option Nat → ks_T
  | 0, T, _, _ => T
  | f + 1, T, c, x => ks_cpC (ks_cp f) c (ks_slot T.1 1) 1 12 (ks_cpS c (ks_slot T.1 1) 0 12 (ks_cpL c (ks_slot T.1 1) 0 6 (ks_add T.1 1 x, T.2)))
def ks_okT (T : ks_T) : Prop := ks_ok T.1 ∧ ∀ i, i < 6 → mm_lt (T.2 i) 6
theorem ks_ok_addSpot {S : ks_S} (o : ks_ok S) {x f s : Option Nat} {sg : Nat} (hx : mm_lt x 13) (hg : sg < 4) (hf : mm_lt f 6) (hs : mm_lt s 6) : ks_ok (ks_addSpot S x sg f s) := by
  unfold ks_addSpot
  cases hj : ks_slot S 0 with
  | none => exact o
  | some j =>
    obtain ⟨o1, o2, o3, o4⟩ := o
    refine ⟨fun k i n hi e => ?_, fun i hi => ?_, fun i n hi e => ?_, o4⟩
    · match k with
      | 0 =>
        have e : ks_u S.1 j x i = some n := e
        unfold ks_u at e
        by_cases hij : i = j
        · rw [if_pos hij] at e; exact hx n e
        · rw [if_neg hij] at e; exact o1 0 i n hi e
      | 1 => exact o1 1 i n hi e
      | k + 2 => exact o1 (k + 2) i n hi e
    · show ks_un S.2.2.2.1 j sg i < 4
      unfold ks_un
      by_cases hij : i = j
      · rw [if_pos hij]; exact hg
      · rw [if_neg hij]; exact o2 i hi
    · have e : ks_u (ks_u S.2.2.2.2 (2 * j) f) (2 * j + 1) s i = some n := e
      unfold ks_u at e
      by_cases h1 : i = 2 * j + 1
      · rw [if_pos h1] at e; exact hs n e
      · rw [if_neg h1] at e
        by_cases h2 : i = 2 * j
        · rw [if_pos h2] at e; exact hf n e
        · rw [if_neg h2] at e; exact o3 i n hi e
theorem ks_th_lt {sf : Nat → Option Nat} (hsf : ∀ i, i < 6 → mm_lt (sf i) 6) {o : Option Nat} (ho : mm_lt o 6) : mm_lt (ks_th sf o) 6 := by
  cases o with
  | none => exact mm_lt_none
  | some f => exact hsf f (ho f rfl)
theorem ks_ok_copySpot {T : ks_T} (o : ks_okT T) {s : Nat} (hs : s < 12) {x : Option Nat} (hx : mm_lt x 13) : ks_ok (ks_copySpot T.1 T.2 s x) :=
  ks_ok_addSpot o.1 hx (o.1.2.1 s hs) (ks_th_lt o.2 (o.1.hk (by omega))) (ks_th_lt o.2 (o.1.hk (by omega)))
theorem ks_slot_lt {S : ks_S} {k : Nat} : mm_lt (ks_slot S k) (ks_len k) := fun _ e => (ks_slot_some e).2.1
theorem ks_okT_L {c : Nat} {made : Option Nat} (hm : mm_lt made 13) : ∀ (k i : Nat) (T : ks_T), ks_okT T → ks_okT (ks_cpL c made i k T) := by
  intro k
  induction k with
  | zero => exact fun _ _ h => h
  | succ k ih =>
    intro i T o
    refine ih _ _ ?_
    by_cases h : T.1.2.2.1 i = some c
    · rw [if_pos h]
      refine ⟨ks_ok_add o.1 (by decide) hm, fun j hj => ?_⟩
      show mm_lt (ks_u T.2 i (ks_slot T.1 2) j) 6
      unfold ks_u
      by_cases hij : j = i
      · rw [if_pos hij]; exact ks_slot_lt
      · rw [if_neg hij]; exact o.2 j hj
    · rw [if_neg h]; exact o
theorem ks_okT_S {c : Nat} {made : Option Nat} (hm : mm_lt made 13) : ∀ (k i : Nat) (T : ks_T), i + k = 12 → ks_okT T → ks_okT (ks_cpS c made i k T) := by
  intro k
  induction k with
  | zero => exact fun _ _ _ h => h
  | succ k ih =>
    intro i T hi o
    refine ih _ _ (by omega) ?_
    by_cases h : T.1.1 i = some c
    · rw [if_pos h]; exact ⟨ks_ok_copySpot o (by omega) hm, o.2⟩
    · rw [if_neg h]; exact o
theorem ks_okT_C {rec : ks_T → Nat → Option Nat → ks_T} (hr : ∀ T c x, ks_okT T → mm_lt x 13 → ks_okT (rec T c x)) {c : Nat} {made : Option Nat} (hm : mm_lt made 13) : ∀ (k i : Nat) (T : ks_T), ks_okT T → ks_okT (ks_cpC rec c made i k T) := by
  intro k
  induction k with
  | zero => exact fun _ _ h => h
  | succ k ih =>
    intro i T o
    refine ih _ _ ?_
    by_cases h : T.1.2.1 i = some c
    · rw [if_pos h]; exact hr T i made o hm
    · rw [if_neg h]; exact o
theorem ks_okT_cp : ∀ (f : Nat) (T : ks_T) (c : Nat) (x : Option Nat), ks_okT T → mm_lt x 13 → ks_okT (ks_cp f T c x) := by
  intro f
  induction f with
  | zero => exact fun _ _ _ o _ => o
  | succ f ih =>
    intro T c x o hx
    have hm : mm_lt (ks_slot T.1 1) 13 := ks_slot_lt
    exact ks_okT_C ih hm _ _ _ (ks_okT_S hm _ _ _ rfl (ks_okT_L hm _ _ _ ⟨ks_ok_add o.1 (by decide) hx, o.2⟩))
/-- a sheet at b, the row of lines that stand for others at sa -/
def ks_set2 (h : mm_H) (b sa : Nat) (T : ks_T) : mm_H := mm_up (ks_set h b T.1) sa (ks_arr 6 T.2)
section K2
variable {h : mm_H} {b sa : Nat} {T : ks_T}
theorem k2_at (hb : h.2.2 b = some (ks_obj b)) (hs : sa < b ∨ b + 5 < sa) : ks_at (ks_set2 h b sa T) b T.1 := by
  obtain ⟨a0, a1, a2, a3, a4, a5⟩ := ks_set_at T.1 hb
  unfold ks_set2
  exact ⟨by rw [mm_up_ne _ _ (by omega)]; exact a0, by rw [mm_up_ne _ _ (by omega)]; exact a1, by rw [mm_up_ne _ _ (by omega)]; exact a2, by rw [mm_up_ne _ _ (by omega)]; exact a3, by rw [mm_up_ne _ _ (by omega)]; exact a4, by rw [mm_up_ne _ _ (by omega)]; exact a5⟩
theorem k2_sf : (ks_set2 h b sa T).2.2 sa = some (ks_arr 6 T.2) := mm_up_at _ _ _
theorem ks_set_up (h : mm_H) (b : Nat) (S : ks_S) {sa : Nat} (x : mm_E) (hs : sa < b ∨ b + 5 < sa) : ks_set (mm_up h sa x) b S = mm_up (ks_set h b S) sa x := by
  unfold ks_set
  rw [mm_up_comm h x _ (by omega), mm_up_comm _ x _ (by omega), mm_up_comm _ x _ (by omega), mm_up_comm _ x _ (by omega), mm_up_comm _ x _ (by omega)]
theorem k2_set (hs : sa < b ∨ b + 5 < sa) (S : ks_S) : ks_set (ks_set2 h b sa T) b S = ks_set2 h b sa (S, T.2) := by
  unfold ks_set2
  rw [ks_set_up _ _ _ _ hs, ks_set_set]
theorem k2_up (f : Nat → Option Nat) : mm_up (ks_set2 h b sa T) sa (ks_arr 6 f) = ks_set2 h b sa (T.1, f) := by
  unfold ks_set2
  rw [mm_up_up]
theorem k2_same {S : ks_S} {sf : Nat → Option Nat} (a : ks_at h b S) (hs : h.2.2 sa = some (ks_arr 6 sf)) : ks_set2 h b sa (S, sf) = h := by
  unfold ks_set2
  rw [ks_at_set a, mm_up_same _ hs]
end K2
