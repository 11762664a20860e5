/-! The class: sheets, readings, looks, what stands for a line, drawing, moves. -/
abbrev kc_C : Type := (Nat → ks_S) × (kr_X × kr_X × kr_X) × (kl_K × kl_K) × (Nat → Option Nat) × Bool × Nat
def kc_b (x i : Nat) : Nat := x + 2 + 6 * i
def kc_obj (x : Nat) (dr : Bool) (mv : Nat) : mm_E := .inr (4, [.ref (x + 1), .ref (x + 128), .ref (x + 131), .ref (x + 134), .ref (x + 137), .ref (x + 151), .ref (x + 165), .int (mm_bI dr), .int (nI mv)])
def kc_row (x : Nat) : mm_E := .inl (3, 21, .inr (.inr (.inr (.inr (fun i => if i < 21 then some (kc_b x i) else none)))))
def kl_is (h : mm_H) (k : Nat) (K : kl_K) : Prop := ∀ i, i < 14 → h.2.2 (k + i) = some (kl_cell k K i)
theorem kl_is_set {h : mm_H} {k : Nat} {K : kl_K} (a : kl_is h k K) : kl_set h k K = h := bk_same a
theorem kl_set_is (h : mm_H) (k : Nat) (K : kl_K) : kl_is (kl_set h k K) k K := fun _ hi => kl_at h k K hi
def kc_at (h : mm_H) (x : Nat) (C : kc_C) : Prop := (h.2.2 x = some (kc_obj x C.2.2.2.2.1 C.2.2.2.2.2) ∧ h.2.2 (x + 1) = some (kc_row x)) ∧ (∀ i, i < 21 → ks_at h (kc_b x i) (C.1 i)) ∧
  (kr_at h (x + 128) C.2.1.1 ∧ kr_at h (x + 131) C.2.1.2.1 ∧ kr_at h (x + 134) C.2.1.2.2) ∧ (kl_is h (x + 137) C.2.2.1.1 ∧ kl_is h (x + 151) C.2.2.1.2) ∧ h.2.2 (x + 165) = some (ks_arr 6 C.2.2.2.1)
/-- what lies elsewhere stays; what may be new -/
def kc_fr (x : Nat) (h g : mm_H) : Prop := (∀ q, q < x ∨ x + 166 ≤ q → g.2.2 q = h.2.2 q) ∧ g.1 ≤ h.1 + 1 ∧ g.2.1 ≤ h.2.1 + 6
theorem kc_fr_refl (x : Nat) (h : mm_H) : kc_fr x h h := ⟨fun _ _ => rfl, by omega, by omega⟩
theorem kc_fr_exn (x : Nat) (h : mm_H) : kc_fr x h (mm_exn h) := ⟨fun _ _ => rfl, Nat.le_refl _, Nat.le_refl _⟩
theorem kc_fr_of {x : Nat} {h g g' : mm_H} (f : kc_fr x h g) (h1 : g'.1 = g.1) (h2 : g'.2.1 = g.2.1) (hq : ∀ q, q < x ∨ x + 166 ≤ q → g'.2.2 q = g.2.2 q) : kc_fr x h g' := ⟨fun q hh => (hq q hh).trans (f.1 q hh), by rw [h1]; exact f.2.1, by rw [h2]; exact f.2.2⟩
theorem ks_at_same {h g : mm_H} {b : Nat} {S : ks_S} (a : ks_at h b S) (hq : ∀ q, b ≤ q → q ≤ b + 5 → g.2.2 q = h.2.2 q) : ks_at g b S := by
  obtain ⟨a0, a1, a2, a3, a4, a5⟩ := a
  exact ⟨by rw [hq _ (by omega) (by omega)]; exact a0, by rw [hq _ (by omega) (by omega)]; exact a1, by rw [hq _ (by omega) (by omega)]; exact a2, by rw [hq _ (by omega) (by omega)]; exact a3, by rw [hq _ (by omega) (by omega)]; exact a4, by rw [hq _ (by omega) (by omega)]; exact a5⟩
theorem kr_at_same {h g : mm_H} {r : Nat} {X : kr_X} (a : kr_at h r X) (hq : ∀ q, r ≤ q → q ≤ r + 2 → g.2.2 q = h.2.2 q) : kr_at g r X :=
  ⟨by rw [hq _ (by omega) (by omega)]; exact a.1, by rw [hq _ (by omega) (by omega)]; exact a.2.1, by rw [hq _ (by omega) (by omega)]; exact a.2.2⟩
theorem kl_is_same {h g : mm_H} {k : Nat} {K : kl_K} (a : kl_is h k K) (hq : ∀ q, k ≤ q → q < k + 14 → g.2.2 q = h.2.2 q) : kl_is g k K := fun i hi => by rw [hq _ (by omega) (by omega)]; exact a i hi
def kc_up (f : Nat → ks_S) (i : Nat) (S : ks_S) : Nat → ks_S := fun j => if j = i then S else f j
section KC
variable {h : mm_H} {x : Nat} {C : kc_C}
theorem kc_sheet (a : kc_at h x C) {i : Nat} (hi : i < 21) (S : ks_S) : kc_at (ks_set h (kc_b x i) S) x (kc_up C.1 i S, C.2) := by
  obtain ⟨⟨a1, a2⟩, a3, ⟨a4, a5, a6⟩, ⟨a7, a8⟩, a9⟩ := a
  have hb : kc_b x i = x + 2 + 6 * i := rfl
  refine ⟨⟨by rw [ks_set_out _ _ _ (by omega)]; exact a1, by rw [ks_set_out _ _ _ (by omega)]; exact a2⟩, fun j hj => ?_, ⟨kr_at_same a4 fun q h1 h2 => ks_set_out _ _ _ (by omega), kr_at_same a5 fun q h1 h2 => ks_set_out _ _ _ (by omega), kr_at_same a6 fun q h1 h2 => ks_set_out _ _ _ (by omega)⟩, ⟨kl_is_same a7 fun q h1 h2 => ks_set_out _ _ _ (by omega), kl_is_same a8 fun q h1 h2 => ks_set_out _ _ _ (by omega)⟩, by rw [ks_set_out _ _ _ (by omega)]; exact a9⟩
  show ks_at _ _ (if j = i then S else C.1 j)
  by_cases hji : j = i
  · rw [if_pos hji, hji]; exact ks_set_at S (a3 i hi).1
  · rw [if_neg hji]
    have hbj : kc_b x j = x + 2 + 6 * j := rfl
    exact ks_at_same (a3 j hj) fun q h1 h2 => ks_set_out _ _ _ (by omega)
theorem kc_fsheet {g : mm_H} (f : kc_fr x h g) {i : Nat} (hi : i < 21) (S : ks_S) : kc_fr x h (ks_set g (kc_b x i) S) := by
  have hb : kc_b x i = x + 2 + 6 * i := rfl
  exact kc_fr_of f rfl rfl fun q hq => ks_set_out _ _ _ (by omega)
theorem kc_face (a : kc_at h x C) (dr : Bool) (mv : Nat) : kc_at (mm_up h x (kc_obj x dr mv)) x (C.1, C.2.1, C.2.2.1, C.2.2.2.1, dr, mv) := by
  obtain ⟨⟨a1, a2⟩, a3, ⟨a4, a5, a6⟩, ⟨a7, a8⟩, a9⟩ := a
  exact ⟨⟨mm_up_at _ _ _, by rw [mm_up_ne _ _ (by omega)]; exact a2⟩, fun j hj => ks_at_same (a3 j hj) fun q h1 h2 => mm_up_ne _ _ (by unfold kc_b at h1; omega), ⟨kr_at_same a4 fun q h1 h2 => mm_up_ne _ _ (by omega), kr_at_same a5 fun q h1 h2 => mm_up_ne _ _ (by omega), kr_at_same a6 fun q h1 h2 => mm_up_ne _ _ (by omega)⟩, ⟨kl_is_same a7 fun q h1 h2 => mm_up_ne _ _ (by omega), kl_is_same a8 fun q h1 h2 => mm_up_ne _ _ (by omega)⟩, by rw [mm_up_ne _ _ (by omega)]; exact a9⟩
theorem kc_fface {g : mm_H} (f : kc_fr x h g) (dr : Bool) (mv : Nat) : kc_fr x h (mm_up g x (kc_obj x dr mv)) := kc_fr_of f rfl rfl fun q hq => mm_up_ne _ _ (by omega)
theorem kc_last (a : kc_at h x C) (X : kr_X) : kc_at (kr_set h (x + 128) X) x (C.1, (X, C.2.1.2), C.2.2) := by
  obtain ⟨⟨a1, a2⟩, a3, ⟨a4, a5, a6⟩, ⟨a7, a8⟩, a9⟩ := a
  exact ⟨⟨by rw [kr_set_out _ _ _ (by omega)]; exact a1, by rw [kr_set_out _ _ _ (by omega)]; exact a2⟩, fun j hj => ks_at_same (a3 j hj) fun q h1 h2 => kr_set_out _ _ _ (by unfold kc_b at h2; omega), ⟨kr_set_at _ _ _, kr_at_same a5 fun q h1 h2 => kr_set_out _ _ _ (by omega), kr_at_same a6 fun q h1 h2 => kr_set_out _ _ _ (by omega)⟩, ⟨kl_is_same a7 fun q h1 h2 => kr_set_out _ _ _ (by omega), kl_is_same a8 fun q h1 h2 => kr_set_out _ _ _ (by omega)⟩, by rw [kr_set_out _ _ _ (by omega)]; exact a9⟩
theorem kc_part (a : kc_at h x C) (X : kr_X) : kc_at (kr_set h (x + 131) X) x (C.1, (C.2.1.1, X, C.2.1.2.2), C.2.2) := by
  obtain ⟨⟨a1, a2⟩, a3, ⟨a4, a5, a6⟩, ⟨a7, a8⟩, a9⟩ := a
  exact ⟨⟨by rw [kr_set_out _ _ _ (by omega)]; exact a1, by rw [kr_set_out _ _ _ (by omega)]; exact a2⟩, fun j hj => ks_at_same (a3 j hj) fun q h1 h2 => kr_set_out _ _ _ (by unfold kc_b at h2; omega), ⟨kr_at_same a4 fun q h1 h2 => kr_set_out _ _ _ (by omega), kr_set_at _ _ _, kr_at_same a6 fun q h1 h2 => kr_set_out _ _ _ (by omega)⟩, ⟨kl_is_same a7 fun q h1 h2 => kr_set_out _ _ _ (by omega), kl_is_same a8 fun q h1 h2 => kr_set_out _ _ _ (by omega)⟩, by rw [kr_set_out _ _ _ (by omega)]; exact a9⟩
theorem kc_other (a : kc_at h x C) (X : kr_X) : kc_at (kr_set h (x + 134) X) x (C.1, (C.2.1.1, C.2.1.2.1, X), C.2.2) := by
  obtain ⟨⟨a1, a2⟩, a3, ⟨a4, a5, a6⟩, ⟨a7, a8⟩, a9⟩ := a
  exact ⟨⟨by rw [kr_set_out _ _ _ (by omega)]; exact a1, by rw [kr_set_out _ _ _ (by omega)]; exact a2⟩, fun j hj => ks_at_same (a3 j hj) fun q h1 h2 => kr_set_out _ _ _ (by unfold kc_b at h2; omega), ⟨kr_at_same a4 fun q h1 h2 => kr_set_out _ _ _ (by omega), kr_at_same a5 fun q h1 h2 => kr_set_out _ _ _ (by omega), kr_set_at _ _ _⟩, ⟨kl_is_same a7 fun q h1 h2 => kr_set_out _ _ _ (by omega), kl_is_same a8 fun q h1 h2 => kr_set_out _ _ _ (by omega)⟩, by rw [kr_set_out _ _ _ (by omega)]; exact a9⟩
theorem kc_first (a : kc_at h x C) (K : kl_K) : kc_at (kl_set h (x + 137) K) x (C.1, C.2.1, (K, C.2.2.1.2), C.2.2.2) := by
  obtain ⟨⟨a1, a2⟩, a3, ⟨a4, a5, a6⟩, ⟨a7, a8⟩, a9⟩ := a
  exact ⟨⟨by rw [kl_set, bk_out _ _ (by omega)]; exact a1, by rw [kl_set, bk_out _ _ (by omega)]; exact a2⟩, fun j hj => ks_at_same (a3 j hj) fun q h1 h2 => bk_out _ _ (by unfold kc_b at h2; omega), ⟨kr_at_same a4 fun q h1 h2 => bk_out _ _ (by omega), kr_at_same a5 fun q h1 h2 => bk_out _ _ (by omega), kr_at_same a6 fun q h1 h2 => bk_out _ _ (by omega)⟩, ⟨kl_set_is _ _ _, kl_is_same a8 fun q h1 h2 => bk_out _ _ (by omega)⟩, by rw [kl_set, bk_out _ _ (by omega)]; exact a9⟩
theorem kc_now (a : kc_at h x C) (K : kl_K) : kc_at (kl_set h (x + 151) K) x (C.1, C.2.1, (C.2.2.1.1, K), C.2.2.2) := by
  obtain ⟨⟨a1, a2⟩, a3, ⟨a4, a5, a6⟩, ⟨a7, a8⟩, a9⟩ := a
  exact ⟨⟨by rw [kl_set, bk_out _ _ (by omega)]; exact a1, by rw [kl_set, bk_out _ _ (by omega)]; exact a2⟩, fun j hj => ks_at_same (a3 j hj) fun q h1 h2 => bk_out _ _ (by unfold kc_b at h2; omega), ⟨kr_at_same a4 fun q h1 h2 => bk_out _ _ (by omega), kr_at_same a5 fun q h1 h2 => bk_out _ _ (by omega), kr_at_same a6 fun q h1 h2 => bk_out _ _ (by omega)⟩, ⟨kl_is_same a7 fun q h1 h2 => bk_out _ _ (by omega), kl_set_is _ _ _⟩, by rw [kl_set, bk_out _ _ (by omega)]; exact a9⟩
theorem kc_sf (a : kc_at h x C) (f : Nat → Option Nat) : kc_at (mm_up h (x + 165) (ks_arr 6 f)) x (C.1, C.2.1, C.2.2.1, f, C.2.2.2.2) := by
  obtain ⟨⟨a1, a2⟩, a3, ⟨a4, a5, a6⟩, ⟨a7, a8⟩, a9⟩ := a
  exact ⟨⟨by rw [mm_up_ne _ _ (by omega)]; exact a1, by rw [mm_up_ne _ _ (by omega)]; exact a2⟩, fun j hj => ks_at_same (a3 j hj) fun q h1 h2 => mm_up_ne _ _ (by unfold kc_b at h2; omega), ⟨kr_at_same a4 fun q h1 h2 => mm_up_ne _ _ (by omega), kr_at_same a5 fun q h1 h2 => mm_up_ne _ _ (by omega), kr_at_same a6 fun q h1 h2 => mm_up_ne _ _ (by omega)⟩, ⟨kl_is_same a7 fun q h1 h2 => mm_up_ne _ _ (by omega), kl_is_same a8 fun q h1 h2 => mm_up_ne _ _ (by omega)⟩, mm_up_at _ _ _⟩
theorem kc_fsf {g : mm_H} (f : kc_fr x h g) (u : mm_E) : kc_fr x h (mm_up g (x + 165) u) := kc_fr_of f rfl rfl fun q hq => mm_up_ne _ _ (by omega)
theorem kc_fread {g : mm_H} (f : kc_fr x h g) {r : Nat} (hr : r = x + 128 ∨ r = x + 131 ∨ r = x + 134) (X : kr_X) : kc_fr x h (kr_set g r X) := kc_fr_of f rfl rfl fun q hq => kr_set_out _ _ _ (by omega)
theorem kc_flook {g : mm_H} (f : kc_fr x h g) {k : Nat} (hk : k = x + 137 ∨ k = x + 151) (K : kl_K) : kc_fr x h (kl_set g k K) := kc_fr_of f rfl rfl fun q hq => bk_out _ _ (by omega)
end KC
/-- in range -/
def kc_ok (C : kc_C) : Prop := (∀ i, i < 21 → ks_ok (C.1 i)) ∧ C.2.2.2.2.2 ≤ 20 ∧ (C.2.2.2.2.1 = true → C.2.2.2.2.2 = 0) ∧ (kr_ok C.2.1.1 ∧ kr_ok C.2.1.2.1 ∧ kr_ok C.2.1.2.2)
/-- the sheet that stands now; whether one may be put in, whether there is room for a change; the change -/
def kc_S (C : kc_C) : ks_S := C.1 C.2.2.2.2.2
def kc_mayIn (C : kc_C) (a : Int32) : Bool := C.2.2.2.2.1 || ks_odd (kc_S C) a
def kc_mayCh (C : kc_C) : Bool := C.2.2.2.2.1 || decide (C.2.2.2.2.2 < 20)
def kc_mv (C : kc_C) : Nat := if C.2.2.2.2.1 = true then C.2.2.2.2.2 else if C.2.2.2.2.2 < 20 then C.2.2.2.2.2 + 1 else C.2.2.2.2.2
/-- changed to the sheet S -/
def kc_new (C : kc_C) (S : ks_S) : kc_C := (kc_up C.1 (kc_mv C) S, C.2.1, C.2.2.1, C.2.2.2.1, C.2.2.2.2.1, kc_mv C)
abbrev kc_R : Type := mm_O × kc_C
/-- a method's end: the answer or what was thrown, the new state -/
def kc_D (x : Nat) (h : mm_H) (R : kc_R) : mm_D := fun o g => o = R.1 ∧ kc_at g x R.2 ∧ kc_fr x h g
