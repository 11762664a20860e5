/-! The law's calls of the class: what is caught. -/
theorem xL_13 : Cond.classLink "CutSheetsLaw" 13 (mm_exc 0) ∈ mm_T := mm_in 225 (by decide +kernel) rfl
theorem xL_15 : Cond.classLink "CutSheetsLaw" 15 (mm_exc 1) ∈ mm_T := mm_in 226 (by decide +kernel) rfl
theorem xL_17 : Cond.classLink "CutSheetsLaw" 17 (mm_exc 2) ∈ mm_T := mm_in 227 (by decide +kernel) rfl
theorem xL_65 : Cond.classLink "CutSheetsLaw" 65 (mm_exc 3) ∈ mm_T := mm_in 622 (by decide +kernel) rfl
theorem kc_at_same {h g : mm_H} {x : Nat} {C : kc_C} (a : kc_at h x C) (hq : ∀ q, x ≤ q → q < x + 166 → g.2.2 q = h.2.2 q) : kc_at g x C := by
  obtain ⟨⟨a1, a2⟩, a3, ⟨a4, a5, a6⟩, ⟨a7, a8⟩, a9⟩ := a
  refine ⟨⟨by rw [hq _ (by omega) (by omega)]; exact a1, by rw [hq _ (by omega) (by omega)]; exact a2⟩, fun i hi => ks_at_same (a3 i hi) fun q h1 h2 => hq q (by unfold kc_b at h1; omega) (by unfold kc_b at h2; omega), ⟨kr_at_same a4 fun q h1 h2 => hq q (by omega) (by omega), kr_at_same a5 fun q h1 h2 => hq q (by omega) (by omega), kr_at_same a6 fun q h1 h2 => hq q (by omega) (by omega)⟩, ⟨kl_is_same a7 fun q h1 h2 => hq q (by omega) (by omega), kl_is_same a8 fun q h1 h2 => hq q (by omega) (by omega)⟩, by rw [hq _ (by omega) (by omega)]; exact a9⟩
/-- the row in which answers are laid -/
def kw_out (f : Nat → Int64) : mm_E := .inl (2, 1, .inr (.inl f))
def kw_code (cd : Nat → Nat) : mm_O → Nat
  | .inl _ => 0
  | .inr k => cd k
/-- the class was called: code, new state, the answer's row -/
def kw_D (cd : Nat → Nat) (x a : Nat) (h : mm_H) (R : kc_R) : mm_D := fun o g => o = .inl (some (.int (nI (kw_code cd R.1)))) ∧ kc_at g x R.2 ∧ (∀ q, (q < x ∨ x + 166 ≤ q) → ¬ q = a → g.2.2 q = h.2.2 q) ∧ (g.1 ≤ h.1 + 1 ∧ g.2.1 ≤ h.2.1 + 6) ∧ ∃ f, g.2.2 a = some (kw_out f) ∧ ∀ y : Int32, R.1 = .inl (some (.int y)) → f 0 = y.toInt64
theorem kw_ret {cd : Nat → Nat} {x a : Nat} {h g : mm_H} {R : kc_R} {y : Int32} {f : Nat → Int64} {z : Int64} (hax : a < x ∨ x + 166 ≤ a) (e : R.1 = .inl (some (.int y))) (hz : z = y.toInt64) (k1 : kc_at g x R.2) (k2 : kc_fr x h g) : kw_D cd x a h R (.inl (some (.int (nI 0)))) (mm_up g a (.inl (2, 1, .inr (.inl (vp_updL f 0 z))))) := by
  refine ⟨by rw [e]; rfl, kc_at_same k1 fun q h1 h2 => mm_up_ne _ _ (by omega), fun q h1 h2 => (mm_up_ne _ _ h2).trans (k2.1 q h1), ⟨k2.2.1, k2.2.2⟩, vp_updL f 0 z, mm_up_at _ _ _, fun y' e' => ?_⟩
  have : y = y' := by
    rw [e] at e'
    cases e'
    rfl
  subst this
  rw [← hz]
  rfl
theorem kw_thr {cd : Nat → Nat} {x a k : Nat} {h g : mm_H} {R : kc_R} {f : Nat → Int64} (hax : a < x ∨ x + 166 ≤ a) (ho : h.2.2 a = some (kw_out f)) (e : R.1 = .inr k) (k1 : kc_at g x R.2) (k2 : kc_fr x h g) : kw_D cd x a h R (.inl (some (.int (nI (cd k))))) g := by
  refine ⟨by rw [e]; rfl, k1, fun q h1 _ => k2.1 q h1, ⟨k2.2.1, k2.2.2⟩, f, (k2.1 a hax).trans ho, fun y e' => ?_⟩
  rw [e] at e'
  cases e'
