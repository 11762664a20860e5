/-! The law's loop: what stands between two calls. -/
abbrev kL_N (Γ : mm_G) : Nat := Γ.2.2.2.2.1
abbrev kL_p (Γ : mm_G) : Nat → Int32 := Γ.2.2.2.2.2
def kL_I (Γ : mm_G) (x : Nat) (h : mm_H) (C : kc_C) (M : km_M) (i : Nat) : Prop := kc_at h x C ∧ (∀ q, q < 16 → h.2.2 (x + 166 + q) = some (km_cell (x + 166) M q)) ∧ (∃ f, h.2.2 (x + 182) = some (kw_out f)) ∧ kq_R C M ∧ h.1 + (kL_N Γ - i) ≤ mm_Cm Γ ∧ h.2.1 + 6 * (kL_N Γ - i) ≤ mm_Sm Γ
/-- behind the class's call -/
def kL_J (Γ : mm_G) (x : Nat) (g : mm_H) (C' : kc_C) (M : km_M) (i : Nat) (f : Nat → Int64) : Prop := kc_at g x C' ∧ km_set g (x + 166) M = g ∧ g.2.2 (x + 182) = some (kw_out f) ∧ g.1 + (kL_N Γ - (i + 5)) ≤ mm_Cm Γ ∧ g.2.1 + 6 * (kL_N Γ - (i + 5)) ≤ mm_Sm Γ
theorem kL_mid {Γ : mm_G} {x i : Nat} {h g : mm_H} {C C' : kc_C} {M : km_M} {f : Nat → Int64} (I : kL_I Γ x h C M i) (hi : i + 5 ≤ kL_N Γ) (k1 : kc_at g x C') (k2 : ∀ q, (q < x ∨ x + 166 ≤ q) → ¬ q = x + 182 → g.2.2 q = h.2.2 q) (k3 : g.1 ≤ h.1 + 1 ∧ g.2.1 ≤ h.2.1 + 6) (k4 : g.2.2 (x + 182) = some (kw_out f)) : kL_J Γ x g C' M i f := by
  obtain ⟨-, i2, -, -, i5, i6⟩ := I
  refine ⟨k1, bk_same (fun q hq => ?_), k4, by omega, by omega⟩
  rw [k2 _ (by omega) (by omega)]; exact i2 q hq
theorem kL_end {Γ : mm_G} {x i : Nat} {g : mm_H} {C' : kc_C} {M M' : km_M} {f : Nat → Int64} (J : kL_J Γ x g C' M i f) (h : kq_R C' M') : kL_I Γ x (km_set g (x + 166) M') C' M' (i + 5) := by
  obtain ⟨j1, -, j3, j4, j5⟩ := J
  refine ⟨kc_at_same j1 (fun q h1 h2 => bk_out g _ (by omega)), fun q hq => km_at g (x + 166) M' hq, ⟨f, ?_⟩, h, j4, j5⟩
  rw [show (km_set g (x + 166) M').2.2 (x + 182) = g.2.2 (x + 182) from bk_out g _ (by omega)]
  exact j3
theorem kL_out {Γ : mm_G} {x i : Nat} {g : mm_H} {C' : kc_C} {M M' : km_M} {f : Nat → Int64} (J : kL_J Γ x g C' M i f) : (km_set g (x + 166) M').2.2 (x + 182) = some (kw_out f) := by
  rw [show (km_set g (x + 166) M').2.2 (x + 182) = g.2.2 (x + 182) from bk_out g _ (by omega)]
  exact J.2.2.1
/-- an answer or one of three -/
def kL_sh (R : kc_R) : Prop := (∃ y : Int32, R.1 = .inl (some (.int y))) ∨ (R.1 = .inr 0 ∨ R.1 = .inr 1 ∨ R.1 = .inr 2)
theorem kL_sh_code {R : kc_R} (h : kL_sh R) : kw_code (fun k => k + 1) R.1 < 2 ^ 31 := by
  rcases h with ⟨y, w⟩ | w | w | w
  · rw [w]; show 0 < 2 ^ 31; decide
  · rw [w]; decide
  · rw [w]; decide
  · rw [w]; decide
theorem kL_cmp (x : Int64) : lg_cmp x x = 0 := by
  unfold lg_cmp
  rw [if_neg (fun w => Int64.lt_irrefl w), if_pos rfl]
theorem kL_put (C : kc_C) (k : Nat) (a : Int32) : kL_sh (kc_put C k a) := by
  unfold kc_put kc_int kL_sh
  (repeat' split) <;> first | exact Or.inl ⟨_, rfl⟩ | exact Or.inr (Or.inl rfl) | exact Or.inr (Or.inr (Or.inl rfl)) | exact Or.inr (Or.inr (Or.inr rfl))
theorem kL_spot (C : kc_C) (a sg f s : Int32) : kL_sh (kc_spot C a sg f s) := by
  unfold kc_spot kc_spotN kc_int kL_sh
  (repeat' split) <;> first | exact Or.inl ⟨_, rfl⟩ | exact Or.inr (Or.inl rfl) | exact Or.inr (Or.inr (Or.inl rfl)) | exact Or.inr (Or.inr (Or.inr rfl))
theorem kL_erase (C : kc_C) (k n : Int32) : kL_sh (kc_erase C k n) := by
  unfold kc_erase kc_nat kL_sh
  (repeat' split) <;> first | exact Or.inl ⟨_, rfl⟩ | exact Or.inr (Or.inl rfl) | exact Or.inr (Or.inr (Or.inl rfl)) | exact Or.inr (Or.inr (Or.inr rfl))
theorem kL_copy (C : kc_C) (k n a : Int32) : kL_sh (kc_copy C k n a) := by
  unfold kc_copy kc_int kL_sh
  (repeat' split) <;> first | exact Or.inl ⟨_, rfl⟩ | exact Or.inr (Or.inl rfl) | exact Or.inr (Or.inr (Or.inl rfl)) | exact Or.inr (Or.inr (Or.inr rfl))
theorem kL_uncopy (C : kc_C) (k n : Int32) : kL_sh (kc_uncopy C k n) := by
  unfold kc_uncopy kc_uncopyN kc_nat kL_sh
  (repeat' split) <;> first | exact Or.inl ⟨_, rfl⟩ | exact Or.inr (Or.inl rfl) | exact Or.inr (Or.inr (Or.inl rfl)) | exact Or.inr (Or.inr (Or.inr rfl))
theorem kL_wrap (C : kc_C) (k n : Int32) : kL_sh (kc_wrap C k n) := by
  unfold kc_wrap kc_int kL_sh
  (repeat' split) <;> first | exact Or.inl ⟨_, rfl⟩ | exact Or.inr (Or.inl rfl) | exact Or.inr (Or.inr (Or.inl rfl)) | exact Or.inr (Or.inr (Or.inr rfl))
theorem kL_unwrap (C : kc_C) (n : Int32) : kL_sh (kc_unwrap C n) := by
  unfold kc_unwrap kc_nat kL_sh
  (repeat' split) <;> first | exact Or.inl ⟨_, rfl⟩ | exact Or.inr (Or.inl rfl) | exact Or.inr (Or.inr (Or.inl rfl)) | exact Or.inr (Or.inr (Or.inr rfl))
theorem kL_join (C : kc_C) (f s : Int32) : kL_sh (kc_join C f s) := by
  unfold kc_join kc_nat kL_sh
  (repeat' split) <;> first | exact Or.inl ⟨_, rfl⟩ | exact Or.inr (Or.inl rfl) | exact Or.inr (Or.inr (Or.inl rfl)) | exact Or.inr (Or.inr (Or.inr rfl))
theorem kL_sever (C : kc_C) (n a : Int32) : kL_sh (kc_sever C n a) := by
  unfold kc_sever kc_int kL_sh
  (repeat' split) <;> first | exact Or.inl ⟨_, rfl⟩ | exact Or.inr (Or.inl rfl) | exact Or.inr (Or.inr (Or.inl rfl)) | exact Or.inr (Or.inr (Or.inr rfl))
def kL_s1 (k : Nat) (R : kc_R) : Prop := (∃ y : Int32, R.1 = .inl (some (.int y))) ∨ (R.1 = .inr k)
theorem kL_back (C : kc_C) : kL_s1 1 (kc_back C) := by
  unfold kc_back kc_nat kL_s1
  split
  · exact Or.inl ⟨_, rfl⟩
  · exact Or.inr rfl
theorem kL_depth (C : kc_C) (n : Int32) : kL_s1 0 (kc_depth C n) := by
  unfold kc_depth kc_nat kL_s1
  split
  · exact Or.inl ⟨_, rfl⟩
  · exact Or.inr rfl
theorem kL_read (C : kc_C) (n : Int32) : kL_s1 0 (kc_read C n) := by
  unfold kc_read kc_nat kL_s1
  split
  · exact Or.inl ⟨_, rfl⟩
  · exact Or.inr rfl
theorem kL_token (C : kc_C) (n : Int32) : kL_s1 3 (kc_token C n) := by
  unfold kc_token kc_nat kL_s1
  split
  · exact Or.inl ⟨_, rfl⟩
  · exact Or.inr rfl
theorem kL_count (C : kc_C) (n : Int32) : kL_s1 0 (kc_count C n) := by
  unfold kc_count kc_nat kL_s1
  split
  · exact Or.inl ⟨_, rfl⟩
  · exact Or.inr rfl
theorem kL_start (C : kc_C) : (kc_start C).1 = .inl none ∨ (kc_start C).1 = .inr 1 := by
  unfold kc_start
  split
  · exact Or.inl rfl
  · exact Or.inr rfl
theorem kL_holds (C : kc_C) (fi : Bool) (n m : Int32) : (∃ b : Bool, (kc_holds C fi n m).1 = .inl (some (.int (mm_bI b)))) ∨ ((kc_holds C fi n m).1 = .inr 0 ∨ (kc_holds C fi n m).1 = .inr 1) := by
  unfold kc_holds
  split
  · unfold kc_holdsN
    split
    · exact Or.inl ⟨_, rfl⟩
    · exact Or.inr (Or.inr rfl)
  · exact Or.inr (Or.inl rfl)
theorem kL_refutes (C : kc_C) (n : Int32) : (∃ y : Int32, (kc_refutes C n).1 = .inl (some (.int y))) ∨ ((kc_refutes C n).1 = .inr 0 ∨ (kc_refutes C n).1 = .inr 1) := by
  unfold kc_refutes kc_int
  split
  · split
    · exact Or.inr (Or.inr rfl)
    · exact Or.inl ⟨_, rfl⟩
  · exact Or.inr (Or.inl rfl)
/-- no exception: the answer -/
theorem kL_ans {cd : Nat → Nat} {R : kc_R} {b : Int32} {M' : km_M} {f : Nat → Int64} (hcd : ∀ k, ¬ cd k = 0) (hv : ∀ v, R.1 = .inl v → ∃ y : Int32, v = some (.int y)) (q : kq_st cd R b M') (hf : ∀ y : Int32, R.1 = .inl (some (.int y)) → f 0 = y.toInt64) (h0 : kw_code cd R.1 = 0) : f 0 = b.toInt64 := by
  cases hR : R.1 with
  | inr k => rw [hR] at h0; exact absurd h0 (hcd k)
  | inl v =>
    obtain ⟨y, rfl⟩ := hv v hR
    rw [hf y hR, q.2.1 y hR]
theorem kL_pre {C : kc_C} {M : km_M} (h : kq_R C M) : kt_ok (km_S M) ∧ m_mv M ≤ 20 ∧ ke_raw (m_sh M) ∧ ke_short (km_S M) ∧ m_rd M ≤ 70 ∧ kt_ok (kz (km_first M)) ∧ ke_raw (km_first M) ∧ ∀ q, q < 1407 → mm_sm (m_kp M q) := by
  have o := h.2.2.1.1.2.1.1
  have f := kq_first h
  obtain ⟨L, l1, -, l3⟩ := h.2.2.2
  refine ⟨o, by rw [h.2.1.1]; exact h.1.1.2.1, kq_raw h.2.2.1.1.2, ke_short_of o, by rw [l3.1]; omega, f.2.1.1, kq_raw f.2, h.2.2.1.2.2⟩
