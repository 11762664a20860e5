/-! The first states tell the same. -/
theorem kq_none : kz (fun _ => none) = ((fun _ => none), (fun _ => none), (fun _ => none), (fun _ => 0), fun _ => none) := by
  refine Prod.ext (funext fun q => ?_) (Prod.ext (funext fun q => ?_) (Prod.ext (funext fun q => ?_) (Prod.ext (funext fun q => ?_) (funext fun q => ?_)))) <;> simp only [kz] <;> split <;> rfl
theorem kq_R0 : kq_R kn_C0 (kn_M 67) := by
  have okS : ks_ok kn_S0 := by
    refine ⟨fun k i n hi h => ?_, fun i hi => (by decide : (0 : Nat) < 4), fun i n hi h => ?_, rfl⟩
    · match k, h with
      | 0, h => cases h
      | 1, h => cases h
      | k + 2, h => cases h
    · have h : kn_z 24 i = some n := h
      unfold kn_z at h
      rw [if_pos hi] at h
      cases h
      decide
  have okX : kr_ok kn_X0 := by
    refine ⟨by decide, by decide, by decide, fun n hn => ?_⟩
    show mm_lt (kn_z 6 n) 6
    unfold kn_z
    rw [if_pos hn]
    exact mm_lt_some (by decide)
  have preK : kl_pre kn_K0 := ⟨⟨fun _ _ => (by decide : (0 : Nat) < 6), fun _ _ => (by decide : (0 : Nat) < 12), fun _ _ => (by decide : (0 : Nat) < 13)⟩, fun _ _ => (by decide : (0 : Nat) < 3)⟩
  have sh : m_sh (kn_M 67) = fun _ => none := kn_w_N 67
  have tk : kr_tk kn_X0 := fun _ => (by decide : (0 : Nat) < 1000)
  refine ⟨⟨⟨fun i _ => okS, by decide, fun _ => rfl, okX, okX, okX⟩, ⟨tk, tk⟩, preK, preK⟩, ⟨rfl, rfl⟩, ⟨?_, fun i hi => absurd hi (by show ¬ i < 0; omega), fun q _ => mm_sm_some (by decide)⟩, [], by decide, ⟨rfl, ke_hasL_nil _ _⟩, rfl, ke_hasL_nil _ _⟩
  rw [sh]
  show kq kn_S0 (fun _ => none)
  refine kq_mk kq_none ⟨⟨rfl, rfl, rfl⟩, fun s _ w => absurd rfl w⟩ (kt_ok_mk ⟨fun k i n hi h => ?_, fun i hi => (by decide : (0 : Nat) < 4), fun i n hi h => (nomatch h), rfl⟩ ⟨rfl, fun x y _ h => (nomatch h), fun x _ h => absurd rfl h⟩ (fun i a _ h => (nomatch h)) (fun i a _ h => (nomatch h))) ⟨fun s a _ h => (nomatch h), fun s k _ _ _ => rfl⟩ (fun s _ w => absurd rfl w)
  match k, h with
  | 0, h => cases h
  | 1, h => cases h
  | k + 2, h => cases h
theorem kn_ML_at (m : Nat) (M : km_M) (y : mm_E) : ∀ q, q < 16 → (kn_ML m M ++ [y])[q]? = some (km_cell m M q) := km_16 rfl rfl rfl rfl rfl rfl rfl rfl rfl rfl rfl rfl rfl rfl rfl rfl
