/-! Rows over the heap, ends, throws. -/
section MMR
variable {Γ : mm_G} {l : Launch} {M : mm_M} {d : Nat} {D : mm_D} {pc : Nat} {ls : mm_L} {st : List Value} {h : mm_H}
theorem mm_ireturn {v : Int32} (hd : decode M.2.1 pc = .ok (.ireturn, 1)) (hM : M.2.2.2.1 = some .int) (hD : D (.inl (some (.int v))) h) : mm_W Γ l M d D pc ls [.int v] h := by
  intro p e R s m args below meth c u0 hC H locs cells slots la hr hl hq h1 h2
  refine mm_mono ?_ (W.iret (Qc := fun _ _ o t => o = .returned (some (.int v)) ∧ mm_R Γ t h t.heap) (free := fun q => mm_B Γ ≤ q) hC.x hC.b (by rw [hC.ret]; exact hM) (fun t ht hW => ⟨rfl, by rw [ht]; exact hr.moved hW.alike⟩) hq hd hC.lk)
  rintro t ⟨o, a1, a2, ⟨rfl, a3⟩, L, ⟨-, a4, a5⟩, a6⟩
  exact ⟨_, .inl (some (.int v)), h, L, cells, slots, a1, a2, rfl, hD, a3, a4, a5, a6, h1, h2⟩
theorem mm_zreturn {v : Int32} (hd : decode M.2.1 pc = .ok (.ireturn, 1)) (hM : M.2.2.2.1 = some .boolean) (hv : narrow .boolean (.int v) = .int v) (hD : D (.inl (some (.int v))) h) : mm_W Γ l M d D pc ls [.int v] h := by
  intro p e R s m args below meth c u0 hC H locs cells slots la hr hl hq h1 h2
  refine mm_mono ?_ (W.zret (ty := .boolean) (Qc := fun _ _ o t => o = .returned (some (.int v)) ∧ mm_R Γ t h t.heap) (free := fun q => mm_B Γ ≤ q) hC.x hC.b (by rw [hC.ret]; exact hM) hv (fun t ht hW => ⟨rfl, by rw [ht]; exact hr.moved hW.alike⟩) hq hd hC.lk)
  rintro t ⟨o, a1, a2, ⟨rfl, a3⟩, L, ⟨-, a4, a5⟩, a6⟩
  exact ⟨_, .inl (some (.int v)), h, L, cells, slots, a1, a2, rfl, hD, a3, a4, a5, a6, h1, h2⟩
theorem mm_return (hd : decode M.2.1 pc = .ok (.return_, 1)) (hM : M.2.2.2.1 = none) (hD : D (.inl none) h) : mm_W Γ l M d D pc ls [] h := by
  intro p e R s m args below meth c u0 hC H locs cells slots la hr hl hq h1 h2
  refine mm_mono ?_ (W.vret (Qc := fun _ _ o t => o = .returned none ∧ mm_R Γ t h t.heap) (free := fun q => mm_B Γ ≤ q) hC.x hC.b (by rw [hC.ret]; exact hM) (fun t ht hW => ⟨rfl, by rw [ht]; exact hr.moved hW.alike⟩) hq hd hC.lk)
  rintro t ⟨o, a1, a2, ⟨rfl, a3⟩, L, ⟨-, a4, a5⟩, a6⟩
  exact ⟨_, .inl none, h, L, cells, slots, a1, a2, rfl, hD, a3, a4, a5, a6, h1, h2⟩
theorem mm_areturn {a : Nat} {rt : FieldType} (hd : decode M.2.1 pc = .ok (.areturn, 1)) (hM : M.2.2.2.1 = some rt) (hrt : (∃ n, rt = .object n) ∨ ∃ t, rt = .array t) (hD : D (.inl (some (.ref a))) h) : mm_W Γ l M d D pc ls [.ref a] h := by
  intro p e R s m args below meth c u0 hC H locs cells slots la hr hl hq h1 h2
  refine mm_mono ?_ (W.aret (v := .ref a) (rt := rt) (Qc := fun _ _ o t => o = .returned (some (.ref a)) ∧ mm_R Γ t h t.heap) (free := fun q => mm_B Γ ≤ q) hC.x hC.b (by rw [hC.ret]; exact hM) hrt (Or.inr ⟨a, rfl⟩) (fun t ht hW => ⟨rfl, by rw [ht]; exact hr.moved hW.alike⟩) hq hd hC.lk)
  rintro t ⟨o, a1, a2, ⟨rfl, a3⟩, L, ⟨-, a4, a5⟩, a6⟩
  exact ⟨_, .inl (some (.ref a)), h, L, cells, slots, a1, a2, rfl, hD, a3, a4, a5, a6, h1, h2⟩
/-- locals may be forgotten -/
theorem mm_sub {ls' : mm_L} (hs : ∀ (i : Nat) (v : Value), ls'[i]? = some (some v) → ls[i]? = some (some v)) (k : mm_W Γ l M d D pc ls' st h) : mm_W Γ l M d D pc ls st h :=
  fun p e R s m args below meth c u0 hC H locs cells slots la hr hl hq h1 h2 => k p e R s m args below meth c u0 hC H locs cells slots la hr ⟨hl.1, hl.2.1, fun i v hv => hl.2.2 i v (hs i v hv)⟩ hq h1 h2
/-- what is weaker at the end -/
theorem mm_post {D1 : mm_D} (hs : ∀ o g, D1 o g → D o g) (k : mm_W Γ l M d D1 pc ls st h) : mm_W Γ l M d D pc ls st h := by
  intro p e R s m args below meth c u0 hC H locs cells slots la hr hl hq h1 h2
  refine mm_mono ?_ (k p e R s m args below meth c u0 hC H locs cells slots la hr hl hq h1 h2)
  rintro t ⟨o, o', h', L, k1, n1, a1, a2, a3, a4, a5⟩
  exact ⟨o, o', h', L, k1, n1, a1, a2, a3, hs _ _ a4, a5⟩
theorem mm_arr {Γ : mm_G} {U : State} (hK : mm_K Γ U) (k : Nat) (hk : k < 4) : ArrOfT U (Γ.2.1 k) (mm_aty k) := by
  match k, hk with
  | 0, _ => exact (hK.1.2 0 _ rfl).1
  | 1, _ => exact (hK.1.2 1 _ rfl).1
  | 2, _ => exact (hK.1.2 2 _ rfl).1
  | 3, _ => exact (hK.1.2 3 _ rfl).1
  | n + 4, h => exact absurd h (by omega)
theorem mm_ix {j n : Nat} (hj : j < n) (hn : n < 2 ^ 31) (cA : ClassId) (f : Nat → Value) : ¬ (nI j < 0 ∨ (arrV cA n f).slots.size ≤ (nI j).toNatClampNeg) := by rw [arrV_size]; exact nI_in hj hn
theorem mm_rd {j n : Nat} (hj : j < n) (hn : n < 2 ^ 31) (cA : ClassId) (f : Nat → Value) : (arrV cA n f).slots[(nI j).toNatClampNeg]? = some (f j) := by rw [nI_clamp (by omega), arrV_read _ _ hj]
/-- an int array is read -/
theorem mm_iaload {a n j : Nat} {f : Nat → Int32} {i : Int32} (hd : decode M.2.1 pc = .ok (.iaload, 1)) (ha : h.2.2 a = some (.inl (0, n, .inl f))) (hi : i = nI j) (hj : j < n) (hn : n < 2 ^ 31) (k : mm_W Γ l M d D (pc + 1) ls (.int (f j) :: st) h) : mm_W Γ l M d D pc ls (.int i :: .ref a :: st) h := by
  intro p e R s m args below meth c u0 hC H locs cells slots la hr hl hq h1 h2
  subst hi
  exact W.iald (v := .int (f j)) hC.x hC.b ((hr.2.1 a _ ha).2) (mm_arr hC.k 0 (by decide) n (fun j => .int (f j))) (fun q => by cases q) (mm_ix hj hn _ _) (mm_rd hj hn _ _) rfl rfl hd (k p e R s m args below meth c u0 hC H locs cells slots la hr hl hq h1 h2)
theorem mm_baload {a n j : Nat} {f : Nat → Int32} {i : Int32} (hd : decode M.2.1 pc = .ok (.baload, 1)) (ha : h.2.2 a = some (.inl (1, n, .inl f))) (hi : i = nI j) (hj : j < n) (hn : n < 2 ^ 31) (k : mm_W Γ l M d D (pc + 1) ls (.int (f j) :: st) h) : mm_W Γ l M d D pc ls (.int i :: .ref a :: st) h := by
  intro p e R s m args below meth c u0 hC H locs cells slots la hr hl hq h1 h2
  subst hi
  exact W.zald (v := .int (f j)) hC.x hC.b ((hr.2.1 a _ ha).2) (mm_arr hC.k 1 (by decide) n (fun j => .int (f j))) (fun q => by cases q) (mm_ix hj hn _ _) (mm_rd hj hn _ _) rfl rfl hd (k p e R s m args below meth c u0 hC H locs cells slots la hr hl hq h1 h2)
theorem mm_laload {a n j : Nat} {f : Nat → Int64} {i : Int32} (hd : decode M.2.1 pc = .ok (.laload, 1)) (ha : h.2.2 a = some (.inl (2, n, .inr (.inl f)))) (hi : i = nI j) (hj : j < n) (hn : n < 2 ^ 31) (k : mm_W Γ l M d D (pc + 1) ls (.long (f j) :: st) h) : mm_W Γ l M d D pc ls (.int i :: .ref a :: st) h := by
  intro p e R s m args below meth c u0 hC H locs cells slots la hr hl hq h1 h2
  subst hi
  exact W.lald (v := .long (f j)) hC.x hC.b ((hr.2.1 a _ ha).2) (mm_arr hC.k 2 (by decide) n (fun j => .long (f j))) (fun q => by cases q) (mm_ix hj hn _ _) (mm_rd hj hn _ _) rfl rfl hd (k p e R s m args below meth c u0 hC H locs cells slots la hr hl hq h1 h2)
theorem mm_aaload {a n j b : Nat} {f : Nat → Option Nat} {i : Int32} (hd : decode M.2.1 pc = .ok (.aaload, 1)) (ha : h.2.2 a = some (.inl (3, n, .inr (.inr (.inr (.inr f)))))) (hi : i = nI j) (hj : j < n) (hn : n < 2 ^ 31) (hf : f j = some b) (k : mm_W Γ l M d D (pc + 1) ls (.ref b :: st) h) : mm_W Γ l M d D pc ls (.int i :: .ref a :: st) h := by
  intro p e R s m args below meth c u0 hC H locs cells slots la hr hl hq h1 h2
  subst hi
  refine W.aald (v := va_rf (f j)) (ty := .object "CutSheets$Sheet") hC.x hC.b ((hr.2.1 a _ ha).2) (mm_arr hC.k 3 (by decide) n (fun j => va_rf (f j))) rfl (fun q => by cases q) (mm_ix hj hn _ _) (mm_rd hj hn _ _) rfl rfl hd ?_
  rw [hf]
  exact k p e R s m args below meth c u0 hC H locs cells slots la hr hl hq h1 h2
/-- the script is read -/
theorem mm_sload {j : Nat} {i : Int32} (hd : decode M.2.1 pc = .ok (.iaload, 1)) (hi : i = nI j) (hj : j < Γ.2.2.2.2.1) (hn : Γ.2.2.2.2.1 < 2 ^ 31) (k : mm_W Γ l M d D (pc + 1) ls (.int (Γ.2.2.2.2.2 j) :: st) h) : mm_W Γ l M d D pc ls (.int i :: .ref Γ.2.2.2.1 :: st) h := by
  intro p e R s m args below meth c u0 hC H locs cells slots la hr hl hq h1 h2
  subst hi
  obtain ⟨scr, s1, s2, s3, s4, s5⟩ := hr.2.2.1.2
  exact W.iald (v := .int (Γ.2.2.2.2.2 j)) hC.x hC.b s1 s2 s3 (by rw [s4]; exact nI_in hj hn) (by rw [nI_clamp (by omega)]; exact s5 j hj) rfl rfl hd (k p e R s m args below meth c u0 hC H locs cells slots la hr hl hq h1 h2)
theorem mm_slen {v : Int32} (hd : decode M.2.1 pc = .ok (.arraylength, 1)) (hv : nI Γ.2.2.2.2.1 = v) (k : mm_W Γ l M d D (pc + 1) ls (.int v :: st) h) : mm_W Γ l M d D pc ls (.ref Γ.2.2.2.1 :: st) h := by
  intro p e R s m args below meth c u0 hC H locs cells slots la hr hl hq h1 h2
  subst hv
  obtain ⟨scr, s1, s2, s3, s4, s5⟩ := hr.2.2.1.2
  exact W.alen (n := nI Γ.2.2.2.2.1) hC.x hC.b s1 s2 (by rw [s4] <;> rfl) rfl rfl hd (k p e R s m args below meth c u0 hC H locs cells slots la hr hl hq h1 h2)
theorem mm_alen {a t n : Nat} {x : _} {v : Int32} (hd : decode M.2.1 pc = .ok (.arraylength, 1)) (ha : h.2.2 a = some (.inl (t, n, x))) (ht : t < 4) (hv : nI n = v) (k : mm_W Γ l M d D (pc + 1) ls (.int v :: st) h) : mm_W Γ l M d D pc ls (.ref a :: st) h := by
  intro p e R s m args below meth c u0 hC H locs cells slots la hr hl hq h1 h2
  subst hv
  have kk := k p e R s m args below meth c u0 hC H locs cells slots la hr hl hq h1 h2
  have hc := (hr.2.1 a _ ha).2
  have hA := mm_arr hC.k t ht n
  match x, hc with
  | .inl f, hc => exact W.alen (n := nI n) hC.x hC.b hc (hA (fun j => .int (f j))) (by rw [vp_cell_i, arrV_size] <;> rfl) rfl rfl hd kk
  | .inr (.inl f), hc => exact W.alen (n := nI n) hC.x hC.b hc (hA (fun j => .long (f j))) (by rw [vp_cell_l, arrV_size] <;> rfl) rfl rfl hd kk
  | .inr (.inr (.inl f)), hc => exact W.alen (n := nI n) hC.x hC.b hc (hA (fun j => .float (f j))) (by rw [vp_cell_f, arrV_size] <;> rfl) rfl rfl hd kk
  | .inr (.inr (.inr (.inl f))), hc => exact W.alen (n := nI n) hC.x hC.b hc (hA (fun j => .double (f j))) (by rw [vp_cell_d, arrV_size] <;> rfl) rfl rfl hd kk
  | .inr (.inr (.inr (.inr f))), hc => exact W.alen (n := nI n) hC.x hC.b hc (hA (fun j => va_rf (f j))) (by rw [vp_cell_q, arrV_size] <;> rfl) rfl rfl hd kk
theorem mm_updi (cA : ClassId) (n j : Nat) (f : Nat → Int32) (x : Int32) : (vp_cell cA (n, .inl f)).setSlot j (.int x) = vp_cell cA (n, .inl (upd f j x)) := by
  rw [vp_cell_i, vp_cell_i, arrV_store]
  congr 1
  funext q
  by_cases hqj : q = j
  · subst hqj; simp [updV, upd]
  · simp [updV, upd, hqj]
theorem mm_updl (cA : ClassId) (n j : Nat) (f : Nat → Int64) (x : Int64) : (vp_cell cA (n, .inr (.inl f))).setSlot j (.long x) = vp_cell cA (n, .inr (.inl (vp_updL f j x))) := by
  rw [vp_cell_l, vp_cell_l, arrV_store]
  congr 1
  funext q
  by_cases hqj : q = j
  · subst hqj; simp [updV, vp_updL]
  · simp [updV, vp_updL, hqj]
theorem mm_updq (cA : ClassId) (n j v : Nat) (f : Nat → Option Nat) : (vp_cell cA (n, .inr (.inr (.inr (.inr f))))).setSlot j (.ref v) = vp_cell cA (n, .inr (.inr (.inr (.inr (va_up f j (some v)))))) := by
  rw [vp_cell_q, vp_cell_q, arrV_store]
  congr 1
  funext q
  by_cases hqj : q = j
  · subst hqj; simp [updV, va_up, va_rf]
  · simp [updV, va_up, hqj]
/-- an int array is written -/
theorem mm_iastore {a n j : Nat} {f : Nat → Int32} {i x : Int32} (hd : decode M.2.1 pc = .ok (.iastore, 1)) (ha : h.2.2 a = some (.inl (0, n, .inl f))) (hi : i = nI j) (hj : j < n) (hn : n < 2 ^ 31) (k : mm_W Γ l M d D (pc + 1) ls st (mm_up h a (.inl (0, n, .inl (upd f j x))))) : mm_W Γ l M d D pc ls (.int x :: .int i :: .ref a :: st) h := by
  intro p e R s m args below meth c u0 hC H locs cells slots la hr hl hq h1 h2
  subst hi
  refine W.iast hC.x hC.b ((hr.2.1 a _ ha).2) (mm_arr hC.k 0 (by decide) n (fun j => .int (f j))) (fun q => by cases q) (mm_ix hj hn _ _) rfl rfl hd fun H1 e1 z oq => ?_
  rw [nI_clamp (by omega)] at e1 ⊢
  refine k p e R s m args below meth c u0 hC H1 _ cells slots la (hr.set ha ?_ z oq) hl (t_lc hq (hr.2.1 a _ ha).1) h1 h2
  show H1[a]? = some (vp_cell _ _)
  rw [e1]
  exact congrArg some (mm_updi _ _ _ _ _)
theorem mm_bastore {a n j : Nat} {f : Nat → Int32} {i x : Int32} (hd : decode M.2.1 pc = .ok (.bastore, 1)) (ha : h.2.2 a = some (.inl (1, n, .inl f))) (hi : i = nI j) (hj : j < n) (hn : n < 2 ^ 31) (hx : narrow .boolean (.int x) = .int x) (k : mm_W Γ l M d D (pc + 1) ls st (mm_up h a (.inl (1, n, .inl (upd f j x))))) : mm_W Γ l M d D pc ls (.int x :: .int i :: .ref a :: st) h := by
  intro p e R s m args below meth c u0 hC H locs cells slots la hr hl hq h1 h2
  subst hi
  refine W.zast hC.x hC.b ((hr.2.1 a _ ha).2) (mm_arr hC.k 1 (by decide) n (fun j => .int (f j))) (fun q => by cases q) (mm_ix hj hn _ _) rfl rfl hd fun H1 e1 z oq => ?_
  rw [nI_clamp (by omega)] at e1 ⊢
  rw [hx] at e1
  refine k p e R s m args below meth c u0 hC H1 _ cells slots la (hr.set ha ?_ z oq) hl (t_lc hq (hr.2.1 a _ ha).1) h1 h2
  show H1[a]? = some (vp_cell _ _)
  rw [e1]
  exact congrArg some (mm_updi _ _ _ _ _)
theorem mm_lastore {a n j : Nat} {f : Nat → Int64} {i : Int32} {x : Int64} (hd : decode M.2.1 pc = .ok (.lastore, 1)) (ha : h.2.2 a = some (.inl (2, n, .inr (.inl f)))) (hi : i = nI j) (hj : j < n) (hn : n < 2 ^ 31) (k : mm_W Γ l M d D (pc + 1) ls st (mm_up h a (.inl (2, n, .inr (.inl (vp_updL f j x)))))) : mm_W Γ l M d D pc ls (.long x :: .int i :: .ref a :: st) h := by
  intro p e R s m args below meth c u0 hC H locs cells slots la hr hl hq h1 h2
  subst hi
  refine W.last hC.x hC.b ((hr.2.1 a _ ha).2) (mm_arr hC.k 2 (by decide) n (fun j => .long (f j))) (fun q => by cases q) (mm_ix hj hn _ _) rfl rfl hd fun H1 e1 z oq => ?_
  rw [nI_clamp (by omega)] at e1 ⊢
  refine k p e R s m args below meth c u0 hC H1 _ cells slots la (hr.set ha ?_ z oq) hl (t_lc hq (hr.2.1 a _ ha).1) h1 h2
  show H1[a]? = some (vp_cell _ _)
  rw [e1]
  exact congrArg some (mm_updl _ _ _ _ _)
/-- a sheet is put into the array of sheets -/
theorem mm_aastore {a n j v : Nat} {f : Nat → Option Nat} {vs : List Value} {i : Int32} (hd : decode M.2.1 pc = .ok (.aastore, 1)) (ha : h.2.2 a = some (.inl (3, n, .inr (.inr (.inr (.inr f)))))) (hb : h.2.2 v = some (.inr (3, vs))) (hi : i = nI j) (hj : j < n) (hn : n < 2 ^ 31) (k : mm_W Γ l M d D (pc + 1) ls st (mm_up h a (.inl (3, n, .inr (.inr (.inr (.inr (va_up f j (some v))))))))) : mm_W Γ l M d D pc ls (.ref v :: .int i :: .ref a :: st) h := by
  intro p e R s m args below meth c u0 hC H locs cells slots la hr hl hq h1 h2
  subst hi
  obtain ⟨r', hr', cellV, g1, g2, g3, -⟩ := (hr.2.1 v _ hb).2
  have hcls := (hC.k.1.1 3 _ rfl).2
  obtain ⟨kA, comp, k1, k2, k3, -⟩ := (hC.k.1.2 3 _ rfl).2
  have hcomp : comp = Γ.1.1 3 := Option.some.inj (k3.symm.trans hcls.1)
  subst hcomp
  obtain ⟨kC, hkC, hkd⟩ := hcls.2
  have hasg : s.vm.assignable (Γ.1.1 3) (Γ.1.1 3) = true := va_assign ⟨hcls.1, kC, hkC, hkd⟩
  refine W.aast hC.x hC.b ((hr.2.1 a _ ha).2) (fun q h => by cases h) (fun h => by cases h) k1 k2 rfl hkC ⟨nI_pos (by omega), by show _ < (arrV _ _ _).slots.size; rw [arrV_size, nI_clamp (by omega)]; exact hj⟩ g1 (fun q h => by rw [g3] at h; cases h) (by rw [g2]; exact hkC) (by rw [g2]; exact hasg) rfl rfl hd fun H1 e1 z oq => ?_
  rw [nI_clamp (by omega)] at e1 ⊢
  refine k p e R s m args below meth c u0 hC H1 _ cells slots la (hr.set ha ?_ z oq) hl (t_lc hq (hr.2.1 a _ ha).1) h1 h2
  show H1[a]? = some (vp_cell _ _)
  rw [e1]
  exact congrArg some (mm_updq _ _ _ _ _)
/-! fields -/
def mm_FL (own : String) (idx ci k : Nat) : Prop := ∃ q : vw_C, mm_cl[ci]? = some q ∧ k < q.2.2 ∧ (Cond.fieldLink own idx (q.2.1 k).1 (q.2.1 k).2.1 (q.2.1 k).2.2.1 ∈ mm_T ∨ (own, idx, (q.2.1 k).1, (q.2.1 k).2.1, (q.2.1 k).2.2.1) ∈ mm_NF)
theorem mm_getf {a idx ci k : Nat} {fs : List Value} {v : Value} (hd : decode M.2.1 pc = .ok (.getfield idx, 3)) (hL : mm_FL M.1.cls idx ci k) (ha : h.2.2 a = some (.inr (ci, fs))) (hv : fs[k]? = some v) (kk : mm_W Γ l M d D (pc + 3) ls (v :: st) h) : mm_W Γ l M d D pc ls (.ref a :: st) h := by
  intro p e R s m args below meth c u0 hC H locs cells slots la hr hl hq h1 h2
  obtain ⟨q, hq1, hk, hlk⟩ := hL
  obtain ⟨r, g1, cell, c1, c2, c3, c4⟩ := (hr.2.1 a _ ha).2
  have hrq : r = q := Option.some.inj (g1.symm.trans hq1)
  subst hrq
  obtain ⟨hS, hfc, kC, hkC, hkind⟩ := hC.k.1.1 ci _ hq1
  obtain ⟨cf, kf, fi, f, hi, hsl⟩ := hS k hk
  have hst := (u_facts hfc hkC (u_lays hC.w (mm_lay ci _ hq1) hk) hi).1
  have hvv : cell.slots[f.slot]? = some v := by
    rw [hsl, c4 k hk]
    simp [vp_V, hv]
  rcases hlk with hlk | hlk
  · exact W.getf hC.x hC.b hC.own (hC.w _ hlk) hi hst c1 (by rw [c3]; exact fun h => by cases h) hvv rfl rfl hd (kk p e R s m args below meth c u0 hC H locs cells slots la hr hl hq h1 h2)
  · exact va_Wgetf hC.x hC.b hC.own ((hC.k.2.1 _ hlk).use rfl) hi hst c1 (by rw [c3]; exact fun h => by cases h) hvv rfl rfl hd (kk p e R s m args below meth c u0 hC H locs cells slots la hr hl hq h1 h2)
theorem mm_apart {Γ : mm_G} {s : State} {args : Array Value} {ci : Nat} {q : vw_C} (hw : ∀ w ∈ mm_T, w.before args s = true) (hK : mm_K Γ s) (hq : mm_cl[ci]? = some q) : ∀ x y, x < q.2.2 → y < q.2.2 → x ≠ y → Γ.1.2 ci x ≠ Γ.1.2 ci y :=
  va_apart (own := "") (D := Γ.1) (cl := mm_cl) (tys := mm_tys Γ) (C := q.1) (T := q.2.1) hw (mm_lay ci q hq) (mm_ty ci) (mm_tyok ci q hq) (mm_nmok ci q hq) hK.1 hq
theorem mm_putf {a idx ci k : Nat} {fs : List Value} {v : Value} {ty : FieldType} (hd : decode M.2.1 pc = .ok (.putfield idx, 3)) (hL : mm_FL M.1.cls idx ci k) (hfin : (mm_fld ci k).2.2.2 = false) (hty : mm_ty ci k = ty) (hn : narrow ty v = v) (hf : fits ty v = true) (ha : h.2.2 a = some (.inr (ci, fs))) (hv : k < fs.length) (kk : mm_W Γ l M d D (pc + 3) ls st (mm_up h a (.inr (ci, fs.set k v)))) : mm_W Γ l M d D pc ls (v :: .ref a :: st) h := by
  intro p e R s m args below meth c u0 hC H locs cells slots la hr hl hq h1 h2
  obtain ⟨q, hq1, hk, hlk⟩ := hL
  obtain ⟨r, g1, cell, c1, c2, c3, c4⟩ := (hr.2.1 a _ ha).2
  have hrq : r = q := Option.some.inj (g1.symm.trans hq1)
  subst hrq
  have hap := mm_apart hC.w hC.k hq1
  obtain ⟨hS, hfc, kC, hkC, hkind⟩ := hC.k.1.1 ci _ hq1
  obtain ⟨cf, kf, fi, f, hi, hsl⟩ := hS k hk
  have hlay := hC.w _ (mm_lay ci _ hq1 _ (u_in_lay hk))
  unfold u_lay at hlay
  rw [mm_fld_eq ci _ hq1] at hfin
  rw [if_neg (by rw [hfin]; decide)] at hlay
  have hst := (u_facts hfc hkC (u_lays hC.w (mm_lay ci _ hq1) hk) hi).1
  have h6 := u_store hfc hkC hkind hlay hi (by rw [mm_tyok ci _ hq1 k hk, hty]) hn hf
  have fin : ∀ H' : Heap, H'[a]? = some (cell.setSlot f.slot v) → H'.size = H.size → (∀ q, q ≠ a → H'[q]? = H[q]?) → W p l e R s m args below meth c H' (locs ++ [⟨a, f.slot⟩]) cells slots (mm_Q Γ below D s u0) (F0 m (pc + 3) la st) := by
    intro H' e1 e2 e3
    refine kk p e R s m args below meth c u0 hC H' _ cells slots la (hr.set ha ?_ e2 e3) hl (t_lc hq (hr.2.1 a _ ha).1) h1 h2
    rw [hsl] at e1
    exact ⟨_, hq1, t_OB.to (V := updV (vp_V fs) k v) ⟨_, e1, c2, c3, t_set c4 hap hk v⟩ (fun j _ => vp_updV_set hv v j)⟩
  rcases hlk with hlk | hlk
  · exact W.putK hC.x hC.b (f := f) ⟨hC.own, hC.w _ hlk, ⟨_, _, _, hi⟩, hst⟩ (by rw [c2]; exact h6) c1 c3 (by rw [hsl]; exact k2_hasslot (c4 k hk)) rfl rfl hd fin
  · exact va_WputK hC.x hC.b (f := f) hC.own ((hC.k.2.1 _ hlk).use rfl) hi hst (by rw [c2]; exact h6) c1 c3 (by rw [hsl]; exact k2_hasslot (c4 k hk)) rfl rfl hd fin
/-- a final field, in its constructor -/
theorem mm_putF {a idx ci k : Nat} {fs : List Value} {v : Value} {ty : FieldType} (hd : decode M.2.1 pc = .ok (.putfield idx, 3)) (hL : mm_FL M.1.cls idx ci k) (hfin : (mm_fld ci k).2.2.2 = true) (hdecl : (mm_fld ci k).1 = M.1.cls) (hin : M.1.name = "<init>") (hty : mm_ty ci k = ty) (hn : narrow ty v = v) (hf : fits ty v = true) (ha : h.2.2 a = some (.inr (ci, fs))) (hv : k < fs.length) (hnest : ∀ x, (M.1.cls, idx, x) ∉ mm_NF) (kk : mm_W Γ l M d D (pc + 3) ls st (mm_up h a (.inr (ci, fs.set k v)))) : mm_W Γ l M d D pc ls (v :: .ref a :: st) h := by
  intro p e R s m args below meth c u0 hC H locs cells slots la hr hl hq h1 h2
  obtain ⟨q, hq1, hk, hlk⟩ := hL
  obtain ⟨r, g1, cell, c1, c2, c3, c4⟩ := (hr.2.1 a _ ha).2
  have hrq : r = q := Option.some.inj (g1.symm.trans hq1)
  subst hrq
  have hap := mm_apart hC.w hC.k hq1
  obtain ⟨hS, hfc, kC, hkC, hkind⟩ := hC.k.1.1 ci _ hq1
  obtain ⟨cf, kf, fi, f, hi, hsl⟩ := hS k hk
  have hlay := hC.w _ (mm_lay ci _ hq1 _ (u_in_lay hk))
  unfold u_lay at hlay
  rw [mm_fld_eq ci _ hq1] at hfin hdecl
  rw [if_pos hfin] at hlay
  have hst := (u_facts hfc hkC (u_lays hC.w (mm_lay ci _ hq1) hk) hi).1
  have hcf : m.cls = cf := by
    obtain ⟨_, _, c', _, _, _, -, -, hf', -, -, -, hown2, -⟩ := Cond.laysFinal_spec hlay
    have e1 : c' = cf := by have := hi.symm.trans hf'; simp at this; exact this.1.symm
    rw [hdecl] at hown2
    rw [← e1]; exact Option.some.inj (hC.own.symm.trans hown2)
  have h6 := u_fits hfc hkC hkind (Or.inr hlay) hi (by rw [mm_tyok ci _ hq1 k hk, hty]) hn hf
  rcases hlk with hlk | hlk
  · refine W.putFinK hC.x hC.b hC.own (hC.w _ hlk) hi hst hcf (by rw [hC.nm]; exact hin) (by rw [c2]; exact h6) c1 c3 (by rw [hsl]; exact k2_hasslot (c4 k hk)) rfl rfl hd fun H' e1 e2 e3 => ?_
    refine kk p e R s m args below meth c u0 hC H' _ cells slots la (hr.set ha ?_ e2 e3) hl (t_lc hq (hr.2.1 a _ ha).1) h1 h2
    rw [hsl] at e1
    exact ⟨_, hq1, t_OB.to (V := updV (vp_V fs) k v) ⟨_, e1, c2, c3, t_set c4 hap hk v⟩ (fun j _ => vp_updV_set hv v j)⟩
  · exact absurd hlk (hnest _)
/-! new -/
def mm_CLk (own : String) (idx ci : Nat) : Prop := ∃ q : vw_C, mm_cl[ci]? = some q ∧ Cond.classLink own idx q.1 ∈ mm_T ∧ Cond.instantiable q.1 q.2.2 ∈ mm_T ∧ Cond.initialized q.1 ∈ mm_T
def mm_num (ci : Nat) : Nat := match mm_cl[ci]? with
  | some q => q.2.2
  | none => 0
def mm_dfl (ci : Nat) : List Value := (List.range (mm_num ci)).map fun k => defaultValue (mm_ty ci k)
theorem mm_new {idx ci n : Nat} {fs : List Value} (hd : decode M.2.1 pc = .ok (.new idx, 3)) (hL : mm_CLk M.1.cls idx ci) (hn : mm_num ci = n) (hfs : mm_dfl ci = fs) (hm : h.1 + 1 ≤ mm_Cm Γ) (hs : h.2.1 + n ≤ mm_Sm Γ) (kk : mm_W Γ l M d D (pc + 3) ls (.ref h.1 :: st) (mm_add h n (.inr (ci, fs)))) : mm_W Γ l M d D pc ls st h := by
  intro p e R s m args below meth c u0 hC H locs cells slots la hr hl hq h1 h2
  obtain ⟨q, hq1, w1, w2, w3⟩ := hL
  have hnq : n = q.2.2 := by rw [← hn]; unfold mm_num; rw [hq1]
  subst hnq
  have hKn := hC.k.1.1 ci _ hq1
  obtain ⟨hB, hCm, hSm, -⟩ := hC.rm
  refine W.newcK hC.x hC.b hC.own (hC.w _ w1) (hC.w _ w2) (hC.w _ w3) rfl hd (by omega) (by omega) hKn.2.1 hr.1.1 fun H1 kC hkC e1 z1 o1 => ?_
  refine kk p e R s m args below meth c u0 hC H1 locs (cells + 1) (slots + q.2.2) la (hr.new hm hs ⟨q, hq1, ?_⟩ z1 o1) hl hq (by show h.1 + 1 = _; omega) (by show h.2.1 + q.2.2 = _; omega)
  refine (u_born (mm_ty ci) hC.w (mm_lay ci _ hq1) hKn hkC e1 (mm_tyok ci _ hq1)).to fun j hj => ?_
  rw [← hfs]
  have hj' : j < mm_num ci := by rw [hn]; exact hj
  simp [vp_V, mm_dfl, List.getD_eq_getElem?_getD, List.getElem?_map, List.getElem?_range hj']
/-- a new array of ints, of booleans, of longs -/
theorem mm_newarr {at' : ArrayType} {t N : Nat} {x : _} {i : Int32} (hd : decode M.2.1 pc = .ok (.newarray at', 2)) (hty : newarray.typeOf at' = mm_aty t) (ht : t < 3) (hW : Cond.arrayClass (mm_aty t) ∈ mm_T) (hx : ∀ cA : ClassId, vp_cell cA (N, x) = arrV cA N (fun _ => defaultValue (mm_aty t))) (hi : i = nI N) (hN : N < 1000000) (hb : componentBytes (mm_aty t) ≤ 8) (hm : h.1 + 1 ≤ mm_Cm Γ) (hs : h.2.1 + N ≤ mm_Sm Γ) (kk : mm_W Γ l M d D (pc + 2) ls (.ref h.1 :: st) (mm_add h N (.inl (t, N, x)))) : mm_W Γ l M d D pc ls (.int i :: st) h := by
  intro p e R s m args below meth c u0 hC H locs cells slots la hr hl hq h1 h2
  subst hi
  obtain ⟨hB, hCm, hSm, -⟩ := hC.rm
  have hbytes : N * componentBytes (newarray.typeOf at') ≤ 536870912 := by
    rw [hty]
    calc N * componentBytes (mm_aty t) ≤ 1000000 * 8 := Nat.mul_le_mul (by omega) hb
      _ ≤ 536870912 := by decide
  refine va_newaK hC.x hC.b (by rw [hty]; exact hC.w _ hW) rfl hd rfl (nI_pos (by omega)) (nI_clamp (by omega)) hbytes (by omega) (by omega) hr.1.1 fun H1 cA e1 z1 o1 hA hF => ?_
  have hcA : cA = Γ.2.1 t := by
    have hR : va_RA s (Γ.2.1 t) (mm_aty t) := by
      match t, ht with
      | 0, _ => exact (hC.k.1.2 0 _ rfl).2
      | 1, _ => exact (hC.k.1.2 1 _ rfl).2
      | 2, _ => exact (hC.k.1.2 2 _ rfl).2
      | n + 3, h => exact absurd h (by omega)
    rw [hty] at hF
    match t, ht, hR, hF with
    | 0, _, hR, hF => exact Option.some.inj (hF.symm.trans hR)
    | 1, _, hR, hF => exact Option.some.inj (hF.symm.trans hR)
    | 2, _, hR, hF => exact Option.some.inj (hF.symm.trans hR)
    | n + 3, h, _, _ => exact absurd h (by omega)
  subst hcA
  refine kk p e R s m args below meth c u0 hC H1 locs (cells + 1) (slots + N) la (hr.new hm hs ?_ z1 o1) hl hq (by show h.1 + 1 = _; omega) (by show h.2.1 + N = _; omega)
  show H1[h.1]? = some (vp_cell _ _)
  rw [hx, e1, hty]
/-- a new array of sheets -/
theorem mm_anew {idx N : Nat} {i : Int32} (hd : decode M.2.1 pc = .ok (.anewarray idx, 3)) (hL : Cond.classLink M.1.cls idx "CutSheets$Sheet" ∈ mm_T) (hO : Cond.arrayOver (.object "CutSheets$Sheet") ∈ mm_T) (hi : i = nI N) (hN : N < 1000000) (hm : h.1 + 1 ≤ mm_Cm Γ) (hs : h.2.1 + N ≤ mm_Sm Γ) (kk : mm_W Γ l M d D (pc + 3) ls (.ref h.1 :: st) (mm_add h N (.inl (3, N, .inr (.inr (.inr (.inr (fun _ => none)))))))) : mm_W Γ l M d D pc ls (.int i :: st) h := by
  intro p e R s m args below meth c u0 hC H locs cells slots la hr hl hq h1 h2
  subst hi
  obtain ⟨hB, hCm, hSm, -⟩ := hC.rm
  have hcl : (nI N).toNatClampNeg = N := nI_clamp (by omega)
  refine W.anew hC.x hC.b hC.own (hC.w _ hL) (hC.w _ hO) rfl hd rfl (nI_pos (by omega)) (by rw [hcl]; omega) (by omega) (by rw [hcl]; omega) fun cA kA comp f1 f2 f3 f4 => ?_
  obtain ⟨kA', comp', k1, k2, k3, k4⟩ := (hC.k.1.2 3 _ rfl).2
  have hcA : cA = Γ.2.1 3 := Option.some.inj (f1.symm.trans k4)
  subst hcA
  rw [hcl, hr.1.1]
  refine kk p e R s m args below meth c u0 hC _ locs (cells + 1) (slots + N) la (hr.new hm hs ?_ ?_ ?_) hl hq (by show h.1 + 1 = _; omega) (by show h.2.1 + N = _; omega)
  · show _ = some (vp_cell _ _)
    rw [vp_cell_q]
    show _ = some (arrV _ _ (fun _ => Value.null))
    rw [← arrV_new, ← hr.1.1]
    simp
  · simp [hr.1.1]
  · intro q hq
    rw [Array.getElem?_push, if_neg (by rw [hr.1.1]; omega)]
theorem mm_objInit {idx a : Nat} (hd : decode M.2.1 pc = .ok (.invokespecial idx, 3)) (hL : Cond.methodLink M.1.cls idx Lib.objectInit ∈ mm_T) (hI : Cond.instanceMethod Lib.objectInit ∈ mm_T) (hc : Cond.code Lib.objectInit ⟨#[0xb1]⟩ 1 none ∈ mm_T) (hw : (st.map fun v => v.category).sum ≤ 60) (kk : mm_W Γ l M d D (pc + 3) ls st h) : mm_W Γ l M d D pc ls (.ref a :: st) h := by
  intro p e R s m args below meth c u0 hC H locs cells slots la hr hl hq h1 h2
  obtain ⟨hB, hCm, hSm, hfr, hlo, -⟩ := hC.rm
  exact W.objInit hC.x hC.b hC.own (hC.w _ hL) (hC.w _ hI) (hC.w _ hc) rfl (by show la.size = _; rw [hC.ml]; exact hl.1) rfl hd (by omega) (by show 2 * 0 + _ + 12 ≤ _; omega) (kk p e R s m args below meth c u0 hC H locs cells slots la hr hl hq h1 h2)
end MMR
