/-! The law's start: the context out of what the Statement gives. -/
def kzs_ex (c : Code) : Prop := c.exceptionTable.toList.map (fun h => (h.startPc, h.endPc, h.handlerPc, h.catchType)) = ([] : List (Nat × Nat × Nat × Nat))
theorem kzs_in {args : Array Value} {s : State} (hts : ∀ w ∈ lw_tbl, w.before args s = true) : ∀ w ∈ mm_T, w.before args s = true := fun w hw => hts w (List.mem_filter.mp hw).1
theorem kzs_of {ci : Nat} {q : vw_C} {own : String} {idx : Nat} (h : mm_cl[ci]? = some q) (g : mm_CLk own idx ci) : Cond.instantiable q.1 q.2.2 ∈ mm_T := by
  obtain ⟨q', h1, -, h2, -⟩ := g
  cases h.symm.trans h1
  exact h2
theorem kzs_inst (ci : Nat) (q : vw_C) (h : mm_cl[ci]? = some q) : Cond.instantiable q.1 q.2.2 ∈ mm_T := by
  match ci, h with
  | 0, h => exact kzs_of h cK_9
  | 1, h => exact kzs_of h cC_29
  | 2, h => exact kzs_of h cC_16
  | 3, h => exact kzs_of h cC_9
  | 4, h => exact kzs_of h cL_8
  | 5, h => exact kzs_of h cL_78
  | n + 6, h => exact absurd h (by simp [mm_cl])
theorem kzs_cls {args : Array Value} {s : State} (hw : ∀ w ∈ mm_T, w.before args s = true) (z0 : ClassId) : ∀ ci : Nat, ∃ z : ClassId × (Nat → Nat), ∀ q : vw_C, mm_cl[ci]? = some q → u_Kn s q.1 q.2.1 q.2.2 z.1 z.2 := by
  intro ci
  cases h : mm_cl[ci]? with
  | none => exact ⟨(z0, fun _ => 0), fun q hq => nomatch hq⟩
  | some q =>
    obtain ⟨cC, iS, k⟩ := u_known hw (mm_lay ci q h) (hw _ (kzs_inst ci q h))
    refine ⟨(cC, iS), fun q' hq => ?_⟩
    cases hq
    exact k
theorem kzs_arr {args : Array Value} {s : State} (hw : ∀ w ∈ mm_T, w.before args s = true) (z0 : ClassId) : ∀ k : Nat, ∃ cA : ClassId, k < 4 → ArrOfT s cA (mm_aty k) ∧ va_RA s cA (mm_aty k) := by
  intro k
  match k with
  | 0 =>
    obtain ⟨cA, kA, comp, h1, h2, h3⟩ := Cond.arrayClass_spec (hw _ kw_ai)
    exact ⟨cA, fun _ => ⟨fun n z => ⟨fun k h => (by cases h), kA, h2, comp, h3⟩, h1⟩⟩
  | 1 =>
    obtain ⟨cA, kA, comp, h1, h2, h3⟩ := Cond.arrayClass_spec (hw _ kw_az)
    exact ⟨cA, fun _ => ⟨fun n z => ⟨fun k h => (by cases h), kA, h2, comp, h3⟩, h1⟩⟩
  | 2 =>
    obtain ⟨cA, kA, comp, h1, h2, h3⟩ := Cond.arrayClass_spec (hw _ kw_al)
    exact ⟨cA, fun _ => ⟨fun n z => ⟨fun k h => (by cases h), kA, h2, comp, h3⟩, h1⟩⟩
  | 3 =>
    obtain ⟨comp, cA, kA, h1, -, h2, h3, h4⟩ := Cond.arrayOver_spec (hw _ kw_ao)
    exact ⟨cA, fun _ => ⟨fun n z => ⟨fun k h => (by cases h), kA, h2, comp, h3⟩, kA, comp, h2, h3, h1, h4⟩⟩
  | n + 4 => exact ⟨z0, fun h => absurd h (by omega)⟩
theorem kzs_nf : ∀ q ∈ mm_NF, Cond.fieldLinkNest q.1 q.2.1 q.2.2.1 q.2.2.2.1 q.2.2.2.2 "CutSheets" ∈ lw_tbl := by decide +kernel
theorem kzs_nm : ∀ q ∈ mm_NM, Cond.methodLinkNest q.1 q.2.1 q.2.2 "CutSheets" ∈ lw_tbl := by decide +kernel
theorem kzs_nc : ∀ q ∈ mm_NC, Cond.not (.castable (mm_exc q.1) (mm_exc q.2)) ∈ flatC (Jvm.Cond.and given_1 narrow_1) := by decide +kernel
theorem kzs_su : Cond.isRef (.static Bundle.tN "UNASSIGNED_STACK" Bundle.steD) ∈ flatC (Jvm.Cond.and given_1 narrow_1) := by decide +kernel
theorem kzs_ss : Cond.isRef (.static Bundle.tN "SUPPRESSED_SENTINEL" Bundle.listD) ∈ flatC (Jvm.Cond.and given_1 narrow_1) := by decide +kernel
theorem kzs_lu : Cond.laysStatic Bundle.tN "UNASSIGNED_STACK" Bundle.steD ∈ lw_tbl := by decide +kernel
theorem kzs_ls : Cond.laysStatic Bundle.tN "SUPPRESSED_SENTINEL" Bundle.listD ∈ lw_tbl := by decide +kernel
theorem kzs_it : Cond.initialized Bundle.tN ∈ lw_tbl := by decide +kernel
def R_law : String := "CutSheetsLaw"
def lw_P (b : Addr) (xs : List Int32) (args : Array Value) (s : State) : Prop := args = #[.ref b] ∧ s.IntsAt b xs ∧ xs.length ≤ 2560 ∧ (Jvm.Cond.and given_1 narrow_1).before args s = true
def lw_Q (_ : Array Value) (s : State) (o : Outcome) (t : State) : Prop := o = .returned (some (.int 1)) ∧ Framed s o t [] 601024 7293034
def lw_Z (below : List Frame) (a : Array Value) (s : State) : State → Prop := fun t => ∃ o, t.status = .running ∧ Ended t below o ∧ lw_Q a s o t
/-- what holds at the law's entry: the machine, the code, the tables' words, the script of L ints xs at the cell b, what the Statement gives of the start; the method's name, no handlers -/
def lw_At (p : Program) (s : State) (m : MethodId) (meth : Method) (c : Code) (b L : Nat) (xs : Nat → Int32) : Prop :=
  p.tables.exec = Jvm.exec ∧ c.code = code ∧ meth.sig.returnType = ret ∧ c.maxLocals = 7 ∧ s.vm.findClass R_law = some m.cls ∧ (∀ w ∈ lw_tbl, w.before #[Value.ref b] s = true) ∧ va_X b L xs s s.heap ∧ b < s.heap.size ∧ meth.locks = false ∧ (Jvm.Cond.and given_1 narrow_1).before #[Value.ref b] s = true ∧ meth.name = "law" ∧ kzs_ex c
/-- the law's end is the claim's -/
theorem kzs_end {Γ : mm_G} {below : List Frame} {s t : State} {a : Array Value} (hB : mm_B Γ = s.heap.size) (hC : mm_Cm Γ = s.heap.size + 601024) (hS : mm_Sm Γ = 7293034) (h : mm_Q Γ below (fun o _ => o = .inl (some (.int (nI 1)))) s 0 t) : lw_Z below a s t := by
  obtain ⟨o, o', h', L, k, n, hrun, hend, hout, hD, hR, hW, hsame, hL, z1, z2⟩ := h
  have hD' : o' = .inl (some (.int (nI 1))) := hD
  subst hD'
  have ho : o = .returned (some (.int (nI 1))) := hout
  subst ho
  obtain ⟨⟨y1, y2, y3, y4⟩, -⟩ := hR
  refine ⟨_, hrun, hend, rfl, ⟨_, rfl⟩, hW, ?_⟩
  have hk : k ≤ 601024 := by omega
  have hn : n ≤ 7293034 := by omega
  exact (State.sameButNew.drop_fresh (L := []) (J := L) hsame (fun q hq => by have := hL q hq; omega)).mono hk hn
/-- from the entry, for every script of at most 2560 ints, the law comes to its end with true -/
theorem whole_start {p : Program} {e : Env} {s : State} {m : MethodId} {below : List Frame} {meth : Method} {c : Code} (l : Launch) (hl : l.stackTraces = false) {b L : Nat} {xs : Nat → Int32} (hL : L ≤ 2560) (C0 : lw_At p s m meth c b L xs) : W p l e room_1 s m #[Value.ref b] below meth c s.heap [] 0 0 (lw_Z below #[Value.ref b] s) (entryFrame m ([Value.ref b] : List Value).toArray 7) := by
  obtain ⟨c1, c2, c3, c4, c5, hts, hX, hb, c6, hgv, c7, c8⟩ := C0
  have hw := kzs_in hts
  have hfl := flat_of_before _ hgv
  let Γ : mm_G := ((fun ci => (Classical.choose (kzs_cls hw m.cls ci)).1, fun ci => (Classical.choose (kzs_cls hw m.cls ci)).2), (fun k => Classical.choose (kzs_arr hw m.cls k)), (s.heap.size, s.heap.size + 601024, 7293034), (b, L, xs))
  have hA : ∀ k, k < 4 → ArrOfT s (Γ.2.1 k) (mm_aty k) ∧ va_RA s (Γ.2.1 k) (mm_aty k) := fun k hk => Classical.choose_spec (kzs_arr hw m.cls k) hk
  have hK : mm_K Γ s := by
    refine ⟨⟨fun ci q hq => Classical.choose_spec (kzs_cls hw m.cls ci) q hq, fun k q hk => ?_⟩, fun q hq => va_Nw.of rfl (hts _ (kzs_nf q hq)), fun q hq => va_Nw.of rfl (hts _ (kzs_nm q hq)), fun q hq => va_Nc.of (hfl _ (kzs_nc q hq))⟩
    match k, hk with
    | 0, hk => cases hk; exact hA 0 (by decide)
    | 1, hk => cases hk; exact hA 1 (by decide)
    | 2, hk => cases hk; exact hA 2 (by decide)
    | 3, hk => cases hk; exact hA 3 (by decide)
    | n + 4, hk => exact absurd hk (by simp [mm_tys])
  have hC : mm_C Γ l mL_law (0 + 52) p room_1 s m #[Value.ref b] meth c 0 :=
    ⟨⟨c1, c2, c4, c3, c6, c5, c7, c8⟩, ⟨hw, hK⟩, Nat.le_refl _, Nat.le_refl _, (by show 7293034 ≤ 0 + 7293034; omega), (by decide), (by decide), hl⟩
  have hR : mm_R Γ s (s.heap.size, 0, fun _ => none) s.heap :=
    ⟨⟨rfl, Nat.le_add_right _ _, Nat.zero_le _, Nat.le_refl _⟩, fun a x hx => (nomatch hx), ⟨hb, hX⟩,
      vx_Zqof (hts _ kzs_lu) (hts _ kzs_it) (hfl _ kzs_su) (fun a ha hq => absurd ha (Nat.not_lt.mpr hq)), vx_Zqof (hts _ kzs_ls) (hts _ kzs_it) (hfl _ kzs_ss) (fun a ha hq => absurd ha (Nat.not_lt.mpr hq))⟩
  obtain ⟨la, hla, hent⟩ := mm_entry [Value.ref b] (n := 7) (fun v hv => by simp at hv; subst hv; rfl) (by show 1 ≤ 7; omega)
  have E := kL_law (Γ := Γ) (l := l) (d := 0) (h := (s.heap.size, 0, fun _ => none)) hL (by show s.heap.size + 183 + L ≤ s.heap.size + 601024; omega) (by show 0 + 13382 + 6 * L ≤ 7293034; omega)
  rw [hent m]
  exact mm_mono (fun t ht => kzs_end (Γ := Γ) rfl rfl rfl ht) (E p e room_1 s m #[Value.ref b] below meth c 0 hC s.heap [] 0 0 la hR hla.pad (fun q hq => nomatch hq) rfl rfl)
