/-! Calls: a callee is walked in place. -/
/-- the method's bytes are in the tables -/
def mm_CW (M : mm_M) : Prop := (M.2.2.2.2 = [] ∧ Cond.code M.1 M.2.1 M.2.2.1 M.2.2.2.1 ∈ mm_T) ∨ Cond.codeWith M.1 M.2.1 M.2.2.1 M.2.2.2.1 M.2.2.2.2 ∈ mm_T
def mm_MB (M : mm_M) (n : Nat) : Prop := mm_CW M ∧ plainName M.1.cls = true ∧ (M.1.cls ≠ "java/lang/invoke/MethodHandle" ∧ M.1.cls ≠ "java/lang/invoke/VarHandle") ∧ (parseMethodDescriptor M.1.desc).map (fun q => q.parameters.length) = some n
def mm_ML (own : String) (idx : Nat) (y : MethodName) : Prop := Cond.methodLink own idx y ∈ mm_T ∨ (own, idx, y) ∈ mm_NM
def mm_MS (own : String) (idx : Nat) (M : mm_M) (n : Nat) : Prop := mm_MB M n ∧ mm_ML own idx M.1 ∧ Cond.static M.1 ∈ mm_T ∧ Cond.initialized M.1.cls ∈ mm_T
def mm_MV (own : String) (idx : Nat) (M : mm_M) (n : Nat) (ci : Nat) : Prop := mm_MB M n ∧ mm_ML own idx M.1 ∧ Cond.instanceMethod M.1 ∈ mm_T ∧ Cond.selects M.1.cls M.1 M.1 ∈ mm_T ∧ ∃ q : vw_C, mm_cl[ci]? = some q ∧ q.1 = M.1.cls
def mm_MI (own : String) (idx : Nat) (M : mm_M) (n : Nat) : Prop := mm_MB M n ∧ mm_ML own idx M.1 ∧ Cond.instanceMethod M.1 ∈ mm_T ∧ M.1.name = "<init>" ∧ Cond.code M.1 M.2.1 M.2.2.1 none ∈ mm_T
theorem mm_CW.spec {M : mm_M} {args : Array Value} {s : State} (h : mm_CW M) (hw : ∀ w ∈ mm_T, w.before args s = true) {mk : MethodId} (hn : s.methodNamed? M.1 = some mk) :
    ∃ (meth : Method) (c : Code), s.vm.method? mk = some meth ∧ meth.code = some c ∧ c.code = M.2.1 ∧ c.maxLocals = M.2.2.1 ∧ c.exceptionTable.toList.map (fun h => (h.startPc, h.endPc, h.handlerPc, h.catchType)) = M.2.2.2.2 ∧ meth.sig.returnType = M.2.2.2.1 ∧ meth.locks = false ∧ parseMethodDescriptor M.1.desc = some meth.sig := by
  rcases h with ⟨h0, h⟩ | h
  · obtain ⟨meth, c, a1, a2, a3, a4, a5, a6, a7, a8⟩ := Cond.code_spec hn (hw _ h)
    refine ⟨meth, c, a1, a2, a3, a4, ?_, a5, a6, a8⟩
    rw [h0]
    have : c.exceptionTable = #[] := Array.isEmpty_iff.mp a7
    rw [this]
    rfl
  · obtain ⟨m', meth, c, a0, a1, a2, a3, a4, a5, a6, a7, a8⟩ := Cond.codeWith_spec (hw _ h)
    cases hn.symm.trans a0
    exact ⟨meth, c, a1, a2, a3, a4, a5, a6, a7, a8⟩
theorem mm_T.good {w : Cond} (h : w ∈ mm_T) : mm_gw w = true := (List.mem_filter.mp h).2
set_option maxHeartbeats 1000000 in
theorem mm_enter {Γ : mm_G} {l : Launch} {M : mm_M} {d : Nat} {p : Program} {e : Env} {R : Room} {s : State} {m : MethodId} {args : Array Value} {below : List Frame} {meth : Method} {c : Code} {u0 : Nat} (hC : mm_C Γ l M (d + 1) p R s m args meth c u0)
    {T : State} {locs : List Loc} {cells slots : Nat} (X : Stand p l e R s m args below meth c T locs cells slots) {h : mm_H} (hr : mm_R Γ s h T.heap) (hq : ∀ q ∈ locs, mm_B Γ ≤ q.base) (h1 : h.1 = s.heap.size + cells) (h2 : h.2.1 = u0 + slots)
    {g : JFrame} (hg : g.method = m) (hmr : g.monitorRoom = 0) (hsize : g.locals.size = c.maxLocals) {ig : Instr} {len : Nat} (hdg : decode c.code g.pc = .ok (ig, len))
    {M' : mm_M} {n' : Nat} (hM : mm_MB M' n') {mk : MethodId} (hn : s.methodNamed? M'.1 = some mk)
    {as : List Value} (ha : ∀ v ∈ as, v.category = 1) (hl : as.length ≤ M'.2.2.1) (hw : (g.stack.map fun v => v.category).sum + (M'.2.2.1 + 11) ≤ 60) {D' : mm_D} (hE : mm_Ev Γ l d M' as h D') :
    ∃ (o : mm_O) (h' : mm_H) (T' : State) (L : List Loc) (k n : Nat), D' o h' ∧ Stand p l e R s m args below meth c T' (locs ++ L) (cells + k) (slots + n) ∧ mm_R Γ s h' T'.heap ∧ (∀ q ∈ locs ++ L, mm_B Γ ≤ q.base) ∧ h'.1 = s.heap.size + (cells + k) ∧ h'.2.1 = u0 + (slots + n) ∧
      ((∃ v, o = .inl v ∧ ∀ acts, Steps p.tables e below (doInvoke e (T.setTop g) acts mk as.toArray).1 (T'.setTop { g with pc := g.pc + len, stack := v.toList ++ g.stack })) ∨
       (∃ (j : Nat) (x : Addr) (ce : Cell), o = .inr j ∧ T'.heap[x]? = some ce ∧ ce.vm = .none ∧ s.vm.findClass (mm_exc j) = some ce.cls ∧ ∀ acts, Steps p.tables e below (doInvoke e (T.setTop g) acts mk as.toArray).1 ((T'.setTop g).pushFrame (.throwing x)))) := by
  obtain ⟨hCW, hpl, -, -⟩ := hM
  obtain ⟨methk, ck, hmk, hck, hbk, hlk, htk, hrk, hkk, -⟩ := hCW.spec hC.w hn
  have hW := X.warmed
  have hmT : T.vm.method? mk = some methk := by rw [hW.alike.method?]; exact hmk
  have hnT : T.methodNamed? M'.1 = some mk := X.named hn
  have hpk : T.plainMethod mk := State.plainMethod.of_named (s := T) (plainFor_of_name hpl) hnT hmT
  obtain ⟨hB, hCm, hSm, hfr, hlo, htr⟩ := hC.rm
  have hz := hr.1
  obtain ⟨Y, hdo⟩ := X.into hg hsize hdg as.toArray (R' := { frames := R.frames - 1, locals := R.locals - 60, cells := mm_Cm Γ - h.1, slots := mm_Sm Γ - h.2.1 }) hmT hck hkk hpk (by show R.frames - 1 + 1 ≤ R.frames; omega)
    (by rw [hmr, hlk]; show 2 * 0 + _ + (M'.2.2.1 + 11) + (R.locals - 60) ≤ R.locals; omega) (by show cells + (mm_Cm Γ - h.1) ≤ R.cells; omega) (by show slots + (mm_Sm Γ - h.2.1) ≤ R.slots; omega)
  have hWc : s.WarmedH (T.calling g mk as.toArray).vm := hW
  have hC' : mm_C Γ l M' d p { frames := R.frames - 1, locals := R.locals - 60, cells := mm_Cm Γ - h.1, slots := mm_Sm Γ - h.2.1 } (T.calling g mk as.toArray) mk as.toArray methk ck h.2.1 := by
    refine ⟨⟨hC.x, hbk, hlk, hrk, hkk, ?_, (name_of_methodNamed hn hmk).1, htk⟩, ⟨fun w hw => mm_gw_at hWc (mm_T.good hw) (hC.w w hw), hC.k.moved hWc⟩, ?_, ?_, ?_, ?_, ?_, htr⟩
    · rw [hWc.alike.findClass]; exact findClass_of_methodNamed hn
    · show mm_B Γ ≤ T.heap.size; omega
    · show mm_Cm Γ ≤ T.heap.size + (mm_Cm Γ - h.1); omega
    · show mm_Sm Γ ≤ h.2.1 + (mm_Sm Γ - h.2.1); omega
    · show d + 20 ≤ R.frames - 1; omega
    · show 60 * d + 400 ≤ R.locals - 60; omega
  obtain ⟨la, hla, hent⟩ := mm_entry as ha hl
  have w := hE p e _ (T.calling g mk as.toArray) mk as.toArray (.java g :: below) methk ck h.2.1 hC' T.heap [] 0 0 la (hr.moved hWc.alike) hla.pad (fun q hq => nomatch hq) (by show h.1 = T.heap.size + 0; omega) rfl
  obtain ⟨t, st, o, o', h', L, k, n, hrun, hend, hout, hD, hR', hW', hsame, hL, z1, z2⟩ := w ((T.setTop g).pushFrame (.java (entryFrame mk as.toArray ck.maxLocals))) rfl Y
  have z1' : h'.1 = T.heap.size + k := z1
  have hLs : ∀ q ∈ locs ++ L, mm_B Γ ≤ q.base := fun q hh => (List.mem_append.mp hh).elim (hq q) (hL q)
  have hdo' : ∀ acts, (doInvoke e (T.setTop g) acts mk as.toArray).1 = ((T.setTop g).pushFrame (.java (entryFrame mk as.toArray ck.maxLocals))).setTop (F0 mk 0 la []) := by
    intro acts
    rw [hdo acts, hlk, hent mk]
  match o', hout, hD with
  | .inl v, hout, hD =>
    have ho : o = .returned v := hout
    subst ho
    obtain ⟨T', X', -, -, ht⟩ := X.outOf hg hdg hend hW' hsame
    have hh : t.heap = T'.heap := by rw [ht]; rfl
    have hv : t.vm = T'.vm := by rw [ht]; rfl
    refine ⟨.inl v, h', T', L, k, n, hD, X', ?_, hLs, by omega, by omega, Or.inl ⟨v, rfl, fun acts => ?_⟩⟩
    · rw [← hh]
      refine hR'.moved ?_
      rw [hv]
      exact X'.warmed.alike.symm
    · rw [hdo' acts, ← ht]
      exact mm_weaken (mid := [.java g]) st
  | .inr j, hout, hD =>
    obtain ⟨x, ce, ho, hx, hxv, hxc⟩ := hout
    subst ho
    obtain ⟨T', X', -, -, ht⟩ := X.outOfThrown hg hend hW' hsame
    have hh : t.heap = T'.heap := by rw [ht]; rfl
    have hv : t.vm = T'.vm := by rw [ht]; rfl
    refine ⟨.inr j, h', T', L, k, n, hD, X', ?_, hLs, by omega, by omega, Or.inr ⟨j, x, ce, rfl, by rw [← hh]; exact hx, hxv, ?_, fun acts => ?_⟩⟩
    · rw [← hh]
      refine hR'.moved ?_
      rw [hv]
      exact X'.warmed.alike.symm
    · have hxc' : (T.calling g mk as.toArray).vm.findClass (mm_exc j) = some ce.cls := hxc
      rw [hWc.alike.findClass] at hxc'
      exact hxc'
    · rw [hdo' acts, ← ht]
      exact mm_weaken (mid := [.java g]) st
section MMcall
variable {Γ : mm_G} {l : Launch} {M : mm_M} {d : Nat} {D : mm_D} {pc : Nat} {ls : mm_L} {h : mm_H} {idx : Nat} {M' : mm_M} {n' : Nat} {D' : mm_D} {as rest : List Value}
/-- behind a call: the two ways on -/
theorem mm_after {p : Program} {e : Env} {R : Room} {s : State} {m : MethodId} {args : Array Value} {below : List Frame} {meth : Method} {c : Code} {u0 : Nat} (hC : mm_C Γ l M (d + 1) p R s m args meth c u0)
    {T T1 : State} {la : Array Slot} (hla : mm_Lc la M.2.2.1 ls) {mk : MethodId} {st0 : List Value} {locs : List Loc} {cells slots : Nat}
    (step : ∀ target, (∀ acts, Steps p.tables e below (doInvoke e (T1.setTop { (F0 m pc la st0) with stack := rest }) acts mk as.toArray).1 target) → Steps p.tables e below (T.setTop (F0 m pc la st0)) target)
    (X1 : Stand p l e R s m args below meth c T1 locs cells slots) (hr : mm_R Γ s h T1.heap) (hq : ∀ q ∈ locs, mm_B Γ ≤ q.base) (h1 : h.1 = s.heap.size + cells) (h2 : h.2.1 = u0 + slots) {ig : Instr} (hd : decode M.2.1 pc = .ok (ig, 3))
    (hM : mm_MB M' n') (hn : s.methodNamed? M'.1 = some mk) (ha : ∀ v ∈ as, v.category = 1) (hl : as.length ≤ M'.2.2.1) (hw : (rest.map fun v => v.category).sum + (M'.2.2.1 + 11) ≤ 60) (hE : mm_Ev Γ l d M' as h D')
    (kr : ∀ v h', D' (.inl v) h' → mm_W Γ l M (d + 1) D (pc + 3) ls (v.toList ++ rest) h') (kt : ∀ k h', D' (.inr k) h' → mm_Th Γ l M (d + 1) D pc ls k h') :
    ∃ t, Steps p.tables e below (T.setTop (F0 m pc la st0)) t ∧ mm_Q Γ below D s u0 t := by
  obtain ⟨o, h', T', L, k, n, hD, X', hR', hLs, z1, z2, hcase⟩ := mm_enter hC X1 hr hq h1 h2 (g := { (F0 m pc la st0) with stack := rest }) rfl rfl (by show la.size = _; rw [hC.ml]; exact hla.1) (ig := ig) (len := 3) (by rw [hC.b]; exact hd) hM hn ha hl hw hE
  rcases hcase with ⟨v, rfl, st⟩ | ⟨j, x, ce, rfl, hx, hxv, hxc, st⟩
  · obtain ⟨t, a1, b1⟩ := kr v h' hD p e R s m args below meth c u0 hC T'.heap (locs ++ L) (cells + k) (slots + n) la hR' hla hLs z1 z2 T' rfl X'
    exact ⟨t, step t fun acts => (st acts).trans a1, b1⟩
  · obtain ⟨t, a1, b1⟩ := kt j h' hD p e R s m args below meth c u0 hC T'.heap (locs ++ L) (cells + k) (slots + n) la rest x ce hR' hla hLs z1 z2 hx hxv hxc T' rfl X'
    exact ⟨t, step t fun acts => (st acts).trans a1, b1⟩
theorem mm_lenOf {y : MethodName} {n : Nat} (h : (parseMethodDescriptor y.desc).map (fun q => q.parameters.length) = some n) {sig : _} (hs : parseMethodDescriptor y.desc = some sig) : n = sig.parameters.length := by
  rw [hs] at h
  exact (Option.some.inj h).symm
/-- a static method is called -/
theorem mm_calls (hd : decode M.2.1 pc = .ok (.invokestatic idx, 3)) (hL : mm_MS M.1.cls idx M' n') (hlen : as.length = n') (ha : ∀ v ∈ as, v.category = 1) (hl : as.length ≤ M'.2.2.1) (hw : (rest.map fun v => v.category).sum + (M'.2.2.1 + 11) ≤ 60) (hE : mm_Ev Γ l d M' as h D')
    (kr : ∀ v h', D' (.inl v) h' → mm_W Γ l M (d + 1) D (pc + 3) ls (v.toList ++ rest) h') (kt : ∀ k h', D' (.inr k) h' → mm_Th Γ l M (d + 1) D pc ls k h') : mm_W Γ l M (d + 1) D pc ls (as.reverse ++ rest) h := by
  intro p e R s m args below meth c u0 hC H locs cells slots la hr hla hq h1 h2 T hT X
  subst hT
  obtain ⟨hMB, hlk, hst, hini⟩ := hL
  have hcw := hMB.1
  have hnm : ∃ mk, s.methodNamed? M'.1 = some mk := by
    rcases hcw with ⟨-, hc⟩ | hc
    · exact Cond.code_named (hC.w _ hc)
    · obtain ⟨mk, _, _, a0, -⟩ := Cond.codeWith_spec (hC.w _ hc)
      exact ⟨mk, a0⟩
  obtain ⟨mk, hn⟩ := hnm
  obtain ⟨methk, ck, hmk, -, -, -, -, -, -, hsig⟩ := hcw.spec hC.w hn
  have hstatic : methk.isStatic = true := Cond.static_spec hn hmk (hC.w _ hst)
  obtain ⟨kP, hkP, -⟩ := className_of_methodNamed hn
  have hinitP : kP.init = .initialized := Cond.initialized_spec (findClass_of_methodNamed hn) hkP (hC.w _ hini)
  have hlen' : as.length = methk.sig.parameters.length := hlen.trans (mm_lenOf hMB.2.2.2 hsig)
  rcases hlk with hlk | hlk
  · obtain ⟨vm₁, X₁, step⟩ := X.invokestatic hC.x hC.own (hC.w _ hlk) hn hmk hstatic hkP hinitP hMB.2.2.1 (g := F0 m pc la (as.reverse ++ rest)) rfl (argsL := as) (rest := rest) hlen' rfl (by rw [hC.b]; exact hd)
    exact mm_after hC hla step X₁ hr hq h1 h2 hd hMB hn ha hl hw hE kr kt
  · obtain ⟨vm₁, X₁, step⟩ := X.invokestaticNest hC.x hC.own ((hC.k.2.2.1 _ hlk).use rfl) hn hmk hstatic hkP hinitP hMB.2.2.1 (g := F0 m pc la (as.reverse ++ rest)) rfl (argsL := as) (rest := rest) hlen' rfl (by rw [hC.b]; exact hd)
    exact mm_after hC hla step X₁ hr hq h1 h2 hd hMB hn ha hl hw hE kr kt
/-- a method of an object is called -/
theorem mm_callv {ci b : Nat} {fs : List Value} (hd : decode M.2.1 pc = .ok (.invokevirtual idx, 3)) (hL : mm_MV M.1.cls idx M' n' ci) (hb : h.2.2 b = some (.inr (ci, fs))) (hlen : as.length = n') (ha : ∀ v ∈ as, v.category = 1) (hl : as.length + 1 ≤ M'.2.2.1) (hw : (rest.map fun v => v.category).sum + (M'.2.2.1 + 11) ≤ 60) (hE : mm_Ev Γ l d M' (.ref b :: as) h D')
    (kr : ∀ v h', D' (.inl v) h' → mm_W Γ l M (d + 1) D (pc + 3) ls (v.toList ++ rest) h') (kt : ∀ k h', D' (.inr k) h' → mm_Th Γ l M (d + 1) D pc ls k h') : mm_W Γ l M (d + 1) D pc ls (as.reverse ++ .ref b :: rest) h := by
  intro p e R s m args below meth c u0 hC H locs cells slots la hr hla hq h1 h2 T hT X
  subst hT
  obtain ⟨hMB, hlk, hin, hse, q, hq1, hq2⟩ := hL
  have hcw := hMB.1
  obtain ⟨mk, methM, hn, hmk, hstM, habM⟩ := Cond.instanceMethod_spec (hC.w _ hin)
  obtain ⟨methk, ck, hmk', -, -, -, -, -, -, hsig⟩ := hcw.spec hC.w hn
  cases hmk.symm.trans hmk'
  obtain ⟨r, hr1, cell, hc1, hc2, hc3, -⟩ := (hr.2.1 b _ hb).2
  have hrq : r = q := Option.some.inj (hr1.symm.trans hq1)
  subst hrq
  have hcls : s.vm.findClass M'.1.cls = some cell.cls := by
    rw [← hq2, hc2]
    exact (hC.k.1.1 ci _ hr1).2.1
  obtain ⟨c2, r2, m2, q1, q2, q3, q4, kP, hkP, hkPi⟩ := Cond.selects_spec (hC.w _ hse)
  cases hcls.symm.trans q1
  cases (State.methodFound?_of_named hn hMB.2.2.1).symm.trans q2
  cases hn.symm.trans q3
  have hselP : selectMethod e.platform s.vm cell.cls mk = .method mk := by rw [Launch.admits_selectMethod X.admits]; exact q4
  have hlen' : as.length = methM.sig.parameters.length := hlen.trans (mm_lenOf hMB.2.2.2 hsig)
  have ha' : ∀ v ∈ Value.ref b :: as, v.category = 1 := fun v hv => (List.mem_cons.mp hv).elim (fun e => by rw [e]; rfl) (ha v)
  rcases hlk with hlk | hlk
  · obtain ⟨vm₁, X₁, step⟩ := X.invokevirtual hC.x hC.own (hC.w _ hlk) hn hmk hstM hkP hkPi hMB.2.2.1 (a := b) (cell := cell) hc1 (fun z hz => by rw [hc3] at hz; cases hz) hselP hmk habM hkP hkPi (g := F0 m pc la (as.reverse ++ .ref b :: rest)) rfl (argsL := as) (rest := rest) hlen' rfl (by rw [hC.b]; exact hd)
    exact mm_after hC hla step X₁ hr hq h1 h2 hd hMB hn ha' hl hw hE kr kt
  · obtain ⟨vm₁, X₁, step⟩ := X.invokevirtualNest hC.x hC.own ((hC.k.2.2.1 _ hlk).use rfl) hn hmk hstM hkP hkPi hMB.2.2.1 (a := b) (cell := cell) hc1 (fun z hz => by rw [hc3] at hz; cases hz) hselP hmk habM hkP hkPi (g := F0 m pc la (as.reverse ++ .ref b :: rest)) rfl (argsL := as) (rest := rest) hlen' rfl (by rw [hC.b]; exact hd)
    exact mm_after hC hla step X₁ hr hq h1 h2 hd hMB hn ha' hl hw hE kr kt
/-- a constructor is called -/
theorem mm_calli {b : Nat} (hd : decode M.2.1 pc = .ok (.invokespecial idx, 3)) (hL : mm_MI M.1.cls idx M' n') (hlen : as.length = n') (ha : ∀ v ∈ as, v.category = 1) (hl : as.length + 1 ≤ M'.2.2.1) (hw : (rest.map fun v => v.category).sum + (M'.2.2.1 + 11) ≤ 60) (hE : mm_Ev Γ l d M' (.ref b :: as) h D')
    (kr : ∀ v h', D' (.inl v) h' → mm_W Γ l M (d + 1) D (pc + 3) ls (v.toList ++ rest) h') (kt : ∀ k h', D' (.inr k) h' → mm_Th Γ l M (d + 1) D pc ls k h') : mm_W Γ l M (d + 1) D pc ls (as.reverse ++ .ref b :: rest) h := by
  intro p e R s m args below meth c u0 hC H locs cells slots la hr hla hq h1 h2 T hT X
  subst hT
  obtain ⟨hMB, hlk, hin, hy1, hco⟩ := hL
  have ha' : ∀ v ∈ Value.ref b :: as, v.category = 1 := fun v hv => (List.mem_cons.mp hv).elim (fun e => by rw [e]; rfl) (ha v)
  have hpl : e.platform.magicAccessors = ({} : Platform).magicAccessors := by rw [X.admits.platform]
  rcases hlk with hlk | hlk
  · obtain ⟨mk, methM, cM, kP, vm₁, hn, -, -, -, -, -, -, -, hW₁, step⟩ := Steps.initColdArgs (e := e) X.here hC.x X.warmed hpl hC.own hy1 hMB.2.2.1 (hC.w _ hlk) (hC.w _ hin) (hC.w _ hco) (f := F0 m pc la (as.reverse ++ .ref b :: rest)) rfl (a := b) (argsL := as) (rest := rest) (fun sig hs => hlen.trans (mm_lenOf hMB.2.2.2 hs)) rfl (by rw [hC.b]; exact hd)
    exact mm_after hC hla step (X.noted hW₁) hr hq h1 h2 hd hMB hn ha' hl hw hE kr kt
  · obtain ⟨mk, methM, cM, kP, vm₁, hn, -, -, -, -, -, -, -, hW₁, step⟩ := Steps.initColdArgsNest (e := e) X.here hC.x X.warmed hpl hC.own hy1 hMB.2.2.1 ((hC.k.2.2.1 _ hlk).use rfl) (hC.w _ hin) (hC.w _ hco) (f := F0 m pc la (as.reverse ++ .ref b :: rest)) rfl (a := b) (argsL := as) (rest := rest) (fun sig hs => hlen.trans (mm_lenOf hMB.2.2.2 hs)) rfl (by rw [hC.b]; exact hd)
    exact mm_after hC hla step (X.noted hW₁) hr hq h1 h2 hd hMB hn ha' hl hw hE kr kt
end MMcall
