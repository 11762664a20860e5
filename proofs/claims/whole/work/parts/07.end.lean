/-! System.arraycopy, throws, exceptions under way. -/
section MMcopy
variable {Γ : mm_G} {l : Launch} {M : mm_M} {d : Nat} {D : mm_D} {pc : Nat} {ls : mm_L} {st : List Value} {h : mm_H}
set_option maxHeartbeats 1000000 in
theorem mm_copyi {idx a0 a n0 n1 N : Nat} {f g : Nat → Int32} (hd : decode M.2.1 pc = .ok (.invokestatic idx, 3)) (hL : Cond.methodLink M.1.cls idx arraycopyName ∈ mm_T) (hnat : Cond.native arraycopyName ∈ mm_T) (hsta : Cond.static arraycopyName ∈ mm_T) (hini : Cond.initialized "java/lang/System" ∈ mm_T)
    (ha0 : h.2.2 a0 = some (.inl (0, n0, .inl f))) (ha1 : h.2.2 a = some (.inl (0, n1, .inl g))) {n : Int32} (hn : n = nI N) (hN : N < 2 ^ 31) (h4 : N ≤ n0) (h5 : N ≤ n1) (hwt : (st.map fun v => v.category).sum + (nativeFrameWords "java/lang/System" "arraycopy" 5 + 11) ≤ 400)
    (kk : mm_W Γ l M d D (pc + 3) ls st (mm_up h a (.inl (0, n1, .inl (va_cpy f g 0 0 N))))) : mm_W Γ l M d D pc ls (.int n :: .int 0 :: .ref a :: .int 0 :: .ref a0 :: st) h := by
  intro p e R s m args below meth c u0 hC H locs cells slots la hr hl hq z1 z2 T hT X
  subst hn
  obtain ⟨hB, hCm, hSm, hfr, hlo, -⟩ := hC.rm
  have hcl : (nI N).toNatClampNeg = N := nI_clamp hN
  have hc0 : H[a0]? = some (vp_cell (Γ.2.1 0) (n0, .inl f)) := (hr.2.1 a0 _ ha0).2
  have hc1 : H[a]? = some (vp_cell (Γ.2.1 0) (n1, .inl g)) := (hr.2.1 a _ ha1).2
  have hA : ArrOfT s (Γ.2.1 0) .int := mm_arr hC.k 0 (by decide)
  obtain ⟨-, k0, hk0, cm0, hkk0⟩ := hA n0 (fun j => .int (f j))
  obtain ⟨-, k1, hk1, cm1, hkk1⟩ := hA n1 (fun j => .int (g j))
  have i0 : (0 : Int32).toInt = 0 := by decide
  have iN : (nI N).toInt = (N : Int) := nI_toInt hN
  obtain ⟨vm', X', step⟩ := X.arraycopy hC.x hC.own (hC.w _ hL) (hC.w _ hnat) (hC.w _ hsta) (hC.w _ hini) (src := a0) (dst := a) (cs := vp_cell (Γ.2.1 0) (n0, .inl f)) (cd := vp_cell (Γ.2.1 0) (n1, .inl g)) (srcPos := 0) (destPos := 0) (n := nI N) (by rw [hT]; exact hc0) (by rw [hT]; exact hc1)
    (fun _ h => by cases h) (fun _ h => by cases h) (fun h => by cases h) (fun h => by cases h) hk0 hk1 hkk0 hkk1 (by simp [refKind]) (by decide) (by decide) (nI_pos hN)
    (by rw [i0, iN]; show ¬ _ > ((arrV _ n0 (fun j => .int (f j))).slots.size : Int); rw [arrV_size]; omega)
    (by rw [i0, iN]; show ¬ _ > ((arrV _ n1 (fun j => .int (g j))).slots.size : Int); rw [arrV_size]; omega)
    (fun vm₁ _ i hi => by
      rw [hcl] at hi
      have e : (vp_cell (Γ.2.1 0) (n0, .inl f)).slots.getD ((0 : Int32).toNatClampNeg + i) .null = .int (f ((0 : Int32).toNatClampNeg + i)) := by
        show (arrV _ n0 (fun j => .int (f j))).slots.getD _ _ = _
        have hz : (0 : Int32).toNatClampNeg = 0 := by decide
        rw [hz, Array.getD_eq_getD_getElem?, arrV_read _ _ (by omega)]
        rfl
      refine ⟨?_, ?_⟩
      · rw [e]
        rfl
      · rw [e]
        exact trivial)
    (g := F0 m pc la (.int (nI N) :: .int 0 :: .ref a :: .int 0 :: .ref a0 :: st)) rfl (by show la.size = _; rw [hC.ml]; exact hl.1) (rest := st) rfl (by rw [hC.b]; exact hd) (by omega) (by show 2 * 0 + _ + _ ≤ _; omega)
  have hz0 : (0 : Int32).toNatClampNeg = 0 := by decide
  have e1 : copied (vp_cell (Γ.2.1 0) (n0, .inl f)) (vp_cell (Γ.2.1 0) (n1, .inl g)) 0 0 (nI N) = vp_cell (Γ.2.1 0) (n1, .inl (va_cpy f g 0 0 N)) := by
    have h9 := va_copied (fun z => Value.int z) (Γ.2.1 0) (Γ.2.1 0) (n0 := n0) (n1 := n1) (sp := 0) (dp := 0) (n := N) f g (by omega)
    show (arrV (Γ.2.1 0) n1 (fun j => .int (g j))).storeRun (0 : Int32).toNatClampNeg ((arrV (Γ.2.1 0) n0 (fun j => .int (f j))).stretch (0 : Int32).toNatClampNeg (nI N).toNatClampNeg) = _
    rw [hcl, hz0]
    exact h9
  rw [e1] at X' step
  have hla : a < H.size := (Array.getElem?_eq_some_iff.mp hc1).1
  have hheap : ((T.setVm vm').setCell a (vp_cell (Γ.2.1 0) (n1, .inl (va_cpy f g 0 0 N)))).heap = H.setIfInBounds a (vp_cell (Γ.2.1 0) (n1, .inl (va_cpy f g 0 0 N))) := by rw [← hT]; rfl
  have oq : ∀ q : Nat, q ≠ a → (H.setIfInBounds a (vp_cell (Γ.2.1 0) (n1, .inl (va_cpy f g 0 0 N))))[q]? = H[q]? := fun q hq => by simp [Array.getElem?_setIfInBounds, Ne.symm hq]
  obtain ⟨t, a1, b1⟩ := kk p e R s m args below meth c u0 hC _ _ cells slots la (hr.set ha1 (show (H.setIfInBounds a _)[a]? = some _ by simp [Array.getElem?_setIfInBounds, hla]) (by simp) oq) hl (fun q hh => by
      rcases List.mem_append.mp hh with hh | hh
      · exact hq q hh
      · obtain ⟨z, -, hz⟩ := List.mem_map.mp hh
        rw [← hz]
        exact (hr.2.1 a _ ha1).1) z1 z2 _ hheap X'
  exact ⟨t, step t a1, b1⟩
/-- an exception leaves a method with no handlers over this place -/
theorem mm_leave {k : Nat} (hout : ∀ x ∈ M.2.2.2.2, ¬ (x.1 ≤ pc ∧ pc < x.2.1)) (hD : D (.inr k) h) : mm_Th Γ l M d D pc ls k h := by
  intro p e R s m args below meth c u0 hC H locs cells slots la st x ce hr hl hq h1 h2 hx hxv hxc T hT X
  have ho : ∀ z ∈ c.exceptionTable.toList, covers z pc = false := by
    intro z hz
    have hm : (z.startPc, z.endPc, z.handlerPc, z.catchType) ∈ M.2.2.2.2 := by
      rw [← hC.tab]
      exact List.mem_map.mpr ⟨z, hz, rfl⟩
    have := hout _ hm
    simp only [covers]
    simp only [Bool.and_eq_false_iff, decide_eq_false_iff_not]
    by_cases h9 : z.startPc ≤ pc
    · exact Or.inr fun h8 => this ⟨h9, h8⟩
    · exact Or.inl h9
  obtain ⟨st1, hrun, hend, hW, hsm⟩ := X.leaveThrown x (g := F0 m pc la st) rfl rfl rfl ho hC.lk
  refine ⟨_, st1, .threw x, .inr k, h, locs, cells, slots, hrun, hend, ⟨x, ce, rfl, ?_, hxv, hxc⟩, hD, ?_, hW, hsm, hq, h1, h2⟩
  · show T.heap[x]? = some ce
    rw [hT]; exact hx
  · show mm_R Γ _ h T.heap
    rw [hT]; exact hr.moved hW.alike
end MMcopy
section MMthrow
variable {Γ : mm_G} {l : Launch} {M : mm_M} {d : Nat} {D : mm_D} {pc : Nat} {ls : mm_L} {st : List Value} {h : mm_H}
/-- the words of 'throw new E()' at a place of a method -/
def mm_TW (own : String) (ik ic k : Nat) (names : List String) : Prop := Bundle.fit (mm_exc k) = true ∧ (∀ n ∈ names, Bundle.fit n = true) ∧ names.length ≤ 8 ∧ Cond.classLink own ik (mm_exc k) ∈ mm_T ∧ Cond.initialized (mm_exc k) ∈ mm_T ∧ ∀ w ∈ vx_at0 own ic (mm_exc k) names, w ∈ mm_T
set_option maxHeartbeats 1000000 in
theorem mm_throw {ik ic k : Nat} {names : List String} (d0 : decode M.2.1 pc = .ok (.new ik, 3)) (d3 : decode M.2.1 (pc + 3) = .ok (.dup, 1)) (d4 : decode M.2.1 (pc + 4) = .ok (.invokespecial ic, 3)) (d7 : decode M.2.1 (pc + 7) = .ok (.athrow, 1)) (hT : mm_TW M.1.cls ik ic k names)
    (hout : M.2.2.2.2 = []) (hwt : (st.map fun v => v.category).sum ≤ 100) (hm : h.1 + 1 ≤ mm_Cm Γ) (hs : h.2.1 + 6 ≤ mm_Sm Γ) (hD : D (.inr k) (mm_exn h)) : mm_W Γ l M d D pc ls st h := by
  intro p e R s m args below meth c u0 hC H locs cells slots la hr hl hq h1 h2
  obtain ⟨t1, t2, t3, t4, t5, t6⟩ := hT
  obtain ⟨hB, hCm, hSm, hfr, hlo, htr⟩ := hC.rm
  have hsz := hr.1.1
  have hemp : c.exceptionTable.toList = [] := by
    have := hC.tab
    rw [hout] at this
    exact List.map_eq_nil_iff.mp this
  intro T hT X
  have htr' : e.platform.stackTraces = false := (show e.platform.stackTraces = l.stackTraces by rw [X.admits.platform]).trans htr
  have Y := vx_rebase X (R' := { frames := R.frames, locals := R.locals, cells := 1, slots := 6 }) (Nat.le_refl _) (Nat.le_refl _) (by show cells + 1 ≤ R.cells; omega) (by show slots + 6 ≤ R.slots; omega)
  obtain ⟨s', hA⟩ : ∃ z, z = (T.setVm s.vm).setFrames (.invoking m args :: below) := ⟨_, rfl⟩
  rw [← hA] at Y
  have hvm : s'.vm = s.vm := by rw [hA]; rfl
  have hhp : s'.heap = H := by rw [hA]; exact hT
  have hW0 : s.WarmedH s'.vm := by rw [hvm]; exact State.WarmedH.refl s
  have mv : ∀ w ∈ mm_T, w.before args s' = true := fun w hw => mm_gw_at hW0 (mm_T.good hw) (hC.w w hw)
  have hU' : vx_Zq Bundle.tN "UNASSIGNED_STACK" Bundle.steD (fun q => mm_B Γ ≤ q) s' s'.heap := by rw [hhp]; exact vx_Zq.moved hW0.alike hr.2.2.2.1
  have hN' : vx_Zq Bundle.tN "SUPPRESSED_SENTINEL" Bundle.listD (fun q => mm_B Γ ≤ q) s' s'.heap := by rw [hhp]; exact vx_Zq.moved hW0.alike hr.2.2.2.2
  have hat : ∀ w ∈ Bundle.ownAtoms0 M.1.cls ic (mm_exc k) names, w.before args s' = true := vx_own (fun w hw => mv w (t6 w hw)) (vx_isRefq hU'.1) (vx_isRefq hN'.1) hU'.2.word hN'.2.word
  have hown' : s'.vm.findClass M.1.cls = some m.cls := by rw [hvm]; exact hC.own
  have hins : (Cond.instantiable (mm_exc k) 6).before args s' = true := hat _ (by simp [Bundle.ownAtoms0])
  obtain ⟨vm₁, cX, kX, hfX, hkX, -, -, X₁, st1⟩ := Y.newCold hC.x (own := M.1.cls) (C := mm_exc k) (index := ik) (n := 6) hown' (mv _ t4) hins (mv _ t5)
    (g := F0 m pc la st) rfl (by rw [hC.b]; exact d0) (Nat.le_refl _) (Nat.le_refl _)
  generalize hT1 : (T.setVm vm₁).pushCell { cls := cX, slots := kX.instanceTypes.map defaultValue, vm := .none } = T1 at X₁ st1
  have hcat : (Value.ref T.heap.size).category = 1 := rfl
  have hcellA : T1.heap[T.heap.size]? = some (freshCell cX kX) := by rw [← hT1]; exact State.heap_pushCell_size _ _
  have d3' : decode c.code (pc + 3) = .ok (.dup, 1) := by rw [hC.b]; exact d3
  obtain ⟨U, hsteps, hrun, hend, hW, hsame, ce, hce, hO⟩ := X₁.ctorThrow0 hC.x htr' (own := M.1.cls) (cls := mm_exc k) (names := names) (ic := ic) hown' t1 t2 hat (fun x hx => nomatch hx) hfX hkX hcellA (by rw [hhp, hT]; exact Nat.le_refl _)
    (g := { method := m, pc := pc + 4, locals := la, stack := .ref T.heap.size :: .ref T.heap.size :: st, locked := none }) rfl (by show la.size = _; rw [hC.ml]; exact hl.1) rfl rfl (rest := st) rfl
    (by rw [hC.b]; exact d4) (by rw [hC.b]; exact d7) (by rw [hemp]; exact fun x hx => nomatch hx) (by show names.length + 3 < R.frames; omega) (by show 2 * 0 + _ + _ ≤ R.locals; simp only [List.map_cons, List.sum_cons, hcat]; omega) hC.lk
  obtain ⟨f1, f2⟩ := vx_frame hsame
  rw [hhp] at f1 f2
  have hWs : s.WarmedH U.vm := State.WarmedH.trans hW0 hW
  have hcl : s.vm.findClass (mm_exc k) = some ce.cls := by
    have h9 := hO.cls
    rw [hvm] at h9
    exact h9
  have hall : s.sameButNew ({ U with vm := s.vm } : State) locs (cells + 1) (slots + 6) := by
    subst hA
    obtain ⟨e1, e2⟩ := hsame
    rw [State.setFrames_setFrames] at e1
    have h2 : (T.setVm s.vm).sameButNew ({ U with vm := s.vm } : State) [] (0 + 1) (0 + 6) := ⟨e1, e2⟩
    have h3 := X.same.trans h2
    rw [List.append_nil] at h3
    exact h3.mono (by omega) (by omega)
  have hlt : T.heap.size < U.heap.size := (Array.getElem?_eq_some_iff.mp hce).1
  have hle : U.heap.size ≤ s.heap.size + (cells + 1) := hall.2.2.1
  have hTs : T.heap.size = h.1 := by rw [hT]; exact hsz
  refine ⟨U, ?_, .threw T.heap.size, .inr k, mm_exn h, locs, cells + 1, slots + 6, hrun, hend, ⟨_, ce, rfl, hce, hO.vm, hcl⟩, hD, ?_, hWs, hall, hq, by show h.1 + 1 = _; omega, by show h.2.1 + 6 = _; omega⟩
  · refine st1 _ ?_
    show Steps p.tables e below (T1.setTop { method := m, pc := pc + 3, locals := la, stack := .ref T.heap.size :: st, locked := none }) _
    jvm_step X₁.here [X₁.here.top, hC.x, d3', Value.category]
    exact hsteps
  · exact (hr.moved hWs.alike).exn hm hs (by omega) (fun b hb => f2 b hb (fun z hz => nomatch hz))
end MMthrow
section MMcatch
variable {Γ : mm_G} {l : Launch} {M : mm_M} {d : Nat} {D : mm_D} {pc : Nat} {ls : mm_L} {h : mm_H}
/-- caught by a handler of this method; the rows ahead don't take it -/
theorem mm_catch {k j s0 e0 hp ct : Nat} {pre suf : List (Nat × Nat × Nat × Nat)} (htab : M.2.2.2.2 = pre ++ (s0, e0, hp, ct) :: suf) (hpass : ∀ z ∈ pre, z.2.2.2 ≠ 0 ∧ ∃ i, Cond.classLink M.1.cls z.2.2.2 (mm_exc i) ∈ mm_T ∧ (k, i) ∈ mm_NC) (hin : s0 ≤ pc ∧ pc < e0) (h0 : ct ≠ 0)
    (hlink : Cond.classLink M.1.cls ct (mm_exc j) ∈ mm_T) (hcast : Cond.castable (mm_exc k) (mm_exc j) ∈ mm_T) (kk : ∀ x : Addr, mm_W Γ l M d D hp ls [.ref x] h) : mm_Th Γ l M d D pc ls k h := by
  intro p e R s m args below meth c u0 hC H locs cells slots la st x ce hr hl hq h1 h2 hx hxv hxc
  have ht := hC.tab
  rw [htab] at ht
  obtain ⟨pr, sf, e1, e2, e3⟩ := List.map_eq_append_iff.mp ht
  obtain ⟨y, su, e4, e5, e6⟩ := List.map_eq_cons_iff.mp e3
  subst e4
  cases e5
  refine vx_catch (own := M.1.cls) (name := mm_exc j) (E := mm_exc k) (ce := ce) hC.own pr y su e1 (fun z hz => ?_) ?_ h0 (hC.w _ hlink) (hC.w _ hcast) hx hxv hxc (kk x p e R s m args below meth c u0 hC H locs cells slots la hr hl hq h1 h2)
  · have hm : (z.startPc, z.endPc, z.handlerPc, z.catchType) ∈ pre := by
      rw [← e2]
      exact List.mem_map.mpr ⟨z, hz, rfl⟩
    obtain ⟨g0, i, g1, g2⟩ := hpass _ hm
    exact Or.inr ⟨g0, mm_exc i, hC.w _ g1, hC.k.2.2.2 _ g2⟩
  · simp only [covers, Bool.and_eq_true, decide_eq_true_eq]
    exact hin
end MMcatch
