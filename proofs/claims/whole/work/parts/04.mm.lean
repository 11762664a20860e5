/-! The small machine: pictures of the heap, W with its context put away. -/
abbrev mm_E : Type := (Nat × vp_A) ⊕ (Nat × List Value)
abbrev mm_H : Type := Nat × Nat × (Nat → Option mm_E)
abbrev mm_L : Type := List (Option Value)
abbrev mm_O : Type := Option Value ⊕ Nat
abbrev mm_D : Type := mm_O → mm_H → Prop
/-- fixed for a run: classes and slots; array classes; first address that is ours, ends of the room; the script -/
abbrev mm_G : Type := va_G × (Nat → ClassId) × (Nat × Nat × Nat) × (Nat × Nat × (Nat → Int32))
abbrev mm_B (Γ : mm_G) : Nat := Γ.2.2.1.1
abbrev mm_Cm (Γ : mm_G) : Nat := Γ.2.2.1.2.1
abbrev mm_Sm (Γ : mm_G) : Nat := Γ.2.2.1.2.2
def mm_up (h : mm_H) (a : Nat) (x : mm_E) : mm_H := (h.1, h.2.1, fun q => if q = a then some x else h.2.2 q)
def mm_add (h : mm_H) (n : Nat) (x : mm_E) : mm_H := (h.1 + 1, h.2.1 + n, fun q => if q = h.1 then some x else h.2.2 q)
/-- an exception was made: its cell is not in the picture -/
def mm_exn (h : mm_H) : mm_H := (h.1 + 1, h.2.1 + 6, h.2.2)
def mm_exc : Nat → String
  | 0 => "java/lang/IllegalArgumentException"
  | 1 => "java/lang/IllegalStateException"
  | 2 => "java/lang/UnsupportedOperationException"
  | _ => "java/lang/IndexOutOfBoundsException"
/-- the array types: by number -/
def mm_aty : Nat → FieldType
  | 0 => .int
  | 1 => .boolean
  | 2 => .long
  | _ => .object "CutSheets$Sheet"
def mm_tys (Γ : mm_G) : List (ClassId × FieldType) := [(Γ.2.1 0, mm_aty 0), (Γ.2.1 1, mm_aty 1), (Γ.2.1 2, mm_aty 2), (Γ.2.1 3, mm_aty 3)]
/-- the words that move -/
def mm_gw : Cond → Bool
  | .castable _ _ => true
  | .arrayOver _ => true
  | .declares _ => true
  | w => goodWord w
def mm_T : List Cond := lw_tbl.filter mm_gw
theorem mm_in (i : Nat) {w : Cond} (h : lw_tbl[i]? = some w) (hg : mm_gw w = true) : w ∈ mm_T := List.mem_filter.mpr ⟨List.mem_of_getElem? h, hg⟩
theorem mm_gw_at {args a' : Array Value} {s U : State} (hW : s.WarmedH U.vm) {w : Cond} (hg : mm_gw w = true) (h : w.before args s = true) : w.before a' U = true := by
  cases w with
  | castable C T => exact (va_Nw.warmC hW (va_Nw.of rfl h)).use rfl
  | arrayOver ty =>
    have e : (Cond.arrayOver ty).before args (s.setVm U.vm) = true := by rw [Cond.arrayOver_setVmC hW.alike]; exact h
    exact e
  | declares x =>
    have e : (Cond.declares x).before args (s.setVm U.vm) = true := by rw [Cond.declares_setVm hW.alike]; exact h
    exact e
  | _ => exact word_at hW (good_of_word hg) h
/-- a cell of the picture, in the heap -/
def mm_at (Γ : mm_G) (H : Heap) (a : Nat) : mm_E → Prop
  | .inl x => H[a]? = some (vp_cell (Γ.2.1 x.1) x.2)
  | .inr o => ∃ r : vw_C, mm_cl[o.1]? = some r ∧ t_OB a (Γ.1.1 o.1) r.2.2 (Γ.1.2 o.1) H (vp_V o.2)
/-- the picture, in the heap; with it what is old and read: the script, Throwable's two statics -/
def mm_R (Γ : mm_G) (U : State) (h : mm_H) (H : Heap) : Prop :=
  (H.size = h.1 ∧ h.1 ≤ mm_Cm Γ ∧ h.2.1 ≤ mm_Sm Γ ∧ mm_B Γ ≤ h.1) ∧
  (∀ (a : Nat) (x : mm_E), h.2.2 a = some x → mm_B Γ ≤ a ∧ mm_at Γ H a x) ∧
  (Γ.2.2.2.1 < mm_B Γ ∧ va_X Γ.2.2.2.1 Γ.2.2.2.2.1 Γ.2.2.2.2.2 U H) ∧
  (vx_Zq Bundle.tN "UNASSIGNED_STACK" Bundle.steD (fun q => mm_B Γ ≤ q) U H ∧ vx_Zq Bundle.tN "SUPPRESSED_SENTINEL" Bundle.listD (fun q => mm_B Γ ≤ q) U H)
def mm_Lc (la : Array Slot) (n : Nat) (ls : mm_L) : Prop := la.size = n ∧ lv_wf la ∧ ∀ (i : Nat) (v : Value), ls[i]? = some (some v) → la[i]? = some (.val v) ∧ v.category = 1
/-- what the tables say, at a state -/
def mm_K (Γ : mm_G) (U : State) : Prop := va_K Γ.1 mm_cl (mm_tys Γ) U ∧ (∀ q ∈ mm_NF, va_Nw (.fieldLinkNest q.1 q.2.1 q.2.2.1 q.2.2.2.1 q.2.2.2.2 "CutSheets") U) ∧ (∀ q ∈ mm_NM, va_Nw (.methodLinkNest q.1 q.2.1 q.2.2 "CutSheets") U) ∧ ∀ q ∈ mm_NC, va_Nc (mm_exc q.1) (mm_exc q.2) U
def mm_out (s t : State) (o : Outcome) : mm_O → Prop
  | .inl v => o = .returned v
  | .inr k => ∃ (x : Addr) (ce : Cell), o = .threw x ∧ t.heap[x]? = some ce ∧ ce.vm = .none ∧ s.vm.findClass (mm_exc k) = some ce.cls
/-- the method has ended -/
def mm_Q (Γ : mm_G) (below : List Frame) (D : mm_D) (s : State) (u0 : Nat) (t : State) : Prop :=
  ∃ (o : Outcome) (o' : mm_O) (h' : mm_H) (L : List Loc) (k n : Nat), t.status = .running ∧ Ended t below o ∧ mm_out s t o o' ∧ D o' h' ∧ mm_R Γ t h' t.heap ∧
    s.WarmedH t.vm ∧ s.sameButNew ({ t with vm := s.vm } : State) L k n ∧ (∀ q ∈ L, mm_B Γ ≤ q.base) ∧ h'.1 = s.heap.size + k ∧ h'.2.1 = u0 + n
/-- the context: machine, method, tables, room for depth d -/
def mm_C (Γ : mm_G) (l : Launch) (M : mm_M) (d : Nat) (p : Program) (R : Room) (s : State) (m : MethodId) (args : Array Value) (meth : Method) (c : Code) (u0 : Nat) : Prop :=
  (p.tables.exec = Jvm.exec ∧ c.code = M.2.1 ∧ c.maxLocals = M.2.2.1 ∧ meth.sig.returnType = M.2.2.2.1 ∧ meth.locks = false ∧ s.vm.findClass M.1.cls = some m.cls ∧ meth.name = M.1.name ∧
  c.exceptionTable.toList.map (fun h => (h.startPc, h.endPc, h.handlerPc, h.catchType)) = M.2.2.2.2) ∧
  ((∀ w ∈ mm_T, w.before args s = true) ∧ mm_K Γ s) ∧ (mm_B Γ ≤ s.heap.size ∧ mm_Cm Γ ≤ s.heap.size + R.cells ∧ mm_Sm Γ ≤ u0 + R.slots ∧
  d + 20 ≤ R.frames ∧ 60 * d + 400 ≤ R.locals ∧ l.stackTraces = false)
def mm_W (Γ : mm_G) (l : Launch) (M : mm_M) (d : Nat) (D : mm_D) (pc : Nat) (ls : mm_L) (st : List Value) (h : mm_H) : Prop :=
  ∀ (p : Program) (e : Env) (R : Room) (s : State) (m : MethodId) (args : Array Value) (below : List Frame) (meth : Method) (c : Code) (u0 : Nat), mm_C Γ l M d p R s m args meth c u0 →
  ∀ (H : Heap) (locs : List Loc) (cells slots : Nat) (la : Array Slot), mm_R Γ s h H → mm_Lc la M.2.2.1 ls → (∀ q ∈ locs, mm_B Γ ≤ q.base) → h.1 = s.heap.size + cells → h.2.1 = u0 + slots →
    W p l e R s m args below meth c H locs cells slots (mm_Q Γ below D s u0) (F0 m pc la st)
/-- an exception is under way over the frame at pc -/
def mm_Th (Γ : mm_G) (l : Launch) (M : mm_M) (d : Nat) (D : mm_D) (pc : Nat) (ls : mm_L) (k : Nat) (h : mm_H) : Prop :=
  ∀ (p : Program) (e : Env) (R : Room) (s : State) (m : MethodId) (args : Array Value) (below : List Frame) (meth : Method) (c : Code) (u0 : Nat), mm_C Γ l M d p R s m args meth c u0 →
  ∀ (H : Heap) (locs : List Loc) (cells slots : Nat) (la : Array Slot) (st : List Value) (x : Addr) (ce : Cell), mm_R Γ s h H → mm_Lc la M.2.2.1 ls → (∀ q ∈ locs, mm_B Γ ≤ q.base) → h.1 = s.heap.size + cells → h.2.1 = u0 + slots →
    H[x]? = some ce → ce.vm = .none → s.vm.findClass (mm_exc k) = some ce.cls → vx_W p l e R s m args below meth c H locs cells slots (mm_Q Γ below D s u0) (F0 m pc la st) x
/-- a method's contract at depth d: from its entry -/
def mm_ent (as : List Value) (n : Nat) : mm_L := as.map some ++ List.replicate (n - as.length) none
def mm_Ev (Γ : mm_G) (l : Launch) (d : Nat) (M : mm_M) (as : List Value) (h : mm_H) (D : mm_D) : Prop := mm_W Γ l M d D 0 (mm_ent as M.2.2.1) [] h
/-- a known end -/
def mm_is (o : mm_O) (g : mm_H) : mm_D := fun o' g' => o' = o ∧ g' = g
section MMC
variable {Γ : mm_G} {l : Launch} {M : mm_M} {d : Nat} {p : Program} {R : Room} {s : State} {m : MethodId} {args : Array Value} {meth : Method} {c : Code} {u0 : Nat}
theorem mm_C.x (h : mm_C Γ l M d p R s m args meth c u0) : p.tables.exec = Jvm.exec := h.1.1
theorem mm_C.b (h : mm_C Γ l M d p R s m args meth c u0) : c.code = M.2.1 := h.1.2.1
theorem mm_C.ml (h : mm_C Γ l M d p R s m args meth c u0) : c.maxLocals = M.2.2.1 := h.1.2.2.1
theorem mm_C.ret (h : mm_C Γ l M d p R s m args meth c u0) : meth.sig.returnType = M.2.2.2.1 := h.1.2.2.2.1
theorem mm_C.lk (h : mm_C Γ l M d p R s m args meth c u0) : meth.locks = false := h.1.2.2.2.2.1
theorem mm_C.own (h : mm_C Γ l M d p R s m args meth c u0) : s.vm.findClass M.1.cls = some m.cls := h.1.2.2.2.2.2.1
theorem mm_C.nm (h : mm_C Γ l M d p R s m args meth c u0) : meth.name = M.1.name := h.1.2.2.2.2.2.2.1
theorem mm_C.tab (h : mm_C Γ l M d p R s m args meth c u0) : c.exceptionTable.toList.map (fun h => (h.startPc, h.endPc, h.handlerPc, h.catchType)) = M.2.2.2.2 := h.1.2.2.2.2.2.2.2
theorem mm_C.w (h : mm_C Γ l M d p R s m args meth c u0) : ∀ w ∈ mm_T, w.before args s = true := h.2.1.1
theorem mm_C.k (h : mm_C Γ l M d p R s m args meth c u0) : mm_K Γ s := h.2.1.2
theorem mm_C.rm (h : mm_C Γ l M d p R s m args meth c u0) : mm_B Γ ≤ s.heap.size ∧ mm_Cm Γ ≤ s.heap.size + R.cells ∧ mm_Sm Γ ≤ u0 + R.slots ∧ d + 20 ≤ R.frames ∧ 60 * d + 400 ≤ R.locals ∧ l.stackTraces = false := h.2.2
end MMC
section MMW
variable {p : Program} {l : Launch} {e : Env} {R : Room} {s : State} {m : MethodId} {args : Array Value} {below : List Frame} {meth : Method} {c : Code} {H : Heap} {locs : List Loc} {cells slots : Nat} {Q Q' : State → Prop} {g : JFrame}
theorem mm_mono (h : ∀ t, Q t → Q' t) (w : W p l e R s m args below meth c H locs cells slots Q g) : W p l e R s m args below meth c H locs cells slots Q' g := fun T hT X =>
  (w T hT X).elim fun t q => ⟨t, q.1, h t q.2⟩
theorem mm_monoX {x : Addr} (h : ∀ t, Q t → Q' t) (w : vx_W p l e R s m args below meth c H locs cells slots Q g x) : vx_W p l e R s m args below meth c H locs cells slots Q' g x := fun T hT X =>
  (w T hT X).elim fun t q => ⟨t, q.1, h t q.2⟩
end MMW
theorem mm_weaken {tb : Tables} {e : Env} {mid below : List Frame} {a b : State} (h : Steps tb e (mid ++ below) a b) : Steps tb e below a b := by
  obtain ⟨n, hn, w⟩ := h
  exact ⟨n, hn, fun k hk => (w k hk).weaken⟩
theorem mm_at.kept {Γ : mm_G} {H H1 : Heap} {a : Nat} {x : mm_E} (hq : H1[a]? = H[a]?) (h : mm_at Γ H a x) : mm_at Γ H1 a x := by
  match x, h with
  | .inl _, h => exact hq.trans h
  | .inr _, ⟨r, h1, h2⟩ => exact ⟨r, h1, h2.kept hq⟩
theorem mm_at.lt {Γ : mm_G} {H : Heap} {a : Nat} {x : mm_E} (h : mm_at Γ H a x) : a < H.size := by
  match x, h with
  | .inl _, h => exact (Array.getElem?_eq_some_iff.mp h).1
  | .inr _, ⟨r, h1, c0, h2, _⟩ => exact (Array.getElem?_eq_some_iff.mp h2).1
theorem mm_X.moved {b L : Nat} {xs : Nat → Int32} {u U : State} {H : Heap} (hvm : u.vm.Alike U.vm) (h : va_X b L xs u H) : va_X b L xs U H := by
  obtain ⟨scr, h1, h2, h3⟩ := h
  exact ⟨scr, h1, State.isArrayOf_alike hvm h2, h3⟩
theorem mm_Nc.moved {E nm : String} {u U : State} (hvm : u.vm.Alike U.vm) (h : va_Nc E nm u) : va_Nc E nm U := h.moved hvm
theorem mm_K.moved {Γ : mm_G} {u U : State} (hW : u.WarmedH U.vm) (h : mm_K Γ u) : mm_K Γ U :=
  ⟨h.1.moved hW.alike, fun q hq => (h.2.1 q hq).warmF hW, fun q hq => (h.2.2.1 q hq).warmM hW, fun q hq => mm_Nc.moved hW.alike (h.2.2.2 q hq)⟩
theorem mm_R.moved {Γ : mm_G} {u U : State} {h : mm_H} {H : Heap} (hvm : u.vm.Alike U.vm) (q : mm_R Γ u h H) : mm_R Γ U h H :=
  ⟨q.1, q.2.1, ⟨q.2.2.1.1, mm_X.moved hvm q.2.2.1.2⟩, ⟨q.2.2.2.1.moved hvm, q.2.2.2.2.moved hvm⟩⟩
/-- one of our cells is written -/
theorem mm_R.set {Γ : mm_G} {U : State} {h : mm_H} {H H1 : Heap} {a : Nat} {x x' : mm_E} (q : mm_R Γ U h H) (hx : h.2.2 a = some x) (h1 : mm_at Γ H1 a x') (hz : H1.size = H.size) (ho : ∀ b : Nat, b ≠ a → H1[b]? = H[b]?) : mm_R Γ U (mm_up h a x') H1 := by
  obtain ⟨⟨z, z1, z2, z3⟩, q1, ⟨q2, scr, s1, s2⟩, q3, q4⟩ := q
  have hB : mm_B Γ ≤ a := (q1 a x hx).1
  have hk : ∀ b : Nat, b < H.size → ¬ mm_B Γ ≤ b → H1[b]? = H[b]? := fun b _ hb => ho b (fun hh => hb (by rw [hh]; exact hB))
  refine ⟨⟨by rw [hz]; exact z, z1, z2, z3⟩, fun b y hy => ?_, ⟨q2, scr, by rw [ho _ (by omega)]; exact s1, s2⟩, q3.kept hk, q4.kept hk⟩
  by_cases hb : b = a
  · subst hb
    simp only [mm_up, if_true] at hy
    cases hy
    exact ⟨hB, h1⟩
  · simp only [mm_up, hb, if_false] at hy
    exact ⟨(q1 b y hy).1, (q1 b y hy).2.kept (ho b hb)⟩
/-- a cell comes -/
theorem mm_R.new {Γ : mm_G} {U : State} {h : mm_H} {H H1 : Heap} {n : Nat} {x : mm_E} (q : mm_R Γ U h H) (hn : h.1 + 1 ≤ mm_Cm Γ) (hu : h.2.1 + n ≤ mm_Sm Γ) (h1 : mm_at Γ H1 h.1 x) (hz : H1.size = h.1 + 1) (ho : ∀ b : Nat, b < h.1 → H1[b]? = H[b]?) : mm_R Γ U (mm_add h n x) H1 := by
  obtain ⟨⟨z, z1, z2, z3⟩, q1, ⟨q2, scr, s1, s2⟩, q3, q4⟩ := q
  have hk : ∀ b : Nat, b < H.size → ¬ mm_B Γ ≤ b → H1[b]? = H[b]? := fun b hb _ => ho b (by omega)
  refine ⟨⟨hz, hn, hu, by show mm_B Γ ≤ h.1 + 1; omega⟩, fun b y hy => ?_, ⟨q2, scr, by rw [ho _ (by omega)]; exact s1, s2⟩, q3.kept hk, q4.kept hk⟩
  by_cases hb : b = h.1
  · subst hb
    simp only [mm_add, if_true] at hy
    cases hy
    exact ⟨z3, h1⟩
  · simp only [mm_add, hb, if_false] at hy
    have hlt := (q1 b y hy).2.lt
    exact ⟨(q1 b y hy).1, (q1 b y hy).2.kept (ho b (by omega))⟩
/-- an exception comes -/
theorem mm_R.exn {Γ : mm_G} {U : State} {h : mm_H} {H H1 : Heap} (q : mm_R Γ U h H) (hn : h.1 + 1 ≤ mm_Cm Γ) (hu : h.2.1 + 6 ≤ mm_Sm Γ) (hz : H1.size = h.1 + 1) (ho : ∀ b : Nat, b < H.size → H1[b]? = H[b]?) : mm_R Γ U (mm_exn h) H1 := by
  obtain ⟨⟨z, z1, z2, z3⟩, q1, ⟨q2, scr, s1, s2⟩, q3, q4⟩ := q
  have hk : ∀ b : Nat, b < H.size → ¬ mm_B Γ ≤ b → H1[b]? = H[b]? := fun b hb _ => ho b hb
  refine ⟨⟨hz, hn, hu, by show mm_B Γ ≤ h.1 + 1; omega⟩, fun b y hy => ?_, ⟨q2, scr, by rw [ho _ (by omega)]; exact s1, s2⟩, q3.kept hk, q4.kept hk⟩
  have hy' : h.2.2 b = some y := hy
  have hlt := (q1 b y hy').2.lt
  exact ⟨(q1 b y hy').1, (q1 b y hy').2.kept (ho b hlt)⟩
/-! locals -/
def mm_pairs (ls : mm_L) : List (Nat × Value) := (List.range ls.length).filterMap fun i => match ls[i]? with
  | some (some v) => some (i, v)
  | _ => none
theorem mm_pairs_mem {ls : mm_L} {i : Nat} {v : Value} : (i, v) ∈ mm_pairs ls ↔ ls[i]? = some (some v) := by
  unfold mm_pairs
  rw [List.mem_filterMap]
  constructor
  · rintro ⟨j, -, hj⟩
    cases hx : ls[j]? with
    | none => rw [hx] at hj; simp at hj
    | some o =>
      cases o with
      | none => rw [hx] at hj; simp at hj
      | some w =>
        rw [hx] at hj
        simp at hj
        obtain ⟨rfl, rfl⟩ := hj
        exact hx
  · intro h
    refine ⟨i, List.mem_range.mpr (List.getElem?_eq_some_iff.mp h).1, ?_⟩
    rw [h]
theorem mm_Lc.pairs {la : Array Slot} {n : Nat} {ls : mm_L} (h : mm_Lc la n ls) : lv_has la n (mm_pairs ls) :=
  ⟨h.1, h.2.1, fun q hq => (h.2.2 q.1 q.2 (mm_pairs_mem.mp hq)).1⟩
theorem mm_Lc.at {la : Array Slot} {n : Nat} {ls : mm_L} {i : Nat} {v : Value} (_ : mm_Lc la n ls) (hx : ls[i]? = some (some v)) : ∃ k : Nat, (mm_pairs ls)[k]? = some (i, v) :=
  List.getElem?_of_mem (mm_pairs_mem.mpr hx)
theorem mm_Lc.put {la la' : Array Slot} {n : Nat} {ls ls' : mm_L} {i : Nat} {v : Value} (h : mm_Lc la n ls) (h' : lv_has la' n ((i, v) :: (mm_pairs ls).filter (fun q => !(q.1 == i) && !(q.1 + 1 == i && q.2.category == 2)))) (hv : v.category = 1) (hs : ls.set i (some v) = ls') : mm_Lc la' n ls' := by
  refine ⟨h'.1, h'.2.1, fun j w hj => ?_⟩
  rw [← hs] at hj
  by_cases hji : j = i
  · subst hji
    have hlt : j < ls.length := by
      have := (List.getElem?_eq_some_iff.mp hj).1
      simpa using this
    rw [List.getElem?_set_self hlt] at hj
    cases hj
    exact ⟨h'.2.2 _ List.mem_cons_self, hv⟩
  · rw [List.getElem?_set_ne (fun e => hji e.symm)] at hj
    have hw := (h.2.2 j w hj).2
    refine ⟨h'.2.2 (j, w) (List.mem_cons_of_mem _ (List.mem_filter.mpr ⟨mm_pairs_mem.mpr hj, ?_⟩)), hw⟩
    simp [hji, hw]
theorem mm_entry (as : List Value) {n : Nat} (ha : ∀ v ∈ as, v.category = 1) (hl : as.length ≤ n) : ∃ la : Array Slot, mm_Lc la n (as.map some) ∧ ∀ mk : MethodId, entryFrame mk as.toArray n = F0 mk 0 la [] := by
  have e1 : lg_sl as = as.map Slot.val := by
    clear hl
    induction as with
    | nil => rfl
    | cons v t ih =>
      have hv : ¬ v.category = 2 := by rw [ha v List.mem_cons_self]; decide
      have := ih (fun w hw => ha w (List.mem_cons_of_mem _ hw))
      simp only [lg_sl, List.flatMap_cons, List.map_cons] at this ⊢
      rw [if_neg hv, this]
      rfl
  have hlen : (lg_sl as).length ≤ n := by rw [e1]; simpa using hl
  have hh := lv_entry as hlen
  refine ⟨_, ⟨hh.1, hh.2.1, fun i v hv => ?_⟩, fun mk => lg_entry_eq mk as n⟩
  rw [List.getElem?_map] at hv
  cases hx : as[i]? with
  | none => rw [hx] at hv; simp at hv
  | some w =>
    rw [hx] at hv
    simp at hv
    subst hv
    have hlt : i < as.length := (List.getElem?_eq_some_iff.mp hx).1
    refine ⟨?_, ha w (List.mem_of_getElem? hx)⟩
    rw [e1]
    simp [List.getElem?_append, hlt]
    exact (List.getElem?_eq_some_iff.mp hx).2
theorem mm_Lc.pad {la : Array Slot} {n : Nat} {as : List Value} (h : mm_Lc la n (as.map some)) : mm_Lc la n (mm_ent as n) := by
  refine ⟨h.1, h.2.1, fun i v hv => h.2.2 i v ?_⟩
  unfold mm_ent at hv
  by_cases hi : i < (as.map some).length
  · rw [List.getElem?_append_left hi] at hv
    exact hv
  · rw [List.getElem?_append_right (Nat.le_of_not_lt hi)] at hv
    have hm := List.mem_of_getElem? hv
    have h9 := List.eq_of_mem_replicate hm
    cases h9
