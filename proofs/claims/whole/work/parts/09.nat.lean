/-! Branch rows over numbers, printed by wip/whole/gen_nat.py -/
/-- a number or none -/
def mm_enc (o : Option Nat) : Int32 := match o with
  | none => -1
  | some n => nI n
def mm_bI (b : Bool) : Int32 := if b then 1 else 0
def mm_sm (o : Option Nat) : Prop := ∀ n, o = some n → n < 2 ^ 31
theorem mm_sm_none : mm_sm none := fun n h => nomatch h
theorem mm_sm_some {k : Nat} (h : k < 2 ^ 31) : mm_sm (some k) := fun n e => by cases e; exact h
theorem mm_neg_ne {n : Nat} (h : n < 2 ^ 31) : ¬ nI n = -1 := by
  intro e
  have h1 := congrArg Int32.toInt e
  rw [nI_toInt h] at h1
  have h2 : (-1 : Int32).toInt = -1 := by decide
  omega
theorem mm_enc_none {o : Option Nat} (hs : mm_sm o) : mm_enc o = -1 ↔ o = none := by
  cases o with
  | none => exact ⟨fun _ => rfl, fun _ => rfl⟩
  | some n => exact ⟨fun e => absurd e (mm_neg_ne (hs n rfl)), fun e => nomatch e⟩
theorem mm_enc_some {o : Option Nat} {k : Nat} (hs : mm_sm o) (hk : k < 2 ^ 31) : mm_enc o = nI k ↔ o = some k := by
  cases o with
  | none => exact ⟨fun e => absurd e.symm (mm_neg_ne hk), fun e => nomatch e⟩
  | some n => exact ⟨fun e => by rw [(nI_eq (hs n rfl) hk).mp e], fun e => by cases e; rfl⟩
theorem mm_enc_eq {o o' : Option Nat} (hs : mm_sm o) (hs' : mm_sm o') : mm_enc o = mm_enc o' ↔ o = o' := by
  cases o' with
  | none => exact mm_enc_none hs
  | some k => exact mm_enc_some hs (hs' k rfl)
theorem mm_bI_0 {b : Bool} : mm_bI b = 0 ↔ b = false := by cases b <;> decide
theorem mm_bI_narrow (b : Bool) : narrow .boolean (.int (mm_bI b)) = .int (mm_bI b) := by cases b <;> rfl
theorem mm_nI0 {a : Nat} (h : a < 2 ^ 31) : nI a = 0 ↔ a = 0 := nI_eq (b := 0) h (by decide)
theorem mm_icmp_eq_n {Γ : mm_G} {l : Launch} {M : mm_M} {d : Nat} {D : mm_D} {pc : Nat} {ls : mm_L} {st : List Value} {h : mm_H} {off : Int} {tgt : Nat} {a b : Nat} (hd : decode M.2.1 pc = .ok (.if_icmp .eq off, 3)) (ht : (pc : Int) + off = (tgt : Int)) (ha : a < 2 ^ 31) (hb : b < 2 ^ 31) (kt : a = b → mm_W Γ l M d D (tgt) ls (st) h) (kf : ¬ a = b → mm_W Γ l M d D (pc + 3) ls (st) h) : mm_W Γ l M d D (pc) ls (.int (nI b) :: .int (nI a) :: st) h :=
  mm_icmp_eq hd ht (fun q => kt ((nI_eq ha hb).mp q)) (fun q => kf (fun w => q ((nI_eq ha hb).mpr w)))
theorem mm_icmp_ne_n {Γ : mm_G} {l : Launch} {M : mm_M} {d : Nat} {D : mm_D} {pc : Nat} {ls : mm_L} {st : List Value} {h : mm_H} {off : Int} {tgt : Nat} {a b : Nat} (hd : decode M.2.1 pc = .ok (.if_icmp .ne off, 3)) (ht : (pc : Int) + off = (tgt : Int)) (ha : a < 2 ^ 31) (hb : b < 2 ^ 31) (kt : ¬ a = b → mm_W Γ l M d D (tgt) ls (st) h) (kf : a = b → mm_W Γ l M d D (pc + 3) ls (st) h) : mm_W Γ l M d D (pc) ls (.int (nI b) :: .int (nI a) :: st) h :=
  mm_icmp_ne hd ht (fun q => kt (fun w => q ((nI_eq ha hb).mpr w))) (fun q => kf ((nI_eq ha hb).mp q))
theorem mm_icmp_lt_n {Γ : mm_G} {l : Launch} {M : mm_M} {d : Nat} {D : mm_D} {pc : Nat} {ls : mm_L} {st : List Value} {h : mm_H} {off : Int} {tgt : Nat} {a b : Nat} (hd : decode M.2.1 pc = .ok (.if_icmp .lt off, 3)) (ht : (pc : Int) + off = (tgt : Int)) (ha : a < 2 ^ 31) (hb : b < 2 ^ 31) (kt : a < b → mm_W Γ l M d D (tgt) ls (st) h) (kf : b ≤ a → mm_W Γ l M d D (pc + 3) ls (st) h) : mm_W Γ l M d D (pc) ls (.int (nI b) :: .int (nI a) :: st) h :=
  mm_icmp_lt hd ht (fun q => kt ((nI_ltI ha hb).mp q)) (fun q => kf (Nat.le_of_not_lt fun w => q ((nI_ltI ha hb).mpr w)))
theorem mm_icmp_ge_n {Γ : mm_G} {l : Launch} {M : mm_M} {d : Nat} {D : mm_D} {pc : Nat} {ls : mm_L} {st : List Value} {h : mm_H} {off : Int} {tgt : Nat} {a b : Nat} (hd : decode M.2.1 pc = .ok (.if_icmp .ge off, 3)) (ht : (pc : Int) + off = (tgt : Int)) (ha : a < 2 ^ 31) (hb : b < 2 ^ 31) (kt : b ≤ a → mm_W Γ l M d D (tgt) ls (st) h) (kf : a < b → mm_W Γ l M d D (pc + 3) ls (st) h) : mm_W Γ l M d D (pc) ls (.int (nI b) :: .int (nI a) :: st) h :=
  mm_icmp_ge hd ht (fun q => kt ((nI_leI hb ha).mp q)) (fun q => kf (Nat.lt_of_not_le fun w => q ((nI_leI hb ha).mpr w)))
theorem mm_icmp_gt_n {Γ : mm_G} {l : Launch} {M : mm_M} {d : Nat} {D : mm_D} {pc : Nat} {ls : mm_L} {st : List Value} {h : mm_H} {off : Int} {tgt : Nat} {a b : Nat} (hd : decode M.2.1 pc = .ok (.if_icmp .gt off, 3)) (ht : (pc : Int) + off = (tgt : Int)) (ha : a < 2 ^ 31) (hb : b < 2 ^ 31) (kt : b < a → mm_W Γ l M d D (tgt) ls (st) h) (kf : a ≤ b → mm_W Γ l M d D (pc + 3) ls (st) h) : mm_W Γ l M d D (pc) ls (.int (nI b) :: .int (nI a) :: st) h :=
  mm_icmp_gt hd ht (fun q => kt ((nI_ltI hb ha).mp q)) (fun q => kf (Nat.le_of_not_lt fun w => q ((nI_ltI hb ha).mpr w)))
theorem mm_icmp_le_n {Γ : mm_G} {l : Launch} {M : mm_M} {d : Nat} {D : mm_D} {pc : Nat} {ls : mm_L} {st : List Value} {h : mm_H} {off : Int} {tgt : Nat} {a b : Nat} (hd : decode M.2.1 pc = .ok (.if_icmp .le off, 3)) (ht : (pc : Int) + off = (tgt : Int)) (ha : a < 2 ^ 31) (hb : b < 2 ^ 31) (kt : a ≤ b → mm_W Γ l M d D (tgt) ls (st) h) (kf : b < a → mm_W Γ l M d D (pc + 3) ls (st) h) : mm_W Γ l M d D (pc) ls (.int (nI b) :: .int (nI a) :: st) h :=
  mm_icmp_le hd ht (fun q => kt ((nI_leI ha hb).mp q)) (fun q => kf (Nat.lt_of_not_le fun w => q ((nI_leI ha hb).mpr w)))
theorem mm_if_eq_n {Γ : mm_G} {l : Launch} {M : mm_M} {d : Nat} {D : mm_D} {pc : Nat} {ls : mm_L} {st : List Value} {h : mm_H} {off : Int} {tgt : Nat} {a : Nat} (hd : decode M.2.1 pc = .ok (.ifCond .eq off, 3)) (ht : (pc : Int) + off = (tgt : Int)) (ha : a < 2 ^ 31) (kt : a = 0 → mm_W Γ l M d D (tgt) ls (st) h) (kf : ¬ a = 0 → mm_W Γ l M d D (pc + 3) ls (st) h) : mm_W Γ l M d D (pc) ls (.int (nI a) :: st) h :=
  mm_if_eq hd ht (fun q => kt ((mm_nI0 ha).mp q)) (fun q => kf (fun w => q ((mm_nI0 ha).mpr w)))
theorem mm_if_ne_n {Γ : mm_G} {l : Launch} {M : mm_M} {d : Nat} {D : mm_D} {pc : Nat} {ls : mm_L} {st : List Value} {h : mm_H} {off : Int} {tgt : Nat} {a : Nat} (hd : decode M.2.1 pc = .ok (.ifCond .ne off, 3)) (ht : (pc : Int) + off = (tgt : Int)) (ha : a < 2 ^ 31) (kt : ¬ a = 0 → mm_W Γ l M d D (tgt) ls (st) h) (kf : a = 0 → mm_W Γ l M d D (pc + 3) ls (st) h) : mm_W Γ l M d D (pc) ls (.int (nI a) :: st) h :=
  mm_if_ne hd ht (fun q => kt (fun w => q ((mm_nI0 ha).mpr w))) (fun q => kf ((mm_nI0 ha).mp q))
theorem mm_if_gt_n {Γ : mm_G} {l : Launch} {M : mm_M} {d : Nat} {D : mm_D} {pc : Nat} {ls : mm_L} {st : List Value} {h : mm_H} {off : Int} {tgt : Nat} {a : Nat} (hd : decode M.2.1 pc = .ok (.ifCond .gt off, 3)) (ht : (pc : Int) + off = (tgt : Int)) (ha : a < 2 ^ 31) (kt : 0 < a → mm_W Γ l M d D (tgt) ls (st) h) (kf : a = 0 → mm_W Γ l M d D (pc + 3) ls (st) h) : mm_W Γ l M d D (pc) ls (.int (nI a) :: st) h :=
  mm_if_gt hd ht (fun q => kt ((nI_ltI (a := 0) (by decide) ha).mp q)) (fun q => kf (Nat.le_zero.mp (Nat.le_of_not_lt fun w => q ((nI_ltI (a := 0) (by decide) ha).mpr w))))
theorem mm_if_le_n {Γ : mm_G} {l : Launch} {M : mm_M} {d : Nat} {D : mm_D} {pc : Nat} {ls : mm_L} {st : List Value} {h : mm_H} {off : Int} {tgt : Nat} {a : Nat} (hd : decode M.2.1 pc = .ok (.ifCond .le off, 3)) (ht : (pc : Int) + off = (tgt : Int)) (ha : a < 2 ^ 31) (kt : a = 0 → mm_W Γ l M d D (tgt) ls (st) h) (kf : 0 < a → mm_W Γ l M d D (pc + 3) ls (st) h) : mm_W Γ l M d D (pc) ls (.int (nI a) :: st) h :=
  mm_if_le hd ht (fun q => kt (Nat.le_zero.mp ((nI_leI (b := 0) ha (by decide)).mp q))) (fun q => kf (Nat.lt_of_not_le fun w => q ((nI_leI (b := 0) ha (by decide)).mpr w)))
theorem mm_if_eq_b {Γ : mm_G} {l : Launch} {M : mm_M} {d : Nat} {D : mm_D} {pc : Nat} {ls : mm_L} {st : List Value} {h : mm_H} {off : Int} {tgt : Nat} {b : Bool} (hd : decode M.2.1 pc = .ok (.ifCond .eq off, 3)) (ht : (pc : Int) + off = (tgt : Int))  (kt : b = false → mm_W Γ l M d D (tgt) ls (st) h) (kf : b = true → mm_W Γ l M d D (pc + 3) ls (st) h) : mm_W Γ l M d D (pc) ls (.int (mm_bI b) :: st) h :=
  mm_if_eq hd ht (fun q => kt (mm_bI_0.mp q)) (fun q => kf ((by cases b with | true => rfl | false => exact absurd rfl q)))
theorem mm_if_ne_b {Γ : mm_G} {l : Launch} {M : mm_M} {d : Nat} {D : mm_D} {pc : Nat} {ls : mm_L} {st : List Value} {h : mm_H} {off : Int} {tgt : Nat} {b : Bool} (hd : decode M.2.1 pc = .ok (.ifCond .ne off, 3)) (ht : (pc : Int) + off = (tgt : Int))  (kt : b = true → mm_W Γ l M d D (tgt) ls (st) h) (kf : b = false → mm_W Γ l M d D (pc + 3) ls (st) h) : mm_W Γ l M d D (pc) ls (.int (mm_bI b) :: st) h :=
  mm_if_ne hd ht (fun q => kt ((by cases b with | true => rfl | false => exact absurd rfl q))) (fun q => kf (mm_bI_0.mp q))
theorem mm_icmp_eq_o {Γ : mm_G} {l : Launch} {M : mm_M} {d : Nat} {D : mm_D} {pc : Nat} {ls : mm_L} {st : List Value} {h : mm_H} {off : Int} {tgt : Nat} {o : Option Nat} (hd : decode M.2.1 pc = .ok (.if_icmp .eq off, 3)) (ht : (pc : Int) + off = (tgt : Int)) (hs : mm_sm o) (kt : o = none → mm_W Γ l M d D (tgt) ls (st) h) (kf : ¬ o = none → mm_W Γ l M d D (pc + 3) ls (st) h) : mm_W Γ l M d D (pc) ls (.int (-1) :: .int (mm_enc o) :: st) h :=
  mm_icmp_eq hd ht (fun q => kt ((mm_enc_none hs).mp q)) (fun q => kf (fun w => q ((mm_enc_none hs).mpr w)))
theorem mm_icmp_eq_k {Γ : mm_G} {l : Launch} {M : mm_M} {d : Nat} {D : mm_D} {pc : Nat} {ls : mm_L} {st : List Value} {h : mm_H} {off : Int} {tgt : Nat} {o : Option Nat} {k : Nat} (hd : decode M.2.1 pc = .ok (.if_icmp .eq off, 3)) (ht : (pc : Int) + off = (tgt : Int)) (hs : mm_sm o) (hk : k < 2 ^ 31) (kt : o = some k → mm_W Γ l M d D (tgt) ls (st) h) (kf : ¬ o = some k → mm_W Γ l M d D (pc + 3) ls (st) h) : mm_W Γ l M d D (pc) ls (.int (nI k) :: .int (mm_enc o) :: st) h :=
  mm_icmp_eq hd ht (fun q => kt ((mm_enc_some hs hk).mp q)) (fun q => kf (fun w => q ((mm_enc_some hs hk).mpr w)))
theorem mm_icmp_eq_e {Γ : mm_G} {l : Launch} {M : mm_M} {d : Nat} {D : mm_D} {pc : Nat} {ls : mm_L} {st : List Value} {h : mm_H} {off : Int} {tgt : Nat} {o o' : Option Nat} (hd : decode M.2.1 pc = .ok (.if_icmp .eq off, 3)) (ht : (pc : Int) + off = (tgt : Int)) (hs : mm_sm o) (hs' : mm_sm o') (kt : o = o' → mm_W Γ l M d D (tgt) ls (st) h) (kf : ¬ o = o' → mm_W Γ l M d D (pc + 3) ls (st) h) : mm_W Γ l M d D (pc) ls (.int (mm_enc o') :: .int (mm_enc o) :: st) h :=
  mm_icmp_eq hd ht (fun q => kt ((mm_enc_eq hs hs').mp q)) (fun q => kf (fun w => q ((mm_enc_eq hs hs').mpr w)))
theorem mm_icmp_eq_r {Γ : mm_G} {l : Launch} {M : mm_M} {d : Nat} {D : mm_D} {pc : Nat} {ls : mm_L} {st : List Value} {h : mm_H} {off : Int} {tgt : Nat} {o : Option Nat} {k : Nat} (hd : decode M.2.1 pc = .ok (.if_icmp .eq off, 3)) (ht : (pc : Int) + off = (tgt : Int)) (hs : mm_sm o) (hk : k < 2 ^ 31) (kt : o = some k → mm_W Γ l M d D (tgt) ls (st) h) (kf : ¬ o = some k → mm_W Γ l M d D (pc + 3) ls (st) h) : mm_W Γ l M d D (pc) ls (.int (mm_enc o) :: .int (nI k) :: st) h :=
  mm_icmp_eq hd ht (fun q => kt ((mm_enc_some hs hk).mp q.symm)) (fun q => kf (fun w => q ((mm_enc_some hs hk).mpr w).symm))
theorem mm_icmp_ne_o {Γ : mm_G} {l : Launch} {M : mm_M} {d : Nat} {D : mm_D} {pc : Nat} {ls : mm_L} {st : List Value} {h : mm_H} {off : Int} {tgt : Nat} {o : Option Nat} (hd : decode M.2.1 pc = .ok (.if_icmp .ne off, 3)) (ht : (pc : Int) + off = (tgt : Int)) (hs : mm_sm o) (kt : ¬ o = none → mm_W Γ l M d D (tgt) ls (st) h) (kf : o = none → mm_W Γ l M d D (pc + 3) ls (st) h) : mm_W Γ l M d D (pc) ls (.int (-1) :: .int (mm_enc o) :: st) h :=
  mm_icmp_ne hd ht (fun q => kt (fun w => q ((mm_enc_none hs).mpr w))) (fun q => kf ((mm_enc_none hs).mp q))
theorem mm_icmp_ne_k {Γ : mm_G} {l : Launch} {M : mm_M} {d : Nat} {D : mm_D} {pc : Nat} {ls : mm_L} {st : List Value} {h : mm_H} {off : Int} {tgt : Nat} {o : Option Nat} {k : Nat} (hd : decode M.2.1 pc = .ok (.if_icmp .ne off, 3)) (ht : (pc : Int) + off = (tgt : Int)) (hs : mm_sm o) (hk : k < 2 ^ 31) (kt : ¬ o = some k → mm_W Γ l M d D (tgt) ls (st) h) (kf : o = some k → mm_W Γ l M d D (pc + 3) ls (st) h) : mm_W Γ l M d D (pc) ls (.int (nI k) :: .int (mm_enc o) :: st) h :=
  mm_icmp_ne hd ht (fun q => kt (fun w => q ((mm_enc_some hs hk).mpr w))) (fun q => kf ((mm_enc_some hs hk).mp q))
theorem mm_icmp_ne_e {Γ : mm_G} {l : Launch} {M : mm_M} {d : Nat} {D : mm_D} {pc : Nat} {ls : mm_L} {st : List Value} {h : mm_H} {off : Int} {tgt : Nat} {o o' : Option Nat} (hd : decode M.2.1 pc = .ok (.if_icmp .ne off, 3)) (ht : (pc : Int) + off = (tgt : Int)) (hs : mm_sm o) (hs' : mm_sm o') (kt : ¬ o = o' → mm_W Γ l M d D (tgt) ls (st) h) (kf : o = o' → mm_W Γ l M d D (pc + 3) ls (st) h) : mm_W Γ l M d D (pc) ls (.int (mm_enc o') :: .int (mm_enc o) :: st) h :=
  mm_icmp_ne hd ht (fun q => kt (fun w => q ((mm_enc_eq hs hs').mpr w))) (fun q => kf ((mm_enc_eq hs hs').mp q))
theorem mm_icmp_ne_r {Γ : mm_G} {l : Launch} {M : mm_M} {d : Nat} {D : mm_D} {pc : Nat} {ls : mm_L} {st : List Value} {h : mm_H} {off : Int} {tgt : Nat} {o : Option Nat} {k : Nat} (hd : decode M.2.1 pc = .ok (.if_icmp .ne off, 3)) (ht : (pc : Int) + off = (tgt : Int)) (hs : mm_sm o) (hk : k < 2 ^ 31) (kt : ¬ o = some k → mm_W Γ l M d D (tgt) ls (st) h) (kf : o = some k → mm_W Γ l M d D (pc + 3) ls (st) h) : mm_W Γ l M d D (pc) ls (.int (mm_enc o) :: .int (nI k) :: st) h :=
  mm_icmp_ne hd ht (fun q => kt (fun w => q ((mm_enc_some hs hk).mpr w).symm)) (fun q => kf ((mm_enc_some hs hk).mp q.symm))
section MMcong
variable {Γ : mm_G} {l : Launch} {M : mm_M} {d : Nat} {D : mm_D} {pc : Nat} {ls : mm_L} {st : List Value} {h : mm_H}
theorem mm_arr_eq (cA : ClassId) {n : Nat} {f g : Nat → Value} (hf : ∀ i, i < n → f i = g i) : arrV cA n f = arrV cA n g := by
  unfold arrV
  congr 1
  exact congrArg Array.ofFn (funext fun i => hf i.1 i.2)
/-- an array's picture matters within its length alone -/
theorem mm_cong {a t n : Nat} {f g : Nat → Int32} (ha : h.2.2 a = some (.inl (t, n, .inl f))) (hf : ∀ i, i < n → f i = g i) (k : mm_W Γ l M d D pc ls st (mm_up h a (.inl (t, n, .inl g)))) : mm_W Γ l M d D pc ls st h := by
  intro p e R s m args below meth c u0 hC H locs cells slots la hr hl hq h1 h2
  refine k p e R s m args below meth c u0 hC H locs cells slots la (hr.set ha ?_ rfl (fun _ _ => rfl)) hl hq h1 h2
  have h9 := (hr.2.1 a _ ha).2
  show H[a]? = some (vp_cell _ _)
  rw [vp_cell_i]
  have h8 : H[a]? = some (arrV (Γ.2.1 t) n (fun j => .int (f j))) := h9
  rw [h8, mm_arr_eq (Γ.2.1 t) (f := fun j => .int (f j)) (g := fun j => .int (g j)) (fun i hi => by rw [hf i hi])]
/-- the same picture, spelled otherwise -/
theorem mm_eqh {h' : mm_H} (e : h' = h) (k : mm_W Γ l M d D pc ls st h') : mm_W Γ l M d D pc ls st h := e ▸ k
/-- the value on top, spelled otherwise -/
theorem mm_top {v v' : Value} (e : v = v') (k : mm_W Γ l M d D pc ls (v' :: st) h) : mm_W Γ l M d D pc ls (v :: st) h := by rw [e]; exact k
end MMcong
theorem mm_up_up (h : mm_H) (a : Nat) (x y : mm_E) : mm_up (mm_up h a x) a y = mm_up h a y := by
  unfold mm_up
  refine Prod.ext rfl (Prod.ext rfl (funext fun q => ?_))
  by_cases hq : q = a <;> simp [hq]
theorem mm_up_comm (h : mm_H) {a b : Nat} (x y : mm_E) (hab : a ≠ b) : mm_up (mm_up h a x) b y = mm_up (mm_up h b y) a x := by
  unfold mm_up
  refine Prod.ext rfl (Prod.ext rfl (funext fun q => ?_))
  by_cases h1 : q = a
  · by_cases h2 : q = b
    · exact absurd (h1.symm.trans h2) hab
    · simp [h1, hab]
  · by_cases h2 : q = b
    · have h3 : ¬ b = a := fun e => hab e.symm
      simp [h2, h3]
    · simp [h1, h2]
theorem mm_up_same (h : mm_H) {a : Nat} {x : mm_E} (hx : h.2.2 a = some x) : mm_up h a x = h := by
  unfold mm_up
  refine Prod.ext rfl (Prod.ext rfl (funext fun q => ?_))
  by_cases hq : q = a
  · simp [hq, hx]
  · simp [hq]
theorem mm_up_at (h : mm_H) (a : Nat) (x : mm_E) : (mm_up h a x).2.2 a = some x := by simp [mm_up]
theorem mm_up_ne (h : mm_H) {a b : Nat} (x : mm_E) (hab : b ≠ a) : (mm_up h a x).2.2 b = h.2.2 b := by simp [mm_up, hab]
