/-! The law's calls of the class. Printed by wip/whole/spec/w1.py -/
section KW1
variable {Γ : mm_G} {l : Launch} {d : Nat} {h : mm_H} {x a : Nat} {R : kc_R} {f : Nat → Int64} {fs : List Value}
theorem kW_cut (hax : a < x ∨ x + 166 ≤ a) (hx : h.2.2 x = some (.inr (4, fs))) (ho : h.2.2 a = some (kw_out f)) (n0 : Int32) (hR : (∃ y : Int32, R.1 = .inl (some (.int y))) ∨ (R.1 = .inr 0 ∨ R.1 = .inr 1 ∨ R.1 = .inr 2)) (hE : mm_Ev Γ l d mC_cut [.ref x, .int n0] h (kc_D x h R)) : mm_Ev Γ l (d + 1) mL_cut [.ref x, .int n0, .ref a] h (kw_D (fun k => k + 1) x a h R) := by
  show mm_W Γ l mL_cut (d + 1) _ 0 [some (.ref x), some (.int n0), some (.ref a), none] [] _
  refine mm_aload_n dL_cut_0 rfl rfl ?_
  refine mm_iconst (v := nI 0) dL_cut_1 (by decide) ?_
  refine mm_aload_n dL_cut_2 rfl rfl ?_
  refine mm_iload_n dL_cut_3 rfl rfl ?_
  refine mm_callv (as := [.int n0]) (rest := [.int (nI 0), .ref a]) dL_cut_4 lL_7 hx rfl (fun v hv => by simp only [List.mem_cons, List.not_mem_nil, or_false] at hv; subst hv; rfl) (Nat.le_of_ble_eq_true rfl) (Nat.le_of_ble_eq_true rfl) hE ?_ ?_
  · rintro v g ⟨e, k1, k2⟩
    obtain ⟨y, e2⟩ : ∃ y : Int32, v = some (.int y) := by
      rcases hR with ⟨y, w⟩ | w | w | w
      · rw [← e] at w; cases w; exact ⟨y, rfl⟩
      · rw [← e] at w; cases w
      · rw [← e] at w; cases w
      · rw [← e] at w; cases w
    subst e2
    refine mm_i2l dL_cut_7 ?_
    refine mm_lastore dL_cut_8 ((k2.1 a hax).trans ho) rfl (by decide) (by decide) ?_
    refine mm_goto (tgt := 21) dL_cut_9 (by decide) ?_
    refine mm_iconst (v := nI 0) dL_cut_21 (by decide) ?_
    refine mm_ireturn dL_cut_22 rfl ?_
    exact kw_ret hax e.symm rfl k1 k2
  · rintro k g ⟨e, k1, k2⟩
    have e2 : k = 0 ∨ k = 1 ∨ k = 2 := by
      rcases hR with ⟨y, w⟩ | w | w | w
      · rw [← e] at w; cases w
      · rw [← e] at w; cases w; exact (Or.inl rfl)
      · rw [← e] at w; cases w; exact Or.inr (Or.inl rfl)
      · rw [← e] at w; cases w; exact Or.inr (Or.inr rfl)
    rcases e2 with rfl | rfl | rfl
    · refine mm_catch (j := 0) (pre := []) (suf := [(0, 9, 15, 15), (0, 9, 18, 17)]) rfl (fun z hz => nomatch hz) (by decide) (by decide) xL_13 kw_c0 (fun y => ?_)
      refine mm_astore_n dL_cut_12 rfl (by decide) rfl ?_
      refine mm_iconst (v := nI 1) dL_cut_13 (by decide) ?_
      refine mm_ireturn dL_cut_14 rfl ?_
      exact kw_thr hax ho e.symm k1 k2
    · refine mm_catch (j := 1) (pre := [(0, 9, 12, 13)]) (suf := [(0, 9, 18, 17)]) rfl (fun z hz => by
          simp only [List.mem_cons, List.not_mem_nil, or_false] at hz
          subst hz; exact ⟨by decide, 0, xL_13, by decide⟩) (by decide) (by decide) xL_15 kw_c1 (fun y => ?_)
      refine mm_astore_n dL_cut_15 rfl (by decide) rfl ?_
      refine mm_iconst (v := nI 2) dL_cut_16 (by decide) ?_
      refine mm_ireturn dL_cut_17 rfl ?_
      exact kw_thr hax ho e.symm k1 k2
    · refine mm_catch (j := 2) (pre := [(0, 9, 12, 13), (0, 9, 15, 15)]) (suf := []) rfl (fun z hz => by
          simp only [List.mem_cons, List.not_mem_nil, or_false] at hz
          rcases hz with rfl | rfl
          · exact ⟨by decide, 0, xL_13, by decide⟩
          · exact ⟨by decide, 1, xL_15, by decide⟩) (by decide) (by decide) xL_17 kw_c2 (fun y => ?_)
      refine mm_astore_n dL_cut_18 rfl (by decide) rfl ?_
      refine mm_iconst (v := nI 3) dL_cut_19 (by decide) ?_
      refine mm_ireturn dL_cut_20 rfl ?_
      exact kw_thr hax ho e.symm k1 k2
theorem kW_line (hax : a < x ∨ x + 166 ≤ a) (hx : h.2.2 x = some (.inr (4, fs))) (ho : h.2.2 a = some (kw_out f)) (n0 : Int32) (hR : (∃ y : Int32, R.1 = .inl (some (.int y))) ∨ (R.1 = .inr 0 ∨ R.1 = .inr 1 ∨ R.1 = .inr 2)) (hE : mm_Ev Γ l d mC_line [.ref x, .int n0] h (kc_D x h R)) : mm_Ev Γ l (d + 1) mL_line [.ref x, .int n0, .ref a] h (kw_D (fun k => k + 1) x a h R) := by
  show mm_W Γ l mL_line (d + 1) _ 0 [some (.ref x), some (.int n0), some (.ref a), none] [] _
  refine mm_aload_n dL_line_0 rfl rfl ?_
  refine mm_iconst (v := nI 0) dL_line_1 (by decide) ?_
  refine mm_aload_n dL_line_2 rfl rfl ?_
  refine mm_iload_n dL_line_3 rfl rfl ?_
  refine mm_callv (as := [.int n0]) (rest := [.int (nI 0), .ref a]) dL_line_4 lL_19 hx rfl (fun v hv => by simp only [List.mem_cons, List.not_mem_nil, or_false] at hv; subst hv; rfl) (Nat.le_of_ble_eq_true rfl) (Nat.le_of_ble_eq_true rfl) hE ?_ ?_
  · rintro v g ⟨e, k1, k2⟩
    obtain ⟨y, e2⟩ : ∃ y : Int32, v = some (.int y) := by
      rcases hR with ⟨y, w⟩ | w | w | w
      · rw [← e] at w; cases w; exact ⟨y, rfl⟩
      · rw [← e] at w; cases w
      · rw [← e] at w; cases w
      · rw [← e] at w; cases w
    subst e2
    refine mm_i2l dL_line_7 ?_
    refine mm_lastore dL_line_8 ((k2.1 a hax).trans ho) rfl (by decide) (by decide) ?_
    refine mm_goto (tgt := 21) dL_line_9 (by decide) ?_
    refine mm_iconst (v := nI 0) dL_line_21 (by decide) ?_
    refine mm_ireturn dL_line_22 rfl ?_
    exact kw_ret hax e.symm rfl k1 k2
  · rintro k g ⟨e, k1, k2⟩
    have e2 : k = 0 ∨ k = 1 ∨ k = 2 := by
      rcases hR with ⟨y, w⟩ | w | w | w
      · rw [← e] at w; cases w
      · rw [← e] at w; cases w; exact (Or.inl rfl)
      · rw [← e] at w; cases w; exact Or.inr (Or.inl rfl)
      · rw [← e] at w; cases w; exact Or.inr (Or.inr rfl)
    rcases e2 with rfl | rfl | rfl
    · refine mm_catch (j := 0) (pre := []) (suf := [(0, 9, 15, 15), (0, 9, 18, 17)]) rfl (fun z hz => nomatch hz) (by decide) (by decide) xL_13 kw_c0 (fun y => ?_)
      refine mm_astore_n dL_line_12 rfl (by decide) rfl ?_
      refine mm_iconst (v := nI 1) dL_line_13 (by decide) ?_
      refine mm_ireturn dL_line_14 rfl ?_
      exact kw_thr hax ho e.symm k1 k2
    · refine mm_catch (j := 1) (pre := [(0, 9, 12, 13)]) (suf := [(0, 9, 18, 17)]) rfl (fun z hz => by
          simp only [List.mem_cons, List.not_mem_nil, or_false] at hz
          subst hz; exact ⟨by decide, 0, xL_13, by decide⟩) (by decide) (by decide) xL_15 kw_c1 (fun y => ?_)
      refine mm_astore_n dL_line_15 rfl (by decide) rfl ?_
      refine mm_iconst (v := nI 2) dL_line_16 (by decide) ?_
      refine mm_ireturn dL_line_17 rfl ?_
      exact kw_thr hax ho e.symm k1 k2
    · refine mm_catch (j := 2) (pre := [(0, 9, 12, 13), (0, 9, 15, 15)]) (suf := []) rfl (fun z hz => by
          simp only [List.mem_cons, List.not_mem_nil, or_false] at hz
          rcases hz with rfl | rfl
          · exact ⟨by decide, 0, xL_13, by decide⟩
          · exact ⟨by decide, 1, xL_15, by decide⟩) (by decide) (by decide) xL_17 kw_c2 (fun y => ?_)
      refine mm_astore_n dL_line_18 rfl (by decide) rfl ?_
      refine mm_iconst (v := nI 3) dL_line_19 (by decide) ?_
      refine mm_ireturn dL_line_20 rfl ?_
      exact kw_thr hax ho e.symm k1 k2
theorem kW_spot (hax : a < x ∨ x + 166 ≤ a) (hx : h.2.2 x = some (.inr (4, fs))) (ho : h.2.2 a = some (kw_out f)) (n0 n1 n2 n3 : Int32) (hR : (∃ y : Int32, R.1 = .inl (some (.int y))) ∨ (R.1 = .inr 0 ∨ R.1 = .inr 1 ∨ R.1 = .inr 2)) (hE : mm_Ev Γ l d mC_spot [.ref x, .int n0, .int n1, .int n2, .int n3] h (kc_D x h R)) : mm_Ev Γ l (d + 1) mL_spot [.ref x, .int n0, .int n1, .int n2, .int n3, .ref a] h (kw_D (fun k => k + 1) x a h R) := by
  show mm_W Γ l mL_spot (d + 1) _ 0 [some (.ref x), some (.int n0), some (.int n1), some (.int n2), some (.int n3), some (.ref a), none] [] _
  refine mm_aload dL_spot_0 rfl ?_
  refine mm_iconst (v := nI 0) dL_spot_2 (by decide) ?_
  refine mm_aload_n dL_spot_3 rfl rfl ?_
  refine mm_iload_n dL_spot_4 rfl rfl ?_
  refine mm_iload_n dL_spot_5 rfl rfl ?_
  refine mm_iload_n dL_spot_6 rfl rfl ?_
  refine mm_iload dL_spot_7 rfl ?_
  refine mm_callv (as := [.int n0, .int n1, .int n2, .int n3]) (rest := [.int (nI 0), .ref a]) dL_spot_9 lL_22 hx rfl (fun v hv => by simp only [List.mem_cons, List.not_mem_nil, or_false] at hv; rcases hv with rfl | rfl | rfl | rfl <;> rfl) (Nat.le_of_ble_eq_true rfl) (Nat.le_of_ble_eq_true rfl) hE ?_ ?_
  · rintro v g ⟨e, k1, k2⟩
    obtain ⟨y, e2⟩ : ∃ y : Int32, v = some (.int y) := by
      rcases hR with ⟨y, w⟩ | w | w | w
      · rw [← e] at w; cases w; exact ⟨y, rfl⟩
      · rw [← e] at w; cases w
      · rw [← e] at w; cases w
      · rw [← e] at w; cases w
    subst e2
    refine mm_i2l dL_spot_12 ?_
    refine mm_lastore dL_spot_13 ((k2.1 a hax).trans ho) rfl (by decide) (by decide) ?_
    refine mm_goto (tgt := 29) dL_spot_14 (by decide) ?_
    refine mm_iconst (v := nI 0) dL_spot_29 (by decide) ?_
    refine mm_ireturn dL_spot_30 rfl ?_
    exact kw_ret hax e.symm rfl k1 k2
  · rintro k g ⟨e, k1, k2⟩
    have e2 : k = 0 ∨ k = 1 ∨ k = 2 := by
      rcases hR with ⟨y, w⟩ | w | w | w
      · rw [← e] at w; cases w
      · rw [← e] at w; cases w; exact (Or.inl rfl)
      · rw [← e] at w; cases w; exact Or.inr (Or.inl rfl)
      · rw [← e] at w; cases w; exact Or.inr (Or.inr rfl)
    rcases e2 with rfl | rfl | rfl
    · refine mm_catch (j := 0) (pre := []) (suf := [(0, 14, 21, 15), (0, 14, 25, 17)]) rfl (fun z hz => nomatch hz) (by decide) (by decide) xL_13 kw_c0 (fun y => ?_)
      refine mm_astore dL_spot_17 (by decide) rfl ?_
      refine mm_iconst (v := nI 1) dL_spot_19 (by decide) ?_
      refine mm_ireturn dL_spot_20 rfl ?_
      exact kw_thr hax ho e.symm k1 k2
    · refine mm_catch (j := 1) (pre := [(0, 14, 17, 13)]) (suf := [(0, 14, 25, 17)]) rfl (fun z hz => by
          simp only [List.mem_cons, List.not_mem_nil, or_false] at hz
          subst hz; exact ⟨by decide, 0, xL_13, by decide⟩) (by decide) (by decide) xL_15 kw_c1 (fun y => ?_)
      refine mm_astore dL_spot_21 (by decide) rfl ?_
      refine mm_iconst (v := nI 2) dL_spot_23 (by decide) ?_
      refine mm_ireturn dL_spot_24 rfl ?_
      exact kw_thr hax ho e.symm k1 k2
    · refine mm_catch (j := 2) (pre := [(0, 14, 17, 13), (0, 14, 21, 15)]) (suf := []) rfl (fun z hz => by
          simp only [List.mem_cons, List.not_mem_nil, or_false] at hz
          rcases hz with rfl | rfl
          · exact ⟨by decide, 0, xL_13, by decide⟩
          · exact ⟨by decide, 1, xL_15, by decide⟩) (by decide) (by decide) xL_17 kw_c2 (fun y => ?_)
      refine mm_astore dL_spot_25 (by decide) rfl ?_
      refine mm_iconst (v := nI 3) dL_spot_27 (by decide) ?_
      refine mm_ireturn dL_spot_28 rfl ?_
      exact kw_thr hax ho e.symm k1 k2
theorem kW_start (hax : a < x ∨ x + 166 ≤ a) (hx : h.2.2 x = some (.inr (4, fs))) (ho : h.2.2 a = some (kw_out f)) (hR : (R.1 = .inl none) ∨ (R.1 = .inr 1)) (hE : mm_Ev Γ l d mC_start [.ref x] h (kc_D x h R)) : mm_Ev Γ l (d + 1) mL_start [.ref x] h (kw_D (fun _ => 1) x a h R) := by
  show mm_W Γ l mL_start (d + 1) _ 0 [some (.ref x), none] [] _
  refine mm_aload_n dL_start_0 rfl rfl ?_
  refine mm_callv (as := []) (rest := []) dL_start_1 lL_26 hx rfl (fun v hv => by simp only [List.mem_cons, List.not_mem_nil, or_false] at hv) (Nat.le_of_ble_eq_true rfl) (Nat.le_of_ble_eq_true rfl) hE ?_ ?_
  · rintro v g ⟨e, k1, k2⟩
    have e2 : v = none := by
      rcases hR with w | w
      · rw [← e] at w; cases w; rfl
      · rw [← e] at w; cases w
    subst e2
    refine mm_goto (tgt := 10) dL_start_4 (by decide) ?_
    refine mm_iconst (v := nI 0) dL_start_10 (by decide) ?_
    refine mm_ireturn dL_start_11 rfl ?_
    refine ⟨by rw [← e]; rfl, k1, fun q h1 _ => k2.1 q h1, ⟨k2.2.1, k2.2.2⟩, f, (k2.1 a hax).trans ho, fun y w => ?_⟩
    rw [← e] at w
    cases w
  · rintro k g ⟨e, k1, k2⟩
    have e2 : k = 1 := by
      rcases hR with w | w
      · rw [← e] at w; cases w
      · rw [← e] at w; cases w; exact rfl
    subst e2
    refine mm_catch (j := 1) (pre := []) (suf := []) rfl (fun z hz => nomatch hz) (by decide) (by decide) xL_15 kw_c1 (fun y => ?_)
    refine mm_astore_n dL_start_7 rfl (by decide) rfl ?_
    refine mm_iconst (v := nI 1) dL_start_8 (by decide) ?_
    refine mm_ireturn dL_start_9 rfl ?_
    exact kw_thr hax ho e.symm k1 k2
theorem kW_erase (hax : a < x ∨ x + 166 ≤ a) (hx : h.2.2 x = some (.inr (4, fs))) (ho : h.2.2 a = some (kw_out f)) (n0 n1 : Int32) (hR : (∃ y : Int32, R.1 = .inl (some (.int y))) ∨ (R.1 = .inr 0 ∨ R.1 = .inr 1 ∨ R.1 = .inr 2)) (hE : mm_Ev Γ l d mC_erase [.ref x, .int n0, .int n1] h (kc_D x h R)) : mm_Ev Γ l (d + 1) mL_erase [.ref x, .int n0, .int n1, .ref a] h (kw_D (fun k => k + 1) x a h R) := by
  show mm_W Γ l mL_erase (d + 1) _ 0 [some (.ref x), some (.int n0), some (.int n1), some (.ref a), none] [] _
  refine mm_aload_n dL_erase_0 rfl rfl ?_
  refine mm_iconst (v := nI 0) dL_erase_1 (by decide) ?_
  refine mm_aload_n dL_erase_2 rfl rfl ?_
  refine mm_iload_n dL_erase_3 rfl rfl ?_
  refine mm_iload_n dL_erase_4 rfl rfl ?_
  refine mm_callv (as := [.int n0, .int n1]) (rest := [.int (nI 0), .ref a]) dL_erase_5 lL_29 hx rfl (fun v hv => by simp only [List.mem_cons, List.not_mem_nil, or_false] at hv; rcases hv with rfl | rfl <;> rfl) (Nat.le_of_ble_eq_true rfl) (Nat.le_of_ble_eq_true rfl) hE ?_ ?_
  · rintro v g ⟨e, k1, k2⟩
    obtain ⟨y, e2⟩ : ∃ y : Int32, v = some (.int y) := by
      rcases hR with ⟨y, w⟩ | w | w | w
      · rw [← e] at w; cases w; exact ⟨y, rfl⟩
      · rw [← e] at w; cases w
      · rw [← e] at w; cases w
      · rw [← e] at w; cases w
    subst e2
    refine mm_i2l dL_erase_8 ?_
    refine mm_lastore dL_erase_9 ((k2.1 a hax).trans ho) rfl (by decide) (by decide) ?_
    refine mm_goto (tgt := 25) dL_erase_10 (by decide) ?_
    refine mm_iconst (v := nI 0) dL_erase_25 (by decide) ?_
    refine mm_ireturn dL_erase_26 rfl ?_
    exact kw_ret hax e.symm rfl k1 k2
  · rintro k g ⟨e, k1, k2⟩
    have e2 : k = 0 ∨ k = 1 ∨ k = 2 := by
      rcases hR with ⟨y, w⟩ | w | w | w
      · rw [← e] at w; cases w
      · rw [← e] at w; cases w; exact (Or.inl rfl)
      · rw [← e] at w; cases w; exact Or.inr (Or.inl rfl)
      · rw [← e] at w; cases w; exact Or.inr (Or.inr rfl)
    rcases e2 with rfl | rfl | rfl
    · refine mm_catch (j := 0) (pre := []) (suf := [(0, 10, 17, 15), (0, 10, 21, 17)]) rfl (fun z hz => nomatch hz) (by decide) (by decide) xL_13 kw_c0 (fun y => ?_)
      refine mm_astore dL_erase_13 (by decide) rfl ?_
      refine mm_iconst (v := nI 1) dL_erase_15 (by decide) ?_
      refine mm_ireturn dL_erase_16 rfl ?_
      exact kw_thr hax ho e.symm k1 k2
    · refine mm_catch (j := 1) (pre := [(0, 10, 13, 13)]) (suf := [(0, 10, 21, 17)]) rfl (fun z hz => by
          simp only [List.mem_cons, List.not_mem_nil, or_false] at hz
          subst hz; exact ⟨by decide, 0, xL_13, by decide⟩) (by decide) (by decide) xL_15 kw_c1 (fun y => ?_)
      refine mm_astore dL_erase_17 (by decide) rfl ?_
      refine mm_iconst (v := nI 2) dL_erase_19 (by decide) ?_
      refine mm_ireturn dL_erase_20 rfl ?_
      exact kw_thr hax ho e.symm k1 k2
    · refine mm_catch (j := 2) (pre := [(0, 10, 13, 13), (0, 10, 17, 15)]) (suf := []) rfl (fun z hz => by
          simp only [List.mem_cons, List.not_mem_nil, or_false] at hz
          rcases hz with rfl | rfl
          · exact ⟨by decide, 0, xL_13, by decide⟩
          · exact ⟨by decide, 1, xL_15, by decide⟩) (by decide) (by decide) xL_17 kw_c2 (fun y => ?_)
      refine mm_astore dL_erase_21 (by decide) rfl ?_
      refine mm_iconst (v := nI 3) dL_erase_23 (by decide) ?_
      refine mm_ireturn dL_erase_24 rfl ?_
      exact kw_thr hax ho e.symm k1 k2
theorem kW_copy (hax : a < x ∨ x + 166 ≤ a) (hx : h.2.2 x = some (.inr (4, fs))) (ho : h.2.2 a = some (kw_out f)) (n0 n1 n2 : Int32) (hR : (∃ y : Int32, R.1 = .inl (some (.int y))) ∨ (R.1 = .inr 0 ∨ R.1 = .inr 1 ∨ R.1 = .inr 2)) (hE : mm_Ev Γ l d mC_copy [.ref x, .int n0, .int n1, .int n2] h (kc_D x h R)) : mm_Ev Γ l (d + 1) mL_copy [.ref x, .int n0, .int n1, .int n2, .ref a] h (kw_D (fun k => k + 1) x a h R) := by
  show mm_W Γ l mL_copy (d + 1) _ 0 [some (.ref x), some (.int n0), some (.int n1), some (.int n2), some (.ref a), none] [] _
  refine mm_aload dL_copy_0 rfl ?_
  refine mm_iconst (v := nI 0) dL_copy_2 (by decide) ?_
  refine mm_aload_n dL_copy_3 rfl rfl ?_
  refine mm_iload_n dL_copy_4 rfl rfl ?_
  refine mm_iload_n dL_copy_5 rfl rfl ?_
  refine mm_iload_n dL_copy_6 rfl rfl ?_
  refine mm_callv (as := [.int n0, .int n1, .int n2]) (rest := [.int (nI 0), .ref a]) dL_copy_7 lL_33 hx rfl (fun v hv => by simp only [List.mem_cons, List.not_mem_nil, or_false] at hv; rcases hv with rfl | rfl | rfl <;> rfl) (Nat.le_of_ble_eq_true rfl) (Nat.le_of_ble_eq_true rfl) hE ?_ ?_
  · rintro v g ⟨e, k1, k2⟩
    obtain ⟨y, e2⟩ : ∃ y : Int32, v = some (.int y) := by
      rcases hR with ⟨y, w⟩ | w | w | w
      · rw [← e] at w; cases w; exact ⟨y, rfl⟩
      · rw [← e] at w; cases w
      · rw [← e] at w; cases w
      · rw [← e] at w; cases w
    subst e2
    refine mm_i2l dL_copy_10 ?_
    refine mm_lastore dL_copy_11 ((k2.1 a hax).trans ho) rfl (by decide) (by decide) ?_
    refine mm_goto (tgt := 27) dL_copy_12 (by decide) ?_
    refine mm_iconst (v := nI 0) dL_copy_27 (by decide) ?_
    refine mm_ireturn dL_copy_28 rfl ?_
    exact kw_ret hax e.symm rfl k1 k2
  · rintro k g ⟨e, k1, k2⟩
    have e2 : k = 0 ∨ k = 1 ∨ k = 2 := by
      rcases hR with ⟨y, w⟩ | w | w | w
      · rw [← e] at w; cases w
      · rw [← e] at w; cases w; exact (Or.inl rfl)
      · rw [← e] at w; cases w; exact Or.inr (Or.inl rfl)
      · rw [← e] at w; cases w; exact Or.inr (Or.inr rfl)
    rcases e2 with rfl | rfl | rfl
    · refine mm_catch (j := 0) (pre := []) (suf := [(0, 12, 19, 15), (0, 12, 23, 17)]) rfl (fun z hz => nomatch hz) (by decide) (by decide) xL_13 kw_c0 (fun y => ?_)
      refine mm_astore dL_copy_15 (by decide) rfl ?_
      refine mm_iconst (v := nI 1) dL_copy_17 (by decide) ?_
      refine mm_ireturn dL_copy_18 rfl ?_
      exact kw_thr hax ho e.symm k1 k2
    · refine mm_catch (j := 1) (pre := [(0, 12, 15, 13)]) (suf := [(0, 12, 23, 17)]) rfl (fun z hz => by
          simp only [List.mem_cons, List.not_mem_nil, or_false] at hz
          subst hz; exact ⟨by decide, 0, xL_13, by decide⟩) (by decide) (by decide) xL_15 kw_c1 (fun y => ?_)
      refine mm_astore dL_copy_19 (by decide) rfl ?_
      refine mm_iconst (v := nI 2) dL_copy_21 (by decide) ?_
      refine mm_ireturn dL_copy_22 rfl ?_
      exact kw_thr hax ho e.symm k1 k2
    · refine mm_catch (j := 2) (pre := [(0, 12, 15, 13), (0, 12, 19, 15)]) (suf := []) rfl (fun z hz => by
          simp only [List.mem_cons, List.not_mem_nil, or_false] at hz
          rcases hz with rfl | rfl
          · exact ⟨by decide, 0, xL_13, by decide⟩
          · exact ⟨by decide, 1, xL_15, by decide⟩) (by decide) (by decide) xL_17 kw_c2 (fun y => ?_)
      refine mm_astore dL_copy_23 (by decide) rfl ?_
      refine mm_iconst (v := nI 3) dL_copy_25 (by decide) ?_
      refine mm_ireturn dL_copy_26 rfl ?_
      exact kw_thr hax ho e.symm k1 k2
theorem kW_uncopy (hax : a < x ∨ x + 166 ≤ a) (hx : h.2.2 x = some (.inr (4, fs))) (ho : h.2.2 a = some (kw_out f)) (n0 n1 : Int32) (hR : (∃ y : Int32, R.1 = .inl (some (.int y))) ∨ (R.1 = .inr 0 ∨ R.1 = .inr 1 ∨ R.1 = .inr 2)) (hE : mm_Ev Γ l d mC_uncopy [.ref x, .int n0, .int n1] h (kc_D x h R)) : mm_Ev Γ l (d + 1) mL_uncopy [.ref x, .int n0, .int n1, .ref a] h (kw_D (fun k => k + 1) x a h R) := by
  show mm_W Γ l mL_uncopy (d + 1) _ 0 [some (.ref x), some (.int n0), some (.int n1), some (.ref a), none] [] _
  refine mm_aload_n dL_uncopy_0 rfl rfl ?_
  refine mm_iconst (v := nI 0) dL_uncopy_1 (by decide) ?_
  refine mm_aload_n dL_uncopy_2 rfl rfl ?_
  refine mm_iload_n dL_uncopy_3 rfl rfl ?_
  refine mm_iload_n dL_uncopy_4 rfl rfl ?_
  refine mm_callv (as := [.int n0, .int n1]) (rest := [.int (nI 0), .ref a]) dL_uncopy_5 lL_37 hx rfl (fun v hv => by simp only [List.mem_cons, List.not_mem_nil, or_false] at hv; rcases hv with rfl | rfl <;> rfl) (Nat.le_of_ble_eq_true rfl) (Nat.le_of_ble_eq_true rfl) hE ?_ ?_
  · rintro v g ⟨e, k1, k2⟩
    obtain ⟨y, e2⟩ : ∃ y : Int32, v = some (.int y) := by
      rcases hR with ⟨y, w⟩ | w | w | w
      · rw [← e] at w; cases w; exact ⟨y, rfl⟩
      · rw [← e] at w; cases w
      · rw [← e] at w; cases w
      · rw [← e] at w; cases w
    subst e2
    refine mm_i2l dL_uncopy_8 ?_
    refine mm_lastore dL_uncopy_9 ((k2.1 a hax).trans ho) rfl (by decide) (by decide) ?_
    refine mm_goto (tgt := 25) dL_uncopy_10 (by decide) ?_
    refine mm_iconst (v := nI 0) dL_uncopy_25 (by decide) ?_
    refine mm_ireturn dL_uncopy_26 rfl ?_
    exact kw_ret hax e.symm rfl k1 k2
  · rintro k g ⟨e, k1, k2⟩
    have e2 : k = 0 ∨ k = 1 ∨ k = 2 := by
      rcases hR with ⟨y, w⟩ | w | w | w
      · rw [← e] at w; cases w
      · rw [← e] at w; cases w; exact (Or.inl rfl)
      · rw [← e] at w; cases w; exact Or.inr (Or.inl rfl)
      · rw [← e] at w; cases w; exact Or.inr (Or.inr rfl)
    rcases e2 with rfl | rfl | rfl
    · refine mm_catch (j := 0) (pre := []) (suf := [(0, 10, 17, 15), (0, 10, 21, 17)]) rfl (fun z hz => nomatch hz) (by decide) (by decide) xL_13 kw_c0 (fun y => ?_)
      refine mm_astore dL_uncopy_13 (by decide) rfl ?_
      refine mm_iconst (v := nI 1) dL_uncopy_15 (by decide) ?_
      refine mm_ireturn dL_uncopy_16 rfl ?_
      exact kw_thr hax ho e.symm k1 k2
    · refine mm_catch (j := 1) (pre := [(0, 10, 13, 13)]) (suf := [(0, 10, 21, 17)]) rfl (fun z hz => by
          simp only [List.mem_cons, List.not_mem_nil, or_false] at hz
          subst hz; exact ⟨by decide, 0, xL_13, by decide⟩) (by decide) (by decide) xL_15 kw_c1 (fun y => ?_)
      refine mm_astore dL_uncopy_17 (by decide) rfl ?_
      refine mm_iconst (v := nI 2) dL_uncopy_19 (by decide) ?_
      refine mm_ireturn dL_uncopy_20 rfl ?_
      exact kw_thr hax ho e.symm k1 k2
    · refine mm_catch (j := 2) (pre := [(0, 10, 13, 13), (0, 10, 17, 15)]) (suf := []) rfl (fun z hz => by
          simp only [List.mem_cons, List.not_mem_nil, or_false] at hz
          rcases hz with rfl | rfl
          · exact ⟨by decide, 0, xL_13, by decide⟩
          · exact ⟨by decide, 1, xL_15, by decide⟩) (by decide) (by decide) xL_17 kw_c2 (fun y => ?_)
      refine mm_astore dL_uncopy_21 (by decide) rfl ?_
      refine mm_iconst (v := nI 3) dL_uncopy_23 (by decide) ?_
      refine mm_ireturn dL_uncopy_24 rfl ?_
      exact kw_thr hax ho e.symm k1 k2
theorem kW_wrap (hax : a < x ∨ x + 166 ≤ a) (hx : h.2.2 x = some (.inr (4, fs))) (ho : h.2.2 a = some (kw_out f)) (n0 n1 : Int32) (hR : (∃ y : Int32, R.1 = .inl (some (.int y))) ∨ (R.1 = .inr 0 ∨ R.1 = .inr 1 ∨ R.1 = .inr 2)) (hE : mm_Ev Γ l d mC_wrap [.ref x, .int n0, .int n1] h (kc_D x h R)) : mm_Ev Γ l (d + 1) mL_wrap [.ref x, .int n0, .int n1, .ref a] h (kw_D (fun k => k + 1) x a h R) := by
  show mm_W Γ l mL_wrap (d + 1) _ 0 [some (.ref x), some (.int n0), some (.int n1), some (.ref a), none] [] _
  refine mm_aload_n dL_wrap_0 rfl rfl ?_
  refine mm_iconst (v := nI 0) dL_wrap_1 (by decide) ?_
  refine mm_aload_n dL_wrap_2 rfl rfl ?_
  refine mm_iload_n dL_wrap_3 rfl rfl ?_
  refine mm_iload_n dL_wrap_4 rfl rfl ?_
  refine mm_callv (as := [.int n0, .int n1]) (rest := [.int (nI 0), .ref a]) dL_wrap_5 lL_40 hx rfl (fun v hv => by simp only [List.mem_cons, List.not_mem_nil, or_false] at hv; rcases hv with rfl | rfl <;> rfl) (Nat.le_of_ble_eq_true rfl) (Nat.le_of_ble_eq_true rfl) hE ?_ ?_
  · rintro v g ⟨e, k1, k2⟩
    obtain ⟨y, e2⟩ : ∃ y : Int32, v = some (.int y) := by
      rcases hR with ⟨y, w⟩ | w | w | w
      · rw [← e] at w; cases w; exact ⟨y, rfl⟩
      · rw [← e] at w; cases w
      · rw [← e] at w; cases w
      · rw [← e] at w; cases w
    subst e2
    refine mm_i2l dL_wrap_8 ?_
    refine mm_lastore dL_wrap_9 ((k2.1 a hax).trans ho) rfl (by decide) (by decide) ?_
    refine mm_goto (tgt := 25) dL_wrap_10 (by decide) ?_
    refine mm_iconst (v := nI 0) dL_wrap_25 (by decide) ?_
    refine mm_ireturn dL_wrap_26 rfl ?_
    exact kw_ret hax e.symm rfl k1 k2
  · rintro k g ⟨e, k1, k2⟩
    have e2 : k = 0 ∨ k = 1 ∨ k = 2 := by
      rcases hR with ⟨y, w⟩ | w | w | w
      · rw [← e] at w; cases w
      · rw [← e] at w; cases w; exact (Or.inl rfl)
      · rw [← e] at w; cases w; exact Or.inr (Or.inl rfl)
      · rw [← e] at w; cases w; exact Or.inr (Or.inr rfl)
    rcases e2 with rfl | rfl | rfl
    · refine mm_catch (j := 0) (pre := []) (suf := [(0, 10, 17, 15), (0, 10, 21, 17)]) rfl (fun z hz => nomatch hz) (by decide) (by decide) xL_13 kw_c0 (fun y => ?_)
      refine mm_astore dL_wrap_13 (by decide) rfl ?_
      refine mm_iconst (v := nI 1) dL_wrap_15 (by decide) ?_
      refine mm_ireturn dL_wrap_16 rfl ?_
      exact kw_thr hax ho e.symm k1 k2
    · refine mm_catch (j := 1) (pre := [(0, 10, 13, 13)]) (suf := [(0, 10, 21, 17)]) rfl (fun z hz => by
          simp only [List.mem_cons, List.not_mem_nil, or_false] at hz
          subst hz; exact ⟨by decide, 0, xL_13, by decide⟩) (by decide) (by decide) xL_15 kw_c1 (fun y => ?_)
      refine mm_astore dL_wrap_17 (by decide) rfl ?_
      refine mm_iconst (v := nI 2) dL_wrap_19 (by decide) ?_
      refine mm_ireturn dL_wrap_20 rfl ?_
      exact kw_thr hax ho e.symm k1 k2
    · refine mm_catch (j := 2) (pre := [(0, 10, 13, 13), (0, 10, 17, 15)]) (suf := []) rfl (fun z hz => by
          simp only [List.mem_cons, List.not_mem_nil, or_false] at hz
          rcases hz with rfl | rfl
          · exact ⟨by decide, 0, xL_13, by decide⟩
          · exact ⟨by decide, 1, xL_15, by decide⟩) (by decide) (by decide) xL_17 kw_c2 (fun y => ?_)
      refine mm_astore dL_wrap_21 (by decide) rfl ?_
      refine mm_iconst (v := nI 3) dL_wrap_23 (by decide) ?_
      refine mm_ireturn dL_wrap_24 rfl ?_
      exact kw_thr hax ho e.symm k1 k2
theorem kW_unwrap (hax : a < x ∨ x + 166 ≤ a) (hx : h.2.2 x = some (.inr (4, fs))) (ho : h.2.2 a = some (kw_out f)) (n0 : Int32) (hR : (∃ y : Int32, R.1 = .inl (some (.int y))) ∨ (R.1 = .inr 0 ∨ R.1 = .inr 1 ∨ R.1 = .inr 2)) (hE : mm_Ev Γ l d mC_unwrap [.ref x, .int n0] h (kc_D x h R)) : mm_Ev Γ l (d + 1) mL_unwrap [.ref x, .int n0, .ref a] h (kw_D (fun k => k + 1) x a h R) := by
  show mm_W Γ l mL_unwrap (d + 1) _ 0 [some (.ref x), some (.int n0), some (.ref a), none] [] _
  refine mm_aload_n dL_unwrap_0 rfl rfl ?_
  refine mm_iconst (v := nI 0) dL_unwrap_1 (by decide) ?_
  refine mm_aload_n dL_unwrap_2 rfl rfl ?_
  refine mm_iload_n dL_unwrap_3 rfl rfl ?_
  refine mm_callv (as := [.int n0]) (rest := [.int (nI 0), .ref a]) dL_unwrap_4 lL_43 hx rfl (fun v hv => by simp only [List.mem_cons, List.not_mem_nil, or_false] at hv; subst hv; rfl) (Nat.le_of_ble_eq_true rfl) (Nat.le_of_ble_eq_true rfl) hE ?_ ?_
  · rintro v g ⟨e, k1, k2⟩
    obtain ⟨y, e2⟩ : ∃ y : Int32, v = some (.int y) := by
      rcases hR with ⟨y, w⟩ | w | w | w
      · rw [← e] at w; cases w; exact ⟨y, rfl⟩
      · rw [← e] at w; cases w
      · rw [← e] at w; cases w
      · rw [← e] at w; cases w
    subst e2
    refine mm_i2l dL_unwrap_7 ?_
    refine mm_lastore dL_unwrap_8 ((k2.1 a hax).trans ho) rfl (by decide) (by decide) ?_
    refine mm_goto (tgt := 21) dL_unwrap_9 (by decide) ?_
    refine mm_iconst (v := nI 0) dL_unwrap_21 (by decide) ?_
    refine mm_ireturn dL_unwrap_22 rfl ?_
    exact kw_ret hax e.symm rfl k1 k2
  · rintro k g ⟨e, k1, k2⟩
    have e2 : k = 0 ∨ k = 1 ∨ k = 2 := by
      rcases hR with ⟨y, w⟩ | w | w | w
      · rw [← e] at w; cases w
      · rw [← e] at w; cases w; exact (Or.inl rfl)
      · rw [← e] at w; cases w; exact Or.inr (Or.inl rfl)
      · rw [← e] at w; cases w; exact Or.inr (Or.inr rfl)
    rcases e2 with rfl | rfl | rfl
    · refine mm_catch (j := 0) (pre := []) (suf := [(0, 9, 15, 15), (0, 9, 18, 17)]) rfl (fun z hz => nomatch hz) (by decide) (by decide) xL_13 kw_c0 (fun y => ?_)
      refine mm_astore_n dL_unwrap_12 rfl (by decide) rfl ?_
      refine mm_iconst (v := nI 1) dL_unwrap_13 (by decide) ?_
      refine mm_ireturn dL_unwrap_14 rfl ?_
      exact kw_thr hax ho e.symm k1 k2
    · refine mm_catch (j := 1) (pre := [(0, 9, 12, 13)]) (suf := [(0, 9, 18, 17)]) rfl (fun z hz => by
          simp only [List.mem_cons, List.not_mem_nil, or_false] at hz
          subst hz; exact ⟨by decide, 0, xL_13, by decide⟩) (by decide) (by decide) xL_15 kw_c1 (fun y => ?_)
      refine mm_astore_n dL_unwrap_15 rfl (by decide) rfl ?_
      refine mm_iconst (v := nI 2) dL_unwrap_16 (by decide) ?_
      refine mm_ireturn dL_unwrap_17 rfl ?_
      exact kw_thr hax ho e.symm k1 k2
    · refine mm_catch (j := 2) (pre := [(0, 9, 12, 13), (0, 9, 15, 15)]) (suf := []) rfl (fun z hz => by
          simp only [List.mem_cons, List.not_mem_nil, or_false] at hz
          rcases hz with rfl | rfl
          · exact ⟨by decide, 0, xL_13, by decide⟩
          · exact ⟨by decide, 1, xL_15, by decide⟩) (by decide) (by decide) xL_17 kw_c2 (fun y => ?_)
      refine mm_astore_n dL_unwrap_18 rfl (by decide) rfl ?_
      refine mm_iconst (v := nI 3) dL_unwrap_19 (by decide) ?_
      refine mm_ireturn dL_unwrap_20 rfl ?_
      exact kw_thr hax ho e.symm k1 k2
theorem kW_join (hax : a < x ∨ x + 166 ≤ a) (hx : h.2.2 x = some (.inr (4, fs))) (ho : h.2.2 a = some (kw_out f)) (n0 n1 : Int32) (hR : (∃ y : Int32, R.1 = .inl (some (.int y))) ∨ (R.1 = .inr 0 ∨ R.1 = .inr 1 ∨ R.1 = .inr 2)) (hE : mm_Ev Γ l d mC_join [.ref x, .int n0, .int n1] h (kc_D x h R)) : mm_Ev Γ l (d + 1) mL_join [.ref x, .int n0, .int n1, .ref a] h (kw_D (fun k => k + 1) x a h R) := by
  show mm_W Γ l mL_join (d + 1) _ 0 [some (.ref x), some (.int n0), some (.int n1), some (.ref a), none] [] _
  refine mm_aload_n dL_join_0 rfl rfl ?_
  refine mm_iconst (v := nI 0) dL_join_1 (by decide) ?_
  refine mm_aload_n dL_join_2 rfl rfl ?_
  refine mm_iload_n dL_join_3 rfl rfl ?_
  refine mm_iload_n dL_join_4 rfl rfl ?_
  refine mm_callv (as := [.int n0, .int n1]) (rest := [.int (nI 0), .ref a]) dL_join_5 lL_46 hx rfl (fun v hv => by simp only [List.mem_cons, List.not_mem_nil, or_false] at hv; rcases hv with rfl | rfl <;> rfl) (Nat.le_of_ble_eq_true rfl) (Nat.le_of_ble_eq_true rfl) hE ?_ ?_
  · rintro v g ⟨e, k1, k2⟩
    obtain ⟨y, e2⟩ : ∃ y : Int32, v = some (.int y) := by
      rcases hR with ⟨y, w⟩ | w | w | w
      · rw [← e] at w; cases w; exact ⟨y, rfl⟩
      · rw [← e] at w; cases w
      · rw [← e] at w; cases w
      · rw [← e] at w; cases w
    subst e2
    refine mm_i2l dL_join_8 ?_
    refine mm_lastore dL_join_9 ((k2.1 a hax).trans ho) rfl (by decide) (by decide) ?_
    refine mm_goto (tgt := 25) dL_join_10 (by decide) ?_
    refine mm_iconst (v := nI 0) dL_join_25 (by decide) ?_
    refine mm_ireturn dL_join_26 rfl ?_
    exact kw_ret hax e.symm rfl k1 k2
  · rintro k g ⟨e, k1, k2⟩
    have e2 : k = 0 ∨ k = 1 ∨ k = 2 := by
      rcases hR with ⟨y, w⟩ | w | w | w
      · rw [← e] at w; cases w
      · rw [← e] at w; cases w; exact (Or.inl rfl)
      · rw [← e] at w; cases w; exact Or.inr (Or.inl rfl)
      · rw [← e] at w; cases w; exact Or.inr (Or.inr rfl)
    rcases e2 with rfl | rfl | rfl
    · refine mm_catch (j := 0) (pre := []) (suf := [(0, 10, 17, 15), (0, 10, 21, 17)]) rfl (fun z hz => nomatch hz) (by decide) (by decide) xL_13 kw_c0 (fun y => ?_)
      refine mm_astore dL_join_13 (by decide) rfl ?_
      refine mm_iconst (v := nI 1) dL_join_15 (by decide) ?_
      refine mm_ireturn dL_join_16 rfl ?_
      exact kw_thr hax ho e.symm k1 k2
    · refine mm_catch (j := 1) (pre := [(0, 10, 13, 13)]) (suf := [(0, 10, 21, 17)]) rfl (fun z hz => by
          simp only [List.mem_cons, List.not_mem_nil, or_false] at hz
          subst hz; exact ⟨by decide, 0, xL_13, by decide⟩) (by decide) (by decide) xL_15 kw_c1 (fun y => ?_)
      refine mm_astore dL_join_17 (by decide) rfl ?_
      refine mm_iconst (v := nI 2) dL_join_19 (by decide) ?_
      refine mm_ireturn dL_join_20 rfl ?_
      exact kw_thr hax ho e.symm k1 k2
    · refine mm_catch (j := 2) (pre := [(0, 10, 13, 13), (0, 10, 17, 15)]) (suf := []) rfl (fun z hz => by
          simp only [List.mem_cons, List.not_mem_nil, or_false] at hz
          rcases hz with rfl | rfl
          · exact ⟨by decide, 0, xL_13, by decide⟩
          · exact ⟨by decide, 1, xL_15, by decide⟩) (by decide) (by decide) xL_17 kw_c2 (fun y => ?_)
      refine mm_astore dL_join_21 (by decide) rfl ?_
      refine mm_iconst (v := nI 3) dL_join_23 (by decide) ?_
      refine mm_ireturn dL_join_24 rfl ?_
      exact kw_thr hax ho e.symm k1 k2
theorem kW_sever (hax : a < x ∨ x + 166 ≤ a) (hx : h.2.2 x = some (.inr (4, fs))) (ho : h.2.2 a = some (kw_out f)) (n0 n1 : Int32) (hR : (∃ y : Int32, R.1 = .inl (some (.int y))) ∨ (R.1 = .inr 0 ∨ R.1 = .inr 1 ∨ R.1 = .inr 2)) (hE : mm_Ev Γ l d mC_sever [.ref x, .int n0, .int n1] h (kc_D x h R)) : mm_Ev Γ l (d + 1) mL_sever [.ref x, .int n0, .int n1, .ref a] h (kw_D (fun k => k + 1) x a h R) := by
  show mm_W Γ l mL_sever (d + 1) _ 0 [some (.ref x), some (.int n0), some (.int n1), some (.ref a), none] [] _
  refine mm_aload_n dL_sever_0 rfl rfl ?_
  refine mm_iconst (v := nI 0) dL_sever_1 (by decide) ?_
  refine mm_aload_n dL_sever_2 rfl rfl ?_
  refine mm_iload_n dL_sever_3 rfl rfl ?_
  refine mm_iload_n dL_sever_4 rfl rfl ?_
  refine mm_callv (as := [.int n0, .int n1]) (rest := [.int (nI 0), .ref a]) dL_sever_5 lL_49 hx rfl (fun v hv => by simp only [List.mem_cons, List.not_mem_nil, or_false] at hv; rcases hv with rfl | rfl <;> rfl) (Nat.le_of_ble_eq_true rfl) (Nat.le_of_ble_eq_true rfl) hE ?_ ?_
  · rintro v g ⟨e, k1, k2⟩
    obtain ⟨y, e2⟩ : ∃ y : Int32, v = some (.int y) := by
      rcases hR with ⟨y, w⟩ | w | w | w
      · rw [← e] at w; cases w; exact ⟨y, rfl⟩
      · rw [← e] at w; cases w
      · rw [← e] at w; cases w
      · rw [← e] at w; cases w
    subst e2
    refine mm_i2l dL_sever_8 ?_
    refine mm_lastore dL_sever_9 ((k2.1 a hax).trans ho) rfl (by decide) (by decide) ?_
    refine mm_goto (tgt := 25) dL_sever_10 (by decide) ?_
    refine mm_iconst (v := nI 0) dL_sever_25 (by decide) ?_
    refine mm_ireturn dL_sever_26 rfl ?_
    exact kw_ret hax e.symm rfl k1 k2
  · rintro k g ⟨e, k1, k2⟩
    have e2 : k = 0 ∨ k = 1 ∨ k = 2 := by
      rcases hR with ⟨y, w⟩ | w | w | w
      · rw [← e] at w; cases w
      · rw [← e] at w; cases w; exact (Or.inl rfl)
      · rw [← e] at w; cases w; exact Or.inr (Or.inl rfl)
      · rw [← e] at w; cases w; exact Or.inr (Or.inr rfl)
    rcases e2 with rfl | rfl | rfl
    · refine mm_catch (j := 0) (pre := []) (suf := [(0, 10, 17, 15), (0, 10, 21, 17)]) rfl (fun z hz => nomatch hz) (by decide) (by decide) xL_13 kw_c0 (fun y => ?_)
      refine mm_astore dL_sever_13 (by decide) rfl ?_
      refine mm_iconst (v := nI 1) dL_sever_15 (by decide) ?_
      refine mm_ireturn dL_sever_16 rfl ?_
      exact kw_thr hax ho e.symm k1 k2
    · refine mm_catch (j := 1) (pre := [(0, 10, 13, 13)]) (suf := [(0, 10, 21, 17)]) rfl (fun z hz => by
          simp only [List.mem_cons, List.not_mem_nil, or_false] at hz
          subst hz; exact ⟨by decide, 0, xL_13, by decide⟩) (by decide) (by decide) xL_15 kw_c1 (fun y => ?_)
      refine mm_astore dL_sever_17 (by decide) rfl ?_
      refine mm_iconst (v := nI 2) dL_sever_19 (by decide) ?_
      refine mm_ireturn dL_sever_20 rfl ?_
      exact kw_thr hax ho e.symm k1 k2
    · refine mm_catch (j := 2) (pre := [(0, 10, 13, 13), (0, 10, 17, 15)]) (suf := []) rfl (fun z hz => by
          simp only [List.mem_cons, List.not_mem_nil, or_false] at hz
          rcases hz with rfl | rfl
          · exact ⟨by decide, 0, xL_13, by decide⟩
          · exact ⟨by decide, 1, xL_15, by decide⟩) (by decide) (by decide) xL_17 kw_c2 (fun y => ?_)
      refine mm_astore dL_sever_21 (by decide) rfl ?_
      refine mm_iconst (v := nI 3) dL_sever_23 (by decide) ?_
      refine mm_ireturn dL_sever_24 rfl ?_
      exact kw_thr hax ho e.symm k1 k2
theorem kW_back (hax : a < x ∨ x + 166 ≤ a) (hx : h.2.2 x = some (.inr (4, fs))) (ho : h.2.2 a = some (kw_out f)) (hR : (∃ y : Int32, R.1 = .inl (some (.int y))) ∨ (R.1 = .inr 1)) (hE : mm_Ev Γ l d mC_back [.ref x] h (kc_D x h R)) : mm_Ev Γ l (d + 1) mL_back [.ref x, .ref a] h (kw_D (fun _ => 1) x a h R) := by
  show mm_W Γ l mL_back (d + 1) _ 0 [some (.ref x), some (.ref a), none] [] _
  refine mm_aload_n dL_back_0 rfl rfl ?_
  refine mm_iconst (v := nI 0) dL_back_1 (by decide) ?_
  refine mm_aload_n dL_back_2 rfl rfl ?_
  refine mm_callv (as := []) (rest := [.int (nI 0), .ref a]) dL_back_3 lL_52 hx rfl (fun v hv => by simp only [List.mem_cons, List.not_mem_nil, or_false] at hv) (Nat.le_of_ble_eq_true rfl) (Nat.le_of_ble_eq_true rfl) hE ?_ ?_
  · rintro v g ⟨e, k1, k2⟩
    obtain ⟨y, e2⟩ : ∃ y : Int32, v = some (.int y) := by
      rcases hR with ⟨y, w⟩ | w
      · rw [← e] at w; cases w; exact ⟨y, rfl⟩
      · rw [← e] at w; cases w
    subst e2
    refine mm_i2l dL_back_6 ?_
    refine mm_lastore dL_back_7 ((k2.1 a hax).trans ho) rfl (by decide) (by decide) ?_
    refine mm_goto (tgt := 14) dL_back_8 (by decide) ?_
    refine mm_iconst (v := nI 0) dL_back_14 (by decide) ?_
    refine mm_ireturn dL_back_15 rfl ?_
    exact kw_ret hax e.symm rfl k1 k2
  · rintro k g ⟨e, k1, k2⟩
    have e2 : k = 1 := by
      rcases hR with ⟨y, w⟩ | w
      · rw [← e] at w; cases w
      · rw [← e] at w; cases w; exact rfl
    subst e2
    refine mm_catch (j := 1) (pre := []) (suf := []) rfl (fun z hz => nomatch hz) (by decide) (by decide) xL_15 kw_c1 (fun y => ?_)
    refine mm_astore_n dL_back_11 rfl (by decide) rfl ?_
    refine mm_iconst (v := nI 1) dL_back_12 (by decide) ?_
    refine mm_ireturn dL_back_13 rfl ?_
    exact kw_thr hax ho e.symm k1 k2
theorem kW_depth (hax : a < x ∨ x + 166 ≤ a) (hx : h.2.2 x = some (.inr (4, fs))) (ho : h.2.2 a = some (kw_out f)) (n0 : Int32) (hR : (∃ y : Int32, R.1 = .inl (some (.int y))) ∨ (R.1 = .inr 0)) (hE : mm_Ev Γ l d mC_depth [.ref x, .int n0] h (kc_D x h R)) : mm_Ev Γ l (d + 1) mL_depth [.ref x, .int n0, .ref a] h (kw_D (fun _ => 1) x a h R) := by
  show mm_W Γ l mL_depth (d + 1) _ 0 [some (.ref x), some (.int n0), some (.ref a), none] [] _
  refine mm_aload_n dL_depth_0 rfl rfl ?_
  refine mm_iconst (v := nI 0) dL_depth_1 (by decide) ?_
  refine mm_aload_n dL_depth_2 rfl rfl ?_
  refine mm_iload_n dL_depth_3 rfl rfl ?_
  refine mm_callv (as := [.int n0]) (rest := [.int (nI 0), .ref a]) dL_depth_4 lL_56 hx rfl (fun v hv => by simp only [List.mem_cons, List.not_mem_nil, or_false] at hv; subst hv; rfl) (Nat.le_of_ble_eq_true rfl) (Nat.le_of_ble_eq_true rfl) hE ?_ ?_
  · rintro v g ⟨e, k1, k2⟩
    obtain ⟨y, e2⟩ : ∃ y : Int32, v = some (.int y) := by
      rcases hR with ⟨y, w⟩ | w
      · rw [← e] at w; cases w; exact ⟨y, rfl⟩
      · rw [← e] at w; cases w
    subst e2
    refine mm_i2l dL_depth_7 ?_
    refine mm_lastore dL_depth_8 ((k2.1 a hax).trans ho) rfl (by decide) (by decide) ?_
    refine mm_goto (tgt := 15) dL_depth_9 (by decide) ?_
    refine mm_iconst (v := nI 0) dL_depth_15 (by decide) ?_
    refine mm_ireturn dL_depth_16 rfl ?_
    exact kw_ret hax e.symm rfl k1 k2
  · rintro k g ⟨e, k1, k2⟩
    have e2 : k = 0 := by
      rcases hR with ⟨y, w⟩ | w
      · rw [← e] at w; cases w
      · rw [← e] at w; cases w; exact rfl
    subst e2
    refine mm_catch (j := 0) (pre := []) (suf := []) rfl (fun z hz => nomatch hz) (by decide) (by decide) xL_13 kw_c0 (fun y => ?_)
    refine mm_astore_n dL_depth_12 rfl (by decide) rfl ?_
    refine mm_iconst (v := nI 1) dL_depth_13 (by decide) ?_
    refine mm_ireturn dL_depth_14 rfl ?_
    exact kw_thr hax ho e.symm k1 k2
theorem kW_read (hax : a < x ∨ x + 166 ≤ a) (hx : h.2.2 x = some (.inr (4, fs))) (ho : h.2.2 a = some (kw_out f)) (n0 : Int32) (hR : (∃ y : Int32, R.1 = .inl (some (.int y))) ∨ (R.1 = .inr 0)) (hE : mm_Ev Γ l d mC_read [.ref x, .int n0] h (kc_D x h R)) : mm_Ev Γ l (d + 1) mL_read [.ref x, .int n0, .ref a] h (kw_D (fun _ => 1) x a h R) := by
  show mm_W Γ l mL_read (d + 1) _ 0 [some (.ref x), some (.int n0), some (.ref a), none] [] _
  refine mm_aload_n dL_read_0 rfl rfl ?_
  refine mm_iconst (v := nI 0) dL_read_1 (by decide) ?_
  refine mm_aload_n dL_read_2 rfl rfl ?_
  refine mm_iload_n dL_read_3 rfl rfl ?_
  refine mm_callv (as := [.int n0]) (rest := [.int (nI 0), .ref a]) dL_read_4 lL_59 hx rfl (fun v hv => by simp only [List.mem_cons, List.not_mem_nil, or_false] at hv; subst hv; rfl) (Nat.le_of_ble_eq_true rfl) (Nat.le_of_ble_eq_true rfl) hE ?_ ?_
  · rintro v g ⟨e, k1, k2⟩
    obtain ⟨y, e2⟩ : ∃ y : Int32, v = some (.int y) := by
      rcases hR with ⟨y, w⟩ | w
      · rw [← e] at w; cases w; exact ⟨y, rfl⟩
      · rw [← e] at w; cases w
    subst e2
    refine mm_i2l dL_read_7 ?_
    refine mm_lastore dL_read_8 ((k2.1 a hax).trans ho) rfl (by decide) (by decide) ?_
    refine mm_goto (tgt := 15) dL_read_9 (by decide) ?_
    refine mm_iconst (v := nI 0) dL_read_15 (by decide) ?_
    refine mm_ireturn dL_read_16 rfl ?_
    exact kw_ret hax e.symm rfl k1 k2
  · rintro k g ⟨e, k1, k2⟩
    have e2 : k = 0 := by
      rcases hR with ⟨y, w⟩ | w
      · rw [← e] at w; cases w
      · rw [← e] at w; cases w; exact rfl
    subst e2
    refine mm_catch (j := 0) (pre := []) (suf := []) rfl (fun z hz => nomatch hz) (by decide) (by decide) xL_13 kw_c0 (fun y => ?_)
    refine mm_astore_n dL_read_12 rfl (by decide) rfl ?_
    refine mm_iconst (v := nI 1) dL_read_13 (by decide) ?_
    refine mm_ireturn dL_read_14 rfl ?_
    exact kw_thr hax ho e.symm k1 k2
theorem kW_token (hax : a < x ∨ x + 166 ≤ a) (hx : h.2.2 x = some (.inr (4, fs))) (ho : h.2.2 a = some (kw_out f)) (n0 : Int32) (hR : (∃ y : Int32, R.1 = .inl (some (.int y))) ∨ (R.1 = .inr 3)) (hE : mm_Ev Γ l d mC_token [.ref x, .int n0] h (kc_D x h R)) : mm_Ev Γ l (d + 1) mL_token [.ref x, .int n0, .ref a] h (kw_D (fun _ => 1) x a h R) := by
  show mm_W Γ l mL_token (d + 1) _ 0 [some (.ref x), some (.int n0), some (.ref a), none] [] _
  refine mm_aload_n dL_token_0 rfl rfl ?_
  refine mm_iconst (v := nI 0) dL_token_1 (by decide) ?_
  refine mm_aload_n dL_token_2 rfl rfl ?_
  refine mm_iload_n dL_token_3 rfl rfl ?_
  refine mm_callv (as := [.int n0]) (rest := [.int (nI 0), .ref a]) dL_token_4 lL_62 hx rfl (fun v hv => by simp only [List.mem_cons, List.not_mem_nil, or_false] at hv; subst hv; rfl) (Nat.le_of_ble_eq_true rfl) (Nat.le_of_ble_eq_true rfl) hE ?_ ?_
  · rintro v g ⟨e, k1, k2⟩
    obtain ⟨y, e2⟩ : ∃ y : Int32, v = some (.int y) := by
      rcases hR with ⟨y, w⟩ | w
      · rw [← e] at w; cases w; exact ⟨y, rfl⟩
      · rw [← e] at w; cases w
    subst e2
    refine mm_i2l dL_token_7 ?_
    refine mm_lastore dL_token_8 ((k2.1 a hax).trans ho) rfl (by decide) (by decide) ?_
    refine mm_goto (tgt := 15) dL_token_9 (by decide) ?_
    refine mm_iconst (v := nI 0) dL_token_15 (by decide) ?_
    refine mm_ireturn dL_token_16 rfl ?_
    exact kw_ret hax e.symm rfl k1 k2
  · rintro k g ⟨e, k1, k2⟩
    have e2 : k = 3 := by
      rcases hR with ⟨y, w⟩ | w
      · rw [← e] at w; cases w
      · rw [← e] at w; cases w; exact rfl
    subst e2
    refine mm_catch (j := 3) (pre := []) (suf := []) rfl (fun z hz => nomatch hz) (by decide) (by decide) xL_65 kw_c3 (fun y => ?_)
    refine mm_astore_n dL_token_12 rfl (by decide) rfl ?_
    refine mm_iconst (v := nI 1) dL_token_13 (by decide) ?_
    refine mm_ireturn dL_token_14 rfl ?_
    exact kw_thr hax ho e.symm k1 k2
theorem kW_holds (hax : a < x ∨ x + 166 ≤ a) (hx : h.2.2 x = some (.inr (4, fs))) (ho : h.2.2 a = some (kw_out f)) (b : Bool) (n1 n2 : Int32) (hR : (∃ b : Bool, R.1 = .inl (some (.int (mm_bI b)))) ∨ (R.1 = .inr 0 ∨ R.1 = .inr 1)) (hE : mm_Ev Γ l d mC_holds [.ref x, .int (mm_bI b), .int n1, .int n2] h (kc_D x h R)) : mm_Ev Γ l (d + 1) mL_holds [.ref x, .int (mm_bI b), .int n1, .int n2, .ref a] h (kw_D (fun k => k + 1) x a h R) := by
  show mm_W Γ l mL_holds (d + 1) _ 0 [some (.ref x), some (.int (mm_bI b)), some (.int n1), some (.int n2), some (.ref a), none] [] _
  refine mm_aload dL_holds_0 rfl ?_
  refine mm_iconst (v := nI 0) dL_holds_2 (by decide) ?_
  refine mm_aload_n dL_holds_3 rfl rfl ?_
  refine mm_iload_n dL_holds_4 rfl rfl ?_
  refine mm_iload_n dL_holds_5 rfl rfl ?_
  refine mm_iload_n dL_holds_6 rfl rfl ?_
  refine mm_callv (as := [.int (mm_bI b), .int n1, .int n2]) (rest := [.int (nI 0), .ref a]) dL_holds_7 lL_67 hx rfl (fun v hv => by simp only [List.mem_cons, List.not_mem_nil, or_false] at hv; rcases hv with rfl | rfl | rfl <;> rfl) (Nat.le_of_ble_eq_true rfl) (Nat.le_of_ble_eq_true rfl) hE ?_ ?_
  · rintro v g ⟨e, k1, k2⟩
    obtain ⟨y, e2⟩ : ∃ y : Bool, v = some (.int (mm_bI y)) := by
      rcases hR with ⟨y, w⟩ | w | w
      · rw [← e] at w; cases w; exact ⟨y, rfl⟩
      · rw [← e] at w; cases w
      · rw [← e] at w; cases w
    subst e2
    refine mm_if_eq_b (tgt := 17) dL_holds_10 (by decide) (fun q10 => ?_) (fun q10 => ?_)
    · refine mm_lconst (v := lN 0) dL_holds_17 (by decide) ?_
      refine mm_lastore dL_holds_18 ((k2.1 a hax).trans ho) rfl (by decide) (by decide) ?_
      refine mm_goto (tgt := 30) dL_holds_19 (by decide) ?_
      refine mm_iconst (v := nI 0) dL_holds_30 (by decide) ?_
      refine mm_ireturn dL_holds_31 rfl ?_
      exact kw_ret hax e.symm (by rw [q10]; decide) k1 k2
    · refine mm_lconst (v := lN 1) dL_holds_13 (by decide) ?_
      refine mm_goto (tgt := 18) dL_holds_14 (by decide) ?_
      refine mm_lastore dL_holds_18 ((k2.1 a hax).trans ho) rfl (by decide) (by decide) ?_
      refine mm_goto (tgt := 30) dL_holds_19 (by decide) ?_
      refine mm_iconst (v := nI 0) dL_holds_30 (by decide) ?_
      refine mm_ireturn dL_holds_31 rfl ?_
      exact kw_ret hax e.symm (by rw [q10]; decide) k1 k2
  · rintro k g ⟨e, k1, k2⟩
    have e2 : k = 0 ∨ k = 1 := by
      rcases hR with ⟨y, w⟩ | w | w
      · rw [← e] at w; cases w
      · rw [← e] at w; cases w; exact (Or.inl rfl)
      · rw [← e] at w; cases w; exact Or.inr rfl
    rcases e2 with rfl | rfl
    · refine mm_catch (j := 0) (pre := []) (suf := [(0, 19, 26, 15)]) rfl (fun z hz => nomatch hz) (by decide) (by decide) xL_13 kw_c0 (fun y => ?_)
      refine mm_astore dL_holds_22 (by decide) rfl ?_
      refine mm_iconst (v := nI 1) dL_holds_24 (by decide) ?_
      refine mm_ireturn dL_holds_25 rfl ?_
      exact kw_thr hax ho e.symm k1 k2
    · refine mm_catch (j := 1) (pre := [(0, 19, 22, 13)]) (suf := []) rfl (fun z hz => by
          simp only [List.mem_cons, List.not_mem_nil, or_false] at hz
          subst hz; exact ⟨by decide, 0, xL_13, by decide⟩) (by decide) (by decide) xL_15 kw_c1 (fun y => ?_)
      refine mm_astore dL_holds_26 (by decide) rfl ?_
      refine mm_iconst (v := nI 2) dL_holds_28 (by decide) ?_
      refine mm_ireturn dL_holds_29 rfl ?_
      exact kw_thr hax ho e.symm k1 k2
theorem kW_refutes (hax : a < x ∨ x + 166 ≤ a) (hx : h.2.2 x = some (.inr (4, fs))) (ho : h.2.2 a = some (kw_out f)) (n0 : Int32) (hR : (∃ y : Int32, R.1 = .inl (some (.int y))) ∨ (R.1 = .inr 0 ∨ R.1 = .inr 1)) (hE : mm_Ev Γ l d mC_refutes [.ref x, .int n0] h (kc_D x h R)) : mm_Ev Γ l (d + 1) mL_refutes [.ref x, .int n0, .ref a] h (kw_D (fun k => k + 1) x a h R) := by
  show mm_W Γ l mL_refutes (d + 1) _ 0 [some (.ref x), some (.int n0), some (.ref a), none] [] _
  refine mm_aload_n dL_refutes_0 rfl rfl ?_
  refine mm_iconst (v := nI 0) dL_refutes_1 (by decide) ?_
  refine mm_aload_n dL_refutes_2 rfl rfl ?_
  refine mm_iload_n dL_refutes_3 rfl rfl ?_
  refine mm_callv (as := [.int n0]) (rest := [.int (nI 0), .ref a]) dL_refutes_4 lL_71 hx rfl (fun v hv => by simp only [List.mem_cons, List.not_mem_nil, or_false] at hv; subst hv; rfl) (Nat.le_of_ble_eq_true rfl) (Nat.le_of_ble_eq_true rfl) hE ?_ ?_
  · rintro v g ⟨e, k1, k2⟩
    obtain ⟨y, e2⟩ : ∃ y : Int32, v = some (.int y) := by
      rcases hR with ⟨y, w⟩ | w | w
      · rw [← e] at w; cases w; exact ⟨y, rfl⟩
      · rw [← e] at w; cases w
      · rw [← e] at w; cases w
    subst e2
    refine mm_i2l dL_refutes_7 ?_
    refine mm_lastore dL_refutes_8 ((k2.1 a hax).trans ho) rfl (by decide) (by decide) ?_
    refine mm_goto (tgt := 18) dL_refutes_9 (by decide) ?_
    refine mm_iconst (v := nI 0) dL_refutes_18 (by decide) ?_
    refine mm_ireturn dL_refutes_19 rfl ?_
    exact kw_ret hax e.symm rfl k1 k2
  · rintro k g ⟨e, k1, k2⟩
    have e2 : k = 0 ∨ k = 1 := by
      rcases hR with ⟨y, w⟩ | w | w
      · rw [← e] at w; cases w
      · rw [← e] at w; cases w; exact (Or.inl rfl)
      · rw [← e] at w; cases w; exact Or.inr rfl
    rcases e2 with rfl | rfl
    · refine mm_catch (j := 0) (pre := []) (suf := [(0, 9, 15, 15)]) rfl (fun z hz => nomatch hz) (by decide) (by decide) xL_13 kw_c0 (fun y => ?_)
      refine mm_astore_n dL_refutes_12 rfl (by decide) rfl ?_
      refine mm_iconst (v := nI 1) dL_refutes_13 (by decide) ?_
      refine mm_ireturn dL_refutes_14 rfl ?_
      exact kw_thr hax ho e.symm k1 k2
    · refine mm_catch (j := 1) (pre := [(0, 9, 12, 13)]) (suf := []) rfl (fun z hz => by
          simp only [List.mem_cons, List.not_mem_nil, or_false] at hz
          subst hz; exact ⟨by decide, 0, xL_13, by decide⟩) (by decide) (by decide) xL_15 kw_c1 (fun y => ?_)
      refine mm_astore_n dL_refutes_15 rfl (by decide) rfl ?_
      refine mm_iconst (v := nI 2) dL_refutes_16 (by decide) ?_
      refine mm_ireturn dL_refutes_17 rfl ?_
      exact kw_thr hax ho e.symm k1 k2
theorem kW_count (hax : a < x ∨ x + 166 ≤ a) (hx : h.2.2 x = some (.inr (4, fs))) (ho : h.2.2 a = some (kw_out f)) (n0 : Int32) (hR : (∃ y : Int32, R.1 = .inl (some (.int y))) ∨ (R.1 = .inr 0)) (hE : mm_Ev Γ l d mC_count [.ref x, .int n0] h (kc_D x h R)) : mm_Ev Γ l (d + 1) mL_count [.ref x, .int n0, .ref a] h (kw_D (fun _ => 1) x a h R) := by
  show mm_W Γ l mL_count (d + 1) _ 0 [some (.ref x), some (.int n0), some (.ref a), none] [] _
  refine mm_aload_n dL_count_0 rfl rfl ?_
  refine mm_iconst (v := nI 0) dL_count_1 (by decide) ?_
  refine mm_aload_n dL_count_2 rfl rfl ?_
  refine mm_iload_n dL_count_3 rfl rfl ?_
  refine mm_callv (as := [.int n0]) (rest := [.int (nI 0), .ref a]) dL_count_4 lL_74 hx rfl (fun v hv => by simp only [List.mem_cons, List.not_mem_nil, or_false] at hv; subst hv; rfl) (Nat.le_of_ble_eq_true rfl) (Nat.le_of_ble_eq_true rfl) hE ?_ ?_
  · rintro v g ⟨e, k1, k2⟩
    obtain ⟨y, e2⟩ : ∃ y : Int32, v = some (.int y) := by
      rcases hR with ⟨y, w⟩ | w
      · rw [← e] at w; cases w; exact ⟨y, rfl⟩
      · rw [← e] at w; cases w
    subst e2
    refine mm_i2l dL_count_7 ?_
    refine mm_lastore dL_count_8 ((k2.1 a hax).trans ho) rfl (by decide) (by decide) ?_
    refine mm_goto (tgt := 15) dL_count_9 (by decide) ?_
    refine mm_iconst (v := nI 0) dL_count_15 (by decide) ?_
    refine mm_ireturn dL_count_16 rfl ?_
    exact kw_ret hax e.symm rfl k1 k2
  · rintro k g ⟨e, k1, k2⟩
    have e2 : k = 0 := by
      rcases hR with ⟨y, w⟩ | w
      · rw [← e] at w; cases w
      · rw [← e] at w; cases w; exact rfl
    subst e2
    refine mm_catch (j := 0) (pre := []) (suf := []) rfl (fun z hz => nomatch hz) (by decide) (by decide) xL_13 kw_c0 (fun y => ?_)
    refine mm_astore_n dL_count_12 rfl (by decide) rfl ?_
    refine mm_iconst (v := nI 1) dL_count_13 (by decide) ?_
    refine mm_ireturn dL_count_14 rfl ?_
    exact kw_thr hax ho e.symm k1 k2
end KW1
