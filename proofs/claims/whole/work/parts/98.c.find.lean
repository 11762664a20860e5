/-! Mathematics: the class's search. -/
theorem kj_any_list {p : Nat → Bool} {g : Nat → Nat} : ∀ (L : List Nat) (b : Nat), ke_hasL g b L → ks_any (fun i => !p (g i)) b L.length = !L.all p := by
  intro L
  induction L with
  | nil => exact fun _ _ => rfl
  | cons x L ih =>
    intro b h
    have h0 : g b = x := ke_hasL_hd h
    show (if (!p (g b)) = true then true else ks_any (fun i => !p (g i)) (b + 1) L.length) = !(p x && L.all p)
    rw [h0, ih (b + 1) (ke_hasL_tl h)]
    cases p x <;> rfl
theorem kj_next_list {K : kl_K} {th : Nat} (hth : K.2.2.2.2.2.1 = th) : ∀ (L : List Nat) (b : Nat) (t : Nat → Nat), ke_hasL K.1.1.2 b L → kl_next K b L.length t = kj_next th L t := by
  intro L
  induction L with
  | nil => exact fun _ _ _ => rfl
  | cons x L ih =>
    intro b t h
    have h0 : K.1.1.2 b = x := ke_hasL_hd h
    show (if t (K.1.1.2 b) + 1 < K.2.2.2.2.2.1 then ks_un t (K.1.1.2 b) (t (K.1.1.2 b) + 1) else kl_next K (b + 1) L.length (ks_un t (K.1.1.2 b) 0)) = _
    rw [h0, hth, ih (b + 1) _ (ke_hasL_tl h)]
    rfl
theorem kj_zero_list {K : kl_K} {th : Nat} (hth : K.2.2.2.2.2.1 = th) : ∀ (L : List Nat) (b : Nat) (t : Nat → Nat) (w : Nat), ke_hasL K.1.1.2 b L → kl_zero K b L.length (t, w) = (kj_zero L t, w * th ^ L.length) := by
  intro L
  induction L with
  | nil => intro b t w _; show (t, w) = (t, w * 1); rw [Nat.mul_one]
  | cons x L ih =>
    intro b t w h
    have h0 : K.1.1.2 b = x := ke_hasL_hd h
    show kl_zero K (b + 1) L.length (ks_un t (K.1.1.2 b) 0, w * K.2.2.2.2.2.1) = _
    rw [h0, hth, ih (b + 1) _ _ (ke_hasL_tl h)]
    show (kj_zero L (ks_un t x 0), w * th * th ^ L.length) = (kj_zero L (ks_un t x 0), w * th ^ (L.length + 1))
    rw [Nat.mul_assoc, Nat.pow_succ, Nat.mul_comm th]
def kj_nocut (rec : (Nat → Nat) → Nat → Bool × (Nat → Nat)) : List Nat → (Nat → Nat) → Bool × (Nat → Nat)
  | [], t => (true, t)
  | c :: L, t => if (rec t c).1 = true then (false, (rec t c).2) else kj_nocut rec L (rec t c).2
theorem kj_nocut_list {K : kl_K} {rec : (Nat → Nat) → Nat → Bool × (Nat → Nat)} : ∀ (L : List Nat) (b : Nat) (t : Nat → Nat), ke_hasL K.1.2.2.2 b L → kl_nocut K rec b L.length t = kj_nocut rec L t := by
  intro L
  induction L with
  | nil => exact fun _ _ _ => rfl
  | cons x L ih =>
    intro b t h
    have h0 : K.1.2.2.2 b = x := ke_hasL_hd h
    show (if (rec t (K.1.2.2.2 b)).1 = true then (false, (rec t (K.1.2.2.2 b)).2) else kl_nocut K rec (b + 1) L.length (rec t (K.1.2.2.2 b)).2) = _
    rw [h0, ih (b + 1) _ (ke_hasL_tl h)]
    rfl
/-- all spots of an area hold and none of its cuts does -/
def kj_body (T : ks_S) (th B f a : Nat) (u : Nat → Nat) : Prop := (∀ s, s < 12 → T.1 s = some a → B.testBit (kh_bit T u s) = true) ∧ ∀ c, c < 13 → T.2.1 c = some a → ¬ kj_sem T th B f c u
theorem kj_body_ag {T : ks_S} (o : ks_ok T) (hk : kq_hk T) {th B f a : Nat} {u v : Nat → Nat} (h : kj_ag T a u v) (hu : kj_body T th B f a u) : kj_body T th B f a v := by
  refine ⟨fun s hs hsa => ?_, fun c hc hp hsem => hu.2 c hc hp (kj_scope o hk f c v u (fun n y n6 hy hH hj => (h n y n6 hy hH ?_).symm) hsem)⟩
  · rw [← kj_bit o hk hs hsa h]; exact hu.1 s hs hsa
  · obtain ⟨j, hj⟩ := hj
    rw [kt_it_s hp] at hj
    exact ⟨j, hj⟩
theorem kj_cls {T : ks_S} {K : kl_K} {th B : Nat} (o : ks_ok T) (t : kt_tr T.2.1) (hk : kq_hk T) (hK : kj_K T K) (hth : K.2.2.2.2.2.1 = th) (hB : K.2.2.2.2.2.2 = B) (h1 : 1 ≤ th) : ∀ (f a : Nat) (u : Nat → Nat), kt_ar T.2.1 a → ((kl_true K f u a).1 = true ↔ kj_sem T th B f a u) ∧ ∀ n y, n < 6 → T.2.2.1 n = some y → ¬ (∃ j, kt_it T.2.1 j y = some a) → (kl_true K f u a).2 n = u n := by
  intro f
  induction f with
  | zero => exact fun a u _ => ⟨⟨fun h => (by cases h), fun h => h.elim⟩, fun _ _ _ _ _ => rfl⟩
  | succ f ih =>
    intro a u ha
    obtain ⟨⟨L, l1, l2, l3, l4⟩, ⟨Ls, s1, s2, s3⟩, ⟨Lc, c1, c2, c3⟩⟩ := hK.1 a ha.1
    -- the ways up from a don't lead into a again
    have nocyc : ∀ y i j, kt_it T.2.1 i a = some y → ¬ kt_it T.2.1 (j + 1) y = some a := fun y i j h1 h2 => by
      have := kt_it_uniq2 t ha (kt_it_cat h1 h2) (show kt_it T.2.1 0 a = some a from rfl)
      omega
    -- spots
    have spots : ∀ v, kl_spots K v a = true ↔ ∀ s, s < 12 → T.1 s = some a → B.testBit (kh_bit T v s) = true := fun v => by
      have e : kl_spots K v a = Ls.all (fun s => B.testBit (kl_bit K v s)) := by
        unfold kl_spots
        rw [s1, hB, kj_any_list (p := fun s => B.testBit (kl_bit K v s)) Ls _ s2, Bool.not_not]
      have bit : ∀ s, s < 12 → T.1 s = some a → kl_bit K v s = kh_bit T v s := fun s hs hsa => by
        obtain ⟨g1, g2⟩ := hK.2 s hs (by rw [hsa]; exact fun w => nomatch w)
        have g4 := o.2.1 s hs
        have thing : ∀ k, k < kc_places (T.2.2.2.1 s) → kl_thing K v (2 * s + k) = v ((T.2.2.2.2 (2 * s + k)).getD 0) := fun k hk2 => by
          have pl := kc_places_le g4
          obtain ⟨n, b, -, h7, -⟩ := (hk.1 s a hs hsa k (by omega)).1 hk2
          unfold kl_thing
          rw [g2 k (by omega), h7]
          rfl
        unfold kl_bit kh_bit
        rw [g1]
        by_cases x1 : T.2.2.2.1 s < 2
        · rw [if_pos x1, if_pos x1]
        · rw [if_neg x1, if_neg x1]
          have pl : kc_places (T.2.2.2.1 s) = T.2.2.2.1 s - 1 := if_neg x1
          have t0 := thing 0 (by omega)
          rw [Nat.add_zero] at t0
          by_cases x2 : T.2.2.2.1 s = 2
          · rw [if_pos x2, if_pos x2, t0]
          · rw [if_neg x2, if_neg x2, t0, thing 1 (by omega)]
      rw [e, List.all_eq_true]
      constructor
      · intro h s hs hsa
        rw [← bit s hs hsa]; exact h s ((s3 s).mpr ⟨hs, hsa⟩)
      · intro h s hs
        obtain ⟨x1, x2⟩ := (s3 s).mp hs
        show B.testBit (kl_bit K v s) = true
        rw [bit s x1 x2]; exact h s x1 x2
    -- cuts
    have cutsL : ∀ (Q : List Nat) (v : Nat → Nat), (∀ c, c ∈ Q → c < 13 ∧ T.2.1 c = some a) → ((kj_nocut (kl_true K f) Q v).1 = true ↔ ∀ c, c ∈ Q → ¬ kj_sem T th B f c v) ∧ ∀ n y, n < 6 → T.2.2.1 n = some y → ¬ (∃ j, kt_it T.2.1 (j + 1) y = some a) → (kj_nocut (kl_true K f) Q v).2 n = v n := by
      intro Q
      induction Q with
      | nil => exact fun v _ => ⟨⟨fun _ c hc => (nomatch hc), fun _ => rfl⟩, fun _ _ _ _ _ => rfl⟩
      | cons c Q ihQ =>
        intro v hQ
        obtain ⟨c13, cp⟩ := hQ c List.mem_cons_self
        have arc : kt_ar T.2.1 c := ⟨c13, Or.inr (by rw [cp]; exact fun w => nomatch w)⟩
        obtain ⟨r1, r2⟩ := ih c v arc
        have fr : ∀ n y, n < 6 → T.2.2.1 n = some y → ¬ (∃ j, kt_it T.2.1 (j + 1) y = some a) → (kl_true K f v c).2 n = v n := fun n y n6 hy hnot => r2 n y n6 hy (fun w => hnot (by
          obtain ⟨j, hj⟩ := w
          exact ⟨j, by rw [kt_it_end hj]; exact cp⟩))
        have st : kj_nocut (kl_true K f) (c :: Q) v = if (kl_true K f v c).1 = true then (false, (kl_true K f v c).2) else kj_nocut (kl_true K f) Q (kl_true K f v c).2 := rfl
        rw [st]
        by_cases z : (kl_true K f v c).1 = true
        · rw [if_pos z]
          exact ⟨⟨fun h => (by cases h), fun h => absurd (r1.mp z) (h c List.mem_cons_self)⟩, fr⟩
        · rw [if_neg z]
          obtain ⟨q1, q2⟩ := ihQ (kl_true K f v c).2 (fun d hd => hQ d (List.mem_cons_of_mem _ hd))
          have tr : ∀ d, d ∈ Q → (kj_sem T th B f d (kl_true K f v c).2 ↔ kj_sem T th B f d v) := fun d hd => by
            obtain ⟨-, dp⟩ := hQ d (List.mem_cons_of_mem _ hd)
            have ag : ∀ n y, n < 6 → T.2.2.1 n = some y → kj_H T n → (∃ j, kt_it T.2.1 (j + 1) d = some y) → (kl_true K f v c).2 n = v n := fun n y n6 hy _ hj => fr n y n6 hy (fun w => by
              obtain ⟨i, hi⟩ := hj
              rw [kt_it_s dp] at hi
              obtain ⟨j, hj⟩ := w
              exact nocyc y i j hi hj)
            exact ⟨kj_scope o hk f d _ v ag, kj_scope o hk f d v _ (fun n y n6 hy hH hj => (ag n y n6 hy hH hj).symm)⟩
          refine ⟨?_, fun n y n6 hy hnot => (q2 n y n6 hy hnot).trans (fr n y n6 hy hnot)⟩
          rw [q1]
          constructor
          · intro h d hd
            rcases List.mem_cons.mp hd with w | w
            · rw [w]; exact fun hs => z (r1.mpr hs)
            · exact fun hs => h d w ((tr d w).mpr hs)
          · intro h d hd hs
            exact h d (List.mem_cons_of_mem _ hd) ((tr d hd).mp hs)
    have cuts : ∀ v, ((kl_cutsF K (kl_true K f) a v).1 = true ↔ ∀ c, c < 13 → T.2.1 c = some a → ¬ kj_sem T th B f c v) ∧ ∀ n y, n < 6 → T.2.2.1 n = some y → ¬ (∃ j, kt_it T.2.1 (j + 1) y = some a) → (kl_cutsF K (kl_true K f) a v).2 n = v n := fun v => by
      unfold kl_cutsF
      rw [c1, kj_nocut_list Lc _ v c2]
      obtain ⟨q1, q2⟩ := cutsL Lc v (fun c hc => (c3 c).mp hc)
      refine ⟨?_, q2⟩
      rw [q1]
      exact ⟨fun h c hc hp => h c ((c3 c).mpr ⟨hc, hp⟩), fun h c hc => h c ((c3 c).mp hc).1 ((c3 c).mp hc).2⟩
    have inL : ∀ n y, n < 6 → T.2.2.1 n = some y → ¬ y = a → ¬ n ∈ L := fun n y n6 hy ya w => ya (by
      have := ((l4 n).mp w).2.2
      rw [hy] at this; exact Option.some.inj this)
    have lnL : ∀ n, n ∈ L → n < 6 ∧ T.2.2.1 n = some a := fun n hn => ⟨((l4 n).mp hn).1, ((l4 n).mp hn).2.2⟩
    have self : ¬ ∃ j, kt_it T.2.1 (j + 1) a = some a := fun w => by
      obtain ⟨j, hj⟩ := w
      exact nocyc a 0 j rfl hj
    -- two that agree on L and above agree
    have agL : ∀ v w, (∀ x, x ∈ L → v x = w x) → (∀ n y, n < 6 → T.2.2.1 n = some y → (∃ j, kt_it T.2.1 (j + 1) a = some y) → v n = w n) → kj_ag T a v w := fun v w x1 x2 n y n6 hy hH hj => by
      obtain ⟨j, hj⟩ := hj
      cases j with
      | zero =>
        have : a = y := Option.some.inj hj
        exact x1 n ((l4 n).mpr ⟨n6, hH, by rw [hy, this]⟩)
      | succ j => exact x2 n y n6 hy ⟨j, hj⟩
    -- the ways
    have ways : ∀ (m : Nat) (v : Nat → Nat), (∀ x, x ∈ L → v x < th) → kj_val th v L + m = th ^ L.length → ((kl_ways K (kl_true K f) a m v).1 = true ↔ ∃ w, (∀ x, x ∈ L → w x < th) ∧ kj_val th v L ≤ kj_val th w L ∧ (∀ n y, n < 6 → T.2.2.1 n = some y → (∃ j, kt_it T.2.1 (j + 1) a = some y) → w n = v n) ∧ kj_body T th B f a w) ∧ ∀ n y, n < 6 → T.2.2.1 n = some y → ¬ (∃ j, kt_it T.2.1 j y = some a) → (kl_ways K (kl_true K f) a m v).2 n = v n := by
      intro m
      induction m with
      | zero =>
        intro v hv e
        have := kj_val_lt L hv
        omega
      | succ m ihm =>
        intro v hv e
        -- one step further
        have go : ∀ v2 : Nat → Nat, (∀ n y, n < 6 → T.2.2.1 n = some y → ¬ (∃ j, kt_it T.2.1 (j + 1) y = some a) → v2 n = v n) → ¬ kj_body T th B f a v → ((kl_ways K (kl_true K f) a m (kl_step K a v2)).1 = true ↔ ∃ w, (∀ x, x ∈ L → w x < th) ∧ kj_val th v L ≤ kj_val th w L ∧ (∀ n y, n < 6 → T.2.2.1 n = some y → (∃ j, kt_it T.2.1 (j + 1) a = some y) → w n = v n) ∧ kj_body T th B f a w) ∧ ∀ n y, n < 6 → T.2.2.1 n = some y → ¬ (∃ j, kt_it T.2.1 j y = some a) → (kl_ways K (kl_true K f) a m (kl_step K a v2)).2 n = v n := fun v2 hf nb => by
          have v2L : ∀ x, x ∈ L → v2 x = v x := fun x hx => hf x a (lnL x hx).1 (lnL x hx).2 self
          have hv2 : ∀ x, x ∈ L → v2 x < th := fun x hx => by rw [v2L x hx]; exact hv x hx
          have e3 : kl_step K a v2 = kj_next th L v2 := by
            unfold kl_step
            rw [l1]
            exact kj_next_list hth L _ v2 l2
          obtain ⟨n1, n2, n3⟩ := kj_next_spec L v2 l3 hv2
          have ev : kj_val th v2 L = kj_val th v L := kj_val_congr L v2L
          rw [e3]
          have same : ∀ w, (∀ x, x ∈ L → w x < th) → kj_val th w L = kj_val th v L → (∀ n y, n < 6 → T.2.2.1 n = some y → (∃ j, kt_it T.2.1 (j + 1) a = some y) → w n = v n) → ¬ kj_body T th B f a w := fun w w1 w2 w3 hb => nb (kj_body_ag o hk (agL w v (kj_val_inj L w1 hv w2) w3) hb)
          cases m with
          | zero =>
            have last : kl_ways K (kl_true K f) a 0 (kj_next th L v2) = (false, kj_next th L v2) := rfl
            rw [last]
            refine ⟨⟨fun h => (by cases h), fun h => ?_⟩, fun n y n6 hy hnot => ?_⟩
            · obtain ⟨w, w1, w2, w3, w4⟩ := h
              have lt := kj_val_lt L w1
              exact absurd w4 (same w w1 (by omega) w3)
            · show kj_next th L v2 n = v n
              rw [n1 n (fun w => hnot ⟨0, by have := (lnL n w).2; rw [hy] at this; rw [Option.some.inj this]; rfl⟩)]
              exact hf n y n6 hy (fun w => hnot (by obtain ⟨j, hj⟩ := w; exact ⟨j + 1, hj⟩))
          | succ m =>
            have ev2 := n3 (by rw [ev]; omega)
            obtain ⟨r1, r2⟩ := ihm (kj_next th L v2) n2 (by rw [ev2, ev]; omega)
            have up : ∀ n y, n < 6 → T.2.2.1 n = some y → (∃ j, kt_it T.2.1 (j + 1) a = some y) → kj_next th L v2 n = v n := fun n y n6 hy hj => by
              obtain ⟨i, hi⟩ := hj
              have ya : ¬ y = a := fun w => self ⟨i, by rw [← w] at hi ⊢; exact hi⟩
              rw [n1 n (inL n y n6 hy ya)]
              exact hf n y n6 hy (fun w => by
                obtain ⟨j, hj⟩ := w
                exact nocyc y (i + 1) j hi hj)
            refine ⟨?_, fun n y n6 hy hnot => ?_⟩
            · rw [r1]
              constructor
              · rintro ⟨w, w1, w2, w3, w4⟩
                exact ⟨w, w1, by omega, fun n y n6 hy hj => (w3 n y n6 hy hj).trans (up n y n6 hy hj), w4⟩
              · rintro ⟨w, w1, w2, w3, w4⟩
                have ne : ¬ kj_val th w L = kj_val th v L := fun z => same w w1 z w3 w4
                exact ⟨w, w1, by omega, fun n y n6 hy hj => (w3 n y n6 hy hj).trans (up n y n6 hy hj).symm, w4⟩
            · rw [r2 n y n6 hy hnot, n1 n (fun w => hnot ⟨0, by have := (lnL n w).2; rw [hy] at this; rw [Option.some.inj this]; rfl⟩)]
              exact hf n y n6 hy (fun w => hnot (by obtain ⟨j, hj⟩ := w; exact ⟨j + 1, hj⟩))
        have st : kl_ways K (kl_true K f) a (m + 1) v = if kl_spots K v a = true then (if (kl_cutsF K (kl_true K f) a v).1 = true then (true, (kl_cutsF K (kl_true K f) a v).2) else kl_ways K (kl_true K f) a m (kl_step K a (kl_cutsF K (kl_true K f) a v).2)) else kl_ways K (kl_true K f) a m (kl_step K a v) := rfl
        rw [st]
        obtain ⟨k1, k2⟩ := cuts v
        by_cases z1 : kl_spots K v a = true
        · rw [if_pos z1]
          by_cases z2 : (kl_cutsF K (kl_true K f) a v).1 = true
          · rw [if_pos z2]
            refine ⟨⟨fun _ => ⟨v, hv, Nat.le_refl _, fun _ _ _ _ _ => rfl, (spots v).mp z1, k1.mp z2⟩, fun _ => rfl⟩, fun n y n6 hy hnot => k2 n y n6 hy (fun w => hnot (by obtain ⟨j, hj⟩ := w; exact ⟨j + 1, hj⟩))⟩
          · rw [if_neg z2]
            exact go _ k2 (fun hb => z2 (k1.mpr hb.2))
        · rw [if_neg z1]
          exact go v (fun _ _ _ _ _ => rfl) (fun hb => z1 ((spots v).mpr hb.1))
    -- all of it
    have e0 : kl_true K (f + 1) u a = kl_ways K (kl_true K f) a (th ^ L.length) (kj_zero L u) := by
      show kl_ways K (kl_true K f) a (kl_zero K (K.1.1.1 a) (K.1.1.1 (a + 1) - K.1.1.1 a) (u, 1)).2 (kl_zero K (K.1.1.1 a) (K.1.1.1 (a + 1) - K.1.1.1 a) (u, 1)).1 = _
      rw [l1, kj_zero_list hth L _ u 1 l2]
      show kl_ways K (kl_true K f) a (1 * th ^ L.length) (kj_zero L u) = _
      rw [Nat.one_mul]
    obtain ⟨z1, z2⟩ := kj_zero_spec L u
    have v0 : kj_val th (kj_zero L u) L = 0 := by
      have : ∀ (Q : List Nat), (∀ x, x ∈ Q → kj_zero L u x = 0) → kj_val th (kj_zero L u) Q = 0 := by
        intro Q
        induction Q with
        | nil => exact fun _ => rfl
        | cons x Q ihQ =>
          intro h
          show kj_zero L u x + th * kj_val th (kj_zero L u) Q = 0
          rw [h x List.mem_cons_self, ihQ (fun y hy => h y (List.mem_cons_of_mem _ hy))]
          rfl
      exact this L z2
    obtain ⟨r1, r2⟩ := ways (th ^ L.length) (kj_zero L u) (fun x hx => by rw [z2 x hx]; exact h1) (by rw [v0, Nat.zero_add])
    rw [e0]
    have zup : ∀ n y, n < 6 → T.2.2.1 n = some y → ¬ y = a → kj_zero L u n = u n := fun n y n6 hy ya => z1 n (inL n y n6 hy ya)
    refine ⟨?_, fun n y n6 hy hnot => (r2 n y n6 hy hnot).trans (zup n y n6 hy (fun w => hnot ⟨0, by rw [w]; rfl⟩))⟩
    rw [r1]
    constructor
    · rintro ⟨w, w1, -, w3, w4⟩
      have ag : kj_ag T a w (fun n => if n ∈ L then w n else if T.2.2.1 n = some a then 0 else u n) := fun n y n6 hy hH hj => by
        show w n = if n ∈ L then w n else if T.2.2.1 n = some a then 0 else u n
        by_cases x1 : n ∈ L
        · rw [if_pos x1]
        · rw [if_neg x1]
          have x2 : ¬ T.2.2.1 n = some a := fun e => x1 ((l4 n).mpr ⟨n6, hH, e⟩)
          rw [if_neg x2]
          have ya : ¬ y = a := fun e => x2 (by rw [hy, e])
          obtain ⟨j, hj⟩ := hj
          cases j with
          | zero => exact absurd (Option.some.inj hj).symm ya
          | succ j => rw [w3 n y n6 hy ⟨j, hj⟩, zup n y n6 hy ya]
      obtain ⟨b1, b2⟩ := kj_body_ag o hk ag w4
      refine ⟨_, fun n y n6 hy ya => ?_, fun n n6 hy => ?_, b1, b2⟩
      · show (if n ∈ L then w n else if T.2.2.1 n = some a then 0 else u n) = u n
        rw [if_neg (inL n y n6 hy ya), if_neg (fun e => ya (by rw [hy] at e; exact Option.some.inj e))]
      · show (if n ∈ L then w n else if T.2.2.1 n = some a then 0 else u n) < th
        by_cases x1 : n ∈ L
        · rw [if_pos x1]; exact w1 n x1
        · rw [if_neg x1, if_pos hy]; exact h1
    · rintro ⟨w, w1, w2, w3, w4⟩
      refine ⟨w, fun x hx => w2 x (lnL x hx).1 (lnL x hx).2, by rw [v0]; exact Nat.zero_le _, fun n y n6 hy hj => ?_, w3, w4⟩
      have ya : ¬ y = a := fun e => self (by obtain ⟨j, hj⟩ := hj; exact ⟨j, by rw [e] at hj; exact hj⟩)
      rw [w1 n y n6 hy ya, zup n y n6 hy ya]
/-- both say the same of a sheet -/
theorem kj_say {S : ks_S} {f : Nat → Option Nat} (h : kq S f) {K : kl_K} (hK : kj_K (kz f) K) {th B : Nat} (h1 : 1 ≤ th) : (kl_say K th B).1 = kh_say f th B := by
  have o := h.2.1.1
  have hk := h.2.1.2
  have t := kt_ok_tr o
  have u0 := kh_u_pos (kz f) h1 6
  rw [Bool.eq_iff_iff]
  have c := (kj_cls (K := kl_tb K th B) (th := th) (B := B) o.1 t hk hK rfl rfl h1 13 0 K.2.2.2.2.1 ⟨by decide, Or.inl rfl⟩).1
  have r := kj_ref (T := kz f) o.1 hk (th := th) (B := B) h1 13 0 0 u0
  have e1 : (kl_say K th B).1 = (kl_true (kl_tb K th B) 13 K.2.2.2.2.1 0).1 := rfl
  have e2 : kh_say f th B = kh (kz f) th B 13 0 0 := rfl
  rw [e1, e2, c, r]
  have no : ∀ j y, ¬ kt_it (kz f).2.1 (j + 1) 0 = some y := fun j y w => by rw [kt_it_0 t.1] at w; cases w
  exact ⟨kj_scope o.1 hk 13 0 _ _ (fun n y _ _ _ hj => by obtain ⟨j, hj⟩ := hj; exact absurd hj (no j y)), kj_scope o.1 hk 13 0 _ _ (fun n y _ _ _ hj => by obtain ⟨j, hj⟩ := hj; exact absurd hj (no j y))⟩
