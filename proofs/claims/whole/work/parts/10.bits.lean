/-! Bits and sets of areas. -/
theorem kb_and (a b : Nat) : nI a &&& nI b = nI (a &&& b) := by
  apply Int32.toBitVec_inj.1
  show BitVec.ofNat 32 a &&& BitVec.ofNat 32 b = BitVec.ofNat 32 (a &&& b)
  apply BitVec.eq_of_getLsbD_eq
  intro i hi
  simp [hi]
theorem kb_or (a b : Nat) : nI a ||| nI b = nI (a ||| b) := by
  apply Int32.toBitVec_inj.1
  show BitVec.ofNat 32 a ||| BitVec.ofNat 32 b = BitVec.ofNat 32 (a ||| b)
  apply BitVec.eq_of_getLsbD_eq
  intro i hi
  simp [hi]
theorem kb_sl : ∀ n, n < 32 → ((nI n &&& 31).toBitVec.smod 32).toNat = n := by decide +kernel
theorem kb_shl {n a : Nat} (ha : a < 32) (h : n * 2 ^ a < 2 ^ 32) : nI n <<< (nI a &&& 31) = nI (n * 2 ^ a) := pk_shlN (nI a &&& 31) a (kb_sl a ha) h
theorem kb_shr {n a : Nat} (hn : n < 2 ^ 31) (ha : a < 32) : nI n >>> (nI a &&& 31) = nI (n / 2 ^ a) := pk_shrN hn (nI a &&& 31) a (kb_sl a ha)
theorem kb_one {n a : Nat} (hn : n < 2 ^ 31) (ha : a < 32) : (nI n >>> (nI a &&& 31)) &&& nI 1 = nI (if n.testBit a then 1 else 0) := by
  rw [kb_shr hn ha, kb_and]
  congr 1
  rw [Nat.and_one_is_mod]
  unfold Nat.testBit
  rw [Nat.shiftRight_eq_div_pow, Nat.and_comm, Nat.and_one_is_mod]
  by_cases h : n / 2 ^ a % 2 = 0
  · simp [h]
  · have : n / 2 ^ a % 2 = 1 := by omega
    simp [this]
/-- a set of the numbers below n, as a number -/
def kb_mask (p : Nat → Bool) : Nat → Nat
  | 0 => 0
  | n + 1 => if p n then kb_mask p n ||| 2 ^ n else kb_mask p n
theorem kb_mask_bit (p : Nat → Bool) (n a : Nat) : (kb_mask p n).testBit a = (decide (a < n) && p a) := by
  induction n with
  | zero => simp [kb_mask]
  | succ n ih =>
    simp only [kb_mask]
    by_cases hp : p n = true
    · rw [if_pos hp, Nat.testBit_or, ih, Nat.testBit_two_pow]
      by_cases h1 : a = n
      · subst h1
        simp [hp]
      · have h2 : ¬ n = a := fun e => h1 e.symm
        by_cases h3 : a < n
        · simp [h3, h2, Nat.lt_succ_of_lt h3]
        · have h4 : ¬ a < n + 1 := by omega
          simp [h3, h4, h2]
    · have hp' : p n = false := by cases h : p n with | true => exact absurd h hp | false => rfl
      rw [if_neg hp, ih]
      by_cases h1 : a = n
      · subst h1
        simp [hp']
      · by_cases h3 : a < n
        · simp [h3, Nat.lt_succ_of_lt h3]
        · have h4 : ¬ a < n + 1 := by omega
          simp [h3, h4]
theorem kb_mask_lt (p : Nat → Bool) (n : Nat) : kb_mask p n < 2 ^ n := by
  induction n with
  | zero => simp [kb_mask]
  | succ n ih =>
    simp only [kb_mask]
    have h2 : 2 ^ (n + 1) = 2 ^ n + 2 ^ n := by rw [Nat.pow_succ]; omega
    by_cases hp : p n = true
    · rw [if_pos hp]
      exact Nat.or_lt_two_pow (by omega) (Nat.pow_lt_pow_right (by decide) (Nat.lt_succ_self n))
    · rw [if_neg hp]
      omega
