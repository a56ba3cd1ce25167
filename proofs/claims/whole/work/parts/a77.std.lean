/-! who stands in a year -/
def suP (ea na lf : Nat → Int) (y : Int) (i : Nat) : Bool := decide (- na i ≤ y ∧ y < ea i + lf i)
def abP (ea na lf : Nat → Int) (y : Int) (i : Nat) : Bool := decide (ea i ≤ y ∧ y < - na i + lf i)
def frB (rl : Nat → Nat → Bool) (n s : Nat) : Bool := !(anyB (fun i => s.testBit i && anyB (fun j => s.testBit j && rl i j) i) n)
def gM (rl : Nat → Nat → Bool) (n s : Nat) : Nat := if frB rl n s = true then cntB (fun i => s.testBit i) n else 0
theorem fr_P {rl : Nat → Nat → Bool} {n s : Nat} (hs : s < 2 ^ n) (hr : ∀ i j, rl i j = rl j i) : freP rl s ↔ frB rl n s = true := by
  unfold frB
  rw [Bool.not_eq_true', ← Bool.not_eq_true, anyB_iff]
  have lt : ∀ i, s.testBit i = true → i < n := fun i hi => Classical.byContradiction fun z => by
    rw [Nat.testBit_lt_two_pow (Nat.lt_of_lt_of_le hs (Nat.pow_le_pow_right (by decide) (by omega)))] at hi; cases hi
  constructor
  · rintro h ⟨i, i1, i2⟩
    rw [Bool.and_eq_true, anyB_iff] at i2
    obtain ⟨i3, j, j1, j2⟩ := i2
    rw [Bool.and_eq_true] at j2
    have := h i j (by omega) i3 j2.1
    rw [j2.2] at this; cases this
  · intro h i j hij hi hj
    apply Bool.eq_false_iff.mpr
    intro z
    rcases Nat.lt_or_ge j i with q | q
    · exact h ⟨i, lt i hi, by rw [hi, Bool.true_and, anyB_iff]; exact ⟨j, q, by rw [hj, z]; rfl⟩⟩
    · exact h ⟨j, lt j hj, by rw [hj, Bool.true_and, anyB_iff]; exact ⟨i, by omega, by rw [hi, hr j i, z]; rfl⟩⟩
theorem cnt_n {n s : Nat} (hs : s < 2 ^ n) : ∀ d, cntB (fun i => s.testBit i) (n + d) = cntB (fun i => s.testBit i) n
  | 0 => rfl
  | d + 1 => by
    rw [← cnt_n hs d]
    exact cntB_f (p := fun i => s.testBit i) (n := n + d) (by rw [Nat.testBit_lt_two_pow (Nat.lt_of_lt_of_le hs (Nat.pow_le_pow_right (by decide) (by omega)))]; decide)
theorem chN_24 {n s : Nat} (hs : s < 2 ^ n) (hn : n ≤ 13) : chN s 24 = cntB (fun i => s.testBit i) n := by
  have := cnt_n hs (24 - n)
  rw [show n + (24 - n) = 24 by omega] at this
  exact this
theorem gM_b {rl : Nat → Nat → Bool} {n s : Nat} : gM rl n s ≤ n := by
  unfold gM
  split
  · exact cntB_le
  · exact Nat.zero_le _
