/-! the class's phases, put together -/
theorem rowC_x {a n : Nat} {p : Nat → Nat → Bool} {V V' : VV} (h : rowC a p n V) (e : V' a = V a) : rowC a p n V' := fun i hi => by rw [e]; exact h i hi
theorem lsS_x {r : Nat → Nat → Bool} {t : Nat} {V V' : VV} (h : lsS r t V) (e1 : V' 91 = V 91) (e2 : V' 92 = V 92) : lsS r t V' := fun s hs => by rw [e1, e2]; exact h s hs
theorem rl_cm {mt lt : Nat → Nat → Bool} (hs : ∀ i j, mt i j = mt j i) (i j : Nat) : rlB mt lt i j = rlB mt lt j i := by
  unfold rlB
  rw [hs i j, Bool.or_comm (lt i j) (lt j i)]
theorem inF_6 {c j : Nat} (h : c < 85) : inF [(85, 0, 0), (85, 11, 13)] c j = false := by
  unfold inF
  simp
  omega
theorem full_1 {n : Nat} : ∀ j, j < n → (2 ^ n - 1).testBit j = true := fun j hj => by
  rw [Nat.testBit_two_pow_sub_one, decide_eq_true hj]
/-- all that the order keeps of its members -/
def ordC (mt lt : Nat → Nat → Bool) (ρ : Nat → Nat) (ch N : Nat) (X : VV) (R : RR) : Prop := X 85 0 = (chN ch N : Int) ∧ (∀ i, i < 24 → X 87 i = mbI ch N i) ∧ rowC 88 mt (chN ch N) X ∧ rowC 89 lt (chN ch N) X ∧ rowC 90 (rlB mt lt) (chN ch N) X ∧ lsS (rlB mt lt) (2 ^ chN ch N) X ∧ mmR ρ ch N (chN ch N) R
