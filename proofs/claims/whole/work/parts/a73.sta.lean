/-! starts: the least row that keeps to lives -/
def mxS (p : Nat → Bool) (g : Nat → Int) (z : Int) : Nat → Int
  | 0 => z
  | n + 1 => if p n = true ∧ mxS p g z n < g n then g n else mxS p g z n
section
variable {p : Nat → Bool} {g h : Nat → Int} {z : Int}
theorem mxS_s : ∀ n, z ≤ mxS p g z n ∧ (∀ j, j < n → p j = true → g j ≤ mxS p g z n) ∧ (mxS p g z n = z ∨ ∃ j, j < n ∧ p j = true ∧ mxS p g z n = g j)
  | 0 => ⟨Int.le_refl _, fun j hj => absurd hj (Nat.not_lt_zero _), Or.inl rfl⟩
  | n + 1 => by
    obtain ⟨a, b, c⟩ := mxS_s n
    have e : mxS p g z (n + 1) = if p n = true ∧ mxS p g z n < g n then g n else mxS p g z n := rfl
    rw [e]
    by_cases q : p n = true ∧ mxS p g z n < g n
    · rw [if_pos q]
      refine ⟨by have := q.2; omega, fun j hj pj => ?_, Or.inr ⟨n, by omega, q.1, rfl⟩⟩
      by_cases w : j = n
      · rw [w]; omega
      · have := b j (by omega) pj; have := q.2; omega
    · rw [if_neg q]
      refine ⟨a, fun j hj pj => ?_, c.elim Or.inl fun ⟨j, j1, j2⟩ => Or.inr ⟨j, by omega, j2⟩⟩
      by_cases w : j = n
      · rw [w] at pj ⊢
        apply Int.not_lt.mp
        intro y
        exact q ⟨pj, y⟩
      · exact b j (by omega) pj
theorem mxS_x : ∀ n, (∀ j, j < n → p j = true → g j = h j) → mxS p g z n = mxS p h z n
  | 0, _ => rfl
  | n + 1, e => by
    show (if p n = true ∧ mxS p g z n < g n then g n else mxS p g z n) = (if p n = true ∧ mxS p h z n < h n then h n else mxS p h z n)
    rw [mxS_x n (fun j hj pj => e j (by omega) pj)]
    by_cases q : p n = true
    · rw [e n (by omega) q]
    · rw [if_neg (fun y => q y.1), if_neg (fun y => q y.1)]
end
/-- E is the least row above E0 that keeps: what is bound to one of a lower phase comes so much behind it -/
def isE (n : Nat) (bd : Nat → Nat → Bool) (f : Nat → Nat) (w : Nat → Nat → Int) (E0 E : Nat → Int) : Prop := ∀ i, i < n → E0 i ≤ E i ∧ (∀ j, j < n → bd i j = true → f j < f i → E j + w i j ≤ E i) ∧ (E i = E0 i ∨ ∃ j, j < n ∧ bd i j = true ∧ f j < f i ∧ E i = E j + w i j)
section
variable {n : Nat} {bd : Nat → Nat → Bool} {f : Nat → Nat} {w : Nat → Nat → Int} {E0 E E' X Y : Nat → Int} {r i j : Nat}
def eF (n : Nat) (bd : Nat → Nat → Bool) (f : Nat → Nat) (w : Nat → Nat → Int) (E0 : Nat → Int) : Nat → Nat → Int
  | 0, i => E0 i
  | r + 1, i => mxS (fun j => bd i j && decide (f j < f i)) (fun j => eF n bd f w E0 r j + w i j) (E0 i) n
theorem eF_st : ∀ r s i, f i < r → f i < s → eF n bd f w E0 r i = eF n bd f w E0 s i
  | 0, s, i, h, _ => absurd h (Nat.not_lt_zero _)
  | r + 1, 0, i, _, h => absurd h (Nat.not_lt_zero _)
  | r + 1, s + 1, i, h1, h2 => mxS_x n fun j _ pj => by
    rw [Bool.and_eq_true, decide_eq_true_iff] at pj
    show eF n bd f w E0 r j + w i j = eF n bd f w E0 s j + w i j
    rw [eF_st r s j (by omega) (by omega)]
theorem isE_ex (n : Nat) (bd : Nat → Nat → Bool) (f : Nat → Nat) (w : Nat → Nat → Int) (E0 : Nat → Int) : isE n bd f w E0 (fun i => eF n bd f w E0 (f i + 1) i) := by
  intro i hi
  obtain ⟨a, b, c⟩ := mxS_s (p := fun j => bd i j && decide (f j < f i)) (g := fun j => eF n bd f w E0 (f i) j + w i j) (z := E0 i) n
  have e : ∀ j, f j < f i → eF n bd f w E0 (f i) j = eF n bd f w E0 (f j + 1) j := fun j hj => eF_st _ _ j hj (by omega)
  refine ⟨a, fun j hj h1 h2 => ?_, ?_⟩
  · have := b j hj (by rw [Bool.and_eq_true, decide_eq_true_iff]; exact ⟨h1, h2⟩)
    rw [e j h2] at this
    exact this
  · rcases c with c | ⟨j, j1, j2, j3⟩
    · exact Or.inl c
    · rw [Bool.and_eq_true, decide_eq_true_iff] at j2
      rw [e j j2.2] at j3
      exact Or.inr ⟨j, j1, j2.1, j2.2, j3⟩
theorem isE_u (h : isE n bd f w E0 E) (h' : isE n bd f w E0 E') : ∀ r i, i < n → f i < r → E i = E' i
  | 0, i, _, hr => absurd hr (Nat.not_lt_zero _)
  | r + 1, i, hi, hr => by
    obtain ⟨a1, a2, a3⟩ := h i hi
    obtain ⟨b1, b2, b3⟩ := h' i hi
    have le : E i ≤ E' i := by
      rcases a3 with z | ⟨j, j1, j2, j3, j4⟩
      · omega
      · have := b2 j j1 j2 j3
        rw [← isE_u h h' r j j1 (by omega)] at this
        omega
    have ge : E' i ≤ E i := by
      rcases b3 with z | ⟨j, j1, j2, j3, j4⟩
      · omega
      · have := a2 j j1 j2 j3
        rw [isE_u h h' r j j1 (by omega)] at this
        omega
    omega
theorem isE_b {M C : Int} (h : isE n bd f w E0 E) (hM : ∀ i, i < n → E0 i ≤ M) (hC : ∀ i j, i < n → j < n → w i j ≤ C) (hC0 : 0 ≤ C) : ∀ r i, i < n → f i < r → E i ≤ M + C * (r : Int)
  | 0, i, _, hr => absurd hr (Nat.not_lt_zero _)
  | r + 1, i, hi, hr => by
    obtain ⟨_, _, a3⟩ := h i hi
    have e : C * ((r + 1 : Nat) : Int) = C * (r : Int) + C := by push_cast; rw [Int.mul_add, Int.mul_one]
    have p := Int.mul_nonneg hC0 (show (0 : Int) ≤ (r : Int) by omega)
    rw [e]
    rcases a3 with z | ⟨j, j1, j2, j3, j4⟩
    · have := hM i hi; omega
    · have := isE_b h hM hC hC0 r j j1 (by omega)
      have := hC i j hi j1
      omega
/-- on the way: between E0 and E -/
def midE (n : Nat) (E0 E X : Nat → Int) : Prop := ∀ i, i < n → E0 i ≤ X i ∧ X i ≤ E i
theorem mid_s (h : isE n bd f w E0 E) (m : midE n E0 E X) (hi : i < n) (hj : j < n) (hb : bd i j = true) (hf : f j < f i) (e : ∀ t, t < n → t ≠ i → Y t = X t) (hy : X i ≤ Y i ∧ (Y i = X i ∨ Y i = X j + w i j)) : midE n E0 E Y := by
  intro t ht
  by_cases q : t = i
  · subst q
    have a := m t ht
    have b := m j hj
    have c := (h t ht).2.1 j hj hb hf
    omega
  · rw [e t ht q]; exact m t ht
/-- what has been pushed so far, and is final below r, makes the next final -/
theorem mid_f (h : isE n bd f w E0 E) (m : midE n E0 E X) (hi : i < n) (hp : ∀ j, j < n → bd i j = true → f j < f i → E j + w i j ≤ X i) : X i = E i := by
  have a := m i hi
  rcases (h i hi).2.2 with z | ⟨j, j1, j2, j3, j4⟩
  · omega
  · have := hp j j1 j2 j3
    omega
end
