/-! do two houses' outlines meet: geometry -/
theorem mbb {a b A B : Int} (h1 : -A ≤ a) (h2 : a ≤ A) (h3 : -B ≤ b) (h4 : b ≤ B) : -(A * B) ≤ a * b ∧ a * b ≤ A * B := by
  rcases Int.le_total 0 a with q | q
  · have := mulb q h2 h3 h4; exact this
  · have := mulb (i := -a) (N := A) (v := b) (M := B) (by omega) (by omega) h3 h4
    rw [Int.neg_mul] at this
    omega
abbrev mn0 (x : Int) : Int := if x < 0 then x else 0
/-- the lowest of an outline along a way: corner, side, side -/
def loH (x y vx vy wx wy ux uy : Int) : Int := x * ux + y * uy + mn0 (vx * ux + vy * uy) + mn0 (wx * ux + wy * uy)
/-- as it lies in the class -/
def lowC (V : VV) (h : Nat) (ux uy : Int) : Int := V h 4 * ux + V h 5 * uy + mn0 ((V h 12 - 1) * (V h 6 * ux + V h 7 * uy)) + mn0 ((V h 10 - 1) * (V h 8 * ux + V h 9 * uy))
theorem low_b {V : VV} {h : Nat} {ux uy : Int} (hB : Bd V) (hl : lay h = (0, 2)) (h1 : -1800 ≤ ux ∧ ux ≤ 1800) (h2 : -1800 ≤ uy ∧ uy ≤ 1800) : ((-52000000 ≤ (V h 12 - 1) * (V h 6 * ux + V h 7 * uy) ∧ (V h 12 - 1) * (V h 6 * ux + V h 7 * uy) ≤ 52000000) ∧ -52000000 ≤ (V h 10 - 1) * (V h 8 * ux + V h 9 * uy) ∧ (V h 10 - 1) * (V h 8 * ux + V h 9 * uy) ≤ 52000000) ∧ -120000000 ≤ lowC V h ux uy ∧ lowC V h ux uy ≤ 120000000 := by
  have b4 := hB.2 h 2 4 (-620) 1119 hl rfl
  have b5 := hB.2 h 2 5 (-620) 1119 hl rfl
  have b6 := hB.2 h 2 6 (-1800) 1800 hl rfl
  have b7 := hB.2 h 2 7 (-1800) 1800 hl rfl
  have b8 := hB.2 h 2 8 (-1800) 1800 hl rfl
  have b9 := hB.2 h 2 9 (-1800) 1800 hl rfl
  have b10 := hB.2 h 2 10 0 4 hl rfl
  have b12 := hB.2 h 2 12 0 8 hl rfl
  have m4 := mbb (a := V h 4) (A := 1119) (by omega) (by omega) h1.1 h1.2
  have m5 := mbb (a := V h 5) (A := 1119) (by omega) (by omega) h2.1 h2.2
  have m6 := mbb (a := V h 6) (A := 1800) (by omega) (by omega) h1.1 h1.2
  have m7 := mbb (a := V h 7) (A := 1800) (by omega) (by omega) h2.1 h2.2
  have m8 := mbb (a := V h 8) (A := 1800) (by omega) (by omega) h1.1 h1.2
  have m9 := mbb (a := V h 9) (A := 1800) (by omega) (by omega) h2.1 h2.2
  have n1 := mbb (a := V h 12 - 1) (A := 8) (b := V h 6 * ux + V h 7 * uy) (B := 6480000) (by omega) (by omega) (by omega) (by omega)
  have n2 := mbb (a := V h 10 - 1) (A := 8) (b := V h 8 * ux + V h 9 * uy) (B := 6480000) (by omega) (by omega) (by omega) (by omega)
  unfold lowC
  refine ⟨⟨by omega, by omega⟩, ?_⟩
  generalize (V h 12 - 1) * (V h 6 * ux + V h 7 * uy) = p at *
  generalize (V h 10 - 1) * (V h 8 * ux + V h 9 * uy) = q at *
  simp only [mn0]
  split <;> split <;> omega
/-- a gap along a way -/
abbrev sepC (V : VV) (h o : Nat) (ux uy : Int) : Prop := -(lowC V h (-ux) (-uy)) < lowC V o ux uy ∨ -(lowC V o (-ux) (-uy)) < lowC V h ux uy
abbrev metC (V : VV) (h o : Nat) : Prop := (¬ sepC V h o (V h 6) (V h 7) ∧ ¬ sepC V h o (-(V h 7)) (V h 6) ∧ ¬ sepC V h o (V h 8) (V h 9) ∧ ¬ sepC V h o (-(V h 9)) (V h 8)) ∧ ¬ sepC V o h (V o 6) (V o 7) ∧ ¬ sepC V o h (-(V o 7)) (V o 6) ∧ ¬ sepC V o h (V o 8) (V o 9) ∧ ¬ sepC V o h (-(V o 9)) (V o 8)
