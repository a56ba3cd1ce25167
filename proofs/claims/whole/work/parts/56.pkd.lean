/-! kinds -/
def dfL : List Int := [2, 2, 10, 20, 3, 0, 300, 0, 30, 10]
def dfH : List Int := [2, 8, 40, 80, 3, 300, 300, 0, 30, 10]
def setD (lo : Nat → Int) (rd : Nat) (d : List Int) : Nat → Int := fun j => if 10 * rd ≤ j ∧ j < 10 * rd + 10 then d.getD (j - 10 * rd) 0 else lo j
/-- clauses, as far as commas go on: c the fuel -/
def cls (t : Nat → Int) (n rd : Nat) : Nat → Nat → (Nat → Int) → (Nat → Int) → Nat × Int × (Nat → Int) × (Nat → Int)
  | 0, f, lo, hi => (f, (f : Int), lo, hi)
  | c + 1, f, lo, hi => if (clS t n f rd lo hi).2.1 = -1 ∧ (clS t n f rd lo hi).1 < n ∧ t (clS t n f rd lo hi).1 = 44 then cls t n rd c (nxt t n (clS t n f rd lo hi).1) (clS t n f rd lo hi).2.2.1 (clS t n f rd lo hi).2.2.2 else clS t n f rd lo hi
/-- a KIND: next token, fault or -1, how many are read, the numbers -/
def kdS (t : Nat → Int) (n f rd : Nat) (lo hi : Nat → Int) : Nat × Int × Nat × (Nat → Int) × (Nat → Int) :=
  if rd = 5 ∨ ¬ wdb 0 t f (tokE t n f) = true then (f, (f : Int), rd, lo, hi) else
  if ¬ (nxt t n f < n ∧ t (nxt t n f) = 123) then (nxt t n f, (nxt t n f : Int), rd, setD lo rd dfL, setD hi rd dfH) else
  let f2 := nxt t n (nxt t n f)
  let r := if f2 < n ∧ t f2 = 125 then (f2, (-1 : Int), setD lo rd dfL, setD hi rd dfH) else cls t n rd 401 f2 (setD lo rd dfL) (setD hi rd dfH)
  if ¬ r.2.1 = -1 then (r.1, r.2.1, rd, r.2.2.1, r.2.2.2) else
  if r.1 < n ∧ t r.1 = 125 then (nxt t n r.1, -1, rd + 1, r.2.2.1, r.2.2.2) else (r.1, (r.1 : Int), rd, r.2.2.1, r.2.2.2)
/-- KINDS: from a KIND on, as far as semicolons go -/
def kdsF (t : Nat → Int) (n : Nat) : Nat → Nat → Nat → (Nat → Int) → (Nat → Int) → Nat × Int × Nat × (Nat → Int) × (Nat → Int)
  | 0, f, rd, lo, hi => (f, (f : Int), rd, lo, hi)
  | c + 1, f, rd, lo, hi => if (kdS t n f rd lo hi).2.1 = -1 ∧ (kdS t n f rd lo hi).1 < n ∧ t (kdS t n f rd lo hi).1 = 59 then kdsF t n c (nxt t n (kdS t n f rd lo hi).1) (kdS t n f rd lo hi).2.2.1 (kdS t n f rd lo hi).2.2.2.1 (kdS t n f rd lo hi).2.2.2.2 else kdS t n f rd lo hi
theorem clS_le {t : Nat → Int} {n f rd : Nat} {lo hi : Nat → Int} (h : f ≤ n) : f ≤ (clS t n f rd lo hi).1 ∧ (clS t n f rd lo hi).1 ≤ n ∧ ((clS t n f rd lo hi).2.1 = -1 → f < (clS t n f rd lo hi).1) ∧ -1 ≤ (clS t n f rd lo hi).2.1 ∧ (clS t n f rd lo hi).2.1 ≤ n := by
  have h1 := nxt_le (t := t) h
  have h2 := nxt_le (t := t) h1.2.1
  have h3 := nxt_le (t := t) h2.2.1
  have h4 := nxt_le (t := t) h3.2.1
  unfold clS
  simp only []
  split
  · simp; omega
  · split
    · simp; omega
    · rename_i h5
      have h5 := Classical.not_not.mp h5
      have h6 := h5.1
      split
      · simp; omega
      · split
        · simp; omega
        · split
          · simp; omega
          · simp; omega
