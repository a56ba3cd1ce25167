/-! the reference's parser: its state, and what each step makes of it -/
def psV (V0 : VV) (n f : Nat) (rf : Int) (rd : Nat) (lo hi : Nat → Int) : VV := fun k j => if k = 99 then (if j = 31 then (n : Int) else if j = 32 then (f : Int) else if j = 33 then (tokE (V0 120) n f : Int) else if j = 35 then rf else if j = 37 then (rd : Int) else V0 99 j) else if k = 124 then lo j else if k = 125 then hi j else V0 k j
theorem ps_120 (V0 : VV) (n f : Nat) (rf : Int) (rd : Nat) (lo hi : Nat → Int) : psV V0 n f rf rd lo hi 120 = V0 120 := rfl
theorem ps_next (V0 : VV) (n f : Nat) (rf : Int) (rd : Nat) (lo hi : Nat → Int) : nextV (psV V0 n f rf rd lo hi) n (tokE (V0 120) n f) = psV V0 n (nxt (V0 120) n f) rf rd lo hi := by
  funext k j
  unfold nextV
  rw [ps_120]
  unfold uV psV nxt
  by_cases h : k = 99
  · subst h
    by_cases h1 : j = 33
    · subst h1; simp
    · by_cases h2 : j = 32
      · subst h2; simp
      · simp [h1, h2]
  · simp [h]
theorem ps_fault (V0 : VV) (n f : Nat) (rf : Int) (rd : Nat) (lo hi : Nat → Int) : uV (psV V0 n f rf rd lo hi) 99 35 (f : Int) = psV V0 n f (f : Int) rd lo hi := by
  funext k j
  unfold uV psV
  by_cases h : k = 99
  · subst h
    by_cases h1 : j = 35
    · subst h1; simp
    · simp [h1]
  · simp [h]
def wmB (t : Nat → Int) : Nat → Nat → Nat → Nat → Bool
  | 0, _, _, _ => false
  | f + 1, w, k, e => if w = 0 then decide (k = e) else decide (k < e) && (decide (t k = 96 + ((w % 32 : Nat) : Int)) && wmB t f (w / 32) (k + 1) e)
theorem wm_0 {t : Nat → Int} {f w k e : Nat} (h : w = 0) : wmB t (f + 1) w k e = decide (k = e) := by unfold wmB; rw [if_pos h]
theorem wm_s {t : Nat → Int} {f w k e : Nat} (h : w ≠ 0) : wmB t (f + 1) w k e = (decide (k < e) && (decide (t k = 96 + ((w % 32 : Nat) : Int)) && wmB t f (w / 32) (k + 1) e)) := by
  show (if w = 0 then _ else _) = _
  rw [if_neg h]
abbrev numOK (t : Nat → Int) (n f : Nat) (l m : Int) : Prop := f < n ∧ isDb (t f) = true ∧ l ≤ exN t f (tokE t n f) ∧ exN t f (tokE t n f) ≤ m
theorem ex_s (t : Nat → Int) (p k : Nat) : exF t p (k + 1) = 10 * exF t p k + (t (p + k) - 48) := rfl
theorem ex_nn {t : Nat → Int} {p : Nat} : ∀ {k : Nat}, (∀ j, j < k → 48 ≤ t (p + j)) → 0 ≤ exF t p k
  | 0, _ => Int.le_refl 0
  | k + 1, h => by
    have h1 := ex_nn (k := k) (fun j hj => h j (by omega))
    have h2 := h k (by omega)
    rw [ex_s]
    omega
