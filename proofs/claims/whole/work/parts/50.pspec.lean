/-! the text: tokens and what they are, over any row of bytes t of n places -/
def isLb (c : Int) : Bool := decide (97 ≤ c ∧ c ≤ 122)
def isDb (c : Int) : Bool := decide (48 ≤ c ∧ c ≤ 57)
def runF (b : Int → Bool) (t : Nat → Int) (n : Nat) : Nat → Nat → Nat
  | 0, p => p
  | f + 1, p => if p < n ∧ b (t p) = true then runF b t n f (p + 1) else p
def runB (b : Int → Bool) (t : Nat → Int) (n p : Nat) : Nat := runF b t n (n - p) p
theorem runB_eq (b : Int → Bool) (t : Nat → Int) (n p : Nat) : runB b t n p = if p < n ∧ b (t p) = true then runB b t n (p + 1) else p := by
  unfold runB
  rcases Nat.lt_or_ge p n with h | h
  · rw [show n - p = (n - (p + 1)) + 1 by omega]
    rfl
  · rw [show n - p = 0 by omega, if_neg (by omega)]
    rfl
theorem runB_ge (b : Int → Bool) (t : Nat → Int) (n : Nat) : ∀ (f p : Nat), n - p ≤ f → p ≤ runB b t n p ∧ (p ≤ n → runB b t n p ≤ n)
  | 0, p, h => by
    rw [runB_eq, if_neg (by omega)]
    omega
  | f + 1, p, h => by
    rw [runB_eq]
    split
    · have := runB_ge b t n f (p + 1) (by omega)
      omega
    · omega
def blB (c : Int) : Bool := decide (c = 32)
abbrev skipB (t : Nat → Int) (n p : Nat) : Nat := runB blB t n p
def tokE (t : Nat → Int) (n p : Nat) : Nat := if n ≤ p then p else if isLb (t p) = true then runB isLb t n p else if isDb (t p) = true then runB isDb t n p else p + 1
def nxt (t : Nat → Int) (n p : Nat) : Nat := skipB t n (tokE t n p)
theorem skipB_le {t : Nat → Int} {n p : Nat} (h : p ≤ n) : p ≤ skipB t n p ∧ skipB t n p ≤ n := ⟨(runB_ge _ t n _ p (Nat.le_refl _)).1, (runB_ge _ t n _ p (Nat.le_refl _)).2 h⟩
theorem tokE_le {t : Nat → Int} {n p : Nat} (h : p ≤ n) : p ≤ tokE t n p ∧ tokE t n p ≤ n ∧ (p < n → p < tokE t n p) := by
  unfold tokE
  split
  · omega
  · have h1 := runB_ge isLb t n _ p (Nat.le_refl _)
    have h2 := runB_ge isDb t n _ p (Nat.le_refl _)
    split
    · rename_i h3 h4
      have h5 := runB_eq isLb t n p
      rw [if_pos ⟨by omega, h4⟩] at h5
      have h6 := runB_ge isLb t n _ (p + 1) (Nat.le_refl _)
      omega
    · split
      · rename_i h3 h4 h5
        have h6 := runB_eq isDb t n p
        rw [if_pos ⟨by omega, h5⟩] at h6
        have h7 := runB_ge isDb t n _ (p + 1) (Nat.le_refl _)
        omega
      · omega
theorem nxt_le {t : Nat → Int} {n p : Nat} (h : p ≤ n) : p ≤ nxt t n p ∧ nxt t n p ≤ n ∧ (p < n → p < nxt t n p) := by
  have h1 := tokE_le (t := t) h
  have h2 := skipB_le (t := t) h1.2.1
  unfold nxt
  omega
/-- the words by number: those of tTxt -/
def wLen (j : Nat) : Nat := tLen.getD j 0
def wByt (j i : Nat) : Int := ((tByt.getD j []).getD i 0).toInt
def wd (j : Nat) (t : Nat → Int) (p e : Nat) : Prop := e = p + wLen j ∧ ∀ i, i < wLen j → t (p + i) = wByt j i
/-- the reference's words: letters in five bits -/
def wmF (t : Nat → Int) : Nat → Nat → Nat → Nat → Prop
  | 0, _, _, _ => False
  | f + 1, w, k, e => if w = 0 then k = e else k < e ∧ t k = 96 + ((w % 32 : Nat) : Int) ∧ wmF t f (w / 32) (k + 1) e
/-- the number that a row of digits is -/
def exF (t : Nat → Int) (p : Nat) : Nat → Int
  | 0 => 0
  | k + 1 => 10 * exF t p k + (t (p + k) - 48)
def exN (t : Nat → Int) (p e : Nat) : Int := exF t p (e - p)
theorem dig_run {t : Nat → Int} {n : Nat} {b : Int → Bool} : ∀ (f p j : Nat), n - p ≤ f → p ≤ j → j < runB b t n p → b (t j) = true
  | 0, p, j, h, h1, h2 => by
    rw [runB_eq, if_neg (by omega)] at h2
    omega
  | f + 1, p, j, h, h1, h2 => by
    rw [runB_eq] at h2
    split at h2
    · rename_i h3
      rcases Nat.eq_or_lt_of_le h1 with h4 | h4
      · rw [← h4]; exact h3.2
      · exact dig_run f (p + 1) j (by omega) h4 h2
    · omega
theorem dig_tok {t : Nat → Int} {n p j : Nat} (hp : p < n) (hd : isDb (t p) = true) (h1 : p ≤ j) (h2 : j < tokE t n p) : 48 ≤ t j ∧ t j ≤ 57 := by
  have hl : ¬ isLb (t p) = true := by
    unfold isDb at hd
    unfold isLb
    have := of_decide_eq_true hd
    intro h
    have := of_decide_eq_true h
    omega
  unfold tokE at h2
  rw [if_neg (by omega), if_neg hl, if_pos hd] at h2
  exact of_decide_eq_true (dig_run _ p j (Nat.le_refl _) h1 h2)
/-- which sort of clause a token begins; 10: none -/
def sortF (t : Nat → Int) (p e : Nat) : Nat → Nat → Nat
  | 0, s => s
  | f + 1, s => if (decide (e = p + wLen (3 + s)) && (List.range (wLen (3 + s))).all (fun i => decide (t (p + i) = wByt (3 + s) i))) = true then s else sortF t p e f (s + 1)
def lsB (s : Nat) : Int := (sCon 1).getD s 0
def msB (s : Nat) : Int := (sCon 2).getD s 0
def spB (s : Nat) : Bool := s == 1 || s == 2 || s == 3 || s == 5
