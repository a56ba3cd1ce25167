/-! the reference's phases as they lie -/
theorem bi_0 {b : Bool} : bi b = 0 ↔ b = false := by cases b <;> decide
theorem bi_n {b : Bool} : ¬ bi b = 0 ↔ b = true := by cases b <;> decide
theorem bi_1 {b : Bool} : bi b = 1 ↔ b = true := by cases b <;> decide
def relM (mt lt : Nat → Nat → Bool) (n : Nat) (V : VV) : Prop := (∀ i j, i < n → j < n → V 153 (24 * i + j) = bi (mt i j)) ∧ ∀ i j, i < n → j < n → V 152 (24 * i + j) = bi (lt i j)
theorem relM_x {mt lt : Nat → Nat → Bool} {n : Nat} {V V' : VV} (h : relM mt lt n V) (e1 : V' 152 = V 152) (e2 : V' 153 = V 153) : relM mt lt n V' := by
  unfold relM
  rw [e1, e2]
  exact h
/-- rows found so far -/
def stN (n : Nat) (l : List (Nat → Nat)) (V : VV) : Prop := V 99 85 = ((min 1000 l.length : Nat) : Int) ∧ ∀ g t, l = g :: t → ∀ j, j < n → V 155 j = (g j : Int)
section
variable {mt lt : Nat → Nat → Bool} {n m i j v u : Nat} {f : Nat → Nat} {l k : List (Nat → Nat)} {V V' : VV}
theorem stN_e (h : stN n l V) (q : V 99 85 = 1000) : stN n (l ++ k) V := by
  have h1 := h.1
  rw [q] at h1
  refine ⟨?_, fun g t e => ?_⟩
  · rw [q, List.length_append]; omega
  · cases l with
    | nil => rw [List.length_nil] at h1; omega
    | cons a s =>
      rw [List.cons_append] at e
      injection e with e1 e2
      exact h.2 g s (by rw [e1])
theorem stN_x (h : stN n l V) (e1 : V' 99 85 = V 99 85) (e2 : V' 155 = V 155) : stN n l V' := by
  unfold stN
  rw [e1, e2]
  exact h
theorem stN_a (h : stN n l V) (hr : V 99 85 ≠ 0) (e1 : V' 99 85 = ((min 1000 (l ++ [f]).length : Nat) : Int)) (e2 : ∀ j, j < n → V' 155 j = V 155 j) : stN n (l ++ [f]) V' := by
  refine ⟨e1, fun g t e j hj => ?_⟩
  have h1 := h.1
  cases l with
  | nil => rw [List.length_nil] at h1; omega
  | cons a s =>
    rw [List.cons_append] at e
    injection e with e3 e4
    rw [e2 j hj]
    exact h.2 g s (by rw [e3]) j hj
theorem stN_b (h : stN n l V) (hr : V 99 85 = 0) (e1 : V' 99 85 = ((min 1000 (l ++ [f]).length : Nat) : Int)) (e2 : ∀ j, j < n → V' 155 j = (f j : Int)) : stN n (l ++ [f]) V' := by
  refine ⟨e1, fun g t e j hj => ?_⟩
  have h1 := h.1
  cases l with
  | nil =>
    rw [List.nil_append] at e
    injection e with e3 e4
    rw [e2 j hj, e3]
  | cons a s => rw [List.length_cons] at h1; omega
theorem upN_lo (h : j < i) : upN f i v j = f j := if_neg (by omega)
theorem upN_at : upN f i v i = v := if_pos rfl
theorem up_row {X X' : VV} {x : Int} (hX : ∀ j, j < i → X 154 j = (f j : Int)) (e : X' = uV X 154 i x) (hx : x = (v : Int)) : ∀ j, j < i + 1 → X' 154 j = (upN f i v j : Int) := by
  intro j hj
  rw [e, uV_at]
  unfold upN
  by_cases q : j = i
  · rw [if_pos q, if_pos q, hx]
  · rw [if_neg q, if_neg q]; exact hX j (by omega)
theorem cls_t (h1 : ¬ (mt i j = true ∧ f j = v)) (h2 : ¬ (lt i j = true ∧ v ≤ f j)) (h3 : ¬ (lt j i = true ∧ f j ≤ v)) : clsB mt lt f i v j = false := by
  unfold clsB
  rw [Bool.or_eq_false_iff, Bool.or_eq_false_iff]
  refine ⟨Bool.eq_false_iff.mpr fun z => h1 ?_, Bool.eq_false_iff.mpr fun z => h2 ?_, Bool.eq_false_iff.mpr fun z => h3 ?_⟩
  · rw [Bool.and_eq_true, decide_eq_true_iff] at z; exact z
  · rw [Bool.and_eq_true, decide_eq_true_iff] at z; exact z
  · rw [Bool.and_eq_true, decide_eq_true_iff] at z; exact z
theorem cls_f (h : (mt i j = true ∧ f j = v) ∨ (lt i j = true ∧ v ≤ f j) ∨ (lt j i = true ∧ f j ≤ v)) : clsB mt lt f i v j = true := by
  unfold clsB
  rw [Bool.or_eq_true, Bool.or_eq_true, Bool.and_eq_true, Bool.and_eq_true, Bool.and_eq_true, decide_eq_true_iff, decide_eq_true_iff, decide_eq_true_iff]
  exact h
end
def nbP (G : GG) (R : RR) (mt lt : Nat → Nat → Bool) (n m u : Nat) : Prop := ∀ (V : VV) (i : Nat) (f : Nat → Nat) (l : List (Nat → Nat)), i + u = n → Bd V → relM mt lt n V → V 99 83 = (n : Int) → (∀ j, j < i → V 154 j = (f j : Int)) → stN n l V → Runs G M_X11_numbers (u + 2) 162 162 [vr 99, vi (i : Int), vi (m : Int)] V R (PQ [(154, 155)] [(99, 85, 85)] V R (fun o X => o = none ∧ (∀ j, j < i → X 154 j = (f j : Int)) ∧ stN n (l ++ nbL mt lt m u i f) X))
/-! the round of those later than each other -/
def rdM (T : Nat → Nat → Bool) (n : Nat) (V : VV) : Prop := ∀ i j, i < n → j < n → V 159 (24 * i + j) = bi (T i j)
/-- in the midst of a pass through m: rows below i are done, in row i those below j -/
def warI (T : Nat → Nat → Bool) (m i j : Nat) (a b : Nat) : Bool := if a < i ∨ (a = i ∧ b < j) then warS T (m + 1) a b else warS T m a b
section
variable {T : Nat → Nat → Bool} {n m i j a b : Nat} {V V' : VV}
theorem warI_0 : warI T m 0 0 a b = warS T m a b := if_neg (by omega)
theorem warI_n (h : a < n) : warI T m n 0 a b = warS T (m + 1) a b := if_pos (by omega)
theorem warI_r (hb : b < n) : warI T m i n a b = warI T m (i + 1) 0 a b := by
  unfold warI
  by_cases q : a < i ∨ (a = i ∧ b < n)
  · rw [if_pos q, if_pos (by omega)]
  · rw [if_neg q, if_neg (by omega)]
theorem war_m1 : warS T (m + 1) a m = warS T m a m := by
  show (warS T m a m || (warS T m a m && warS T m m m)) = warS T m a m
  cases warS T m a m <;> rfl
theorem war_m2 : warS T (m + 1) m b = warS T m m b := by
  show (warS T m m b || (warS T m m m && warS T m m b)) = warS T m m b
  cases warS T m m b <;> cases warS T m m m <;> rfl
theorem warI_c1 : warI T m i j a m = warS T m a m := by
  unfold warI
  split
  · exact war_m1
  · rfl
theorem warI_c2 : warI T m i j m b = warS T m m b := by
  unfold warI
  split
  · exact war_m2
  · rfl
theorem rd_x (h : ∀ a b, a < n → b < n → V 159 (24 * a + b) = bi (warI T m i j a b)) (e : ∀ a b, a < n → b < n → warI T m i j a b = warI T m i (j + 1) a b ∨ (a = i ∧ b = j)) (hij : V' 159 (24 * i + j) = bi (warS T (m + 1) i j)) (ho : ∀ x, x ≠ 24 * i + j → V' 159 x = V 159 x) (hn : n ≤ 13) (hj : j < n) : ∀ a b, a < n → b < n → V' 159 (24 * a + b) = bi (warI T m i (j + 1) a b) := by
  intro a b ha hb
  by_cases q : a = i ∧ b = j
  · obtain ⟨rfl, rfl⟩ := q
    rw [hij]
    unfold warI
    rw [if_pos (by omega)]
  · rw [ho _ (by omega), h a b ha hb]
    rcases e a b ha hb with z | z
    · rw [z]
    · exact absurd z q
theorem warI_s (q : ¬ (a = i ∧ b = j)) : warI T m i j a b = warI T m i (j + 1) a b := by
  unfold warI
  by_cases w : a < i ∨ (a = i ∧ b < j)
  · rw [if_pos w, if_pos (by omega)]
  · rw [if_neg w, if_neg (by omega)]
theorem warI_e (a b : Nat) : warI T m i j a b = warI T m i (j + 1) a b ∨ (a = i ∧ b = j) := (Classical.em (a = i ∧ b = j)).elim Or.inr fun q => Or.inl (warI_s q)
end
