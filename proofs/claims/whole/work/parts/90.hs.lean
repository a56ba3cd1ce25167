/-! houses: bits -/
theorem tb_1 {a s : Nat} (ha : a < 2 ^ 62) (hs : s < 64) : landZ (lshrZ (a : Int) (s : Int)) 1 = if a.testBit s = true then 1 else 0 := by
  have h1 : a / 2 ^ s < 2 ^ 63 := Nat.lt_of_le_of_lt (Nat.div_le_self _ _) (Nat.lt_trans ha (by decide))
  rw [lshr_n hs ha, show (1 : Int) = ((1 : Nat) : Int) from rfl, land_n h1 (by decide), Nat.and_one_is_mod, Nat.testBit_eq_decide_div_mod_eq]
  have h2 : a / 2 ^ s % 2 = 0 ∨ a / 2 ^ s % 2 = 1 := by omega
  rcases h2 with h2 | h2
  · rw [h2]; rfl
  · rw [h2]; rfl
theorem or_s {a s : Nat} (ha : a < 2 ^ 40) (hs : s < 40) : lorZ (a : Int) (lshlZ 1 (s : Int)) = ((a ||| 2 ^ s : Nat) : Int) ∧ a ||| 2 ^ s < 2 ^ 40 := by
  have h1 : 2 ^ s < 2 ^ 40 := wb_lt2 hs
  have h2 : 1 * 2 ^ s < 2 ^ 63 := by rw [Nat.one_mul]; exact Nat.lt_trans h1 (by decide)
  refine ⟨?_, Nat.or_lt_two_pow ha h1⟩
  rw [show (1 : Int) = ((1 : Nat) : Int) from rfl, lshl_n (by omega) h2, Nat.one_mul, lor_n (Nat.lt_trans ha (by decide)) (Nat.lt_trans h1 (by decide))]
theorem tb_or {a s t : Nat} : (a ||| 2 ^ s).testBit t = true ↔ a.testBit t = true ∨ s = t := by
  rw [Nat.testBit_or, Bool.or_eq_true, Nat.testBit_two_pow, decide_eq_true_iff]
/-! houses: what a framework's places come to -/
abbrev HS : Type := Int × Int × Int × Int × Nat
section
variable (P : Nat → Nat → Int) (F : Nat → Int) (k6 : Int)
/-- one place more: filled, missed, lost, unseen, by which -/
def hstp (st : HS) (i j : Nat) : Option HS :=
  if P i j < 0 then some (if P i j = -2 then (st.1, st.2.1, st.2.2.1, st.2.2.2.1 + 1, st.2.2.2.2) else if P i j = -3 then (st.1, st.2.1, st.2.2.1 + 1, st.2.2.2.1, st.2.2.2.2) else (st.1, st.2.1 + 1, st.2.2.1, st.2.2.2.1, st.2.2.2.2))
  else if st.2.2.2.2.testBit (P i j).toNat = true then none
  else if 0 < j ∧ 0 ≤ P i (j - 1) ∧ k6 < abI (F (P i j).toNat - F (P i (j - 1)).toNat) then none
  else some (st.1 + 1, st.2.1, st.2.2.1, st.2.2.2.1, st.2.2.2.2 ||| 2 ^ (P i j).toNat)
def hrow (st : Option HS) (i : Nat) : Nat → Option HS
  | 0 => st
  | j + 1 => (hrow st i j).bind fun s => hstp P F k6 s i j
def hall (rows : Nat) : Nat → Option HS
  | 0 => some (0, 0, 0, 0, 0)
  | i + 1 => hrow P F k6 (hall rows i) i rows
end
section
variable {P : Nat → Nat → Int} {F : Nat → Int} {k6 : Int} {rows : Nat}
theorem hrow_n {i j : Nat} {s : HS} {o : Option HS} (h : hrow P F k6 o i j = some s) : hrow P F k6 o i (j + 1) = hstp P F k6 s i j := by
  show (hrow P F k6 o i j).bind _ = _
  rw [h]; rfl
theorem hrow_f {i : Nat} {o : Option HS} {j : Nat} (h : hrow P F k6 o i j = none) : ∀ {j' : Nat}, j ≤ j' → hrow P F k6 o i j' = none
  | 0, q => by rw [show 0 = j by omega]; exact h
  | j' + 1, q => by
    rcases Nat.lt_or_ge j (j' + 1) with w | w
    · show (hrow P F k6 o i j').bind _ = _
      rw [hrow_f h (show j ≤ j' by omega)]; rfl
    · rw [show j' + 1 = j by omega]; exact h
theorem hrow_none {i : Nat} : ∀ {j : Nat}, hrow P F k6 none i j = none
  | 0 => rfl
  | j + 1 => by
    show (hrow P F k6 none i j).bind _ = _
    rw [hrow_none]; rfl
theorem hall_f {i : Nat} (h : hall P F k6 rows i = none) : ∀ {i' : Nat}, i ≤ i' → hall P F k6 rows i' = none
  | 0, q => by rw [show 0 = i by omega]; exact h
  | i' + 1, q => by
    rcases Nat.lt_or_ge i (i' + 1) with w | w
    · show hrow P F k6 (hall P F k6 rows i') i' rows = none
      rw [hall_f h (show i ≤ i' by omega)]; exact hrow_none
    · rw [show i' + 1 = i by omega]; exact h
/-- counts fit the number of places, the set holds just the places' spots -/
def hsI (P : Nat → Nat → Int) (n : Int) (C : Nat → Nat → Prop) (s : HS) : Prop := (0 ≤ s.1 ∧ 0 ≤ s.2.1 ∧ 0 ≤ s.2.2.1 ∧ 0 ≤ s.2.2.2.1 ∧ s.1 + s.2.1 + s.2.2.1 + s.2.2.2.1 = n) ∧ s.2.2.2.2 < 2 ^ 40 ∧ ∀ t, s.2.2.2.2.testBit t = true ↔ ∃ i j, C i j ∧ P i j = (t : Int)
theorem hstp_I {n : Int} {C : Nat → Nat → Prop} {s s' : HS} {i j : Nat} (hP : P i j < 40) (h : hsI P n C s) (e : hstp P F k6 s i j = some s') : hsI P (n + 1) (fun a c => C a c ∨ (a = i ∧ c = j)) s' := by
  obtain ⟨h1, h2, h3⟩ := h
  unfold hstp at e
  by_cases q : P i j < 0
  · rw [if_pos q] at e
    have h4 : ∀ t, s.2.2.2.2.testBit t = true ↔ ∃ a c, (C a c ∨ (a = i ∧ c = j)) ∧ P a c = (t : Int) := fun t => by
      rw [h3 t]
      constructor
      · rintro ⟨a, c, w1, w2⟩; exact ⟨a, c, Or.inl w1, w2⟩
      · rintro ⟨a, c, w1 | ⟨rfl, rfl⟩, w2⟩
        · exact ⟨a, c, w1, w2⟩
        · omega
    have e := Option.some.inj e
    by_cases q2 : P i j = -2
    · rw [if_pos q2] at e; subst e
      exact ⟨by dsimp only; omega, h2, h4⟩
    · rw [if_neg q2] at e
      by_cases q3 : P i j = -3
      · rw [if_pos q3] at e; subst e
        exact ⟨by dsimp only; omega, h2, h4⟩
      · rw [if_neg q3] at e; subst e
        exact ⟨by dsimp only; omega, h2, h4⟩
  · rw [if_neg q] at e
    by_cases q2 : s.2.2.2.2.testBit (P i j).toNat = true
    · rw [if_pos q2] at e; cases e
    · rw [if_neg q2] at e
      by_cases q3 : 0 < j ∧ 0 ≤ P i (j - 1) ∧ k6 < abI (F (P i j).toNat - F (P i (j - 1)).toNat)
      · rw [if_pos q3] at e; cases e
      · rw [if_neg q3] at e
        have e := Option.some.inj e
        subst e
        refine ⟨by dsimp only; omega, Nat.or_lt_two_pow h2 (wb_lt2 (by omega)), fun t => ?_⟩
        dsimp only
        rw [tb_or, h3 t]
        constructor
        · rintro (⟨a, c, w1, w2⟩ | w)
          · exact ⟨a, c, Or.inl w1, w2⟩
          · exact ⟨i, j, Or.inr ⟨rfl, rfl⟩, by omega⟩
        · rintro ⟨a, c, w1 | ⟨rfl, rfl⟩, w2⟩
          · exact Or.inl ⟨a, c, w1, w2⟩
          · exact Or.inr (by omega)
theorem hsI_w {n n' : Int} {C C' : Nat → Nat → Prop} {s : HS} (h : hsI P n C s) (hn : n' = n) (hC : ∀ a c, C' a c ↔ C a c) : hsI P n' C' s := by
  obtain ⟨h1, h2, h3⟩ := h
  refine ⟨by rw [hn]; exact h1, h2, fun t => ?_⟩
  rw [h3 t]
  constructor
  · rintro ⟨a, c, w1, w2⟩; exact ⟨a, c, (hC a c).mpr w1, w2⟩
  · rintro ⟨a, c, w1, w2⟩; exact ⟨a, c, (hC a c).mp w1, w2⟩
theorem hrow_I (hP : ∀ i j, P i j < 40) {i : Nat} {n : Int} {C : Nat → Nat → Prop} {s0 : HS} (h0 : hsI P n C s0) : ∀ {j : Nat} {s : HS}, hrow P F k6 (some s0) i j = some s → hsI P (n + j) (fun a c => C a c ∨ (a = i ∧ c < j)) s
  | 0, s, e => by
    have e : some s0 = some s := e
    cases e
    exact hsI_w h0 (by omega) (fun a c => ⟨fun z => by rcases z with z | z; exact z; omega, Or.inl⟩)
  | j + 1, s, e => by
    cases q : hrow P F k6 (some s0) i j with
    | none => rw [show hrow P F k6 (some s0) i (j + 1) = none from hrow_f q (by omega)] at e; cases e
    | some s1 =>
      rw [hrow_n q] at e
      have w := hstp_I (hP i j) (hrow_I hP h0 q) e
      refine hsI_w w (by omega) (fun a c => ?_)
      constructor
      · rintro (z | z)
        · exact Or.inl (Or.inl z)
        · by_cases y : c = j
          · exact Or.inr ⟨z.1, y⟩
          · exact Or.inl (Or.inr ⟨z.1, by omega⟩)
      · rintro ((z | z) | z)
        · exact Or.inl z
        · exact Or.inr ⟨z.1, by omega⟩
        · exact Or.inr ⟨z.1, by omega⟩
theorem hall_I (hP : ∀ i j, P i j < 40) : ∀ {i : Nat} {s : HS}, hall P F k6 rows i = some s → hsI P ((i * rows : Nat) : Int) (fun a c => a < i ∧ c < rows) s
  | 0, s, e => by
    have e : some ((0, 0, 0, 0, 0) : HS) = some s := e
    cases e
    refine ⟨by simp, by decide, fun t => ?_⟩
    rw [Nat.zero_testBit]
    constructor
    · intro z; cases z
    · rintro ⟨a, c, w, _⟩; omega
  | i + 1, s, e => by
    cases q : hall P F k6 rows i with
    | none => rw [show hall P F k6 rows (i + 1) = none from hall_f q (by omega)] at e; cases e
    | some s1 =>
      have e : hrow P F k6 (hall P F k6 rows i) i rows = some s := e
      rw [q] at e
      have w := hrow_I hP (hall_I hP q) e
      refine hsI_w w (by rw [Nat.succ_mul]; omega) (fun a c => ?_)
      constructor
      · rintro ⟨z1, z2⟩
        by_cases y : a = i
        · exact Or.inr ⟨y, z2⟩
        · exact Or.inl ⟨by omega, z2⟩
      · rintro (z | z)
        · exact ⟨by omega, z.2⟩
        · exact ⟨by omega, z.2⟩
end
