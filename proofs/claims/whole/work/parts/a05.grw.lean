/-! the finder's growing -/
def leH (s s' : HS) : Prop := s.2.1 ≤ s'.2.1 ∧ s.2.2.1 ≤ s'.2.2.1 ∧ s.2.2.2.1 ≤ s'.2.2.2.1
section
variable {P : Nat → Nat → Int} {F : Nat → Int} {k6 : Int} {rows : Nat}
theorem hstp_le {s s' : HS} {i j : Nat} (e : hstp P F k6 s i j = some s') : leH s s' := by
  unfold hstp at e
  unfold leH
  by_cases q : P i j < 0
  · rw [if_pos q] at e
    have e := Option.some.inj e
    by_cases q2 : P i j = -2
    · rw [if_pos q2] at e; subst e; dsimp only; omega
    · rw [if_neg q2] at e
      by_cases q3 : P i j = -3
      · rw [if_pos q3] at e; subst e; dsimp only; omega
      · rw [if_neg q3] at e; subst e; dsimp only; omega
  · rw [if_neg q] at e
    by_cases q2 : s.2.2.2.2.testBit (P i j).toNat = true
    · rw [if_pos q2] at e; cases e
    · rw [if_neg q2] at e
      by_cases q3 : 0 < j ∧ 0 ≤ P i (j - 1) ∧ k6 < abI (F (P i j).toNat - F (P i (j - 1)).toNat)
      · rw [if_pos q3] at e; cases e
      · rw [if_neg q3] at e
        have e := Option.some.inj e
        subst e; dsimp only; omega
theorem leH_t {a b c : HS} (h : leH a b) (g : leH b c) : leH a c := by unfold leH at *; omega
theorem leH_r {a : HS} : leH a a := by unfold leH; omega
theorem hrow_le {i : Nat} {s0 : HS} : ∀ {j : Nat} {s : HS}, hrow P F k6 (some s0) i j = some s → leH s0 s
  | 0, s, e => by
    have e : some s0 = some s := e
    cases e; exact leH_r
  | j + 1, s, e => by
    cases q : hrow P F k6 (some s0) i j with
    | none => rw [show hrow P F k6 (some s0) i (j + 1) = none from hrow_f q (by omega)] at e; cases e
    | some s1 =>
      rw [hrow_n q] at e
      exact leH_t (hrow_le q) (hstp_le e)
theorem hall_le {i : Nat} : ∀ {n : Nat} {s : HS}, i ≤ n → hall P F k6 rows n = some s → ∃ s', hall P F k6 rows i = some s' ∧ leH s' s
  | 0, s, h, e => by
    rw [show i = 0 by omega]; exact ⟨s, e, leH_r⟩
  | n + 1, s, h, e => by
    by_cases q : i = n + 1
    · rw [q]; exact ⟨s, e, leH_r⟩
    · cases w : hall P F k6 rows n with
      | none => rw [show hall P F k6 rows (n + 1) = none from hall_f w (by omega)] at e; cases e
      | some s1 =>
        have e : hrow P F k6 (hall P F k6 rows n) n rows = some s := e
        rw [w] at e
        obtain ⟨s', g1, g2⟩ := hall_le (show i ≤ n by omega) w
        exact ⟨s', g1, leH_t g2 (hrow_le e)⟩
end
section
variable (b : Bk) (k : Int) (S : Sp) (K : Kd) (p q r : Nat)
/-- a house with n posts, but for its corners -/
def hkB (n : Nat) : Bool := match hsO b k S K p q r n with
  | none => false
  | some s => decide ((n : Int) * K.l 0 ≤ 2 * s.1 ∧ s.2.1 ≤ K.l 7)
def tkF (lo : Nat) : Nat → Nat
  | 0 => 0
  | n + 1 => if lo ≤ n + 1 ∧ hkB b k S K p q r (n + 1) = true then n + 1 else tkF lo n
/-- the trial's counts are those of n posts -/
def trK (n : Nat) (X : VV) : Prop := X 55 12 = (n : Int) ∧ (n ≠ 0 → ∃ s, hsO b k S K p q r n = some s ∧ X 55 13 = s.1 ∧ X 55 14 = s.2.1 ∧ X 55 15 = s.2.2.1 ∧ X 55 16 = s.2.2.2.1 ∧ X 55 17 = K.l 9 * s.1 - 5 * s.2.1 - 2 * s.2.2.1 ∧ ∃ c : Nat, X 55 18 = (c : Int) ∧ mR S s.2.2.2.2 c)
end
section
variable {b : Bk} {k : Int} {S : Sp} {K : Kd} {p q r n lo : Nat} {s : HS} {i : Nat}
theorem hk_s (h : hsO b k S K p q r n = some s) : hkB b k S K p q r n = decide ((n : Int) * K.l 0 ≤ 2 * s.1 ∧ s.2.1 ≤ K.l 7) := by unfold hkB; rw [h]
theorem hk_i (h : hkB b k S K p q r n = true) : ∃ s, hsO b k S K p q r n = some s ∧ (n : Int) * K.l 0 ≤ 2 * s.1 ∧ s.2.1 ≤ K.l 7 := by
  unfold hkB at h
  cases e : hsO b k S K p q r n with
  | none => rw [e] at h; cases h
  | some s => rw [e] at h; exact ⟨s, rfl, of_decide_eq_true h⟩
theorem gr_a (h : ¬ faB b k S K p q r i = true) (hn : i < n) : ¬ hkB b k S K p q r n = true := by
  intro z
  obtain ⟨s, h1, h2, h3⟩ := hk_i z
  obtain ⟨s', g1, g2⟩ := hall_le (show i + 1 ≤ n by omega) (show hall (plO b k S K p q r) S.f (K.l 6) (K.l 0).toNat n = some s from h1)
  apply h
  rw [fa_s (show hsO b k S K p q r (i + 1) = some s' from g1)]
  exact decide_eq_true (by have := g2.1; omega)
theorem gr_b {ro : Nat} {hi : Nat} (hro : K.l 0 = (ro : Int)) (hm : S.m ≤ 40) (h : hsO b k S K p q r (i + 1) = some s) (hb : (hi : Int) * (ro : Int) < 2 * (((i : Int) + 1) * (ro : Int) - s.1)) (hn : i < n) (hn2 : n ≤ hi) : ¬ hkB b k S K p q r n = true := by
  intro z
  obtain ⟨u, h1, h2, h3⟩ := hk_i z
  obtain ⟨s', g1, g2⟩ := hall_le (show i + 1 ≤ n by omega) (show hall (plO b k S K p q r) S.f (K.l 6) (K.l 0).toNat n = some u from h1)
  have g1 : hsO b k S K p q r (i + 1) = some s' := g1
  rw [h] at g1
  cases g1
  have I1 := (hs_I (j := 0) hro hm h1 rfl).1
  have I2 := (hs_I (j := 0) hro hm h rfl).1
  rw [hro] at h2
  have m1 : n * ro ≤ hi * ro := Nat.mul_le_mul_right ro hn2
  have e1 : ((n * ro : Nat) : Int) = (n : Int) * (ro : Int) := by push_cast; rfl
  have e2 : ((hi * ro : Nat) : Int) = (hi : Int) * (ro : Int) := by push_cast; rfl
  have e3 : (((i + 1) * ro : Nat) : Int) = ((i : Int) + 1) * (ro : Int) := by push_cast; rfl
  obtain ⟨l1, l2, l3⟩ := g2
  omega
theorem tk_t (h : lo ≤ n + 1) (h2 : hkB b k S K p q r (n + 1) = true) : tkF b k S K p q r lo (n + 1) = n + 1 := by unfold tkF; rw [if_pos ⟨h, h2⟩]
theorem tk_f (h : ¬ (lo ≤ n + 1 ∧ hkB b k S K p q r (n + 1) = true)) : tkF b k S K p q r lo (n + 1) = tkF b k S K p q r lo n := by
  conv => lhs; unfold tkF
  rw [if_neg h]
theorem tk_e : ∀ {n : Nat}, i ≤ n → (∀ m, i < m → m ≤ n → ¬ hkB b k S K p q r m = true) → tkF b k S K p q r lo n = tkF b k S K p q r lo i
  | 0, h, _ => by rw [show i = 0 by omega]
  | n + 1, h, g => by
    by_cases w : i = n + 1
    · rw [w]
    · rw [tk_f (fun z => g (n + 1) (by omega) (by omega) z.2)]
      exact tk_e (by omega) (fun m h1 h2 => g m h1 (by omega))
end
theorem trK_x {b : Bk} {k : Int} {S : Sp} {K : Kd} {p q r n : Nat} {X X' : VV} (h : trK b k S K p q r n X) (e : X' 55 = X 55) : trK b k S K p q r n X' := by
  unfold trK; rw [e]; exact h
theorem hsC_x {S : Sp} {s : HS} {X X' : VV} (h : hsC S s X) (e : X' 52 = X 52) : hsC S s X' := by
  unfold hsC; rw [e]; exact h
theorem hs_b {b : Bk} {k : Int} {S : Sp} {K : Kd} {p q r n ro : Nat} {s : HS} (hro : K.l 0 = (ro : Int)) (hr4 : ro ≤ 4) (hm : S.m ≤ 40) (hn : n ≤ 8) (h : hsO b k S K p q r n = some s) : ((0 ≤ s.1 ∧ s.1 ≤ 32) ∧ (0 ≤ s.2.1 ∧ s.2.1 ≤ 32) ∧ (0 ≤ s.2.2.1 ∧ s.2.2.1 ≤ 32) ∧ 0 ≤ s.2.2.2.1 ∧ s.2.2.2.1 ≤ 32) ∧ s.1 + s.2.1 + s.2.2.1 + s.2.2.2.1 = (n : Int) * (ro : Int) := by
  have I := (hs_I (j := 0) hro hm h rfl).1
  have hmul : n * ro ≤ 8 * 4 := Nat.mul_le_mul hn hr4
  have e1 : ((n * ro : Nat) : Int) = (n : Int) * (ro : Int) := by push_cast; rfl
  omega
