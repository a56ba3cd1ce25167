/-! the finder's counting -/
section
variable {b : Bk} {k : Int} {S : Sp} {K : Kd} {p q r n : Nat} {X X' V : VV} {s u : HS} {i j : Nat}
def unV (V : VV) (v : Int) : VV := if v = -2 then uV V 52 12 (V 52 12 + 1) else if v = -3 then uV V 52 11 (V 52 11 + 1) else uV V 52 10 (V 52 10 + 1)
theorem un_C {v : Int} (h : hsC S u V) (e : X = unV V v) : hsC S (if v = -2 then (u.1, u.2.1, u.2.2.1, u.2.2.2.1 + 1, u.2.2.2.2) else if v = -3 then (u.1, u.2.1, u.2.2.1 + 1, u.2.2.2.1, u.2.2.2.2) else (u.1, u.2.1 + 1, u.2.2.1, u.2.2.2.1, u.2.2.2.2)) X := by
  obtain ⟨h1, h2, h3, h4, h5⟩ := h
  unfold unV at e
  by_cases q1 : v = -2
  · rw [if_pos q1] at e ⊢
    subst e
    exact ⟨h1, h2, h3, by show V 52 12 + 1 = _; rw [h4], h5⟩
  · rw [if_neg q1] at e ⊢
    by_cases q2 : v = -3
    · rw [if_pos q2] at e ⊢
      subst e
      exact ⟨h1, h2, by show V 52 11 + 1 = _; rw [h3], h4, h5⟩
    · rw [if_neg q2] at e ⊢
      subst e
      exact ⟨h1, by show V 52 10 + 1 = _; rw [h2], h3, h4, h5⟩
abbrev flP (S : Sp) (K : Kd) (u : HS) (s : Nat) (v : Int) : Prop := ¬ u.2.2.2.2.testBit s = true ∧ ¬ (0 ≤ v ∧ K.l 6 < abI (S.f s - S.f v.toNat))
/-- the trial, as set -/
def trP (S : Sp) (K : Kd) (p q r : Nat) (X : VV) : Prop := X 55 4 = S.x p ∧ X 55 5 = S.y p ∧ X 55 6 = S.x q - S.x p ∧ X 55 7 = S.y q - S.y p ∧ X 55 8 = S.x r - S.x p ∧ X 55 9 = S.y r - S.y p ∧ X 55 10 = K.l 0
/-- all places across are filled or not, as may be -/
def faB (b : Bk) (k : Int) (S : Sp) (K : Kd) (p q r i : Nat) : Bool := match hsO b k S K p q r (i + 1) with
  | none => false
  | some u => decide (u.2.1 ≤ K.l 7)
theorem fa_n (h : hsO b k S K p q r (i + 1) = none) : faB b k S K p q r i = false := by unfold faB; rw [h]
theorem fa_s (h : hsO b k S K p q r (i + 1) = some u) : faB b k S K p q r i = decide (u.2.1 ≤ K.l 7) := by unfold faB; rw [h]
end
section
variable {b : Bk} {k : Int} {S : Sp} {K : Kd} {p q r n : Nat} {u : HS} {i j w : Nat} {v : Int}
theorem fl_none (hv : (j = 0 ∧ v = -1) ∨ (0 < j ∧ v = plO b k S K p q r i (j - 1))) (hp : ¬ plO b k S K p q r i j < 0) (ew : (plO b k S K p q r i j).toNat = w) (h : ¬ flP S K u w v) : hstp (plO b k S K p q r) S.f (K.l 6) u i j = none := by
  by_cases y : u.2.2.2.2.testBit w = true
  · exact st_b hp (by rw [ew]; exact y)
  · refine st_p hp (by rw [ew]; exact y) ?_
    have z : 0 ≤ v ∧ K.l 6 < abI (S.f w - S.f v.toNat) := Classical.byContradiction fun z => h ⟨y, z⟩
    rcases hv with hv | hv
    · omega
    · rw [hv.2] at z
      rw [ew]
      exact ⟨hv.1, z⟩
theorem fl_some (hv : (j = 0 ∧ v = -1) ∨ (0 < j ∧ v = plO b k S K p q r i (j - 1))) (hp : ¬ plO b k S K p q r i j < 0) (ew : (plO b k S K p q r i j).toNat = w) (h : flP S K u w v) : hstp (plO b k S K p q r) S.f (K.l 6) u i j = some (u.1 + 1, u.2.1, u.2.2.1, u.2.2.2.1, u.2.2.2.2 ||| 2 ^ w) := by
  rw [← ew]
  refine st_y hp (by rw [ew]; exact h.1) (fun z => h.2 ?_)
  rcases hv with hv | hv
  · omega
  · rw [hv.2]
    have z2 := z.2.2
    rw [ew] at z2
    exact ⟨z.2.1, z2⟩
end
