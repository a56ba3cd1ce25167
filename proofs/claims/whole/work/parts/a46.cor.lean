/-! the reference's corners -/
def cNR (x v w : Int) (i : Nat) : Int := x + (if i = 1 ∨ i = 2 then v else 0) + (if 1 < i then w else 0)
def vxM (V : VV) (a : Nat) (h p q : Nat) : Int := (V 139 h - 1) * (V a q - V a p)
def wxM (V : VV) (a : Nat) (kd p r : Nat) : Int := (V 122 (10 * kd) - 1) * (V a r - V a p)
theorem vx_b {V : VV} (hB : Bd V) {a h p q : Nat} (ha : a = 132 ∨ a = 133) : -14000 ≤ vxM V a h p q ∧ vxM V a h p q ≤ 14000 := by
  have b1 := hB.1 139 0 8 rfl h
  have b2 : (-620 ≤ V a q ∧ V a q ≤ 1119) ∧ -620 ≤ V a p ∧ V a p ≤ 1119 := by
    rcases ha with rfl | rfl
    · exact ⟨hB.1 132 (-620) 1119 rfl q, hB.1 132 (-620) 1119 rfl p⟩
    · exact ⟨hB.1 133 (-620) 1119 rfl q, hB.1 133 (-620) 1119 rfl p⟩
  have := mbb (a := V 139 h - 1) (A := 8) (b := V a q - V a p) (B := 1739) (by omega) (by omega) (by omega) (by omega)
  unfold vxM
  omega
theorem wx_b {V : VV} (hB : Bd V) {a kd p r : Nat} (ha : a = 132 ∨ a = 133) : -900000 ≤ wxM V a kd p r ∧ wxM V a kd p r ≤ 900000 := by
  have b1 := hB.1 122 0 500 rfl (10 * kd)
  have b2 : (-620 ≤ V a r ∧ V a r ≤ 1119) ∧ -620 ≤ V a p ∧ V a p ≤ 1119 := by
    rcases ha with rfl | rfl
    · exact ⟨hB.1 132 (-620) 1119 rfl r, hB.1 132 (-620) 1119 rfl p⟩
    · exact ⟨hB.1 133 (-620) 1119 rfl r, hB.1 133 (-620) 1119 rfl p⟩
  have := mbb (a := V 122 (10 * kd) - 1) (A := 500) (b := V a r - V a p) (B := 1739) (by omega) (by omega) (by omega) (by omega)
  unfold wxM
  omega
theorem cNR_b {x v w : Int} {i : Nat} (h1 : -620 ≤ x ∧ x ≤ 1119) (h2 : -14000 ≤ v ∧ v ≤ 14000) (h3 : -900000 ≤ w ∧ w ≤ 900000) : -1000000 ≤ cNR x v w i ∧ cNR x v w i ≤ 1000000 := by
  unfold cNR
  split <;> split <;> omega
def corI (V X : VV) (a : Nat) (x vx wx y vy wy : Int) (i : Nat) : Prop := (∀ t, t < i → X 158 (a + 2 * t) = cNR x vx wx t ∧ X 158 (a + 2 * t + 1) = cNR y vy wy t) ∧ ∀ j, (j < a ∨ a + 8 ≤ j) → X 158 j = V 158 j
theorem cor_s {V X Y Z : VV} {a i : Nat} {x vx wx y vy wy : Int} (h : corI V X a x vx wx y vy wy i) (hi : i < 4) (e1 : Y = uV X 158 (a + 2 * i) (cNR x vx wx i)) (e2 : Z = uV Y 158 (a + 2 * i + 1) (cNR y vy wy i)) : corI V Z a x vx wx y vy wy (i + 1) := by
  subst e1 e2
  refine ⟨fun t ht => ?_, fun j hj => ?_⟩
  · rw [uV_at, uV_at, uV_at, uV_at]
    by_cases q : t = i
    · subst q
      rw [if_neg (by omega), if_pos rfl, if_pos rfl]; exact ⟨rfl, rfl⟩
    · rw [if_neg (by omega), if_neg (by omega), if_neg (by omega), if_neg (by omega)]
      exact h.1 t (by omega)
  · rw [uV_at, uV_at, if_neg (by omega), if_neg (by omega)]
    exact h.2 j hj
