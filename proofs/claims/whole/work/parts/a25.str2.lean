/-! strength in the reference -/
theorem sM_rot {S : Sp} {X X' : VV} {t : Nat} (h : X 99 49 = (S.m : Int) ∧ ∀ i, i < S.m → X 131 i = S.h i ∧ X 132 i = S.x i ∧ X 134 i = S.f i) (e1 : X' 99 49 = X 99 49) (e2 : X' 131 = X 131) (e3 : X' 132 = X 132) (e4 : X' 134 = X 134) (hy : ∀ i, i < S.m → X' 133 i = S.y ((i + t) % S.m)) : sM (srot S t) X' := by
  refine ⟨by rw [srot_m, e1]; exact h.1, fun i hi => ?_⟩
  rw [srot_m] at hi
  have w := h.2 i hi
  rw [e2, e3, e4]
  exact ⟨w.1, w.2.1, hy i hi, w.2.2⟩
/-- spots but for their y -/
def sMx (S : Sp) (X : VV) : Prop := X 99 49 = (S.m : Int) ∧ ∀ i, i < S.m → X 131 i = S.h i ∧ X 132 i = S.x i ∧ X 134 i = S.f i
theorem sMx_of {S : Sp} {X : VV} (h : sM S X) : sMx S X := ⟨h.1, fun i hi => ⟨(h.2 i hi).1, (h.2 i hi).2.1, (h.2 i hi).2.2.2⟩⟩
theorem sMx_x {S : Sp} {X X' : VV} (h : sMx S X) (e1 : X' 99 49 = X 99 49) (e2 : X' 131 = X 131) (e3 : X' 132 = X 132) (e4 : X' 134 = X 134) : sMx S X' := by
  unfold sMx; rw [e1, e2, e3, e4]; exact h
