/-! seeking: what goes along -/
section
variable {S : Sp} {K : Kd} {Ks : Nat → Kd} {kd p q : Nat} {X X' : VV}
theorem car1 (f : chg [(54, 54)] [(52, 7, 7)] X X') (h1 : cnC S K X) (h2 : tbC K kd X) : cnC S K X' ∧ tbC K kd X' := by
  refine ⟨⟨by rw [chg_j f rfl]; exact h1.1, by rw [chg_k (c := 53) f rfl]; exact h1.2⟩, ?_⟩
  unfold tbC; rw [chg_k (c := 55) f rfl]; exact h2
theorem car2 (f : chg [] [(55, 1, 2), (55, 4, 7)] X X') (h1 : cnC S K X) (h2 : tbC K kd X) (h3 : tdC S K p X) : cnC S K X' ∧ tbC K kd X' ∧ tdC S K p X' := by
  refine ⟨?_, ?_, ?_⟩
  · unfold cnC; rw [chg_k (c := 52) f rfl, chg_k (c := 53) f rfl]; exact h1
  · unfold tbC; rw [chg_j (c := 55) (j := 0) f rfl, chg_j (c := 55) (j := 10) f rfl, chg_j (c := 55) (j := 11) f rfl]; exact h2
  · unfold tdC; rw [chg_k (c := 52) f rfl, chg_k (c := 54) f rfl]; exact h3
theorem car3 (f : chg [(60, 84)] [(52, 9, 15), (55, 3, 3), (55, 8, 9), (55, 12, 18), (56, 1, 1)] X X') (h1 : cnC S K X) (h2 : tbC K kd X) (h3 : tdC S K p X) (h4 : tsC S p q X) : (cnC S K X' ∧ tbC K kd X') ∧ tdC S K p X' ∧ tsC S p q X' := by
  refine ⟨⟨?_, ?_⟩, ?_, ?_⟩
  · unfold cnC; rw [chg_j (c := 52) (j := 5) f rfl, chg_k (c := 53) f rfl]; exact h1
  · unfold tbC; rw [chg_j (c := 55) (j := 0) f rfl, chg_j (c := 55) (j := 10) f rfl, chg_j (c := 55) (j := 11) f rfl]; exact h2
  · unfold tdC; rw [chg_j (c := 52) (j := 7) f rfl, chg_k (c := 54) f rfl]; exact h3
  · unfold tsC; rw [chg_j (c := 55) (j := 1) f rfl, chg_j (c := 55) (j := 2) f rfl, chg_j (c := 55) (j := 4) f rfl, chg_j (c := 55) (j := 5) f rfl, chg_j (c := 55) (j := 6) f rfl, chg_j (c := 55) (j := 7) f rfl]; exact h4
end
theorem gsC_1 {b : Bk} {k : Int} {S : Sp} {Ks : Nat → Kd} {kd p q r : Nat} {z : Bool} {st : GS} {X : VV} {R : RR} (hn : ¬ (p = q ∨ p = r ∨ q = r ∨ frO b k S (Ks kd) p q r = 0)) (h14 : X 52 14 = 1) (h15 : X 52 15 = if st.1 = false ∨ st.2.1 < recO b k S Ks kd p q r 9 then recO b k S Ks kd p q r 9 else st.2.1) (hl : z = true → lsC S Ks (kpN st.2.2.1 st.2.2.2 (recO b k S Ks kd p q r)) (kpL st.2.2.1 st.2.2.2 (recO b k S Ks kd p q r)) X R) : gsC S Ks z (stpG b k S Ks kd z st p q r) X R := by
  unfold stpG
  rw [if_neg hn]
  refine ⟨h14, h15, fun y => ?_⟩
  have w := hl y
  subst y
  exact w
