/-! the class's list: putting a house in -/
def upR (ρ : Nat → Nat) (N h j : Nat) : Nat := if h < j ∧ j ≤ N then ρ (j - 1) else ρ j
theorem upR_0 {ρ : Nat → Nat} {N j : Nat} : upR ρ N N j = ρ j := by unfold upR; rw [if_neg (by omega)]
theorem upR_l {ρ : Nat → Nat} {N h j : Nat} (hj : j ≤ h) : upR ρ N h j = ρ j := by unfold upR; rw [if_neg (by omega)]
theorem upR_s {ρ : Nat → Nat} {N h j : Nat} (hh : h + 1 ≤ N) : (if j = h + 1 then ρ h else upR ρ N (h + 1) j) = upR ρ N h j := by
  unfold upR
  by_cases q1 : j = h + 1
  · rw [if_pos q1, if_pos (by omega), q1]; rfl
  · rw [if_neg q1]
    by_cases q2 : h + 1 < j ∧ j ≤ N
    · rw [if_pos q2, if_pos (by omega)]
    · rw [if_neg q2, if_neg (by omega)]
def insR (ρ : Nat → Nat) (N a j : Nat) : Nat := if j = a then ρ N else upR ρ N a j
theorem insR_I {R R' : RR} {ρ : Nat → Nat} {a N : Nat} (h : rwI R ρ) (ha : a ≤ N) (hN : N ≤ 24) (h' : rwE R' (insR ρ N a)) : rwI R' (insR ρ N a) := by
  have key : ∀ i, i < 25 → ∃ j, j < 25 ∧ insR ρ N a i = ρ j ∧ (j = if i = a then N else if a < i ∧ i ≤ N then i - 1 else i) := by
    intro i hi
    unfold insR upR
    by_cases q : i = a
    · rw [if_pos q]; exact ⟨N, by omega, rfl, by rw [if_pos q]⟩
    · rw [if_neg q]
      by_cases c : a < i ∧ i ≤ N
      · rw [if_pos c]; exact ⟨i - 1, by omega, rfl, by rw [if_neg q, if_pos c]⟩
      · rw [if_neg c]; exact ⟨i, hi, rfl, by rw [if_neg q, if_neg c]⟩
  refine ⟨fun i hi => ?_, fun i j hi hj e => ?_⟩
  · obtain ⟨t, t1, t2, _⟩ := key i hi
    refine ⟨h' i hi, ?_⟩
    rw [t2]; exact (h.1 t t1).2
  · obtain ⟨t, t1, t2, t3⟩ := key i hi
    obtain ⟨u, u1, u2, u3⟩ := key j hj
    rw [t2, u2] at e
    have w := h.2 t u t1 u1 e
    clear key h h' t2 u2 e
    split at t3 <;> split at u3 <;> (try split at t3) <;> (try split at u3) <;> omega
theorem insR_L {S : Sp} {Ks : Nat → Kd} {N N' a : Nat} {l : Nat → Nat → Int} {ρ : Nat → Nat} {e : Nat → Int} {V X : VV} {R : RR} (hrw : rwI R ρ) (h : rwL S Ks N l ρ V) (ha : a ≤ N) (hN : N ≤ 24) (hN' : N' ≤ N + 1 ∧ N' ≤ 24) (he : hoC S Ks e V 55) (reo : rOK S e) (c1 : ∀ j, j < 19 → X (ρ N) j = V 55 j) (c2 : ∀ c, c ≠ ρ N → X c = V c) : rwL S Ks N' (insF l a e) (insR ρ N a) X := by
  intro i hi
  by_cases q : i = a
  · have e1 : insR ρ N a i = ρ N := by unfold insR; rw [if_pos q]
    have e2 : insF l a e i = e := by unfold insF; rw [if_neg (by omega), if_pos q]
    rw [e1, e2]
    exact ⟨hoC_x he c1, reo⟩
  · by_cases w : i < a
    · have e1 : insR ρ N a i = ρ i := by unfold insR upR; rw [if_neg q, if_neg (by omega)]
      have e2 : insF l a e i = l i := by unfold insF; rw [if_pos w]
      rw [e1, e2]
      have g := h i (by omega)
      exact ⟨hoC_x g.1 (fun j _ => by rw [c2 _ (fun z => by have := hrw.2 i N (by omega) (by omega) z; omega)]), g.2⟩
    · have e1 : insR ρ N a i = ρ (i - 1) := by unfold insR upR; rw [if_neg q, if_pos (by omega)]
      have e2 : insF l a e i = l (i - 1) := by unfold insF; rw [if_neg w, if_neg q]
      rw [e1, e2]
      have g := h (i - 1) (by omega)
      exact ⟨hoC_x g.1 (fun j _ => by rw [c2 _ (fun z => by have := hrw.2 (i - 1) N (by omega) (by omega) z; omega)]), g.2⟩
