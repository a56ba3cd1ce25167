/-! the list's values don't rise -/
def dsc (N : Nat) (l : Nat → Nat → Int) : Prop := ∀ i j, i < j → j < N → l j 9 ≤ l i 9
section
variable {N : Nat} {l : Nat → Nat → Int} {e : Nat → Int}
theorem k1_dsc (h : dsc N l) : dsc (k1N N l e) (k1L N l e) := by
  rcases sm_ok (l := l) (e := e) N with w | ⟨s, h1, h2, h3⟩
  · rw [(k1_no w).1, (k1_no w).2]; exact h
  · have hk : k1N N l e = N - 1 := by unfold k1N; rw [h2, if_neg (by omega)]
    have hkl : k1L N l e = delF l s := by unfold k1L; rw [h2, if_neg (by omega), Int.toNat_natCast]
    rw [hk, hkl]
    intro i j hij hj
    unfold delF
    by_cases a : j < s
    · rw [if_pos a, if_pos (by omega)]; exact h i j hij (by omega)
    · rw [if_neg a]
      by_cases c : i < s
      · rw [if_pos c]; exact h i (j + 1) (by omega) (by omega)
      · rw [if_neg c]; exact h (i + 1) (j + 1) (by omega) (by omega)
theorem at_spec {v : Int} : ∀ n, (∀ i, atF l v n ≤ i → i < n → l i 9 < v) ∧ (atF l v n ≠ 0 → v ≤ l (atF l v n - 1) 9)
  | 0 => ⟨fun i h1 h2 => by omega, fun h => absurd rfl h⟩
  | n + 1 => by
    unfold atF
    by_cases q : l n 9 < v
    · rw [if_pos q]
      have h := at_spec (v := v) n
      refine ⟨fun i h1 h2 => ?_, h.2⟩
      by_cases w : i = n
      · rw [w]; exact q
      · exact h.1 i h1 (by omega)
    · rw [if_neg q]
      exact ⟨fun i h1 h2 => by omega, fun _ => by rw [show n + 1 - 1 = n by omega]; omega⟩
theorem kp_dsc (h : dsc N l) : dsc (kpN N l e) (kpL N l e) := by
  have hk := k1_dsc (e := e) h
  by_cases q : kpS N l e
  · rw [(kp_1 q).1, (kp_1 q).2]; exact h
  · by_cases w : atF (k1L N l e) (e 9) (k1N N l e) = 24
    · rw [(kp_2 q w).1, (kp_2 q w).2]; exact hk
    · have kp := kp_4 q w
      have hle := at_le (l := k1L N l e) (v := e 9) (k1N N l e)
      have hs := at_spec (l := k1L N l e) (v := e 9) (k1N N l e)
      rw [kp.1, kp.2]
      generalize atF (k1L N l e) (e 9) (k1N N l e) = a at *
      have hb : (if k1N N l e = 24 then 24 else k1N N l e + 1) ≤ k1N N l e + 1 := by split <;> omega
      intro i j hij hj
      have lo : ∀ i, i < a → e 9 ≤ k1L N l e i 9 := fun i hi => by
        have g := hs.2 (by omega)
        by_cases y : i = a - 1
        · rw [y]; exact g
        · have := hk i (a - 1) (by omega) (by omega); omega
      unfold insF
      rcases Nat.lt_trichotomy i a with x | x | x
      · rw [if_pos x]
        rcases Nat.lt_trichotomy j a with y | y | y
        · rw [if_pos y]; exact hk i j hij (by omega)
        · rw [if_neg (by omega), if_pos y]; exact lo i x
        · rw [if_neg (by omega), if_neg (by omega)]; exact hk i (j - 1) (by omega) (by omega)
      · rw [if_neg (by omega), if_neg (by omega), if_neg (show ¬ i < a by omega), if_pos x]
        have := hs.1 (j - 1) (by omega) (by omega)
        omega
      · rw [if_neg (by omega), if_neg (by omega), if_neg (show ¬ i < a by omega), if_neg (by omega)]
        exact hk (i - 1) (j - 1) (by omega) (by omega)
end
