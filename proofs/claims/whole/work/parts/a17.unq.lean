/-! no two rows alike -/
section
variable {N : Nat} {l : Nat → Nat → Int} {e : Nat → Int}
theorem sm_ok : ∀ n, smF l e n = -1 ∨ ∃ i : Nat, i < n ∧ smF l e n = (i : Int) ∧ alk l e i
  | 0 => Or.inl rfl
  | n + 1 => by
    unfold smF
    by_cases q : l n 0 = e 0 ∧ l n 10 = e 10
    · rw [if_pos q]; exact Or.inr ⟨n, by omega, rfl, q⟩
    · rw [if_neg q]
      rcases sm_ok n with h | ⟨i, h1, h2, h3⟩
      · exact Or.inl h
      · exact Or.inr ⟨i, by omega, h2, h3⟩
theorem sm_no : ∀ n, smF l e n = -1 → ∀ i, i < n → ¬ alk l e i
  | 0, _, i, hi => by omega
  | n + 1, h, i, hi => by
    unfold smF at h
    by_cases q : l n 0 = e 0 ∧ l n 10 = e 10
    · rw [if_pos q] at h; omega
    · rw [if_neg q] at h
      by_cases w : i = n
      · rw [w]; exact q
      · exact sm_no n h i (by omega)
theorem k1_uniq (hu : uniq N l) : uniq (k1N N l e) (k1L N l e) ∧ ∀ i, i < k1N N l e → ¬ alk (k1L N l e) e i := by
  rcases sm_ok (l := l) (e := e) N with h | ⟨s, h1, h2, h3⟩
  · rw [(k1_no h).1, (k1_no h).2]
    exact ⟨hu, sm_no N h⟩
  · have hk : k1N N l e = N - 1 := by unfold k1N; rw [h2, if_neg (by omega)]
    have hkl : k1L N l e = delF l s := by unfold k1L; rw [h2, if_neg (by omega), Int.toNat_natCast]
    rw [hk, hkl]
    have key : ∀ i, ∃ j, delF l s i = l j ∧ (j = if i < s then i else i + 1) := fun i => by
      unfold delF
      by_cases w : i < s
      · rw [if_pos w]; exact ⟨i, rfl, by rw [if_pos w]⟩
      · rw [if_neg w]; exact ⟨i + 1, rfl, by rw [if_neg w]⟩
    refine ⟨fun i j hij hj z => ?_, fun i hi z => ?_⟩
    · obtain ⟨a, a1, a2⟩ := key i
      obtain ⟨c, c1, c2⟩ := key j
      rw [a1, c1] at z
      refine hu a c ?_ ?_ z
      · split at a2 <;> split at c2 <;> omega
      · split at c2 <;> omega
    · obtain ⟨a, a1, a2⟩ := key i
      have z1 : l a 0 = e 0 ∧ l a 10 = e 10 := by
        have z2 : delF l s i 0 = e 0 ∧ delF l s i 10 = e 10 := z
        rw [a1] at z2; exact z2
      rcases Nat.lt_trichotomy a s with w | w | w
      · exact hu a s w h1 ⟨z1.1.trans h3.1.symm, z1.2.trans h3.2.symm⟩
      · split at a2 <;> omega
      · refine hu s a w ?_ ⟨h3.1.trans z1.1.symm, h3.2.trans z1.2.symm⟩
        split at a2 <;> omega
theorem kp_uniq (hu : uniq N l) : uniq (kpN N l e) (kpL N l e) := by
  have hk := k1_uniq (e := e) hu
  by_cases q : kpS N l e
  · rw [(kp_1 q).1, (kp_1 q).2]; exact hu
  · by_cases w : atF (k1L N l e) (e 9) (k1N N l e) = 24
    · rw [(kp_2 q w).1, (kp_2 q w).2]; exact hk.1
    · have kp := kp_4 q w
      have hle := at_le (l := k1L N l e) (v := e 9) (k1N N l e)
      rw [kp.1, kp.2]
      generalize atF (k1L N l e) (e 9) (k1N N l e) = a at *
      have hb : (if k1N N l e = 24 then 24 else k1N N l e + 1) ≤ k1N N l e + 1 := by split <;> omega
      intro i j hij hj z
      unfold insF at z
      rcases Nat.lt_trichotomy i a with x | x | x
      · rw [if_pos x] at z
        rcases Nat.lt_trichotomy j a with y | y | y
        · rw [if_pos y] at z; exact hk.1 i j hij (by omega) z
        · rw [if_neg (by omega), if_pos y] at z; exact hk.2 i (by omega) z
        · rw [if_neg (by omega), if_neg (by omega)] at z; exact hk.1 i (j - 1) (by omega) (by omega) z
      · rw [if_neg (by omega), if_pos x, if_neg (by omega), if_neg (by omega)] at z
        exact hk.2 (j - 1) (by omega) ⟨z.1.symm, z.2.symm⟩
      · rw [if_neg (by omega), if_neg (by omega), if_neg (by omega), if_neg (by omega)] at z
        exact hk.1 (i - 1) (j - 1) (by omega) (by omega) z
end
