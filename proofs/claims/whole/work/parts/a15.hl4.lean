/-! the class's list: an offer -/
theorem dr_L {S : Sp} {Ks : Nat → Kd} {N s : Nat} {l : Nat → Nat → Int} {ρ : Nat → Nat} {e : Nat → Int} {V X : VV} (h : rwL S Ks N l ρ V) (hs : s < N) (hm : smF l e N = (s : Int)) (c : ∀ h, 60 ≤ h → h ≤ 84 → X h = V h) (hb : ∀ i, i < 25 → 60 ≤ ρ i ∧ ρ i ≤ 84) (hN : N ≤ 24) : rwL S Ks (k1N N l e) (k1L N l e) (drp ρ s N) X := by
  intro i hi
  have hk : k1N N l e = N - 1 := by unfold k1N; rw [hm, if_neg (by omega)]
  have hkl : k1L N l e = delF l s := by unfold k1L; rw [hm, if_neg (by omega), Int.toNat_natCast]
  rw [hk] at hi
  rw [hkl]
  unfold delF drp
  by_cases w : i < s
  · rw [if_pos w, if_pos w]
    have g := h i (by omega)
    have b := hb i (by omega)
    exact ⟨hoC_x g.1 (fun j _ => by rw [c _ b.1 b.2]), g.2⟩
  · rw [if_neg w, if_neg w, if_pos (by omega)]
    have g := h (i + 1) (by omega)
    have b := hb (i + 1) (by omega)
    exact ⟨hoC_x g.1 (fun j _ => by rw [c _ b.1 b.2]), g.2⟩
theorem k1_no {N : Nat} {l : Nat → Nat → Int} {e : Nat → Int} (h : smF l e N = -1) : k1N N l e = N ∧ k1L N l e = l := by
  unfold k1N k1L
  rw [if_pos h, if_pos h]; exact ⟨rfl, rfl⟩
theorem kp_4 {N : Nat} {l : Nat → Nat → Int} {e : Nat → Int} (h : ¬ kpS N l e) (h3 : atF (k1L N l e) (e 9) (k1N N l e) ≠ 24) : kpN N l e = (if k1N N l e = 24 then 24 else k1N N l e + 1) ∧ kpL N l e = insF (k1L N l e) (atF (k1L N l e) (e 9) (k1N N l e)) e := by
  have w := kp_3 (a := atF (k1L N l e) (e 9) (k1N N l e)) (N2 := if k1N N l e = 24 then 23 else k1N N l e) h rfl h3 rfl
  refine ⟨?_, w.2⟩
  rw [w.1]
  split <;> rfl
theorem ho_17 {S : Sp} {Ks : Nat → Kd} {row : Nat → Int} {V : VV} {h : Nat} (hc : hoC S Ks row V h) : V h 17 = row 9 := by
  obtain ⟨_, _, _, _, _, _, _, _, _, _, _, _, _, _, _, _, _, z, _⟩ := hc
  exact z
