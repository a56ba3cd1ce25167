/-! kinds, on both sides -/
def mkK (lo hi : Nat → Int) (r : Nat) : Kd := fun a j => if a = 0 then lo (10 * r + j) else hi (10 * r + j)
section
variable {G : GG} {V : VV} {R : RR}
set_option maxHeartbeats 1000000 in
theorem pr_kinds (hI : INVX V R) : PR G M_X10_kinds M_X11_kinds 10 7 [] V R := by
  obtain ⟨b, Ks, nk, hI2⟩ := id hI
  obtain ⟨⟨hB, hF⟩, ok, ⟨c1, c2, c3, ρ, c, ch, w1, w2⟩, ⟨m1, m2, m3, m4⟩, t1, t2, t3, t4⟩ := id hI2
  have bn := hB.2 99 11 30 0 400 rfl rfl
  obtain ⟨n, hn⟩ : ∃ n : Nat, V 99 30 = (n : Int) := ⟨(V 99 30).toNat, by omega⟩
  have hn4 : n ≤ 400 := by omega
  have H : ∀ i, i < n → tE (V 120 i) (V 17 i) := fun i hi => t2 i (by rw [hn]; omega)
  have kt := kin_tE (t := V 120) (u := V 17) (n := n) H (lo := V 124) (hi := V 125)
  refine (R_X10_kinds (n := n) (lo := V 124) (hi := V 125) hB hF (t1.trans hn) hn4).mono fun r X Q hq => ?_
  obtain ⟨rfl, hBX, W, ⟨_, hBW, r1, r2, r3, _, r5⟩, hq⟩ := hq
  have wo : ∀ a, a ≠ 16 ∧ ¬ (19 ≤ a ∧ a ≤ 23) ∧ ¬ (25 ≤ a ∧ a ≤ 29) → W a = V a := fun a h => funext fun j => r1 a j h.1 h.2.1 h.2.2
  by_cases q : kinF (V 17) n (V 124) (V 125) = -1
  · rw [if_pos q] at hq r5
    obtain ⟨rfl, hX⟩ := hq
    have xo : ∀ a, a ≠ 0 → a ≠ 30 → X a = W a := fun a h0 h30 => by rw [hX, uV_cell h0]; exact uV_cell h30
    have x9 : X 99 = V 99 := (xo 99 (by decide) (by decide)).trans (wo 99 (by decide))
    have xa : ∀ a, 100 ≤ a → X a = V a := fun a h => (xo a (by omega) (by omega)).trans (wo a (by omega))
    have k5 : (kinR (V 17) n (V 124) (V 125)).2.2.1 ≤ 5 := by have z := hBW.2 16 4 4 0 5 rfl rfl; rw [r5.1] at z; omega
    refine ⟨_, rfl, ⟨by omega, by omega⟩, (R_X11_kinds (n := n) hBX hF (by rw [x9]; exact hn) hn4 (ConM_x m4 (fun a h1 h2 => xa a (by omega)))).mono fun r2_ Y Q2 hq2 => ?_⟩
    obtain ⟨rfl, hBY, s1, s2, s3, s4, s5⟩ := hq2
    rw [xa 120 (by omega), xa 124 (by omega), xa 125 (by omega), kt.1, kt.2, if_pos q] at s5
    rw [xa 120 (by omega), xa 124 (by omega), xa 125 (by omega), kt.2] at s4
    obtain ⟨rfl, s6, s7, s8, s9⟩ := s5
    generalize hK : kinR (V 17) n (V 124) (V 125) = K at *
    have yo : ∀ a, a ≠ 99 ∧ a ≠ 122 ∧ a ≠ 123 ∧ a ≠ 124 ∧ a ≠ 125 → Y a = X a := fun a h => funext fun j => s1 a j h.1 h.2.1 h.2.2.1 h.2.2.2.1 h.2.2.2.2
    have ya : ∀ a, a ≠ 0 ∧ a ≠ 16 ∧ ¬ (19 ≤ a ∧ a ≤ 23) ∧ ¬ (25 ≤ a ∧ a ≤ 29) ∧ a ≠ 30 ∧ a ≠ 99 ∧ ¬ (122 ≤ a ∧ a ≤ 125) → Y a = V a := fun a h => (yo a (by omega)).trans ((xo a (by omega) (by omega)).trans (wo a (by omega)))
    have y9 : ∀ j, ¬ j ≤ 1 → ¬ (30 ≤ j ∧ j ≤ 37) → Y 99 j = V 99 j := fun j h1 h2 => by rw [s2 j h1 h2, x9]
    have y30 : Y 30 = X 30 := yo 30 (by decide)
    have x30 : X 30 8 = (if 1 < V 30 8 then 1 else V 30 8) ∧ ∀ j, j ≠ 8 → X 30 j = V 30 j := by
      have e := wo 30 (by decide)
      rw [hX]
      refine ⟨?_, fun j hj => ?_⟩
      · rw [uV_cell (by decide)]; unfold forgV; rw [uV_self, e]
      · rw [uV_cell (by decide)]; unfold forgV; rw [uV_ne (fun z => hj z.2), e]
    have y16 : Y 16 = W 16 := (yo 16 (by decide)).trans (xo 16 (by decide) (by decide))
    refine ⟨rfl, b, mkK K.2.2.2.1 K.2.2.2.2, K.2.2.1, ⟨hBY, hF⟩, ⟨ok.1, ok.2.1, k5, fun i hi => ?_⟩, ⟨bC_fr c1 (fun a h1 h2 => ya a (by omega)), ⟨by rw [ya 15 (by decide)]; exact c2.1, by rw [y16]; exact r5.1, fun i hi h5 j hj => ?_⟩, LR_x c3 (fun a h1 h2 => ya a (by omega)), ρ, c, ch, w1, ?_⟩, ⟨bM_fr m1 (fun a h1 h2 => ya a (by omega)) (fun k h1 h2 => y9 k (by omega) (by omega)), ⟨s6, fun i hi j hj => ?_⟩, Or.inl s8, ConM_x m4 (fun a h1 h2 => ya a (by omega))⟩, ?_⟩
    · have := kin_ok (t := V 17) (n := n) (lo := V 124) (hi := V 125) q i (by rw [hK]; exact hi)
      rw [hK] at this
      exact okN_kO this (fun j _ => rfl) (fun j _ => rfl)
    · have e : Y (19 + i) = W (19 + i) := (yo (19 + i) (by omega)).trans (xo (19 + i) (by omega) (by omega))
      have z := r5.2 i hi j hj
      rw [e]
      exact z
    · rw [y30, x30.1, x30.2 7 (by decide)]
      refine ⟨fun z => ?_, fun z => ?_, fun z => ?_, fun z => ?_, fun z => ?_⟩
      · exact S1_x (w2.1 (by split at z <;> omega)) (fun a h1 h2 => ya a (by omega))
      · split at z <;> omega
      · split at z <;> omega
      · split at z <;> omega
      · split at z <;> omega
    · have z := s9 (10 * i + j) (by omega)
      exact ⟨z.1, z.2⟩
    · refine ⟨by rw [y16, r2, s3], fun i hi => ?_, by rw [y16, r3, s4], ?_⟩
      · rw [s3] at hi; exact absurd hi (Nat.not_lt_zero _)
      · rw [yo 0 (by decide), s7, hX]; exact uV_self
  · rw [if_neg q] at hq r5
    obtain ⟨rfl, hX⟩ := hq
    have xo : ∀ a, a ≠ 0 → X a = W a := fun a h0 => by rw [hX, uV_cell h0]
    have x9 : X 99 = V 99 := (xo 99 (by decide)).trans (wo 99 (by decide))
    have xa : ∀ a, 100 ≤ a → X a = V a := fun a h => (xo a (by omega)).trans (wo a (by omega))
    refine ⟨_, rfl, ⟨by omega, by omega⟩, (R_X11_kinds (n := n) hBX hF (by rw [x9]; exact hn) hn4 (ConM_x m4 (fun a h1 h2 => xa a (by omega)))).mono fun r2_ Y Q2 hq2 => ?_⟩
    obtain ⟨rfl, hBY, s1, s2, s3, s4, s5⟩ := hq2
    rw [xa 120 (by omega), xa 124 (by omega), xa 125 (by omega), kt.1, kt.2, if_neg q] at s5
    rw [xa 120 (by omega), xa 124 (by omega), xa 125 (by omega), kt.2] at s4
    obtain ⟨rfl, s6, s7, s8, s9, s10⟩ := s5
    have yo : ∀ a, a ≠ 99 ∧ a ≠ 122 ∧ a ≠ 123 ∧ a ≠ 124 ∧ a ≠ 125 → Y a = X a := fun a h => funext fun j => s1 a j h.1 h.2.1 h.2.2.1 h.2.2.2.1 h.2.2.2.2
    have ya : ∀ a, a ≠ 0 ∧ a ≠ 16 ∧ ¬ (19 ≤ a ∧ a ≤ 23) ∧ ¬ (25 ≤ a ∧ a ≤ 29) ∧ a ≠ 99 ∧ ¬ (122 ≤ a ∧ a ≤ 125) → Y a = V a := fun a h => (yo a (by omega)).trans ((xo a (by omega)).trans (wo a (by omega)))
    have y9 : ∀ j, ¬ j ≤ 1 → ¬ (30 ≤ j ∧ j ≤ 37) → Y 99 j = V 99 j := fun j h1 h2 => by rw [s2 j h1 h2, x9]
    have y16 : Y 16 = W 16 := (yo 16 (by decide)).trans (xo 16 (by decide))
    refine ⟨rfl, b, Ks, nk, ⟨hBY, hF⟩, ok, ⟨bC_fr c1 (fun a h1 h2 => ya a (by omega)), ⟨by rw [ya 15 (by decide)]; exact c2.1, by rw [y16, r5.1]; exact c2.2.1, fun i hi h5 j hj => ?_⟩, LR_x c3 (fun a h1 h2 => ya a (by omega)), svX_e ⟨ρ, c, ch, w1, w2⟩ (fun a h1 h2 => ya a (by omega))⟩, ⟨bM_fr m1 (fun a h1 h2 => ya a (by omega)) (fun k h1 h2 => y9 k (by omega) (by omega)), ⟨by rw [s6, x9]; exact m2.1, fun i hi j hj => by rw [s9, s10, xa 122 (by omega), xa 123 (by omega)]; exact m2.2 i hi j hj⟩, ?_, ConM_x m4 (fun a h1 h2 => ya a (by omega))⟩, ?_⟩
    · have e : Y (19 + i) = V (19 + i) := ((yo (19 + i) (by omega)).trans (xo (19 + i) (by omega))).trans (r5.2 (19 + i) (by omega))
      rw [e]
      exact c2.2.2 i hi h5 j hj
    · unfold ldM
      rw [s8, x9]
      rcases m3 with z | ⟨z1, c', ch', z2⟩
      · exact Or.inl z
      · exact Or.inr ⟨z1, c', ch', laidM_s z2 (fun j h1 h2 => y9 j (by omega) (by omega)) (fun a h1 h2 => ya a (by omega))⟩
    · refine ⟨by rw [y16, r2, s3], fun i hi => ?_, by rw [y16, r3, s4], ?_⟩
      · rw [s3] at hi; exact absurd hi (Nat.not_lt_zero _)
      · rw [yo 0 (by decide), s7, hX]; exact uV_self
end
