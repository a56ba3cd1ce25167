/-! the class's kinds: what they are made of -/
section FCPY
variable {G : GG} {M : Mth} {Rm : Room} {n0 pc pn : Nat} {Z : List Frame → Array Value → State → State → Prop} {ls : List (Nat × AV)} {st : List AV} {V : VV} {R : RR}
theorem sc_b34 (j : Nat) (hj : j = 3 ∨ j = 4) (i : Nat) : -1 ≤ (sCon j).getD i 0 ∧ (sCon j).getD i 0 ≤ 500 := by
  rcases Nat.lt_or_ge i 10 with h | h
  · rcases hj with rfl | rfl
    · revert i; decide
    · revert i; decide
  · have : (sCon j).getD i 0 = 0 := by
      rcases hj with rfl | rfl <;> (rw [List.getD_eq_getElem?_getD, List.getElem?_eq_none (by exact h)]; rfl)
    omega
theorem F_acx {a j : Nat} {sp dp n : Int} (h : dAC M pc pn) (hj : j = 3 ∨ j = 4) (hl : lay a = (1, 20)) (hB : Bd V) (hb : arB a = some (-1, 500)) (hsp : 0 ≤ sp ∧ sp + n ≤ 10) (hdp : 0 ≤ dp ∧ dp + n ≤ 20) (hn : 0 ≤ n) (hf : 1 ≤ Rm.frames ∧ 60 ≤ Rm.locals) (k : ∀ V', V' = cV V a (cpF (fun i => (sCon j).getD i 0) (V a) sp.toNat dp.toNat n.toNat) → Bd V' → TT G M Rm n0 Z 162 pn ls st V' R) (hst : wds st ≤ 8 := by exact Nat.le_of_ble_eq_true rfl) : TT G M Rm n0 Z 162 pc ls (vi n :: vi dp :: vr a :: vi sp :: vr (1000 + j) :: st) V R := by
  refine T_acx (N := 10) (n1 := 20) h (by omega) (by rcases hj with rfl | rfl <;> rfl) hl (lay_lc hl (by decide)) hsp hdp hn (by decide) (by decide) hst hf (k _ rfl (Bd_cV hB hl hb (fun i => ?_)))
  unfold cpF
  split
  · exact sc_b34 j hj _
  · exact hB.1 a _ _ hb i
theorem F_acc {a b : Nat} {sp dp n : Int} (h : dAC M pc pn) (hl2 : lay b = (1, 20)) (hb2 : arB b = some (-1, 500)) (hl : lay a = (1, 20)) (hB : Bd V) (hb : arB a = some (-1, 500)) (hsp : 0 ≤ sp ∧ sp + n ≤ 20) (hdp : 0 ≤ dp ∧ dp + n ≤ 20) (hn : 0 ≤ n) (hf : 1 ≤ Rm.frames ∧ 60 ≤ Rm.locals) (k : ∀ V', V' = cV V a (cpF (V b) (V a) sp.toNat dp.toNat n.toNat) → Bd V' → TT G M Rm n0 Z 162 pn ls st V' R) (hst : wds st ≤ 8 := by exact Nat.le_of_ble_eq_true rfl) : TT G M Rm n0 Z 162 pc ls (vi n :: vi dp :: vr a :: vi sp :: vr b :: st) V R := by
  refine T_acc (n1 := 20) (n2 := 20) h hl2 (lay_lc hl2 (by decide)) hl (lay_lc hl (by decide)) hsp hdp hn (by decide) (by decide) hst hf (k _ rfl (Bd_cV hB hl hb (fun i => ?_)))
  unfold cpF
  split
  · exact hB.1 b _ _ hb2 _
  · exact hB.1 a _ _ hb i
end FCPY
theorem cs_cV {V0 : VV} {f p a : Nat} {D : Nat → Nat → Int} {F : Nat → Int} (h1 : 25 ≤ a) (h2 : a ≤ 29) : cV (csV V0 f p D) a F = csV V0 f p (cV D a F) := by
  funext k j
  unfold cV csV
  by_cases h : k = 16
  · subst h
    have : ¬ 16 = a := by omega
    simp [this]
  · by_cases h3 : 25 ≤ k ∧ k ≤ 29
    · simp [h, h3]
    · have : ¬ k = a := by omega
      simp [h, h3, this]
theorem us_b : ∀ s, s < 10 → (sCon 3).getD s 0 = dfL.getD s 0 ∧ (sCon 4).getD s 0 = if spB s = true then dfH.getD s 0 else -1 := by decide
theorem dR_set {rd : Nat} {lo hi r : Nat → Int} : dR rd (setD lo rd dfL) (setD hi rd dfH) (cpF (fun i => (sCon 4).getD i 0) (cpF (fun i => (sCon 3).getD i 0) r 0 0 10) 0 10 10) := by
  intro s hs
  have h := us_b s hs
  unfold cpF setD
  have c1 : 10 * rd ≤ 10 * rd + s ∧ 10 * rd + s < 10 * rd + 10 := by omega
  rw [if_neg (show ¬ (10 ≤ s ∧ s < 10 + 10) by omega), if_pos (show 0 ≤ s ∧ s < 0 + 10 by omega), if_pos c1, if_pos (show 10 ≤ 10 + s ∧ 10 + s < 10 + 10 by omega), if_pos c1]
  rw [show 0 + (s - 0) = s by omega, show 0 + (10 + s - 10) = s by omega, show 10 * rd + s - 10 * rd = s by omega]
  exact h
theorem clS_flt {t : Nat → Int} {n f rd : Nat} {lo hi : Nat → Int} : (clS t n f rd lo hi).2.1 = -1 ∨ (clS t n f rd lo hi).2.1 = ((clS t n f rd lo hi).1 : Int) := by
  unfold clS
  simp only []
  split
  · exact Or.inr rfl
  · split
    · exact Or.inr rfl
    · split
      · exact Or.inl rfl
      · split
        · exact Or.inr rfl
        · split
          · exact Or.inr rfl
          · exact Or.inl rfl
