/-! small things that every walk uses -/
theorem hdF {d' d : Nat} (h : d' < d) : d' + 9 ≤ (rmd d 162 162).frames ∧ 60 * (d' + 9) ≤ (rmd d 162 162).locals := ⟨by show d' + 9 ≤ d + 8; omega, by show 60 * (d' + 9) ≤ 60 * (d + 8); omega⟩
theorem hcF (d : Nat) : 162 - 162 ≤ (rmd d 162 162).cells ∧ sl 162 - sl 162 ≤ (rmd d 162 162).slots ∧ 162 ≤ 162 := ⟨Nat.le_refl _, Nat.le_refl _, Nat.le_refl _⟩
theorem hmF (d : Nat) : 1 ≤ (rmd d 162 162).frames ∧ 30 ≤ (rmd d 162 162).locals ∧ 162 - 162 ≤ (rmd d 162 162).cells ∧ sl 162 - sl 162 ≤ (rmd d 162 162).slots := ⟨by show 1 ≤ d + 8; omega, by show 30 ≤ 60 * (d + 8); omega, Nat.le_refl _, Nat.le_refl _⟩
theorem pn_X0 : plainName RX0 = true := by decide +kernel
theorem pn_X1 : plainName RX1 = true := by decide +kernel
theorem pn_X2 : plainName RX2 = true := by decide +kernel
theorem pn_X3 : plainName RX3 = true := by decide +kernel
theorem pn_X4 : plainName RX4 = true := by decide +kernel
theorem pn_X5 : plainName RX5 = true := by decide +kernel
theorem pn_X6 : plainName RX6 = true := by decide +kernel
theorem pn_X7 : plainName RX7 = true := by decide +kernel
theorem pn_X8 : plainName RX8 = true := by decide +kernel
theorem pn_X9 : plainName RX9 = true := by decide +kernel
theorem pn_X10 : plainName RX10 = true := by decide +kernel
theorem pn_X11 : plainName RX11 = true := by decide +kernel
theorem pn_J6 : plainName RJ6 = true := by decide +kernel
theorem pn_J7 : plainName RJ7 = true := by decide +kernel
theorem T_subp {G : GG} {M : Mth} {Rm : Room} {n0 nx pc : Nat} {Z : List Frame → Array Value → State → State → Prop} {ls ls' : List (Nat × AV)} {st : List AV} {V : VV} {R : RR} {ks : List Nat} (h : ks.filterMap (fun k => ls[k]?) = ls') (k : TT G M Rm n0 Z nx pc ls' st V R) : TT G M Rm n0 Z nx pc ls st V R := T_sub (fun q hq => by
  rw [← h] at hq
  obtain ⟨i, -, hi⟩ := List.mem_filterMap.mp hq
  exact List.mem_of_getElem? hi) k
