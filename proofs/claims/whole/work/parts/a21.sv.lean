/-! the survey: all houses -/
section
variable {G : GG} {M : Mth} {Rm : Room} {n0 pc pn : Nat} {Z : List Frame → Array Value → State → State → Prop} {ls : List (Nat × AV)} {st : List AV} {V : VV} {R : RR}
theorem F_pk {b : Nat} (h : dP M pc 1 3 2 (.array .int) false pn) (hF : FinR R) (k : ∀ R', R' = uR R 52 3 (some b) → FinR R' → TT G M Rm n0 Z 162 pn ls st V R') : TT G M Rm n0 Z 162 pc ls (vr b :: vr 52 :: st) V R := T_pq uws_ok h (fun v => by cases v <;> exact ⟨rfl, rfl⟩) rfl (by decide) (k _ rfl (fin_523 hF))
end
def frX (R R' : RR) : Prop := ∀ a i, a ≠ 57 → ¬ (a = 52 ∧ i = 3) → R' a i = R a i
theorem frX_r {R : RR} : frX R R := fun _ _ _ _ => rfl
theorem frX_t {R Q T : RR} (h : frX R Q) (g : frX Q T) : frX R T := fun a i h1 h2 => (g a i h1 h2).trans (h a i h1 h2)
theorem frX_R {R Q T : RR} (h : frX R Q) (g : frR Q T) : frX R T := fun a i h1 h2 => (g a i h1).trans (h a i h1 h2)
theorem frX_k {R Q T : RR} {x : Option Nat} (h : frX R Q) (e : T = uR Q 52 3 x) : frX R T := by
  subst e
  intro a i h1 h2
  unfold uR
  rw [if_neg h2]
  exact h a i h1 h2
def PQS (A : List (Nat × Nat)) (F : List (Nat × Nat × Nat)) (V : VV) (R : RR) (P : Option AV → VV → RR → Prop) : Option AV → VV → RR → Prop := fun r V' R' => FinR R' ∧ frX R R' ∧ Bd V' ∧ chg A F V V' ∧ P r V' R'
theorem told_r {R : RR} (hF : FinR R) {i : Nat} (hi : i < 5) : R 18 i = some (19 + i) := by
  rcases (show i = 0 ∨ i = 1 ∨ i = 2 ∨ i = 3 ∨ i = 4 by omega) with rfl | rfl | rfl | rfl | rfl
  · exact hF 18 0 19 rfl
  · exact hF 18 1 20 rfl
  · exact hF 18 2 21 rfl
  · exact hF 18 3 22 rfl
  · exact hF 18 4 23 rfl
theorem told_l {i : Nat} (hi : i < 5) : lay (19 + i) = (1, 20) ∧ arB (19 + i) = some (-1, 500) := by
  rcases (show i = 0 ∨ i = 1 ∨ i = 2 ∨ i = 3 ∨ i = 4 by omega) with rfl | rfl | rfl | rfl | rfl <;> exact ⟨rfl, rfl⟩
section
variable (b : Bk) (k : Int) (S : Sp) (Ks : Nat → Kd)
/-- the list when so many kinds are through -/
def allK : Nat → Nat × (Nat → Nat → Int)
  | 0 => (0, fun _ _ => 0)
  | n + 1 => (goP b k S Ks n true (false, 0, (allK n).1, (allK n).2) S.m).2.2
def gvK (n : Nat) : Int := (goP b k S Ks n true (false, 0, (allK b k S Ks n).1, (allK b k S Ks n).2) S.m).2.1
end
theorem rw_k {R R' : RR} {ρ : Nat → Nat} {x : Option Nat} (h : rwI R ρ) (e : R' = uR R 52 3 x) : rwI R' ρ := by
  subst e
  refine ⟨fun i hi => ?_, h.2⟩
  unfold uR
  rw [if_neg (fun z => absurd z.1 (by decide))]
  exact h.1 i hi
theorem lsC_k {S : Sp} {Ks : Nat → Kd} {N : Nat} {l : Nat → Nat → Int} {X : VV} {R R' : RR} {x : Option Nat} (h : lsC S Ks N l X R) (e : R' = uR R 52 3 x) : lsC S Ks N l X R' := by
  obtain ⟨a, b, c, ρ, d, f⟩ := h
  exact ⟨a, b, c, ρ, rw_k d e, f⟩
