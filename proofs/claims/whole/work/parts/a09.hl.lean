/-! the class's list of houses: rows that change places -/
theorem srf_57 : ∀ i, srf 57 i = none := by
  intro i
  unfold srf
  have h : refL.find? (fun q => q.1 == 57 && q.2.1 == i) = none := by
    rw [List.find?_eq_none]
    intro q hq
    have : ∀ q ∈ refL, ¬ q.1 = 57 := by decide +kernel
    have h2 := this q hq
    simp [h2]
  rw [h]; rfl
theorem srf_523 : srf 52 3 = none := by decide +kernel
theorem fin_57 {R : RR} {i : Nat} {x : Option Nat} (hF : FinR R) : FinR (uR R 57 i x) := by
  intro a k b h
  unfold uR
  rw [if_neg]
  · exact hF a k b h
  · rintro ⟨rfl, rfl⟩
    rw [srf_57] at h; cases h
theorem fin_523 {R : RR} {x : Option Nat} (hF : FinR R) : FinR (uR R 52 3 x) := by
  intro a k b h
  unfold uR
  rw [if_neg]
  · exact hF a k b h
  · rintro ⟨rfl, rfl⟩
    rw [srf_523] at h; cases h
theorem lay_h {h : Nat} (hh : 60 ≤ h ∧ h ≤ 84) : lay h = (0, 2) := by
  have key : ∀ h, h < 85 → 60 ≤ h → lay h = (0, 2) := by decide +kernel
  exact key h (by omega) hh.1
theorem inh {A : List (Nat × Nat)} {F : List (Nat × Nat × Nat)} {h j : Nat} (hh : 60 ≤ h ∧ h ≤ 84) : (inA ((60, 84) :: A) h || inF F h j) = true := by
  have : inA ((60, 84) :: A) h = true := by
    unfold inA
    rw [List.any_cons, Bool.or_eq_true]
    left
    simp
    omega
  rw [this]; rfl
/-- copied so far -/
def cpI (V X : VV) (h j : Nat) : Prop := (∀ t, t < j → X h t = V 55 t) ∧ ∀ c, c ≠ h → X c = V c
theorem cpI_s {V X X' : VV} {h j : Nat} {v : Int} (hc : cpI V X h j) (e : X' = uV X h j v) (hv : v = V 55 j) : cpI V X' h (j + 1) := by
  subst e
  refine ⟨fun t ht => ?_, fun c hc2 => ?_⟩
  · rw [uV_at]
    by_cases q : t = j
    · rw [if_pos q, q, hv]
    · rw [if_neg q]; exact hc.1 t (by omega)
  · rw [uV_cell hc2]; exact hc.2 c hc2
/-- all references but the rows are as they were -/
def frR (R R' : RR) : Prop := ∀ a i, a ≠ 57 → R' a i = R a i
theorem frR_r {R : RR} : frR R R := fun _ _ _ => rfl
theorem frR_t {R Q T : RR} (h : frR R Q) (g : frR Q T) : frR R T := fun a i h1 => (g a i h1).trans (h a i h1)
theorem frR_u {R Q T : RR} {j : Nat} {x : Option Nat} (h : frR R Q) (e : T = uR Q 57 j x) : frR R T := by
  subst e
  intro a i h1
  unfold uR
  rw [if_neg (fun z => h1 z.1)]
  exact h a i h1
def PQR (A : List (Nat × Nat)) (F : List (Nat × Nat × Nat)) (V : VV) (R : RR) (P : Option AV → VV → RR → Prop) : Option AV → VV → RR → Prop := fun r V' R' => FinR R' ∧ frR R R' ∧ Bd V' ∧ chg A F V V' ∧ P r V' R'
/-- a house as it lies in a cell -/
def hoC (S : Sp) (Ks : Nat → Kd) (row : Nat → Int) (V : VV) (h : Nat) : Prop := V h 0 = row 0 ∧ V h 1 = S.h (row 1).toNat ∧ V h 2 = S.h (row 2).toNat ∧ V h 3 = S.h (row 3).toNat ∧ V h 4 = S.x (row 1).toNat ∧ V h 5 = S.y (row 1).toNat ∧ V h 6 = S.x (row 2).toNat - S.x (row 1).toNat ∧ V h 7 = S.y (row 2).toNat - S.y (row 1).toNat ∧ V h 8 = S.x (row 3).toNat - S.x (row 1).toNat ∧ V h 9 = S.y (row 3).toNat - S.y (row 1).toNat ∧ V h 10 = (Ks (row 0).toNat).l 0 ∧ V h 11 = (Ks (row 0).toNat).l 8 ∧ V h 12 = row 4 ∧ V h 13 = row 5 ∧ V h 14 = row 6 ∧ V h 15 = row 7 ∧ V h 16 = row 8 ∧ V h 17 = row 9 ∧ ∃ c : Nat, V h 18 = (c : Int) ∧ mR S (row 10).toNat c
theorem hoC_x {S : Sp} {Ks : Nat → Kd} {row : Nat → Int} {V V' : VV} {h h' : Nat} (hc : hoC S Ks row V h) (e : ∀ j, j < 19 → V' h' j = V h j) : hoC S Ks row V' h' := by
  unfold hoC
  rw [e 0 (by omega), e 1 (by omega), e 2 (by omega), e 3 (by omega), e 4 (by omega), e 5 (by omega), e 6 (by omega), e 7 (by omega), e 8 (by omega), e 9 (by omega), e 10 (by omega), e 11 (by omega), e 12 (by omega), e 13 (by omega), e 14 (by omega), e 15 (by omega), e 16 (by omega), e 17 (by omega), e 18 (by omega)]
  exact hc
/-- a row's set holds spots only -/
def rOK (S : Sp) (row : Nat → Int) : Prop := ∃ a : Nat, row 10 = (a : Int) ∧ ∀ s, a.testBit s = true → s < S.m
theorem ho_eq {S : Sp} {Ks : Nat → Kd} {row row' : Nat → Int} {V V' : VV} {h h' : Nat} (so : sO S) (hc : hoC S Ks row V h) (hc' : hoC S Ks row' V' h') (r : rOK S row) (r' : rOK S row') : V h 18 = V' h' 18 ↔ row 10 = row' 10 := by
  obtain ⟨_, _, _, _, _, _, _, _, _, _, _, _, _, _, _, _, _, _, c, e, m⟩ := hc
  obtain ⟨_, _, _, _, _, _, _, _, _, _, _, _, _, _, _, _, _, _, c', e', m'⟩ := hc'
  obtain ⟨a, ea, ha⟩ := r
  obtain ⟨a', ea', ha'⟩ := r'
  rw [ea, Int.toNat_natCast] at m
  rw [ea', Int.toNat_natCast] at m'
  have w := mR_e so ha ha' m m'
  rw [e, e', ea, ea']
  omega
abbrev alk (l : Nat → Nat → Int) (e : Nat → Int) (i : Nat) : Prop := l i 0 = e 0 ∧ l i 10 = e 10
def uniq (N : Nat) (l : Nat → Nat → Int) : Prop := ∀ i j, i < j → j < N → ¬ (l i 0 = l j 0 ∧ l i 10 = l j 10)
theorem sm_at {l : Nat → Nat → Int} {e : Nat → Int} {N i : Nat} (hu : uniq N l) (hi : i < N) (ha : alk l e i) : ∀ n, i < n → n ≤ N → smF l e n = (i : Int)
  | 0, h, _ => by omega
  | n + 1, h, g => by
    unfold smF
    by_cases q : n = i
    · rw [q, if_pos ha]
    · rw [if_neg (fun z => hu i n (by omega) (by omega) ⟨ha.1.trans z.1.symm, ha.2.trans z.2.symm⟩)]
      exact sm_at hu hi ha n (by omega) (by omega)
theorem sm_none {l : Nat → Nat → Int} {e : Nat → Int} : ∀ n, (∀ i, i < n → ¬ alk l e i) → smF l e n = -1
  | 0, _ => rfl
  | n + 1, h => by
    unfold smF
    rw [if_neg (h n (by omega))]
    exact sm_none n (fun i hi => h i (by omega))
/-- rows lie in cells of their own -/
def rwI (R : RR) (ρ : Nat → Nat) : Prop := (∀ i, i < 25 → R 57 i = some (ρ i) ∧ 60 ≤ ρ i ∧ ρ i ≤ 84) ∧ ∀ i j, i < 25 → j < 25 → ρ i = ρ j → i = j
def rwL (S : Sp) (Ks : Nat → Kd) (N : Nat) (l : Nat → Nat → Int) (ρ : Nat → Nat) (V : VV) : Prop := ∀ i, i < N → hoC S Ks (l i) V (ρ i) ∧ rOK S (l i)
