/-! the class's list: storing rows -/
section
variable {G : GG} {M : Mth} {Rm : Room} {n0 pc pn : Nat} {Z : List Frame → Array Value → State → State → Prop} {ls : List (Nat × AV)} {st : List AV} {V : VV} {R : RR}
theorem F_aast {i : Int} {b : Nat} (h : dI M pc .aastore pn) (hF : FinR R) (hi : 0 ≤ i ∧ i < 25) (hb : 60 ≤ b ∧ b ≤ 84) (k : ∀ R', R' = uR R 57 i.toNat (some b) → FinR R' → TT G M Rm n0 Z 162 pn ls st V R') : TT G M Rm n0 Z 162 pc ls (vr b :: vi i :: vr 57 :: st) V R := T_aast (n := 25) h rfl (by decide) hi (lay_h hb) (by omega) (k _ rfl (fin_57 hF))
end
/-- rows as they stand -/
def rwE (R : RR) (σ : Nat → Nat) : Prop := ∀ i, i < 25 → R 57 i = some (σ i)
theorem rwE_u {R R' : RR} {σ : Nat → Nat} {j b : Nat} (h : rwE R σ) (e : R' = uR R 57 j (some b)) : rwE R' (fun i => if i = j then b else σ i) := by
  subst e
  intro i hi
  unfold uR
  by_cases q : i = j
  · rw [if_pos ⟨rfl, q⟩]; simp [q]
  · rw [if_neg (fun z => q z.2), h i hi]; simp [q]
theorem rwE_x {R : RR} {σ τ : Nat → Nat} (h : rwE R σ) (e : ∀ i, i < 25 → σ i = τ i) : rwE R τ := fun i hi => by rw [h i hi, e i hi]
/-- a row taken out, put behind the others -/
def drp (ρ : Nat → Nat) (s N : Nat) (i : Nat) : Nat := if i < s then ρ i else if i + 1 < N then ρ (i + 1) else if i + 1 = N then ρ s else ρ i
theorem drp_I {R R' : RR} {ρ : Nat → Nat} {s N : Nat} (h : rwI R ρ) (hs : s < N) (hN : N ≤ 24) (h' : rwE R' (drp ρ s N)) : rwI R' (drp ρ s N) := by
  have key : ∀ i, i < 25 → ∃ j, j < 25 ∧ drp ρ s N i = ρ j ∧ (j = if i < s then i else if i + 1 < N then i + 1 else if i + 1 = N then s else i) := by
    intro i hi
    unfold drp
    by_cases a : i < s
    · rw [if_pos a]; exact ⟨i, hi, rfl, by rw [if_pos a]⟩
    · rw [if_neg a]
      by_cases c : i + 1 < N
      · rw [if_pos c]; exact ⟨i + 1, by omega, rfl, by rw [if_neg a, if_pos c]⟩
      · rw [if_neg c]
        by_cases d : i + 1 = N
        · rw [if_pos d]; exact ⟨s, by omega, rfl, by rw [if_neg a, if_neg c, if_pos d]⟩
        · rw [if_neg d]; exact ⟨i, hi, rfl, by rw [if_neg a, if_neg c, if_neg d]⟩
  refine ⟨fun i hi => ?_, fun i j hi hj e => ?_⟩
  · obtain ⟨t, t1, t2, _⟩ := key i hi
    refine ⟨h' i hi, ?_⟩
    rw [t2]; exact (h.1 t t1).2
  · obtain ⟨t, t1, t2, t3⟩ := key i hi
    obtain ⟨u, u1, u2, u3⟩ := key j hj
    rw [t2, u2] at e
    have w := h.2 t u t1 u1 e
    clear key h h' t2 u2 e
    split at t3 <;> split at u3 <;> (try split at t3) <;> (try split at u3) <;> (try split at t3) <;> (try split at u3) <;> omega
def dnR (ρ : Nat → Nat) (s h j : Nat) : Nat := if s ≤ j ∧ j < h then ρ (j + 1) else ρ j
theorem dnR_0 {ρ : Nat → Nat} {s j : Nat} : dnR ρ s s j = ρ j := by unfold dnR; rw [if_neg (by omega)]
theorem dnR_h {ρ : Nat → Nat} {s h : Nat} : dnR ρ s h (h + 1) = ρ (h + 1) := by unfold dnR; rw [if_neg (by omega)]
theorem dnR_s {ρ : Nat → Nat} {s h j : Nat} (hs : s ≤ h) : (if j = h then ρ (h + 1) else dnR ρ s h j) = dnR ρ s (h + 1) j := by
  unfold dnR
  by_cases q1 : j = h
  · rw [if_pos q1, if_pos (by omega), q1]
  · rw [if_neg q1]
    by_cases q2 : s ≤ j ∧ j < h
    · rw [if_pos q2, if_pos (by omega)]
    · rw [if_neg q2, if_neg (by omega)]
theorem drp_e {ρ : Nat → Nat} {s h N j : Nat} (hh : h + 1 = N) (hs : s ≤ h) : (if j = N - 1 then ρ s else dnR ρ s h j) = drp ρ s N j := by
  unfold drp dnR
  by_cases q1 : j = N - 1
  · rw [if_pos q1, if_neg (by omega), if_neg (by omega), if_pos (by omega)]
  · rw [if_neg q1]
    by_cases q2 : j < s
    · rw [if_neg (by omega), if_pos q2]
    · by_cases q3 : j + 1 < N
      · rw [if_pos (by omega), if_neg q2, if_pos q3]
      · rw [if_neg (by omega), if_neg q2, if_neg q3, if_neg (by omega)]
