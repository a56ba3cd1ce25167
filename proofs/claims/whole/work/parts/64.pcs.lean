/-! the class's parser: its state -/
def csV (V0 : VV) (f p : Nat) (D : Nat → Nat → Int) : VV := fun k j => if k = 16 then (if j = 6 then (f : Int) else if j = 7 then (p : Int) else V0 16 j) else if 25 ≤ k ∧ k ≤ 29 then D k j else V0 k j
/-- the token's end is told wherever there is a token -/
def cO (t : Nat → Int) (n f p : Nat) : Prop := f ≤ n ∧ p ≤ n ∧ (f < n → p = tokE t n f)
theorem cs_17 (V0 : VV) (f p : Nat) (D : Nat → Nat → Int) : csV V0 f p D 17 = V0 17 := rfl
theorem cs_tok (V0 : VV) (f p g q : Nat) (D : Nat → Nat → Int) : uV (uV (csV V0 f p D) 16 6 (g : Int)) 16 7 (q : Int) = csV V0 g q D := by
  funext k j
  unfold uV csV
  by_cases h : k = 16
  · subst h
    by_cases h1 : j = 7
    · subst h1; simp
    · by_cases h2 : j = 6
      · subst h2; simp
      · simp [h1, h2]
  · simp [h]
theorem cs_at (V0 : VV) (f p g : Nat) (D : Nat → Nat → Int) : uV (csV V0 f p D) 16 6 (g : Int) = csV V0 g p D := by
  funext k j
  unfold uV csV
  by_cases h : k = 16
  · subst h
    by_cases h2 : j = 6
    · subst h2; simp
    · simp [h2]
  · simp [h]
theorem cs_next {V0 : VV} {n f p : Nat} {D : Nat → Nat → Int} (hc : cO (V0 17) n f p) (hf : f < n) : ∃ q, nextC (csV V0 f p D) n p = csV V0 (nxt (V0 17) n f) q D ∧ cO (V0 17) n (nxt (V0 17) n f) q := by
  have hp := hc.2.2 hf
  have hx := nxt_le (t := V0 17) hc.1
  have e : skipB (V0 17) n p = nxt (V0 17) n f := by rw [hp]; rfl
  unfold nextC
  rw [cs_17, e]
  by_cases h : nxt (V0 17) n f < n
  · rw [if_pos h, cs_tok]
    exact ⟨_, rfl, hx.2.1, (tokE_le hx.2.1).2.1, fun _ => rfl⟩
  · rw [if_neg h, cs_at]
    exact ⟨p, rfl, hx.2.1, hc.2.1, fun z => absurd z h⟩
def QW (R : RR) (V0 : VV) (n : Nat) (o : Option AV) (g : Nat) (D : Nat → Nat → Int) : Option AV → VV → RR → Prop := fun r V' R' => r = o ∧ (∃ q, V' = csV V0 g q D ∧ cO (V0 17) n g q) ∧ R = R' ∧ Bd V'
section PCS
variable {G : GG} {V V0 : VV} {R : RR} {n f p : Nat} {D : Nat → Nat → Int}
theorem Sc_next (hB : Bd V) (hF : FinR R) (eV : V = csV V0 f p D) (hn : V0 16 1 = n) (hc : cO (V0 17) n f p) (hf : f < n) : Runs G M_X4_next 2 162 162 [vr 16] V R (QW R V0 n none (nxt (V0 17) n f) D) := by
  refine (R_X4_next (n := n) (p := p) hB hF (by rw [eV]; exact hn) (by rw [eV]; rfl) hc.2.1).mono (fun r V' R' q => ?_)
  obtain ⟨h1, h2, h3, h4⟩ := q
  obtain ⟨q, hq, hq2⟩ := cs_next (D := D) hc hf
  exact ⟨h1, ⟨q, by rw [h2, eV, hq], hq2⟩, h3, h4⟩
theorem Sc_num (hB : Bd V) (hF : FinR R) (eV : V = csV V0 f p D) (hn : V0 16 1 = n) (hc : cO (V0 17) n f p) : RunsP G M_X4_numberHere 2 [vr 16] V R (vi (nuC (V0 17) n f)) := by
  have h := R_X4_numberHere (G := G) (n := n) (f := f) hB hF (by rw [eV]; exact hn) (by rw [eV]; rfl) hc.1 (fun z => by rw [eV, cs_17, ← hc.2.2 z]; rfl)
  have e : V 17 = V0 17 := by rw [eV]; rfl
  rw [e] at h
  exact h
theorem Sc_take {w : Nat} (hB : Bd V) (hF : FinR R) (eV : V = csV V0 f p D) (hn : V0 16 1 = n) (hc : cO (V0 17) n f p) (hw : w < 16) : Runs G M_X4_take 5 162 162 [vr 16, vr (1010 + w)] V R (QW R V0 n (some (vi (bi (decide (wdb w (V0 17) f (tokE (V0 17) n f) = true))))) (if wdb w (V0 17) f (tokE (V0 17) n f) = true then nxt (V0 17) n f else f) D) := by
  have e : V 17 = V0 17 := by rw [eV]; rfl
  refine (R_X4_take (n := n) (f := f) (w := w) hB hF (by rw [eV]; exact hn) (by rw [eV]; rfl) hc.1 (fun z => by rw [e, ← hc.2.2 z, eV]; rfl) hw).mono (fun r V' R' q => ?_)
  obtain ⟨h1, h2, h3, h4⟩ := q
  rw [e] at h1 h2
  refine ⟨h1, ?_, h3, h4⟩
  by_cases hP : wdb w (V0 17) f (tokE (V0 17) n f) = true
  · rw [if_pos hP] at h2 ⊢
    have hf := wdb_lt hw hP
    obtain ⟨q, hq, hq2⟩ := cs_next (D := D) hc hf
    exact ⟨q, by rw [h2, ← hc.2.2 hf, eV, hq], hq2⟩
  · rw [if_neg hP] at h2 ⊢
    exact ⟨p, by rw [h2, eV], hc⟩
end PCS
theorem ex_tok0 {t : Nat → Int} {n f : Nat} (hf : f < n) (hd : isDb (t f) = true) : 0 ≤ exN t f (tokE t n f) := by
  unfold exN
  exact ex_nn (fun j hj => (dig_tok hf hd (by omega) (by omega)).1)
/-- the class's number is good where the reference's is -/
theorem nu_ok {t : Nat → Int} {n f : Nat} {l m : Int} (hl : 0 ≤ l) (hm : m < 100000) : (l ≤ nuC t n f ∧ nuC t n f ≤ m) ↔ numOK t n f l m := by
  unfold nuC numOK
  by_cases h : f < n ∧ isDb (t f) = true
  · rw [if_pos h]
    constructor
    · intro q
      refine ⟨h.1, h.2, ?_⟩
      split at q <;> omega
    · rintro ⟨_, _, q1, q2⟩
      split <;> omega
  · rw [if_neg h]
    constructor
    · intro q; omega
    · rintro ⟨q1, q2, _⟩; exact absurd ⟨q1, q2⟩ h
theorem nu_val {t : Nat → Int} {n f : Nat} {l m : Int} (hm : m < 100000) (h : numOK t n f l m) : nuC t n f = exN t f (tokE t n f) := by
  unfold nuC
  rw [if_pos ⟨h.1, h.2.1⟩, if_neg (by have := h.2.2.2; omega)]
theorem ls_b : ∀ s, s < 10 → 0 ≤ lsB s ∧ lsB s ≤ 5 ∧ 0 ≤ msB s ∧ msB s ≤ 500 := by decide
theorem sp_b : ∀ s, s < 10 → ((sCon 4).getD s 0 = -1 ↔ spB s = false) := by decide
/-- a row of the class's against the reference's two -/
def dR (rd : Nat) (lo hi r : Nat → Int) : Prop := ∀ s, s < 10 → r s = lo (10 * rd + s) ∧ r (10 + s) = if spB s = true then hi (10 * rd + s) else -1
def QK (R : RR) (V0 : VV) (n : Nat) (o : Option AV) (g a : Nat) (D : Nat → Nat → Int) (ok : Prop) (rd : Nat) (lo hi : Nat → Int) : Option AV → VV → RR → Prop := fun r V' R' => r = o ∧ (∃ q D', V' = csV V0 g q D' ∧ cO (V0 17) n g q ∧ (∀ k, k ≠ a → D' k = D k) ∧ (ok → dR rd lo hi (D' a))) ∧ R = R' ∧ Bd V'
