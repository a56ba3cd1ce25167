/-! whose house a hole is in -/
def lstB (p : Nat → Bool) : Nat → Int
  | 0 => -1
  | n + 1 => if p n = true then (n : Int) else lstB p n
theorem lst_t {p : Nat → Bool} {n : Nat} (h : p n = true) : lstB p (n + 1) = (n : Int) := if_pos h
theorem lst_f {p : Nat → Bool} {n : Nat} (h : ¬ p n = true) : lstB p (n + 1) = lstB p n := if_neg h
theorem lst_r {p : Nat → Bool} : ∀ n : Nat, lstB p n = -1 ∧ (∀ i, i < n → p i = false) ∨ ∃ i : Nat, i < n ∧ p i = true ∧ lstB p n = (i : Int)
  | 0 => Or.inl ⟨rfl, fun i hi => by omega⟩
  | n + 1 => by
    by_cases q : p n = true
    · exact Or.inr ⟨n, by omega, q, lst_t q⟩
    · rw [lst_f q]
      rcases lst_r (p := p) n with ⟨h1, h2⟩ | ⟨i, h1, h2, h3⟩
      · refine Or.inl ⟨h1, fun i hi => ?_⟩
        by_cases w : i = n
        · rw [w]; exact Bool.eq_false_iff.mpr q
        · exact h2 i (by omega)
      · exact Or.inr ⟨i, by omega, h2, h3⟩
def hoB (V : VV) (ρ : Nat → Nat) (c h i : Nat) : Bool := c.testBit i && (V (ρ i) 18).toNat.testBit h
theorem bi_t {p : Bool} (h : p = true) : bi p = 1 := by rw [h]; rfl
theorem bi_f {p : Bool} (h : ¬ p = true) : bi p = 0 := by rw [Bool.eq_false_iff.mpr h]; rfl
theorem tbI {a s : Nat} (ha : a < 2 ^ 31) (hs : s < 32) : iandZ (ishrZ (a : Int) (s : Int)) 1 = bi (a.testBit s) := by
  have h1 : a / 2 ^ s < 2 ^ 31 := Nat.lt_of_le_of_lt (Nat.div_le_self _ _) ha
  rw [ishr_n hs ha, show (1 : Int) = ((1 : Nat) : Int) from rfl, iand_n h1, Nat.and_one_is_mod, Nat.testBit_eq_decide_div_mod_eq]
  have h2 : a / 2 ^ s % 2 = 0 ∨ a / 2 ^ s % 2 = 1 := by omega
  rcases h2 with h2 | h2
  · rw [h2]; rfl
  · rw [h2]; rfl
theorem ncx {X X' : VV} {a : Nat} {x : Int} {V : VV} (h : ∀ c j, 60 ≤ c → c ≤ 84 → j < 19 → X c j = V c j) (e : X' = uV X a 19 x) : ∀ c j, 60 ≤ c → c ≤ 84 → j < 19 → X' c j = V c j := fun c j h1 h2 h3 => by rw [e, uV_ne (by omega)]; exact h c j h1 h2 h3
theorem ncy {X X' : VV} {j : Nat} {x : Int} {V : VV} (h : ∀ c j, 60 ≤ c → c ≤ 84 → j < 19 → X c j = V c j) (e : X' = uV X 58 j x) : ∀ c j, 60 ≤ c → c ≤ 84 → j < 19 → X' c j = V c j := fun c j h1 h2 h3 => by rw [e, uV_cell (by omega)]; exact h c j h1 h2 h3
theorem nc19 {X X' : VV} {ρ : Nat → Nat} {i : Nat} {x : Int} {f : Nat → Int} (h : ∀ j, j < i → X (ρ j) 19 = f j) (e : X' = uV X (ρ i) 19 x) (hx : x = f i) (inj : ∀ j, j < i → ρ j ≠ ρ i) : ∀ j, j < i + 1 → X' (ρ j) 19 = f j := by
  intro j hj
  rw [e]
  by_cases q : j = i
  · rw [q]; exact uV_self.trans hx
  · rw [uV_cell (inj j (by omega))]; exact h j (by omega)
theorem inA_no {a b c : Nat} (h : c < a ∨ b < c) : inA [(a, b)] c = false := by
  unfold inA
  rw [List.any_cons, List.any_nil, Bool.or_false]
  apply Bool.eq_false_iff.mpr
  intro z
  rw [Bool.and_eq_true] at z
  have z1 := Nat.le_of_ble_eq_true z.1
  have z2 := Nat.le_of_ble_eq_true z.2
  simp only at z1 z2
  omega
theorem vf_s {X X' : VV} {a w N : Nat} {x : Int} {g : Nat → Int} (h : ∀ j, w + 1 ≤ j → j ≤ N → X a j = g j) (e : X' = uV X a w x) (hx : x = g w) : ∀ j, w ≤ j → j ≤ N → X' a j = g j := by
  intro j h1 h2
  rw [e, uV_at]
  by_cases q : j = w
  · rw [if_pos q, q]; exact hx
  · rw [if_neg q]; exact h j (by omega) h2
theorem hoB_x {V V' : VV} {R : RR} {ρ : Nat → Nat} {c h N : Nat} (hN : N ≤ 24) (hrw : rwI R ρ) (e : ∀ c, 60 ≤ c → c ≤ 84 → V' c 18 = V c 18) : ∀ i, i < N → hoB V' ρ c h i = hoB V ρ c h i := fun i hi => by
  unfold hoB
  rw [e _ (hrw.1 i (by omega)).2.1 (hrw.1 i (by omega)).2.2]
theorem lst_x2 {p q : Nat → Bool} : ∀ n, (∀ i, i < n → p i = q i) → lstB p n = lstB q n
  | 0, _ => rfl
  | n + 1, h => by
    unfold lstB
    rw [h n (by omega), lst_x2 n (fun i hi => h i (by omega))]
