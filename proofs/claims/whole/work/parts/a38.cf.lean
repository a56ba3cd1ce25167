/-! the class's choosing -/
abbrev vL (l : Nat → Nat → Int) : Nat → Int := fun i => l i 9
abbrev bL (l : Nat → Nat → Int) : Nat → Nat := fun i => (l i 10).toNat
def stC (N : Nat) (v : Nat → Int) (c : Nat) (V : VV) : Prop := V 56 5 = (c : Int) ∧ V 56 3 = (chN c N : Int) ∧ V 56 4 = chV v c N ∧ c < 2 ^ N
def vfC (N : Nat) (v : Nat → Int) (V : VV) : Prop := ∀ i, i ≤ N → V 59 i = pvS v N - pvS v i
theorem ps_b {v : Nat → Int} : ∀ n : Nat, (∀ i, i < n → v i ≤ 10000) → 0 ≤ pvS v n ∧ pvS v n ≤ 10000 * (n : Int)
  | 0, _ => by unfold pvS; omega
  | n + 1, h => by
    have h1 := ps_b n (fun i hi => h i (by omega))
    have h2 := h n (by omega)
    unfold pvS
    split <;> omega
theorem chV_b {v : Nat → Int} {B : Nat → Nat} {N T : Nat} (hO : cOk v B N T) : ∀ n, 0 ≤ chV v T n ∧ chV v T n ≤ pvS v n
  | 0 => by unfold chV pvS; omega
  | n + 1 => by
    have h1 := chV_b hO n
    unfold chV pvS
    by_cases q : T.testBit n = true
    · have := (hO.1 n q).2
      rw [if_pos q, if_pos this]; omega
    · rw [if_neg q]
      split <;> omega
section
variable {S : Sp} {Ks : Nat → Kd} {N : Nat} {l : Nat → Nat → Int} {ρ : Nat → Nat} {V V' : VV} {R : RR}
theorem vb_of (hB : Bd V) (hrw : rwI R ρ) (hN : N ≤ 24) (hrl : rwL S Ks N l ρ V) : ∀ i, i < N → -1000 ≤ vL l i ∧ vL l i ≤ 10000 := fun i hi => by
  have h := hB.2 (ρ i) 2 17 (-1000) 10000 (lay_h (hrw.1 i (by omega)).2) rfl
  rw [ho_17 (hrl i hi).1] at h
  exact h
theorem rwL_x (h : rwL S Ks N l ρ V) (hrw : rwI R ρ) (hN : N ≤ 24) (e : ∀ c j, 60 ≤ c → c ≤ 84 → j < 19 → V' c j = V c j) : rwL S Ks N l ρ V' := fun i hi => ⟨hoC_x (h i hi).1 fun j hj => e _ j (hrw.1 i (by omega)).2.1 (hrw.1 i (by omega)).2.2 hj, (h i hi).2⟩
theorem ho_18 {row : Nat → Int} {h : Nat} (hc : hoC S Ks row V h) : ∃ c : Nat, V h 18 = (c : Int) ∧ mR S (row 10).toNat c := by
  obtain ⟨_, _, _, _, _, _, _, _, _, _, _, _, _, _, _, _, _, _, c⟩ := hc
  exact c
theorem ro_m (h : rwL S Ks N l ρ V) {i : Nat} (hi : i < N) : ∀ s, (bL l i).testBit s = true → s < S.m := by
  obtain ⟨a, e, h2⟩ := (h i hi).2
  intro s hs
  have e2 : bL l i = a := by show (l i 10).toNat = a; rw [e]; exact Int.toNat_natCast a
  rw [e2] at hs
  exact h2 s hs
end
def chfP (G : GG) (S : Sp) (Ks : Nat → Kd) (N : Nat) (l : Nat → Nat → Int) (ρ : Nat → Nat) (R : RR) (u : Nat) : Prop := ∀ (V : VV) (n T cU c : Nat) (w : Int), n + u = N → Bd V → V 56 1 = (N : Int) → rwL S Ks N l ρ V → vfC N (vL l) V → T < 2 ^ n → cOk (vL l) (bL l) N T → mR S (chU (bL l) T n) cU → w = chV (vL l) T n → stC N (vL l) c V → chJ (vL l) (bL l) N T n c → Runs G M_X3_chooseFrom (u + 3) 162 162 [vr 56, vi (n : Int), vi (T : Int), vj (cU : Int), vi w] V R (PQ [] [(56, 3, 5)] V R (fun o X => o = none ∧ ∃ c', stC N (vL l) c' X ∧ bSt (vL l) N (fun s => s = c ∨ (cOk (vL l) (bL l) N s ∧ agB T n s)) c'))
theorem cf_x {S : Sp} {Ks : Nat → Kd} {N : Nat} {l : Nat → Nat → Int} {ρ : Nat → Nat} {V V' : VV} {R : RR} (f : chg [] [(56, 3, 5)] V V') (hrw : rwI R ρ) (hN : N ≤ 24) (h1 : V 56 1 = (N : Int)) (h2 : rwL S Ks N l ρ V) (h3 : vfC N (vL l) V) : V' 56 1 = (N : Int) ∧ rwL S Ks N l ρ V' ∧ vfC N (vL l) V' := by
  refine ⟨by rw [f 56 1 rfl rfl]; exact h1, rwL_x h2 hrw hN (fun c j a b _ => f c j rfl (by unfold inF; simp; omega)), fun i hi => ?_⟩
  rw [f 59 i rfl rfl]
  exact h3 i hi
