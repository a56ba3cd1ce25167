/-! spots -/
def nthB (p : Nat → Bool) : Nat → Nat → Nat
  | 0, _ => 0
  | n + 1, i => if p n = true ∧ cntB p n = i then n else nthB p n i
theorem nth_cnt {p : Nat → Bool} : ∀ {n h : Nat}, h < n → p h = true → nthB p n (cntB p h) = h
  | 0, h, q, _ => by omega
  | n + 1, h, q, hp => by
    unfold nthB
    by_cases z : h = n
    · subst z; rw [if_pos ⟨hp, rfl⟩]
    · have h1 := cntB_mono (p := p) (m := h + 1) (n := n) (by omega)
      rw [cntB_t hp] at h1
      rw [if_neg (fun w => by have := w.2; omega)]
      exact nth_cnt (by omega) hp
theorem nth_ok {p : Nat → Bool} : ∀ {n i : Nat}, i < cntB p n → nthB p n i < n ∧ p (nthB p n i) = true ∧ cntB p (nthB p n i) = i
  | 0, i, h => by exact absurd h (Nat.not_lt_zero _)
  | n + 1, i, h => by
    unfold nthB
    by_cases z : p n = true ∧ cntB p n = i
    · rw [if_pos z]; exact ⟨by omega, z.1, z.2⟩
    · rw [if_neg z]
      have h1 : i < cntB p n := by
        by_cases w : p n = true
        · rw [cntB_t w] at h
          have : ¬ cntB p n = i := fun q => z ⟨w, q⟩
          omega
        · rw [cntB_f w] at h; exact h
      have := nth_ok h1
      exact ⟨by omega, this.2⟩
theorem cnt_lt {p : Nat → Bool} {n h : Nat} (hn : h < n) (hp : p h = true) : cntB p h < cntB p n := by
  have h1 := cntB_mono (p := p) (m := h + 1) (n := n) (by omega)
  rw [cntB_t hp] at h1
  omega
theorem nth_mono {p : Nat → Bool} {n i j : Nat} (hj : j < cntB p n) (h : i < j) : nthB p n i < nthB p n j := by
  have h1 := nth_ok (i := i) (p := p) (n := n) (by omega)
  have h2 := nth_ok hj
  rcases Nat.lt_or_ge (nthB p n i) (nthB p n j) with q | q
  · exact q
  · have := cntB_mono (p := p) q
    omega
/-- the first, or -1 -/
def fstB (p : Nat → Bool) : Nat → Int
  | 0 => -1
  | n + 1 => if fstB p n ≠ -1 then fstB p n else if p n = true then (n : Int) else -1
theorem fst_spec {p : Nat → Bool} : ∀ {n : Nat}, (fstB p n = -1 ∧ ∀ i, i < n → p i = false) ∨ ∃ i, i < n ∧ fstB p n = (i : Int) ∧ p i = true ∧ ∀ j, j < i → p j = false
  | 0 => Or.inl ⟨rfl, fun i h => absurd h (Nat.not_lt_zero _)⟩
  | n + 1 => by
    unfold fstB
    rcases fst_spec (p := p) (n := n) with ⟨h1, h2⟩ | ⟨i, h1, h2, h3, h4⟩
    · rw [if_neg (fun z => z h1)]
      by_cases q : p n = true
      · rw [if_pos q]; exact Or.inr ⟨n, by omega, rfl, q, h2⟩
      · rw [if_neg q]; exact Or.inl ⟨rfl, up_all h2 (Bool.eq_false_iff.mpr q)⟩
    · rw [if_pos (by omega), h2]; exact Or.inr ⟨i, by omega, rfl, h3, h4⟩
theorem fst_is {p : Nat → Bool} {n i : Nat} (hi : i < n) (hp : p i = true) (h : ∀ j, j < i → p j = false) : fstB p n = (i : Int) := by
  rcases fst_spec (p := p) (n := n) with ⟨h1, h2⟩ | ⟨j, h1, h2, h3, h4⟩
  · rw [h2 i hi] at hp; cases hp
  · rcases Nat.lt_trichotomy i j with q | q | q
    · rw [h4 i q] at hp; cases hp
    · rw [h2, q]
    · rw [h j q] at h3; cases h3
theorem fst_no {p : Nat → Bool} {n : Nat} (h : ∀ j, j < n → p j = false) : fstB p n = -1 := by
  rcases fst_spec (p := p) (n := n) with ⟨h1, h2⟩ | ⟨j, h1, h2, h3, h4⟩
  · exact h1
  · rw [h j h1] at h3; cases h3
abbrev fieldP (x y : Int) : Prop := (0 ≤ x ∧ x ≤ 499) ∧ 0 ≤ y ∧ y ≤ 499
section
variable (b : Bk) (k : Int) (c : Nat)
/-- where a hole lies in the field, once the frames are joined as candidate c says -/
def fdX (h : Nat) : Int := if b.dg h = 1 then tX b h ((c / 1681 : Nat) : Int) + (((c / 41 % 41 : Nat) : Int) - 20) else b.hx h
def fdY (h : Nat) : Int := if b.dg h = 1 then tY b h ((c / 1681 : Nat) : Int) + (((c % 41 : Nat) : Int) - 20) else b.hy h
def isSp (h : Nat) : Bool := decide (thr b k h ∧ fieldP (fdX b c h) (fdY b c h)) && !(decide (b.dg h = 1) && stks b k (fdX b c h) (fdY b c h))
def nrF (h g : Nat) : Bool := decide (b.dg g = 0 ∧ thr b k g ∧ fieldP (b.hx g) (b.hy g) ∧ nr b (fdX b c h) (fdY b c h) (b.hx g) (b.hy g))
/-- the hole whose spot a hole is of, or -1 -/
def owO (h : Nat) : Int := if isSp b k c h = true then (h : Int) else if thr b k h ∧ b.dg h = 1 ∧ stks b k (fdX b c h) (fdY b c h) = true then fstB (nrF b k c h) b.n else -1
def nSp : Nat := cntB (isSp b k c) b.n
def shO (i : Nat) : Nat := nthB (isSp b k c) b.n i
def mxD (g : Nat) : Nat → Int
  | 0 => 0
  | n + 1 => if owO b k c n = (g : Int) ∧ mxD g n < depO b k n then depO b k n else mxD g n
def fulO (g : Nat) : Int := mxD b k c g b.n + plgO b (fdX b c g) (fdY b c g)
end
section
variable {b : Bk} {k : Int} {c : Nat}
theorem fd_b (o : bO b) (hc : c < 6724) {h : Nat} : (-620 ≤ fdX b c h ∧ fdX b c h ≤ 1119) ∧ -620 ≤ fdY b c h ∧ fdY b c h ≤ 1119 := by
  have h1 := tX_b (h := h) (t := ((c / 1681 : Nat) : Int)) o
  have h2 := tY_b (h := h) (t := ((c / 1681 : Nat) : Int)) o
  have h3 := o.hx h
  have h4 := o.hy h
  have h5 : c / 41 % 41 < 41 := by omega
  have h6 : c % 41 < 41 := by omega
  unfold fdX fdY
  split <;> omega
theorem isSp_iff {h : Nat} : isSp b k c h = true ↔ (thr b k h ∧ fieldP (fdX b c h) (fdY b c h)) ∧ ¬ (b.dg h = 1 ∧ stks b k (fdX b c h) (fdY b c h) = true) := by
  unfold isSp
  rw [Bool.and_eq_true, decide_eq_true_iff, Bool.not_eq_true', ← Bool.not_eq_true, Bool.and_eq_true, decide_eq_true_iff]
theorem nSp_le : nSp b k c ≤ b.n := cntB_le
theorem ow_sp {h : Nat} (hp : isSp b k c h = true) : owO b k c h = (h : Int) := by unfold owO; rw [if_pos hp]
theorem ow_is {h : Nat} (hn : h < b.n) : owO b k c h = -1 ∨ ∃ g, g < b.n ∧ owO b k c h = (g : Int) ∧ isSp b k c g = true := by
  unfold owO
  by_cases q : isSp b k c h = true
  · rw [if_pos q]; exact Or.inr ⟨h, hn, rfl, q⟩
  · rw [if_neg q]
    by_cases q2 : thr b k h ∧ b.dg h = 1 ∧ stks b k (fdX b c h) (fdY b c h) = true
    · rw [if_pos q2]
      rcases fst_spec (p := nrF b k c h) (n := b.n) with ⟨h1, h2⟩ | ⟨i, h1, h2, h3, h4⟩
      · exact Or.inl h1
      · refine Or.inr ⟨i, h1, h2, isSp_iff.mpr ?_⟩
        have h5 := of_decide_eq_true h3
        have e1 : fdX b c i = b.hx i := by unfold fdX; rw [if_neg (by omega)]
        have e2 : fdY b c i = b.hy i := by unfold fdY; rw [if_neg (by omega)]
        rw [e1, e2]
        exact ⟨⟨h5.2.1, h5.2.2.1⟩, fun z => by omega⟩
    · rw [if_neg q2]; exact Or.inl rfl
/-- the greatest depth of those that are of g -/
theorem mxD_b (o : bO b) {g : Nat} : ∀ n, 0 ≤ mxD b k c g n ∧ mxD b k c g n ≤ 200
  | 0 => by show (0 : Int) ≤ 0 ∧ (0 : Int) ≤ 200; omega
  | n + 1 => by
    have h1 := dep_b (k := k) (h := n) o b.rn
    unfold mxD
    split
    · exact h1
    · exact mxD_b o n
theorem mxD_ge (o : bO b) {g : Nat} : ∀ {n h : Nat}, h < n → owO b k c h = (g : Int) → depO b k h ≤ mxD b k c g n
  | 0, h, q, _ => by omega
  | n + 1, h, q, e => by
    unfold mxD
    by_cases z : h = n
    · subst z
      by_cases w : mxD b k c g h < depO b k h
      · rw [if_pos ⟨e, w⟩]; omega
      · rw [if_neg (fun x => w x.2)]; omega
    · have := mxD_ge o (g := g) (n := n) (h := h) (by omega) e
      split
      · rename_i w
        have := w.2
        omega
      · exact this
theorem mxD_at {g : Nat} : ∀ {n : Nat}, mxD b k c g n = 0 ∨ ∃ h, h < n ∧ owO b k c h = (g : Int) ∧ mxD b k c g n = depO b k h
  | 0 => Or.inl rfl
  | n + 1 => by
    unfold mxD
    by_cases w : owO b k c n = (g : Int) ∧ mxD b k c g n < depO b k n
    · rw [if_pos w]; exact Or.inr ⟨n, by omega, w.1, rfl⟩
    · rw [if_neg w]
      rcases mxD_at (g := g) (n := n) with h | ⟨h, h1, h2⟩
      · exact Or.inl h
      · exact Or.inr ⟨h, by omega, h2⟩
theorem mxD_is (o : bO b) {g : Nat} {M : Int} (h1 : ∀ h, h < b.n → owO b k c h = (g : Int) → depO b k h ≤ M) (h2 : ∃ h, h < b.n ∧ owO b k c h = (g : Int) ∧ M = depO b k h) : M = mxD b k c g b.n := by
  obtain ⟨h, q1, q2, q3⟩ := h2
  have q4 := mxD_ge o q1 q2
  rcases mxD_at (b := b) (k := k) (c := c) (g := g) (n := b.n) with q | ⟨h', w1, w2, w3⟩
  · have := (dep_b (k := k) (h := h) o b.rn).1
    have e : depO b k h = dep b k h b.rn := rfl
    omega
  · have := h1 h' w1 w2
    omega
end
