/-! the reference's parts: gaps seen along and across each side -/
def r6 (m : Int) : Prop := -9223372036854775808 ≤ m ∧ m ≤ 9223372036854775807
def mnX (f : Nat → Int) (z : Int) (c : Nat) (m : Int) : Prop := r6 m ∧ m ≤ z ∧ (∀ t, t < c → m ≤ f t) ∧ (m = z ∨ ∃ t, t < c ∧ m = f t)
def mxR (f : Nat → Int) (z : Int) (c : Nat) (m : Int) : Prop := r6 m ∧ z ≤ m ∧ (∀ t, t < c → f t ≤ m) ∧ (m = z ∨ ∃ t, t < c ∧ m = f t)
section
variable {f g : Nat → Int} {z m : Int} {c : Nat}
theorem mnX_0 (h : r6 z) : mnX f z 0 z := ⟨h, Int.le_refl _, fun t ht => absurd ht (Nat.not_lt_zero _), Or.inl rfl⟩
theorem mxR_0 (h : r6 z) : mxR f z 0 z := ⟨h, Int.le_refl _, fun t ht => absurd ht (Nat.not_lt_zero _), Or.inl rfl⟩
theorem mnX_k (h : mnX f z c m) (q : ¬ f c < m) : mnX f z (c + 1) m := ⟨h.1, h.2.1, up_all h.2.2.1 (by omega), h.2.2.2.elim Or.inl fun ⟨t, t1, t2⟩ => Or.inr ⟨t, by omega, t2⟩⟩
theorem mnX_n (h : mnX f z c m) (hr : r6 (f c)) (q : f c < m) : mnX f z (c + 1) (f c) := ⟨hr, by have := h.2.1; omega, up_all (fun t ht => by have := h.2.2.1 t ht; omega) (Int.le_refl _), Or.inr ⟨c, by omega, rfl⟩⟩
theorem mxR_k (h : mxR f z c m) (q : ¬ m < f c) : mxR f z (c + 1) m := ⟨h.1, h.2.1, up_all h.2.2.1 (by omega), h.2.2.2.elim Or.inl fun ⟨t, t1, t2⟩ => Or.inr ⟨t, by omega, t2⟩⟩
theorem mxR_n (h : mxR f z c m) (hr : r6 (f c)) (q : m < f c) : mxR f z (c + 1) (f c) := ⟨hr, by have := h.2.1; omega, up_all (fun t ht => by have := h.2.2.1 t ht; omega) (Int.le_refl _), Or.inr ⟨c, by omega, rfl⟩⟩
def mn2 (x y : Int) : Int := if x < y then x else y
def mx2 (x y : Int) : Int := if x < y then y else x
def mn4 (f : Nat → Int) : Int := mn2 (mn2 (f 0) (f 1)) (mn2 (f 2) (f 3))
def mx4 (f : Nat → Int) : Int := mx2 (mx2 (f 0) (f 1)) (mx2 (f 2) (f 3))
theorem mn4_s : (mn4 f ≤ f 0 ∧ mn4 f ≤ f 1 ∧ mn4 f ≤ f 2 ∧ mn4 f ≤ f 3) ∧ (mn4 f = f 0 ∨ mn4 f = f 1 ∨ mn4 f = f 2 ∨ mn4 f = f 3) := by
  unfold mn4
  generalize f 0 = a; generalize f 1 = b; generalize f 2 = c; generalize f 3 = d
  have h1 : (mn2 a b ≤ a ∧ mn2 a b ≤ b) ∧ (mn2 a b = a ∨ mn2 a b = b) := by unfold mn2; split <;> omega
  have h2 : (mn2 c d ≤ c ∧ mn2 c d ≤ d) ∧ (mn2 c d = c ∨ mn2 c d = d) := by unfold mn2; split <;> omega
  generalize mn2 a b = p at *
  generalize mn2 c d = q at *
  have h3 : (mn2 p q ≤ p ∧ mn2 p q ≤ q) ∧ (mn2 p q = p ∨ mn2 p q = q) := by unfold mn2; split <;> omega
  omega
theorem mx4_s : (f 0 ≤ mx4 f ∧ f 1 ≤ mx4 f ∧ f 2 ≤ mx4 f ∧ f 3 ≤ mx4 f) ∧ (mx4 f = f 0 ∨ mx4 f = f 1 ∨ mx4 f = f 2 ∨ mx4 f = f 3) := by
  unfold mx4
  generalize f 0 = a; generalize f 1 = b; generalize f 2 = c; generalize f 3 = d
  have h1 : (a ≤ mx2 a b ∧ b ≤ mx2 a b) ∧ (mx2 a b = a ∨ mx2 a b = b) := by unfold mx2; split <;> omega
  have h2 : (c ≤ mx2 c d ∧ d ≤ mx2 c d) ∧ (mx2 c d = c ∨ mx2 c d = d) := by unfold mx2; split <;> omega
  generalize mx2 a b = p at *
  generalize mx2 c d = q at *
  have h3 : (p ≤ mx2 p q ∧ q ≤ mx2 p q) ∧ (mx2 p q = p ∨ mx2 p q = q) := by unfold mx2; split <;> omega
  omega
theorem i4 {t : Nat} (h : t < 4) : t = 0 ∨ t = 1 ∨ t = 2 ∨ t = 3 := by omega
theorem mnX_4 (h : mnX f z 4 m) (hz : ∃ t, t < 4 ∧ f t ≤ z) : m = mn4 f := by
  have s := mn4_s (f := f)
  obtain ⟨_, h1, h2, h3⟩ := h
  have a0 := h2 0 (by omega); have a1 := h2 1 (by omega); have a2 := h2 2 (by omega); have a3 := h2 3 (by omega)
  obtain ⟨t, t1, t2⟩ := hz
  have e1 : mn4 f ≤ f t := by rcases i4 t1 with rfl | rfl | rfl | rfl <;> omega
  have e2 : mn4 f ≤ m := by
    rcases h3 with h3 | ⟨u, u1, u2⟩
    · omega
    · rcases i4 u1 with rfl | rfl | rfl | rfl <;> omega
  omega
theorem mxR_4 (h : mxR f z 4 m) (hz : ∃ t, t < 4 ∧ z ≤ f t) : m = mx4 f := by
  have s := mx4_s (f := f)
  obtain ⟨_, h1, h2, h3⟩ := h
  have a0 := h2 0 (by omega); have a1 := h2 1 (by omega); have a2 := h2 2 (by omega); have a3 := h2 3 (by omega)
  obtain ⟨t, t1, t2⟩ := hz
  have e1 : f t ≤ mx4 f := by rcases i4 t1 with rfl | rfl | rfl | rfl <;> omega
  have e2 : m ≤ mx4 f := by
    rcases h3 with h3 | ⟨u, u1, u2⟩
    · omega
    · rcases i4 u1 with rfl | rfl | rfl | rfl <;> omega
  omega
/-- a gap between two rows of four -/
def sepB (f g : Nat → Int) : Bool := decide (mx4 g < mn4 f) || decide (mx4 f < mn4 g)
end
def crs (V : VV) (a b i t : Nat) : Int := (V 158 (a + 2 * ((i + 1) % 4)) - V 158 (a + 2 * i)) * (V 158 (b + 2 * t + 1) - V 158 (a + 2 * i + 1)) - (V 158 (a + 2 * ((i + 1) % 4) + 1) - V 158 (a + 2 * i + 1)) * (V 158 (b + 2 * t) - V 158 (a + 2 * i))
def dts (V : VV) (a b i t : Nat) : Int := (V 158 (a + 2 * ((i + 1) % 4)) - V 158 (a + 2 * i)) * (V 158 (b + 2 * t) - V 158 (a + 2 * i)) + (V 158 (a + 2 * ((i + 1) % 4) + 1) - V 158 (a + 2 * i + 1)) * (V 158 (b + 2 * t + 1) - V 158 (a + 2 * i + 1))
theorem crs_0 {V : VV} {a i : Nat} : crs V a a i i = 0 ∧ dts V a a i i = 0 := by
  unfold crs dts
  rw [Int.sub_self, Int.sub_self, Int.mul_zero, Int.mul_zero]
  exact ⟨rfl, rfl⟩
theorem crs_b {V : VV} {a b i t : Nat} (hB : Bd V) : (-9000000000000 ≤ crs V a b i t ∧ crs V a b i t ≤ 9000000000000) ∧ -9000000000000 ≤ dts V a b i t ∧ dts V a b i t ≤ 9000000000000 := by
  have k := fun j => hB.1 158 (-1000000) 1000000 rfl j
  have k1 := k (a + 2 * ((i + 1) % 4)); have k2 := k (a + 2 * i); have k3 := k (b + 2 * t + 1); have k4 := k (a + 2 * i + 1); have k5 := k (a + 2 * ((i + 1) % 4) + 1); have k6 := k (b + 2 * t)
  unfold crs dts
  generalize V 158 (a + 2 * ((i + 1) % 4)) = x1 at *; generalize V 158 (a + 2 * i) = x2 at *; generalize V 158 (b + 2 * t + 1) = x3 at *; generalize V 158 (a + 2 * i + 1) = x4 at *; generalize V 158 (a + 2 * ((i + 1) % 4) + 1) = x5 at *; generalize V 158 (b + 2 * t) = x6 at *
  clear k
  have m1 := mbb (a := x1 - x2) (A := 2000000) (b := x3 - x4) (B := 2000000) (by omega) (by omega) (by omega) (by omega)
  have m2 := mbb (a := x5 - x4) (A := 2000000) (b := x6 - x2) (B := 2000000) (by omega) (by omega) (by omega) (by omega)
  have m3 := mbb (a := x1 - x2) (A := 2000000) (b := x6 - x2) (B := 2000000) (by omega) (by omega) (by omega) (by omega)
  have m4 := mbb (a := x5 - x4) (A := 2000000) (b := x3 - x4) (B := 2000000) (by omega) (by omega) (by omega) (by omega)
  omega
def prB (V : VV) (a b i : Nat) : Bool := sepB (crs V a a i) (crs V a b i) || sepB (dts V a a i) (dts V a b i)
theorem prB_t {V : VV} {a b i : Nat} (h : mx4 (crs V a b i) < mn4 (crs V a a i) ∨ mx4 (crs V a a i) < mn4 (crs V a b i) ∨ mx4 (dts V a b i) < mn4 (dts V a a i) ∨ mx4 (dts V a a i) < mn4 (dts V a b i)) : prB V a b i = true := by
  unfold prB sepB
  rw [Bool.or_eq_true, Bool.or_eq_true, Bool.or_eq_true, decide_eq_true_iff, decide_eq_true_iff, decide_eq_true_iff, decide_eq_true_iff]
  omega
theorem prB_f {V : VV} {a b i : Nat} (h : ¬ (mx4 (crs V a b i) < mn4 (crs V a a i) ∨ mx4 (crs V a a i) < mn4 (crs V a b i) ∨ mx4 (dts V a b i) < mn4 (dts V a a i) ∨ mx4 (dts V a a i) < mn4 (dts V a b i))) : prB V a b i = false := by
  apply Bool.eq_false_iff.mpr
  intro z
  unfold prB sepB at z
  rw [Bool.or_eq_true, Bool.or_eq_true, Bool.or_eq_true, decide_eq_true_iff, decide_eq_true_iff, decide_eq_true_iff, decide_eq_true_iff] at z
  omega
