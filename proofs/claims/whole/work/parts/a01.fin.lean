/-! the class's finder -/
section
variable {A : List (Nat × Nat)} {F : List (Nat × Nat × Nat)} {V V' : VV} {S : Sp} {K : Kd} {ka : Nat}
def okT (A : List (Nat × Nat)) (F : List (Nat × Nat × Nat)) : Bool := (List.range 5).all fun i => offC A F (19 + i)
theorem kC_c (h : kC K ka V) (ha : 19 ≤ ka ∧ ka ≤ 23) (f : chg A F V V') (ok : okT A F = true) : kC K ka V' := by
  unfold okT at ok
  rw [List.all_eq_true] at ok
  have := ok (ka - 19) (List.mem_range.mpr (by omega))
  rw [show 19 + (ka - 19) = ka by omega] at this
  unfold kC
  rw [chg_k f this]
  exact h
def okP (A : List (Nat × Nat)) (F : List (Nat × Nat × Nat)) : Bool := (List.range 8).all fun i => offC A F (44 + i)
theorem okP_i (ok : okP A F = true) {c : Nat} (h1 : 44 ≤ c) (h2 : c ≤ 51) : offC A F c = true := by
  unfold okP at ok
  rw [List.all_eq_true] at ok
  have := ok (c - 44) (List.mem_range.mpr (by omega))
  rw [show 44 + (c - 44) = c by omega] at this
  exact this
theorem mapC_c (h : mapC S V) (f : chg A F V V') (ok : okP A F = true) : mapC S V' := by
  unfold mapC sC
  rw [chg_k f (okP_i ok (c := 44) (by omega) (by omega)), chg_k f (okP_i ok (c := 45) (by omega) (by omega)), chg_k f (okP_i ok (c := 46) (by omega) (by omega)), chg_k f (okP_i ok (c := 47) (by omega) (by omega)), chg_k f (okP_i ok (c := 48) (by omega) (by omega)), chg_k f (okP_i ok (c := 50) (by omega) (by omega)), chg_k f (okP_i ok (c := 51) (by omega) (by omega))]
  exact h
end
abbrev fitP (S : Sp) (K : Kd) (s : Nat) : Prop := K.l 5 ≤ S.f s ∧ S.f s ≤ K.h 5
/-- a spot that can be a corner: it fits, and fills its own place -/
def crn (S : Sp) (K : Kd) (s : Nat) : Bool := decide (fitP S K s ∧ nbO S (K.l 4) (S.x s) (S.y s) = (s : Int))
theorem st_f {b : Bk} {k : Int} {S : Sp} {K : Kd} {x y : Int} {c : Nat} (h : nbO S (K.l 4) x y = (c : Int)) (hf : fitP S K c) : stO b k S K x y = (c : Int) := by
  unfold stO
  rw [h, Int.toNat_natCast, if_pos ⟨by omega, hf⟩]
theorem st_u {b : Bk} {k : Int} {S : Sp} {K : Kd} {x y : Int} (h : nbO S (K.l 4) x y = -1 ∨ ¬ fitP S K (nbO S (K.l 4) x y).toNat) : stO b k S K x y = if ¬ dugO b k x y = true then -2 else if 0 < plgO b x y ∧ K.l 5 ≤ plgO b x y then -3 else -4 := by
  unfold stO
  rw [if_neg]
  rintro ⟨z1, z2⟩
  rcases h with h | h
  · exact z1 h
  · exact h z2
/-! bits by holes -/
def mR (S : Sp) (a c : Nat) : Prop := c < 2 ^ 40 ∧ ∀ h : Nat, c.testBit h = true ↔ ∃ s, s < S.m ∧ a.testBit s = true ∧ S.h s = (h : Int)
theorem sh_inj {S : Sp} (so : sO S) {s t : Nat} (hs : s < S.m) (ht : t < S.m) (e : S.h s = S.h t) : s = t := by
  rcases Nat.lt_trichotomy s t with q | q | q
  · have := (so.2 t ht).2.2.2.2 s q; omega
  · exact q
  · have := (so.2 s hs).2.2.2.2 t q; omega
theorem mR_b {S : Sp} (so : sO S) {a c s : Nat} (h : mR S a c) (hs : s < S.m) : c.testBit (S.h s).toNat = true ↔ a.testBit s = true := by
  have w := (so.2 s hs).2.2.2.1
  rw [h.2]
  constructor
  · rintro ⟨t, h1, h2, h3⟩
    rw [sh_inj so hs h1 (by omega)]; exact h2
  · intro z
    exact ⟨s, hs, z, by omega⟩
theorem mR_o {S : Sp} (so : sO S) {a c s : Nat} (h : mR S a c) (hs : s < S.m) : mR S (a ||| 2 ^ s) (c ||| 2 ^ (S.h s).toNat) := by
  have w := (so.2 s hs).2.2.2.1
  refine ⟨Nat.or_lt_two_pow h.1 (wb_lt2 (by omega)), fun g => ?_⟩
  rw [tb_or, h.2 g]
  constructor
  · rintro (⟨t, h1, h2, h3⟩ | z)
    · exact ⟨t, h1, tb_or.mpr (Or.inl h2), h3⟩
    · exact ⟨s, hs, tb_or.mpr (Or.inr rfl), by omega⟩
  · rintro ⟨t, h1, h2, h3⟩
    rcases tb_or.mp h2 with z | z
    · exact Or.inl ⟨t, h1, z, h3⟩
    · subst z; exact Or.inr (by omega)
theorem mR_0 {S : Sp} : mR S 0 0 := ⟨by decide, fun h => by
  rw [Nat.zero_testBit]
  constructor
  · intro z; cases z
  · rintro ⟨s, _, z, _⟩; rw [Nat.zero_testBit] at z; cases z⟩
theorem mR_e {S : Sp} (so : sO S) {a a' c c' : Nat} (ha : ∀ s, a.testBit s = true → s < S.m) (ha' : ∀ s, a'.testBit s = true → s < S.m) (h : mR S a c) (h' : mR S a' c') : c = c' ↔ a = a' := by
  constructor
  · intro e
    subst e
    apply Nat.eq_of_testBit_eq
    intro s
    apply Bool.eq_iff_iff.mpr
    constructor
    · intro z; exact (mR_b so h' (ha s z)).mp ((mR_b so h (ha s z)).mpr z)
    · intro z; exact (mR_b so h (ha' s z)).mp ((mR_b so h' (ha' s z)).mpr z)
  · intro e
    subst e
    apply Nat.eq_of_testBit_eq
    intro s
    apply Bool.eq_iff_iff.mpr
    rw [h.2, h'.2]
theorem and_s {c s : Nat} (hc : c < 2 ^ 40) (hs : s < 40) : landZ (c : Int) (lshlZ 1 (s : Int)) = 0 ↔ ¬ c.testBit s = true := by
  have h1 : 2 ^ s < 2 ^ 40 := wb_lt2 hs
  have h2 : 1 * 2 ^ s < 2 ^ 63 := by rw [Nat.one_mul]; exact Nat.lt_trans h1 (by decide)
  rw [show (1 : Int) = ((1 : Nat) : Int) from rfl, lshl_n (by omega) h2, Nat.one_mul, land_n (Nat.lt_trans hc (by decide)) (Nat.lt_trans h1 (by decide))]
  constructor
  · intro z y
    have z : c &&& 2 ^ s = 0 := by omega
    have : (c &&& 2 ^ s).testBit s = true := by rw [Nat.testBit_and, y, Nat.testBit_two_pow]; simp
    rw [z, Nat.zero_testBit] at this
    cases this
  · intro z
    have : c &&& 2 ^ s = 0 := by
      apply Nat.eq_of_testBit_eq
      intro i
      rw [Nat.testBit_and, Nat.testBit_two_pow, Nat.zero_testBit]
      by_cases q : s = i
      · subst q; rw [Bool.eq_false_iff.mpr z]; rfl
      · rw [decide_eq_false q, Bool.and_false]
    rw [this]; rfl
theorem and_r {c s : Nat} (hc : c < 2 ^ 40) (hs : s < 40) : 0 ≤ landZ (c : Int) (lshlZ 1 (s : Int)) ∧ landZ (c : Int) (lshlZ 1 (s : Int)) < 1099511627776 := by
  have h1 : 2 ^ s < 2 ^ 40 := wb_lt2 hs
  have h2 : 1 * 2 ^ s < 2 ^ 63 := by rw [Nat.one_mul]; exact Nat.lt_trans h1 (by decide)
  rw [show (1 : Int) = ((1 : Nat) : Int) from rfl, lshl_n (by omega) h2, Nat.one_mul, land_n (Nat.lt_trans hc (by decide)) (Nat.lt_trans h1 (by decide))]
  have := Nat.and_lt_two_pow c h1
  have e : (2 : Nat) ^ 40 = 1099511627776 := by decide
  omega
/-- the counts as they lie in the finder -/
def hsC (S : Sp) (s : HS) (X : VV) : Prop := X 52 9 = s.1 ∧ X 52 10 = s.2.1 ∧ X 52 11 = s.2.2.1 ∧ X 52 12 = s.2.2.2.1 ∧ ∃ c : Nat, X 52 13 = (c : Int) ∧ mR S s.2.2.2.2 c
