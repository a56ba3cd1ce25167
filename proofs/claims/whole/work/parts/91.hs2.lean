/-! a framework's house with n posts -/
theorem mulb {i v M N : Int} (h1 : 0 ≤ i) (h2 : i ≤ N) (h3 : -M ≤ v) (h4 : v ≤ M) : -(N * M) ≤ i * v ∧ i * v ≤ N * M := by
  have hM : 0 ≤ M := by omega
  have a1 : i * v ≤ i * M := Int.mul_le_mul_of_nonneg_left h4 h1
  have a2 : i * M ≤ N * M := Int.mul_le_mul_of_nonneg_right h2 hM
  have a3 : i * (-M) ≤ i * v := Int.mul_le_mul_of_nonneg_left h3 h1
  rw [Int.mul_neg] at a3
  omega
section
variable (b : Bk) (k : Int) (S : Sp) (K : Kd) (p q r : Nat)
def plO (i j : Nat) : Int := stO b k S K (S.x p + (i : Int) * (S.x q - S.x p) + (j : Int) * (S.x r - S.x p)) (S.y p + (i : Int) * (S.y q - S.y p) + (j : Int) * (S.y r - S.y p))
def hsO (n : Nat) : Option HS := hall (plO b k S K p q r) S.f (K.l 6) (K.l 0).toNat n
def hwB (n : Nat) : Bool := match hsO b k S K p q r n with
  | none => false
  | some s => decide ((n : Int) * K.l 0 ≤ 2 * s.1 ∧ s.2.1 ≤ K.l 7) && (s.2.2.2.2.testBit p && (s.2.2.2.2.testBit q && s.2.2.2.2.testBit r))
end
/-- the counts as they lie in the reference -/
def hsV (s : HS) (X : VV) : Prop := X 99 72 = s.1 ∧ X 99 73 = s.2.1 ∧ X 99 74 = s.2.2.1 ∧ X 99 75 = s.2.2.2.1 ∧ X 99 77 = (s.2.2.2.2 : Int)
section
variable {b : Bk} {k : Int} {S : Sp} {K : Kd} {p q r n : Nat} {X X' : VV} {s u : HS} {i j : Nat}
theorem plO_r (h : S.m ≤ 40) : -4 ≤ plO b k S K p q r i j ∧ plO b k S K p q r i j < S.m ∧ plO b k S K p q r i j ≠ -1 := st_r h
theorem plO_b (so : sO S) (hp : p < S.m) (hq : q < S.m) (hr : r < S.m) {i j : Int} (hi : 0 ≤ i ∧ i ≤ 7) (hj : 0 ≤ j ∧ j ≤ 3) : (-10000 ≤ S.x p + i * (S.x q - S.x p) + j * (S.x r - S.x p) ∧ S.x p + i * (S.x q - S.x p) + j * (S.x r - S.x p) ≤ 10000) ∧ -10000 ≤ S.y p + i * (S.y q - S.y p) + j * (S.y r - S.y p) ∧ S.y p + i * (S.y q - S.y p) + j * (S.y r - S.y p) ≤ 10000 := by
  have wp := so.2 p hp
  have wq := so.2 q hq
  have wr := so.2 r hr
  have a1 := mulb (v := S.x q - S.x p) (M := 499) hi.1 hi.2 (by omega) (by omega)
  have a2 := mulb (v := S.y q - S.y p) (M := 499) hi.1 hi.2 (by omega) (by omega)
  have a3 := mulb (v := S.x r - S.x p) (M := 499) hj.1 hj.2 (by omega) (by omega)
  have a4 := mulb (v := S.y r - S.y p) (M := 499) hj.1 hj.2 (by omega) (by omega)
  omega
theorem hw_t (h : hsO b k S K p q r n = some s) (h1 : (n : Int) * K.l 0 ≤ 2 * s.1) (h2 : s.2.1 ≤ K.l 7) (h3 : s.2.2.2.2.testBit p = true) (h4 : s.2.2.2.2.testBit q = true) (h5 : s.2.2.2.2.testBit r = true) : hwB b k S K p q r n = true := by
  unfold hwB
  rw [h]
  show (decide _ && _) = true
  rw [decide_eq_true ⟨h1, h2⟩, h3, h4, h5]; rfl
theorem hw_i (h : hwB b k S K p q r n = true) : ∃ s, hsO b k S K p q r n = some s ∧ ((n : Int) * K.l 0 ≤ 2 * s.1 ∧ s.2.1 ≤ K.l 7) ∧ s.2.2.2.2.testBit p = true ∧ s.2.2.2.2.testBit q = true ∧ s.2.2.2.2.testBit r = true := by
  unfold hwB at h
  cases e : hsO b k S K p q r n with
  | none => rw [e] at h; cases h
  | some s =>
    rw [e] at h
    have h : (decide ((n : Int) * K.l 0 ≤ 2 * s.1 ∧ s.2.1 ≤ K.l 7) && (s.2.2.2.2.testBit p && (s.2.2.2.2.testBit q && s.2.2.2.2.testBit r))) = true := h
    rw [Bool.and_eq_true, Bool.and_eq_true, Bool.and_eq_true, decide_eq_true_iff] at h
    exact ⟨s, rfl, h.1, h.2⟩
theorem hw_no (h : hsO b k S K p q r n = none) : ¬ hwB b k S K p q r n = true := fun z => by
  obtain ⟨s, e, _⟩ := hw_i z
  rw [h] at e; cases e
theorem hw_sf (h : hsO b k S K p q r n = some s) (h1 : ¬ ((n : Int) * K.l 0 ≤ 2 * s.1 ∧ s.2.1 ≤ K.l 7 ∧ s.2.2.2.2.testBit p = true ∧ s.2.2.2.2.testBit q = true ∧ s.2.2.2.2.testBit r = true)) : ¬ hwB b k S K p q r n = true := fun z => by
  obtain ⟨s', e, h2, h3⟩ := hw_i z
  rw [h] at e
  cases e
  exact h1 ⟨h2.1, h2.2, h3⟩
/-- a row that fails fails the whole -/
theorem hs_f {ro : Nat} (hro : K.l 0 = (ro : Int)) (hi : i < n) (hj : j < ro) (h : hsO b k S K p q r i = some s) (h1 : hrow (plO b k S K p q r) S.f (K.l 6) (some s) i j = some u) (h2 : hstp (plO b k S K p q r) S.f (K.l 6) u i j = none) : hsO b k S K p q r n = none := by
  have e0 : (K.l 0).toNat = ro := by rw [hro]; exact Int.toNat_natCast ro
  have e1 : hrow (plO b k S K p q r) S.f (K.l 6) (some s) i (j + 1) = none := by rw [hrow_n h1]; exact h2
  have e2 : hall (plO b k S K p q r) S.f (K.l 6) (K.l 0).toNat (i + 1) = none := by
    show hrow _ _ _ (hall _ _ _ _ i) i _ = none
    have h : hall (plO b k S K p q r) S.f (K.l 6) (K.l 0).toNat i = some s := h
    rw [h]
    exact hrow_f e1 (by omega)
  exact hall_f e2 (by omega)
theorem hs_s {ro : Nat} (hro : K.l 0 = (ro : Int)) (h : hsO b k S K p q r i = some s) (h1 : hrow (plO b k S K p q r) S.f (K.l 6) (some s) i j = some u) (hj : j = ro) : hsO b k S K p q r (i + 1) = some u := by
  have e0 : (K.l 0).toNat = ro := by rw [hro]; exact Int.toNat_natCast ro
  show hrow _ _ _ (hall _ _ _ _ i) i _ = some u
  have h : hall (plO b k S K p q r) S.f (K.l 6) (K.l 0).toNat i = some s := h
  rw [h, e0, ← hj]; exact h1
theorem hs_I {ro : Nat} (hro : K.l 0 = (ro : Int)) (hm : S.m ≤ 40) (h : hsO b k S K p q r i = some s) (h1 : hrow (plO b k S K p q r) S.f (K.l 6) (some s) i j = some u) : hsI (plO b k S K p q r) ((i * ro : Nat) + j) (fun a c => (a < i ∧ c < ro) ∨ (a = i ∧ c < j)) u := by
  have e0 : (K.l 0).toNat = ro := by rw [hro]; exact Int.toNat_natCast ro
  have hP : ∀ i j, plO b k S K p q r i j < 40 := fun i j => by have := (plO_r (b := b) (k := k) (S := S) (K := K) (p := p) (q := q) (r := r) (i := i) (j := j) hm).2.1; omega
  have w := hall_I hP (show hall (plO b k S K p q r) S.f (K.l 6) (K.l 0).toNat i = some s from h)
  rw [e0] at w
  exact hrow_I hP w h1
theorem st_n (hp : plO b k S K p q r i j < 0) : hstp (plO b k S K p q r) S.f (K.l 6) u i j = some (if plO b k S K p q r i j = -2 then (u.1, u.2.1, u.2.2.1, u.2.2.2.1 + 1, u.2.2.2.2) else if plO b k S K p q r i j = -3 then (u.1, u.2.1, u.2.2.1 + 1, u.2.2.2.1, u.2.2.2.2) else (u.1, u.2.1 + 1, u.2.2.1, u.2.2.2.1, u.2.2.2.2)) := by
  unfold hstp; rw [if_pos hp]
theorem st_b (hp : ¬ plO b k S K p q r i j < 0) (h : u.2.2.2.2.testBit (plO b k S K p q r i j).toNat = true) : hstp (plO b k S K p q r) S.f (K.l 6) u i j = none := by
  unfold hstp; rw [if_neg hp, if_pos h]
theorem st_p (hp : ¬ plO b k S K p q r i j < 0) (h : ¬ u.2.2.2.2.testBit (plO b k S K p q r i j).toNat = true) (h2 : 0 < j ∧ 0 ≤ plO b k S K p q r i (j - 1) ∧ K.l 6 < abI (S.f (plO b k S K p q r i j).toNat - S.f (plO b k S K p q r i (j - 1)).toNat)) : hstp (plO b k S K p q r) S.f (K.l 6) u i j = none := by
  unfold hstp; rw [if_neg hp, if_neg h, if_pos h2]
theorem st_y (hp : ¬ plO b k S K p q r i j < 0) (h : ¬ u.2.2.2.2.testBit (plO b k S K p q r i j).toNat = true) (h2 : ¬ (0 < j ∧ 0 ≤ plO b k S K p q r i (j - 1) ∧ K.l 6 < abI (S.f (plO b k S K p q r i j).toNat - S.f (plO b k S K p q r i (j - 1)).toNat))) : hstp (plO b k S K p q r) S.f (K.l 6) u i j = some (u.1 + 1, u.2.1, u.2.2.1, u.2.2.2.1, u.2.2.2.2 ||| 2 ^ (plO b k S K p q r i j).toNat) := by
  unfold hstp; rw [if_neg hp, if_neg h, if_neg h2]
/-- places written so far -/
def plI (P : Nat → Nat → Int) (ro i j : Nat) (X : VV) : Prop := ∀ a c, ((a < i ∧ c < ro) ∨ (a = i ∧ c < j)) → X 148 (4 * a + c) = P a c
theorem pl_s {P : Nat → Nat → Int} {ro : Nat} {v : Int} (h : plI P ro i j X) (hro : ro ≤ 4) (hj : j < ro) (e : X' 148 = uV X 148 (4 * i + j) v 148) (hv : v = P i j) : plI P ro i (j + 1) X' := by
  intro a c hc
  rw [e, uV_at]
  by_cases w : a = i ∧ c = j
  · rw [if_pos (by omega), w.1, w.2, hv]
  · rw [if_neg (by omega)]
    exact h a c (by omega)
end
section
variable {A : List (Nat × Nat)} {F : List (Nat × Nat × Nat)} {V V' : VV} {S : Sp} {K : Kd} {kd : Nat}
def okS (A : List (Nat × Nat)) (F : List (Nat × Nat × Nat)) : Bool := (offC A F 131 && (offC A F 132 && (offC A F 133 && offC A F 134))) && (!(inA A 99) && !(inF F 99 49))
theorem sM_c (h : sM S V) (f : chg A F V V') (ok : okS A F = true) : sM S V' := by
  unfold okS at ok
  rw [Bool.and_eq_true, Bool.and_eq_true, Bool.and_eq_true, Bool.and_eq_true] at ok
  unfold sM
  rw [chg_k f ok.1.1, chg_k f ok.1.2.1, chg_k f ok.1.2.2.1, chg_k f ok.1.2.2.2, chg_j f ok.2]
  exact h
def okK (A : List (Nat × Nat)) (F : List (Nat × Nat × Nat)) : Bool := offC A F 122 && offC A F 123
theorem kM_c (h : kM K kd V) (f : chg A F V V') (ok : okK A F = true) : kM K kd V' := by
  unfold okK at ok
  rw [Bool.and_eq_true] at ok
  unfold kM
  rw [chg_k f ok.1, chg_k f ok.2]
  exact h
end
section
variable {u : HS} {Y A B C : VV} {x : Nat} {v w : Int}
theorem hv_u (h : hsV u Y) (eA : A = uV Y 148 x v) (eB : B = uV A 99 75 (Y 99 75 + 1)) : hsV (u.1, u.2.1, u.2.2.1, u.2.2.2.1 + 1, u.2.2.2.2) B := by
  subst eB eA
  exact ⟨h.1, h.2.1, h.2.2.1, by show Y 99 75 + 1 = _; rw [h.2.2.2.1], h.2.2.2.2⟩
theorem hv_l (h : hsV u Y) (eA : A = uV Y 148 x v) (eB : B = uV A 99 74 (Y 99 74 + 1)) : hsV (u.1, u.2.1, u.2.2.1 + 1, u.2.2.2.1, u.2.2.2.2) B := by
  subst eB eA
  exact ⟨h.1, h.2.1, by show Y 99 74 + 1 = _; rw [h.2.2.1], h.2.2.2.1, h.2.2.2.2⟩
theorem hv_m (h : hsV u Y) (eA : A = uV Y 148 x v) (eB : B = uV A 99 73 (Y 99 73 + 1)) : hsV (u.1, u.2.1 + 1, u.2.2.1, u.2.2.2.1, u.2.2.2.2) B := by
  subst eB eA
  exact ⟨h.1, by show Y 99 73 + 1 = _; rw [h.2.1], h.2.2.1, h.2.2.2.1, h.2.2.2.2⟩
theorem hv_f {a : Nat} (h : hsV u Y) (eA : A = uV Y 148 x v) (eB : B = uV A 99 77 w) (eC : C = uV B 99 72 (Y 99 72 + 1)) (hw : w = (a : Int)) : hsV (u.1 + 1, u.2.1, u.2.2.1, u.2.2.2.1, a) C := by
  subst eC eB eA
  exact ⟨by show Y 99 72 + 1 = _; rw [h.1], h.2.1, h.2.2.1, h.2.2.2.1, hw⟩
end
