/-! what the reference has laid out for a week -/
def laidM (b : Bk) (Ks : Nat → Kd) (nk : Nat) (k : Int) (c ch : Nat) (X : VV) : Prop := isB (KK b k) 6724 c ∧ spM b k c X ∧ lsM b k (spS b k c) Ks (aN b k Ks nk c) (aL b k Ks nk c) X ∧ isCh (vL (aL b k Ks nk c)) (bL (aL b k Ks nk c)) (aN b k Ks nk c) ch ∧ (∀ i, i < aN b k Ks nk c → X 147 i = bi (ch.testBit i)) ∧ (X 99 80 = (aC b k Ks nk c ch : Int) ∧ X 99 81 = chV (vL (aL b k Ks nk c)) ch (aN b k Ks nk c)) ∧ (X 99 83 = (aC b k Ks nk c ch : Int) ∧ ∀ t, t < aC b k Ks nk c ch → X 151 t = (mbr ch (aN b k Ks nk c) t : Int)) ∧ relM (aMt b k Ks nk c ch) (aLt b k Ks nk c ch) (aC b k Ks nk c ch) X ∧ phS (aMt b k Ks nk c ch) (aLt b k Ks nk c ch) (aC b k Ks nk c ch) (X 99 86) (X 99 84) (X 99 85) (X 155) ∧ stS (aMt b k Ks nk c ch) (aLt b k Ks nk c ch) (aC b k Ks nk c ch) (lfM Ks (aL b k Ks nk c) ch (aN b k Ks nk c)) (e0M b k c (aL b k Ks nk c) ch (aN b k Ks nk c) b.dn) (l0M b k c (aL b k Ks nk c) ch (aN b k Ks nk c) b.dn) (X 99 86) (X 99 87) (X 156) (X 157) ∧ fnM (spS b k c) (lz0 (aL b k Ks nk c) ch (aN b k Ks nk c)) X
theorem spM_x {b : Bk} {k : Int} {c : Nat} {V X : VV} (h : spM b k c V) (e : ∀ j, 45 ≤ j → j ≤ 49 → X 99 j = V 99 j) (e2 : ∀ a, 128 ≤ a → a ≤ 134 → X a = V a) : spM b k c X := by
  unfold spM frV at h ⊢
  rw [e 45 (by omega) (by omega), e 46 (by omega) (by omega), e 47 (by omega) (by omega), e 48 (by omega) (by omega), e 49 (by omega) (by omega), e2 128 (by omega) (by omega), e2 129 (by omega) (by omega), e2 130 (by omega) (by omega), e2 131 (by omega) (by omega), e2 132 (by omega) (by omega), e2 133 (by omega) (by omega), e2 134 (by omega) (by omega)]
  exact h
theorem spM_c {b : Bk} {k : Int} {c : Nat} {V X : VV} {A : List (Nat × Nat)} {F : List (Nat × Nat × Nat)} (h : spM b k c V) (f : chg A F V X) (ok : (((List.range 50).all fun j => Nat.blt j 45 || (!(inA A 99) && !(inF F 99 j))) && ((List.range 135).all fun i => Nat.blt i 128 || offC A F i)) = true) : spM b k c X := by
  rw [Bool.and_eq_true] at ok
  refine spM_x h (fun j h1 h2 => ?_) (offA f 128 134 ok.2)
  have := List.all_eq_true.mp ok.1 j (List.mem_range.mpr (by omega))
  rw [Bool.or_eq_true] at this
  rcases this with z | z
  · exact absurd (Nat.le_of_ble_eq_true z) (by omega)
  · exact chg_j f z
theorem chJ0 {v : Nat → Int} {B : Nat → Nat} {N : Nat} : chJ v B N 0 0 0 := fun s hO _ _ hc => by
  refine Or.inl ?_
  apply Nat.eq_of_testBit_eq
  intro i
  rw [Nat.zero_testBit]
  apply Bool.eq_false_iff.mpr
  intro z
  have hi := (hO.1 i z).1
  rw [chN_0] at hc
  have := chb_lt (ch := s) hi z
  have h2 : cntB (fun x => s.testBit x) N = 0 := hc
  omega
theorem stM0 {v : Nat → Int} {N : Nat} {V : VV} (h1 : V 99 81 = 0) (h2 : V 99 80 = 0) : stM N v 0 V := by
  refine ⟨by rw [h1, chV_0], by rw [h2, chN_0]; rfl, fun i => ?_⟩
  rw [Nat.zero_testBit, chN_0]
  exact ⟨fun z => absurd z (by decide), fun ⟨j, hj, _⟩ => absurd hj (Nat.not_lt_zero _)⟩
theorem cOk0 {v : Nat → Int} {B : Nat → Nat} {N : Nat} : cOk v B N 0 := ⟨fun i hi => absurd hi (by rw [Nat.zero_testBit]; decide), fun i j _ hi => absurd hi (by rw [Nat.zero_testBit]; decide)⟩
theorem lstA0 {A : Nat → Int} : lstA A (chN 0 0) 0 := fun i => by
  rw [Nat.zero_testBit]
  exact ⟨fun z => absurd z (by decide), fun ⟨j, hj, _⟩ => absurd hj (Nat.not_lt_zero _)⟩
theorem chL_of {N : Nat} {l : Nat → Nat → Int} {X : VV} (h : lstV N l X) (hB : Bd X) : chL N (vL l) (bL l) X ∧ ∀ i, i < N → bL l i < 2 ^ 40 ∧ 0 ≤ l i 10 := by
  have key : ∀ i, i < N → bL l i < 2 ^ 40 ∧ 0 ≤ l i 10 := fun i hi => by
    have h1 := hB.1 145 0 1099511627775 rfl i
    have h2 : X 145 i = l i 10 := h.2 i hi 10 (by omega)
    rw [h2] at h1
    refine ⟨?_, h1.1⟩
    show (l i 10).toNat < 1099511627776
    omega
  refine ⟨⟨h.1, fun i hi => ⟨h.2 i hi 9 (by omega), ?_, (key i hi).1⟩⟩, key⟩
  rw [show X 145 i = l i 10 from h.2 i hi 10 (by omega)]
  exact (Int.toNat_of_nonneg (key i hi).2).symm
theorem lsM_0 {b : Bk} {k : Int} {S : Sp} {Ks : Nat → Kd} {l : Nat → Nat → Int} {X : VV} (h : X 99 57 = 0) : lsM b k S Ks 0 l X := ⟨by omega, l, ⟨h, fun i hi => absurd hi (Nat.not_lt_zero _)⟩, fun i hi => absurd hi (Nat.not_lt_zero _), fun i hi => absurd hi (Nat.not_lt_zero _)⟩
def exI (A : Nat → Int) (t j : Nat) : Bool := anyB (fun i => decide (A i = (j : Int))) t
theorem exI_s {A : Nat → Int} {t j : Nat} : exI A (t + 1) j = (exI A t j || decide (A t = (j : Int))) := rfl
theorem exI_f {A : Nat → Int} {m ch j : Nat} (h : lstA A m ch) : exI A m j = ch.testBit j := by
  have h1 := h j
  have h2 := anyB_iff (p := fun i => decide (A i = (j : Int))) (n := m)
  cases z : ch.testBit j with
  | true =>
    obtain ⟨i, i1, i2⟩ := h1.mp z
    exact h2.mpr ⟨i, i1, decide_eq_true i2⟩
  | false =>
    apply Bool.eq_false_iff.mpr
    intro y
    obtain ⟨i, i1, i2⟩ := h2.mp y
    have := h1.mpr ⟨i, i1, of_decide_eq_true i2⟩
    rw [z] at this; cases this
/-- starts as the reference has them -/
theorem stS_M {mt lt : Nat → Nat → Bool} {n : Nat} {lf e0 l0 : Nat → Int} {hw cn rv hs : Int} {ro ea la : Nat → Int} {f5 : Nat → Nat} (hph : hw = 1 → ∀ m f0 t, isPh mt lt n m f0 t → ∀ i, i < n → f0 i = f5 i) (h1 : hw = 0 → hs = 0) (h2 : hw = 1 → hs = bi (!(hsB n (eaM n (rlB mt lt) f5 lf e0) (naM n (rlB mt lt) f5 lf l0))) ∧ ∀ i, i < n → ea i = eaM n (rlB mt lt) f5 lf e0 i ∧ la i = - naM n (rlB mt lt) f5 lf l0 i) : stS mt lt n lf e0 l0 hw hs ea la := by
  refine ⟨h1, fun z m f0 t hi => ?_⟩
  obtain ⟨p1, p2⟩ := h2 z
  have hx := ea_x (rl := rlB mt lt) (lf := lf) (e0 := e0) (hph z m f0 t hi)
  have hy := na_x (rl := rlB mt lt) (lf := lf) (l0 := l0) (hph z m f0 t hi)
  exact ⟨by rw [p1, hsB_x (fun i hi => ⟨hx i hi, hy i hi⟩)], fun i hi => ⟨by rw [(p2 i hi).1, hx i hi], by rw [(p2 i hi).2, hy i hi]⟩⟩
/-- what the reference knows of kinds -/
def imB (Ks : Nat → Kd) (nk : Nat) (V : VV) : Prop := V 99 36 = (nk : Int) ∧ ∀ i, i < nk → kM (Ks i) i V
theorem phS_x {mt lt : Nat → Nat → Bool} {n : Nat} {a c r a' c' r' : Int} {o o' : Nat → Int} (h : phS mt lt n a c r o) (e1 : a' = a) (e2 : c' = c) (e3 : r' = r) (e4 : o' = o) : phS mt lt n a' c' r' o' := by rw [e1, e2, e3, e4]; exact h
