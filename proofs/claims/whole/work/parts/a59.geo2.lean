/-! both tests of outlines are one -/
abbrev sepF (la lb : Int → Int → Int) (ux uy : Int) : Prop := -(la (-ux) (-uy)) < lb ux uy ∨ -(lb (-ux) (-uy)) < la ux uy
theorem sep_neg {la lb : Int → Int → Int} {ux uy : Int} : sepF la lb (-ux) (-uy) ↔ sepF la lb ux uy := by
  unfold sepF
  rw [Int.neg_neg, Int.neg_neg]
  omega
theorem sep_cm {la lb : Int → Int → Int} {ux uy : Int} : sepF la lb ux uy ↔ sepF lb la ux uy := by unfold sepF; omega
def hmg (la : Int → Int → Int) : Prop := ∀ c ux uy, 0 ≤ c → la (c * ux) (c * uy) = c * la ux uy
theorem sep_sc {la lb : Int → Int → Int} {ux uy c : Int} (ha : hmg la) (hb : hmg lb) (hc : 0 < c) : sepF la lb (c * ux) (c * uy) ↔ sepF la lb ux uy := by
  unfold sepF
  have n : ∀ z : Int, -(c * z) = c * (-z) := fun z => (Int.mul_neg c z).symm
  rw [n ux, n uy, ha c _ _ (by omega), ha c _ _ (by omega), hb c _ _ (by omega), hb c _ _ (by omega), n, n]
  have m : ∀ x y : Int, c * x < c * y ↔ x < y := fun x y => ⟨fun h => Int.lt_of_mul_lt_mul_left h (by omega), fun h => Int.mul_lt_mul_of_pos_left h hc⟩
  rw [m, m]
theorem mn0_c {c x : Int} (h : 0 ≤ c) : mn0 (c * x) = c * mn0 x := by
  unfold mn0
  by_cases q : x < 0
  · rw [if_pos q]
    by_cases w : c * x < 0
    · rw [if_pos w]
    · rw [if_neg w]
      have h1 := Int.mul_le_mul_of_nonneg_left (show x ≤ 0 by omega) h
      rw [Int.mul_zero] at h1
      omega
  · rw [if_neg q, Int.mul_zero]
    have h1 := Int.mul_nonneg h (show 0 ≤ x by omega)
    rw [if_neg (by omega)]
/-- the lowest: corner x y, step s, apart a, so many steps -/
def lowO (x y sx sy ax ay m n ux uy : Int) : Int := x * ux + y * uy + mn0 (m * (sx * ux + sy * uy)) + mn0 (n * (ax * ux + ay * uy))
theorem low_h {x y sx sy ax ay m n : Int} : hmg (lowO x y sx sy ax ay m n) := by
  intro c ux uy hc
  have e : ∀ a b : Int, a * (c * ux) + b * (c * uy) = c * (a * ux + b * uy) := fun a b => by
    rw [Int.mul_left_comm a c ux, Int.mul_left_comm b c uy, ← Int.mul_add]
  unfold lowO
  rw [e, e, e, Int.mul_left_comm m c, Int.mul_left_comm n c, mn0_c hc, mn0_c hc, ← Int.mul_add, ← Int.mul_add]
theorem lo4 {x y sx sy ax ay m n ux uy k : Int} : mn4 (fun t => cNR x (m * sx) (n * ax) t * ux + cNR y (m * sy) (n * ay) t * uy - k) = lowO x y sx sy ax ay m n ux uy - k := by
  have e1 : m * (sx * ux + sy * uy) = m * sx * ux + m * sy * uy := by rw [Int.mul_add, Int.mul_assoc, Int.mul_assoc]
  have e2 : n * (ax * ux + ay * uy) = n * ax * ux + n * ay * uy := by rw [Int.mul_add, Int.mul_assoc, Int.mul_assoc]
  have c0 : ∀ x v w : Int, cNR x v w 0 = x := fun x v w => by unfold cNR; simp
  have c1 : ∀ x v w : Int, cNR x v w 1 = x + v := fun x v w => by unfold cNR; simp
  have c2 : ∀ x v w : Int, cNR x v w 2 = x + v + w := fun x v w => by unfold cNR; simp
  have c3 : ∀ x v w : Int, cNR x v w 3 = x + w := fun x v w => by unfold cNR; simp
  unfold mn4 lowO
  simp only [c0, c1, c2, c3, Int.add_mul]
  rw [e1, e2]
  generalize x * ux = a; generalize y * uy = b; generalize m * sx * ux = c; generalize m * sy * uy = d; generalize n * ax * ux = e; generalize n * ay * uy = f
  unfold mn2 mn0
  omega
theorem hi4 {x y sx sy ax ay m n ux uy k : Int} : mx4 (fun t => cNR x (m * sx) (n * ax) t * ux + cNR y (m * sy) (n * ay) t * uy - k) = -(lowO x y sx sy ax ay m n (-ux) (-uy)) - k := by
  have e1 : m * (sx * -ux + sy * -uy) = -(m * sx * ux + m * sy * uy) := by rw [Int.mul_neg, Int.mul_neg, ← Int.neg_add, Int.mul_neg, Int.mul_add, Int.mul_assoc, Int.mul_assoc]
  have e2 : n * (ax * -ux + ay * -uy) = -(n * ax * ux + n * ay * uy) := by rw [Int.mul_neg, Int.mul_neg, ← Int.neg_add, Int.mul_neg, Int.mul_add, Int.mul_assoc, Int.mul_assoc]
  have c0 : ∀ x v w : Int, cNR x v w 0 = x := fun x v w => by unfold cNR; simp
  have c1 : ∀ x v w : Int, cNR x v w 1 = x + v := fun x v w => by unfold cNR; simp
  have c2 : ∀ x v w : Int, cNR x v w 2 = x + v + w := fun x v w => by unfold cNR; simp
  have c3 : ∀ x v w : Int, cNR x v w 3 = x + w := fun x v w => by unfold cNR; simp
  unfold mx4 lowO
  simp only [c0, c1, c2, c3, Int.add_mul]
  rw [e1, e2, Int.mul_neg, Int.mul_neg]
  generalize x * ux = a; generalize y * uy = b; generalize m * sx * ux = c; generalize m * sy * uy = d; generalize n * ax * ux = e; generalize n * ay * uy = f
  unfold mx2 mn0
  omega
/-- the corners lie there -/
def cnr8 (V : VV) (a : Nat) (x y sx sy ax ay m n : Int) : Prop := ∀ t, t < 4 → V 158 (a + 2 * t) = cNR x (m * sx) (n * ax) t ∧ V 158 (a + 2 * t + 1) = cNR y (m * sy) (n * ay) t
section
variable {V : VV} {a b i : Nat} {x y sx sy ax ay m n x' y' sx' sy' ax' ay' m' n' : Int}
theorem mn4_x {f g : Nat → Int} (h : ∀ t, t < 4 → f t = g t) : mn4 f = mn4 g ∧ mx4 f = mx4 g := by
  unfold mn4 mx4
  rw [h 0 (by omega), h 1 (by omega), h 2 (by omega), h 3 (by omega)]
  exact ⟨rfl, rfl⟩
theorem crs_o (hb : cnr8 V b x' y' sx' sy' ax' ay' m' n') {dx dy x0 y0 : Int} (e1 : V 158 (a + 2 * ((i + 1) % 4)) - V 158 (a + 2 * i) = dx) (e2 : V 158 (a + 2 * ((i + 1) % 4) + 1) - V 158 (a + 2 * i + 1) = dy) (e3 : V 158 (a + 2 * i) = x0) (e4 : V 158 (a + 2 * i + 1) = y0) :
    (mn4 (crs V a b i) = lowO x' y' sx' sy' ax' ay' m' n' (-dy) dx - (x0 * (-dy) + y0 * dx) ∧ mx4 (crs V a b i) = -(lowO x' y' sx' sy' ax' ay' m' n' (-(-dy)) (-dx)) - (x0 * (-dy) + y0 * dx)) ∧ mn4 (dts V a b i) = lowO x' y' sx' sy' ax' ay' m' n' dx dy - (x0 * dx + y0 * dy) ∧ mx4 (dts V a b i) = -(lowO x' y' sx' sy' ax' ay' m' n' (-dx) (-dy)) - (x0 * dx + y0 * dy) := by
  have k1 : ∀ t, t < 4 → crs V a b i t = cNR x' (m' * sx') (n' * ax') t * (-dy) + cNR y' (m' * sy') (n' * ay') t * dx - (x0 * (-dy) + y0 * dx) := fun t ht => by
    unfold crs
    rw [e1, e2, e3, e4, (hb t ht).1, (hb t ht).2, Int.mul_sub, Int.mul_sub, Int.mul_neg, Int.mul_neg, Int.mul_comm dx, Int.mul_comm dx, Int.mul_comm dy, Int.mul_comm dy]
    omega
  have k2 : ∀ t, t < 4 → dts V a b i t = cNR x' (m' * sx') (n' * ax') t * dx + cNR y' (m' * sy') (n' * ay') t * dy - (x0 * dx + y0 * dy) := fun t ht => by
    unfold dts
    rw [e1, e2, e3, e4, (hb t ht).1, (hb t ht).2, Int.mul_sub, Int.mul_sub, Int.mul_comm dx, Int.mul_comm dx, Int.mul_comm dy, Int.mul_comm dy]
    omega
  have a1 := mn4_x k1
  have a2 := mn4_x k2
  exact ⟨⟨a1.1.trans lo4, a1.2.trans hi4⟩, a2.1.trans lo4, a2.2.trans hi4⟩
theorem prB_o (ha : cnr8 V a x y sx sy ax ay m n) (hb : cnr8 V b x' y' sx' sy' ax' ay' m' n') {dx dy : Int} (e1 : V 158 (a + 2 * ((i + 1) % 4)) - V 158 (a + 2 * i) = dx) (e2 : V 158 (a + 2 * ((i + 1) % 4) + 1) - V 158 (a + 2 * i + 1) = dy) :
    prB V a b i = true ↔ sepF (lowO x y sx sy ax ay m n) (lowO x' y' sx' sy' ax' ay' m' n') (-dy) dx ∨ sepF (lowO x y sx sy ax ay m n) (lowO x' y' sx' sy' ax' ay' m' n') dx dy := by
  obtain ⟨⟨a1, a2⟩, a3, a4⟩ := crs_o ha e1 e2 rfl rfl
  obtain ⟨⟨b1, b2⟩, b3, b4⟩ := crs_o hb e1 e2 rfl rfl
  unfold prB sepB sepF
  rw [Bool.or_eq_true, Bool.or_eq_true, Bool.or_eq_true, decide_eq_true_iff, decide_eq_true_iff, decide_eq_true_iff, decide_eq_true_iff, a1, a2, a3, a4, b1, b2, b3, b4]
  omega
theorem prt_o (ha : cnr8 V a x y sx sy ax ay m n) (hb : cnr8 V b x' y' sx' sy' ax' ay' m' n') (hm : 0 < m) (hn : 0 < n) :
    anyB (prB V a b) 4 = true ↔ (sepF (lowO x y sx sy ax ay m n) (lowO x' y' sx' sy' ax' ay' m' n') sx sy ∨ sepF (lowO x y sx sy ax ay m n) (lowO x' y' sx' sy' ax' ay' m' n') (-sy) sx) ∨ sepF (lowO x y sx sy ax ay m n) (lowO x' y' sx' sy' ax' ay' m' n') ax ay ∨ sepF (lowO x y sx sy ax ay m n) (lowO x' y' sx' sy' ax' ay' m' n') (-ay) ax := by
  have c0 : ∀ x v w : Int, cNR x v w 0 = x := fun x v w => by unfold cNR; simp
  have c1 : ∀ x v w : Int, cNR x v w 1 = x + v := fun x v w => by unfold cNR; simp
  have c2 : ∀ x v w : Int, cNR x v w 2 = x + v + w := fun x v w => by unfold cNR; simp
  have c3 : ∀ x v w : Int, cNR x v w 3 = x + w := fun x v w => by unfold cNR; simp
  have p0 := ha 0 (by omega); have p1 := ha 1 (by omega); have p2 := ha 2 (by omega); have p3 := ha 3 (by omega)
  rw [c0, c0] at p0; rw [c1, c1] at p1; rw [c2, c2] at p2; rw [c3, c3] at p3
  have q0 := prB_o (i := 0) ha hb (dx := m * sx) (dy := m * sy) (by show V 158 (a + 2 * 1) - V 158 (a + 2 * 0) = _; rw [p1.1, p0.1]; omega) (by show V 158 (a + 2 * 1 + 1) - V 158 (a + 2 * 0 + 1) = _; rw [p1.2, p0.2]; omega)
  have q1 := prB_o (i := 1) ha hb (dx := n * ax) (dy := n * ay) (by show V 158 (a + 2 * 2) - V 158 (a + 2 * 1) = _; rw [p2.1, p1.1]; omega) (by show V 158 (a + 2 * 2 + 1) - V 158 (a + 2 * 1 + 1) = _; rw [p2.2, p1.2]; omega)
  have q2 := prB_o (i := 2) ha hb (dx := -(m * sx)) (dy := -(m * sy)) (by show V 158 (a + 2 * 3) - V 158 (a + 2 * 2) = _; rw [p3.1, p2.1]; omega) (by show V 158 (a + 2 * 3 + 1) - V 158 (a + 2 * 2 + 1) = _; rw [p3.2, p2.2]; omega)
  have q3 := prB_o (i := 3) ha hb (dx := -(n * ax)) (dy := -(n * ay)) (by show V 158 (a + 2 * 0) - V 158 (a + 2 * 3) = _; rw [p0.1, p3.1]; omega) (by show V 158 (a + 2 * 0 + 1) - V 158 (a + 2 * 3 + 1) = _; rw [p0.2, p3.2]; omega)
  rw [sep_neg, sep_neg] at q2 q3
  have s := fun {c : Int} (hc : 0 < c) (ux uy : Int) => sep_sc (ux := ux) (uy := uy) (la := lowO x y sx sy ax ay m n) (lb := lowO x' y' sx' sy' ax' ay' m' n') low_h low_h hc
  rw [← Int.mul_neg, s hm, s hm] at q0 q2
  rw [← Int.mul_neg, s hn, s hn] at q1 q3
  show (((((false || prB V a b 0) || prB V a b 1) || prB V a b 2) || prB V a b 3)) = true ↔ _
  rw [Bool.or_eq_true, Bool.or_eq_true, Bool.or_eq_true, Bool.or_eq_true, q0, q1, q2, q3]
  constructor
  · rintro ((((h | h) | h) | h) | h)
    · cases h
    · exact h.elim (fun z => Or.inl (Or.inr z)) (fun z => Or.inl (Or.inl z))
    · exact h.elim (fun z => Or.inr (Or.inr z)) (fun z => Or.inr (Or.inl z))
    · exact h.elim (fun z => Or.inl (Or.inr z)) (fun z => Or.inl (Or.inl z))
    · exact h.elim (fun z => Or.inr (Or.inr z)) (fun z => Or.inr (Or.inl z))
  · rintro ((h | h) | h | h)
    · exact Or.inl (Or.inl (Or.inl (Or.inr (Or.inr h))))
    · exact Or.inl (Or.inl (Or.inl (Or.inr (Or.inl h))))
    · exact Or.inl (Or.inl (Or.inr (Or.inr h)))
    · exact Or.inl (Or.inl (Or.inr (Or.inl h)))
end
/-! a house's outline by its row -/
def loR (S : Sp) (Ks : Nat → Kd) (e : Nat → Int) : Int → Int → Int := lowO (S.x (e 1).toNat) (S.y (e 1).toNat) (S.x (e 2).toNat - S.x (e 1).toNat) (S.y (e 2).toNat - S.y (e 1).toNat) (S.x (e 3).toNat - S.x (e 1).toNat) (S.y (e 3).toNat - S.y (e 1).toNat) (e 4 - 1) ((Ks (e 0).toNat).l 0 - 1)
abbrev gapR (S : Sp) (Ks : Nat → Kd) (e d : Nat → Int) : Prop := (sepF (loR S Ks e) (loR S Ks d) (S.x (e 2).toNat - S.x (e 1).toNat) (S.y (e 2).toNat - S.y (e 1).toNat) ∨ sepF (loR S Ks e) (loR S Ks d) (-(S.y (e 2).toNat - S.y (e 1).toNat)) (S.x (e 2).toNat - S.x (e 1).toNat)) ∨ sepF (loR S Ks e) (loR S Ks d) (S.x (e 3).toNat - S.x (e 1).toNat) (S.y (e 3).toNat - S.y (e 1).toNat) ∨ sepF (loR S Ks e) (loR S Ks d) (-(S.y (e 3).toNat - S.y (e 1).toNat)) (S.x (e 3).toNat - S.x (e 1).toNat)
/-- they meet -/
def metR (S : Sp) (Ks : Nat → Kd) (e d : Nat → Int) : Bool := decide (¬ gapR S Ks e d ∧ ¬ gapR S Ks d e)
theorem metR_cm {S : Sp} {Ks : Nat → Kd} {e d : Nat → Int} : metR S Ks e d = metR S Ks d e := by
  unfold metR
  exact decide_eq_decide.mpr And.comm
theorem low_C {S : Sp} {Ks : Nat → Kd} {e : Nat → Int} {V : VV} {h : Nat} {ux uy : Int} (ho : hoC S Ks e V h) : lowC V h ux uy = loR S Ks e ux uy := by
  obtain ⟨_, _, _, _, h4, h5, h6, h7, h8, h9, h10, _, h12, _⟩ := ho
  unfold lowC loR lowO
  rw [h4, h5, h6, h7, h8, h9, h10, h12]
theorem met_C {S : Sp} {Ks : Nat → Kd} {e d : Nat → Int} {V : VV} {h o : Nat} (he : hoC S Ks e V h) (hd : hoC S Ks d V o) : metC V h o ↔ metR S Ks e d = true := by
  unfold metR
  rw [decide_eq_true_iff]
  have l1 : ∀ ux uy, lowC V h ux uy = loR S Ks e ux uy := fun ux uy => low_C he
  have l2 : ∀ ux uy, lowC V o ux uy = loR S Ks d ux uy := fun ux uy => low_C hd
  obtain ⟨_, _, _, _, _, _, h6, h7, h8, h9, _⟩ := he
  obtain ⟨_, _, _, _, _, _, o6, o7, o8, o9, _⟩ := hd
  unfold metC sepC gapR sepF
  simp only [l1, l2, h6, h7, h8, h9, o6, o7, o8, o9]
  constructor
  · rintro ⟨⟨a1, a2, a3, a4⟩, b1, b2, b3, b4⟩
    exact ⟨fun z => z.elim (fun z => z.elim a1 a2) (fun z => z.elim a3 a4), fun z => z.elim (fun z => z.elim b1 b2) (fun z => z.elim b3 b4)⟩
  · rintro ⟨a, b⟩
    exact ⟨⟨fun z => a (Or.inl (Or.inl z)), fun z => a (Or.inl (Or.inr z)), fun z => a (Or.inr (Or.inl z)), fun z => a (Or.inr (Or.inr z))⟩, fun z => b (Or.inl (Or.inl z)), fun z => b (Or.inl (Or.inr z)), fun z => b (Or.inr (Or.inl z)), fun z => b (Or.inr (Or.inr z))⟩
