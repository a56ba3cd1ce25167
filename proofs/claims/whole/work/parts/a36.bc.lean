/-! how many bits: the JDK's formula, byte by byte -/
theorem iushr_n {a k : Nat} (hk : k < 32) (h : a < 2 ^ 31) : iushrZ (a : Int) (k : Int) = ((a / 2 ^ k : Nat) : Int) := by
  unfold iushrZ
  have key : ∀ k, k < 32 → (((nI k).toUInt32 &&& Int32.toUInt32 31).toNat % 32 = k) := by decide +kernel
  have e : ((Int32.ofInt (a : Int)).toUInt32 >>> ((Int32.ofInt (k : Int)).toUInt32 &&& Int32.toUInt32 31)).toInt32.toInt = ((nI a).toUInt32 >>> ((nI k).toUInt32 &&& Int32.toUInt32 31)).toBitVec.toInt := rfl
  have h1 : (nI a).toUInt32.toNat = a := by
    show (BitVec.ofNat 32 a).toNat = a
    rw [BitVec.toNat_ofNat, Nat.mod_eq_of_lt (by omega)]
  have e1 : ((nI a).toUInt32 >>> ((nI k).toUInt32 &&& Int32.toUInt32 31)).toBitVec.toNat = a / 2 ^ k := by
    show ((nI a).toUInt32 >>> ((nI k).toUInt32 &&& Int32.toUInt32 31)).toNat = _
    rw [UInt32.toNat_shiftRight, h1, key k hk, Nat.shiftRight_eq_div_pow]
  rw [e, tI_nat32 _ (by rw [e1]; exact Nat.lt_of_le_of_lt (Nat.div_le_self _ _) h), e1]
theorem and_by {x m : Nat} : x &&& m = (x % 256 &&& m % 256) + 256 * (x / 256 &&& m / 256) := by
  have h1 : (x &&& m) % 256 = x % 256 &&& m % 256 := Nat.and_mod_two_pow (n := 8)
  have h2 : (x &&& m) / 256 = x / 256 &&& m / 256 := Nat.and_div_two_pow (n := 8)
  omega
def bc1 (x : Nat) : Nat := x - (x / 2 &&& 1431655765)
def bc2 (x : Nat) : Nat := (x &&& 858993459) + (x / 4 &&& 858993459)
def bc3 (x : Nat) : Nat := (x + x / 16) &&& 252645135
def bc4 (x : Nat) : Nat := x + x / 256
def bc5 (x : Nat) : Nat := x + x / 65536
theorem bcA : ∀ a, a < 256 → ∀ t, t < 2 → (a / 2 + 128 * t &&& 85) = (a / 2 &&& 85) ∧ (a / 2 &&& 85) ≤ a := by decide +kernel
theorem bcB : ∀ a, a < 256 → ∀ t, t < 4 → (a / 4 + 64 * t &&& 51) = (a / 4 &&& 51) := by decide +kernel
def bcs (a : Nat) : Nat := ((a - (a / 2 &&& 85)) &&& 51) + ((a - (a / 2 &&& 85)) / 4 &&& 51)
theorem bcC : ∀ a, a < 256 → bcs a ≤ 68 ∧ bcs a % 16 ≤ 4 := by decide +kernel
theorem bcD : ∀ a, a < 69 → ∀ t, t < 5 → ((a + a / 16 + 16 * t) &&& 15) = ((a + a / 16) &&& 15) := by decide +kernel
theorem bcE : ∀ a, a < 256 → ((bcs a + bcs a / 16) &&& 15) = cntB (fun i => a.testBit i) 8 := by decide +kernel
theorem bc_by {a b c : Nat} (ha : a < 256) (hb : b < 256) (hc : c < 256) : bc5 (bc4 (bc3 (bc2 (bc1 (a + 256 * (b + 256 * c)))))) &&& 63 = cntB (fun i => a.testBit i) 8 + cntB (fun i => b.testBit i) 8 + cntB (fun i => c.testBit i) 8 := by
  have A1 := bcA a ha (b % 2) (by omega)
  have B1 := bcA b hb (c % 2) (by omega)
  have C1 := bcA c hc 0 (by omega)
  have m1 : ∀ x, x < 256 → (x &&& 21845) = (x &&& 85) := by decide +kernel
  have m2 : ∀ x, x < 256 → (x &&& 13107) = (x &&& 51) := by decide +kernel
  have m3 : ∀ x, x < 256 → (x &&& 3855) = (x &&& 15) := by decide +kernel
  have e1 : bc1 (a + 256 * (b + 256 * c)) = (a - (a / 2 &&& 85)) + 256 * ((b - (b / 2 &&& 85)) + 256 * (c - (c / 2 &&& 85))) := by
    unfold bc1
    rw [and_by (x := (a + 256 * (b + 256 * c)) / 2), and_by (x := (a + 256 * (b + 256 * c)) / 2 / 256)]
    rw [show (a + 256 * (b + 256 * c)) / 2 % 256 = a / 2 + 128 * (b % 2) by omega, show (a + 256 * (b + 256 * c)) / 2 / 256 % 256 = b / 2 + 128 * (c % 2) by omega, show (a + 256 * (b + 256 * c)) / 2 / 256 / 256 = c / 2 by omega]
    rw [show (1431655765 : Nat) % 256 = 85 by rfl, show (1431655765 : Nat) / 256 / 256 = 21845 by rfl, m1 (c / 2) (by omega), A1.1, B1.1]
    omega
  rw [e1]
  generalize ea1 : a - (a / 2 &&& 85) = a1
  generalize eb1 : b - (b / 2 &&& 85) = b1
  generalize ec1 : c - (c / 2 &&& 85) = c1
  have la : a1 < 256 := by omega
  have lb : b1 < 256 := by omega
  have lc : c1 < 256 := by omega
  have e2 : bc2 (a1 + 256 * (b1 + 256 * c1)) = bcs a + 256 * (bcs b + 256 * bcs c) := by
    unfold bc2 bcs
    rw [ea1, eb1, ec1]
    rw [and_by (x := a1 + 256 * (b1 + 256 * c1)), and_by (x := (a1 + 256 * (b1 + 256 * c1)) / 256), and_by (x := (a1 + 256 * (b1 + 256 * c1)) / 4), and_by (x := (a1 + 256 * (b1 + 256 * c1)) / 4 / 256)]
    rw [show (a1 + 256 * (b1 + 256 * c1)) % 256 = a1 by omega, show (a1 + 256 * (b1 + 256 * c1)) / 256 % 256 = b1 by omega, show (a1 + 256 * (b1 + 256 * c1)) / 256 / 256 = c1 by omega, show (a1 + 256 * (b1 + 256 * c1)) / 4 % 256 = a1 / 4 + 64 * (b1 % 4) by omega, show (a1 + 256 * (b1 + 256 * c1)) / 4 / 256 % 256 = b1 / 4 + 64 * (c1 % 4) by omega, show (a1 + 256 * (b1 + 256 * c1)) / 4 / 256 / 256 = c1 / 4 by omega]
    rw [show (858993459 : Nat) % 256 = 51 by rfl, show (858993459 : Nat) / 256 / 256 = 13107 by rfl, m2 c1 lc, m2 (c1 / 4) (by omega), bcB a1 la (b1 % 4) (by omega), bcB b1 lb (c1 % 4) (by omega)]
    omega
  rw [e2]
  have A2 := bcC a ha
  have B2 := bcC b hb
  have C2 := bcC c hc
  have A3 := bcE a ha
  have B3 := bcE b hb
  have C3 := bcE c hc
  generalize bcs a = a2 at *
  generalize bcs b = b2 at *
  generalize bcs c = c2 at *
  have e3 : bc3 (a2 + 256 * (b2 + 256 * c2)) = ((a2 + a2 / 16) &&& 15) + 256 * (((b2 + b2 / 16) &&& 15) + 256 * ((c2 + c2 / 16) &&& 15)) := by
    unfold bc3
    generalize eu : a2 + 256 * (b2 + 256 * c2) + (a2 + 256 * (b2 + 256 * c2)) / 16 = u
    have e0 : u = (a2 + a2 / 16 + 16 * (b2 % 16)) + 256 * ((b2 + b2 / 16 + 16 * (c2 % 16)) + 256 * (c2 + c2 / 16)) := by omega
    have lp : a2 + a2 / 16 + 16 * (b2 % 16) < 256 := by omega
    have lq : b2 + b2 / 16 + 16 * (c2 % 16) < 256 := by omega
    have m4 : ∀ p q r : Nat, p < 256 → q < 256 → (p + 256 * (q + 256 * r)) % 256 = p ∧ (p + 256 * (q + 256 * r)) / 256 % 256 = q ∧ (p + 256 * (q + 256 * r)) / 256 / 256 = r := fun p q r _ _ => by omega
    have m5 := m4 _ _ (c2 + c2 / 16) lp lq
    rw [and_by (x := u), and_by (x := u / 256)]
    rw [← e0] at m5
    rw [m5.1, m5.2.1, m5.2.2]
    rw [show (252645135 : Nat) % 256 = 15 by rfl, show (252645135 : Nat) / 256 / 256 = 3855 by rfl, m3 (c2 + c2 / 16) (by omega), bcD a2 (by omega) (b2 % 16) (by omega), bcD b2 (by omega) (c2 % 16) (by omega)]
  rw [e3, A3, B3, C3]
  have l1 : cntB (fun i => a.testBit i) 8 ≤ 8 := cntB_le
  have l2 : cntB (fun i => b.testBit i) 8 ≤ 8 := cntB_le
  have l3 : cntB (fun i => c.testBit i) 8 ≤ 8 := cntB_le
  generalize cntB (fun i => a.testBit i) 8 = p at *
  generalize cntB (fun i => b.testBit i) 8 = q at *
  generalize cntB (fun i => c.testBit i) 8 = r at *
  have e4 : bc4 (p + 256 * (q + 256 * r)) = (p + q) + 256 * ((q + r) + 256 * r) := by unfold bc4; omega
  have e5 : bc5 ((p + q) + 256 * ((q + r) + 256 * r)) = (p + q + r) + 256 * ((q + r) + 256 * r) := by unfold bc5; omega
  rw [e4, e5, show (63 : Nat) = 2 ^ 6 - 1 by rfl, Nat.and_two_pow_sub_one_eq_mod]
  omega
theorem cnt_add {p : Nat → Bool} {m : Nat} : ∀ n, cntB p (m + n) = cntB p m + cntB (fun i => p (m + i)) n
  | 0 => rfl
  | n + 1 => by
    have ih := cnt_add (p := p) (m := m) n
    show cntB p (m + n) + (if p (m + n) = true then 1 else 0) = cntB p m + (cntB (fun i => p (m + i)) n + if p (m + n) = true then 1 else 0)
    omega
theorem bc_ok {x : Nat} (hx : x < 2 ^ 24) : bc5 (bc4 (bc3 (bc2 (bc1 x)))) &&& 63 = chN x 24 := by
  have e : x = x % 256 + 256 * (x / 256 % 256 + 256 * (x / 65536)) := by omega
  have t1 : chN x 24 = cntB (fun i => (x % 256).testBit i) 8 + cntB (fun i => (x / 256 % 256).testBit i) 8 + cntB (fun i => (x / 65536).testBit i) 8 := by
    unfold chN
    rw [show (24 : Nat) = 8 + 8 + 8 from rfl, cnt_add, cnt_add]
    congr 1
    · congr 1
      · refine cntB_congr fun i hi => ?_
        rw [show x % 256 = x % 2 ^ 8 from rfl, Nat.testBit_mod_two_pow, decide_eq_true hi, Bool.true_and]
      · refine cntB_congr fun i hi => ?_
        rw [show x / 256 % 256 = x / 2 ^ 8 % 2 ^ 8 from rfl, Nat.testBit_mod_two_pow, decide_eq_true hi, Bool.true_and, Nat.testBit_div_two_pow, Nat.add_comm]
    · refine cntB_congr fun i hi => ?_
      rw [show x / 65536 = x / 2 ^ 16 from rfl, Nat.testBit_div_two_pow, Nat.add_comm]
  rw [t1]
  conv => lhs; rw [e]
  exact bc_by (by omega) (by omega) (by omega)
theorem bc_lt {x : Nat} (hx : x < 2 ^ 24) : (x / 2 &&& 1431655765) ≤ x ∧ bc1 x < 2 ^ 24 ∧ bc2 (bc1 x) < 2 ^ 25 ∧ bc3 (bc2 (bc1 x)) < 2 ^ 28 ∧ bc4 (bc3 (bc2 (bc1 x))) < 2 ^ 29 ∧ bc5 (bc4 (bc3 (bc2 (bc1 x)))) < 2 ^ 30 := by
  have h1 : (x / 2 &&& 1431655765) ≤ x / 2 := Nat.and_le_left
  have h2 : bc1 x ≤ x := Nat.sub_le _ _
  have h3 : bc2 (bc1 x) ≤ bc1 x + bc1 x / 4 := Nat.add_le_add Nat.and_le_left Nat.and_le_left
  have h4 : bc3 (bc2 (bc1 x)) ≤ 252645135 := Nat.and_le_right
  have h5 : bc4 (bc3 (bc2 (bc1 x))) = bc3 (bc2 (bc1 x)) + bc3 (bc2 (bc1 x)) / 256 := rfl
  have h6 : bc5 (bc4 (bc3 (bc2 (bc1 x)))) = bc4 (bc3 (bc2 (bc1 x))) + bc4 (bc3 (bc2 (bc1 x))) / 65536 := rfl
  omega
