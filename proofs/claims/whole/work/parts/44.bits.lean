/-! bits: rows of the kit (laws/BITS.to-paste), then mine -/
theorem nx_and (a b : Nat) : nI a &&& nI b = nI (a &&& b) := by
  apply Int32.toBitVec_inj.1
  show BitVec.ofNat 32 a &&& BitVec.ofNat 32 b = BitVec.ofNat 32 (a &&& b)
  apply BitVec.eq_of_getLsbD_eq
  intro i hi
  simp [hi]
theorem wb_tb (n : Nat) : (lN n).toBitVec = BitVec.ofNat 64 n := rfl
theorem wb_inj {a b : Int64} (h : a.toBitVec = b.toBitVec) : a = b := Int64.toBitVec_inj.mp h
theorem wb_tn {n : Nat} (h : n < 2 ^ 64) : (lN n).toBitVec.toNat = n := by rw [wb_tb, BitVec.toNat_ofNat, Nat.mod_eq_of_lt h]
theorem wb_of (x : Int64) : ∃ n, n < 2 ^ 64 ∧ x = lN n := ⟨x.toBitVec.toNat, x.toBitVec.isLt, wb_inj (by rw [wb_tb]; simp)⟩
theorem wb_of32 (x : Int32) : ∃ n, n < 2 ^ 32 ∧ x = nI n := ⟨x.toBitVec.toNat, x.toBitVec.isLt, Int32.toBitVec_inj.mp (by show _ = BitVec.ofNat 32 _; simp)⟩
theorem wb_c : ∀ k, k < 64 → ((nI k).toInt64 &&& 63) = lN k := by decide +kernel
theorem wb_cu : ∀ k, k < 64 → ((nI k).toInt64.toUInt64 &&& Int64.toUInt64 63) = UInt64.ofNat k := by decide +kernel
theorem wb_sm : ∀ k, k < 64 → (BitVec.ofNat 64 k).smod 64 = BitVec.ofNat 64 k := by decide +kernel
theorem wb_pw {a b : Nat} (h : a ≤ b) : 2 ^ b = 2 ^ a * 2 ^ (b - a) := by rw [← Nat.pow_add]; congr 1; omega
theorem wb_lt2 {a b : Nat} (h : a < b) : 2 ^ a < 2 ^ b := Nat.pow_lt_pow_right (by decide) h
theorem wb_mod (n : Nat) : lN n = lN (n % 2 ^ 64) := wb_inj (by rw [wb_tb, wb_tb]; apply BitVec.eq_of_toNat_eq; rw [BitVec.toNat_ofNat, BitVec.toNat_ofNat, Nat.mod_mod])
theorem wb_shr {n k : Nat} (hn : n < 2 ^ 64) (hk : k < 64) : ((lN n).toUInt64 >>> ((nI k).toInt64.toUInt64 &&& Int64.toUInt64 63)).toInt64 = lN (n / 2 ^ k) := by
  rw [wb_cu k hk]
  apply wb_inj
  apply BitVec.eq_of_toNat_eq
  show ((lN n).toUInt64 >>> UInt64.ofNat k).toNat = (BitVec.ofNat 64 _).toNat
  have h1 : (UInt64.ofNat k).toNat = k := by
    show (BitVec.ofNat 64 k).toNat = k
    rw [BitVec.toNat_ofNat, Nat.mod_eq_of_lt (by omega)]
  have h2 : (lN n).toUInt64.toNat = n := wb_tn hn
  rw [UInt64.toNat_shiftRight, h1, h2, Nat.mod_eq_of_lt hk, Nat.shiftRight_eq_div_pow, BitVec.toNat_ofNat, Nat.mod_eq_of_lt (Nat.lt_of_le_of_lt (Nat.div_le_self _ _) hn)]
theorem wb_shl (n : Nat) {k : Nat} (hk : k < 64) : lN n <<< ((nI k).toInt64 &&& 63) = lN (n * 2 ^ k) := by
  rw [wb_c k hk]
  apply wb_inj
  rw [Int64.toBitVec_shiftLeft, wb_tb, wb_tb, wb_tb, wb_sm k hk]
  apply BitVec.eq_of_toNat_eq
  rw [BitVec.shiftLeft_eq', BitVec.toNat_shiftLeft, BitVec.toNat_ofNat, BitVec.toNat_ofNat, BitVec.toNat_ofNat, Nat.mod_eq_of_lt (show k < 2 ^ 64 by omega), Nat.shiftLeft_eq, Nat.mul_mod, Nat.mod_mod, ← Nat.mul_mod]
theorem wb_and {a b : Nat} (ha : a < 2 ^ 64) (hb : b < 2 ^ 64) : lN a &&& lN b = lN (a &&& b) := by
  apply wb_inj
  rw [Int64.toBitVec_and, wb_tb, wb_tb, wb_tb]
  apply BitVec.eq_of_toNat_eq
  rw [BitVec.toNat_and, BitVec.toNat_ofNat, BitVec.toNat_ofNat, BitVec.toNat_ofNat, Nat.mod_eq_of_lt ha, Nat.mod_eq_of_lt hb, Nat.mod_eq_of_lt (Nat.and_lt_two_pow _ hb)]
theorem wb_or {a b : Nat} (ha : a < 2 ^ 64) (hb : b < 2 ^ 64) : lN a ||| lN b = lN (a ||| b) := by
  apply wb_inj
  rw [Int64.toBitVec_or, wb_tb, wb_tb, wb_tb]
  apply BitVec.eq_of_toNat_eq
  rw [BitVec.toNat_or, BitVec.toNat_ofNat, BitVec.toNat_ofNat, BitVec.toNat_ofNat, Nat.mod_eq_of_lt ha, Nat.mod_eq_of_lt hb, Nat.mod_eq_of_lt (Nat.or_lt_two_pow ha hb)]
theorem wb_mask {n k : Nat} (hn : n < 2 ^ 64) (hk : k < 64) : lN n &&& lN (2 ^ k - 1) = lN (n % 2 ^ k) := by
  rw [wb_and hn (by have := wb_lt2 hk; omega), Nat.and_two_pow_sub_one_eq_mod]
theorem wb_a1 {n : Nat} (hn : n < 2 ^ 64) : lN n &&& 1 = lN (n % 2) := wb_mask (k := 1) hn (by decide)
theorem pf_lI {a : Nat} (h : a < 2 ^ 63) : (lN a).toInt = (a : Int) := lg_ofNat_toInt h
theorem pf_shr {a d : Nat} {D : Int64} (hD : (D.toBitVec.smod 64).toNat = d) (h : a < 2 ^ 62) : lN a >>> D = lN (a / 2 ^ d) := by
  have hd : a / 2 ^ d ≤ a := Nat.div_le_self _ _
  apply Int64.toInt_inj.mp
  have e : (lN a >>> D).toInt = (lN a).toInt >>> d := by
    rw [← hD]
    exact BitVec.toInt_sshiftRight ..
  rw [e, Int.shiftRight_eq_div_pow, pf_lI (by omega), pf_lI (by omega)]
  rfl
theorem oI (n : Nat) : Int32.ofInt (n : Int) = nI n := rfl
theorem oL (n : Nat) : Int64.ofInt (n : Int) = lN n := rfl
theorem lN_tI {a : Nat} (h : a < 2 ^ 63) : (lN a).toInt = (a : Int) := pf_lI h
theorem land_n {a b : Nat} (ha : a < 2 ^ 63) (hb : b < 2 ^ 63) : landZ (a : Int) (b : Int) = ((a &&& b : Nat) : Int) := by
  unfold landZ
  rw [oL, oL, wb_and (by omega) (by omega), lN_tI (Nat.lt_of_le_of_lt Nat.and_le_left ha)]
theorem lor_n {a b : Nat} (ha : a < 2 ^ 63) (hb : b < 2 ^ 63) : lorZ (a : Int) (b : Int) = ((a ||| b : Nat) : Int) := by
  unfold lorZ
  rw [oL, oL, wb_or (by omega) (by omega), lN_tI (Nat.or_lt_two_pow ha hb)]
theorem lshl_n {a k : Nat} (hk : k < 64) (h : a * 2 ^ k < 2 ^ 63) : lshlZ (a : Int) (k : Int) = ((a * 2 ^ k : Nat) : Int) := by
  unfold lshlZ
  rw [oL, oI, wb_shl a hk, lN_tI h]
theorem lshr_n {a k : Nat} (hk : k < 64) (h : a < 2 ^ 62) : lshrZ (a : Int) (k : Int) = ((a / 2 ^ k : Nat) : Int) := by
  unfold lshrZ
  rw [oL, oI, wb_c k hk]
  have h1 : ((lN k).toBitVec.smod 64).toNat = k := by
    rw [wb_tb, wb_sm k hk, BitVec.toNat_ofNat, Nat.mod_eq_of_lt (by omega)]
  rw [pf_shr h1 h, lN_tI (Nat.lt_of_le_of_lt (Nat.div_le_self _ _) (by omega))]
theorem iand_n {a b : Nat} (ha : a < 2 ^ 31) : iandZ (a : Int) (b : Int) = ((a &&& b : Nat) : Int) := by
  unfold iandZ
  rw [oI, oI, nx_and, nI_toInt (Nat.lt_of_le_of_lt Nat.and_le_left ha)]
theorem tI_nat32 (x : BitVec 32) (h : x.toNat < 2 ^ 31) : x.toInt = (x.toNat : Int) := BitVec.toInt_eq_toNat_of_lt (by omega)
theorem tI_nat64 (x : BitVec 64) (h : x.toNat < 2 ^ 63) : x.toInt = (x.toNat : Int) := BitVec.toInt_eq_toNat_of_lt (by omega)
theorem ior_n {a b : Nat} (ha : a < 2 ^ 31) (hb : b < 2 ^ 31) : iorZ (a : Int) (b : Int) = ((a ||| b : Nat) : Int) := by
  unfold iorZ
  have e : (Int32.ofInt (a : Int) ||| Int32.ofInt (b : Int)).toInt = (BitVec.ofNat 32 a ||| BitVec.ofNat 32 b).toInt := rfl
  have e1 : (BitVec.ofNat 32 a ||| BitVec.ofNat 32 b).toNat = a ||| b := by
    rw [BitVec.toNat_or, BitVec.toNat_ofNat, BitVec.toNat_ofNat, Nat.mod_eq_of_lt (by omega), Nat.mod_eq_of_lt (by omega)]
  rw [e, tI_nat32 _ (by rw [e1]; exact Nat.or_lt_two_pow ha hb), e1]
theorem ix_s : ∀ n, n < 32 → ((nI n &&& 31).toBitVec.smod 32).toNat = n := by decide +kernel
theorem ishl_n {a k : Nat} (hk : k < 32) (h : a * 2 ^ k < 2 ^ 31) : ishlZ (a : Int) (k : Int) = ((a * 2 ^ k : Nat) : Int) := by
  unfold ishlZ
  have e : (Int32.ofInt (a : Int) <<< (Int32.ofInt (k : Int) &&& 31)).toInt = (BitVec.ofNat 32 a <<< ((nI k &&& 31).toBitVec.smod 32)).toInt := rfl
  have ha : a < 2 ^ 31 := Nat.lt_of_le_of_lt (Nat.le_mul_of_pos_right a (Nat.two_pow_pos k)) h
  have e1 : (BitVec.ofNat 32 a <<< ((nI k &&& 31).toBitVec.smod 32)).toNat = a * 2 ^ k := by
    rw [BitVec.shiftLeft_eq', BitVec.toNat_shiftLeft, ix_s k hk, BitVec.toNat_ofNat, Nat.mod_eq_of_lt (a := a) (by omega), Nat.shiftLeft_eq, Nat.mod_eq_of_lt (by omega)]
  rw [e, tI_nat32 _ (by rw [e1]; exact h), e1]
theorem ishr_n {a k : Nat} (hk : k < 32) (h : a < 2 ^ 31) : ishrZ (a : Int) (k : Int) = ((a / 2 ^ k : Nat) : Int) := by
  unfold ishrZ
  have e : (Int32.ofInt (a : Int) >>> (Int32.ofInt (k : Int) &&& 31)).toInt = (BitVec.sshiftRight' (BitVec.ofNat 32 a) ((nI k &&& 31).toBitVec.smod 32)).toInt := rfl
  rw [e, BitVec.sshiftRight_eq', ix_s k hk, BitVec.toInt_sshiftRight, tI_nat32 _ (by rw [BitVec.toNat_ofNat, Nat.mod_eq_of_lt (by omega)]; exact h), BitVec.toNat_ofNat, Nat.mod_eq_of_lt (by omega), Int.shiftRight_eq_div_pow]
  rfl
theorem landnot_n {a b : Nat} (ha : a < 2 ^ 63) (hb : b < 2 ^ 63) : landZ (a : Int) (lxorZ (b : Int) (-1)) = ((a ^^^ (a &&& b) : Nat) : Int) := by
  unfold landZ lxorZ
  have e0 : Int64.ofInt ((Int64.ofInt (b : Int) ^^^ Int64.ofInt (-1)).toInt) = Int64.ofInt (b : Int) ^^^ Int64.ofInt (-1) := Int64.ofInt_toInt _
  rw [e0]
  have e : (Int64.ofInt (a : Int) &&& (Int64.ofInt (b : Int) ^^^ Int64.ofInt (-1))).toInt = (BitVec.ofNat 64 a &&& (BitVec.ofNat 64 b ^^^ BitVec.allOnes 64)).toInt := rfl
  have hx : a ^^^ (a &&& b) < 2 ^ 63 := Nat.xor_lt_two_pow ha (Nat.lt_of_le_of_lt Nat.and_le_left ha)
  have e2 : BitVec.ofNat 64 a &&& (BitVec.ofNat 64 b ^^^ BitVec.allOnes 64) = BitVec.ofNat 64 (a ^^^ (a &&& b)) := by
    apply BitVec.eq_of_getLsbD_eq
    intro i hi
    simp only [BitVec.getLsbD_and, BitVec.getLsbD_xor, BitVec.getLsbD_ofNat, BitVec.getLsbD_allOnes, Nat.testBit_xor, Nat.testBit_and, hi, decide_true, Bool.true_and]
    cases a.testBit i <;> cases b.testBit i <;> rfl
  rw [e, e2, tI_nat64 _ (by rw [BitVec.toNat_ofNat, Nat.mod_eq_of_lt (by omega)]; exact hx), BitVec.toNat_ofNat, Nat.mod_eq_of_lt (by omega)]
theorem iandnot_n {a b : Nat} (ha : a < 2 ^ 31) (hb : b < 2 ^ 31) : iandZ (a : Int) (ixorZ (b : Int) (-1)) = ((a ^^^ (a &&& b) : Nat) : Int) := by
  unfold iandZ ixorZ
  have e0 : Int32.ofInt ((Int32.ofInt (b : Int) ^^^ Int32.ofInt (-1)).toInt) = Int32.ofInt (b : Int) ^^^ Int32.ofInt (-1) := Int32.ofInt_toInt _
  rw [e0]
  have e : (Int32.ofInt (a : Int) &&& (Int32.ofInt (b : Int) ^^^ Int32.ofInt (-1))).toInt = (BitVec.ofNat 32 a &&& (BitVec.ofNat 32 b ^^^ BitVec.allOnes 32)).toInt := rfl
  have hx : a ^^^ (a &&& b) < 2 ^ 31 := Nat.xor_lt_two_pow ha (Nat.lt_of_le_of_lt Nat.and_le_left ha)
  have e2 : BitVec.ofNat 32 a &&& (BitVec.ofNat 32 b ^^^ BitVec.allOnes 32) = BitVec.ofNat 32 (a ^^^ (a &&& b)) := by
    apply BitVec.eq_of_getLsbD_eq
    intro i hi
    simp only [BitVec.getLsbD_and, BitVec.getLsbD_xor, BitVec.getLsbD_ofNat, BitVec.getLsbD_allOnes, Nat.testBit_xor, Nat.testBit_and, hi, decide_true, Bool.true_and]
    cases a.testBit i <;> cases b.testBit i <;> rfl
  rw [e, e2, tI_nat32 _ (by rw [BitVec.toNat_ofNat, Nat.mod_eq_of_lt (by omega)]; exact hx), BitVec.toNat_ofNat, Nat.mod_eq_of_lt (by omega)]
