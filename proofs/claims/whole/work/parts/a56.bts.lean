/-! sets as numbers: the lowest of a set, what is left without it -/
def lowB : Nat → Nat → Nat
  | 0, _ => 0
  | k + 1, x => if x % 2 = 1 then 0 else lowB k (x / 2) + 1
theorem low_s : ∀ k x, 0 < x → x < 2 ^ k → lowB k x < k ∧ x.testBit (lowB k x) = true ∧ (∀ i, i < lowB k x → x.testBit i = false) ∧ (x - 1) ^^^ ((x - 1) &&& x) = 2 ^ lowB k x - 1 ∧ ∀ i, (x &&& (x - 1)).testBit i = (x.testBit i && decide (i ≠ lowB k x))
  | 0, x, h1, h2 => by rw [Nat.pow_zero] at h2; omega
  | k + 1, x, h1, h2 => by
    rw [Nat.pow_succ] at h2
    have e : lowB (k + 1) x = if x % 2 = 1 then 0 else lowB k (x / 2) + 1 := rfl
    by_cases q : x % 2 = 1
    · rw [e, if_pos q]
      have a1 : (x - 1) / 2 = x / 2 := by omega
      refine ⟨by omega, by rw [Nat.testBit_zero, decide_eq_true q], fun i hi => by omega, ?_, fun i => ?_⟩
      · have : (x - 1) &&& x = x - 1 := by
          apply Nat.eq_of_testBit_eq
          intro i
          rw [Nat.testBit_and]
          cases i with
          | zero => rw [Nat.testBit_zero, decide_eq_false (by omega)]; rfl
          | succ i => rw [Nat.testBit_succ, Nat.testBit_succ, a1, Bool.and_self]
        rw [this, Nat.xor_self]
        try rfl
      · rw [Nat.testBit_and]
        cases i with
        | zero => rw [Nat.testBit_zero (x - 1), decide_eq_false (p := (x - 1) % 2 = 1) (by omega), Bool.and_false, decide_eq_false (p := 0 ≠ 0) (by omega), Bool.and_false]
        | succ i => rw [Nat.testBit_succ, Nat.testBit_succ, a1, Bool.and_self, decide_eq_true (p := i + 1 ≠ 0) (by omega), Bool.and_true]
    · rw [e, if_neg q]
      obtain ⟨i1, i2, i3, i4, i5⟩ := low_s k (x / 2) (by omega) (by omega)
      have a1 : (x - 1) / 2 = x / 2 - 1 := by omega
      refine ⟨by omega, by rw [Nat.testBit_succ]; exact i2, fun i hi => ?_, ?_, fun i => ?_⟩
      · cases i with
        | zero => rw [Nat.testBit_zero, decide_eq_false (by omega)]
        | succ i => rw [Nat.testBit_succ]; exact i3 i (by omega)
      · have b1 : ((x - 1) ^^^ ((x - 1) &&& x)) / 2 = 2 ^ lowB k (x / 2) - 1 := by
          rw [Nat.xor_div_two, Nat.and_div_two, a1]; exact i4
        have b2 : ((x - 1) ^^^ ((x - 1) &&& x)) % 2 = 1 := by
          have z : ((x - 1) ^^^ ((x - 1) &&& x)).testBit 0 = true := by
            rw [Nat.testBit_xor, Nat.testBit_and, Nat.testBit_zero, Nat.testBit_zero, decide_eq_true (p := (x - 1) % 2 = 1) (by omega), decide_eq_false q]; rfl
          rw [Nat.testBit_zero] at z
          exact of_decide_eq_true z
        have b3 := Nat.two_pow_pos (lowB k (x / 2))
        rw [Nat.pow_succ]
        omega
      · rw [Nat.testBit_and]
        cases i with
        | zero => rw [Nat.testBit_zero x, decide_eq_false q]; rfl
        | succ i =>
          rw [Nat.testBit_succ, Nat.testBit_succ, a1, ← Nat.testBit_and, i5 i]
          congr 1
          by_cases w : i = lowB k (x / 2)
          · rw [decide_eq_false (by omega), decide_eq_false (by omega)]
          · rw [decide_eq_true (by omega), decide_eq_true (by omega)]
theorem iand_cm (x y : Int) : iandZ x y = iandZ y x := by
  unfold iandZ
  rw [Int32.and_comm]
theorem iand15 (a : Nat) : iandZ (a : Int) 15 = ((a % 16 : Nat) : Int) := by
  have h := iand_n (a := a % 16) (b := 15) (by omega)
  have e : iandZ (a : Int) 15 = iandZ ((a % 16 : Nat) : Int) ((15 : Nat) : Int) := by
    show (Int32.ofInt (a : Int) &&& Int32.ofInt ((15 : Nat) : Int)).toInt = (Int32.ofInt ((a % 16 : Nat) : Int) &&& Int32.ofInt ((15 : Nat) : Int)).toInt
    rw [oI, oI, oI, nx_and, nx_and]
    congr 2
    rw [show (15 : Nat) = 2 ^ 4 - 1 from rfl, Nat.and_two_pow_sub_one_eq_mod, Nat.and_two_pow_sub_one_eq_mod, show (2 : Nat) ^ 4 = 16 from rfl, Nat.mod_mod]
  rw [e, h, show (15 : Nat) = 2 ^ 4 - 1 from rfl, Nat.and_two_pow_sub_one_eq_mod, show (2 : Nat) ^ 4 = 16 from rfl, Nat.mod_mod]
/-- the set of those that are so -/
def bitsN (p : Nat → Bool) : Nat → Nat
  | 0 => 0
  | n + 1 => if p n = true then bitsN p n ||| 2 ^ n else bitsN p n
section
variable {p q : Nat → Bool} {n j s : Nat}
theorem bn_lt : ∀ {n : Nat}, bitsN p n < 2 ^ n
  | 0 => by show 0 < 1; decide
  | n + 1 => by
    have := bn_lt (n := n)
    show (if p n = true then bitsN p n ||| 2 ^ n else bitsN p n) < 2 ^ (n + 1)
    split
    · exact or_lt this
    · exact Nat.lt_trans this (Nat.pow_lt_pow_right (by decide) (by omega))
theorem bn_t : ∀ {n : Nat}, (bitsN p n).testBit j = true ↔ j < n ∧ p j = true
  | 0 => by
    show (0 : Nat).testBit j = true ↔ _
    rw [Nat.zero_testBit]
    exact ⟨fun z => Bool.noConfusion z, fun z => absurd z.1 (Nat.not_lt_zero _)⟩
  | n + 1 => by
    show (if p n = true then bitsN p n ||| 2 ^ n else bitsN p n).testBit j = true ↔ _
    by_cases w : p n = true
    · rw [if_pos w, or_b, Bool.or_eq_true, decide_eq_true_iff, bn_t]
      constructor
      · rintro (⟨a, b⟩ | rfl)
        · exact ⟨by omega, b⟩
        · exact ⟨by omega, w⟩
      · rintro ⟨a, b⟩
        by_cases z : n = j
        · exact Or.inr z
        · exact Or.inl ⟨by omega, b⟩
    · rw [if_neg w, bn_t]
      constructor
      · rintro ⟨a, b⟩; exact ⟨by omega, b⟩
      · rintro ⟨a, b⟩
        refine ⟨?_, b⟩
        by_cases z : j = n
        · subst z; exact absurd b w
        · omega
theorem bn_and0 : bitsN p n &&& s = 0 ↔ ∀ j, j < n → p j = true → s.testBit j = false := by
  constructor
  · intro h j h1 h2
    have := congrArg (fun z => z.testBit j) h
    simp only [Nat.testBit_and, Nat.zero_testBit] at this
    rw [bn_t.mpr ⟨h1, h2⟩, Bool.true_and] at this
    exact this
  · intro h
    apply Nat.eq_of_testBit_eq
    intro j
    rw [Nat.testBit_and, Nat.zero_testBit]
    cases z : (bitsN p n).testBit j with
    | false => rfl
    | true => rw [h j (bn_t.mp z).1 (bn_t.mp z).2]; rfl
theorem bn_not0 : bitsN p n ^^^ (bitsN p n &&& s) = 0 ↔ ∀ j, j < n → p j = true → s.testBit j = true := by
  constructor
  · intro h j h1 h2
    have := congrArg (fun z => z.testBit j) h
    simp only [Nat.testBit_xor, Nat.testBit_and, Nat.zero_testBit] at this
    rw [bn_t.mpr ⟨h1, h2⟩] at this
    cases z : s.testBit j with
    | true => rfl
    | false => rw [z] at this; cases this
  · intro h
    apply Nat.eq_of_testBit_eq
    intro j
    rw [Nat.testBit_xor, Nat.testBit_and, Nat.zero_testBit]
    cases z : (bitsN p n).testBit j with
    | false => rfl
    | true => rw [h j (bn_t.mp z).1 (bn_t.mp z).2]; rfl
end
/-! the class's members as they lie -/
def rlB (mt lt : Nat → Nat → Bool) (i j : Nat) : Bool := mt i j || (lt i j || lt j i)
def rowC (a : Nat) (p : Nat → Nat → Bool) (n : Nat) (V : VV) : Prop := ∀ i, i < n → V a i = (bitsN (p i) n : Int)
def freP (r : Nat → Nat → Bool) (s : Nat) : Prop := ∀ i j, i ≠ j → s.testBit i = true → s.testBit j = true → r i j = false
/-- all sets below t have their marks -/
def lsS (r : Nat → Nat → Bool) (t : Nat) (V : VV) : Prop := ∀ s, s < t → (V 91 s = 1 ↔ freP r s) ∧ V 92 s = (cdN (inD s) 13 : Int)
theorem fre_0 {r : Nat → Nat → Bool} : freP r 0 := fun i j _ h => by rw [Nat.zero_testBit] at h; cases h
theorem fre_s {r : Nat → Nat → Bool} {k n s : Nat} (hs : ∀ i j, r i j = r j i) (h0 : 0 < s) (hk : s < 2 ^ k) (hn : s < 2 ^ n) : freP r s ↔ freP r (s &&& (s - 1)) ∧ bitsN (r (lowB k s)) n &&& (s &&& (s - 1)) = 0 := by
  obtain ⟨l1, l2, l3, l4, l5⟩ := low_s k s h0 hk
  have hb : ∀ i, (s &&& (s - 1)).testBit i = true ↔ s.testBit i = true ∧ i ≠ lowB k s := fun i => by
    rw [l5 i, Bool.and_eq_true, decide_eq_true_iff]
  rw [bn_and0]
  constructor
  · intro h
    refine ⟨fun i j hij hi hj => h i j hij ((hb i).mp hi).1 ((hb j).mp hj).1, fun j hj hr => Bool.eq_false_iff.mpr fun z => ?_⟩
    have := h (lowB k s) j (fun e => ((hb j).mp z).2 e.symm) l2 ((hb j).mp z).1
    rw [this] at hr; cases hr
  · rintro ⟨h1, h2⟩ i j hij hi hj
    have key : ∀ j, s.testBit j = true → j ≠ lowB k s → r (lowB k s) j = false := fun j hj hne => Bool.eq_false_iff.mpr fun z => by
      have jn : j < n := by
        apply Classical.byContradiction
        intro w
        rw [Nat.testBit_lt_two_pow (Nat.lt_of_lt_of_le hn (Nat.pow_le_pow_right (by decide) (by omega)))] at hj
        cases hj
      have := h2 j jn z
      rw [(hb j).mpr ⟨hj, hne⟩] at this; cases this
    by_cases w : i = lowB k s
    · rw [w]; exact key j hj (fun e => hij (w.trans e.symm))
    · by_cases w2 : j = lowB k s
      · rw [hs, w2]; exact key i hi w
      · exact h1 i j hij ((hb i).mpr ⟨hi, w⟩) ((hb j).mpr ⟨hj, w2⟩)
theorem dig_s {s : Nat} (h0 : 0 < s) (hk : s < 2 ^ 13) : cdN (inD s) 13 = cdN (inD (s &&& (s - 1))) 13 + 16 ^ (12 - lowB 13 s) := by
  obtain ⟨l1, l2, l3, l4, l5⟩ := low_s 13 s h0 hk
  rw [show 12 - lowB 13 s = 13 - 1 - lowB 13 s by omega, ← cd_1 l1, ← Nat.one_mul (cdN (fun j => if j = lowB 13 s then 1 else 0) 13)]
  refine cd_a fun j _ => ?_
  unfold inD
  rw [l5 j]
  by_cases w : j = lowB 13 s
  · rw [if_pos w, w, l2, if_pos rfl, decide_eq_false (by omega), Bool.and_false, if_neg (by decide)]
  · rw [if_neg w, decide_eq_true w, Bool.and_true]; omega
theorem and_lt {s : Nat} (h : 0 < s) : s &&& (s - 1) < s := Nat.lt_of_le_of_lt Nat.and_le_right (by omega)
theorem inD_b (s j : Nat) : inD s j < 16 := by unfold inD; split <;> omega
theorem dig_lt (s : Nat) : cdN (inD s) 13 < 4503599627370496 := cd_lt (inD_b s) 13
def opB (lt : Nat → Nat → Bool) (n D i : Nat) : Bool := !(D.testBit i) && !(anyB (fun j => lt i j && !(D.testBit j)) n)
theorem op_t {lt : Nat → Nat → Bool} {n D i : Nat} : opB lt n D i = true ↔ D.testBit i = false ∧ ∀ j, j < n → lt i j = true → D.testBit j = true := by
  unfold opB
  rw [Bool.and_eq_true, Bool.not_eq_true', Bool.not_eq_true', anyB_f]
  constructor
  · rintro ⟨a, b⟩
    refine ⟨a, fun j hj hl => ?_⟩
    have := b j hj
    rw [hl, Bool.true_and, Bool.not_eq_false'] at this
    exact this
  · rintro ⟨a, b⟩
    refine ⟨a, fun j hj => ?_⟩
    cases z : lt i j with
    | false => rfl
    | true => rw [b j hj z]; rfl
/-- what the class tries is what may be next -/
theorem vP_iff {mt lt : Nat → Nat → Bool} {n D P : Nat} (hs : ∀ i j, mt i j = mt j i) (hl : ∀ i, lt i i = false) : vPt mt lt n D P ↔ P ≠ 0 ∧ subB (bitsN (opB lt n D) n) P ∧ freP (rlB mt lt) P := by
  unfold vPt freP rlB
  constructor
  · rintro ⟨a, b, c⟩
    refine ⟨a, fun j hj => ?_, fun i j hij hi hj => ?_⟩
    · obtain ⟨b1, b2, b3⟩ := b j hj
      refine bn_t.mpr ⟨b1, op_t.mpr ⟨b2, fun i hi hli => b3 i hi (fun e => by rw [e, hl j] at hli; cases hli) hli⟩⟩
    · rw [(c i j hij hi hj).1, (c i j hij hi hj).2, (c j i (fun e => hij e.symm) hj hi).2]; rfl
  · rintro ⟨a, b, c⟩
    refine ⟨a, fun j hj => ?_, fun i j hij hi hj => ?_⟩
    · obtain ⟨b1, b2⟩ := bn_t.mp (b j hj)
      obtain ⟨b3, b4⟩ := op_t.mp b2
      exact ⟨b1, b3, fun i hi _ hli => b4 i hi hli⟩
    · have := c i j hij hi hj
      rw [Bool.or_eq_false_iff, Bool.or_eq_false_iff] at this
      exact ⟨this.1, this.2.1⟩
def dpV (mt lt : Nat → Nat → Bool) (n : Nat) (V : VV) (D : Nat) : Prop := ∃ L W B : Nat, V 93 D = (L : Int) ∧ V 94 D = (W : Int) ∧ V 95 D = (B : Int) ∧ dpQ (chn mt lt n D) L W B
theorem dpq_B {mt lt : Nat → Nat → Bool} {n D L W B : Nat} {Q : Nat → (Nat → Nat) → Prop} (hn : n ≤ 13) (h : dpQ Q L W B) (hq : ∀ k g, Q k g → chn mt lt n D k g) : B < 4503599627370496 := by
  rcases h with ⟨_, _, h3, _⟩ | ⟨_, _, _, _, ⟨g, g1, g2⟩, _⟩
  · rw [h3]; decide
  · rw [g2]; exact cd_lt (chn_bd (hq _ _ g1) hn) 13
theorem or_gt {D P : Nat} (h : P ≠ 0) (hd : ∀ j, P.testBit j = true → D.testBit j = false) : D < D ||| P := by
  rcases Nat.lt_or_ge D (D ||| P) with q | q
  · exact q
  · exfalso
    apply h
    have e : D ||| P = D := Nat.le_antisymm q Nat.left_le_or
    apply Nat.eq_of_testBit_eq
    intro j
    rw [Nat.zero_testBit]
    cases z : P.testBit j with
    | false => rfl
    | true =>
      have := hd j z
      rw [← e, Nat.testBit_or, z, Bool.or_true] at this
      cases this
theorem ls_s {r : Nat → Nat → Bool} {s : Nat} {X Y Z : VV} {b d : Int} (xs : lsS r s X) (e1 : Y = uV X 91 s b) (e2 : Z = uV Y 92 s d) (hb : b = 1 ↔ freP r s) (hd : d = (cdN (inD s) 13 : Int)) : lsS r (s + 1) Z := by
  intro t ht
  rw [e2, uV_at, uV_cell (show 91 ≠ 92 by decide), e1, uV_at, uV_cell (show 92 ≠ 91 by decide)]
  by_cases q : t = s
  · rw [if_pos q, if_pos q, q]; exact ⟨hb, hd⟩
  · rw [if_neg q, if_neg q]; exact xs t (by omega)
theorem dig_0 : cdN (inD 0) 13 = 0 := by
  have : inD 0 = fun _ => 0 := by funext j; unfold inD; rw [Nat.zero_testBit]; rfl
  rw [this]; rfl
theorem shl16 {i : Nat} (h : i < 13) : lshlZ 1 (4 * (12 - (i : Int))) = ((16 ^ (12 - i) : Nat) : Int) := by
  have e : (4 * (12 - (i : Int))) = ((4 * (12 - i) : Nat) : Int) := by omega
  have h1 : 1 * 2 ^ (4 * (12 - i)) < 2 ^ 63 := by rw [Nat.one_mul]; exact Nat.pow_lt_pow_right (by decide) (by omega)
  rw [e, show (1 : Int) = ((1 : Nat) : Int) from rfl, lshl_n (by omega) h1, Nat.one_mul, Nat.pow_mul]
theorem shr16 {B i : Nat} (hB : B < 4503599627370496) (h : i < 13) : lshrZ (B : Int) (4 * (12 - (i : Int))) = ((B / 16 ^ (12 - i) : Nat) : Int) := by
  have e : (4 * (12 - (i : Int))) = ((4 * (12 - i) : Nat) : Int) := by omega
  rw [e, lshr_n (by omega) (Nat.lt_trans hB (by decide)), Nat.pow_mul]
theorem dpV_x {mt lt : Nat → Nat → Bool} {n D : Nat} {V V' : VV} (h : dpV mt lt n V D) (e1 : V' 93 D = V 93 D) (e2 : V' 94 D = V 94 D) (e3 : V' 95 D = V 95 D) : dpV mt lt n V' D := by
  obtain ⟨L, W, B, h1, h2, h3, h4⟩ := h
  exact ⟨L, W, B, e1.trans h1, e2.trans h2, e3.trans h3, h4⟩
theorem nfull {D n : Nat} (h : D + 1 < 2 ^ n) : ∃ j, j < n ∧ D.testBit j = false := by
  apply Classical.byContradiction
  intro z
  have : D = 2 ^ n - 1 := by
    apply Nat.eq_of_testBit_eq
    intro j
    rw [Nat.testBit_two_pow_sub_one]
    by_cases w : j < n
    · rw [decide_eq_true w]
      cases y : D.testBit j with
      | true => rfl
      | false => exact absurd ⟨j, w, y⟩ z
    · rw [decide_eq_false w]
      exact Nat.testBit_lt_two_pow (Nat.lt_of_lt_of_le (show D < 2 ^ n by omega) (Nat.pow_le_pow_right (by decide) (by omega)))
  omega
theorem dp_bc {mt lt : Nat → Nat → Bool} {n D p L W B L1 W1 B1 W2 B2 : Nat} (vp : vPt mt lt n D p) (hq : dpQ (fun k g => qT mt lt n D (p + 1) k g) L W B) (v4 : dpQ (chn mt lt n (D ||| p)) L1 W1 B1) (h13 : L1 + 1 ≤ 13) (cc : (L1 + 1 < L ∧ W2 = 0 ∧ B2 = 0) ∨ (L1 + 1 = L ∧ W2 = W ∧ B2 = B)) : dpQ (fun k g => qT mt lt n D p k g) (L1 + 1) (min 1000 (W2 + W1)) (max B2 (B1 + (L1 + 1) * cdN (inD p) 13)) := by
  rcases cc with ⟨c1, rfl, rfl⟩ | ⟨c1, rfl, rfl⟩
  · have b := dpQ_b v4
    rw [show min 1000 (0 + W1) = W1 by omega, Nat.zero_max]
    exact dpQ_i (dp_b hq v4 c1 h13) fun k g => qT_ad vp
  · subst c1
    refine dpQ_i (dp_c vp hq v4 rfl h13 fun g z ht => ?_) fun k g => qT_ad vp
    obtain ⟨_, _, P', p1, p2⟩ := z
    have := top_u p2 ht
    omega
/-- the row of phases as the class names it -/
def phC (n L W B : Nat) (V : VV) : Prop := V 85 12 = (L : Int) ∧ V 85 13 = (W : Int) ∧ V 85 11 = (if L = 1000 then 0 else 1) ∧ ∀ i, i < n → V 96 i = (L : Int) - ((B / 16 ^ (12 - i) % 16 : Nat) : Int)
