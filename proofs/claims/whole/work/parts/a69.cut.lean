/-! whose member a hole is of -/
def ho58 (b : Bk) (k : Int) (c : Nat) (l : Nat → Nat → Int) (ch N : Nat) (V : VV) : Prop := ∃ s : Nat → Nat, (∀ i, i < N → mR (spS b k c) (bL l i) (s i)) ∧ ∀ h, h < 40 → V 58 h = lstB (fun i => ch.testBit i && (s i).testBit h) N
def memH (b : Bk) (k : Int) (c : Nat) (l : Nat → Nat → Int) (ch N g : Nat) : Int := lstB (fun i => ch.testBit i && ofB b k c l g i) N
def memI (b : Bk) (k : Int) (c : Nat) (l : Nat → Nat → Int) (ch N g : Nat) : Int := if memH b k c l ch N g = -1 then -1 else mbI ch N (memH b k c l ch N g).toNat
section
variable {b : Bk} {k : Int} {c : Nat} {l : Nat → Nat → Int} {ch N g : Nat} {V V' : VV}
theorem ho58_x (h : ho58 b k c l ch N V) (e : V' 58 = V 58) : ho58 b k c l ch N V' := by
  obtain ⟨s, s1, s2⟩ := h
  exact ⟨s, s1, fun x hx => by rw [e]; exact s2 x hx⟩
theorem ho58_of {R : RR} {Ks : Nat → Kd} {ρ : Nat → Nat} (hrl : rwL (spS b k c) Ks N l ρ V) (h : ∀ x, x < 40 → V 58 x = lstB (hoB V ρ ch x) N) : ho58 b k c l ch N V := by
  refine ⟨fun i => (V (ρ i) 18).toNat, fun i hi => ?_, h⟩
  obtain ⟨x, e, m⟩ := ho_18 (hrl i hi).1
  show mR (spS b k c) (bL l i) (V (ρ i) 18).toNat
  rw [e, Int.toNat_natCast]
  exact m
theorem own_b {a x h : Nat} (hg : g < b.n) (ho : owO b k c g = (h : Int)) (hr : mR (spS b k c) a x) : soO b k c g ≠ -1 ∧ (x.testBit h = true ↔ a.testBit (soO b k c g).toNat = true) := by
  rcases ow_is (k := k) (c := c) hg with z | ⟨y, y1, y2, y3⟩
  · rw [ho] at z; omega
  · have eh : y = h := by rw [ho] at y2; omega
    subst eh
    have es : soO b k c g = (cntB (isSp b k c) y : Int) := by
      unfold soO
      rw [if_neg (by rw [ho]; omega), ho, Int.toNat_natCast]
    rw [es, Int.toNat_natCast]
    refine ⟨by omega, ?_⟩
    rw [hr.2 y]
    constructor
    · rintro ⟨s, s1, s2, s3⟩
      rw [spS_m] at s1
      have s4 : (shO b k c s : Int) = (y : Int) := s3
      have w := nth_ok (p := isSp b k c) (n := b.n) (i := s) s1
      have s5 : nthB (isSp b k c) b.n s = y := by
        have : shO b k c s = y := by omega
        exact this
      rw [s5] at w
      rw [w.2.2]; exact s2
    · intro z
      refine ⟨cntB (isSp b k c) y, ?_, z, ?_⟩
      · rw [spS_m]
        have h1 := cntB_mono (p := isSp b k c) (m := y + 1) (n := b.n) (by omega)
        rw [cntB_t y3] at h1
        show _ < cntB (isSp b k c) b.n
        omega
      · show (shO b k c (cntB (isSp b k c) y) : Int) = _
        exact congrArg (fun z : Nat => (z : Int)) (nth_cnt y1 y3)
theorem mem_58 (h58 : ho58 b k c l ch N V) (hg : g < b.n) (hn : b.n ≤ 40) (h0 : owO b k c g ≠ -1) : V 58 (owO b k c g).toNat = memH b k c l ch N g := by
  obtain ⟨s, s1, s2⟩ := h58
  rcases ow_is (k := k) (c := c) hg with z | ⟨y, y1, y2, y3⟩
  · exact absurd z h0
  · rw [y2, Int.toNat_natCast, s2 y (by omega)]
    unfold memH
    refine lst_x2 N fun i hi => ?_
    have := own_b hg y2 (s1 i hi)
    congr 1
    unfold ofB
    rw [decide_eq_true this.1, Bool.true_and]
    have h2 := this.2
    cases u : (s i).testBit y <;> cases w : (bL l i).testBit (soO b k c g).toNat <;> simp_all
theorem mem_no (h0 : owO b k c g = -1) : memH b k c l ch N g = -1 := by
  have hs : soO b k c g = -1 := by unfold soO; rw [if_pos h0]
  rcases lst_r (p := fun i => ch.testBit i && ofB b k c l g i) N with ⟨z, _⟩ | ⟨i, _, z, _⟩
  · exact z
  · rw [Bool.and_eq_true, of_i] at z
    exact absurd hs z.2.1
/-- a chosen house has the hole just where it is that member -/
theorem mem_of {v : Nat → Int} {i : Nat} (hO : cOk v (bL l) N ch) (hi : i < cntB (fun x => ch.testBit x) N) : ofB b k c l g (mbr ch N i) = true ↔ memI b k c l ch N g = (i : Int) := by
  have w := nth_ok (p := fun x => ch.testBit x) (n := N) hi
  have one : ∀ x y, x < N → y < N → ch.testBit x = true → ch.testBit y = true → ofB b k c l g x = true → ofB b k c l g y = true → x = y := fun x y hx hy cx cy ox oy => by
    have key : ∀ x y, x < y → ch.testBit x = true → ch.testBit y = true → ofB b k c l g x = true → ofB b k c l g y = true → False := fun x y hxy cx cy ox oy => by
      have h1 := hO.2 x y hxy cx cy
      have h2 := congrArg (fun z => z.testBit (soO b k c g).toNat) h1
      simp only [Nat.testBit_and, Nat.zero_testBit] at h2
      rw [(of_i.mp ox).2, (of_i.mp oy).2] at h2
      cases h2
    rcases Nat.lt_trichotomy x y with q | q | q
    · exact absurd (key x y q cx cy ox oy) id
    · exact q
    · exact absurd (key y x q cy cx oy ox) id
  unfold memI memH
  rcases lst_r (p := fun i => ch.testBit i && ofB b k c l g i) N with ⟨z, z2⟩ | ⟨x, x1, x2, x3⟩
  · rw [z, if_pos rfl]
    constructor
    · intro y
      have := z2 _ w.1
      rw [y, Bool.and_true] at this
      rw [this] at w
      cases w.2.1
    · intro y; omega
  · rw [x3, if_neg (by omega), Int.toNat_natCast]
    rw [Bool.and_eq_true] at x2
    unfold mbI
    rw [if_pos ⟨x1, x2.1⟩]
    constructor
    · intro y
      have e := one x (mbr ch N i) x1 w.1 x2.1 w.2.1 x2.2 y
      rw [e]
      exact congrArg (fun z : Nat => (z : Int)) w.2.2
    · intro y
      have e : cntB (fun x => ch.testBit x) x = i := by omega
      have e2 := nth_cnt (p := fun x => ch.testBit x) x1 x2.1
      rw [e] at e2
      show ofB b k c l g (nthB (fun x => ch.testBit x) N i) = true
      rw [e2]; exact x2.2
theorem memI_r : memI b k c l ch N g = -1 ∨ ∃ i : Nat, i < cntB (fun x => ch.testBit x) N ∧ memI b k c l ch N g = (i : Int) := by
  unfold memI
  by_cases q : memH b k c l ch N g = -1
  · rw [if_pos q]; exact Or.inl rfl
  · rw [if_neg q]
    unfold mbI
    by_cases w : (memH b k c l ch N g).toNat < N ∧ ch.testBit (memH b k c l ch N g).toNat = true
    · rw [if_pos w]; exact Or.inr ⟨_, chb_lt w.1 w.2, rfl⟩
    · rw [if_neg w]; exact Or.inl rfl
/-- later by the first t cuts -/
def ltT (b : Bk) (k : Int) (c : Nat) (l : Nat → Nat → Int) (ch N t i j : Nat) : Bool := decide (i ≠ j) && anyB (ctB b k c l (mbr ch N i) (mbr ch N j)) t
theorem ltT_0 {i j : Nat} : ltT b k c l ch N 0 i j = false := by unfold ltT; exact Bool.and_false _
theorem ct_m {v : Nat → Int} {i j t : Nat} (hO : cOk v (bL l) N ch) (hi : i < cntB (fun x => ch.testBit x) N) (hj : j < cntB (fun x => ch.testBit x) N) : ctB b k c l (mbr ch N i) (mbr ch N j) t = true ↔ b.cK t ≤ k ∧ memI b k c l ch N (b.cL t).toNat = (i : Int) ∧ memI b k c l ch N (b.cE t).toNat = (j : Int) := by
  unfold ctB
  rw [Bool.and_eq_true, Bool.and_eq_true, decide_eq_true_iff, mem_of hO hi, mem_of hO hj]
theorem ltT_s {v : Nat → Int} {i j t : Nat} (hO : cOk v (bL l) N ch) (hi : i < cntB (fun x => ch.testBit x) N) (hj : j < cntB (fun x => ch.testBit x) N) : ltT b k c l ch N (t + 1) i j = true ↔ ltT b k c l ch N t i j = true ∨ (i ≠ j ∧ b.cK t ≤ k ∧ memI b k c l ch N (b.cL t).toNat = (i : Int) ∧ memI b k c l ch N (b.cE t).toNat = (j : Int)) := by
  rw [← ct_m (t := t) hO hi hj]
  unfold ltT
  show (decide (i ≠ j) && (anyB (ctB b k c l (mbr ch N i) (mbr ch N j)) t || ctB b k c l (mbr ch N i) (mbr ch N j) t)) = true ↔ _
  rw [Bool.and_eq_true, Bool.and_eq_true, Bool.or_eq_true, decide_eq_true_iff]
  constructor
  · rintro ⟨z, w | w⟩
    · exact Or.inl ⟨z, w⟩
    · exact Or.inr ⟨z, w⟩
  · rintro (⟨z, w⟩ | ⟨z, w⟩)
    · exact ⟨z, Or.inl w⟩
    · exact ⟨z, Or.inr w⟩
theorem cut_no {v : Nat → Int} {t : Nat} {X : VV} (hO : cOk v (bL l) N ch) (h : rowC 89 (ltT b k c l ch N t) (chN ch N) X) (hno : ∀ i j : Nat, i ≠ j → b.cK t ≤ k → memI b k c l ch N (b.cL t).toNat = (i : Int) → memI b k c l ch N (b.cE t).toNat = (j : Int) → False) : rowC 89 (ltT b k c l ch N (t + 1)) (chN ch N) X := fun i hi => by
  rw [h i hi]
  congr 1
  refine bn_x fun j hj => ?_
  have := ltT_s (b := b) (k := k) (c := c) (t := t) hO hi hj
  cases z : ltT b k c l ch N t i j with
  | true => exact (this.mpr (Or.inl z)).symm
  | false =>
    cases w : ltT b k c l ch N (t + 1) i j with
    | false => rfl
    | true =>
      rcases this.mp w with y | ⟨y1, y2, y3, y4⟩
      · rw [z] at y; cases y
      · exact absurd (hno i j y1 y2 y3 y4) id
theorem cut_y {v : Nat → Int} {t A E : Nat} {X Y : VV} (hO : cOk v (bL l) N ch) (h : rowC 89 (ltT b k c l ch N t) (chN ch N) X) (hA : A < chN ch N) (hE : E < chN ch N) (hAE : A ≠ E) (hk : b.cK t ≤ k) (mA : memI b k c l ch N (b.cL t).toNat = (A : Int)) (mE : memI b k c l ch N (b.cE t).toNat = (E : Int)) (e : Y = uV X 89 A ((bitsN (ltT b k c l ch N t A) (chN ch N) ||| 2 ^ E : Nat) : Int)) : rowC 89 (ltT b k c l ch N (t + 1)) (chN ch N) Y := fun i hi => by
  rw [e, uV_at]
  by_cases q : i = A
  · rw [if_pos q]
    congr 1
    subst q
    refine bn_e fun j => ?_
    rw [or_b, Bool.or_eq_true, decide_eq_true_iff, bn_t]
    constructor
    · rintro (⟨z, w⟩ | rfl)
      · exact ⟨z, (ltT_s hO hi z).mpr (Or.inl w)⟩
      · exact ⟨hE, (ltT_s hO hi hE).mpr (Or.inr ⟨hAE, hk, mA, mE⟩)⟩
    · rintro ⟨z, w⟩
      rcases (ltT_s hO hi z).mp w with y | ⟨_, _, _, y4⟩
      · exact Or.inl ⟨z, y⟩
      · rw [mE] at y4; exact Or.inr (by omega)
  · rw [if_neg q, h i hi]
    congr 1
    refine bn_x fun j hj => ?_
    have := ltT_s (b := b) (k := k) (c := c) (t := t) hO hi hj
    cases z : ltT b k c l ch N t i j with
    | true => exact (this.mpr (Or.inl z)).symm
    | false =>
      cases w : ltT b k c l ch N (t + 1) i j with
      | false => rfl
      | true =>
        rcases this.mp w with y | ⟨_, _, y3, _⟩
        · rw [z] at y; cases y
        · rw [mA] at y3; exact absurd (show i = A by omega) q
end
theorem cut_0 {b : Bk} {k : Int} {c : Nat} {l : Nat → Nat → Int} {ch N n : Nat} {X : VV} (h : ∀ i, i < 13 → X 89 i = 0) (hn : n ≤ 13) : rowC 89 (ltT b k c l ch N 0) n X := fun i hi => by
  rw [h i (by omega)]
  have z : bitsN (ltT b k c l ch N 0 i) n = 0 := by
    apply Nat.eq_of_testBit_eq
    intro j
    rw [Nat.zero_testBit]
    apply Bool.eq_false_iff.mpr
    intro y
    have := (bn_t.mp y).2
    rw [ltT_0] at this
    cases this
  rw [z]; rfl
