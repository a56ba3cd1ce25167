/-! the class relates its members -/
section
variable {G : GG} {M : Mth} {Rm : Room} {n0 pc pn : Nat} {Z : List Frame → Array Value → State → State → Prop} {ls : List (Nat × AV)} {st : List AV} {V : VV} {R : RR}
theorem F_ac13 {a b : Nat} {sp dp n : Int} (h : dAC M pc pn) (hl2 : lay b = (1, 13)) (hb2 : arB b = some (0, 8191)) (hl : lay a = (1, 13)) (hB : Bd V) (hb : arB a = some (0, 8191)) (hsp : 0 ≤ sp ∧ sp + n ≤ 13) (hdp : 0 ≤ dp ∧ dp + n ≤ 13) (hn : 0 ≤ n) (hf : 1 ≤ Rm.frames ∧ 60 ≤ Rm.locals) (k : ∀ V', V' = cV V a (cpF (V b) (V a) sp.toNat dp.toNat n.toNat) → Bd V' → TT G M Rm n0 Z 162 pn ls st V' R) (hst : wds st ≤ 8 := by exact Nat.le_of_ble_eq_true rfl) : TT G M Rm n0 Z 162 pc ls (vi n :: vi dp :: vr a :: vi sp :: vr b :: st) V R := by
  refine T_acc (n1 := 13) (n2 := 13) h hl2 (lay_lc hl2 (by decide)) hl (lay_lc hl (by decide)) hsp hdp hn (by decide) (by decide) hst hf (k _ rfl (Bd_cV hB hl hb (fun i => ?_)))
  unfold cpF
  split
  · exact hB.1 b _ _ hb2 _
  · exact hB.1 a _ _ hb i
end
theorem dAC_rel : dAC M_X6_relateMembers 12 15 := ⟨148, d_X6_relateMembers_12, rfl, w4_217⟩
def befB (i j a c : Nat) : Bool := decide (a < i ∨ (a = i ∧ c < j))
def dnP (lt : Nat → Nat → Bool) (i j a c : Nat) : Bool := (lt a c && befB i j a c) || (lt c a && befB i j c a)
def relI (mt lt : Nat → Nat → Bool) (n i j : Nat) (X : VV) : Prop := ∀ a, a < n → X 90 a = (bitsN (fun c => mt a c || dnP lt i j a c) n : Int)
section
variable {mt lt : Nat → Nat → Bool} {n i j a c : Nat} {X Y W : VV}
theorem bef_i : befB i j a c = true ↔ a < i ∨ (a = i ∧ c < j) := by unfold befB; rw [decide_eq_true_iff]
theorem dn_i : dnP lt i j a c = true ↔ (lt a c = true ∧ (a < i ∨ (a = i ∧ c < j))) ∨ (lt c a = true ∧ (c < i ∨ (c = i ∧ a < j))) := by
  unfold dnP
  rw [Bool.or_eq_true, Bool.and_eq_true, Bool.and_eq_true, bef_i, bef_i]
theorem relI_x (h : relI mt lt n i j X) {i' j' : Nat} (e : ∀ a c, a < n → c < n → (dnP lt i j a c = true ↔ dnP lt i' j' a c = true)) : relI mt lt n i' j' X := fun a ha => by
  rw [h a ha]
  congr 1
  refine bn_x fun c hc => ?_
  congr 1
  have := e a c ha hc
  cases z : dnP lt i j a c <;> cases w : dnP lt i' j' a c <;> simp_all
theorem rel_0 (h : rowC 88 mt n X) (hn : n ≤ 13) (e : Y = cV X 90 (cpF (X 88) (X 90) 0 0 13)) : relI mt lt n 0 0 Y := fun a ha => by
  rw [e]
  show (if (90 : Nat) = 90 then cpF (X 88) (X 90) 0 0 13 a else X 90 a) = _
  rw [if_pos rfl]
  unfold cpF
  rw [if_pos ⟨by omega, by omega⟩, show 0 + (a - 0) = a by omega, h a ha]
  congr 1
  refine bn_x fun c hc => ?_
  have : dnP lt 0 0 a c = false := Bool.eq_false_iff.mpr fun z => by rcases dn_i.mp z with ⟨_, w⟩ | ⟨_, w⟩ <;> omega
  rw [this, Bool.or_false]
theorem rel_r (h : relI mt lt n i n X) : relI mt lt n (i + 1) 0 X := relI_x h fun a c ha hc => by
  rw [dn_i, dn_i]
  constructor
  · rintro (⟨z, w⟩ | ⟨z, w⟩)
    · exact Or.inl ⟨z, by omega⟩
    · exact Or.inr ⟨z, by omega⟩
  · rintro (⟨z, w⟩ | ⟨z, w⟩)
    · exact Or.inl ⟨z, by omega⟩
    · exact Or.inr ⟨z, by omega⟩
theorem rel_no (h : relI mt lt n i j X) (hl : lt i j = false) : relI mt lt n i (j + 1) X := relI_x h fun a c ha hc => by
  rw [dn_i, dn_i]
  constructor
  · rintro (⟨z, w⟩ | ⟨z, w⟩)
    · exact Or.inl ⟨z, by omega⟩
    · exact Or.inr ⟨z, by omega⟩
  · rintro (⟨z, w⟩ | ⟨z, w⟩)
    · refine Or.inl ⟨z, ?_⟩
      by_cases q : a = i ∧ c = j
      · rw [q.1, q.2, hl] at z; cases z
      · omega
    · refine Or.inr ⟨z, ?_⟩
      by_cases q : c = i ∧ a = j
      · rw [q.1, q.2, hl] at z; cases z
      · omega
theorem rel_y (h : relI mt lt n i j X) (hl : lt i j = true) (hij : i ≠ j) (hi : i < n) (hj : j < n) {x y : Nat} (ex : X 90 i = (x : Int)) (ey : X 90 j = (y : Int)) (e1 : Y = uV X 90 i ((x ||| 2 ^ j : Nat) : Int)) (e2 : W = uV Y 90 j ((y ||| 2 ^ i : Nat) : Int)) : relI mt lt n i (j + 1) W := fun a ha => by
  have old : ∀ a, a < n → ∀ z : Nat, X 90 a = (z : Int) → ∀ c, z.testBit c = true ↔ c < n ∧ (mt a c || dnP lt i j a c) = true := fun a ha z hz c => by
    have := h a ha
    rw [hz] at this
    have e : z = bitsN (fun c => mt a c || dnP lt i j a c) n := by omega
    rw [e]
    exact bn_t
  rw [e2, uV_at]
  by_cases q : a = j
  · rw [if_pos q]
    congr 1
    refine bn_e fun c => ?_
    rw [or_b, Bool.or_eq_true, decide_eq_true_iff, old j hj y ey, q, Bool.or_eq_true, Bool.or_eq_true, dn_i, dn_i]
    constructor
    · rintro (⟨c1, c2 | ⟨z, w⟩ | ⟨z, w⟩⟩ | rfl)
      · exact ⟨c1, Or.inl c2⟩
      · exact ⟨c1, Or.inr (Or.inl ⟨z, by omega⟩)⟩
      · exact ⟨c1, Or.inr (Or.inr ⟨z, by omega⟩)⟩
      · exact ⟨hi, Or.inr (Or.inr ⟨hl, by omega⟩)⟩
    · rintro ⟨c1, c2 | ⟨z, w⟩ | ⟨z, w⟩⟩
      · exact Or.inl ⟨c1, Or.inl c2⟩
      · exact Or.inl ⟨c1, Or.inr (Or.inl ⟨z, by omega⟩)⟩
      · by_cases y2 : i = c
        · exact Or.inr y2
        · exact Or.inl ⟨c1, Or.inr (Or.inr ⟨z, by omega⟩)⟩
  · rw [if_neg q, e1, uV_at]
    by_cases w0 : a = i
    · rw [if_pos w0]
      congr 1
      refine bn_e fun c => ?_
      rw [or_b, Bool.or_eq_true, decide_eq_true_iff, old i hi x ex, w0, Bool.or_eq_true, Bool.or_eq_true, dn_i, dn_i]
      constructor
      · rintro (⟨c1, c2 | ⟨z, w⟩ | ⟨z, w⟩⟩ | rfl)
        · exact ⟨c1, Or.inl c2⟩
        · exact ⟨c1, Or.inr (Or.inl ⟨z, by omega⟩)⟩
        · exact ⟨c1, Or.inr (Or.inr ⟨z, by omega⟩)⟩
        · exact ⟨hj, Or.inr (Or.inl ⟨hl, by omega⟩)⟩
      · rintro ⟨c1, c2 | ⟨z, w⟩ | ⟨z, w⟩⟩
        · exact Or.inl ⟨c1, Or.inl c2⟩
        · by_cases y2 : j = c
          · exact Or.inr y2
          · exact Or.inl ⟨c1, Or.inr (Or.inl ⟨z, by omega⟩)⟩
        · exact Or.inl ⟨c1, Or.inr (Or.inr ⟨z, by omega⟩)⟩
    · rw [if_neg w0, h a ha]
      congr 1
      refine bn_x fun c hc => ?_
      congr 1
      have : dnP lt i j a c = true ↔ dnP lt i (j + 1) a c = true := by
        rw [dn_i, dn_i]
        constructor
        · rintro (⟨z, w⟩ | ⟨z, w⟩)
          · exact Or.inl ⟨z, by omega⟩
          · exact Or.inr ⟨z, by omega⟩
        · rintro (⟨z, w⟩ | ⟨z, w⟩)
          · exact Or.inl ⟨z, by omega⟩
          · exact Or.inr ⟨z, by omega⟩
      cases z : dnP lt i j a c <;> cases w : dnP lt i (j + 1) a c <;> simp_all
theorem rel_f (h : relI mt lt n n 0 X) : rowC 90 (rlB mt lt) n X := fun a ha => by
  rw [h a ha]
  congr 1
  refine bn_x fun c hc => ?_
  unfold rlB
  congr 1
  have : dnP lt n 0 a c = true ↔ (lt a c || lt c a) = true := by
    rw [dn_i, Bool.or_eq_true]
    constructor
    · rintro (⟨z, _⟩ | ⟨z, _⟩)
      · exact Or.inl z
      · exact Or.inr z
    · rintro (z | z)
      · exact Or.inl ⟨z, by omega⟩
      · exact Or.inr ⟨z, by omega⟩
  cases z : dnP lt n 0 a c <;> cases w : (lt a c || lt c a) <;> simp_all
/-- rows of bits, one after another -/
def rwJ (a : Nat) (p : Nat → Nat → Bool) (n i j : Nat) (X : VV) : Prop := (∀ t, t < i → X a t = (bitsN (p t) n : Int)) ∧ X a i = (bitsN (p i) j : Int)
theorem bits_f {p : Nat → Bool} {j : Nat} (h : p j = false) : bitsN p (j + 1) = bitsN p j := if_neg (by rw [h]; decide)
theorem bits_t {p : Nat → Bool} {j : Nat} (h : p j = true) : bitsN p (j + 1) = bitsN p j ||| 2 ^ j := if_pos h
end
