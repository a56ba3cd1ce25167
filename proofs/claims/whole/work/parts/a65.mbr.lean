/-! the class's members: storing them, and whose member a hole is of -/
theorem srf_86 : ∀ i, srf 86 i = none := by
  intro i
  unfold srf
  have h : refL.find? (fun q => q.1 == 86 && q.2.1 == i) = none := by
    rw [List.find?_eq_none]
    intro q hq
    have : ∀ q ∈ refL, ¬ q.1 = 86 := by decide +kernel
    have h2 := this q hq
    simp [h2]
  rw [h]; rfl
theorem fin_86 {R : RR} {i : Nat} {x : Option Nat} (hF : FinR R) : FinR (uR R 86 i x) := by
  intro a k b h
  unfold uR
  rw [if_neg]
  · exact hF a k b h
  · rintro ⟨rfl, rfl⟩
    rw [srf_86] at h; cases h
section
variable {G : GG} {M : Mth} {Rm : Room} {n0 pc pn : Nat} {Z : List Frame → Array Value → State → State → Prop} {ls : List (Nat × AV)} {st : List AV} {V : VV} {R : RR}
theorem F_aast86 {i : Int} {b : Nat} (h : dI M pc .aastore pn) (hF : FinR R) (hi : 0 ≤ i ∧ i < 13) (hb : 60 ≤ b ∧ b ≤ 84) (k : ∀ R', R' = uR R 86 i.toNat (some b) → FinR R' → TT G M Rm n0 Z 162 pn ls st V R') : TT G M Rm n0 Z 162 pc ls (vr b :: vi i :: vr 86 :: st) V R := T_aast (n := 13) h rfl (by decide) hi (lay_h hb) (by omega) (k _ rfl (fin_86 hF))
end
def frM (R R' : RR) : Prop := ∀ a i, a ≠ 86 → R' a i = R a i
theorem frM_r {R : RR} : frM R R := fun _ _ _ => rfl
theorem frM_u {R Q T : RR} {j : Nat} {x : Option Nat} (h : frM R Q) (e : T = uR Q 86 j x) : frM R T := by
  subst e
  intro a i h1
  unfold uR
  rw [if_neg (fun z => h1 z.1)]
  exact h a i h1
theorem rwI_m {R Q : RR} {ρ : Nat → Nat} (h : rwI R ρ) (f : frM R Q) : rwI Q ρ := ⟨fun i hi => by rw [f 57 i (by decide)]; exact h.1 i hi, h.2⟩
def PQM (A : List (Nat × Nat)) (F : List (Nat × Nat × Nat)) (V : VV) (R : RR) (P : Option AV → VV → RR → Prop) : Option AV → VV → RR → Prop := fun r V' R' => FinR R' ∧ frM R R' ∧ Bd V' ∧ chg A F V V' ∧ P r V' R'
/-- the member that a house is, or -1 -/
def mbI (ch N i : Nat) : Int := if i < N ∧ ch.testBit i = true then (cntB (fun x => ch.testBit x) i : Int) else -1
def mmR (ρ : Nat → Nat) (ch N n : Nat) (R : RR) : Prop := ∀ t, t < n → R 86 t = some (ρ (mbr ch N t))
section
variable {ch N i : Nat} {ρ : Nat → Nat}
theorem mbI_0 : mbI ch 0 i = -1 := if_neg (fun z => absurd z.1 (Nat.not_lt_zero _))
theorem mbI_f {h : Nat} (hb : ¬ ch.testBit h = true) : mbI ch (h + 1) i = mbI ch h i := by
  unfold mbI
  by_cases q : i < h ∧ ch.testBit i = true
  · rw [if_pos q, if_pos ⟨by omega, q.2⟩]
  · rw [if_neg q, if_neg]
    rintro ⟨a, c⟩
    by_cases w : i = h
    · subst w; exact hb c
    · exact q ⟨by omega, c⟩
theorem mbI_t {h : Nat} (hb : ch.testBit h = true) : mbI ch (h + 1) i = if i = h then (cntB (fun x => ch.testBit x) h : Int) else mbI ch h i := by
  unfold mbI
  by_cases w : i = h
  · subst w; rw [if_pos rfl, if_pos ⟨by omega, hb⟩]
  · rw [if_neg w]
    by_cases q : i < h ∧ ch.testBit i = true
    · rw [if_pos q, if_pos ⟨by omega, q.2⟩]
    · rw [if_neg q, if_neg (fun z => q ⟨by omega, z.2⟩)]
theorem mb_r {X X' : VV} {h : Nat} {x : Int} (hb : ch.testBit h = true) (hX : ∀ i, i < 24 → X 87 i = mbI ch h i) (e : X' = uV X 87 h x) (hx : x = (cntB (fun x => ch.testBit x) h : Int)) : ∀ i, i < 24 → X' 87 i = mbI ch (h + 1) i := fun i hi => by
  rw [e, uV_at, mbI_t hb]
  by_cases w : i = h
  · rw [if_pos w, if_pos w, hx]
  · rw [if_neg w, if_neg w]; exact hX i hi
theorem mm_u {Q T : RR} {h : Nat} (hh : h < N) (hb : ch.testBit h = true) (hQ : mmR ρ ch N (cntB (fun x => ch.testBit x) h) Q) (e : T = uR Q 86 (cntB (fun x => ch.testBit x) h) (some (ρ h))) : mmR ρ ch N (cntB (fun x => ch.testBit x) (h + 1)) T := by
  intro t ht
  rw [cntB_t (p := fun x => ch.testBit x) (n := h) hb] at ht
  subst e
  unfold uR
  by_cases w : t = cntB (fun x => ch.testBit x) h
  · rw [if_pos ⟨rfl, w⟩, w]
    exact congrArg (fun z => some (ρ z)) (nth_cnt (p := fun x => ch.testBit x) (n := N) hh hb).symm
  · rw [if_neg (fun z => w z.2)]
    exact hQ t (by omega)
theorem chb_lt {n : Nat} (h : i < n) (hb : ch.testBit i = true) : cntB (fun x => ch.testBit x) i < cntB (fun x => ch.testBit x) n := by
  have h1 := cntB_mono (p := fun x => ch.testBit x) (m := i + 1) (n := n) (by omega)
  rw [cntB_t (p := fun x => ch.testBit x) (n := i) hb] at h1
  omega
end
/-- rows of bits by another -/
theorem bn_x {p q : Nat → Bool} : ∀ {n : Nat}, (∀ i, i < n → p i = q i) → bitsN p n = bitsN q n
  | 0, _ => rfl
  | n + 1, h => by
    show (if p n = true then bitsN p n ||| 2 ^ n else bitsN p n) = (if q n = true then bitsN q n ||| 2 ^ n else bitsN q n)
    rw [bn_x (fun i hi => h i (by omega)), h n (by omega)]
theorem bn_e {p : Nat → Bool} {n x : Nat} (h : ∀ j, x.testBit j = true ↔ j < n ∧ p j = true) : x = bitsN p n := by
  apply Nat.eq_of_testBit_eq
  intro j
  have := (h j).trans bn_t.symm
  cases z : x.testBit j <;> cases w : (bitsN p n).testBit j <;> simp_all
theorem bn_13 {p : Nat → Bool} {n : Nat} (hn : n ≤ 13) : bitsN p n < 8192 := Nat.lt_of_lt_of_le bn_lt (Nat.pow_le_pow_right (n := 2) (by decide) hn)
theorem or_13 {x j : Nat} (hx : x < 8192) (hj : j < 13) : iorZ (x : Int) (ishlZ 1 (j : Int)) = ((x ||| 2 ^ j : Nat) : Int) ∧ x ||| 2 ^ j < 8192 := by
  have h1 : 2 ^ j < 8192 := Nat.pow_lt_pow_right (a := 2) (by decide) hj
  refine ⟨?_, Nat.or_lt_two_pow (n := 13) hx h1⟩
  rw [show ishlZ 1 (j : Int) = ((2 ^ j : Nat) : Int) from by rw [show (1 : Int) = ((1 : Nat) : Int) from rfl, ishl_n (by omega) (by rw [Nat.one_mul]; omega), Nat.one_mul], ior_n (by omega) (by omega)]
