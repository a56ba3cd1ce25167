/-! fences -/
def crF (S : Sp) (a b s : Nat) : Int := (S.x b - S.x a) * (S.y s - S.y a) - (S.y b - S.y a) * (S.x s - S.x a)
def bes (S : Sp) (a b s : Nat) : Bool := decide (crF S a b s * crF S a b s ≤ 4 * ((S.x b - S.x a) * (S.x b - S.x a) + (S.y b - S.y a) * (S.y b - S.y a)))
def nN (S : Sp) (L : Nat → Bool) (a b : Nat) : Nat := if L a = true ∧ L b = true ∧ ¬ (S.x a = S.x b ∧ S.y a = S.y b) then cntB (fun s => L s && bes S a b s) S.m else 0
abbrev PS : Type := Nat × Int × Int
def updP (S : Sp) (L : Nat → Bool) (st : PS) (a b : Nat) : PS := if st.1 < nN S L a b then (nN S L a b, (a : Int), (b : Int)) else st
def fB (S : Sp) (L : Nat → Bool) (a : Nat) (st : PS) : Nat → PS
  | 0 => st
  | b + 1 => if a < b then updP S L (fB S L a st b) a b else fB S L a st b
def fA (S : Sp) (L : Nat → Bool) : Nat → PS
  | 0 => (3, -1, -1)
  | a + 1 => fB S L a (fA S L a) S.m
abbrev FS : Type := Nat × (Nat → Int)
def lsO (L0 : Nat → Bool) (st : FS) (s : Nat) : Bool := L0 s && decide (st.2 s = -1)
abbrev fpA (S : Sp) (L0 : Nat → Bool) (st : FS) : PS := fA S (lsO L0 st) S.m
def stF (S : Sp) (L0 : Nat → Bool) (st : FS) : FS := if (fpA S L0 st).2.1 = -1 then st else (st.1 + 1, fun s => if (lsO L0 st s && bes S (fpA S L0 st).2.1.toNat (fpA S L0 st).2.2.toNat s) = true then (st.1 : Int) else st.2 s)
def fnS (S : Sp) (L0 : Nat → Bool) : Nat → FS
  | 0 => (0, fun _ => -1)
  | r + 1 => stF S L0 (fnS S L0 r)
theorem prb {a b M : Int} (ha : -M ≤ a ∧ a ≤ M) (hb : -M ≤ b ∧ b ≤ M) : -(M * M) ≤ a * b ∧ a * b ≤ M * M := by
  have h1 : (a * b).natAbs = a.natAbs * b.natAbs := Int.natAbs_mul a b
  have h2 : a.natAbs * b.natAbs ≤ M.natAbs * M.natAbs := Nat.mul_le_mul (by omega) (by omega)
  have h3 := Int.natAbs_mul_self (a := M)
  omega
section
variable {S : Sp} {L L0 : Nat → Bool} {a b : Nat} {st : PS}
theorem crF_b {s : Nat} (o : sO S) (ha : a < S.m) (hb : b < S.m) (hs : s < S.m) : (-499 ≤ S.x b - S.x a ∧ S.x b - S.x a ≤ 499) ∧ (-499 ≤ S.y b - S.y a ∧ S.y b - S.y a ≤ 499) ∧ (-498002 ≤ crF S a b s ∧ crF S a b s ≤ 498002) ∧ (0 ≤ crF S a b s * crF S a b s ∧ crF S a b s * crF S a b s ≤ 248005992004) ∧ (0 ≤ (S.x b - S.x a) * (S.x b - S.x a) ∧ (S.x b - S.x a) * (S.x b - S.x a) ≤ 249001) ∧ (0 ≤ (S.y b - S.y a) * (S.y b - S.y a) ∧ (S.y b - S.y a) * (S.y b - S.y a) ≤ 249001) := by
  have w1 := o.2 a ha
  have w2 := o.2 b hb
  have w3 := o.2 s hs
  have x1 : -499 ≤ S.x b - S.x a ∧ S.x b - S.x a ≤ 499 := by omega
  have y1 : -499 ≤ S.y b - S.y a ∧ S.y b - S.y a ≤ 499 := by omega
  have p1 := prb x1 (show -499 ≤ S.y s - S.y a ∧ S.y s - S.y a ≤ 499 by omega)
  have p2 := prb y1 (show -499 ≤ S.x s - S.x a ∧ S.x s - S.x a ≤ 499 by omega)
  have c1 : -498002 ≤ crF S a b s ∧ crF S a b s ≤ 498002 := by unfold crF; omega
  have q1 := sq_b c1.1 c1.2
  have q2 := sq_b x1.1 x1.2
  have q3 := sq_b y1.1 y1.2
  exact ⟨x1, y1, c1, ⟨q1.1, by omega⟩, ⟨q2.1, by omega⟩, ⟨q3.1, by omega⟩⟩
theorem fB_le : ∀ n, n ≤ a + 1 → fB S L a st n = st
  | 0, _ => rfl
  | n + 1, h => by
    show (if a < n then _ else _) = _
    rw [if_neg (by omega)]
    exact fB_le n (by omega)
theorem fB_no (h : a < b) (hn : ¬ (fB S L a st b).1 < nN S L a b) : fB S L a st (b + 1) = fB S L a st b := by
  show (if a < b then updP S L (fB S L a st b) a b else _) = _
  rw [if_pos h]
  exact if_neg hn
theorem fB_y (h : a < b) (hn : (fB S L a st b).1 < nN S L a b) : fB S L a st (b + 1) = (nN S L a b, (a : Int), (b : Int)) := by
  show (if a < b then updP S L (fB S L a st b) a b else _) = _
  rw [if_pos h]
  exact if_pos hn
theorem nN_0 (h : ¬ (L a = true ∧ L b = true ∧ ¬ (S.x a = S.x b ∧ S.y a = S.y b))) : nN S L a b = 0 := if_neg h
theorem nN_y (h : L a = true ∧ L b = true ∧ ¬ (S.x a = S.x b ∧ S.y a = S.y b)) : nN S L a b = cntB (fun s => L s && bes S a b s) S.m := if_pos h
theorem nN_le : nN S L a b ≤ S.m := by
  unfold nN
  split
  · exact cntB_le
  · exact Nat.zero_le _
def psO (S : Sp) (L : Nat → Bool) (st : PS) : Prop := st = (3, -1, -1) ∨ ∃ a b : Nat, a < S.m ∧ b < S.m ∧ 3 < nN S L a b ∧ st = (nN S L a b, (a : Int), (b : Int))
theorem psO_3 (h : psO S L st) : 3 ≤ st.1 := by
  rcases h with h | ⟨a, b, _, _, h3, h⟩
  · rw [h]; exact Nat.le_refl _
  · rw [h]; exact Nat.le_of_lt h3
theorem fB_r (h : psO S L st) (ha : a < S.m) : ∀ n, n ≤ S.m → psO S L (fB S L a st n)
  | 0, _ => h
  | n + 1, hn => by
    have h0 := fB_r h ha n (by omega)
    show psO S L (if a < n then updP S L (fB S L a st n) a n else fB S L a st n)
    by_cases q : a < n
    · rw [if_pos q]
      unfold updP
      by_cases w : (fB S L a st n).1 < nN S L a n
      · rw [if_pos w]
        have := psO_3 h0
        exact Or.inr ⟨a, n, ha, by omega, by omega, rfl⟩
      · rw [if_neg w]; exact h0
    · rw [if_neg q]; exact h0
theorem fA_r : ∀ n, n ≤ S.m → psO S L (fA S L n)
  | 0, _ => Or.inl rfl
  | n + 1, hn => fB_r (fA_r n (by omega)) (by omega) S.m (Nat.le_refl _)
theorem psO_b (h : psO S L st) : 3 ≤ st.1 ∧ (st.1 ≤ 3 ∨ st.1 ≤ S.m) ∧ (-1 ≤ st.2.1 ∧ st.2.1 < (S.m : Int)) ∧ (-1 ≤ st.2.2 ∧ st.2.2 < (S.m : Int)) ∧ (st.2.1 = -1 ↔ st.2.2 = -1) := by
  refine ⟨psO_3 h, ?_⟩
  rcases h with h | ⟨a, b, h1, h2, h3, h⟩
  · rw [h]
    exact ⟨Or.inl (Nat.le_refl _), ⟨by show -1 ≤ (-1 : Int); omega, by show (-1 : Int) < S.m; omega⟩, ⟨by show -1 ≤ (-1 : Int); omega, by show (-1 : Int) < S.m; omega⟩, Iff.rfl⟩
  · rw [h]
    refine ⟨Or.inr nN_le, ⟨?_, ?_⟩, ⟨?_, ?_⟩, ?_⟩
    · show -1 ≤ (a : Int); omega
    · show (a : Int) < S.m; omega
    · show -1 ≤ (b : Int); omega
    · show (b : Int) < S.m; omega
    · show (a : Int) = -1 ↔ (b : Int) = -1; omega
end
section
variable {S : Sp} {L0 : Nat → Bool} {st : FS} {s : Nat}
theorem stF_no (h : (fpA S L0 st).2.1 = -1) : stF S L0 st = st := if_pos h
theorem stF_y (h : (fpA S L0 st).2.1 ≠ -1) : stF S L0 st = (st.1 + 1, fun s => if (lsO L0 st s && bes S (fpA S L0 st).2.1.toNat (fpA S L0 st).2.2.toNat s) = true then (st.1 : Int) else st.2 s) := if_neg h
theorem lsO_y (h : (fpA S L0 st).2.1 ≠ -1) : lsO L0 (stF S L0 st) s = (lsO L0 st s && !(lsO L0 st s && bes S (fpA S L0 st).2.1.toNat (fpA S L0 st).2.2.toNat s)) := by
  rw [stF_y h]
  show (L0 s && decide ((if (lsO L0 st s && bes S (fpA S L0 st).2.1.toNat (fpA S L0 st).2.2.toNat s) = true then (st.1 : Int) else st.2 s) = -1)) = _
  by_cases q : (lsO L0 st s && bes S (fpA S L0 st).2.1.toNat (fpA S L0 st).2.2.toNat s) = true
  · rw [if_pos q, q, decide_eq_false (by omega), Bool.and_false, Bool.not_true, Bool.and_false]
  · rw [if_neg q, Bool.eq_false_iff.mpr q, Bool.not_false, Bool.and_true]
    rfl
theorem cnt_pos {p : Nat → Bool} {n : Nat} (h : 0 < cntB p n) (q : Nat → Bool) (e : ∀ i, i < n → q i = true → p i = false) (r : Nat → Bool) (er : ∀ i, i < n → r i = (p i || q i)) : cntB q n < cntB r n := by
  rw [cntB_congr er, cnt_or (p := p) (q := q) n (fun i hi hp => by
    cases z : q i with
    | false => rfl
    | true => rw [e i hi z] at hp; cases hp)]
  omega
theorem stF_lt (h : (fpA S L0 st).2.1 ≠ -1) : cntB (lsO L0 (stF S L0 st)) S.m < cntB (lsO L0 st) S.m := by
  rcases fA_r (S := S) (L := lsO L0 st) S.m (Nat.le_refl _) with q | ⟨a, b, h1, h2, h3, h4⟩
  · exact absurd (show (fpA S L0 st).2.1 = -1 by unfold fpA; rw [q]) h
  · have e1 : (fpA S L0 st).2.1.toNat = a := by unfold fpA; rw [h4]; exact Int.toNat_natCast a
    have e2 : (fpA S L0 st).2.2.toNat = b := by unfold fpA; rw [h4]; exact Int.toNat_natCast b
    have hp : 0 < cntB (fun s => lsO L0 st s && bes S a b s) S.m := by
      unfold nN at h3
      split at h3
      · omega
      · omega
    refine cnt_pos hp _ (fun i _ hi => ?_) _ (fun i _ => ?_)
    · rw [lsO_y h, e1, e2, Bool.and_eq_true, Bool.not_eq_true'] at hi
      exact hi.2
    · rw [lsO_y h, e1, e2]
      cases lsO L0 st i <;> cases bes S a b i <;> rfl
theorem fn_st {r : Nat} (h : (fpA S L0 (fnS S L0 r)).2.1 = -1) : ∀ d, fnS S L0 (r + d) = fnS S L0 r
  | 0 => rfl
  | d + 1 => by
    show stF S L0 (fnS S L0 (r + d)) = _
    rw [fn_st h d, stF_no h]
theorem fn_40 {r : Nat} (h : (fpA S L0 (fnS S L0 r)).2.1 = -1) (hr : r ≤ 40) : fnS S L0 40 = fnS S L0 r := by
  have := fn_st h (40 - r)
  rw [show r + (40 - r) = 40 by omega] at this
  exact this
theorem fn_le : ∀ r, (fnS S L0 r).1 ≤ r
  | 0 => Nat.le_refl _
  | r + 1 => by
    have h := fn_le r
    show (stF S L0 (fnS S L0 r)).1 ≤ r + 1
    by_cases q : (fpA S L0 (fnS S L0 r)).2.1 = -1
    · rw [stF_no q]; omega
    · rw [stF_y q]
      show (fnS S L0 r).1 + 1 ≤ r + 1
      omega
theorem fn_b : ∀ r s, -1 ≤ (fnS S L0 r).2 s ∧ (fnS S L0 r).2 s ≤ (r : Int)
  | 0, s => ⟨Int.le_refl _, by show (-1 : Int) ≤ 0; omega⟩
  | r + 1, s => by
    have h := fn_b r s
    have hl := fn_le (S := S) (L0 := L0) r
    show -1 ≤ (stF S L0 (fnS S L0 r)).2 s ∧ (stF S L0 (fnS S L0 r)).2 s ≤ ((r + 1 : Nat) : Int)
    by_cases q : (fpA S L0 (fnS S L0 r)).2.1 = -1
    · rw [stF_no q]; omega
    · rw [stF_y q]
      show -1 ≤ (if _ then ((fnS S L0 r).1 : Int) else (fnS S L0 r).2 s) ∧ (if _ then ((fnS S L0 r).1 : Int) else (fnS S L0 r).2 s) ≤ ((r + 1 : Nat) : Int)
      split <;> omega
end
/-- rows of bits without others -/
theorem bx_not {p : Nat → Bool} {m b : Nat} : bitsN p m ^^^ (bitsN p m &&& b) = bitsN (fun s => p s && !(b.testBit s)) m := by
  refine bn_e fun j => ?_
  have := bn_t (p := p) (n := m) (j := j)
  rw [Nat.testBit_xor, Nat.testBit_and, Bool.and_eq_true, ← and_assoc, ← this]
  cases (bitsN p m).testBit j <;> cases b.testBit j <;> decide
def lz0 (l : Nat → Nat → Int) (ch N s : Nat) : Bool := !(anyB (fun h => ch.testBit h && (bL l h).testBit s) N)
theorem lz_s {l : Nat → Nat → Int} {ch N s : Nat} : lz0 l ch (N + 1) s = (lz0 l ch N s && !(ch.testBit N && (bL l N).testBit s)) := by
  show (!(anyB (fun h => ch.testBit h && (bL l h).testBit s) N || (ch.testBit N && (bL l N).testBit s))) = _
  rw [Bool.not_or]; rfl
theorem bits_40 {p : Nat → Bool} {m : Nat} (h : m ≤ 40) : bitsN p m < 2 ^ 40 := Nat.lt_of_lt_of_le bn_lt (Nat.pow_le_pow_right (by decide) h)
theorem bt_e {p : Nat → Bool} {m s : Nat} (h : s < m) : (bitsN p m).testBit s = p s := by
  have := bn_t (p := p) (n := m) (j := s)
  cases z : (bitsN p m).testBit s <;> cases w : p s <;> simp_all
theorem d2_eq0 {S : Sp} {a b : Nat} : d2 S a (S.x b) (S.y b) = 0 ↔ S.x a = S.x b ∧ S.y a = S.y b := by
  unfold d2
  have h1 := sq_b (a := S.x a - S.x b) (M := (S.x a - S.x b).natAbs) (by omega) (by omega)
  have h2 := sq_b (a := S.y a - S.y b) (M := (S.y a - S.y b).natAbs) (by omega) (by omega)
  constructor
  · intro h
    have e1 : (S.x a - S.x b) * (S.x a - S.x b) = 0 := by omega
    have e2 : (S.y a - S.y b) * (S.y a - S.y b) = 0 := by omega
    have f1 := Int.mul_eq_zero.mp e1
    have f2 := Int.mul_eq_zero.mp e2
    omega
  · rintro ⟨h3, h4⟩
    rw [h3, h4, Int.sub_self, Int.sub_self]; rfl
/-- where fences lie: in the class, in the reference -/
def fnC (S : Sp) (L0 : Nat → Bool) (X : VV) : Prop := X 30 12 = ((fnS S L0 40).1 : Int) ∧ ∀ s, s < S.m → X 33 (S.h s).toNat = (fnS S L0 40).2 s
def fnM (S : Sp) (L0 : Nat → Bool) (X : VV) : Prop := X 99 97 = ((fnS S L0 40).1 : Int) ∧ ∀ s, s < S.m → X 160 s = (fnS S L0 40).2 s
theorem h_inj {S : Sp} {s t : Nat} (o : sO S) (hs : s < S.m) (ht : t < S.m) (e : (S.h s).toNat = (S.h t).toNat) : s = t := by
  have w1 := o.2 s hs
  have w2 := o.2 t ht
  rcases Nat.lt_trichotomy s t with q | q | q
  · have := w2.2.2.2.2 s q; omega
  · exact q
  · have := w1.2.2.2.2 t q; omega
theorem nN_ct {S : Sp} {L : Nat → Bool} {a b : Nat} (ha : L a = true) (hb : L b = true) : (if S.x a = S.x b ∧ S.y a = S.y b then 0 else (cntB (fun s => L s && bes S a b s) S.m : Int)) = (nN S L a b : Int) := by
  by_cases q : S.x a = S.x b ∧ S.y a = S.y b
  · rw [if_pos q, nN_0 (fun z => z.2.2 q)]; rfl
  · rw [if_neg q, nN_y ⟨ha, hb, q⟩]
theorem up_all2 {p : Nat → Prop} {m s : Nat} (h : ∀ x, x < s → x < m → p x) (hs : s < m → p s) : ∀ x, x < s + 1 → x < m → p x := fun x h1 h2 => by
  rcases Nat.lt_or_ge x s with q | q
  · exact h x q h2
  · rw [show x = s by omega] at h2 ⊢; exact hs h2
theorem sC_c {S : Sp} {V V' : VV} {A : List (Nat × Nat)} {F : List (Nat × Nat × Nat)} (h : sC S V) (f : chg A F V V') (ok : (offC A F 44 && (offC A F 45 && (offC A F 46 && (offC A F 47 && offC A F 48)))) = true) : sC S V' := by
  rw [Bool.and_eq_true, Bool.and_eq_true, Bool.and_eq_true, Bool.and_eq_true] at ok
  unfold sC
  rw [chg_k f ok.1, chg_k f ok.2.1, chg_k f ok.2.2.1, chg_k f ok.2.2.2.1, chg_k f ok.2.2.2.2]
  exact h
