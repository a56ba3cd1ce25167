/-! frameworks -/
section
variable (b : Bk) (k : Int) (S : Sp) (K : Kd) (p q r : Nat)
def vX : Int := S.x q - S.x p
def vY : Int := S.y q - S.y p
def len2 : Int := (S.x q - S.x p) * (S.x q - S.x p) + (S.y q - S.y p) * (S.y q - S.y p)
def dotO : Int := (S.x q - S.x p) * (S.x r - S.x p) + (S.y q - S.y p) * (S.y r - S.y p)
abbrev stpP : Prop := K.l 2 * K.l 2 ≤ len2 S p q ∧ len2 S p q ≤ K.h 2 * K.h 2
abbrev aptP : Prop := K.l 3 * K.l 3 ≤ len2 S p r ∧ len2 S p r ≤ K.h 3 * K.h 3
abbrev dotP : Prop := dotO S p q r * dotO S p q r ≤ K.l 4 * K.l 4 * len2 S p q
def topF (lo : Nat) : Nat → Nat
  | 0 => 0
  | n + 1 => if n + 1 < lo then 0 else if hwB b k S K p q r (n + 1) = true then n + 1 else topF lo n
def frO : Nat := if stpP S K p q ∧ aptP S K p r ∧ dotP S K p q r then topF b k S K p q r (K.l 1).toNat (K.h 1).toNat else 0
/-- what lies in the reference when n posts were found -/
def frS (n : Nat) (X : VV) : Prop := n ≠ 0 → ∃ s, hsO b k S K p q r n = some s ∧ hsV s X ∧ X 99 76 = K.l 9 * s.1 - 5 * s.2.1 - 2 * s.2.2.1 ∧ plI (plO b k S K p q r) (K.l 0).toNat n 0 X
end
section
variable {b : Bk} {k : Int} {S : Sp} {K : Kd} {p q r n lo : Nat}
theorem top_0 (h : n < lo) : topF b k S K p q r lo n = 0 := by
  cases n with
  | zero => rfl
  | succ n => unfold topF; rw [if_pos h]
theorem top_t (h : ¬ n < lo) (h2 : hwB b k S K p q r n = true) (h3 : 0 < n) : topF b k S K p q r lo n = n := by
  cases n with
  | zero => omega
  | succ n => unfold topF; rw [if_neg h, if_pos h2]
theorem top_f (h : ¬ n + 1 < lo) (h2 : ¬ hwB b k S K p q r (n + 1) = true) : topF b k S K p q r lo (n + 1) = topF b k S K p q r lo n := by
  conv => lhs; unfold topF
  rw [if_neg h, if_neg h2]
theorem len2_b (so : sO S) (hp : p < S.m) (hq : q < S.m) : 0 ≤ len2 S p q ∧ len2 S p q ≤ 498002 := by
  have wp := so.2 p hp
  have wq := so.2 q hq
  have h1 := sq_b (a := S.x q - S.x p) (M := 499) (by omega) (by omega)
  have h2 := sq_b (a := S.y q - S.y p) (M := 499) (by omega) (by omega)
  unfold len2
  omega
theorem mulb2 {i v M N : Int} (h1 : -N ≤ i) (h2 : i ≤ N) (h3 : -M ≤ v) (h4 : v ≤ M) : -(N * M) ≤ i * v ∧ i * v ≤ N * M := by
  rcases Int.le_total 0 i with w | w
  · exact mulb w h2 h3 h4
  · have := mulb (i := -i) (v := v) (M := M) (N := N) (by omega) (by omega) h3 h4
    rw [Int.neg_mul] at this
    omega
theorem dot_b (so : sO S) (hp : p < S.m) (hq : q < S.m) (hr : r < S.m) : -498002 ≤ dotO S p q r ∧ dotO S p q r ≤ 498002 := by
  have wp := so.2 p hp
  have wq := so.2 q hq
  have wr := so.2 r hr
  have h1 := mulb2 (i := S.x q - S.x p) (v := S.x r - S.x p) (M := 499) (N := 499) (by omega) (by omega) (by omega) (by omega)
  have h2 := mulb2 (i := S.y q - S.y p) (v := S.y r - S.y p) (M := 499) (N := 499) (by omega) (by omega) (by omega) (by omega)
  unfold dotO
  omega
end
