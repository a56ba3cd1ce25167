/-! spots and kinds, apart from where they lie -/
def Sp : Type := Nat → Nat → Int
def Sp.m (S : Sp) : Nat := (S 0 0).toNat
def Sp.x (S : Sp) : Nat → Int := S 1
def Sp.y (S : Sp) : Nat → Int := S 2
def Sp.f (S : Sp) : Nat → Int := S 3
def Sp.h (S : Sp) : Nat → Int := S 4
def mkS (m : Nat) (x y f h : Nat → Int) : Sp := fun a j => if a = 0 then (m : Int) else if a = 1 then x j else if a = 2 then y j else if a = 3 then f j else h j
theorem mkS_m {m : Nat} {x y f h : Nat → Int} : (mkS m x y f h).m = m := by
  show ((m : Int)).toNat = m
  exact Int.toNat_natCast m
def sM (S : Sp) (V : VV) : Prop := V 99 49 = (S.m : Int) ∧ ∀ i, i < S.m → V 131 i = S.h i ∧ V 132 i = S.x i ∧ V 133 i = S.y i ∧ V 134 i = S.f i
def sC (S : Sp) (V : VV) : Prop := V 44 4 = (S.m : Int) ∧ ∀ i, i < S.m → V 45 i = S.h i ∧ V 46 i = S.x i ∧ V 47 i = S.y i ∧ V 48 i = S.f i
def sO (S : Sp) : Prop := S.m ≤ 40 ∧ ∀ i, i < S.m → (0 ≤ S.x i ∧ S.x i ≤ 499) ∧ (0 ≤ S.y i ∧ S.y i ≤ 499) ∧ (0 ≤ S.f i ∧ S.f i ≤ 300) ∧ (0 ≤ S.h i ∧ S.h i ≤ 39) ∧ ∀ j, j < i → S.h j < S.h i
/-- a kind: N and M of each sort -/
def Kd : Type := Nat → Nat → Int
def Kd.l (K : Kd) : Nat → Int := K 0
def Kd.h (K : Kd) : Nat → Int := K 1
def kM (K : Kd) (kd : Nat) (V : VV) : Prop := ∀ j, j < 10 → V 122 (10 * kd + j) = K.l j ∧ V 123 (10 * kd + j) = K.h j
def kC (K : Kd) (a : Nat) (V : VV) : Prop := ∀ j, j < 10 → V a j = K.l j ∧ V a (10 + j) = if spB j = true then K.h j else -1
def kO (K : Kd) : Prop := (2 ≤ K.l 0 ∧ K.l 0 ≤ 4) ∧ (2 ≤ K.l 1 ∧ K.l 1 ≤ K.h 1 ∧ K.h 1 ≤ 8) ∧ (5 ≤ K.l 2 ∧ K.l 2 ≤ K.h 2 ∧ K.h 2 ≤ 100) ∧ (5 ≤ K.l 3 ∧ K.l 3 ≤ K.h 3 ∧ K.h 3 ≤ 200) ∧ (0 ≤ K.l 4 ∧ K.l 4 ≤ 9) ∧ (0 ≤ K.l 5 ∧ K.l 5 ≤ K.h 5 ∧ K.h 5 ≤ 300) ∧ (0 ≤ K.l 6 ∧ K.l 6 ≤ 300) ∧ (0 ≤ K.l 7 ∧ K.l 7 ≤ 4) ∧ (1 ≤ K.l 8 ∧ K.l 8 ≤ 500) ∧ 1 ≤ K.l 9 ∧ K.l 9 ≤ 100
theorem sq_b {a M : Int} (h1 : -M ≤ a) (h2 : a ≤ M) : 0 ≤ a * a ∧ a * a ≤ M * M := by
  have e1 := Int.natAbs_mul_self (a := a)
  have e2 := Int.natAbs_mul_self (a := M)
  have h3 : a.natAbs ≤ M.natAbs := by omega
  have h4 := Nat.mul_le_mul h3 h3
  omega
theorem sq_gt {a s : Int} (h0 : 0 ≤ s) (h : s < a ∨ a < -s) : s * s < a * a := by
  have e1 := Int.natAbs_mul_self (a := a)
  have e2 := Int.natAbs_mul_self (a := s)
  have h3 : s.natAbs < a.natAbs := by omega
  have h4 : s.natAbs * s.natAbs < a.natAbs * a.natAbs := Nat.mul_lt_mul'' h3 h3
  omega
def d2 (S : Sp) (s : Nat) (x y : Int) : Int := (S.x s - x) * (S.x s - x) + (S.y s - y) * (S.y s - y)
theorem d2_b {S : Sp} {s : Nat} {x y : Int} (o : sO S) (hs : s < S.m) (hx : -10000 ≤ x ∧ x ≤ 10000) (hy : -10000 ≤ y ∧ y ≤ 10000) : 0 ≤ d2 S s x y ∧ d2 S s x y ≤ 242000000 := by
  have w := o.2 s hs
  have h1 := sq_b (a := S.x s - x) (M := 11000) (by omega) (by omega)
  have h2 := sq_b (a := S.y s - y) (M := 11000) (by omega) (by omega)
  unfold d2
  omega
/-- the nearest of the first n, of alike ones the lowest; -1 without -/
def bsF (S : Sp) (x y : Int) : Nat → Int
  | 0 => -1
  | n + 1 => if bsF S x y n = -1 ∨ d2 S n x y < d2 S (bsF S x y n).toNat x y then (n : Int) else bsF S x y n
theorem bs_is {S : Sp} {x y : Int} : ∀ n, (n = 0 ∧ bsF S x y n = -1) ∨ ∃ c : Nat, bsF S x y n = (c : Int) ∧ isB (fun s => - d2 S s x y) n c
  | 0 => Or.inl ⟨rfl, rfl⟩
  | n + 1 => by
    refine Or.inr ?_
    unfold bsF
    rcases bs_is (S := S) (x := x) (y := y) n with ⟨h1, h2⟩ | ⟨c, h1, h2⟩
    · rw [if_pos (Or.inl h2), h1]; exact ⟨0, rfl, isB_0⟩
    · rw [h1, Int.toNat_natCast]
      by_cases q : d2 S n x y < d2 S c x y
      · rw [if_pos (Or.inr q)]; exact ⟨n, rfl, isB_up h2 (by show - d2 S c x y < - d2 S n x y; omega)⟩
      · rw [if_neg (fun z => by rcases z with z | z <;> omega)]; exact ⟨c, rfl, isB_st h2 (by show ¬ - d2 S c x y < - d2 S n x y; omega)⟩
theorem bs_eq {S : Sp} {x y : Int} {n c : Nat} (h : isB (fun s => - d2 S s x y) n c) : bsF S x y n = (c : Int) := by
  rcases bs_is (S := S) (x := x) (y := y) n with ⟨h1, h2⟩ | ⟨d, h1, h2⟩
  · have := h.1; omega
  · rw [h1, isB_u h h2]
/-- the nearest that is not farther than sl -/
def nbO (S : Sp) (sl x y : Int) : Int := if bsF S x y S.m ≠ -1 ∧ d2 S (bsF S x y S.m).toNat x y ≤ sl * sl then bsF S x y S.m else -1
/-- what a place is -/
def stO (b : Bk) (k : Int) (S : Sp) (K : Kd) (x y : Int) : Int := if nbO S (K.l 4) x y ≠ -1 ∧ K.l 5 ≤ S.f (nbO S (K.l 4) x y).toNat ∧ S.f (nbO S (K.l 4) x y).toNat ≤ K.h 5 then nbO S (K.l 4) x y else if ¬ dugO b k x y = true then -2 else if 0 < plgO b x y ∧ K.l 5 ≤ plgO b x y then -3 else -4
theorem nb_r {S : Sp} {sl x y : Int} : nbO S sl x y = -1 ∨ ∃ c : Nat, nbO S sl x y = (c : Int) ∧ c < S.m ∧ bsF S x y S.m = (c : Int) ∧ d2 S c x y ≤ sl * sl := by
  unfold nbO
  rcases bs_is (S := S) (x := x) (y := y) S.m with ⟨h1, h2⟩ | ⟨c, h1, h2⟩
  · rw [if_neg (fun z => z.1 h2)]; exact Or.inl rfl
  · rw [h1, Int.toNat_natCast]
    by_cases q : d2 S c x y ≤ sl * sl
    · rw [if_pos ⟨by omega, q⟩]; exact Or.inr ⟨c, rfl, h2.1, rfl, q⟩
    · rw [if_neg (fun z => q z.2)]; exact Or.inl rfl
theorem st_r {b : Bk} {k : Int} {S : Sp} {K : Kd} {x y : Int} (h : S.m ≤ 40) : -4 ≤ stO b k S K x y ∧ stO b k S K x y < S.m ∧ stO b k S K x y ≠ -1 := by
  unfold stO
  rcases nb_r (S := S) (sl := K.l 4) (x := x) (y := y) with w | ⟨c, w, w2, _⟩
  · rw [if_neg (fun z => z.1 w)]
    split
    · omega
    · split <;> omega
  · split
    · omega
    · split
      · omega
      · split <;> omega
theorem dug_fd {b : Bk} {k x y : Int} (o : bO b) (h : dugO b k x y = true) : fieldP x y := by
  obtain ⟨i, h1, h2⟩ := anyB_iff.mp h
  have w := (of_decide_eq_true h2).2
  have a := o.tr (4 * i)
  have c := o.tr (4 * i + 1)
  have d := o.tr (4 * i + 2)
  have e := o.tr (4 * i + 3)
  unfold inP at w
  exact ⟨⟨by omega, by omega⟩, by omega, by omega⟩
/-! sorting by x -/
def srt (xs f : Nat → Int) (i : Nat) : Prop := (∀ k, k < i → 0 ≤ f k ∧ f k < (i : Int)) ∧ (∀ s, s < i → ∃ k, k < i ∧ f k = (s : Int)) ∧ ∀ k k', k ≤ k' → k' < i → xs (f k).toNat ≤ xs (f k').toNat
def shf (f g : Nat → Int) (a i : Nat) : Prop := (∀ k, k < a → g k = f k) ∧ ∀ k, a < k → k ≤ i → g k = f (k - 1)
theorem srt_ins {xs f g : Nat → Int} {a i : Nat} (hs : srt xs f i) (hf : shf f g a i) (ha : a ≤ i) (hg : g a = (i : Int)) (h1 : ∀ k, a ≤ k → k < i → xs i < xs (f k).toNat) (h2 : a = 0 ∨ xs (f (a - 1)).toNat ≤ xs i) : srt xs g (i + 1) := by
  obtain ⟨s1, s2, s3⟩ := hs
  have gl : ∀ k, k < a → g k = f k := hf.1
  have gh : ∀ k, a < k → k ≤ i → g k = f (k - 1) := hf.2
  refine ⟨fun k hk => ?_, fun s hs => ?_, fun k k' h3 h4 => ?_⟩
  · rcases Nat.lt_trichotomy k a with q | q | q
    · rw [gl k q]; have := s1 k (by omega); omega
    · rw [q, hg]; omega
    · rw [gh k q (by omega)]; have := s1 (k - 1) (by omega); omega
  · by_cases q : s = i
    · exact ⟨a, by omega, by rw [hg, q]⟩
    · obtain ⟨k, k1, k2⟩ := s2 s (by omega)
      rcases Nat.lt_or_ge k a with w | w
      · exact ⟨k, by omega, by rw [gl k w, k2]⟩
      · exact ⟨k + 1, by omega, by rw [gh (k + 1) (by omega) (by omega)]; exact k2⟩
  · have lo : ∀ k, k < a → xs (f k).toNat ≤ xs i := fun k hk => by
      rcases h2 with h2 | h2
      · omega
      · exact Int.le_trans (s3 k (a - 1) (by omega) (by omega)) h2
    have ti : ((i : Nat) : Int).toNat = i := Int.toNat_natCast i
    rcases Nat.lt_trichotomy k a with q | q | q
    · rcases Nat.lt_trichotomy k' a with w | w | w
      · rw [gl k q, gl k' w]; exact s3 k k' h3 (by omega)
      · rw [gl k q, w, hg, ti]; exact lo k q
      · rw [gl k q, gh k' w (by omega)]; exact s3 k (k' - 1) (by omega) (by omega)
    · rcases Nat.lt_trichotomy k' a with w | w | w
      · omega
      · rw [q, w]; exact Int.le_refl _
      · rw [q, hg, gh k' w (by omega), ti]; have := h1 (k' - 1) (by omega) (by omega); omega
    · rcases Nat.lt_trichotomy k' a with w | w | w
      · omega
      · omega
      · rw [gh k q (by omega), gh k' w (by omega)]; exact s3 (k - 1) (k' - 1) (by omega) (by omega)
theorem shf_0 {f : Nat → Int} {i : Nat} : shf f f i i := ⟨fun _ _ => rfl, fun k h1 h2 => by omega⟩
theorem shf_s {X Y Z : VV} {a i : Nat} {v : Int} (h : shf (X 50) (Y 50) (a + 1) i) (hv : v = Y 50 a) (e : Z = uV Y 50 (a + 1) v) : shf (X 50) (Z 50) a i := by
  subst e
  refine ⟨fun k hk => ?_, fun k h1 h2 => ?_⟩
  · rw [uV_at, if_neg (by omega)]; exact h.1 k (by omega)
  · rw [uV_at]
    by_cases q : k = a + 1
    · rw [if_pos q, hv, q]; exact h.1 a (by omega)
    · rw [if_neg q]; exact h.2 k (by omega) h2
theorem shf_e {X Y Z : VV} {a i : Nat} {v : Int} (h : shf (X 50) (Y 50) a i) (e : Z = uV Y 50 a v) : shf (X 50) (Z 50) a i ∧ Z 50 a = v := by
  subst e
  refine ⟨⟨fun k hk => ?_, fun k h1 h2 => ?_⟩, uV_self⟩
  · rw [uV_at, if_neg (by omega)]; exact h.1 k hk
  · rw [uV_at, if_neg (by omega)]; exact h.2 k h1 h2
/-- so many lie ahead of a place -/
def ahd (xs f : Nat → Int) (m : Nat) (g : Nat → Int) (p : Nat) : Prop := ∀ q, q < p → 0 ≤ g q ∧ g q ≤ (m : Int) ∧ ∀ k : Nat, (k : Int) < g q → xs (f k).toNat < (q : Int)
def mapC (S : Sp) (V : VV) : Prop := sC S V ∧ srt (V 46) (V 50) S.m ∧ ahd (V 46) (V 50) S.m (V 51) 500
/-! the search for the nearest -/
def nbI (S : Sp) (px py sl : Int) (f : Nat → Int) (j : Nat) (v w : Int) : Prop := (v = -1 ∧ w = sl * sl ∧ ∀ k, k < j → sl * sl < d2 S (f k).toNat px py) ∨ ∃ c : Nat, v = (c : Int) ∧ c < S.m ∧ w = d2 S c px py ∧ d2 S c px py ≤ sl * sl ∧ ∀ k, k < j → d2 S c px py < d2 S (f k).toNat px py ∨ (d2 S c px py = d2 S (f k).toNat px py ∧ c ≤ (f k).toNat)
section
variable {S : Sp} {px py sl v w : Int} {f : Nat → Int} {j c : Nat}
theorem nb_t (hn : nbI S px py sl f j v w) (hc : (f j).toNat = c) (hm : c < S.m) (hq : d2 S c px py < w ∨ (d2 S c px py = w ∧ (v = -1 ∨ (c : Int) < v))) : nbI S px py sl f (j + 1) (c : Int) (d2 S c px py) := by
  rcases hn with ⟨h1, h2, h3⟩ | ⟨a, h1, h2, h3, h4, h5⟩
  · refine Or.inr ⟨c, rfl, hm, rfl, by omega, fun k hk => ?_⟩
    rcases Nat.lt_or_ge k j with q | q
    · have := h3 k q; exact Or.inl (by omega)
    · rw [show k = j by omega, hc]; exact Or.inr ⟨rfl, Nat.le_refl _⟩
  · refine Or.inr ⟨c, rfl, hm, rfl, by omega, fun k hk => ?_⟩
    rcases Nat.lt_or_ge k j with q | q
    · have := h5 k q; omega
    · rw [show k = j by omega, hc]; exact Or.inr ⟨rfl, Nat.le_refl _⟩
theorem nb_k (hn : nbI S px py sl f j v w) (hc : (f j).toNat = c) (hq : ¬ (d2 S c px py < w ∨ (d2 S c px py = w ∧ (v = -1 ∨ (c : Int) < v)))) : nbI S px py sl f (j + 1) v w := by
  rcases hn with ⟨h1, h2, h3⟩ | ⟨a, h1, h2, h3, h4, h5⟩
  · refine Or.inl ⟨h1, h2, fun k hk => ?_⟩
    rcases Nat.lt_or_ge k j with q | q
    · exact h3 k q
    · rw [show k = j by omega, hc]; omega
  · refine Or.inr ⟨a, h1, h2, h3, h4, fun k hk => ?_⟩
    rcases Nat.lt_or_ge k j with q | q
    · exact h5 k q
    · rw [show k = j by omega, hc]; omega
theorem nb_e (hn : nbI S px py sl f j v w) (ha : ∀ s, s < S.m → (∃ k, k < j ∧ f k = (s : Int)) ∨ sl * sl < d2 S s px py) : v = nbO S sl px py := by
  unfold nbO
  rcases hn with ⟨h1, h2, h3⟩ | ⟨c, h1, h2, h3, h4, h5⟩
  · have : ∀ s, s < S.m → sl * sl < d2 S s px py := fun s hs => by
      rcases ha s hs with ⟨k, k1, k2⟩ | q
      · have := h3 k k1; rw [k2, Int.toNat_natCast] at this; exact this
      · exact q
    rw [if_neg, h1]
    rintro ⟨z1, z2⟩
    rcases bs_is (S := S) (x := px) (y := py) S.m with ⟨_, q⟩ | ⟨d, q1, q2⟩
    · exact z1 q
    · rw [q1, Int.toNat_natCast] at z2
      have := this d q2.1
      omega
  · have e : bsF S px py S.m = (c : Int) := by
      refine bs_eq ⟨h2, fun s hs => ?_⟩
      show - d2 S s px py ≤ - d2 S c px py ∧ (s < c → - d2 S s px py < - d2 S c px py)
      rcases ha s hs with ⟨k, k1, k2⟩ | q
      · have := h5 k k1; rw [k2, Int.toNat_natCast] at this; omega
      · omega
    rw [e, Int.toNat_natCast, if_pos ⟨by omega, h4⟩, h1]
end
section
variable {S : Sp} {x y sl v : Int}
theorem nb_no (hv : v = bsF S x y S.m) (h : v = -1 ∨ ¬ d2 S v.toNat x y ≤ sl * sl) : nbO S sl x y = -1 := by
  unfold nbO
  rw [← hv, if_neg]
  rintro ⟨z1, z2⟩
  rcases h with h | h
  · exact z1 h
  · exact h z2
theorem nb_ye (hv : v = bsF S x y S.m) (h1 : v ≠ -1) (h2 : d2 S v.toNat x y ≤ sl * sl) : nbO S sl x y = v := by
  unfold nbO
  rw [← hv, if_pos ⟨h1, h2⟩]
end
theorem ah_s {xs : Nat → Int} {Z Z' : VV} {m p d : Nat} (h : ahd xs (Z 50) m (Z 51) p) (hd : d ≤ m) (hk : ∀ k, k < d → xs (Z 50 k).toNat < (p : Int)) (e : Z' = uV Z 51 p (d : Int)) : ahd xs (Z' 50) m (Z' 51) (p + 1) := by
  have e1 : Z' 50 = Z 50 := by rw [e]; rfl
  intro q hq
  rw [e1, e, uV_at]
  by_cases w : q = p
  · subst w
    rw [if_pos rfl]
    exact ⟨by omega, by omega, fun k h1 => hk k (by omega)⟩
  · rw [if_neg w]; exact h q (by omega)
