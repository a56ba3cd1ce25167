/-! corners -/
section
variable {b : Bk} {k : Int} {S : Sp} {K : Kd} {p q r n ro : Nat} {s : HS}
theorem d2_0 {c : Nat} : d2 S c (S.x c) (S.y c) = 0 := by
  unfold d2
  rw [Int.sub_self, Int.sub_self]; rfl
theorem d2_nn {c : Nat} {x y : Int} : 0 ≤ d2 S c x y := by
  have h5 := (sq_b (a := S.x c - x) (M := if S.x c - x < 0 then -(S.x c - x) else S.x c - x) (by split <;> omega) (by split <;> omega)).1
  have h6 := (sq_b (a := S.y c - y) (M := if S.y c - y < 0 then -(S.y c - y) else S.y c - y) (by split <;> omega) (by split <;> omega)).1
  unfold d2; omega
theorem d2_z {c : Nat} {x y : Int} (h : d2 S c x y = 0) : S.x c = x ∧ S.y c = y := by
  have g1 : ∀ a : Int, 0 ≤ a * a := fun a => (sq_b (a := a) (M := if a < 0 then -a else a) (by split <;> omega) (by split <;> omega)).1
  have g2 : ∀ a : Int, a * a = 0 → a = 0 := fun a z => by
    rcases Int.mul_eq_zero.mp z with w | w <;> exact w
  unfold d2 at h
  have h1 := g1 (S.x c - x)
  have h2 := g1 (S.y c - y)
  have h3 := g2 (S.x c - x) (by omega)
  have h4 := g2 (S.y c - y) (by omega)
  omega
/-- one that fills a place fills its own -/
theorem st_crn {x y : Int} {c : Nat} (hsl : 0 ≤ K.l 4) (h : stO b k S K x y = (c : Int)) : crn S K c = true := by
  unfold stO at h
  by_cases z : nbO S (K.l 4) x y ≠ -1 ∧ K.l 5 ≤ S.f (nbO S (K.l 4) x y).toNat ∧ S.f (nbO S (K.l 4) x y).toNat ≤ K.h 5
  · rw [if_pos z] at h
    rw [h, Int.toNat_natCast] at z
    refine decide_eq_true ⟨z.2, ?_⟩
    rcases nb_r (S := S) (sl := K.l 4) (x := x) (y := y) with w | ⟨d, w1, w2, w3, w4⟩
    · omega
    · obtain rfl : d = c := by omega
      have hb : isB (fun s => - d2 S s x y) S.m d := by
        rcases bs_is (S := S) (x := x) (y := y) S.m with ⟨_, g⟩ | ⟨e, g1, g2⟩
        · omega
        · obtain rfl : e = d := by omega
          exact g2
      have hb2 : isB (fun s => - d2 S s (S.x d) (S.y d)) S.m d := by
        refine ⟨hb.1, fun i hi => ?_⟩
        show - d2 S i (S.x d) (S.y d) ≤ - d2 S d (S.x d) (S.y d) ∧ (i < d → - d2 S i (S.x d) (S.y d) < - d2 S d (S.x d) (S.y d))
        have n1 := d2_nn (S := S) (c := i) (x := S.x d) (y := S.y d)
        rw [d2_0]
        refine ⟨by omega, fun hid => ?_⟩
        by_cases q0 : d2 S i (S.x d) (S.y d) = 0
        · have g := d2_z q0
          have g3 := (hb.2 i hi).2 hid
          have g4 : d2 S i x y = d2 S d x y := by unfold d2; rw [g.1, g.2]
          have g3 : - d2 S i x y < - d2 S d x y := g3
          omega
        · omega
      have e := bs_eq hb2
      unfold nbO
      rw [e, Int.toNat_natCast, d2_0, if_pos]
      refine ⟨by omega, ?_⟩
      exact (sq_b (a := K.l 4) (M := K.l 4) (by omega) (by omega)).1
  · rw [if_neg z] at h
    split at h
    · omega
    · split at h <;> omega
theorem crn_st {c : Nat} (h : crn S K c = true) : stO b k S K (S.x c) (S.y c) = (c : Int) := by
  have w := of_decide_eq_true h
  exact st_f w.2 w.1
theorem crn_lt {c : Nat} (h : crn S K c = true) : c < S.m := by
  have w := (of_decide_eq_true h).2
  rcases nb_r (S := S) (sl := K.l 4) (x := S.x c) (y := S.y c) with g | ⟨d, g1, g2, _⟩ <;> omega
theorem pl_00 : plO b k S K p q r 0 0 = stO b k S K (S.x p) (S.y p) := by
  unfold plO
  congr 1 <;> simp
theorem pl_10 : plO b k S K p q r 1 0 = stO b k S K (S.x q) (S.y q) := by
  unfold plO
  congr 1 <;> simp <;> omega
theorem pl_01 : plO b k S K p q r 0 1 = stO b k S K (S.x r) (S.y r) := by
  unfold plO
  congr 1 <;> simp <;> omega
theorem bit_crn {t i j : Nat} (hsl : 0 ≤ K.l 4) (hro : K.l 0 = (ro : Int)) (hm : S.m ≤ 40) (h : hsO b k S K p q r n = some s) (hi : i < n) (hj : j < ro) (hP : plO b k S K p q r i j = stO b k S K (S.x t) (S.y t)) : s.2.2.2.2.testBit t = true ↔ crn S K t = true := by
  have I := (hs_I (j := 0) hro hm h rfl).2.2 t
  rw [I]
  constructor
  · rintro ⟨a, c, _, e⟩
    exact st_crn hsl e
  · intro z
    exact ⟨i, j, Or.inl ⟨hi, hj⟩, by rw [hP]; exact crn_st z⟩
theorem hw_hk (hsl : 0 ≤ K.l 4) (hro : K.l 0 = (ro : Int)) (hr2 : 2 ≤ ro) (hm : S.m ≤ 40) (hn : 2 ≤ n) : hwB b k S K p q r n = true ↔ hkB b k S K p q r n = true ∧ crn S K p = true ∧ crn S K q = true ∧ crn S K r = true := by
  constructor
  · intro z
    obtain ⟨s, h1, h2, h3, h4, h5⟩ := hw_i z
    refine ⟨by rw [hk_s h1]; exact decide_eq_true h2, ?_, ?_, ?_⟩
    · exact (bit_crn hsl hro hm h1 (show 0 < n by omega) (show 0 < ro by omega) pl_00).mp h3
    · exact (bit_crn hsl hro hm h1 (show 1 < n by omega) (show 0 < ro by omega) pl_10).mp h4
    · exact (bit_crn hsl hro hm h1 (show 0 < n by omega) (show 1 < ro by omega) pl_01).mp h5
  · rintro ⟨z, c1, c2, c3⟩
    obtain ⟨s, h1, h2, h3⟩ := hk_i z
    exact hw_t h1 h2 h3 ((bit_crn hsl hro hm h1 (show 0 < n by omega) (show 0 < ro by omega) pl_00).mpr c1) ((bit_crn hsl hro hm h1 (show 1 < n by omega) (show 0 < ro by omega) pl_10).mpr c2) ((bit_crn hsl hro hm h1 (show 0 < n by omega) (show 1 < ro by omega) pl_01).mpr c3)
theorem tk_0 {lo : Nat} : ∀ {n : Nat}, n < lo → tkF b k S K p q r lo n = 0
  | 0, _ => rfl
  | n + 1, h => by
    rw [tk_f (fun z => by have := z.1; omega)]
    exact tk_0 (by omega)
theorem top_tk {lo : Nat} (hsl : 0 ≤ K.l 4) (hro : K.l 0 = (ro : Int)) (hr2 : 2 ≤ ro) (hm : S.m ≤ 40) (hlo : 2 ≤ lo) (hc : crn S K p = true ∧ crn S K q = true ∧ crn S K r = true) : ∀ n, topF b k S K p q r lo n = tkF b k S K p q r lo n
  | 0 => rfl
  | n + 1 => by
    unfold topF
    by_cases w : n + 1 < lo
    · rw [if_pos w, tk_0 w]
    · rw [if_neg w]
      have h := hw_hk (b := b) (k := k) (p := p) (q := q) (r := r) (n := n + 1) hsl hro hr2 hm (by omega)
      by_cases z : hkB b k S K p q r (n + 1) = true
      · rw [if_pos (h.mpr ⟨z, hc⟩), tk_t (by omega) z]
      · rw [if_neg (fun y => z (h.mp y).1), tk_f (fun y => z y.2)]
        exact top_tk hsl hro hr2 hm hlo hc n
theorem top_no {lo : Nat} (hsl : 0 ≤ K.l 4) (hro : K.l 0 = (ro : Int)) (hr2 : 2 ≤ ro) (hm : S.m ≤ 40) (hlo : 2 ≤ lo) (hc : ¬ (crn S K p = true ∧ crn S K q = true ∧ crn S K r = true)) : ∀ n, topF b k S K p q r lo n = 0
  | 0 => rfl
  | n + 1 => by
    unfold topF
    by_cases w : n + 1 < lo
    · rw [if_pos w]
    · rw [if_neg w, if_neg (fun y => hc ((hw_hk hsl hro hr2 hm (by omega)).mp y).2)]
      exact top_no hsl hro hr2 hm hlo hc n
/-- what framed answers, by corners -/
theorem fr_tk (ko : kO K) (hm : S.m ≤ 40) : frO b k S K p q r = if (stpP S K p q ∧ aptP S K p r ∧ dotP S K p q r) ∧ crn S K p = true ∧ crn S K q = true ∧ crn S K r = true then tkF b k S K p q r (K.l 1).toNat (K.h 1).toNat else 0 := by
  obtain ⟨k0, k1, _, _, k4, _⟩ := ko
  have hro : K.l 0 = ((K.l 0).toNat : Int) := by omega
  unfold frO
  by_cases z : stpP S K p q ∧ aptP S K p r ∧ dotP S K p q r
  · rw [if_pos z]
    by_cases c : crn S K p = true ∧ crn S K q = true ∧ crn S K r = true
    · rw [if_pos ⟨z, c⟩]; exact top_tk k4.1 hro (by omega) hm (by omega) c _
    · rw [if_neg (fun y => c y.2)]; exact top_no k4.1 hro (by omega) hm (by omega) c _
  · rw [if_neg z, if_neg (fun y => z y.1)]
end
/-- of one sort only where the other is -/
theorem cnt_gap {p q : Nat → Bool} (hpq : ∀ s, p s = true → q s = true) {e : Nat} : ∀ {f : Nat}, e ≤ f → cntB q e = cntB q f → cntB p e = cntB p f
  | 0, h, _ => by rw [show e = 0 by omega]
  | f + 1, h, g => by
    by_cases w : e = f + 1
    · rw [w]
    · have m1 := cntB_mono (p := q) (m := e) (n := f) (by omega)
      by_cases z : q f = true
      · rw [cntB_t z] at g; omega
      · rw [cntB_f z] at g
        rw [cntB_f (fun y => z (hpq f y))]
        exact cnt_gap hpq (by omega) g
def thd (S : Sp) (K : Kd) (p s : Nat) : Bool := decide (crn S K s = true ∧ s ≠ p ∧ aptP S K p s)
theorem sq_abs {x y M : Int} (hM : 0 ≤ M) (h : x * x + y * y ≤ M * M) : (-M ≤ x ∧ x ≤ M) ∧ -M ≤ y ∧ y ≤ M := by
  have g1 : ∀ a : Int, 0 ≤ a * a := fun a => (sq_b (a := a) (M := if a < 0 then -a else a) (by split <;> omega) (by split <;> omega)).1
  have h1 := g1 x
  have h2 := g1 y
  refine ⟨Classical.byContradiction fun z => ?_, Classical.byContradiction fun z => ?_⟩
  · have := sq_gt (a := x) hM (by omega); omega
  · have := sq_gt (a := y) hM (by omega); omega
