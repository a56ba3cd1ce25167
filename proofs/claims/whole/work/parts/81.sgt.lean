/-! the class's sight, step by step -/
def oX (b : Bk) (h : Nat) (t : Int) : Int := if b.dg h = 1 then tX b h t else b.hx h
def oY (b : Bk) (h : Nat) (t : Int) : Int := if b.dg h = 1 then tY b h t else b.hy h
theorem o_b {b : Bk} {h : Nat} {t : Int} (o : bO b) : (-600 ≤ oX b h t ∧ oX b h t ≤ 1099) ∧ -600 ≤ oY b h t ∧ oY b h t ≤ 1099 := by
  have h1 := tX_b (h := h) (t := t) o
  have h2 := tY_b (h := h) (t := t) o
  have h3 := o.hx h
  have h4 := o.hy h
  unfold oX oY
  split <;> omega
theorem turn_s {b : Bk} {h i : Nat} (hi : i < 3) : tX b h ((i + 1 : Nat) : Int) = 499 - tY b h (i : Int) ∧ tY b h ((i + 1 : Nat) : Int) = tX b h (i : Int) := by
  rcases (show i = 0 ∨ i = 1 ∨ i = 2 by omega) with rfl | rfl | rfl
  · exact ⟨rfl, rfl⟩
  · exact ⟨rfl, rfl⟩
  · refine ⟨?_, rfl⟩
    show b.hy h = 499 - (499 - b.hy h)
    omega
/-- seen or not, as it lies -/
def snC (b : Bk) (k : Int) (V : VV) : Prop := ∀ h, h < b.n → V 35 h = if thr b k h then 1 else 0
theorem sn_t {b : Bk} {k : Int} {V : VV} {h : Nat} (s : snC b k V) (hh : h < b.n) (q : ¬ V 35 h = 0) : thr b k h := by
  apply Classical.byContradiction
  intro z
  have := s h hh
  rw [if_neg z] at this
  exact q this
theorem sn_f {b : Bk} {k : Int} {V : VV} {h : Nat} (s : snC b k V) (hh : h < b.n) (q : V 35 h = 0) : ¬ thr b k h := by
  intro z
  have := s h hh
  rw [if_pos z] at this
  omega
/-! one pair's shifts -/
def nrW (b : Bk) (p q : Int) (x y : Nat) : Prop := abI (p - ((x : Int) - 20)) ≤ b.e ∧ abI (q - ((y : Int) - 20)) ≤ b.e
def csI (b : Bk) (V X : VV) (h : Nat) (p q : Int) (P : Nat → Nat → Prop) : Prop := ∀ x y, x < 41 → y < 41 → ((P x y ∧ nrW b p q x y ∧ V 43 (x * 41 + y) ≠ (h : Int) → X 43 (x * 41 + y) = (h : Int) ∧ X 42 (x * 41 + y) = V 42 (x * 41 + y) + 1) ∧ (¬ (P x y ∧ nrW b p q x y ∧ V 43 (x * 41 + y) ≠ (h : Int)) → X 43 (x * 41 + y) = V 43 (x * 41 + y) ∧ X 42 (x * 41 + y) = V 42 (x * 41 + y)))
section
variable {b : Bk} {V X X' : VV} {h : Nat} {p q : Int} {P P' : Nat → Nat → Prop}
theorem csI_w (hc : csI b V X h p q P) (hP : ∀ x y, x < 41 → y < 41 → nrW b p q x y → (P' x y ↔ P x y)) : csI b V X h p q P' := by
  intro x y hx hy
  have w := hc x y hx hy
  by_cases n : nrW b p q x y
  · have := hP x y hx hy n
    refine ⟨fun z => w.1 ⟨this.mp z.1, z.2⟩, fun z => w.2 (fun z2 => z ⟨this.mpr z2.1, z2.2⟩)⟩
  · exact ⟨fun z => absurd z.2.1 n, fun z => w.2 (fun z2 => n z2.2.1)⟩
theorem csI_0 (hP : ∀ x y, x < 41 → y < 41 → nrW b p q x y → ¬ P x y) : csI b V V h p q P := by
  intro x y hx hy
  exact ⟨fun z => absurd z.1 (hP x y hx hy z.2.1), fun _ => ⟨rfl, rfl⟩⟩
/-- this one was hit by the hole before -/
theorem csI_k {x0 y0 : Nat} (hx : x0 < 41) (hy : y0 < 41) (hc : csI b V X h p q P) (h0 : ¬ P x0 y0) (hq : X 43 (x0 * 41 + y0) = (h : Int)) (hP : ∀ x y, x < 41 → y < 41 → (P' x y ↔ P x y ∨ (x = x0 ∧ y = y0))) : csI b V X h p q P' := by
  intro x y hx' hy'
  have w := hc x y hx' hy'
  have hp := hP x y hx' hy'
  by_cases e : x = x0 ∧ y = y0
  · obtain ⟨rfl, rfl⟩ := e
    have w2 := w.2 (fun z => h0 z.1)
    refine ⟨fun z => absurd (w2.1.symm.trans hq) z.2.2, fun _ => w2⟩
  · refine ⟨fun z => w.1 ⟨(hp.mp z.1).resolve_right e, z.2⟩, fun z => w.2 (fun z2 => z ⟨hp.mpr (Or.inl z2.1), z2.2⟩)⟩
theorem csI_n {x0 y0 : Nat} {v : Int} (hx : x0 < 41) (hy : y0 < 41) (hc : csI b V X h p q P) (h0 : ¬ P x0 y0) (hn : nrW b p q x0 y0) (hq : ¬ X 43 (x0 * 41 + y0) = (h : Int)) (hv : v = X 42 (x0 * 41 + y0) + 1) (e : X' = uV (uV X 43 (x0 * 41 + y0) (h : Int)) 42 (x0 * 41 + y0) v) (hP : ∀ x y, x < 41 → y < 41 → (P' x y ↔ P x y ∨ (x = x0 ∧ y = y0))) : csI b V X' h p q P' := by
  intro x y hx' hy'
  have w := hc x y hx' hy'
  have hp := hP x y hx' hy'
  have e1 : X' 43 = uV X 43 (x0 * 41 + y0) (h : Int) 43 := by rw [e]; rfl
  have e2 : X' 42 = uV X 42 (x0 * 41 + y0) v 42 := by rw [e]; rfl
  rw [e1, e2, uV_at, uV_at]
  by_cases e : x = x0 ∧ y = y0
  · obtain ⟨rfl, rfl⟩ := e
    have w2 := w.2 (fun z => h0 z.1)
    rw [if_pos rfl, if_pos rfl]
    refine ⟨fun z => ⟨rfl, by rw [hv, w2.2]⟩, fun z => absurd ⟨hp.mpr (Or.inr ⟨rfl, rfl⟩), hn, fun z2 => hq (w2.1.trans z2)⟩ z⟩
  · have ne : ¬ x * 41 + y = x0 * 41 + y0 := by omega
    rw [if_neg ne, if_neg ne]
    refine ⟨fun z => w.1 ⟨(hp.mp z.1).resolve_right e, z.2⟩, fun z => w.2 (fun z2 => z ⟨hp.mpr (Or.inl z2.1), z2.2⟩)⟩
end
/-! the hits of a turn -/
section
variable (b : Bk) (k : Int) (t : Nat)
def chO (h : Nat) (X : VV) : Prop := ∀ x y, x < 41 → y < 41 → X 42 (x * 41 + y) = (cntB (hitP b k (t : Int) ((x : Int) - 20) ((y : Int) - 20)) h : Int) ∧ X 43 (x * 41 + y) < (h : Int)
def chI (h g : Nat) (X : VV) : Prop := ∀ x y, x < 41 → y < 41 → X 42 (x * 41 + y) = (cntB (hitP b k (t : Int) ((x : Int) - 20) ((y : Int) - 20)) h : Int) + (if anyB (stk b k (tX b h (t : Int) + ((x : Int) - 20)) (tY b h (t : Int) + ((y : Int) - 20))) g = true then 1 else 0) ∧ (if anyB (stk b k (tX b h (t : Int) + ((x : Int) - 20)) (tY b h (t : Int) + ((y : Int) - 20))) g = true then X 43 (x * 41 + y) = (h : Int) else X 43 (x * 41 + y) < (h : Int))
end
section
variable {b : Bk} {k : Int} {t : Nat} {X X' : VV} {h g : Nat}
theorem chO_s (hc : chO b k t h X) (hn : ¬ (b.dg h = 1 ∧ thr b k h)) : chO b k t (h + 1) X := by
  intro x y hx hy
  have w := hc x y hx hy
  rw [cntB_f (fun z => hn (hitP_iff.mp z).1)]
  exact ⟨w.1, by have := w.2; omega⟩
theorem chI_0 (hc : chO b k t h X) (e1 : X' 42 = X 42) (e2 : X' 43 = X 43) : chI b k t h 0 X' := by
  intro x y hx hy
  have w := hc x y hx hy
  rw [e1, e2]
  show _ = _ + (if false = true then 1 else 0) ∧ (if false = true then _ else _)
  rw [if_neg (by decide), if_neg (by decide)]
  exact ⟨by rw [w.1]; omega, w.2⟩
theorem chI_e (hc : chI b k t h g X) (hg : g = b.n) (hd : b.dg h = 1 ∧ thr b k h) : chO b k t (h + 1) X := by
  subst hg
  intro x y hx hy
  have w := hc x y hx hy
  by_cases q : anyB (stk b k (tX b h (t : Int) + ((x : Int) - 20)) (tY b h (t : Int) + ((y : Int) - 20))) b.n = true
  · rw [if_pos q, if_pos q] at w
    rw [cntB_t (hitP_iff.mpr ⟨hd, q⟩)]
    exact ⟨by rw [w.1]; omega, by have := w.2; omega⟩
  · rw [if_neg q, if_neg q] at w
    rw [cntB_f (fun z => q (hitP_iff.mp z).2)]
    exact ⟨by rw [w.1]; omega, by have := w.2; omega⟩
theorem chI_s (hc : chI b k t h g X) (hn : ¬ (b.dg g = 0 ∧ thr b k g)) : chI b k t h (g + 1) X := by
  intro x y hx hy
  have w := hc x y hx hy
  have e : anyB (stk b k (tX b h (t : Int) + ((x : Int) - 20)) (tY b h (t : Int) + ((y : Int) - 20))) (g + 1) = anyB (stk b k (tX b h (t : Int) + ((x : Int) - 20)) (tY b h (t : Int) + ((y : Int) - 20))) g := by
    have : stk b k (tX b h (t : Int) + ((x : Int) - 20)) (tY b h (t : Int) + ((y : Int) - 20)) g = false := decide_eq_false (fun z => hn ⟨z.1, z.2.1⟩)
    show (_ || _) = _
    rw [this, Bool.or_false]
  rw [e]
  exact w
theorem chI_n {p q : Int} (hc : chI b k t h g X) (hd : b.dg g = 0 ∧ thr b k g) (hp : p = b.hx g - tX b h (t : Int)) (hq : q = b.hy g - tY b h (t : Int)) (hs : csI b X X' h p q (fun _ _ => True)) : chI b k t h (g + 1) X' := by
  intro x y hx hy
  have w := hc x y hx hy
  have s := hs x y hx hy
  have e : anyB (stk b k (tX b h (t : Int) + ((x : Int) - 20)) (tY b h (t : Int) + ((y : Int) - 20))) (g + 1) = (anyB (stk b k (tX b h (t : Int) + ((x : Int) - 20)) (tY b h (t : Int) + ((y : Int) - 20))) g || stk b k (tX b h (t : Int) + ((x : Int) - 20)) (tY b h (t : Int) + ((y : Int) - 20)) g) := rfl
  have hk : stk b k (tX b h (t : Int) + ((x : Int) - 20)) (tY b h (t : Int) + ((y : Int) - 20)) g = true ↔ nrW b p q x y := by
    unfold stk nrW
    rw [decide_eq_true_iff]
    simp only [nr, abI]
    constructor
    · intro z
      have := z.2.2
      omega
    · intro z
      refine ⟨hd.1, hd.2, ?_⟩
      omega
  by_cases a : anyB (stk b k (tX b h (t : Int) + ((x : Int) - 20)) (tY b h (t : Int) + ((y : Int) - 20))) g = true
  · rw [if_pos a, if_pos a] at w
    rw [e, a, Bool.true_or, if_pos rfl, if_pos rfl]
    have s2 := s.2 (fun z => z.2.2 w.2)
    exact ⟨by rw [s2.2, w.1], by rw [s2.1, w.2]⟩
  · rw [if_neg a, if_neg a] at w
    have a2 : anyB (stk b k (tX b h (t : Int) + ((x : Int) - 20)) (tY b h (t : Int) + ((y : Int) - 20))) g = false := Bool.eq_false_iff.mpr a
    rw [e, a2, Bool.false_or]
    by_cases n : nrW b p q x y
    · rw [if_pos (hk.mpr n), if_pos (hk.mpr n)]
      have s1 := s.1 ⟨trivial, n, by have := w.2; omega⟩
      exact ⟨by rw [s1.2, w.1]; omega, s1.1⟩
    · have n2 : ¬ stk b k (tX b h (t : Int) + ((x : Int) - 20)) (tY b h (t : Int) + ((y : Int) - 20)) g = true := fun z => n (hk.mp z)
      rw [if_neg n2, if_neg n2]
      have s2 := s.2 (fun z => n z.2.1)
      exact ⟨by rw [s2.2, w.1], by rw [s2.1]; exact w.2⟩
end
/-! the best shift -/
def frC (b : Bk) (k : Int) (X : VV) (c : Nat) : Prop := X 34 9 = ((c / 1681 : Nat) : Int) ∧ X 34 10 = ((c / 41 % 41 : Nat) : Int) - 20 ∧ X 34 11 = ((c % 41 : Nat) : Int) - 20 ∧ X 34 12 = (hitN b k ((c / 1681 : Nat) : Int) (((c / 41 % 41 : Nat) : Int) - 20) (((c % 41 : Nat) : Int) - 20) : Int)
def bstC (b : Bk) (k : Int) (X : VV) (m : Nat) : Prop := (X 34 9 = 0 ∧ X 34 10 = 0 ∧ X 34 11 = 0 ∧ X 34 12 = 0 ∧ ∀ i, i < m → KK b k i ≤ 40) ∨ ∃ c, isB (KK b k) m c ∧ frC b k X c
theorem KK_frC {b : Bk} {k : Int} {X : VV} {c : Nat} (h : frC b k X c) : KK b k c = 41 * X 34 12 + 40 - abI (X 34 10) - abI (X 34 11) := by
  unfold KK kq
  rw [h.2.1, h.2.2.1, h.2.2.2]
theorem bstC_s {b : Bk} {k : Int} {X : VV} {m t x y : Nat} {n : Int} (hm : m = t * 1681 + x * 41 + y) (hx : x < 41) (hy : y < 41) (h : bstC b k X m) (hn : n = (hitN b k t ((x : Int) - 20) ((y : Int) - 20) : Int)) (hs : n < X 34 12 ∨ (n = X 34 12 ∧ ¬ (abI ((x : Int) - 20) + abI ((y : Int) - 20) < abI (X 34 10) + abI (X 34 11)))) : bstC b k X (m + 1) := by
  have hk : KK b k m = kq b k t x y := by rw [hm]; exact KK_at hx hy
  have hq : kq b k t x y = 41 * n + 40 - abI ((x : Int) - 20) - abI ((y : Int) - 20) := by unfold kq; rw [hn]
  have hx2 : (x : Int) < 41 := by omega
  have hy2 : (y : Int) < 41 := by omega
  rcases h with ⟨h1, h2, h3, h4, h5⟩ | ⟨c, h1, h2⟩
  · refine Or.inl ⟨h1, h2, h3, h4, fun i hi => ?_⟩
    rcases Nat.lt_or_ge i m with w | w
    · exact h5 i w
    · rw [show i = m by omega, hk, hq]
      simp only [abI] at *
      omega
  · refine Or.inr ⟨c, isB_st h1 ?_, h2⟩
    rw [hk, hq, KK_frC h2]
    have h3 := h2.2.1
    have h4 := h2.2.2.1
    have h5 : c / 41 % 41 < 41 := by omega
    have h6 : c % 41 < 41 := by omega
    simp only [abI] at *
    omega
theorem bstC_t {b : Bk} {k : Int} {X X' : VV} {m t x y : Nat} {n : Int} (hm : m = t * 1681 + x * 41 + y) (hx : x < 41) (hy : y < 41) (h : bstC b k X m) (hn : n = (hitN b k t ((x : Int) - 20) ((y : Int) - 20) : Int)) (hs : X 34 12 < n ∨ (n = X 34 12 ∧ abI ((x : Int) - 20) + abI ((y : Int) - 20) < abI (X 34 10) + abI (X 34 11))) (e1 : X' 34 9 = (t : Int)) (e2 : X' 34 10 = (x : Int) - 20) (e3 : X' 34 11 = (y : Int) - 20) (e4 : X' 34 12 = n) : bstC b k X' (m + 1) := by
  have hc := cd_t (t := t) hx hy
  have hk : KK b k m = kq b k t x y := by rw [hm]; exact KK_at hx hy
  have hq : kq b k t x y = 41 * n + 40 - abI ((x : Int) - 20) - abI ((y : Int) - 20) := by unfold kq; rw [hn]
  have hx2 : (x : Int) < 41 := by omega
  have hy2 : (y : Int) < 41 := by omega
  rw [← hm] at hc
  refine Or.inr ⟨m, ?_, ?_⟩
  · rcases h with ⟨h1, h2, h3, h4, h5⟩ | ⟨c, h1, h2⟩
    · refine ⟨by omega, fun i hi => ?_⟩
      rcases Nat.lt_or_ge i m with w | w
      · have := h5 i w
        rw [hk, hq]
        rw [h2, h3, h4] at hs
        simp only [abI] at *
        omega
      · rw [show i = m by omega]; omega
    · refine isB_up h1 ?_
      rw [hk, hq, KK_frC h2]
      have h3 := h2.2.1
      have h4 := h2.2.2.1
      have h5 : c / 41 % 41 < 41 := by omega
      have h6 : c % 41 < 41 := by omega
      simp only [abI] at *
      omega
  · unfold frC
    rw [hc.1, hc.2.1, hc.2.2, ← hn]
    exact ⟨e1, e2, e3, e4⟩
theorem bstC_e {b : Bk} {k : Int} {X : VV} (h : bstC b k X 6724) : ∃ c, isB (KK b k) 6724 c ∧ frC b k X c := by
  rcases h with ⟨h1, h2, h3, h4, h5⟩ | h
  · have q := h5 840 (by omega)
    have q0 : KK b k 840 = 41 * (hitN b k 0 0 0 : Int) + 40 := by
      show kq b k 0 20 20 = _
      unfold kq
      rfl
    have q1 : hitN b k 0 0 0 = 0 := by omega
    refine ⟨840, ⟨by omega, fun i hi => ⟨by rw [q0, q1]; exact h5 i hi, fun z => ?_⟩⟩, h1, h2, h3, ?_⟩
    · have h6 := h5 i hi
      have e : KK b k i = 41 * (hitN b k ((i / 1681 : Nat) : Int) (((i / 41 % 41 : Nat) : Int) - 20) (((i % 41 : Nat) : Int) - 20) : Int) + 40 - abI (((i / 41 % 41 : Nat) : Int) - 20) - abI (((i % 41 : Nat) : Int) - 20) := rfl
      have hz : ¬ (i / 41 % 41 = 20 ∧ i % 41 = 20) := by omega
      rw [q0, q1]
      have h7 : i / 41 % 41 < 41 := by omega
      have h8 : i % 41 < 41 := by omega
      generalize i / 41 % 41 = u at *
      generalize i % 41 = v at *
      generalize KK b k i = w at *
      simp only [abI] at *
      omega
    · rw [h4]
      show (0 : Int) = (hitN b k 0 0 0 : Int)
      rw [q1]; rfl
  · exact h
theorem bstC_x {b : Bk} {k : Int} {X X' : VV} {m : Nat} (h : bstC b k X m) (h1 : X' 34 = X 34) : bstC b k X' m := by
  unfold bstC frC at h ⊢
  rw [h1]; exact h
theorem o_e {b : Bk} {h i t : Nat} (hd : b.dg h = 1 ∨ i = 0) (hi : i = t) : tX b h (i : Int) = oX b h (t : Int) ∧ tY b h (i : Int) = oY b h (t : Int) := by
  subst hi
  unfold oX oY
  by_cases q : b.dg h = 1
  · rw [if_pos q, if_pos q]; exact ⟨rfl, rfl⟩
  · rw [if_neg q, if_neg q]
    rcases hd with hd | rfl
    · exact absurd hd q
    · exact ⟨rfl, rfl⟩
theorem o_n {b : Bk} {h i : Nat} {t : Int} (hd : b.dg h = 1 ∨ i = 0) (q : ¬ b.dg h = 1) : tX b h (i : Int) = oX b h t ∧ tY b h (i : Int) = oY b h t := by
  unfold oX oY
  rw [if_neg q, if_neg q]
  rcases hd with hd | rfl
  · exact absurd hd q
  · exact ⟨rfl, rfl⟩
theorem t_b {b : Bk} {h : Nat} {t : Int} (o : bO b) : (-600 ≤ tX b h t ∧ tX b h t ≤ 1099) ∧ -600 ≤ tY b h t ∧ tY b h t ≤ 1099 := ⟨tX_b o, tY_b o⟩
