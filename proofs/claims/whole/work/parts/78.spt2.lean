/-! the reference's spots, step by step -/
theorem uV_at {V : VV} {c j i : Nat} {x : Int} : uV V c j x c i = if i = j then x else V c i := by
  unfold uV
  by_cases q : i = j
  · rw [if_pos ⟨rfl, q⟩, if_pos q]
  · rw [if_neg (fun z => q z.2), if_neg q]
theorem uV_same {V : VV} {c j : Nat} {x : Int} (h : V c j = x) : uV V c j x = V := by
  funext k i
  unfold uV
  by_cases q : k = c ∧ i = j
  · rw [if_pos q, q.1, q.2, h]
  · rw [if_neg q]
theorem row_p {X X' : VV} {c s : Nat} {f : Nat → Int} {v : Int} (e : X' c = uV X c s v c) (hv : v = f s) (hX : ∀ i, i < s → X c i = f i) : ∀ i, i < s + 1 → X' c i = f i := by
  intro i hi
  rw [e, uV_at]
  by_cases q : i = s
  · rw [if_pos q, q, hv]
  · rw [if_neg q]; exact hX i (by omega)
section
variable (b : Bk) (k : Int) (c : Nat)
def soO (h : Nat) : Int := if owO b k c h = -1 then -1 else (cntB (isSp b k c) (owO b k c h).toNat : Int)
/-- spots as they lie in the reference -/
def spM (X : VV) : Prop := frV b k X c ∧ X 99 49 = (nSp b k c : Int) ∧ (∀ i, i < b.n → X 128 i = fdX b c i ∧ X 129 i = fdY b c i) ∧ (∀ i, i < b.n → X 130 i = soO b k c i) ∧ ∀ i, i < nSp b k c → X 131 i = (shO b k c i : Int) ∧ X 132 i = fdX b c (shO b k c i) ∧ X 133 i = fdY b c (shO b k c i) ∧ X 134 i = fulO b k c (shO b k c i)
def S12 (h : Nat) (X : VV) : Prop := frV b k X c ∧ X 99 49 = 0 ∧ (∀ i, i < h → X 130 i = -1) ∧ ∀ i, i < b.n → X 128 i = (if i < h then fdX b c i else b.hx i) ∧ X 129 i = (if i < h then fdY b c i else b.hy i)
def S85 (h : Nat) (X : VV) : Prop := frV b k X c ∧ X 99 49 = (cntB (isSp b k c) h : Int) ∧ (∀ i, i < b.n → X 128 i = fdX b c i ∧ X 129 i = fdY b c i) ∧ (∀ i, i < b.n → X 130 i = if i < h ∧ isSp b k c i = true then (cntB (isSp b k c) i : Int) else -1) ∧ ∀ i, i < cntB (isSp b k c) h → X 131 i = (shO b k c i : Int) ∧ X 132 i = fdX b c (shO b k c i) ∧ X 133 i = fdY b c (shO b k c i) ∧ X 134 i = depO b k (shO b k c i)
def S236 (h : Nat) (X : VV) : Prop := frV b k X c ∧ X 99 49 = (nSp b k c : Int) ∧ (∀ i, i < b.n → X 128 i = fdX b c i ∧ X 129 i = fdY b c i) ∧ (∀ i, i < b.n → X 130 i = if i < h then soO b k c i else if isSp b k c i = true then (cntB (isSp b k c) i : Int) else -1) ∧ (∀ i, i < nSp b k c → X 131 i = (shO b k c i : Int) ∧ X 132 i = fdX b c (shO b k c i) ∧ X 133 i = fdY b c (shO b k c i)) ∧ ∀ i, i < nSp b k c → (∀ g, g < b.n → owO b k c g = (shO b k c i : Int) → (isSp b k c g = true ∨ g < h) → depO b k g ≤ X 134 i) ∧ ∃ g, g < b.n ∧ owO b k c g = (shO b k c i : Int) ∧ X 134 i = depO b k g
def S403 (s : Nat) (X : VV) : Prop := frV b k X c ∧ X 99 49 = (nSp b k c : Int) ∧ (∀ i, i < b.n → X 128 i = fdX b c i ∧ X 129 i = fdY b c i) ∧ (∀ i, i < b.n → X 130 i = soO b k c i) ∧ (∀ i, i < nSp b k c → X 131 i = (shO b k c i : Int) ∧ X 132 i = fdX b c (shO b k c i) ∧ X 133 i = fdY b c (shO b k c i)) ∧ ∀ i, i < nSp b k c → X 134 i = if i < s then fulO b k c (shO b k c i) else mxD b k c (shO b k c i) b.n
end
section
variable {b : Bk} {k : Int} {c : Nat} {X X' : VV} {h : Nat}
theorem S12_s (hh : h < b.n) (hL : S12 b k c h X) (e1 : X' 99 = X 99) (e2 : X' 130 = uV X 130 h (-1) 130) (e3 : X' 128 = uV X 128 h (fdX b c h) 128) (e4 : X' 129 = uV X 129 h (fdY b c h) 129) : S12 b k c (h + 1) X' := by
  obtain ⟨h1, h2, h3, h4⟩ := hL
  unfold S12 frV
  rw [e1]
  refine ⟨h1, h2, row_p (f := fun _ => -1) e2 rfl h3, fun i hi => ?_⟩
  rw [e3, e4, uV_at, uV_at]
  by_cases q : i = h
  · rw [if_pos q, if_pos q, if_pos (by omega), if_pos (by omega), q]; exact ⟨rfl, rfl⟩
  · rw [if_neg q, if_neg q]
    have := h4 i hi
    by_cases w : i < h
    · rw [if_pos w, if_pos w] at this
      rw [if_pos (by omega), if_pos (by omega)]; exact this
    · rw [if_neg w, if_neg w] at this
      rw [if_neg (by omega), if_neg (by omega)]; exact this
theorem S12_e (hh : ¬ h < b.n) (hL : S12 b k c h X) : S85 b k c 0 X := by
  obtain ⟨h1, h2, h3, h4⟩ := hL
  refine ⟨h1, h2, fun i hi => ?_, fun i hi => ?_, fun i hi => absurd hi (Nat.not_lt_zero _)⟩
  · have := h4 i hi
    rw [if_pos (by omega), if_pos (by omega)] at this
    exact this
  · rw [if_neg (fun z => by have := z.1; omega)]; exact h3 i (by omega)
theorem S85_s (hL : S85 b k c h X) (hp : ¬ isSp b k c h = true) : S85 b k c (h + 1) X := by
  obtain ⟨h1, h2, h3, h4, h5⟩ := hL
  unfold S85
  rw [cntB_f hp]
  refine ⟨h1, h2, h3, fun i hi => ?_, h5⟩
  rw [h4 i hi]
  by_cases q : i = h
  · subst q
    rw [if_neg (fun z => hp z.2), if_neg (fun z => hp z.2)]
  · by_cases w : i < h ∧ isSp b k c i = true
    · rw [if_pos w, if_pos ⟨by omega, w.2⟩]
    · rw [if_neg w, if_neg (fun z => w ⟨by omega, z.2⟩)]
theorem S85_a {v : Int} (hh : h < b.n) (hL : S85 b k c h X) (hp : isSp b k c h = true) (e0 : X' 99 = uV X 99 49 v 99) (hv : v = X 99 49 + 1) (e1 : X' 128 = X 128) (e2 : X' 129 = X 129) (e3 : X' 130 = uV X 130 h (X 99 49) 130) (e4 : X' 131 = uV X 131 (X 99 49).toNat h 131) (e5 : X' 132 = uV X 132 (X 99 49).toNat (X 128 h) 132) (e6 : X' 133 = uV X 133 (X 99 49).toNat (X 129 h) 133) (e7 : X' 134 = uV X 134 (X 99 49).toNat (depO b k h) 134) : S85 b k c (h + 1) X' := by
  obtain ⟨h1, h2, h3, h4, h5⟩ := hL
  have hs : shO b k c (cntB (isSp b k c) h) = h := nth_cnt hh hp
  rw [h2, Int.toNat_natCast] at e4 e5 e6 e7
  have g4 := row_p (f := fun i => (shO b k c i : Int)) e4 (by rw [hs]) (fun i hi => (h5 i hi).1)
  have g5 := row_p (f := fun i => fdX b c (shO b k c i)) e5 (by rw [hs]; exact (h3 h hh).1) (fun i hi => (h5 i hi).2.1)
  have g6 := row_p (f := fun i => fdY b c (shO b k c i)) e6 (by rw [hs]; exact (h3 h hh).2) (fun i hi => (h5 i hi).2.2.1)
  have g7 := row_p (f := fun i => depO b k (shO b k c i)) e7 (by rw [hs]) (fun i hi => (h5 i hi).2.2.2)
  unfold S85 frV
  rw [cntB_t hp, e0, e1, e2, e3]
  refine ⟨h1, ?_, h3, fun i hi => ?_, fun i hi => ⟨g4 i hi, g5 i hi, g6 i hi, g7 i hi⟩⟩
  · rw [uV_at, if_pos rfl, hv, h2]; rfl
  · rw [uV_at, h2]
    by_cases q : i = h
    · subst q
      rw [if_pos rfl, if_pos ⟨by omega, hp⟩]
    · rw [if_neg q, h4 i hi]
      by_cases w : i < h ∧ isSp b k c i = true
      · rw [if_pos w, if_pos ⟨by omega, w.2⟩]
      · rw [if_neg w, if_neg (fun z => w ⟨by omega, z.2⟩)]
theorem S85_e (hh : ¬ h < b.n) (hn : h ≤ b.n) (hL : S85 b k c h X) : S236 b k c 0 X := by
  obtain rfl : h = b.n := by omega
  obtain ⟨h1, h2, h3, h4, h5⟩ := hL
  refine ⟨h1, h2, h3, fun i hi => ?_, fun i hi => ⟨(h5 i hi).1, (h5 i hi).2.1, (h5 i hi).2.2.1⟩, fun i hi => ⟨fun g hg e z => ?_, ?_⟩⟩
  · rw [h4 i hi, if_neg (Nat.not_lt_zero _)]
    by_cases w : isSp b k c i = true
    · rw [if_pos ⟨hi, w⟩, if_pos w]
    · rw [if_neg (fun z => w z.2), if_neg w]
  · rcases z with z | z
    · rw [ow_sp z] at e
      rw [(h5 i hi).2.2.2, show shO b k c i = g by omega]
      exact Int.le_refl _
    · omega
  · have := nth_ok hi
    exact ⟨shO b k c i, this.1, ow_sp this.2.1, (h5 i hi).2.2.2⟩
/-- a hole that is a spot, or is none for want of being there: nothing to do -/
theorem S236_s (hh : h < b.n) (hL : S236 b k c h X) (hp : isSp b k c h = true ∨ owO b k c h = -1) : S236 b k c (h + 1) X := by
  obtain ⟨h1, h2, h3, h4, h5, h6⟩ := hL
  refine ⟨h1, h2, h3, fun i hi => ?_, h5, fun i hi => ⟨fun g hg e z => ?_, (h6 i hi).2⟩⟩
  · rw [h4 i hi]
    by_cases q : i = h
    · subst q
      rw [if_neg (show ¬ i < i by omega), if_pos (show i < i + 1 by omega)]
      unfold soO
      by_cases w : isSp b k c i = true
      · rw [if_pos w, ow_sp w, if_neg (by omega), Int.toNat_natCast]
      · rw [if_neg w]
        rcases hp with hp | hp
        · exact absurd hp w
        · rw [if_pos hp]
    · by_cases w : i < h
      · rw [if_pos w, if_pos (show i < h + 1 by omega)]
      · rw [if_neg w, if_neg (show ¬ i < h + 1 by omega)]
  · by_cases q : g = h
    · subst q
      rcases hp with hp | hp
      · exact (h6 i hi).1 g hg e (Or.inl hp)
      · omega
    · refine (h6 i hi).1 g hg e ?_
      rcases z with z | z
      · exact Or.inl z
      · exact Or.inr (by omega)
/-- a hole of the other digger's spot i -/
theorem S236_a {i : Nat} {w : Int} (hh : h < b.n) (hL : S236 b k c h X) (hp : ¬ isSp b k c h = true) (hi : i < nSp b k c) (ho : owO b k c h = (shO b k c i : Int)) (hw : w = if X 134 i < depO b k h then depO b k h else X 134 i) (e0 : X' 99 = X 99) (e1 : X' 128 = X 128) (e2 : X' 129 = X 129) (e3 : X' 130 = uV X 130 h (i : Int) 130) (e4 : X' 131 = X 131) (e5 : X' 132 = X 132) (e6 : X' 133 = X 133) (e7 : X' 134 = uV X 134 i w 134) : S236 b k c (h + 1) X' := by
  obtain ⟨h1, h2, h3, h4, h5, h6⟩ := hL
  have hn := nth_ok (p := isSp b k c) (n := b.n) hi
  unfold S236 frV
  rw [e0, e1, e2, e3, e4, e5, e6, e7]
  refine ⟨h1, h2, h3, fun j hj => ?_, h5, fun j hj => ?_⟩
  · rw [uV_at]
    by_cases q : j = h
    · subst q
      rw [if_pos rfl, if_pos (by omega)]
      unfold soO
      rw [ho, if_neg (by omega), Int.toNat_natCast]
      exact congrArg _ hn.2.2.symm
    · rw [if_neg q, h4 j hj]
      by_cases w : j < h
      · rw [if_pos w, if_pos (show j < h + 1 by omega)]
      · rw [if_neg w, if_neg (show ¬ j < h + 1 by omega)]
  · rw [uV_at]
    by_cases q : j = i
    · subst q
      rw [if_pos rfl]
      refine ⟨fun g hg e z => ?_, ?_⟩
      · by_cases q : g = h
        · subst q
          rw [hw]; split <;> omega
        · have := (h6 j hj).1 g hg e (by
            rcases z with z | z
            · exact Or.inl z
            · exact Or.inr (by omega))
          rw [hw]; split <;> omega
      · by_cases q : X 134 j < depO b k h
        · rw [if_pos q] at hw
          exact ⟨h, hh, ho, hw⟩
        · rw [if_neg q] at hw
          rw [hw]; exact (h6 j hj).2
    · rw [if_neg q]
      refine ⟨fun g hg e z => (h6 j hj).1 g hg e ?_, (h6 j hj).2⟩
      rcases z with z | z
      · exact Or.inl z
      · by_cases w : g = h
        · subst w
          rw [ho] at e
          have hn2 := nth_ok (p := isSp b k c) (n := b.n) hj
          have e2 : nthB (isSp b k c) b.n i = nthB (isSp b k c) b.n j := by unfold shO at e; omega
          rw [e2] at hn
          omega
        · exact Or.inr (by omega)
theorem S236_e (o : bO b) (hh : ¬ h < b.n) (hn : h ≤ b.n) (hL : S236 b k c h X) : S403 b k c 0 X := by
  obtain rfl : h = b.n := by omega
  obtain ⟨h1, h2, h3, h4, h5, h6⟩ := hL
  refine ⟨h1, h2, h3, fun i hi => ?_, h5, fun i hi => ?_⟩
  · rw [h4 i hi, if_pos hi]
  · rw [if_neg (Nat.not_lt_zero _)]
    exact mxD_is o (fun g hg e => (h6 i hi).1 g hg e (Or.inr hg)) (h6 i hi).2
theorem S403_s {s : Nat} {w : Int} (hs : s < nSp b k c) (hL : S403 b k c s X) (hw : w = X 134 s + plgO b (X 132 s) (X 133 s)) (e : X' = uV X 134 s w) : S403 b k c (s + 1) X' := by
  obtain ⟨h1, h2, h3, h4, h5, h6⟩ := hL
  subst e
  refine ⟨h1, h2, h3, h4, h5, fun i hi => ?_⟩
  rw [uV_at]
  by_cases q : i = s
  · subst q
    rw [if_pos rfl, if_pos (by omega), hw, h6 i hi, if_neg (by omega), (h5 i hi).2.1, (h5 i hi).2.2]
    rfl
  · rw [if_neg q, h6 i hi]
    by_cases w : i < s
    · rw [if_pos w, if_pos (by omega)]
    · rw [if_neg w, if_neg (by omega)]
theorem S403_e {s : Nat} (hs : ¬ s < nSp b k c) (hL : S403 b k c s X) : spM b k c X := by
  obtain ⟨h1, h2, h3, h4, h5, h6⟩ := hL
  refine ⟨h1, h2, h3, h4, fun i hi => ⟨(h5 i hi).1, (h5 i hi).2.1, (h5 i hi).2.2, ?_⟩⟩
  rw [h6 i hi, if_pos (by omega)]
/-- the lowest of those looked through from above -/
def lowI (q : Nat → Bool) (m u : Nat) (z : Int) : Prop := (z = -1 ∧ ∀ i, u ≤ i → i < m → q i = false) ∨ ∃ i : Nat, z = (i : Int) ∧ u ≤ i ∧ i < m ∧ q i = true ∧ ∀ j, u ≤ j → j < i → q j = false
theorem lowI_f {q : Nat → Bool} {m u : Nat} {z : Int} (hL : lowI q m (u + 1) z) (hq : q u = false) : lowI q m u z := by
  rcases hL with ⟨h1, h2⟩ | ⟨i, h1, h2, h3, h4, h5⟩
  · refine Or.inl ⟨h1, fun i a d => ?_⟩
    rcases Nat.lt_or_ge u i with w | w
    · exact h2 i w d
    · rw [show i = u by omega]; exact hq
  · refine Or.inr ⟨i, h1, by omega, h3, h4, fun j a d => ?_⟩
    rcases Nat.lt_or_ge u j with w | w
    · exact h5 j w d
    · rw [show j = u by omega]; exact hq
theorem lowI_t {q : Nat → Bool} {m u : Nat} (hu : u < m) (hq : q u = true) : lowI q m u (u : Int) := Or.inr ⟨u, rfl, Nat.le_refl _, hu, hq, fun j a d => by omega⟩
/-- a spot of the first digger's near to hole h -/
def nrS (b : Bk) (k : Int) (c h i : Nat) : Bool := decide (b.dg (shO b k c i) = 0 ∧ nr b (fdX b c h) (fdY b c h) (b.hx (shO b k c i)) (b.hy (shO b k c i)))
theorem fd0 {g : Nat} (hg : b.dg g = 0) : fdX b c g = b.hx g ∧ fdY b c g = b.hy g := by
  unfold fdX fdY
  rw [if_neg (by omega), if_neg (by omega)]
  exact ⟨rfl, rfl⟩
theorem low_ow {z : Int} (hh : h < b.n) (hs : thr b k h ∧ b.dg h = 1 ∧ stks b k (fdX b c h) (fdY b c h) = true) (hL : lowI (nrS b k c h) (nSp b k c) 0 z) : ¬ isSp b k c h = true ∧ ((z = -1 ∧ owO b k c h = -1) ∨ ∃ i : Nat, z = (i : Int) ∧ i < nSp b k c ∧ owO b k c h = (shO b k c i : Int)) := by
  have hp : ¬ isSp b k c h = true := fun w => (isSp_iff.mp w).2 hs.2
  have e : owO b k c h = fstB (nrF b k c h) b.n := by unfold owO; rw [if_neg hp, if_pos hs]
  refine ⟨hp, ?_⟩
  rw [e]
  have key : ∀ g, g < b.n → nrF b k c h g = true → isSp b k c g = true ∧ nrS b k c h (cntB (isSp b k c) g) = true := by
    intro g hg w
    have w := of_decide_eq_true w
    have f := fd0 (c := c) w.1
    have sp : isSp b k c g = true := isSp_iff.mpr ⟨⟨w.2.1, by rw [f.1, f.2]; exact w.2.2.1⟩, fun y => by omega⟩
    refine ⟨sp, decide_eq_true ?_⟩
    have : shO b k c (cntB (isSp b k c) g) = g := nth_cnt hg sp
    rw [this]
    exact ⟨w.1, w.2.2.2⟩
  rcases hL with ⟨h1, h2⟩ | ⟨i, h1, h2, h3, h4, h5⟩
  · refine Or.inl ⟨h1, fst_no (fun g hg => ?_)⟩
    apply Bool.eq_false_iff.mpr
    intro w
    have := key g hg w
    rw [h2 _ (Nat.zero_le _) (cnt_lt hg this.1)] at this
    cases this.2
  · refine Or.inr ⟨i, h1, h3, ?_⟩
    have hn := nth_ok (p := isSp b k c) (n := b.n) h3
    have w := of_decide_eq_true h4
    have f := fd0 (c := c) w.1
    have sp := isSp_iff.mp hn.2.1
    refine fst_is hn.1 (decide_eq_true ⟨w.1, sp.1.1, ?_, w.2⟩) (fun g hg => ?_)
    · have := sp.1.2
      unfold shO at f
      rw [f.1, f.2] at this
      exact this
    · apply Bool.eq_false_iff.mpr
      intro y
      have hg2 : g < b.n := Nat.lt_trans hg hn.1
      have k1 := key g hg2 y
      have k2 : cntB (isSp b k c) g < i := by
        have := cnt_lt (p := isSp b k c) hg k1.1
        have e3 : cntB (isSp b k c) (shO b k c i) = i := hn.2.2
        omega
      rw [h5 _ (Nat.zero_le _) k2] at k1
      cases k1.2
end
section
variable {b : Bk} {k : Int} {c : Nat} {X X' : VV} {h : Nat}
theorem S12_0 (hh : h < b.n) (hL : S12 b k c h X) (hd : ¬ b.dg h = 1) (e : X' = uV X 130 h (-1)) : S12 b k c (h + 1) X' := by
  have h4 := hL.2.2.2 h hh
  rw [if_neg (Nat.lt_irrefl _), if_neg (Nat.lt_irrefl _)] at h4
  have f1 : fdX b c h = b.hx h := by unfold fdX; rw [if_neg hd]
  have f2 : fdY b c h = b.hy h := by unfold fdY; rw [if_neg hd]
  subst e
  exact S12_s hh hL rfl rfl (by rw [uV_same (c := 128) (by rw [h4.1, f1])]; rfl) (by rw [uV_same (c := 129) (by rw [h4.2, f2])]; rfl)
theorem S12_1 (hh : h < b.n) (hL : S12 b k c h X) (hd : b.dg h = 1) (e : X' = uV (uV (uV X 130 h (-1)) 128 h (tX b h (X 99 45) + X 99 46)) 129 h (tY b h (X 99 45) + X 99 47)) : S12 b k c (h + 1) X' := by
  have h1 := hL.1
  have f1 : fdX b c h = tX b h (X 99 45) + X 99 46 := by unfold fdX; rw [if_pos hd, h1.1, h1.2.1]
  have f2 : fdY b c h = tY b h (X 99 45) + X 99 47 := by unfold fdY; rw [if_pos hd, h1.1, h1.2.2.1]
  subst e
  exact S12_s hh hL rfl rfl (by rw [f1]; rfl) (by rw [f2]; rfl)
theorem S12_i (hf : frV b k X c) (h0 : X 99 49 = 0) (h1 : ∀ i, i < b.n → X 128 i = b.hx i ∧ X 129 i = b.hy i) : S12 b k c 0 X := ⟨hf, h0, fun i hi => absurd hi (Nat.not_lt_zero _), fun i hi => by rw [if_neg (Nat.not_lt_zero _), if_neg (Nat.not_lt_zero _)]; exact h1 i hi⟩
theorem ow_or (hs : ¬ (thr b k h ∧ b.dg h = 1 ∧ stks b k (fdX b c h) (fdY b c h) = true)) : isSp b k c h = true ∨ owO b k c h = -1 := by
  by_cases q : isSp b k c h = true
  · exact Or.inl q
  · refine Or.inr ?_
    unfold owO
    rw [if_neg q, if_neg hs]
end
