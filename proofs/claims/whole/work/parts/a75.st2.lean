/-! starts, on the way: what has been pushed (target, source) -/
def stI (n : Nat) (bd : Nat → Nat → Bool) (f : Nat → Nat) (w : Nat → Nat → Int) (E0 E : Nat → Int) (D : Nat → Nat → Prop) (X : Nat → Int) : Prop := midE n E0 E X ∧ ∀ i j, i < n → j < n → D i j → bd i j = true → f j < f i → E j + w i j ≤ X i
section
variable {n : Nat} {bd : Nat → Nat → Bool} {f : Nat → Nat} {w : Nat → Nat → Int} {E0 E X Y : Nat → Int} {D D' : Nat → Nat → Prop} {i j : Nat}
theorem sti_fin (h : isE n bd f w E0 E) (s : stI n bd f w E0 E D X) (hi : i < n) (hd : ∀ j, j < n → bd i j = true → f j < f i → D i j) : X i = E i := mid_f h s.1 hi (fun j hj hb hf => s.2 i j hi hj (hd j hj hb hf) hb hf)
theorem sti_w (s : stI n bd f w E0 E D X) (h : ∀ i j, i < n → j < n → D' i j → bd i j = true → f j < f i → D i j) : stI n bd f w E0 E D' X := ⟨s.1, fun i j hi hj hd hb hf => s.2 i j hi hj (h i j hi hj hd hb hf) hb hf⟩
theorem sti_e (s : stI n bd f w E0 E D X) (e : ∀ t, t < n → Y t = X t) : stI n bd f w E0 E D Y := ⟨fun i hi => by rw [e i hi]; exact s.1 i hi, fun i j hi hj hd hb hf => by rw [e i hi]; exact s.2 i j hi hj hd hb hf⟩
theorem sti_p (h : isE n bd f w E0 E) (s : stI n bd f w E0 E D X) (hi : i < n) (hj : j < n) (hb : bd i j = true) (hf : f j < f i) (e : ∀ t, t < n → t ≠ i → Y t = X t) (hy : X i ≤ Y i ∧ X j + w i j ≤ Y i ∧ (Y i = X i ∨ Y i = X j + w i j)) (hD : ∀ a c, a < n → c < n → D' a c → bd a c = true → f c < f a → D a c ∨ (a = i ∧ c = j ∧ X j = E j)) : stI n bd f w E0 E D' Y := by
  refine ⟨mid_s h s.1 hi hj hb hf e ⟨hy.1, hy.2.2⟩, fun a c ha hc hd hbc hfc => ?_⟩
  rcases hD a c ha hc hd hbc hfc with q | ⟨rfl, rfl, q⟩
  · have h1 := s.2 a c ha hc q hbc hfc
    by_cases z : a = i
    · subst z; have := hy.1; omega
    · rw [e a ha z]; exact h1
  · have := hy.2.1; rw [q] at this; exact this
theorem sti_0 (h : isE n bd f w E0 E) (e : ∀ t, t < n → X t = E0 t) (hD : ∀ i j, i < n → j < n → D i j → bd i j = true → f j < f i → False) : stI n bd f w E0 E D X := ⟨fun i hi => by rw [e i hi]; exact ⟨Int.le_refl _, (h i hi).1⟩, fun i j hi hj hd hb hf => absurd (hD i j hi hj hd hb hf) id⟩
end
/-- a member's life, and what the dates alone say of it -/
def lfM (Ks : Nat → Kd) (l : Nat → Nat → Int) (ch N i : Nat) : Int := (Ks (l (mbr ch N i) 0).toNat).l 8
def dtP (b : Bk) (k : Int) (c : Nat) (l : Nat → Nat → Int) (ch N i t : Nat) : Bool := decide (b.dK t ≤ k) && decide (memI b k c l ch N (b.dO t).toNat = (i : Int))
def e0M (b : Bk) (k : Int) (c : Nat) (l : Nat → Nat → Int) (ch N t i : Nat) : Int := mxS (dtP b k c l ch N i) b.dF 0 t
def l0M (b : Bk) (k : Int) (c : Nat) (l : Nat → Nat → Int) (ch N t i : Nat) : Int := mxS (dtP b k c l ch N i) (fun x => - b.dT x) (-2000) t
/-- earliest and latest starts -/
def eaM (n : Nat) (rl : Nat → Nat → Bool) (f : Nat → Nat) (lf e0 : Nat → Int) (i : Nat) : Int := eF n rl f (fun _ j => lf j) e0 (f i + 1) i
def naM (n : Nat) (rl : Nat → Nat → Bool) (f : Nat → Nat) (lf l0 : Nat → Int) (i : Nat) : Int := eF n rl (fun j => n - 1 - f j) (fun i _ => lf i) l0 (n - 1 - f i + 1) i
theorem ea_E (n : Nat) (rl : Nat → Nat → Bool) (f : Nat → Nat) (lf e0 : Nat → Int) : isE n rl f (fun _ j => lf j) e0 (eaM n rl f lf e0) := isE_ex n rl f (fun _ j => lf j) e0
theorem na_E (n : Nat) (rl : Nat → Nat → Bool) (f : Nat → Nat) (lf l0 : Nat → Int) : isE n rl (fun j => n - 1 - f j) (fun i _ => lf i) l0 (naM n rl f lf l0) := isE_ex n rl (fun j => n - 1 - f j) (fun i _ => lf i) l0
section
variable {b : Bk} {k : Int} {c : Nat} {l : Nat → Nat → Int} {ch N : Nat}
theorem mx_s1 {p : Nat → Bool} {g : Nat → Int} {z : Int} {t : Nat} (h : p t = true) : mxS p g z (t + 1) = if mxS p g z t < g t then g t else mxS p g z t := by
  show (if p t = true ∧ mxS p g z t < g t then g t else mxS p g z t) = _
  by_cases q : mxS p g z t < g t
  · rw [if_pos ⟨h, q⟩, if_pos q]
  · rw [if_neg (fun y => q y.2), if_neg q]
theorem mx_s0 {p : Nat → Bool} {g : Nat → Int} {z : Int} {t : Nat} (h : p t = false) : mxS p g z (t + 1) = mxS p g z t := by
  show (if p t = true ∧ mxS p g z t < g t then g t else mxS p g z t) = _
  rw [if_neg (fun y => by rw [h] at y; cases y.1)]
theorem dt_t {i t : Nat} : dtP b k c l ch N i t = true ↔ b.dK t ≤ k ∧ memI b k c l ch N (b.dO t).toNat = (i : Int) := by
  unfold dtP; rw [Bool.and_eq_true, decide_eq_true_iff, decide_eq_true_iff]
theorem dt_f {i t : Nat} (h : ¬ (b.dK t ≤ k ∧ memI b k c l ch N (b.dO t).toNat = (i : Int))) : dtP b k c l ch N i t = false := Bool.eq_false_iff.mpr fun z => h (dt_t.mp z)
theorem e0_b (ho : bO b) (t i : Nat) : 0 ≤ e0M b k c l ch N t i ∧ e0M b k c l ch N t i ≤ 2000 := by
  obtain ⟨h1, _, h3⟩ := mxS_s (p := dtP b k c l ch N i) (g := b.dF) (z := 0) t
  refine ⟨h1, ?_⟩
  unfold e0M
  rcases h3 with q | ⟨j, _, _, q⟩
  · omega
  · have := ho.dF j; omega
theorem l0_b (ho : bO b) (t i : Nat) : -2000 ≤ l0M b k c l ch N t i ∧ l0M b k c l ch N t i ≤ 0 := by
  obtain ⟨h1, _, h3⟩ := mxS_s (p := dtP b k c l ch N i) (g := fun x => - b.dT x) (z := -2000) t
  refine ⟨h1, ?_⟩
  unfold l0M
  rcases h3 with q | ⟨j, _, _, q⟩
  · omega
  · have := ho.dT j; omega
theorem e0_no {t i : Nat} (h : ¬ (b.dK t ≤ k ∧ memI b k c l ch N (b.dO t).toNat = (i : Int))) : e0M b k c l ch N (t + 1) i = e0M b k c l ch N t i ∧ l0M b k c l ch N (t + 1) i = l0M b k c l ch N t i := ⟨mx_s0 (dt_f h), mx_s0 (dt_f h)⟩
theorem e0_y {t i : Nat} (h : b.dK t ≤ k ∧ memI b k c l ch N (b.dO t).toNat = (i : Int)) : e0M b k c l ch N (t + 1) i = (if e0M b k c l ch N t i < b.dF t then b.dF t else e0M b k c l ch N t i) ∧ l0M b k c l ch N (t + 1) i = (if l0M b k c l ch N t i < - b.dT t then - b.dT t else l0M b k c l ch N t i) := ⟨mx_s1 (dt_t.mpr h), mx_s1 (dt_t.mpr h)⟩
end
section
variable {n : Nat} {rl : Nat → Nat → Bool} {f : Nat → Nat} {lf e0 l0 : Nat → Int}
theorem ea_b (hn : n ≤ 13) (hf : ∀ i, i < n → f i < n) (hlf : ∀ i, i < n → 0 ≤ lf i ∧ lf i ≤ 500) (h0 : ∀ i, i < n → 0 ≤ e0 i ∧ e0 i ≤ 2000) : ∀ i, i < n → 0 ≤ eaM n rl f lf e0 i ∧ eaM n rl f lf e0 i ≤ 8500 := fun i hi => by
  have h1 := (ea_E n rl f lf e0 i hi).1
  have h2 := isE_b (M := 2000) (C := 500) (ea_E n rl f lf e0) (fun i hi => (h0 i hi).2) (fun i j _ hj => (hlf j hj).2) (by decide) n i hi (hf i hi)
  have h3 := (h0 i hi).1
  omega
theorem na_b (hn : n ≤ 13) (hlf : ∀ i, i < n → 0 ≤ lf i ∧ lf i ≤ 500) (h0 : ∀ i, i < n → -2000 ≤ l0 i ∧ l0 i ≤ 0) : ∀ i, i < n → -2000 ≤ naM n rl f lf l0 i ∧ naM n rl f lf l0 i ≤ 6500 := fun i hi => by
  have h1 := (na_E n rl f lf l0 i hi).1
  have h2 := isE_b (M := 0) (C := 500) (na_E n rl f lf l0) (fun i hi => (h0 i hi).2) (fun i j hi _ => (hlf i hi).2) (by decide) n i hi (show n - 1 - f i < n by omega)
  have h3 := (h0 i hi).1
  omega
end
/-- whether the starts can be -/
def hsB (n : Nat) (ea na : Nat → Int) : Bool := anyB (fun i => decide (- na i < ea i)) n
theorem hsB_s {n : Nat} {ea na : Nat → Int} {x : Int} {i : Nat} (h : x = bi (!(hsB i ea na))) {y : Int} (hy : y = 1 ↔ x = 1 ∧ ea i ≤ - na i) (hy2 : y = 0 ∨ y = 1) : y = bi (!(hsB (i + 1) ea na)) := by
  have e : hsB (i + 1) ea na = (hsB i ea na || decide (- na i < ea i)) := rfl
  rw [e]
  cases q : hsB i ea na <;> rw [q] at h
  · have hx : x = 1 := h
    by_cases z : ea i ≤ - na i
    · rw [hy.mpr ⟨hx, z⟩, decide_eq_false (by omega)]; rfl
    · rw [decide_eq_true (by omega)]
      rcases hy2 with y0 | y1
      · exact y0
      · exact absurd (hy.mp y1).2 z
  · have hx : x = 0 := h
    rcases hy2 with y0 | y1
    · exact y0
    · have := (hy.mp y1).1; omega
theorem inF_1 {a x y c j : Nat} (h : c ≠ a) : inF [(a, x, y)] c j = false := by
  unfold inF
  simp
  intro z
  exact absurd z.symm h
theorem ho_11 {S : Sp} {Ks : Nat → Kd} {row : Nat → Int} {V : VV} {h : Nat} (hc : hoC S Ks row V h) : V h 11 = (Ks (row 0).toNat).l 8 := hc.2.2.2.2.2.2.2.2.2.2.2.1
/-- the subsets of a row of bits from above, the greatest of what they have -/
def mxW (g : Nat → Nat) (a : Nat) (s m : Nat) : Nat := if h : s = 0 then m else mxW g a ((s - 1) &&& a) (if m < g s then g s else m)
termination_by s
decreasing_by exact Nat.lt_of_le_of_lt Nat.and_le_left (by omega)
theorem mxW_0 {g : Nat → Nat} {a m : Nat} : mxW g a 0 m = m := by rw [mxW]; rfl
theorem mxW_s {g : Nat → Nat} {a s m : Nat} (h : s ≠ 0) : mxW g a s m = mxW g a ((s - 1) &&& a) (if m < g s then g s else m) := by rw [mxW, dif_neg h]
