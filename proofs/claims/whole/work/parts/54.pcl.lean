/-! clauses -/
def wdb (j : Nat) (t : Nat → Int) (p e : Nat) : Bool := decide (e = p + wLen j) && (List.range (wLen j)).all (fun i => decide (t (p + i) = wByt j i))
theorem wdb_iff {j : Nat} {t : Nat → Int} {p e : Nat} : wdb j t p e = true ↔ e = p + wLen j ∧ ∀ i, i < wLen j → t (p + i) = wByt j i := by
  unfold wdb
  simp [List.all_eq_true]
theorem sortF_s (t : Nat → Int) (p e f s : Nat) : sortF t p e (f + 1) s = if wdb (3 + s) t p e = true then s else sortF t p e f (s + 1) := rfl
def sortS (t : Nat → Int) (p e : Nat) : Nat := sortF t p e 10 0
theorem sortF_spec (t : Nat → Int) (p e : Nat) : ∀ (f s : Nat), (sortF t p e f s = s + f ∧ ∀ j, s ≤ j → j < s + f → wdb (3 + j) t p e = false) ∨ (s ≤ sortF t p e f s ∧ sortF t p e f s < s + f ∧ wdb (3 + sortF t p e f s) t p e = true)
  | 0, s => Or.inl ⟨rfl, fun j h1 h2 => by omega⟩
  | f + 1, s => by
    rw [sortF_s]
    by_cases h : wdb (3 + s) t p e = true
    · rw [if_pos h]
      exact Or.inr ⟨Nat.le_refl _, by omega, h⟩
    · rw [if_neg h]
      rcases sortF_spec t p e f (s + 1) with ⟨h1, h2⟩ | ⟨h1, h2, h3⟩
      · refine Or.inl ⟨by omega, fun j h4 h5 => ?_⟩
        rcases Nat.eq_or_lt_of_le h4 with rfl | h6
        · exact Bool.eq_false_iff.mpr h
        · exact h2 j h6 (by omega)
      · exact Or.inr ⟨by omega, by omega, h3⟩
theorem key_inj : ∀ i, i < 10 → ∀ j, j < 10 → (wLen (3 + i), wByt (3 + i) 0, wByt (3 + i) 1) = (wLen (3 + j), wByt (3 + j) 0, wByt (3 + j) 1) → i = j := by decide +kernel
theorem wl_ge2 : ∀ i, i < 10 → 2 ≤ wLen (3 + i) := by decide +kernel
theorem wd_uniq {t : Nat → Int} {p e i j : Nat} (hi : i < 10) (hj : j < 10) (h1 : wdb (3 + i) t p e = true) (h2 : wdb (3 + j) t p e = true) : i = j := by
  obtain ⟨a1, a2⟩ := wdb_iff.mp h1
  obtain ⟨b1, b2⟩ := wdb_iff.mp h2
  have g1 := wl_ge2 i hi
  have g2 := wl_ge2 j hj
  apply key_inj i hi j hj
  have e0 := (a2 0 (by omega)).symm.trans (b2 0 (by omega))
  have e1 := (a2 1 (by omega)).symm.trans (b2 1 (by omega))
  rw [e0, e1, show wLen (3 + i) = wLen (3 + j) by omega]
theorem sortS_lt {t : Nat → Int} {p e : Nat} : sortS t p e ≤ 10 ∧ (sortS t p e < 10 → wdb (3 + sortS t p e) t p e = true) ∧ (sortS t p e = 10 → ∀ j, j < 10 → wdb (3 + j) t p e = false) := by
  have h := sortF_spec t p e 10 0
  unfold sortS
  rcases h with ⟨h1, h2⟩ | ⟨h1, h2, h3⟩
  · exact ⟨by omega, fun h => by omega, fun _ j hj => h2 j (by omega) (by omega)⟩
  · exact ⟨by omega, fun _ => h3, fun h => by omega⟩
theorem sortS_of {t : Nat → Int} {p e j : Nat} (hj : j < 10) (h : wdb (3 + j) t p e = true) : sortS t p e = j := by
  obtain ⟨h1, h2, h3⟩ := sortS_lt (t := t) (p := p) (e := e)
  rcases Nat.lt_or_ge (sortS t p e) 10 with g | g
  · exact wd_uniq g hj (h2 g) h
  · have := h3 (by omega) j hj
    rw [h] at this
    cases this
theorem sortS_10 {t : Nat → Int} {p e : Nat} (h : ∀ j, j < 10 → wdb (3 + j) t p e = false) : sortS t p e = 10 := by
  obtain ⟨h1, h2, h3⟩ := sortS_lt (t := t) (p := p) (e := e)
  rcases Nat.lt_or_ge (sortS t p e) 10 with g | g
  · have := h2 g
    rw [h _ g] at this
    cases this
  · omega
theorem wk_4 (t : Nat → Int) (p e a b c d w : Nat) (B0 B1 B2 B3 : Int) (h0 : w % 32 = a) (h1 : w / 32 % 32 = b) (h2 : w / 32 / 32 % 32 = c) (h3 : w / 32 / 32 / 32 = d) (hd : d < 32) (hd0 : 0 < d) (e0 : B0 = 96 + (a : Int)) (e1 : B1 = 96 + (b : Int)) (e2 : B2 = 96 + (c : Int)) (e3 : B3 = 96 + (d : Int)) : wmB t 8 w p e = true ↔ e = p + 4 ∧ t p = B0 ∧ t (p + 1) = B1 ∧ t (p + 2) = B2 ∧ t (p + 3) = B3 := by
  rw [wm_s (by omega), wm_s (by omega), wm_s (by omega), wm_s (by omega), wm_0 (by omega)]
  simp only [Bool.and_eq_true, decide_eq_true_eq, Nat.add_assoc, Nat.reduceAdd]
  rw [h0, h1, h2, show w / 32 / 32 / 32 % 32 = d by omega]
  constructor
  · rintro ⟨a1, a2, a3, a4, a5, a6, a7, a8, a9⟩
    exact ⟨by omega, by omega, by omega, by omega, by omega⟩
  · rintro ⟨a1, a2, a3, a4, a5⟩
    exact ⟨by omega, by omega, by omega, by omega, by omega, by omega, by omega, by omega, by omega⟩
theorem wk_5 (t : Nat → Int) (p e a b c d f w : Nat) (B0 B1 B2 B3 B4 : Int) (h0 : w % 32 = a) (h1 : w / 32 % 32 = b) (h2 : w / 32 / 32 % 32 = c) (h3 : w / 32 / 32 / 32 % 32 = d) (h4 : w / 32 / 32 / 32 / 32 = f) (hf : f < 32) (hf0 : 0 < f) (e0 : B0 = 96 + (a : Int)) (e1 : B1 = 96 + (b : Int)) (e2 : B2 = 96 + (c : Int)) (e3 : B3 = 96 + (d : Int)) (e4 : B4 = 96 + (f : Int)) : wmB t 8 w p e = true ↔ e = p + 5 ∧ t p = B0 ∧ t (p + 1) = B1 ∧ t (p + 2) = B2 ∧ t (p + 3) = B3 ∧ t (p + 4) = B4 := by
  rw [wm_s (by omega), wm_s (by omega), wm_s (by omega), wm_s (by omega), wm_s (by omega), wm_0 (by omega)]
  simp only [Bool.and_eq_true, decide_eq_true_eq, Nat.add_assoc, Nat.reduceAdd]
  rw [h0, h1, h2, h3, show w / 32 / 32 / 32 / 32 % 32 = f by omega]
  constructor
  · rintro ⟨a1, a2, a3, a4, a5, a6, a7, a8, a9, a10, a11⟩
    exact ⟨by omega, by omega, by omega, by omega, by omega, by omega⟩
  · rintro ⟨a1, a2, a3, a4, a5, a6⟩
    exact ⟨by omega, by omega, by omega, by omega, by omega, by omega, by omega, by omega, by omega, by omega, by omega⟩
theorem wdb_4 {j : Nat} {t : Nat → Int} {p e : Nat} (h : wLen j = 4) : wdb j t p e = true ↔ e = p + 4 ∧ t p = wByt j 0 ∧ t (p + 1) = wByt j 1 ∧ t (p + 2) = wByt j 2 ∧ t (p + 3) = wByt j 3 := by
  rw [wdb_iff, h]
  constructor
  · rintro ⟨h1, h2⟩
    exact ⟨h1, h2 0 (by omega), h2 1 (by omega), h2 2 (by omega), h2 3 (by omega)⟩
  · rintro ⟨h1, h2, h3, h4, h5⟩
    refine ⟨h1, fun i hi => ?_⟩
    rcases (show i = 0 ∨ i = 1 ∨ i = 2 ∨ i = 3 by omega) with rfl | rfl | rfl | rfl <;> assumption
theorem wdb_5 {j : Nat} {t : Nat → Int} {p e : Nat} (h : wLen j = 5) : wdb j t p e = true ↔ e = p + 5 ∧ t p = wByt j 0 ∧ t (p + 1) = wByt j 1 ∧ t (p + 2) = wByt j 2 ∧ t (p + 3) = wByt j 3 ∧ t (p + 4) = wByt j 4 := by
  rw [wdb_iff, h]
  constructor
  · rintro ⟨h1, h2⟩
    exact ⟨h1, h2 0 (by omega), h2 1 (by omega), h2 2 (by omega), h2 3 (by omega), h2 4 (by omega)⟩
  · rintro ⟨h1, h2, h3, h4, h5, h6⟩
    refine ⟨h1, fun i hi => ?_⟩
    rcases (show i = 0 ∨ i = 1 ∨ i = 2 ∨ i = 3 ∨ i = 4 by omega) with rfl | rfl | rfl | rfl | rfl <;> assumption
theorem wk_iff {t : Nat → Int} {p e s : Nat} (hs : s < 10) : (wmB t 8 (wK.getD s 0) p e = true) ↔ wdb (3 + s) t p e = true := by
  rcases (show s = 0 ∨ s = 1 ∨ s = 2 ∨ s = 3 ∨ s = 4 ∨ s = 5 ∨ s = 6 ∨ s = 7 ∨ s = 8 ∨ s = 9 by omega) with rfl | rfl | rfl | rfl | rfl | rfl | rfl | rfl | rfl | rfl
  · exact (wk_4 t p e 18 15 23 19 _ (wByt 3 0) (wByt 3 1) (wByt 3 2) (wByt 3 3) rfl rfl rfl rfl (by decide) (by decide) (by decide +kernel) (by decide +kernel) (by decide +kernel) (by decide +kernel)).trans (wdb_4 (j := 3) rfl).symm
  · exact (wk_5 t p e 16 15 19 20 19 _ (wByt 4 0) (wByt 4 1) (wByt 4 2) (wByt 4 3) (wByt 4 4) rfl rfl rfl rfl rfl (by decide) (by decide) (by decide +kernel) (by decide +kernel) (by decide +kernel) (by decide +kernel) (by decide +kernel)).trans (wdb_5 (j := 4) rfl).symm
  · exact (wk_4 t p e 19 20 5 16 _ (wByt 5 0) (wByt 5 1) (wByt 5 2) (wByt 5 3) rfl rfl rfl rfl (by decide) (by decide) (by decide +kernel) (by decide +kernel) (by decide +kernel) (by decide +kernel)).trans (wdb_4 (j := 5) rfl).symm
  · exact (wk_5 t p e 1 16 1 18 20 _ (wByt 6 0) (wByt 6 1) (wByt 6 2) (wByt 6 3) (wByt 6 4) rfl rfl rfl rfl rfl (by decide) (by decide) (by decide +kernel) (by decide +kernel) (by decide +kernel) (by decide +kernel) (by decide +kernel)).trans (wdb_5 (j := 6) rfl).symm
  · exact (wk_5 t p e 19 12 1 3 11 _ (wByt 7 0) (wByt 7 1) (wByt 7 2) (wByt 7 3) (wByt 7 4) rfl rfl rfl rfl rfl (by decide) (by decide) (by decide +kernel) (by decide +kernel) (by decide +kernel) (by decide +kernel) (by decide +kernel)).trans (wdb_5 (j := 7) rfl).symm
  · exact (wk_4 t p e 4 5 5 16 _ (wByt 8 0) (wByt 8 1) (wByt 8 2) (wByt 8 3) rfl rfl rfl rfl (by decide) (by decide) (by decide +kernel) (by decide +kernel) (by decide +kernel) (by decide +kernel)).trans (wdb_4 (j := 8) rfl).symm
  · exact (wk_5 t p e 16 1 9 18 19 _ (wByt 9 0) (wByt 9 1) (wByt 9 2) (wByt 9 3) (wByt 9 4) rfl rfl rfl rfl rfl (by decide) (by decide) (by decide +kernel) (by decide +kernel) (by decide +kernel) (by decide +kernel) (by decide +kernel)).trans (wdb_5 (j := 9) rfl).symm
  · exact (wk_4 t p e 13 9 19 19 _ (wByt 10 0) (wByt 10 1) (wByt 10 2) (wByt 10 3) rfl rfl rfl rfl (by decide) (by decide) (by decide +kernel) (by decide +kernel) (by decide +kernel) (by decide +kernel)).trans (wdb_4 (j := 10) rfl).symm
  · exact (wk_4 t p e 12 9 6 5 _ (wByt 11 0) (wByt 11 1) (wByt 11 2) (wByt 11 3) rfl rfl rfl rfl (by decide) (by decide) (by decide +kernel) (by decide +kernel) (by decide +kernel) (by decide +kernel)).trans (wdb_4 (j := 11) rfl).symm
  · exact (wk_5 t p e 23 15 18 20 8 _ (wByt 12 0) (wByt 12 1) (wByt 12 2) (wByt 12 3) (wByt 12 4) rfl rfl rfl rfl rfl (by decide) (by decide) (by decide +kernel) (by decide +kernel) (by decide +kernel) (by decide +kernel) (by decide +kernel)).trans (wdb_5 (j := 12) rfl).symm
theorem wk_kind {t : Nat → Int} {p e : Nat} : wmB t 8 145707 p e = true ↔ wdb 0 t p e = true := (wk_4 t p e 11 9 14 4 _ (wByt 0 0) (wByt 0 1) (wByt 0 2) (wByt 0 3) rfl rfl rfl rfl (by decide) (by decide) (by decide +kernel) (by decide +kernel) (by decide +kernel) (by decide +kernel)).trans (wdb_4 (j := 0) rfl).symm
theorem wk_to {t : Nat → Int} {p e : Nat} : wmB t 8 500 p e = true ↔ wdb 13 t p e = true := by
  rw [wm_s (by omega), wm_s (by omega), wm_0 (by omega), wdb_iff, show wLen 13 = 2 from rfl]
  simp only [Bool.and_eq_true, decide_eq_true_eq, Nat.add_assoc, Nat.reduceAdd, Nat.reduceMod, Nat.reduceDiv]
  constructor
  · rintro ⟨a1, a2, a3, a4, a5⟩
    refine ⟨by omega, fun i hi => ?_⟩
    rcases (show i = 0 ∨ i = 1 by omega) with rfl | rfl
    · rw [Nat.add_zero, a2]; rfl
    · rw [a4]; rfl
  · rintro ⟨a1, a2⟩
    have b0 := a2 0 (by omega)
    have b1 := a2 1 (by omega)
    rw [Nat.add_zero] at b0
    exact ⟨by omega, by rw [b0]; rfl, by omega, by rw [b1]; rfl, by omega⟩
def up1 (f : Nat → Int) (i : Nat) (x : Int) : Nat → Int := fun j => if j = i then x else f j
/-- what a clause makes: the next token, a fault or -1, the numbers -/
def clS (t : Nat → Int) (n f rd : Nat) (lo hi : Nat → Int) : Nat × Int × (Nat → Int) × (Nat → Int) :=
  let s := sortS t f (tokE t n f)
  if s = 10 then (f, (f : Int), lo, hi) else
  let f1 := nxt t n f
  if ¬ numOK t n f1 (lsB s) (msB s) then (f1, (f1 : Int), lo, hi) else
  let v := exN t f1 (tokE t n f1)
  let f2 := nxt t n f1
  if spB s = false then (f2, -1, up1 lo (10 * rd + s) v, up1 hi (10 * rd + s) v) else
  if ¬ wdb 13 t f2 (tokE t n f2) = true then (f2, (f2 : Int), lo, hi) else
  let f3 := nxt t n f2
  if ¬ numOK t n f3 v (msB s) then (f3, (f3 : Int), lo, hi) else
  (nxt t n f3, -1, up1 lo (10 * rd + s) v, up1 hi (10 * rd + s) (exN t f3 (tokE t n f3)))
