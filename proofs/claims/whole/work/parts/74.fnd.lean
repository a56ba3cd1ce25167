/-! the reference's frames: the best turn and shift so far -/
def frV (b : Bk) (k : Int) (X : VV) (c : Nat) : Prop := X 99 45 = ((c / 1681 : Nat) : Int) ∧ X 99 46 = ((c / 41 % 41 : Nat) : Int) - 20 ∧ X 99 47 = ((c % 41 : Nat) : Int) - 20 ∧ X 99 48 = (hitN b k ((c / 1681 : Nat) : Int) (((c / 41 % 41 : Nat) : Int) - 20) (((c % 41 : Nat) : Int) - 20) : Int)
def bst (b : Bk) (k : Int) (X : VV) (m : Nat) : Prop := (m = 0 ∧ X 99 48 = -1) ∨ ∃ c, isB (KK b k) m c ∧ frV b k X c
theorem KK_fr {b : Bk} {k : Int} {X : VV} {c : Nat} (h : frV b k X c) : KK b k c = 41 * X 99 48 + 40 - abI (X 99 46) - abI (X 99 47) := by
  unfold KK kq
  rw [h.2.1, h.2.2.1, h.2.2.2]
set_option maxRecDepth 100000 in
theorem bst_s {b : Bk} {k : Int} {X : VV} {t x y : Nat} {n : Int} (hx : x < 41) (hy : y < 41) (h : bst b k X (t * 1681 + x * 41 + y)) (hn : n = (hitN b k t ((x : Int) - 20) ((y : Int) - 20) : Int)) (hs : n < X 99 48 ∨ (n = X 99 48 ∧ ¬ (abI ((x : Int) - 20) + abI ((y : Int) - 20) < abI (X 99 46) + abI (X 99 47)))) : bst b k X (t * 1681 + x * 41 + (y + 1)) := by
  rw [show t * 1681 + x * 41 + (y + 1) = (t * 1681 + x * 41 + y) + 1 by omega]
  generalize hm : t * 1681 + x * 41 + y = m at h ⊢
  rcases h with h | ⟨c, h1, h2⟩
  · omega
  · refine Or.inr ⟨c, isB_st h1 ?_, h2⟩
    rw [← hm, KK_at hx hy, KK_fr h2]
    unfold kq
    rw [← hn]
    have hx2 : (x : Int) < 41 := by omega
    have hy2 : (y : Int) < 41 := by omega
    have h3 := h2.2.1
    have h4 := h2.2.2.1
    have h5 : c / 41 % 41 < 41 := by omega
    have h6 : c % 41 < 41 := by omega
    simp only [abI] at *
    omega
set_option maxRecDepth 100000 in
theorem bst_t {b : Bk} {k : Int} {X X' : VV} {t x y : Nat} {n : Int} (hx : x < 41) (hy : y < 41) (h : bst b k X (t * 1681 + x * 41 + y)) (hn : n = (hitN b k t ((x : Int) - 20) ((y : Int) - 20) : Int)) (hs : ¬ n < X 99 48) (hs2 : n = X 99 48 → abI ((x : Int) - 20) + abI ((y : Int) - 20) < abI (X 99 46) + abI (X 99 47)) (e1 : X' 99 45 = (t : Int)) (e2 : X' 99 46 = (x : Int) - 20) (e3 : X' 99 47 = (y : Int) - 20) (e4 : X' 99 48 = n) : bst b k X' (t * 1681 + x * 41 + (y + 1)) := by
  have hc := cd_t (t := t) hx hy
  have hk := KK_at (b := b) (k := k) (t := t) hx hy
  rw [show t * 1681 + x * 41 + (y + 1) = (t * 1681 + x * 41 + y) + 1 by omega]
  generalize hm : t * 1681 + x * 41 + y = m at h hc hk ⊢
  refine Or.inr ⟨m, ?_, ?_⟩
  · rcases h with h | ⟨c, h1, h2⟩
    · rw [h.1]; exact isB_0
    · refine isB_up h1 ?_
      rw [hk, KK_fr h2]
      unfold kq
      rw [← hn]
      have hx2 : (x : Int) < 41 := by omega
      have hy2 : (y : Int) < 41 := by omega
      have h3 := h2.2.1
      have h4 := h2.2.2.1
      have h5 : c / 41 % 41 < 41 := by omega
      have h6 : c % 41 < 41 := by omega
      simp only [abI] at *
      omega
  · unfold frV
    rw [hc.1, hc.2.1, hc.2.2, ← hn]
    exact ⟨e1, e2, e3, e4⟩
theorem bst_x {b : Bk} {k : Int} {X X' : VV} {m : Nat} (h : bst b k X m) (h1 : X' 99 = X 99) : bst b k X' m := by
  unfold bst frV at h ⊢
  rw [h1]; exact h
theorem hitN_le {b : Bk} {k t dx dy : Int} : hitN b k t dx dy ≤ b.n := cntB_le
def dep (b : Bk) (k : Int) (h : Nat) : Nat → Int
  | 0 => b.dp h
  | i + 1 => if b.rO i = (h : Int) ∧ b.rK i ≤ k then b.rD i else dep b k h i
def depO (b : Bk) (k : Int) (h : Nat) : Int := dep b k h b.rn
theorem dep_b {b : Bk} {k : Int} {h : Nat} (o : bO b) : ∀ i, 0 ≤ dep b k h i ∧ dep b k h i ≤ 200
  | 0 => o.dp h
  | i + 1 => by
    unfold dep
    split
    · exact o.rD i
    · exact dep_b o i
abbrev inP (pl : Nat → Int) (i : Nat) (x y : Int) : Prop := (pl (4 * i) ≤ x ∧ x ≤ pl (4 * i + 2)) ∧ pl (4 * i + 1) ≤ y ∧ y ≤ pl (4 * i + 3)
def plg (b : Bk) (x y : Int) : Nat → Int
  | 0 => 0
  | i + 1 => if inP b.pl i x y ∧ plg b x y i < b.pd i then b.pd i else plg b x y i
def plgO (b : Bk) (x y : Int) : Int := plg b x y b.pn
theorem plg_b {b : Bk} {x y : Int} (o : bO b) : ∀ i, 0 ≤ plg b x y i ∧ plg b x y i ≤ 100
  | 0 => by show (0 : Int) ≤ 0 ∧ (0 : Int) ≤ 100; omega
  | i + 1 => by
    unfold plg
    split
    · exact o.pd i
    · exact plg_b o i
def dug (b : Bk) (k x y : Int) (i : Nat) : Bool := decide (b.tk i ≤ k ∧ inP b.tr i x y)
def dugO (b : Bk) (k x y : Int) : Bool := anyB (dug b k x y) b.tn
