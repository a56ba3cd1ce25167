/-! the spots of a week -/
def spS (b : Bk) (k : Int) (c : Nat) : Sp := mkS (nSp b k c) (fun i => fdX b c (shO b k c i)) (fun i => fdY b c (shO b k c i)) (fun i => fulO b k c (shO b k c i)) (fun i => (shO b k c i : Int))
section
variable {b : Bk} {k : Int} {c : Nat} {X X' V : VV} {i : Nat}
theorem spS_m : (spS b k c).m = nSp b k c := mkS_m
theorem spS_O (o : bO b) : sO (spS b k c) := by
  have hn := o.n
  have hl := nSp_le (b := b) (k := k) (c := c)
  refine ⟨by rw [spS_m]; omega, fun i hi => ?_⟩
  rw [spS_m] at hi
  have w := nth_ok (p := isSp b k c) (n := b.n) hi
  have z := (isSp_iff.mp w.2.1).1.2
  have d1 := mxD_b (k := k) (c := c) (g := shO b k c i) o b.n
  have d2 := plg_b (x := fdX b c (shO b k c i)) (y := fdY b c (shO b k c i)) o b.pn
  refine ⟨z.1, z.2, ?_, ?_, fun j hj => ?_⟩
  · show 0 ≤ mxD b k c (shO b k c i) b.n + plg b (fdX b c (shO b k c i)) (fdY b c (shO b k c i)) b.pn ∧ mxD b k c (shO b k c i) b.n + plg b (fdX b c (shO b k c i)) (fdY b c (shO b k c i)) b.pn ≤ 300
    omega
  · show 0 ≤ ((shO b k c i : Nat) : Int) ∧ ((shO b k c i : Nat) : Int) ≤ 39
    have : shO b k c i < b.n := w.1
    omega
  · show ((shO b k c j : Nat) : Int) < ((shO b k c i : Nat) : Int)
    have : shO b k c j < shO b k c i := nth_mono hi hj
    omega
theorem sM_of (h : spM b k c X) : sM (spS b k c) X := by
  refine ⟨by rw [spS_m]; exact h.2.1, fun i hi => ?_⟩
  rw [spS_m] at hi
  exact h.2.2.2.2 i hi
def ldI (S : Sp) (i : Nat) (X : VV) : Prop := ∀ j, j < i → X 45 j = S.h j ∧ X 46 j = S.x j ∧ X 49 j = S.y j ∧ X 48 j = S.f j
theorem ld_s {S : Sp} {v1 v2 v3 v4 : Int} (h : ldI S i X) (e : X' = uV (uV (uV (uV X 45 i v1) 46 i v2) 49 i v3) 48 i v4) (h1 : v1 = S.h i) (h2 : v2 = S.x i) (h3 : v3 = S.y i) (h4 : v4 = S.f i) : ldI S (i + 1) X' := by
  have e1 : X' 45 = uV X 45 i v1 45 := by rw [e]; rfl
  have e2 : X' 46 = uV X 46 i v2 46 := by rw [e]; rfl
  have e3 : X' 49 = uV X 49 i v3 49 := by rw [e]; rfl
  have e4 : X' 48 = uV X 48 i v4 48 := by rw [e]; rfl
  intro j hj
  exact ⟨row_p e1 h1 (fun j hj => (h j hj).1) j hj, row_p e2 h2 (fun j hj => (h j hj).2.1) j hj, row_p e3 h3 (fun j hj => (h j hj).2.2.1) j hj, row_p e4 h4 (fun j hj => (h j hj).2.2.2) j hj⟩
/-- nothing looked through yet: those ahead are too far -/
theorem nb_0 {S : Sp} {px py sl fr : Int} {f xs g : Nat → Int} (hs : srt xs f S.m) (ha : ahd xs f S.m g 500) (hx : ∀ s, s < S.m → xs s = S.x s) (so : sO S) (hsl : 0 ≤ sl) (hf : fr = if 0 < px - sl then px - sl else 0) (h4 : fr ≤ 499) : ∃ j : Nat, g fr.toNat = (j : Int) ∧ j ≤ S.m ∧ nbI S px py sl f j (-1) (sl * sl) := by
  have hfr : 0 ≤ fr := by rw [hf]; split <;> omega
  have w := ha fr.toNat (by omega)
  refine ⟨(g fr.toNat).toNat, by omega, by omega, Or.inl ⟨rfl, rfl, fun k hk => ?_⟩⟩
  have h1 := w.2.2 k (by omega)
  have h2 := hs.1 k (by omega)
  rw [hx (f k).toNat (by omega)] at h1
  have h3 := (so.2 (f k).toNat (by omega)).1
  have h5 := sq_gt (a := S.x (f k).toNat - px) hsl (Or.inr (by split at hf <;> omega))
  have h6 := (sq_b (a := S.y (f k).toNat - py) (M := if S.y (f k).toNat - py < 0 then -(S.y (f k).toNat - py) else S.y (f k).toNat - py) (by split <;> omega) (by split <;> omega)).1
  unfold d2
  omega
theorem nb_br {S : Sp} {px py sl : Int} {f xs : Nat → Int} {j : Nat} (hs : srt xs f S.m) (hx : ∀ s, s < S.m → xs s = S.x s) (hj : j < S.m) (hsl : 0 ≤ sl) (hw : sl < S.x (f j).toNat - px) : ∀ s, s < S.m → (∃ k, k < j ∧ f k = (s : Int)) ∨ sl * sl < d2 S s px py := by
  intro s hs2
  obtain ⟨k, k1, k2⟩ := hs.2.1 s hs2
  rcases Nat.lt_or_ge k j with q | q
  · exact Or.inl ⟨k, q, k2⟩
  · refine Or.inr ?_
    have h1 := hs.2.2 j k q k1
    have h0 := hs.1 j hj
    rw [k2, Int.toNat_natCast, hx s hs2, hx _ (by omega)] at h1
    have h5 := sq_gt (a := S.x s - px) hsl (Or.inl (by omega))
    have h6 := (sq_b (a := S.y s - py) (M := if S.y s - py < 0 then -(S.y s - py) else S.y s - py) (by split <;> omega) (by split <;> omega)).1
    unfold d2
    omega
theorem nb_w {S : Sp} {px py sl v w : Int} {f : Nat → Int} {j : Nat} (h : nbI S px py sl f j v w) : (v = -1 ∨ (0 ≤ v ∧ v < S.m)) ∧ w ≤ sl * sl ∧ (0 ≤ w ∨ w = sl * sl) := by
  rcases h with ⟨h1, h2, _⟩ | ⟨c, h1, h2, h3, h4, _⟩
  · omega
  · have h5 := (sq_b (a := S.x c - px) (M := if S.x c - px < 0 then -(S.x c - px) else S.x c - px) (by split <;> omega) (by split <;> omega)).1
    have h6 := (sq_b (a := S.y c - py) (M := if S.y c - py < 0 then -(S.y c - py) else S.y c - py) (by split <;> omega) (by split <;> omega)).1
    unfold d2 at h3 h4
    omega
end
theorem nb_fr {S : Sp} {px py sl : Int} (so : sO S) (hsl : 0 ≤ sl) (h : 499 < if 0 < px - sl then px - sl else 0) : ∀ s, s < S.m → (∃ k, k < 0 ∧ (fun _ => (0 : Int)) k = (s : Int)) ∨ sl * sl < d2 S s px py := by
  intro s hs
  refine Or.inr ?_
  have h3 := (so.2 s hs).1
  have h5 := sq_gt (a := S.x s - px) hsl (Or.inr (by split at h <;> omega))
  have h6 := (sq_b (a := S.y s - py) (M := if S.y s - py < 0 then -(S.y s - py) else S.y s - py) (by split <;> omega) (by split <;> omega)).1
  unfold d2
  omega
theorem ld_e {S : Sp} {X X1 X2 : VV} (hL : ldI S S.m X) (h4 : X 44 4 = (S.m : Int)) (c1 : chg [(47, 47)] [] X X1) (c2 : chg [(50, 51)] [] X1 X2) (p1 : ∀ i, i < S.m → X1 47 i = X 49 ((i + 0) % S.m)) (p2 : srt (X1 46) (X2 50) S.m ∧ ahd (X1 46) (X2 50) S.m (X2 51) 500) : mapC S X2 ∧ ∀ i, i < S.m → X2 49 i = S.y i := by
  have e44 : X2 44 = X 44 := (chg_k c2 rfl).trans (chg_k c1 rfl)
  have e45 : X2 45 = X 45 := (chg_k c2 rfl).trans (chg_k c1 rfl)
  have e46 : X2 46 = X 46 := (chg_k c2 rfl).trans (chg_k c1 rfl)
  have e461 : X2 46 = X1 46 := chg_k c2 rfl
  have e48 : X2 48 = X 48 := (chg_k c2 rfl).trans (chg_k c1 rfl)
  have e49 : X2 49 = X 49 := (chg_k c2 rfl).trans (chg_k c1 rfl)
  have e47 : X2 47 = X1 47 := chg_k c2 rfl
  refine ⟨⟨⟨by rw [e44]; exact h4, fun i hi => ?_⟩, by rw [e461]; exact p2.1, by rw [e461]; exact p2.2⟩, fun i hi => by rw [e49]; exact (hL i hi).2.2.1⟩
  rw [e45, e46, e47, e48]
  refine ⟨(hL i hi).1, (hL i hi).2.1, ?_, (hL i hi).2.2.2⟩
  rw [p1 i hi, Nat.add_zero, Nat.mod_eq_of_lt hi]
  exact (hL i hi).2.2.1
