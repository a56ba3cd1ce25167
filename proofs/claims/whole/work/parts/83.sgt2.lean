/-! the class's spots, step by step -/
theorem bi_if (P : Prop) [Decidable P] : bi (decide P) = if P then 1 else 0 := by
  by_cases q : P
  · rw [decide_eq_true q, if_pos q]; rfl
  · rw [decide_eq_false q, if_neg q]; rfl
section
variable {b : Bk} {k : Int} {c : Nat} {X X' V : VV} {h g : Nat}
theorem ow_nt (ht : ¬ thr b k h) : owO b k c h = -1 ∧ ¬ isSp b k c h = true := by
  have hp : ¬ isSp b k c h = true := fun z => ht (isSp_iff.mp z).1.1
  refine ⟨?_, hp⟩
  unfold owO
  rw [if_neg hp, if_neg (fun z => ht z.1)]
theorem ow_first (ht : thr b k h) (hd : ¬ b.dg h = 1) : owO b k c h = if fieldP (fdX b c h) (fdY b c h) then (h : Int) else -1 := by
  unfold owO
  by_cases q : fieldP (fdX b c h) (fdY b c h)
  · rw [if_pos (isSp_iff.mpr ⟨⟨ht, q⟩, fun z => hd z.1⟩), if_pos q]
  · rw [if_neg (fun z => q (isSp_iff.mp z).1.2), if_neg (fun z => hd z.2.1), if_neg q]
theorem nrF_stk (hg : nrF b k c h g = true) : stk b k (fdX b c h) (fdY b c h) g = true := by
  have w := of_decide_eq_true hg
  exact decide_eq_true ⟨w.1, w.2.1, w.2.2.2⟩
theorem ow_hit (ht : thr b k h) (hd : b.dg h = 1) (hg : g < b.n) (hn : nrF b k c h g = true) (hno : ∀ i, i < g → nrF b k c h i = false) : owO b k c h = (g : Int) := by
  have hs : stks b k (fdX b c h) (fdY b c h) = true := anyB_iff.mpr ⟨g, hg, nrF_stk hn⟩
  unfold owO
  rw [if_neg (fun z => (isSp_iff.mp z).2 ⟨hd, hs⟩), if_pos ⟨ht, hd, hs⟩]
  exact fst_is hg hn hno
theorem ow_end (ht : thr b k h) (hd : b.dg h = 1) (hno : ∀ i, i < b.n → nrF b k c h i = false) : owO b k c h = if fieldP (fdX b c h) (fdY b c h) ∧ ¬ stks b k (fdX b c h) (fdY b c h) = true then (h : Int) else -1 := by
  unfold owO
  by_cases hs : stks b k (fdX b c h) (fdY b c h) = true
  · rw [if_neg (fun z => (isSp_iff.mp z).2 ⟨hd, hs⟩), if_pos ⟨ht, hd, hs⟩, if_neg (fun z => z.2 hs)]
    exact fst_no hno
  · by_cases q : fieldP (fdX b c h) (fdY b c h)
    · rw [if_pos (isSp_iff.mpr ⟨⟨ht, q⟩, fun z => hs z.2⟩), if_pos ⟨q, hs⟩]
    · rw [if_neg (fun z => q (isSp_iff.mp z).1.2), if_neg (fun z => hs z.2.2), if_neg (fun z => q z.1)]
theorem ow_self (hh : h < b.n) : owO b k c h = (h : Int) ↔ isSp b k c h = true := by
  constructor
  · intro e
    rcases ow_is (k := k) (c := c) hh with w | ⟨g, h1, h2, h3⟩
    · omega
    · rw [show h = g by omega]; exact h3
  · exact ow_sp
/-- names of the spots, up to a hole -/
def nmC (b : Bk) (k : Int) (c h : Nat) (X : VV) : Prop := X 34 8 = (cntB (isSp b k c) h : Int) ∧ (∀ i, i < h → X 39 i = owO b k c i) ∧ ∀ i, i < cntB (isSp b k c) h → X 41 i = (shO b k c i : Int)
theorem nm_s {v : Int} (hL : nmC b k c h X) (hp : ¬ isSp b k c h = true) (hv : v = owO b k c h) (e : X' = uV X 39 h v) : nmC b k c (h + 1) X' := by
  obtain ⟨h1, h2, h3⟩ := hL
  unfold nmC
  rw [cntB_f hp]
  subst e
  exact ⟨h1, row_s rfl hv h2, h3⟩
theorem nm_a {v w : Int} (hh : h < b.n) (hL : nmC b k c h X) (hp : isSp b k c h = true) (hv : v = owO b k c h) (hw : w = X 34 8 + 1) (e : X' = uV (uV (uV X 39 h v) 41 (X 34 8).toNat (h : Int)) 34 8 w) : nmC b k c (h + 1) X' := by
  obtain ⟨h1, h2, h3⟩ := hL
  unfold nmC
  rw [cntB_t hp]
  have hs : shO b k c (cntB (isSp b k c) h) = h := nth_cnt hh hp
  rw [h1, Int.toNat_natCast] at e
  have e1 : X' 39 = uV X 39 h v 39 := by rw [e]; rfl
  have e2 : X' 41 = uV X 41 (cntB (isSp b k c) h) (h : Int) 41 := by rw [e]; rfl
  have e3 : X' 34 8 = w := by rw [e]; rfl
  refine ⟨by rw [e3, hw, h1]; rfl, row_p e1 hv h2, row_p (f := fun i => (shO b k c i : Int)) e2 (by rw [hs]) h3⟩
/-- depths of the spots, up to a hole -/
theorem mx_n {g : Nat} (e : ¬ owO b k c h = (g : Int)) : mxD b k c g (h + 1) = mxD b k c g h := by
  show (if _ ∧ _ then _ else _) = _
  rw [if_neg (fun z => e z.1)]
theorem mx_t {g : Nat} (e : owO b k c h = (g : Int)) : mxD b k c g (h + 1) = if mxD b k c g h < depO b k h then depO b k h else mxD b k c g h := by
  show (if _ ∧ _ then _ else _) = _
  by_cases q : mxD b k c g h < depO b k h
  · rw [if_pos ⟨e, q⟩, if_pos q]
  · rw [if_neg (fun z => q z.2), if_neg q]
theorem dp_s {g0 j : Nat} {v : Int} (hL : ∀ g, g < 40 → X 40 g = mxD b k c g h) (ho : owO b k c h = (g0 : Int)) (hv : v = if X 40 g0 < depO b k h then depO b k h else X 40 g0) (hg : g0 < 40) (e : X' = uV X 40 j v) (hj : j = g0) : ∀ g, g < 40 → X' 40 g = mxD b k c g (h + 1) := by
  subst hj
  intro g hg'
  rw [e, uV_at]
  by_cases q : g = j
  · subst q
    rw [if_pos rfl, mx_t ho, hv, hL g hg']
  · rw [if_neg q, mx_n (by omega)]
    exact hL g hg'
theorem shO_inj {i j : Nat} (hi : i < nSp b k c) (hj : j < nSp b k c) (e : shO b k c i = shO b k c j) : i = j := by
  have h1 := (nth_ok (p := isSp b k c) (n := b.n) hi).2.2
  have h2 := (nth_ok (p := isSp b k c) (n := b.n) hj).2.2
  unfold shO at e
  rw [e] at h1
  omega
theorem fl_s {i : Nat} {v : Int} (hL : ∀ j, j < nSp b k c → X 40 (shO b k c j) = if j < i then fulO b k c (shO b k c j) else mxD b k c (shO b k c j) b.n) (hi : i < nSp b k c) (hv : v = X 40 (shO b k c i) + plgO b (fdX b c (shO b k c i)) (fdY b c (shO b k c i))) (e : X' = uV X 40 (shO b k c i) v) : ∀ j, j < nSp b k c → X' 40 (shO b k c j) = if j < i + 1 then fulO b k c (shO b k c j) else mxD b k c (shO b k c j) b.n := by
  intro j hj
  rw [e, uV_at]
  by_cases q : j = i
  · subst q
    rw [if_pos rfl, if_pos (by omega), hv, hL j hj, if_neg (by omega)]
    rfl
  · rw [if_neg (fun z => q (shO_inj hj hi z)), hL j hj]
    by_cases w : j < i
    · rw [if_pos w, if_pos (by omega)]
    · rw [if_neg w, if_neg (by omega)]
/-- all that the class sees, as it lies -/
def sgC (b : Bk) (k : Int) (c : Nat) (X : VV) : Prop := frC b k X c ∧ X 34 8 = (nSp b k c : Int) ∧ snC b k X ∧ (∀ h, h < b.n → X 36 h = fdX b c h ∧ X 37 h = fdY b c h) ∧ (∀ h, h < b.n → X 39 h = owO b k c h) ∧ (∀ i, i < nSp b k c → X 41 i = (shO b k c i : Int)) ∧ ∀ i, i < nSp b k c → X 40 (shO b k c i) = fulO b k c (shO b k c i)
theorem sp_f {g : Nat} (hg : b.dg g = 0) (s : stk b k (fdX b c h) (fdY b c h) g = true) (hf : fieldP (fdX b c g) (fdY b c g)) : nrF b k c h g = true := by
  have w := of_decide_eq_true s
  have f := fd0 (c := c) hg
  rw [f.1, f.2] at hf
  exact decide_eq_true ⟨w.1, w.2.1, hf, w.2.2⟩
theorem sp_nf {g : Nat} (hf : ¬ fieldP (fdX b c g) (fdY b c g)) : nrF b k c h g = false := by
  apply decide_eq_false
  intro w
  have f := fd0 (c := c) w.1
  rw [f.1, f.2] at hf
  exact hf w.2.2.1
end
theorem bi_01 (b : Bool) : 0 ≤ bi b ∧ bi b ≤ 1 := by cases b <;> exact ⟨by decide, by decide⟩
section
variable {b : Bk} {k : Int} {c : Nat} {X X' V Y T B X1 X2 : VV} {h g i : Nat}
theorem dep_n (e : ¬ (b.rO i = (h : Int) ∧ b.rK i ≤ k)) : dep b k h (i + 1) = dep b k h i := by
  show (if _ then _ else _) = _
  rw [if_neg e]
theorem dep_w {j : Nat} {v : Int} (hX : ∀ h, h < b.n → X 38 h = dep b k h i) (hr : b.rO i = (j : Int)) (hk : b.rK i ≤ k) (e : X' = uV X 38 j v) (hv : v = b.rD i) : ∀ h, h < b.n → X' 38 h = dep b k h (i + 1) := by
  intro h hh
  rw [e, uV_at]
  by_cases q : h = j
  · subst q
    rw [if_pos rfl]
    show _ = if _ then _ else _
    rw [if_pos ⟨hr, hk⟩, hv]
  · rw [if_neg q, dep_n (fun z => q (by omega))]
    exact hX h hh
theorem lk_0 {v w : Int} (eB : B = uV (uV Y 36 h v) 37 h w) (hv : v = fdX b c h) (hw : w = fdY b c h) (hY : ∀ i, i < h → Y 36 i = fdX b c i ∧ Y 37 i = fdY b c i) : ∀ i, i < h + 1 → B 36 i = fdX b c i ∧ B 37 i = fdY b c i := by
  intro i hi
  have e1 : B 36 = uV Y 36 h v 36 := by rw [eB]; rfl
  have e2 : B 37 = uV Y 37 h w 37 := by rw [eB]; rfl
  exact ⟨row_p e1 hv (fun i hi => (hY i hi).1) i hi, row_p e2 hw (fun i hi => (hY i hi).2) i hi⟩
theorem lk_1 {v w u1 u2 : Int} (eT : T = uV (uV Y 36 h u1) 37 h u2) (eB : B = uV (uV T 36 h v) 37 h w) (hv : v = fdX b c h) (hw : w = fdY b c h) (hY : ∀ i, i < h → Y 36 i = fdX b c i ∧ Y 37 i = fdY b c i) : ∀ i, i < h + 1 → B 36 i = fdX b c i ∧ B 37 i = fdY b c i := by
  intro i hi
  have e1 : B 36 i = uV Y 36 h v 36 i := by
    rw [eB]
    show uV T 36 h v 36 i = _
    rw [uV_at, uV_at, eT]
    by_cases q : i = h
    · rw [if_pos q, if_pos q]
    · rw [if_neg q, if_neg q]
      show uV Y 36 h u1 36 i = _
      rw [uV_at, if_neg q]
  have e2 : B 37 i = uV Y 37 h w 37 i := by
    rw [eB, uV_at, uV_at, eT]
    by_cases q : i = h
    · rw [if_pos q, if_pos q]
    · rw [if_neg q, if_neg q]
      show uV (uV Y 36 h u1) 37 h u2 37 i = _
      rw [uV_at, if_neg q]
      rfl
  rw [e1, e2, uV_at, uV_at]
  by_cases q : i = h
  · subst q; rw [if_pos rfl, if_pos rfl]; exact ⟨hv, hw⟩
  · rw [if_neg q, if_neg q]; exact hY i (by omega)
theorem fd_o (hd : ¬ b.dg h = 1) {t : Int} : oX b h t = fdX b c h ∧ oY b h t = fdY b c h := by
  unfold oX oY fdX fdY
  rw [if_neg hd, if_neg hd, if_neg hd, if_neg hd]
  exact ⟨rfl, rfl⟩
theorem fd_1 (hd : b.dg h = 1) : fdX b c h = oX b h ((c / 1681 : Nat) : Int) + (((c / 41 % 41 : Nat) : Int) - 20) ∧ fdY b c h = oY b h ((c / 1681 : Nat) : Int) + (((c % 41 : Nat) : Int) - 20) := by
  unfold oX oY fdX fdY
  rw [if_pos hd, if_pos hd, if_pos hd, if_pos hd]
  exact ⟨rfl, rfl⟩
theorem frC_x (hf : frC b k Y c) (e : ∀ j, 9 ≤ j → j ≤ 12 → X1 34 j = Y 34 j) : frC b k X1 c := by
  unfold frC
  rw [e 9 (by omega) (by omega), e 10 (by omega) (by omega), e 11 (by omega) (by omega), e 12 (by omega) (by omega)]
  exact hf
theorem sg_e (c1 : chg [(39, 39), (41, 41)] [(34, 8, 8)] Y X1) (c2 : chg [(40, 40)] [] X1 X2) (hf : frC b k Y c) (sY : snC b k Y) (hY : ∀ i, i < b.n → Y 36 i = fdX b c i ∧ Y 37 i = fdY b c i) (p1 : nmC b k c b.n X1) (p2 : ∀ i, i < nSp b k c → X2 40 (shO b k c i) = fulO b k c (shO b k c i)) : sgC b k c X2 := by
  have e34 : X2 34 = X1 34 := chg_k c2 rfl
  have e35 : X2 35 = Y 35 := (chg_k c2 rfl).trans (chg_k c1 rfl)
  have e36 : X2 36 = Y 36 := (chg_k c2 rfl).trans (chg_k c1 rfl)
  have e37 : X2 37 = Y 37 := (chg_k c2 rfl).trans (chg_k c1 rfl)
  have e39 : X2 39 = X1 39 := chg_k c2 rfl
  have e41 : X2 41 = X1 41 := chg_k c2 rfl
  unfold sgC snC
  rw [e34, e35, e36, e37, e39, e41]
  refine ⟨?_, p1.1, sY, hY, p1.2.1, p1.2.2, p2⟩
  refine frC_x hf (fun j h1 h2 => ?_)
  rw [e34]
  rcases (show j = 9 ∨ j = 10 ∨ j = 11 ∨ j = 12 by omega) with rfl | rfl | rfl | rfl <;> exact chg_j c1 rfl
end
