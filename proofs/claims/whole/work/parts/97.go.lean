/-! all houses of a kind, one after the other -/
abbrev GS : Type := Bool × Int × Nat × (Nat → Nat → Int)
section
variable (b : Bk) (k : Int) (S : Sp) (Ks : Nat → Kd)
def stH (K : Kd) (p q r : Nat) : HS := (hsO b k S K p q r (frO b k S K p q r)).getD (0, 0, 0, 0, 0)
def vlH (K : Kd) (s : HS) : Int := K.l 9 * s.1 - 5 * s.2.1 - 2 * s.2.2.1
/-- a house as a row -/
def recO (kd p q r : Nat) (f : Nat) : Int :=
  if f = 0 then (kd : Int) else if f = 1 then (p : Int) else if f = 2 then (q : Int) else if f = 3 then (r : Int) else if f = 4 then (frO b k S (Ks kd) p q r : Int)
  else if f = 5 then (stH b k S (Ks kd) p q r).1 else if f = 6 then (stH b k S (Ks kd) p q r).2.1 else if f = 7 then (stH b k S (Ks kd) p q r).2.2.1 else if f = 8 then (stH b k S (Ks kd) p q r).2.2.2.1
  else if f = 9 then vlH (Ks kd) (stH b k S (Ks kd) p q r) else ((stH b k S (Ks kd) p q r).2.2.2.2 : Int)
def stpG (kd : Nat) (z : Bool) (st : GS) (p q r : Nat) : GS :=
  if p = q ∨ p = r ∨ q = r ∨ frO b k S (Ks kd) p q r = 0 then st else
  (true, if st.1 = false ∨ st.2.1 < recO b k S Ks kd p q r 9 then recO b k S Ks kd p q r 9 else st.2.1, if z = true then kpN st.2.2.1 st.2.2.2 (recO b k S Ks kd p q r) else st.2.2.1, if z = true then kpL st.2.2.1 st.2.2.2 (recO b k S Ks kd p q r) else st.2.2.2)
def goR (kd : Nat) (z : Bool) (st : GS) (p q : Nat) : Nat → GS
  | 0 => st
  | r + 1 => stpG b k S Ks kd z (goR kd z st p q r) p q r
def goQ (kd : Nat) (z : Bool) (st : GS) (p : Nat) : Nat → GS
  | 0 => st
  | q + 1 => goR b k S Ks kd z (goQ kd z st p q) p q S.m
def goP (kd : Nat) (z : Bool) (st : GS) : Nat → GS
  | 0 => st
  | p + 1 => goQ b k S Ks kd z (goP kd z st p) p S.m
/-- a row that is a house found -/
def genR (row : Nat → Int) : Prop := ∃ kd p q r : Nat, kd < 5 ∧ p < S.m ∧ q < S.m ∧ r < S.m ∧ frO b k S (Ks kd) p q r ≠ 0 ∧ (∃ s, hsO b k S (Ks kd) p q r (frO b k S (Ks kd) p q r) = some s) ∧ (∀ f, f < 11 → row f = recO b k S Ks kd p q r f) ∧ ∀ a c, a < frO b k S (Ks kd) p q r → c < ((Ks kd).l 0).toNat → row (11 + (4 * a + c)) = plO b k S (Ks kd) p q r a c
end
/-- alike but for the places -/
def agr (N : Nat) (l l' : Nat → Nat → Int) : Prop := ∀ i, i < N → ∀ f, f < 11 → l i f = l' i f
section
variable {N : Nat} {l l' : Nat → Nat → Int} {e e' : Nat → Int}
theorem sm_agr (h : agr N l l') (he : ∀ f, f < 11 → e f = e' f) : ∀ n, n ≤ N → smF l e n = smF l' e' n
  | 0, _ => rfl
  | n + 1, hn => by
    unfold smF
    rw [h n (by omega) 0 (by omega), h n (by omega) 10 (by omega), he 0 (by omega), he 10 (by omega), sm_agr h he n (by omega)]
theorem k1_agr (h : agr N l l') (he : ∀ f, f < 11 → e f = e' f) : k1N N l e = k1N N l' e' ∧ agr (k1N N l e) (k1L N l e) (k1L N l' e') := by
  have hs := sm_agr h he N (Nat.le_refl _)
  have hr := sm_r (l := l) (e := e) N
  unfold k1N k1L
  rw [← hs]
  refine ⟨rfl, fun i hi f hf => ?_⟩
  by_cases q : smF l e N = -1
  · rw [if_pos q] at hi ⊢
    rw [if_pos q]
    exact h i hi f hf
  · rw [if_neg q] at hi ⊢
    rw [if_neg q]
    unfold delF
    by_cases w : i < (smF l e N).toNat
    · rw [if_pos w, if_pos w]; exact h i (by omega) f hf
    · rw [if_neg w, if_neg w]; exact h (i + 1) (by omega) f hf
theorem at_agr {v : Int} (h : agr N l l') : ∀ n, n ≤ N → atF l v n = atF l' v n
  | 0, _ => rfl
  | n + 1, hn => by
    unfold atF
    rw [h n (by omega) 9 (by omega), at_agr h n (by omega)]
theorem kpS_agr (h : agr N l l') (he : ∀ f, f < 11 → e f = e' f) : kpS N l e ↔ kpS N l' e' := by
  have hs := sm_agr h he N (Nat.le_refl _)
  have hr := sm_r (l := l) (e := e) N
  unfold kpS
  rw [← hs, he 9 (by omega)]
  by_cases q : smF l e N = -1
  · exact ⟨fun z => absurd q z.1, fun z => absurd q z.1⟩
  · rw [h (smF l e N).toNat (by omega) 9 (by omega)]
theorem kp_agr (h : agr N l l') (he : ∀ f, f < 11 → e f = e' f) : kpN N l e = kpN N l' e' ∧ agr (kpN N l e) (kpL N l e) (kpL N l' e') := by
  have hk := k1_agr h he
  have ha := at_agr (v := e 9) hk.2 _ (Nat.le_refl _)
  have hS := kpS_agr h he
  have e9 := he 9 (by omega)
  have hle := at_le (l := k1L N l e) (v := e 9) (k1N N l e)
  rw [e9] at ha
  unfold kpN kpL
  by_cases q : kpS N l e
  · rw [if_pos q, if_pos q, if_pos (hS.mp q), if_pos (hS.mp q)]
    exact ⟨rfl, h⟩
  · rw [if_neg q, if_neg q, if_neg (fun z => q (hS.mpr z)), if_neg (fun z => q (hS.mpr z)), e9, ha, hk.1]
    by_cases w : atF (k1L N l' e') (e' 9) (k1N N l' e') = 24
    · rw [if_pos w, if_pos w, if_pos w]
      exact ⟨rfl, by rw [← hk.1]; exact hk.2⟩
    · rw [if_neg w, if_neg w, if_neg w]
      refine ⟨rfl, fun i hi f hf => ?_⟩
      have hk2 := hk.2
      rw [hk.1] at hk2
      have hle2 := at_le (l := k1L N l' e') (v := e' 9) (k1N N l' e')
      unfold insF
      by_cases y : i < atF (k1L N l' e') (e' 9) (k1N N l' e')
      · rw [if_pos y, if_pos y]
        exact hk2 i (by omega) f hf
      · rw [if_neg y, if_neg y]
        by_cases x : i = atF (k1L N l' e') (e' 9) (k1N N l' e')
        · rw [if_pos x, if_pos x]; exact he f hf
        · rw [if_neg x, if_neg x]
          refine hk2 (i - 1) ?_ f hf
          split at hi <;> omega
theorem kp_mem {P : (Nat → Int) → Prop} (h : ∀ i, i < N → P (l i)) (he : P e) (hN : N ≤ 24) : ∀ i, i < kpN N l e → P (kpL N l e i) := by
  have h1 : ∀ i, i < k1N N l e → P (k1L N l e i) := by
    intro i hi
    have hr := sm_r (l := l) (e := e) N
    unfold k1N at hi
    unfold k1L
    by_cases q : smF l e N = -1
    · rw [if_pos q] at hi ⊢; exact h i hi
    · rw [if_neg q] at hi ⊢
      unfold delF
      by_cases w : i < (smF l e N).toNat
      · rw [if_pos w]; exact h i (by omega)
      · rw [if_neg w]; exact h (i + 1) (by omega)
  intro i hi
  unfold kpN at hi
  unfold kpL
  by_cases q : kpS N l e
  · rw [if_pos q] at hi ⊢; exact h i hi
  · rw [if_neg q] at hi ⊢
    by_cases w : atF (k1L N l e) (e 9) (k1N N l e) = 24
    · rw [if_pos w] at hi ⊢; exact h1 i hi
    · rw [if_neg w] at hi ⊢
      have hle := at_le (l := k1L N l e) (v := e 9) (k1N N l e)
      unfold insF
      by_cases y : i < atF (k1L N l e) (e 9) (k1N N l e)
      · rw [if_pos y]; exact h1 i (by omega)
      · rw [if_neg y]
        by_cases x : i = atF (k1L N l e) (e 9) (k1N N l e)
        · rw [if_pos x]; exact he
        · rw [if_neg x]
          refine h1 (i - 1) ?_
          split at hi <;> omega
theorem kpN_le (hN : N ≤ 24) : kpN N l e ≤ 24 := by
  have h1 := k1N_le (N := N) (l := l) (e := e)
  unfold kpN
  by_cases q : kpS N l e
  · rw [if_pos q]; exact hN
  · rw [if_neg q]
    split
    · omega
    · split <;> omega
end
/-- the list as it lies in the reference -/
def lsM (b : Bk) (k : Int) (S : Sp) (Ks : Nat → Kd) (N : Nat) (l : Nat → Nat → Int) (X : VV) : Prop := N ≤ 24 ∧ ∃ l', hsL N l' X ∧ agr N l' l ∧ ∀ i, i < N → genR b k S Ks (l' i)
section
variable {b : Bk} {k : Int} {S : Sp} {Ks : Nat → Kd} {N : Nat} {l : Nat → Nat → Int} {X X' V V' : VV} {A : List (Nat × Nat)} {F : List (Nat × Nat × Nat)} {kd p q r : Nat}
theorem hsL_x (h : hsL N l X) (h1 : X' 99 57 = X 99 57) (h2 : ∀ c, 135 ≤ c → c ≤ 146 → X' c = X c) : hsL N l X' := by
  refine ⟨h1.trans h.1, fun i hi f hf => ?_⟩
  rw [← h.2 i hi f hf]
  unfold rowO
  by_cases q : f < 11
  · rw [if_pos q, if_pos q, h2 _ (by omega) (by omega)]
  · rw [if_neg q, if_neg q, h2 146 (by omega) (by omega)]
theorem lsM_x (h : lsM b k S Ks N l X) (h1 : X' 99 57 = X 99 57) (h2 : ∀ c, 135 ≤ c → c ≤ 146 → X' c = X c) : lsM b k S Ks N l X' := by
  obtain ⟨h0, l', h3, h4, h5⟩ := h
  exact ⟨h0, l', hsL_x h3 h1 h2, h4, h5⟩
/-- what framed left, as a row -/
theorem new_rec {W : VV} (hn : frO b k S (Ks kd) p q r ≠ 0) (hf : frS b k S (Ks kd) p q r (frO b k S (Ks kd) p q r) W) : ∀ f, f < 11 → newE W kd p q r (frO b k S (Ks kd) p q r) f = recO b k S Ks kd p q r f := by
  obtain ⟨s, h1, h2, h3, h4⟩ := hf hn
  have es : stH b k S (Ks kd) p q r = s := by unfold stH; rw [h1]; rfl
  apply f11
  · rfl
  · rfl
  · rfl
  · rfl
  · rfl
  · show W 99 72 = (stH b k S (Ks kd) p q r).1; rw [es]; exact h2.1
  · show W 99 73 = (stH b k S (Ks kd) p q r).2.1; rw [es]; exact h2.2.1
  · show W 99 74 = (stH b k S (Ks kd) p q r).2.2.1; rw [es]; exact h2.2.2.1
  · show W 99 75 = (stH b k S (Ks kd) p q r).2.2.2.1; rw [es]; exact h2.2.2.2.1
  · show W 99 76 = vlH (Ks kd) (stH b k S (Ks kd) p q r); rw [es]; exact h3
  · show W 99 77 = ((stH b k S (Ks kd) p q r).2.2.2.2 : Int); rw [es]; exact h2.2.2.2.2
theorem new_gen {W : VV} (hkd : kd < 5) (hp : p < S.m) (hq : q < S.m) (hr : r < S.m) (hn : frO b k S (Ks kd) p q r ≠ 0) (hf : frS b k S (Ks kd) p q r (frO b k S (Ks kd) p q r) W) : genR b k S Ks (newE W kd p q r (frO b k S (Ks kd) p q r)) := by
  have h0 := new_rec hn hf
  obtain ⟨s, h1, h2, h3, h4⟩ := hf hn
  refine ⟨kd, p, q, r, hkd, hp, hq, hr, hn, ⟨s, h1⟩, h0, fun a c ha hc => ?_⟩
  rw [newE_p]
  exact h4 a c (Or.inl ⟨ha, hc⟩)
theorem ls_keep {W : VV} (h : lsM b k S Ks N l W) (hkd : kd < 5) (hp : p < S.m) (hq : q < S.m) (hr : r < S.m) (hn : frO b k S (Ks kd) p q r ≠ 0) (hf : frS b k S (Ks kd) p q r (frO b k S (Ks kd) p q r) W) {l' : Nat → Nat → Int} (h3 : hsL N l' W) (h4 : agr N l' l) (h5 : ∀ i, i < N → genR b k S Ks (l' i)) (hX : hsL (kpN N l' (newE W kd p q r (frO b k S (Ks kd) p q r))) (kpL N l' (newE W kd p q r (frO b k S (Ks kd) p q r))) X) : lsM b k S Ks (kpN N l (recO b k S Ks kd p q r)) (kpL N l (recO b k S Ks kd p q r)) X := by
  have ha := kp_agr h4 (new_rec hn hf)
  rw [← ha.1]
  exact ⟨kpN_le h.1, _, hX, ha.2, kp_mem h5 (new_gen hkd hp hq hr hn hf) h.1⟩
theorem top_r {K : Kd} {lo : Nat} : ∀ n, topF b k S K p q r lo n = 0 ∨ (0 < topF b k S K p q r lo n ∧ topF b k S K p q r lo n ≤ n ∧ hwB b k S K p q r (topF b k S K p q r lo n) = true ∧ lo ≤ topF b k S K p q r lo n)
  | 0 => Or.inl rfl
  | n + 1 => by
    unfold topF
    by_cases q1 : n + 1 < lo
    · rw [if_pos q1]; exact Or.inl rfl
    · rw [if_neg q1]
      by_cases q2 : hwB b k S K p q r (n + 1) = true
      · rw [if_pos q2]; exact Or.inr ⟨by omega, by omega, q2, by omega⟩
      · rw [if_neg q2]
        rcases top_r (K := K) (lo := lo) n with h | h
        · exact Or.inl h
        · exact Or.inr ⟨h.1, by omega, h.2.2⟩
theorem fr_r {K : Kd} (ko : kO K) : frO b k S K p q r ≤ 8 := by
  unfold frO
  split
  · rcases top_r (b := b) (k := k) (S := S) (K := K) (p := p) (q := q) (r := r) (lo := (K.l 1).toNat) (K.h 1).toNat with h | h
    · omega
    · have := ko.2.1; omega
  · omega
/-- bounds of what framed left -/
theorem fr_b {K : Kd} {W : VV} {n : Nat} (hm : S.m ≤ 40) (ko : kO K) (hn : n ≤ 8) (hn0 : n ≠ 0) (hf : frS b k S K p q r n W) : (0 ≤ W 99 72 ∧ W 99 72 ≤ 32) ∧ (0 ≤ W 99 73 ∧ W 99 73 ≤ 32) ∧ (0 ≤ W 99 74 ∧ W 99 74 ≤ 32) ∧ (0 ≤ W 99 75 ∧ W 99 75 ≤ 32) ∧ 0 ≤ W 99 77 ∧ W 99 77 < 1099511627776 := by
  obtain ⟨s, h1, h2, _⟩ := hf hn0
  obtain ⟨ro, hro⟩ : ∃ ro : Nat, K.l 0 = (ro : Int) := ⟨(K.l 0).toNat, by have := ko.1; omega⟩
  have hI := hs_I (j := 0) hro hm h1 rfl
  have hr4 : ro ≤ 4 := by have := ko.1; omega
  have hmul : n * ro ≤ 8 * 4 := Nat.mul_le_mul hn hr4
  have h3 := hI.1
  have h4 : s.2.2.2.2 < 1099511627776 := hI.2.1
  obtain ⟨g1, g2, g3, g4, g5⟩ := h2
  omega
end
section
variable {b : Bk} {k : Int} {S : Sp} {Ks : Nat → Kd} {N : Nat} {l : Nat → Nat → Int} {X X' V V' W : VV} {A : List (Nat × Nat)} {F : List (Nat × Nat × Nat)} {kd p q r : Nat} {z : Bool} {st : GS} {x y : Int}
def okL (A : List (Nat × Nat)) (F : List (Nat × Nat × Nat)) : Bool := ((List.range 12).all fun i => offC A F (135 + i)) && (!(inA A 99) && !(inF F 99 57))
theorem lsM_c (h : lsM b k S Ks N l V) (f : chg A F V V') (ok : okL A F = true) : lsM b k S Ks N l V' := by
  unfold okL at ok
  rw [Bool.and_eq_true, List.all_eq_true] at ok
  refine lsM_x h (chg_j f ok.2) (fun c h1 h2 => ?_)
  have := ok.1 (c - 135) (List.mem_range.mpr (by omega))
  rw [show 135 + (c - 135) = c by omega] at this
  exact chg_k f this
/-- a search's state as it lies in the reference -/
def gsM (b : Bk) (k : Int) (S : Sp) (Ks : Nat → Kd) (z : Bool) (st : GS) (X : VV) (x y : Int) : Prop := x = st.2.1 ∧ y = (if st.1 = true then 1 else 0) ∧ (-1000 ≤ x ∧ x ≤ 10000) ∧ (z = true → lsM b k S Ks st.2.2.1 st.2.2.2 X)
theorem gs_0 (h : gsM b k S Ks z st X x y) (hq : p = q ∨ p = r ∨ q = r ∨ frO b k S (Ks kd) p q r = 0) : gsM b k S Ks z (stpG b k S Ks kd z st p q r) X x y := by
  unfold stpG; rw [if_pos hq]; exact h
theorem gs_c (h : gsM b k S Ks z st X x y) (f : chg A F X X') (ok : okL A F = true) : gsM b k S Ks z st X' x y := ⟨h.1, h.2.1, h.2.2.1, fun w => lsM_c (h.2.2.2 w) f ok⟩
theorem gs_1 (hn : ¬ (p = q ∨ p = r ∨ q = r ∨ frO b k S (Ks kd) p q r = 0)) (hx : x = if st.1 = false ∨ st.2.1 < recO b k S Ks kd p q r 9 then recO b k S Ks kd p q r 9 else st.2.1) (hb : -1000 ≤ x ∧ x ≤ 10000) (hl : z = true → lsM b k S Ks (kpN st.2.2.1 st.2.2.2 (recO b k S Ks kd p q r)) (kpL st.2.2.1 st.2.2.2 (recO b k S Ks kd p q r)) X) : gsM b k S Ks z (stpG b k S Ks kd z st p q r) X x 1 := by
  unfold stpG; rw [if_neg hn]
  refine ⟨hx, rfl, hb, fun w => ?_⟩
  have g := hl w
  subst w
  exact g
theorem gs_y (h : gsM b k S Ks z st X x y) : (0 ≤ y ∧ y ≤ 1) ∧ (y = 0 ↔ st.1 = false) := by
  have := h.2.1
  cases e : st.1 with
  | true => rw [e, if_pos rfl] at this; simp; omega
  | false => rw [e, if_neg (by decide)] at this; simp; omega
theorem rec_9 (hn : frO b k S (Ks kd) p q r ≠ 0) (hf : frS b k S (Ks kd) p q r (frO b k S (Ks kd) p q r) W) : W 99 76 = recO b k S Ks kd p q r 9 := new_rec hn hf 9 (by omega)
end
