/-! seeking: only corners matter -/
section
variable {b : Bk} {k : Int} {S : Sp} {Ks : Nat → Kd} {kd p q r : Nat} {z : Bool} {st : GS}
theorem fr_cr (ko : kO (Ks kd)) (hm : S.m ≤ 40) (h : frO b k S (Ks kd) p q r ≠ 0) : (stpP S (Ks kd) p q ∧ aptP S (Ks kd) p r ∧ dotP S (Ks kd) p q r) ∧ crn S (Ks kd) p = true ∧ crn S (Ks kd) q = true ∧ crn S (Ks kd) r = true := by
  rw [fr_tk ko hm] at h
  exact Classical.byContradiction fun y => h (if_neg y)
theorem stp_id (h : p = q ∨ p = r ∨ q = r ∨ frO b k S (Ks kd) p q r = 0) : stpG b k S Ks kd z st p q r = st := by unfold stpG; rw [if_pos h]
theorem goR_gap {e : Nat} (h : ∀ r st, e ≤ r → stpG b k S Ks kd z st p q r = st) : ∀ {f : Nat}, e ≤ f → goR b k S Ks kd z st p q f = goR b k S Ks kd z st p q e
  | 0, he => by rw [show e = 0 by omega]
  | f + 1, he => by
    by_cases w : e = f + 1
    · rw [w]
    · show stpG b k S Ks kd z (goR b k S Ks kd z st p q f) p q f = _
      rw [h f _ (by omega), goR_gap h (by omega)]
theorem goR_gp {e : Nat} : ∀ {f : Nat}, e ≤ f → (∀ r st, e ≤ r → r < f → stpG b k S Ks kd z st p q r = st) → goR b k S Ks kd z st p q f = goR b k S Ks kd z st p q e
  | 0, he, _ => by rw [show e = 0 by omega]
  | f + 1, he, h => by
    by_cases w : e = f + 1
    · rw [w]
    · show stpG b k S Ks kd z (goR b k S Ks kd z st p q f) p q f = _
      rw [h f _ (by omega) (by omega), goR_gp (by omega) (fun r st h1 h2 => h r st h1 (by omega))]
theorem goQ_gp {e : Nat} : ∀ {f : Nat}, e ≤ f → (∀ q st, e ≤ q → q < f → goR b k S Ks kd z st p q S.m = st) → goQ b k S Ks kd z st p f = goQ b k S Ks kd z st p e
  | 0, he, _ => by rw [show e = 0 by omega]
  | f + 1, he, h => by
    by_cases w : e = f + 1
    · rw [w]
    · show goR b k S Ks kd z (goQ b k S Ks kd z st p f) p f S.m = _
      rw [h f _ (by omega) (by omega), goQ_gp (by omega) (fun q st h1 h2 => h q st h1 (by omega))]
theorem goP_gp {e : Nat} : ∀ {f : Nat}, e ≤ f → (∀ p st, e ≤ p → p < f → goQ b k S Ks kd z st p S.m = st) → goP b k S Ks kd z st f = goP b k S Ks kd z st e
  | 0, he, _ => by rw [show e = 0 by omega]
  | f + 1, he, h => by
    by_cases w : e = f + 1
    · rw [w]
    · show goQ b k S Ks kd z (goP b k S Ks kd z st f) f S.m = _
      rw [h f _ (by omega) (by omega), goP_gp (by omega) (fun p st h1 h2 => h p st h1 (by omega))]
/-- a q that is no corner, is p, or is no step from it -/
theorem goR_no (ko : kO (Ks kd)) (hm : S.m ≤ 40) (h : ¬ (crn S (Ks kd) p = true ∧ crn S (Ks kd) q = true ∧ p ≠ q ∧ stpP S (Ks kd) p q)) {n : Nat} : goR b k S Ks kd z st p q n = st :=
  goR_gp (e := 0) (Nat.zero_le _) (fun r st _ _ => stp_id (Classical.byContradiction fun y => by
    have y1 : p ≠ q := fun w => y (Or.inl w)
    have y2 : frO b k S (Ks kd) p q r ≠ 0 := fun w => y (Or.inr (Or.inr (Or.inr w)))
    have c := fr_cr ko hm y2
    exact h ⟨c.2.1, c.2.2.1, y1, c.1.1⟩))
theorem goQ_no (ko : kO (Ks kd)) (hm : S.m ≤ 40) (h : ¬ crn S (Ks kd) p = true) {n : Nat} : goQ b k S Ks kd z st p n = st :=
  goQ_gp (e := 0) (Nat.zero_le _) (fun q st _ _ => goR_no ko hm (fun y => h y.1))
theorem no_btw {f : Nat → Bool} {e s : Nat} (h : e ≤ s) (hc : cntB f e = cntB f s) : ∀ r, e ≤ r → r < s → ¬ f r = true := by
  intro r h1 h2 y
  have a := cntB_mono (p := f) (m := e) (n := r) h1
  have c := cnt_lt h2 y
  omega
end
/-- a search's state as it lies in the finder, with a list -/
def lsC (S : Sp) (Ks : Nat → Kd) (N : Nat) (l : Nat → Nat → Int) (X : VV) (R : RR) : Prop := N ≤ 24 ∧ X 56 1 = (N : Int) ∧ uniq N l ∧ ∃ ρ, rwI R ρ ∧ rwL S Ks N l ρ X
theorem lsC_x {S : Sp} {Ks : Nat → Kd} {N : Nat} {l : Nat → Nat → Int} {X X' : VV} {R : RR} (h : lsC S Ks N l X R) (h1 : X' 56 = X 56) (h2 : ∀ c, 60 ≤ c → c ≤ 84 → X' c = X c) : lsC S Ks N l X' R := by
  obtain ⟨a, b, c, ρ, d, e⟩ := h
  refine ⟨a, by rw [h1]; exact b, c, ρ, d, fun i hi => ⟨hoC_x (e i hi).1 (fun j _ => ?_), (e i hi).2⟩⟩
  have w := (d.1 i (by omega)).2
  rw [h2 _ w.1 w.2]
def okH (A : List (Nat × Nat)) (F : List (Nat × Nat × Nat)) : Bool := ((List.range 25).all fun i => offC A F (60 + i)) && offC A F 56
theorem lsC_c {S : Sp} {Ks : Nat → Kd} {N : Nat} {l : Nat → Nat → Int} {X X' : VV} {R : RR} {A : List (Nat × Nat)} {F : List (Nat × Nat × Nat)} (h : lsC S Ks N l X R) (f : chg A F X X') (ok : okH A F = true) : lsC S Ks N l X' R := by
  unfold okH at ok
  rw [Bool.and_eq_true, List.all_eq_true] at ok
  refine lsC_x h (chg_k f ok.2) (fun c h1 h2 => ?_)
  have := ok.1 (c - 60) (List.mem_range.mpr (by omega))
  rw [show 60 + (c - 60) = c by omega] at this
  exact chg_k f this
def gsC (S : Sp) (Ks : Nat → Kd) (z : Bool) (st : GS) (X : VV) (R : RR) : Prop := X 52 14 = bi st.1 ∧ X 52 15 = st.2.1 ∧ (z = true → lsC S Ks st.2.2.1 st.2.2.2 X R)
theorem gsC_c {S : Sp} {Ks : Nat → Kd} {z : Bool} {st : GS} {X X' : VV} {R : RR} {A : List (Nat × Nat)} {F : List (Nat × Nat × Nat)} (h : gsC S Ks z st X R) (f : chg A F X X') (ok : (okH A F && ((!(inA A 52) && !(inF F 52 14)) && (!(inA A 52) && !(inF F 52 15)))) = true) : gsC S Ks z st X' R := by
  rw [Bool.and_eq_true, Bool.and_eq_true] at ok
  exact ⟨by rw [chg_j f ok.2.1]; exact h.1, by rw [chg_j f ok.2.2]; exact h.2.1, fun y => lsC_c (h.2.2 y) f ok.1⟩
/-- corners and thirds as they lie -/
def cnC (S : Sp) (K : Kd) (X : VV) : Prop := X 52 5 = (cntB (crn S K) S.m : Int) ∧ ∀ i, i < cntB (crn S K) S.m → X 53 i = (nthB (crn S K) S.m i : Int)
def tdC (S : Sp) (K : Kd) (p : Nat) (X : VV) : Prop := X 52 7 = (cntB (thd S K p) S.m : Int) ∧ ∀ i, i < cntB (thd S K p) S.m → X 54 i = (nthB (thd S K p) S.m i : Int)
def tbC (K : Kd) (kd : Nat) (X : VV) : Prop := X 55 0 = (kd : Int) ∧ X 55 10 = K.l 0 ∧ X 55 11 = K.l 8
def tsC (S : Sp) (p q : Nat) (X : VV) : Prop := X 55 1 = S.h p ∧ X 55 2 = S.h q ∧ X 55 4 = S.x p ∧ X 55 5 = S.y p ∧ X 55 6 = S.x q - S.x p ∧ X 55 7 = S.y q - S.y p
/-- the trial is the house found -/
theorem tr_ho {b : Bk} {k : Int} {S : Sp} {Ks : Nat → Kd} {kd p q r : Nat} {X : VV} (hm : S.m ≤ 40) (ko : kO (Ks kd)) (hf : frO b k S (Ks kd) p q r = tkF b k S (Ks kd) p q r ((Ks kd).l 1).toNat ((Ks kd).h 1).toNat) (hn : frO b k S (Ks kd) p q r ≠ 0) (hb : tbC (Ks kd) kd X) (hs : tsC S p q X) (h3 : X 55 3 = S.h r) (h8 : X 55 8 = S.x r - S.x p) (h9 : X 55 9 = S.y r - S.y p) (ht : trK b k S (Ks kd) p q r (tkF b k S (Ks kd) p q r ((Ks kd).l 1).toNat ((Ks kd).h 1).toNat) X) : hoC S Ks (recO b k S Ks kd p q r) X 55 ∧ rOK S (recO b k S Ks kd p q r) := by
  rw [← hf] at ht
  obtain ⟨s, e1, t1, t2, t3, t4, t5, c, e2, m⟩ := ht.2 hn
  have es : stH b k S (Ks kd) p q r = s := by unfold stH; rw [e1]; rfl
  have r5 : recO b k S Ks kd p q r 5 = s.1 := by show (stH b k S (Ks kd) p q r).1 = _; rw [es]
  have r6 : recO b k S Ks kd p q r 6 = s.2.1 := by show (stH b k S (Ks kd) p q r).2.1 = _; rw [es]
  have r7 : recO b k S Ks kd p q r 7 = s.2.2.1 := by show (stH b k S (Ks kd) p q r).2.2.1 = _; rw [es]
  have r8 : recO b k S Ks kd p q r 8 = s.2.2.2.1 := by show (stH b k S (Ks kd) p q r).2.2.2.1 = _; rw [es]
  have r9 : recO b k S Ks kd p q r 9 = vlH (Ks kd) s := by show vlH (Ks kd) (stH b k S (Ks kd) p q r) = _; rw [es]
  have r10 : recO b k S Ks kd p q r 10 = (s.2.2.2.2 : Int) := by show ((stH b k S (Ks kd) p q r).2.2.2.2 : Int) = _; rw [es]
  have r0 : recO b k S Ks kd p q r 0 = (kd : Int) := rfl
  have r1 : recO b k S Ks kd p q r 1 = (p : Int) := rfl
  have r2 : recO b k S Ks kd p q r 2 = (q : Int) := rfl
  have r3 : recO b k S Ks kd p q r 3 = (r : Int) := rfl
  have r4 : recO b k S Ks kd p q r 4 = (frO b k S (Ks kd) p q r : Int) := rfl
  refine ⟨?_, s.2.2.2.2, r10, fun t y => ?_⟩
  · unfold hoC
    rw [r0, r1, r2, r3, r4, r5, r6, r7, r8, r9, r10, Int.toNat_natCast, Int.toNat_natCast, Int.toNat_natCast, Int.toNat_natCast, Int.toNat_natCast]
    exact ⟨hb.1, hs.1, hs.2.1, h3, hs.2.2.1, hs.2.2.2.1, hs.2.2.2.2.1, hs.2.2.2.2.2, h8, h9, hb.2.1, hb.2.2, ht.1, t1, t2, t3, t4, t5, c, e2, m⟩
  · have hro : (Ks kd).l 0 = (((Ks kd).l 0).toNat : Int) := by have := ko.1; omega
    obtain ⟨i, j, _, w⟩ := ((hs_I (j := 0) hro hm e1 rfl).2.2 t).mp y
    have := (plO_r (b := b) (k := k) (S := S) (K := Ks kd) (p := p) (q := q) (r := r) (i := i) (j := j) hm).2.1
    omega
