/-! the rows of the list, one by one -/
def allR (P : (Nat → Int) → Prop) (N : Nat) (l : Nat → Nat → Int) : Prop := ∀ i, i < N → P (l i)
section
variable {P : (Nat → Int) → Prop} {N : Nat} {l : Nat → Nat → Int} {e : Nat → Int}
theorem k1_all (h : allR P N l) : allR P (k1N N l e) (k1L N l e) := by
  rcases sm_ok (l := l) (e := e) N with w | ⟨s, h1, h2, h3⟩
  · rw [(k1_no w).1, (k1_no w).2]; exact h
  · have hk : k1N N l e = N - 1 := by unfold k1N; rw [h2, if_neg (by omega)]
    have hkl : k1L N l e = delF l s := by unfold k1L; rw [h2, if_neg (by omega), Int.toNat_natCast]
    rw [hk, hkl]
    intro i hi
    unfold delF
    by_cases a : i < s
    · rw [if_pos a]; exact h i (by omega)
    · rw [if_neg a]; exact h (i + 1) (by omega)
theorem kp_all (h : allR P N l) (he : P e) : allR P (kpN N l e) (kpL N l e) := by
  have hk := k1_all (e := e) h
  by_cases q : kpS N l e
  · rw [(kp_1 q).1, (kp_1 q).2]; exact h
  · by_cases w : atF (k1L N l e) (e 9) (k1N N l e) = 24
    · rw [(kp_2 q w).1, (kp_2 q w).2]; exact hk
    · have kp := kp_4 q w
      rw [kp.1, kp.2]
      have hb : (if k1N N l e = 24 then 24 else k1N N l e + 1) ≤ k1N N l e + 1 := by split <;> omega
      have hle := at_le (l := k1L N l e) (v := e 9) (k1N N l e)
      generalize atF (k1L N l e) (e 9) (k1N N l e) = a at *
      intro i hi
      unfold insF
      rcases Nat.lt_trichotomy i a with x | x | x
      · rw [if_pos x]; exact hk i (by omega)
      · rw [if_neg (by omega), if_pos x]; exact he
      · rw [if_neg (by omega), if_neg (by omega)]; exact hk (i - 1) (by omega)
end
section
variable {b : Bk} {k : Int} {S : Sp} {Ks : Nat → Kd} {nk : Nat}
/-- a house found, of one of the kinds -/
def rowP (b : Bk) (k : Int) (S : Sp) (Ks : Nat → Kd) (nk : Nat) (row : Nat → Int) : Prop := ∃ kd p q r : Nat, kd < nk ∧ p < S.m ∧ q < S.m ∧ r < S.m ∧ p ≠ q ∧ p ≠ r ∧ q ≠ r ∧ frO b k S (Ks kd) p q r ≠ 0 ∧ ∀ f, f < 11 → row f = recO b k S Ks kd p q r f
theorem go_keep {Q : Nat → (Nat → Nat → Int) → Prop} {kd : Nat} (hk : ∀ N l p q r, p < S.m → q < S.m → r < S.m → p ≠ q → p ≠ r → q ≠ r → frO b k S (Ks kd) p q r ≠ 0 → Q N l → Q (kpN N l (recO b k S Ks kd p q r)) (kpL N l (recO b k S Ks kd p q r))) {st : GS} (h : Q st.2.2.1 st.2.2.2) : ∀ n, n ≤ S.m → Q (goP b k S Ks kd true st n).2.2.1 (goP b k S Ks kd true st n).2.2.2
  | 0, _ => h
  | p + 1, hp => by
    have h0 := go_keep hk h p (by omega)
    show Q (goQ b k S Ks kd true (goP b k S Ks kd true st p) p S.m).2.2.1 (goQ b k S Ks kd true (goP b k S Ks kd true st p) p S.m).2.2.2
    generalize goP b k S Ks kd true st p = st' at h0
    have key : ∀ n, n ≤ S.m → Q (goQ b k S Ks kd true st' p n).2.2.1 (goQ b k S Ks kd true st' p n).2.2.2 := by
      intro n
      induction n with
      | zero => intro _; exact h0
      | succ q ih =>
        intro hq
        have h1 := ih (by omega)
        show Q (goR b k S Ks kd true (goQ b k S Ks kd true st' p q) p q S.m).2.2.1 (goR b k S Ks kd true (goQ b k S Ks kd true st' p q) p q S.m).2.2.2
        generalize goQ b k S Ks kd true st' p q = st2 at h1
        have key2 : ∀ n, n ≤ S.m → Q (goR b k S Ks kd true st2 p q n).2.2.1 (goR b k S Ks kd true st2 p q n).2.2.2 := by
          intro n
          induction n with
          | zero => intro _; exact h1
          | succ r ih2 =>
            intro hr
            have h2 := ih2 (by omega)
            show Q (stpG b k S Ks kd true (goR b k S Ks kd true st2 p q r) p q r).2.2.1 (stpG b k S Ks kd true (goR b k S Ks kd true st2 p q r) p q r).2.2.2
            generalize goR b k S Ks kd true st2 p q r = st3 at h2
            unfold stpG
            by_cases w : p = q ∨ p = r ∨ q = r ∨ frO b k S (Ks kd) p q r = 0
            · rw [if_pos w]; exact h2
            · rw [if_neg w]
              exact hk _ _ p q r (by omega) (by omega) (by omega) (fun z => w (Or.inl z)) (fun z => w (Or.inr (Or.inl z))) (fun z => w (Or.inr (Or.inr (Or.inl z)))) (fun z => w (Or.inr (Or.inr (Or.inr z)))) h2
        exact key2 S.m (Nat.le_refl _)
    exact key S.m (Nat.le_refl _)
theorem all_row : ∀ n, n ≤ nk → allR (rowP b k S Ks nk) (allK b k S Ks n).1 (allK b k S Ks n).2
  | 0, _ => fun i hi => absurd hi (Nat.not_lt_zero _)
  | n + 1, hn => go_keep (Q := allR (rowP b k S Ks nk)) (kd := n) (st := (false, 0, (allK b k S Ks n).1, (allK b k S Ks n).2)) (fun N l p q r h1 h2 h3 h4 h5 h6 h7 hQ => kp_all hQ ⟨n, p, q, r, by omega, h1, h2, h3, h4, h5, h6, h7, fun f _ => rfl⟩) (all_row n (by omega)) S.m (Nat.le_refl _)
theorem all_dsc : ∀ n, dsc (allK b k S Ks n).1 (allK b k S Ks n).2
  | 0 => fun i j _ hj => absurd hj (Nat.not_lt_zero _)
  | n + 1 => go_keep (Q := dsc) (kd := n) (st := (false, 0, (allK b k S Ks n).1, (allK b k S Ks n).2)) (fun N l p q r _ _ _ _ _ _ _ hQ => kp_dsc hQ) (all_dsc n) S.m (Nat.le_refl _)
theorem row_f {row : Nat → Int} (h : rowP b k S Ks nk row) (ko : ∀ i, i < nk → kO (Ks i)) : ∃ kd p q r : Nat, (kd < nk ∧ p < S.m ∧ q < S.m ∧ r < S.m) ∧ (p ≠ q ∧ p ≠ r ∧ q ≠ r) ∧ (row 0 = (kd : Int) ∧ row 1 = (p : Int) ∧ row 2 = (q : Int) ∧ row 3 = (r : Int)) ∧ (2 ≤ row 4 ∧ row 4 ≤ 8) ∧ (row 10).toNat.testBit p = true ∧ (row 10).toNat.testBit q = true ∧ (row 10).toNat.testBit r = true := by
  obtain ⟨kd, p, q, r, h1, h2, h3, h4, h5, h6, h7, h8, h9⟩ := h
  have k1 := ko kd h1
  have hfr : frO b k S (Ks kd) p q r = topF b k S (Ks kd) p q r ((Ks kd).l 1).toNat ((Ks kd).h 1).toNat := by
    unfold frO at h8 ⊢
    split
    · rfl
    · next z => rw [if_neg z] at h8; exact absurd rfl h8
  rcases top_r (b := b) (k := k) (S := S) (p := p) (q := q) (r := r) (K := Ks kd) (lo := ((Ks kd).l 1).toNat) ((Ks kd).h 1).toNat with z | ⟨z1, z2, z3, z4⟩
  · rw [hfr] at h8; exact absurd z h8
  · rw [← hfr] at z1 z2 z3 z4
    obtain ⟨s, s1, _, s3, s4, s5⟩ := hw_i z3
    have k12 := k1.2.1
    have e4 : row 4 = (frO b k S (Ks kd) p q r : Int) := h9 4 (by omega)
    have e10 : row 10 = (s.2.2.2.2 : Int) := by
      have : row 10 = ((stH b k S (Ks kd) p q r).2.2.2.2 : Int) := h9 10 (by omega)
      rw [this]
      unfold stH
      rw [s1]
      rfl
    refine ⟨kd, p, q, r, ⟨h1, h2, h3, h4⟩, ⟨h5, h6, h7⟩, ⟨h9 0 (by omega), h9 1 (by omega), h9 2 (by omega), h9 3 (by omega)⟩, ⟨by omega, by omega⟩, ?_⟩
    rw [e10, Int.toNat_natCast]
    exact ⟨s3, s4, s5⟩
end
/-! how many can be chosen -/
theorem cnt_fl {p : Nat → Bool} : ∀ n, cntB p n = ((List.range n).filter p).length
  | 0 => rfl
  | n + 1 => by
    show cntB p n + (if p n = true then 1 else 0) = _
    rw [List.range_succ, List.filter_append, List.length_append, cnt_fl n, List.filter_cons]
    by_cases q : p n = true
    · rw [if_pos q, if_pos q]; rfl
    · rw [if_neg q, if_neg q]; rfl
theorem cnt_3 {p : Nat → Bool} {n a b c : Nat} (ha : a < n) (hb : b < n) (hc : c < n) (pa : p a = true) (pb : p b = true) (pc : p c = true) (h1 : a ≠ b) (h2 : a ≠ c) (h3 : b ≠ c) : 3 ≤ cntB p n := by
  rw [cnt_fl]
  refine nd_len (l := [a, b, c]) ?_ ?_
  · simp [h1, h2, h3]
  · intro x hx
    rw [List.mem_filter, List.mem_range]
    simp at hx
    rcases hx with rfl | rfl | rfl
    · exact ⟨ha, pa⟩
    · exact ⟨hb, pb⟩
    · exact ⟨hc, pc⟩
theorem cnt_or {p q : Nat → Bool} : ∀ n, (∀ i, i < n → p i = true → q i = false) → cntB (fun i => p i || q i) n = cntB p n + cntB q n
  | 0, _ => rfl
  | n + 1, h => by
    show cntB (fun i => p i || q i) n + (if (p n || q n) = true then 1 else 0) = cntB p n + (if p n = true then 1 else 0) + (cntB q n + (if q n = true then 1 else 0))
    rw [cnt_or n (fun i hi => h i (by omega))]
    have := h n (by omega)
    cases z : p n with
    | true => rw [this z]; simp; omega
    | false => cases w : q n <;> simp <;> omega
theorem ch_13 {N ch : Nat} {v : Nat → Int} {B : Nat → Nat} (hO : cOk v B N ch) (h3 : ∀ i, i < N → ∃ p q r, p < 40 ∧ q < 40 ∧ r < 40 ∧ p ≠ q ∧ p ≠ r ∧ q ≠ r ∧ (B i).testBit p = true ∧ (B i).testBit q = true ∧ (B i).testBit r = true) : chN ch N ≤ 13 := by
  have key : ∀ n, n ≤ N → 3 * chN ch n ≤ cntB (fun x => (chU B ch n).testBit x) 40 := by
    intro n
    induction n with
    | zero => intro _; exact Nat.zero_le _
    | succ n ih =>
      intro hn
      have h0 := ih (by omega)
      by_cases q : ch.testBit n = true
      · have e1 : chN ch (n + 1) = chN ch n + 1 := cntB_t q
        have e2 : chU B ch (n + 1) = chU B ch n ||| B n := if_pos q
        have hd : chU B ch n &&& B n = 0 := (chU_b n).mp (fun i hi hb => hO.2 i n hi hb q)
        have dj : ∀ x, x < 40 → (chU B ch n).testBit x = true → (B n).testBit x = false := fun x _ hx => by
          have := congrArg (fun z => z.testBit x) hd
          simp only [Nat.testBit_and, Nat.zero_testBit] at this
          rw [hx, Bool.true_and] at this
          exact this
        have e3 := cnt_or (p := fun x => (chU B ch n).testBit x) (q := fun x => (B n).testBit x) 40 dj
        obtain ⟨p, q', r, a1, a2, a3, a4, a5, a6, a7, a8, a9⟩ := h3 n (by omega)
        have e4 := cnt_3 (p := fun x => (B n).testBit x) a1 a2 a3 a7 a8 a9 a4 a5 a6
        have e5 : cntB (fun x => (chU B ch n ||| B n).testBit x) 40 = cntB (fun x => (chU B ch n).testBit x || (B n).testBit x) 40 := cntB_congr fun x _ => Nat.testBit_or ..
        rw [e1, e2, e5, e3]
        omega
      · have e1 : chN ch (n + 1) = chN ch n := cntB_f q
        have e2 : chU B ch (n + 1) = chU B ch n := if_neg q
        rw [e1, e2]
        exact h0
  have := key N (Nat.le_refl _)
  have h40 : cntB (fun x => (chU B ch N).testBit x) 40 ≤ 40 := cntB_le
  omega
/-! members, and how they stand to each other -/
abbrev mbr (ch N i : Nat) : Nat := nthB (fun x => ch.testBit x) N i
def ofB (b : Bk) (k : Int) (c : Nat) (l : Nat → Nat → Int) (g i : Nat) : Bool := decide (soO b k c g ≠ -1) && (bL l i).testBit (soO b k c g).toNat
def ctB (b : Bk) (k : Int) (c : Nat) (l : Nat → Nat → Int) (i j t : Nat) : Bool := decide (b.cK t ≤ k) && (ofB b k c l (b.cL t).toNat i && ofB b k c l (b.cE t).toNat j)
def ltH (b : Bk) (k : Int) (c : Nat) (l : Nat → Nat → Int) (i j : Nat) : Bool := anyB (ctB b k c l i j) b.cn
/-- which members meet, and which are later than which -/
def mtM (S : Sp) (Ks : Nat → Kd) (l : Nat → Nat → Int) (ch N i j : Nat) : Bool := decide (i ≠ j) && metR S Ks (l (mbr ch N i)) (l (mbr ch N j))
def ltM (b : Bk) (k : Int) (c : Nat) (l : Nat → Nat → Int) (ch N i j : Nat) : Bool := decide (i ≠ j) && ltH b k c l (mbr ch N i) (mbr ch N j)
theorem mtM_cm {S : Sp} {Ks : Nat → Kd} {l : Nat → Nat → Int} {ch N : Nat} (i j : Nat) : mtM S Ks l ch N i j = mtM S Ks l ch N j i := by
  unfold mtM
  rw [metR_cm]
  congr 1
  exact decide_eq_decide.mpr ⟨fun h e => h e.symm, fun h e => h e.symm⟩
theorem ltM_ir {b : Bk} {k : Int} {c : Nat} {l : Nat → Nat → Int} {ch N : Nat} (i : Nat) : ltM b k c l ch N i i = false := by
  unfold ltM
  rw [decide_eq_false (fun h => h rfl), Bool.false_and]
theorem ow_thr {b : Bk} {k : Int} {c g : Nat} (h : soO b k c g ≠ -1) : thr b k g := by
  unfold soO at h
  by_cases q : owO b k c g = -1
  · rw [if_pos q] at h; exact absurd rfl h
  · unfold owO at q
    by_cases w : isSp b k c g = true
    · unfold isSp at w
      rw [Bool.and_eq_true, decide_eq_true_iff] at w
      exact w.1.1
    · rw [if_neg w] at q
      by_cases y : thr b k g ∧ b.dg g = 1 ∧ stks b k (fdX b c g) (fdY b c g) = true
      · exact y.1
      · rw [if_neg y] at q; exact absurd rfl q
