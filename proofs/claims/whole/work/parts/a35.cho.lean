/-! choosing: sets of houses as rows of bits -/
def chV (v : Nat → Int) (s : Nat) : Nat → Int
  | 0 => 0
  | n + 1 => chV v s n + if s.testBit n = true then v n else 0
def chN (s n : Nat) : Nat := cntB (fun i => s.testBit i) n
def pvS (v : Nat → Int) : Nat → Int
  | 0 => 0
  | n + 1 => pvS v n + if 0 < v n then v n else 0
def chU (B : Nat → Nat) (s : Nat) : Nat → Nat
  | 0 => 0
  | n + 1 => if s.testBit n = true then chU B s n ||| B n else chU B s n
/-- the first as a row of numbers -/
def ltx (s t : Nat) : Prop := ∃ i, (∀ j, j < i → s.testBit j = t.testBit j) ∧ s.testBit i = true ∧ t.testBit i = false
/-- better: more, then fewer, then the first -/
def chB (v : Nat → Int) (N s t : Nat) : Prop := chV v t N < chV v s N ∨ (chV v t N = chV v s N ∧ (chN s N < chN t N ∨ (chN s N = chN t N ∧ ltx s t)))
def cOk (v : Nat → Int) (B : Nat → Nat) (N s : Nat) : Prop := (∀ i, s.testBit i = true → i < N ∧ 0 < v i) ∧ ∀ i j, i < j → s.testBit i = true → s.testBit j = true → B i &&& B j = 0
def agB (T n s : Nat) : Prop := ∀ j, j < n → s.testBit j = T.testBit j
def bSt (v : Nat → Int) (N : Nat) (P : Nat → Prop) (c : Nat) : Prop := P c ∧ ∀ s, P s → s = c ∨ chB v N c s
/-- alike ones ahead come behind -/
def chJ (v : Nat → Int) (B : Nat → Nat) (N T n c : Nat) : Prop := ∀ s, cOk v B N s → agB T n s → chV v s N = chV v c N → chN s N = chN c N → s = c ∨ ltx c s
theorem ltx_t {s t u : Nat} (h : ltx s t) (g : ltx t u) : ltx s u := by
  obtain ⟨i, i1, i2, i3⟩ := h
  obtain ⟨j, j1, j2, j3⟩ := g
  rcases Nat.lt_trichotomy i j with q | q | q
  · exact ⟨i, fun x hx => (i1 x hx).trans (j1 x (by omega)), i2, by rw [← j1 i q]; exact i3⟩
  · subst q; rw [i3] at j2; cases j2
  · exact ⟨j, fun x hx => (i1 x (by omega)).trans (j1 x hx), by rw [i1 j q]; exact j2, j3⟩
theorem ltx_a {s t : Nat} (h : ltx s t) (g : ltx t s) : False := by
  obtain ⟨i, i1, i2, i3⟩ := ltx_t h g
  rw [i2] at i3; cases i3
section
variable {v : Nat → Int} {B : Nat → Nat} {N T n m c d s t u : Nat} {P Q : Nat → Prop}
theorem chB_t (h : chB v N s t) (g : chB v N t u) : chB v N s u := by
  unfold chB at *
  rcases h with h | ⟨h1, h2 | ⟨h2, h3⟩⟩
  · exact Or.inl (by omega)
  · rcases g with g | ⟨g1, g2 | ⟨g2, g3⟩⟩
    · exact Or.inl (by omega)
    · exact Or.inr ⟨by omega, Or.inl (by omega)⟩
    · exact Or.inr ⟨by omega, Or.inl (by omega)⟩
  · rcases g with g | ⟨g1, g2 | ⟨g2, g3⟩⟩
    · exact Or.inl (by omega)
    · exact Or.inr ⟨by omega, Or.inl (by omega)⟩
    · exact Or.inr ⟨by omega, Or.inr ⟨by omega, ltx_t h3 g3⟩⟩
theorem chB_a (h : chB v N s t) (g : chB v N t s) : False := by
  unfold chB at *
  rcases h with h | ⟨h1, h2 | ⟨h2, h3⟩⟩
  · omega
  · omega
  · rcases g with g | ⟨g1, g2 | ⟨g2, g3⟩⟩
    · omega
    · omega
    · exact ltx_a h3 g3
theorem bSt_u (h : bSt v N P c) (g : bSt v N P d) : c = d := by
  rcases h.2 d g.1 with e | e
  · exact e.symm
  · rcases g.2 c h.1 with f | f
    · exact f
    · exact (chB_a e f).elim
theorem bSt_i (h : bSt v N P c) (hq : ∀ s, Q s ↔ P s) : bSt v N Q c := ⟨(hq c).mpr h.1, fun s hs => h.2 s ((hq s).mp hs)⟩
theorem bSt_t (h : bSt v N (fun s => s = c ∨ P s) d) (g : bSt v N (fun s => s = d ∨ Q s) u) : bSt v N (fun s => s = c ∨ (P s ∨ Q s)) u := by
  refine ⟨?_, fun s hs => ?_⟩
  · rcases g.1 with e | e
    · rw [e]
      rcases h.1 with f | f
      · exact Or.inl f
      · exact Or.inr (Or.inl f)
    · exact Or.inr (Or.inr e)
  · have du := g.2 d (Or.inl rfl)
    have old : (s = c ∨ P s) → s = u ∨ chB v N u s := fun w => by
      rcases h.2 s w with e | e
      · rw [e]; exact du
      · rcases du with f | f
        · rw [← f]; exact Or.inr e
        · exact Or.inr (chB_t f e)
    rcases hs with e | e | e
    · exact old (Or.inl e)
    · exact old (Or.inr e)
    · exact g.2 s (Or.inr e)
theorem chV_ag (h : agB T n s) : ∀ m, m ≤ n → chV v s m = chV v T m
  | 0, _ => rfl
  | m + 1, hm => by
    unfold chV
    rw [chV_ag h m (by omega), h m (by omega)]
theorem chN_ag (h : agB T n s) (hm : m ≤ n) : chN s m = chN T m := cntB_congr fun i hi => h i (by omega)
theorem chV_le (h : agB T n s) : ∀ m, n ≤ m → chV v s m ≤ chV v T n + pvS v m - pvS v n
  | 0, hm => by rw [show n = 0 by omega]; unfold chV pvS; omega
  | m + 1, hm => by
    by_cases q : n = m + 1
    · rw [← q, chV_ag h n (Nat.le_refl _)]; omega
    · have := chV_le h m (by omega)
      show chV v s m + (if s.testBit m = true then v m else 0) ≤ chV v T n + (pvS v m + if 0 < v m then v m else 0) - pvS v n
      split <;> split <;> omega
theorem chN_ge (h : agB T n s) (hm : n ≤ m) : chN T n ≤ chN s m := by
  rw [← chN_ag h (Nat.le_refl n)]
  exact cntB_mono hm
theorem ps_m : ∀ m, n ≤ m → pvS v n ≤ pvS v m
  | 0, hm => by rw [show n = 0 by omega]; omega
  | m + 1, hm => by
    by_cases q : n = m + 1
    · rw [q]; omega
    · have := ps_m m (by omega)
      show pvS v n ≤ pvS v m + if 0 < v m then v m else 0
      split <;> omega
/-- bits below n alone -/
theorem lo_V (hT : T < 2 ^ n) : ∀ m, n ≤ m → chV v T m = chV v T n
  | 0, hm => by rw [show n = 0 by omega]
  | m + 1, hm => by
    by_cases q : n = m + 1
    · rw [q]
    · have := lo_V hT m (by omega)
      show chV v T m + (if T.testBit m = true then v m else 0) = _
      rw [if_neg, this]; exact Int.add_zero _
      rw [Nat.testBit_lt_two_pow (Nat.lt_of_lt_of_le hT (Nat.pow_le_pow_right (by decide) (by omega)))]
      decide
theorem lo_N (hT : T < 2 ^ n) : ∀ m, n ≤ m → chN T m = chN T n
  | 0, hm => by rw [show n = 0 by omega]
  | m + 1, hm => by
    by_cases q : n = m + 1
    · rw [q]
    · have := lo_N hT m (by omega)
      rw [← this]
      refine cntB_f ?_
      show ¬ T.testBit m = true
      rw [Nat.testBit_lt_two_pow (Nat.lt_of_lt_of_le hT (Nat.pow_le_pow_right (by decide) (by omega)))]
      decide
theorem lo_b (hT : T < 2 ^ n) (h : n ≤ m) : T.testBit m = false := Nat.testBit_lt_two_pow (Nat.lt_of_lt_of_le hT (Nat.pow_le_pow_right (by decide) h))
theorem or_b : (T ||| 2 ^ n).testBit m = (T.testBit m || decide (n = m)) := by rw [Nat.testBit_or, Nat.testBit_two_pow]
theorem or_ag : agB T n (T ||| 2 ^ n) := fun j hj => by rw [or_b, decide_eq_false (by omega), Bool.or_false]
theorem or_lt (hT : T < 2 ^ n) : T ||| 2 ^ n < 2 ^ (n + 1) := Nat.or_lt_two_pow (Nat.lt_trans hT (Nat.pow_lt_pow_right (by decide) (by omega))) (Nat.pow_lt_pow_right (by decide) (by omega))
theorem or_V : chV v (T ||| 2 ^ n) (n + 1) = chV v T n + v n := by
  show chV v (T ||| 2 ^ n) n + (if (T ||| 2 ^ n).testBit n = true then v n else 0) = _
  rw [chV_ag or_ag n (Nat.le_refl _), or_b, decide_eq_true rfl, Bool.or_true, if_pos rfl]
theorem or_N : chN (T ||| 2 ^ n) (n + 1) = chN T n + 1 := by
  have e : (T ||| 2 ^ n).testBit n = true := by rw [or_b, decide_eq_true rfl, Bool.or_true]
  unfold chN
  rw [cntB_t e]
  exact congrArg (· + 1) (chN_ag or_ag (Nat.le_refl n))
theorem ag_or : agB (T ||| 2 ^ n) (n + 1) s ↔ agB T n s ∧ s.testBit n = true := by
  constructor
  · intro h
    refine ⟨fun j hj => ?_, ?_⟩
    · rw [h j (by omega)]; exact or_ag j hj
    · rw [h n (by omega), or_b, decide_eq_true rfl, Bool.or_true]
  · rintro ⟨h1, h2⟩ j hj
    by_cases q : j = n
    · rw [q, h2, or_b, decide_eq_true rfl, Bool.or_true]
    · rw [h1 j (by omega)]; exact (or_ag j (by omega)).symm
theorem ag_no (hT : T < 2 ^ n) : agB T (n + 1) s ↔ agB T n s ∧ s.testBit n = false := by
  constructor
  · intro h
    exact ⟨fun j hj => h j (by omega), by rw [h n (by omega)]; exact lo_b hT (Nat.le_refl _)⟩
  · rintro ⟨h1, h2⟩ j hj
    by_cases q : j = n
    · rw [q, h2]; exact (lo_b hT (Nat.le_refl _)).symm
    · exact h1 j (by omega)
theorem chU_b : ∀ n, (∀ i, i < n → T.testBit i = true → B i &&& d = 0) ↔ chU B T n &&& d = 0
  | 0 => ⟨fun _ => by show 0 &&& d = 0; exact Nat.zero_and d, fun _ i hi => by omega⟩
  | n + 1 => by
    have ih := chU_b n
    show _ ↔ (if T.testBit n = true then chU B T n ||| B n else chU B T n) &&& d = 0
    by_cases q : T.testBit n = true
    · rw [if_pos q, Nat.and_or_distrib_right]
      constructor
      · intro h
        rw [ih.mp (fun i hi => h i (by omega)), h n (by omega) q]; rfl
      · intro h i hi hb
        have h1 : chU B T n &&& d = 0 ∧ B n &&& d = 0 := by
          have key : ∀ a b : Nat, a ||| b = 0 → a = 0 ∧ b = 0 := fun a b hab => by
            constructor <;> apply Nat.eq_of_testBit_eq <;> intro i <;> have z := congrArg (fun x => Nat.testBit x i) hab <;> simp only [Nat.testBit_or, Nat.zero_testBit, Bool.or_eq_false_iff] at z <;> rw [Nat.zero_testBit]
            · exact z.1
            · exact z.2
          exact key _ _ h
        by_cases w : i = n
        · rw [w]; exact h1.2
        · exact ih.mpr h1.1 i (by omega) hb
    · rw [if_neg q, ← ih]
      exact ⟨fun h i hi => h i (by omega), fun h i hi hb => h i (by have : i ≠ n := fun z => q (z ▸ hb); omega) hb⟩
theorem chU_ag (h : agB T n s) : ∀ m, m ≤ n → chU B s m = chU B T m
  | 0, _ => rfl
  | m + 1, hm => by
    unfold chU
    rw [chU_ag h m (by omega), h m (by omega)]
theorem or_U : chU B (T ||| 2 ^ n) (n + 1) = chU B T n ||| B n := by
  show (if (T ||| 2 ^ n).testBit n = true then chU B (T ||| 2 ^ n) n ||| B n else chU B (T ||| 2 ^ n) n) = _
  rw [or_b, decide_eq_true rfl, Bool.or_true, if_pos rfl, chU_ag or_ag n (Nat.le_refl _)]
theorem no_U (hT : T < 2 ^ n) : chU B T (n + 1) = chU B T n := by
  show (if T.testBit n = true then chU B T n ||| B n else chU B T n) = _
  rw [lo_b hT (Nat.le_refl _)]; rfl
theorem cOk_0 : cOk v B N 0 := ⟨fun i h => absurd h (by rw [Nat.zero_testBit]; decide), fun i j _ h => absurd h (by rw [Nat.zero_testBit]; decide)⟩
theorem cOk_or (hO : cOk v B N T) (hT : T < 2 ^ n) (hn : n < N) (hv : 0 < v n) (hu : chU B T n &&& B n = 0) : cOk v B N (T ||| 2 ^ n) := by
  refine ⟨fun i hi => ?_, fun i j hij hi hj => ?_⟩
  · rcases tb_or.mp hi with z | z
    · exact hO.1 i z
    · rw [← z]; exact ⟨hn, hv⟩
  · have key := (chU_b (B := B) (T := T) (d := B n) n).mpr hu
    rcases tb_or.mp hi with z | z
    · rcases tb_or.mp hj with y | y
      · exact hO.2 i j hij z y
      · rw [← y]; exact key i (by omega) z
    · rcases tb_or.mp hj with y | y
      · rw [lo_b hT (by omega)] at y; cases y
      · omega
/-- sets with n taken that can't be -/
theorem no_ok (hs : cOk v B N s) (ha : agB (T ||| 2 ^ n) (n + 1) s) : n < N ∧ 0 < v n ∧ chU B T n &&& B n = 0 := by
  have h := ag_or.mp ha
  have h1 := hs.1 n h.2
  refine ⟨h1.1, h1.2, (chU_b n).mp fun i hi hb => ?_⟩
  exact hs.2 i n hi (by rw [h.1 i hi]; exact hb) h.2
theorem ok_eq (hs : cOk v B N s) (hT : T < 2 ^ N) (ha : agB T N s) : s = T := by
  apply Nat.eq_of_testBit_eq
  intro i
  rcases Nat.lt_or_ge i N with q | q
  · exact ha i q
  · rw [lo_b hT q]
    by_cases w : s.testBit i = true
    · have := (hs.1 i w).1; omega
    · exact Bool.eq_false_iff.mpr w
theorem ok_lt (hs : cOk v B N s) : s < 2 ^ N := by
  apply Nat.lt_pow_two_of_testBit
  intro i hi
  by_cases w : s.testBit i = true
  · have := (hs.1 i w).1; omega
  · exact Bool.eq_false_iff.mpr w
theorem ok_0 (hs : cOk v B N s) (h : chN s N = 0) : s = 0 := by
  refine ok_eq hs (Nat.two_pow_pos N) fun j hj => ?_
  rw [Nat.zero_testBit]
  by_cases w : s.testBit j = true
  · have h1 : chN s (j + 1) ≤ chN s N := cntB_mono (by omega)
    have h2 : chN s (j + 1) = chN s j + 1 := cntB_t w
    omega
  · exact Bool.eq_false_iff.mpr w
theorem chV_0 : ∀ m, chV v 0 m = 0
  | 0 => rfl
  | m + 1 => by
    show chV v 0 m + (if (0 : Nat).testBit m = true then v m else 0) = 0
    rw [chV_0 m, Nat.zero_testBit]; rfl
theorem chN_0 : ∀ m, chN 0 m = 0
  | 0 => rfl
  | m + 1 => by
    refine Eq.trans ?_ (chN_0 m)
    exact cntB_f (by show ¬ (0 : Nat).testBit m = true; rw [Nat.zero_testBit]; decide)
/-- a branch that can't beat the best -/
theorem cut_ok (hn : n ≤ N) (hJ : chJ v B N T n c) (hb : ¬ (chV v c N < chV v T n + (pvS v N - pvS v n) ∨ (chV v T n + (pvS v N - pvS v n) = chV v c N ∧ chN T n < chN c N))) : bSt v N (fun s => s = c ∨ (cOk v B N s ∧ agB T n s)) c := by
  refine ⟨Or.inl rfl, fun s hs => ?_⟩
  rcases hs with e | ⟨h1, h2⟩
  · exact Or.inl e
  · have a1 := chV_le (v := v) h2 N hn
    have a2 := chN_ge h2 hn
    by_cases q : chV v s N = chV v c N ∧ chN s N = chN c N
    · rcases hJ s h1 h2 q.1 q.2 with e | e
      · exact Or.inl e
      · exact Or.inr (Or.inr ⟨q.1, Or.inr ⟨q.2.symm, e⟩⟩)
    · unfold chB
      by_cases w : chV v s N < chV v c N
      · exact Or.inr (Or.inl w)
      · exact Or.inr (Or.inr ⟨by omega, Or.inl (by omega)⟩)
/-- a whole set that beats the best -/
theorem leaf_ok (hT : T < 2 ^ N) (hO : cOk v B N T) (hb : chV v c N < chV v T N ∨ (chV v T N = chV v c N ∧ chN T N < chN c N)) : bSt v N (fun s => s = c ∨ (cOk v B N s ∧ agB T N s)) T := by
  refine ⟨Or.inr ⟨hO, fun j _ => rfl⟩, fun s hs => ?_⟩
  rcases hs with e | ⟨h1, h2⟩
  · rw [e]
    unfold chB
    rcases hb with h | ⟨h1, h2⟩
    · exact Or.inr (Or.inl h)
    · exact Or.inr (Or.inr ⟨h1.symm, Or.inl h2⟩)
  · exact Or.inl (ok_eq h1 hT h2)
/-- with n, then without -/
theorem J_or (h : chJ v B N T n c) : chJ v B N (T ||| 2 ^ n) (n + 1) c := fun s h1 h2 => h s h1 (ag_or.mp h2).1
theorem J_no (hT : T < 2 ^ n) (h : chJ v B N T n c) (hd : d = c ∨ (cOk v B N d ∧ agB (T ||| 2 ^ n) (n + 1) d)) : chJ v B N T (n + 1) d := by
  intro s h1 h2 h3 h4
  have g := (ag_no hT).mp h2
  rcases hd with e | ⟨_, e⟩
  · rw [e] at h3 h4 ⊢; exact h s h1 g.1 h3 h4
  · have f := ag_or.mp e
    exact Or.inr ⟨n, fun j hj => by rw [f.1 j hj, g.1 j hj], f.2, g.2⟩
theorem two_ok (hT : T < 2 ^ n) (h1 : bSt v N (fun s => s = c ∨ (cOk v B N s ∧ agB (T ||| 2 ^ n) (n + 1) s)) d) (h2 : bSt v N (fun s => s = d ∨ (cOk v B N s ∧ agB T (n + 1) s)) u) : bSt v N (fun s => s = c ∨ (cOk v B N s ∧ agB T n s)) u := by
  refine bSt_i (bSt_t h1 h2) fun s => ?_
  rw [ag_or, ag_no hT]
  constructor
  · rintro (e | ⟨e, f⟩)
    · exact Or.inl e
    · by_cases w : s.testBit n = true
      · exact Or.inr (Or.inl ⟨e, f, w⟩)
      · exact Or.inr (Or.inr ⟨e, f, Bool.eq_false_iff.mpr w⟩)
  · rintro (e | ⟨e, f, _⟩ | ⟨e, f, _⟩)
    · exact Or.inl e
    · exact Or.inr ⟨e, f⟩
    · exact Or.inr ⟨e, f⟩
theorem one_ok (h : ¬ (0 < v n ∧ chU B T n &&& B n = 0)) : bSt v N (fun s => s = c ∨ (cOk v B N s ∧ agB (T ||| 2 ^ n) (n + 1) s)) c := ⟨Or.inl rfl, fun s hs => by
  rcases hs with e | ⟨e, f⟩
  · exact Or.inl e
  · exact absurd (no_ok e f).2 h⟩
theorem J_0 : chJ v B N 0 0 0 := fun s h1 _ _ h4 => Or.inl (ok_0 h1 (by rw [h4]; exact chN_0 N))
end
/-- the set that explains most -/
def isCh (v : Nat → Int) (B : Nat → Nat) (N c : Nat) : Prop := bSt v N (cOk v B N) c
theorem isCh_u {v : Nat → Int} {B : Nat → Nat} {N c d : Nat} (h : isCh v B N c) (g : isCh v B N d) : c = d := bSt_u h g
theorem isCh_0 {v : Nat → Int} {B : Nat → Nat} {N c : Nat} (h : bSt v N (fun s => s = 0 ∨ (cOk v B N s ∧ agB 0 0 s)) c) : isCh v B N c := bSt_i h fun s => ⟨fun e => Or.inr ⟨e, fun j hj => by omega⟩, fun e => by
  rcases e with e | e
  · rw [e]; exact cOk_0
  · exact e.1⟩
/-! the same by the class's bits -/
theorem mR_and {S : Sp} (so : sO S) {a a' c c' : Nat} (ha : ∀ s, a.testBit s = true → s < S.m) (h : mR S a c) (h' : mR S a' c') : c &&& c' = 0 ↔ a &&& a' = 0 := by
  constructor
  · intro e
    apply Nat.eq_of_testBit_eq
    intro s
    rw [Nat.zero_testBit, Nat.testBit_and]
    by_cases w : (a.testBit s && a'.testBit s) = true
    · rw [Bool.and_eq_true] at w
      have hs := ha s w.1
      have z : (c &&& c').testBit (S.h s).toNat = true := by
        rw [Nat.testBit_and, (mR_b so h hs).mpr w.1, (mR_b so h' hs).mpr w.2]; rfl
      rw [e, Nat.zero_testBit] at z; cases z
    · exact Bool.eq_false_iff.mpr w
  · intro e
    apply Nat.eq_of_testBit_eq
    intro g
    rw [Nat.zero_testBit, Nat.testBit_and]
    by_cases w : (c.testBit g && c'.testBit g) = true
    · rw [Bool.and_eq_true] at w
      obtain ⟨s, s1, s2, s3⟩ := (h.2 g).mp w.1
      obtain ⟨t, t1, t2, t3⟩ := (h'.2 g).mp w.2
      have : s = t := sh_inj so s1 t1 (by omega)
      subst this
      have z : (a &&& a').testBit s = true := by rw [Nat.testBit_and, s2, t2]; rfl
      rw [e, Nat.zero_testBit] at z; cases z
    · exact Bool.eq_false_iff.mpr w
theorem mR_or {S : Sp} {a a' c c' : Nat} (h : mR S a c) (h' : mR S a' c') : mR S (a ||| a') (c ||| c') := by
  refine ⟨Nat.or_lt_two_pow h.1 h'.1, fun g => ?_⟩
  rw [Nat.testBit_or, Bool.or_eq_true, h.2 g, h'.2 g]
  constructor
  · rintro (⟨s, s1, s2, s3⟩ | ⟨s, s1, s2, s3⟩)
    · exact ⟨s, s1, by rw [Nat.testBit_or, s2]; rfl, s3⟩
    · exact ⟨s, s1, by rw [Nat.testBit_or, s2, Bool.or_true], s3⟩
  · rintro ⟨s, s1, s2, s3⟩
    rw [Nat.testBit_or, Bool.or_eq_true] at s2
    rcases s2 with s2 | s2
    · exact Or.inl ⟨s, s1, s2, s3⟩
    · exact Or.inr ⟨s, s1, s2, s3⟩
