/-! the reference's choosing -/
def lstA (A : Nat → Int) (m c : Nat) : Prop := ∀ i : Nat, c.testBit i = true ↔ ∃ j, j < m ∧ A j = (i : Int)
def stM (N : Nat) (v : Nat → Int) (c : Nat) (V : VV) : Prop := V 99 81 = chV v c N ∧ V 99 80 = (chN c N : Int) ∧ lstA (V 150) (chN c N) c
/-- passed so far -/
def chR (v : Nat → Int) (B : Nat → Nat) (N T f h c s : Nat) : Prop := s = c ∨ (cOk v B N s ∧ agB T f s ∧ (s = T ∨ ¬ agB T h s))
section
variable {v : Nat → Int} {B : Nat → Nat} {N T f h c d e s : Nat}
theorem fst_d : ∀ h, ¬ agB T h c → ∃ i, i < h ∧ agB T i c ∧ c.testBit i ≠ T.testBit i
  | 0, q => absurd (fun j hj => by omega) q
  | h + 1, q => by
    by_cases w : agB T h c
    · refine ⟨h, by omega, w, fun z => q fun j hj => ?_⟩
      by_cases y : j = h
      · rw [y]; exact z
      · exact w j (by omega)
    · obtain ⟨i, i1, i2⟩ := fst_d h w
      exact ⟨i, by omega, i2⟩
theorem lo_U (hT : T < 2 ^ f) : ∀ m, f ≤ m → chU B T m = chU B T f
  | 0, hm => by rw [show f = 0 by omega]
  | m + 1, hm => by
    by_cases q : f = m + 1
    · rw [q]
    · show (if T.testBit m = true then chU B T m ||| B m else chU B T m) = _
      rw [lo_b hT (by omega), lo_U hT m (by omega)]; rfl
theorem lt_mono (hT : T < 2 ^ f) (h1 : f ≤ h) : T < 2 ^ h := Nat.lt_of_lt_of_le hT (Nat.pow_le_pow_right (by decide) h1)
theorem chR_0 (hb : bSt v N (fun s => s = c ∨ s = T) d) (hO : cOk v B N T) : bSt v N (chR v B N T f f c) d := by
  refine bSt_i hb fun s => ?_
  unfold chR
  constructor
  · rintro (e | ⟨_, e, e2 | e2⟩)
    · exact Or.inl e
    · exact Or.inr e2
    · exact absurd e e2
  · rintro (e | e)
    · exact Or.inl e
    · rw [e]; exact Or.inr ⟨hO, fun j _ => rfl, Or.inl rfl⟩
theorem J_in (hT : T < 2 ^ f) (hf : f ≤ h) (hN : h < N) (hJ : chJ v B N T f c) (hd : chR v B N T f h c d) : chJ v B N (T ||| 2 ^ h) (h + 1) d := by
  intro s h1 h2 h3 h4
  have g := ag_or.mp h2
  rcases hd with e | ⟨d1, d2, d3 | d3⟩
  · rw [e] at h3 h4 ⊢
    exact hJ s h1 (fun j hj => g.1 j (by omega)) h3 h4
  · have a1 := chN_ge h2 (show h + 1 ≤ N by omega)
    rw [or_N] at a1
    have a2 := lo_N (lt_mono hT hf) N (by omega)
    rw [d3, a2] at h4
    omega
  · obtain ⟨i, i1, i2, i3⟩ := fst_d h d3
    have i4 : f ≤ i := by
      rcases Nat.lt_or_ge i f with q | q
      · exact absurd (d2 i q) i3
      · exact q
    have t0 := lo_b hT i4
    rw [t0] at i3
    refine Or.inr ⟨i, fun j hj => ?_, ?_, ?_⟩
    · rw [i2 j hj, g.1 j (by omega)]
    · cases z : d.testBit i with
      | true => rfl
      | false => exact absurd z i3
    · rw [g.1 i i1]; exact t0
theorem chR_s (hT : T < 2 ^ f) (hf : f ≤ h) (hd : bSt v N (chR v B N T f h c) d) (he : bSt v N (fun s => s = d ∨ (cOk v B N s ∧ agB (T ||| 2 ^ h) (h + 1) s)) e) : bSt v N (chR v B N T f (h + 1) c) e := by
  refine bSt_i (bSt_t hd he) fun s => ?_
  unfold chR
  rw [ag_or, ag_no (lt_mono hT hf)]
  constructor
  · rintro (e1 | ⟨e1, e2, e3 | e3⟩)
    · exact Or.inl e1
    · exact Or.inr (Or.inl ⟨e1, e2, Or.inl e3⟩)
    · by_cases w : agB T h s
      · refine Or.inr (Or.inr ⟨e1, w, ?_⟩)
        cases z : s.testBit h with
        | true => rfl
        | false => exact absurd ⟨w, z⟩ e3
      · exact Or.inr (Or.inl ⟨e1, e2, Or.inr w⟩)
  · rintro (e1 | ⟨e1, e2, e3 | e3⟩ | ⟨e1, e2, e3⟩)
    · exact Or.inl e1
    · exact Or.inr ⟨e1, e2, Or.inl e3⟩
    · exact Or.inr ⟨e1, e2, Or.inr fun z => e3 z.1⟩
    · exact Or.inr ⟨e1, fun j hj => e2 j (by omega), Or.inr fun z => by rw [z.2] at e3; cases e3⟩
theorem chR_e (hd : bSt v N (chR v B N T f h c) d) (hx : ∀ s, cOk v B N s → agB T f s → agB T h s → s = T ∨ chB v N d s) : bSt v N (fun s => s = c ∨ (cOk v B N s ∧ agB T f s)) d := by
  refine ⟨?_, fun s hs => ?_⟩
  · rcases hd.1 with e | ⟨e, g, _⟩
    · exact Or.inl e
    · exact Or.inr ⟨e, g⟩
  · rcases hs with e | ⟨e, g⟩
    · exact hd.2 s (Or.inl e)
    · by_cases w : agB T h s
      · rcases hx s e g w with y | y
        · exact hd.2 s (Or.inr ⟨e, g, Or.inl y⟩)
        · exact Or.inr y
      · exact hd.2 s (Or.inr ⟨e, g, Or.inr w⟩)
/-- behind h there is none of worth -/
theorem end_0 (hT : T < 2 ^ f) (hf : f ≤ h) (hz : ∀ g, h ≤ g → g < N → v g ≤ 0) (h1 : cOk v B N s) (h2 : agB T h s) : s = T := by
  apply Nat.eq_of_testBit_eq
  intro i
  rcases Nat.lt_or_ge i h with q | q
  · exact h2 i q
  · rw [lo_b hT (by omega)]
    by_cases w : s.testBit i = true
    · have g := h1.1 i w
      have := hz i q g.1
      omega
    · exact Bool.eq_false_iff.mpr w
theorem end_1 (hT : T < 2 ^ f) (hf : f ≤ h) (hN : h ≤ N) (hz : chV v T f + (pvS v N - pvS v h) < chV v d N) (h2 : agB T h s) : chB v N d s := by
  have a := chV_le (v := v) h2 N hN
  rw [lo_V hT h hf] at a
  exact Or.inl (by omega)
theorem fst_t (hb : chV v c N < chV v T N ∨ (chV v T N = chV v c N ∧ chN T N < chN c N)) : bSt v N (fun s => s = c ∨ s = T) T := ⟨Or.inr rfl, fun s hs => by
  rcases hs with e | e
  · rw [e]
    rcases hb with h | ⟨h1, h2⟩
    · exact Or.inr (Or.inl h)
    · exact Or.inr (Or.inr ⟨h1.symm, Or.inl h2⟩)
  · exact Or.inl e⟩
theorem fst_f (hO : cOk v B N T) (hJ : chJ v B N T f c) (hb : ¬ (chV v c N < chV v T N ∨ (chV v T N = chV v c N ∧ chN T N < chN c N))) : bSt v N (fun s => s = c ∨ s = T) c := ⟨Or.inl rfl, fun s hs => by
  rcases hs with e | e
  · exact Or.inl e
  · rw [e]
    by_cases q : chV v T N = chV v c N ∧ chN T N = chN c N
    · rcases hJ T hO (fun j _ => rfl) q.1 q.2 with y | y
      · exact Or.inl y
      · exact Or.inr (Or.inr ⟨q.1, Or.inr ⟨q.2.symm, y⟩⟩)
    · by_cases w : chV v T N < chV v c N
      · exact Or.inr (Or.inl w)
      · exact Or.inr (Or.inr ⟨by omega, Or.inl (by omega)⟩)⟩
theorem lst_x {A A' : Nat → Int} {m : Nat} (h : lstA A m c) (e : ∀ j, j < m → A' j = A j) : lstA A' m c := fun i => (h i).trans ⟨fun ⟨j, j1, j2⟩ => ⟨j, j1, (e j j1).trans j2⟩, fun ⟨j, j1, j2⟩ => ⟨j, j1, (e j j1).symm.trans j2⟩⟩
theorem lst_o {A A' : Nat → Int} {m : Nat} (h0 : lstA A m T) (e : ∀ j, j < m → A' j = A j) (e2 : A' m = (h : Int)) : lstA A' (m + 1) (T ||| 2 ^ h) := fun i => by
  rw [tb_or, h0 i]
  constructor
  · rintro (⟨j, j1, j2⟩ | z)
    · exact ⟨j, by omega, (e j j1).trans j2⟩
    · exact ⟨m, by omega, by rw [e2, z]⟩
  · rintro ⟨j, j1, j2⟩
    by_cases q : j = m
    · rw [q, e2] at j2; exact Or.inr (by omega)
    · exact Or.inl ⟨j, by omega, by rw [← e j (by omega)]; exact j2⟩
theorem chU_lt (hb : ∀ i, i < N → B i < 2 ^ 40) : ∀ n, n ≤ N → chU B T n < 2 ^ 40
  | 0, _ => by show 0 < 2 ^ 40; decide
  | n + 1, hn => by
    have := chU_lt hb n (by omega)
    show (if T.testBit n = true then chU B T n ||| B n else chU B T n) < 2 ^ 40
    split
    · exact Nat.or_lt_two_pow this (hb n (by omega))
    · exact this
end
/-- the list as it is looked through -/
def chL (N : Nat) (v : Nat → Int) (B : Nat → Nat) (V : VV) : Prop := V 99 57 = (N : Int) ∧ ∀ i, i < N → V 144 i = v i ∧ V 145 i = (B i : Int) ∧ B i < 2 ^ 40
def chsP (G : GG) (R : RR) (N : Nat) (v : Nat → Int) (B : Nat → Nat) (u : Nat) : Prop := ∀ (V : VV) (f T c : Nat), f + u = N → Bd V → chL N v B V → T < 2 ^ f → cOk v B N T → lstA (V 149) (chN T f) T → stM N v c V → chJ v B N T f c → Runs G M_X11_chooses (u + 3) 162 162 [vr 99, vi (f : Int), vi (chN T f : Int), vi (chV v T f), vj (chU B T f : Int)] V R (PQ [(149, 150)] [(99, 80, 81)] V R (fun o X => o = none ∧ (∀ j, j < chN T f → X 149 j = V 149 j) ∧ ∃ c', stM N v c' X ∧ bSt v N (fun s => s = c ∨ (cOk v B N s ∧ agB T f s)) c'))
theorem chL_c {N : Nat} {v : Nat → Int} {B : Nat → Nat} {V V' : VV} (h : chL N v B V) (f : chg [(149, 150)] [(99, 80, 81)] V V') : chL N v B V' := by
  unfold chL
  rw [f 99 57 rfl rfl, chg_k (c := 144) f rfl, chg_k (c := 145) f rfl]
  exact h
theorem chL_b {N : Nat} {v : Nat → Int} {B : Nat → Nat} {V : VV} (hB : Bd V) (h : chL N v B V) : ∀ i, i < N → v i ≤ 10000 := fun i hi => by
  have := hB.1 144 (-1000) 10000 rfl i
  rw [(h.2 i hi).1] at this
  exact this.2
