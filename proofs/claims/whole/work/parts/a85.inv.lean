/-! all as known in a week: what the class keeps, stage by stage -/
def isPh (mt lt : Nat → Nat → Bool) (n m : Nat) (f0 : Nat → Nat) (t : List (Nat → Nat)) : Prop := (∀ m', m' < m → nbL mt lt m' n 0 (fun _ => 0) = []) ∧ nbL mt lt m n 0 (fun _ => 0) = f0 :: t
def phS (mt lt : Nat → Nat → Bool) (n : Nat) (hw cn rv : Int) (ro : Nat → Int) : Prop := (hw = 0 ∧ ∀ m f, ¬ phO mt lt n m f) ∨ (hw = 1 ∧ ∃ m f0 t, isPh mt lt n m f0 t ∧ cn = (m : Int) ∧ rv = ((min 1000 (nbL mt lt m n 0 (fun _ => 0)).length : Nat) : Int) ∧ ∀ j, j < n → ro j = (f0 j : Int))
def stS (mt lt : Nat → Nat → Bool) (n : Nat) (lf e0 l0 : Nat → Int) (hw hs : Int) (ea la : Nat → Int) : Prop := (hw = 0 → hs = 0) ∧ (hw = 1 → ∀ m f0 t, isPh mt lt n m f0 t → hs = bi (!(hsB n (eaM n (rlB mt lt) f0 lf e0) (naM n (rlB mt lt) f0 lf l0))) ∧ ∀ i, i < n → ea i = eaM n (rlB mt lt) f0 lf e0 i ∧ la i = - naM n (rlB mt lt) f0 lf l0 i)
section
variable {mt lt : Nat → Nat → Bool} {n m m' : Nat} {f0 f1 : Nat → Nat} {t t1 : List (Nat → Nat)}
theorem isPh_u (h : isPh mt lt n m f0 t) (g : isPh mt lt n m' f1 t1) : m = m' ∧ f0 = f1 := by
  have e : m = m' := by
    rcases Nat.lt_trichotomy m m' with q | q | q
    · have := g.1 m q; rw [h.2] at this; cases this
    · exact q
    · have := h.1 m' q; rw [g.2] at this; cases this
  subst e
  have := h.2.symm.trans g.2
  exact ⟨rfl, (List.cons.inj this).1⟩
theorem isPh_b (hs : ∀ i j, mt i j = mt j i) (h : isPh mt lt n m f0 t) : m ≤ n ∧ ∀ i, i < n → f0 i < m := by
  have h0 := (nb_ok hs).mp (show f0 ∈ nbL mt lt m n 0 (fun _ => 0) by rw [h.2]; exact List.mem_cons_self)
  refine ⟨?_, h0.1.1⟩
  obtain ⟨m1, f, h1, h2⟩ := ph_low m f0 h0.1
  apply Classical.byContradiction
  intro q
  exact nb_has hs h2 (h.1 m1 (by omega))
theorem isPh_ex (hs : ∀ i j, mt i j = mt j i) : ∀ M f, phO mt lt n M f → ∃ m f0 t, isPh mt lt n m f0 t := by
  intro M f hf
  have key : ∀ M, nbL mt lt M n 0 (fun _ => 0) ≠ [] → ∃ m, nbL mt lt m n 0 (fun _ => 0) ≠ [] ∧ ∀ m', m' < m → nbL mt lt m' n 0 (fun _ => 0) = [] := by
    intro M
    induction M using Nat.strongRecOn with
    | ind M ih =>
      intro hM
      by_cases q : ∃ m', m' < M ∧ nbL mt lt m' n 0 (fun _ => 0) ≠ []
      · obtain ⟨m', h1, h2⟩ := q
        exact ih m' h1 h2
      · exact ⟨M, hM, fun m' h1 => Classical.byContradiction fun z => q ⟨m', h1, z⟩⟩
  obtain ⟨m, h1, h2⟩ := key M (nb_has hs hf)
  cases e : nbL mt lt m n 0 (fun _ => 0) with
  | nil => exact absurd e h1
  | cons f0 t => exact ⟨m, f0, t, h2, e⟩
theorem phS_of {L W B : Nat} {V : VV} (hn : n ≤ 13) (hs : ∀ i j, mt i j = mt j i) (h : dpQ (chn mt lt n 0) L W B) (hp : phC n L W B V) : phS mt lt n (V 85 11) (V 85 12) (V 85 13) (V 96) := by
  obtain ⟨p1, p2, p3, p4⟩ := hp
  by_cases q : ∃ M f, phO mt lt n M f
  · obtain ⟨M, f, hf⟩ := q
    obtain ⟨m, f0, t, hi⟩ := isPh_ex hs M f hf
    obtain ⟨⟨e1, e2⟩, e3, e4⟩ := ph_eq hn hs h hi.1 hi.2
    refine Or.inr ⟨by rw [p3, if_neg (by omega)], m, f0, t, hi, by rw [p1, e1], by rw [p2, e3], fun j hj => ?_⟩
    have := e4 j hj
    rw [p4 j hj, this.2, e1]
    omega
  · have hno : ∀ m f, ¬ phO mt lt n m f := fun m f z => q ⟨m, f, z⟩
    exact Or.inl ⟨by rw [p3, if_pos (ph_no h hno)], hno⟩
theorem phS_M {X : VV} (h : phM mt lt n X) : phS mt lt n (X 99 86) (X 99 84) (X 99 85) (X 155) := by
  rcases h with h | ⟨h1, m, f0, t, h2, h3, h4, h5, h6⟩
  · exact Or.inl h
  · exact Or.inr ⟨h1, m, f0, t, ⟨h2, h3⟩, h4, h5, h6⟩
theorem phS_u {a a' c c' r r' : Int} {o o' : Nat → Int} (h : phS mt lt n a c r o) (g : phS mt lt n a' c' r' o') (hs : ∀ i j, mt i j = mt j i) : a = a' ∧ (a = 0 ∨ a = 1) ∧ (a = 1 → c = c' ∧ r = r' ∧ ∀ j, j < n → o j = o' j) := by
  rcases h with ⟨h1, h2⟩ | ⟨h1, m, f0, t, h2, h3, h4, h5⟩
  · rcases g with ⟨g1, g2⟩ | ⟨g1, m', f1, t1, g2, g3, g4, g5⟩
    · exact ⟨by omega, Or.inl h1, fun z => absurd z (by omega)⟩
    · exact absurd ((nb_ok hs).mp (show f1 ∈ nbL mt lt m' n 0 (fun _ => 0) by rw [g2.2]; exact List.mem_cons_self)).1 (h2 _ _)
  · rcases g with ⟨g1, g2⟩ | ⟨g1, m', f1, t1, g2, g3, g4, g5⟩
    · exact absurd ((nb_ok hs).mp (show f0 ∈ nbL mt lt m n 0 (fun _ => 0) by rw [h2.2]; exact List.mem_cons_self)).1 (g2 _ _)
    · obtain ⟨e1, e2⟩ := isPh_u h2 g2
      subst e1 e2
      exact ⟨by omega, Or.inr h1, fun _ => ⟨by omega, by omega, fun j hj => by rw [h5 j hj, g5 j hj]⟩⟩
theorem stS_u {lf e0 l0 : Nat → Int} {a s s' : Int} {ea la ea' la' : Nat → Int} (h : stS mt lt n lf e0 l0 a s ea la) (g : stS mt lt n lf e0 l0 a s' ea' la') (ha : a = 0 ∨ (a = 1 ∧ ∃ m f0 t, isPh mt lt n m f0 t)) : s = s' ∧ (a = 1 → ∀ i, i < n → ea i = ea' i ∧ la i = la' i) := by
  rcases ha with ha | ⟨ha, m, f0, t, hi⟩
  · exact ⟨(h.1 ha).trans (g.1 ha).symm, fun z => absurd z (by omega)⟩
  · have h1 := h.2 ha m f0 t hi
    have g1 := g.2 ha m f0 t hi
    exact ⟨h1.1.trans g1.1.symm, fun _ i hi => ⟨(h1.2 i hi).1.trans (g1.2 i hi).1.symm, (h1.2 i hi).2.trans (g1.2 i hi).2.symm⟩⟩
end
section
variable (b : Bk) (k : Int) (Ks : Nat → Kd) (nk c : Nat) (ρ : Nat → Nat) (ch : Nat)
abbrev aN : Nat := (allK b k (spS b k c) Ks nk).1
abbrev aL : Nat → Nat → Int := (allK b k (spS b k c) Ks nk).2
abbrev aMt : Nat → Nat → Bool := mtM (spS b k c) Ks (aL b k Ks nk c) ch (aN b k Ks nk c)
abbrev aLt : Nat → Nat → Bool := ltM b k c (aL b k Ks nk c) ch (aN b k Ks nk c)
abbrev aC : Nat := chN ch (aN b k Ks nk c)
def S1 (V : VV) : Prop := isB (KK b k) 6724 c ∧ sgC b k c V ∧ mapC (spS b k c) V ∧ ∀ i, i < (spS b k c).m → V 49 i = (spS b k c).y i
def S2 (V : VV) : Prop := aN b k Ks nk c ≤ 24 ∧ V 56 1 = (aN b k Ks nk c : Int) ∧ rwL (spS b k c) Ks (aN b k Ks nk c) (aL b k Ks nk c) ρ V ∧ ∀ j, j < nk → V 31 j = gvK b k (spS b k c) Ks j ∧ (V 32 j = -1 ∨ V 32 j = (weak b k (spS b k c) Ks j 7 : Int))
def S3 (V : VV) : Prop := isCh (vL (aL b k Ks nk c)) (bL (aL b k Ks nk c)) (aN b k Ks nk c) ch ∧ stC (aN b k Ks nk c) (vL (aL b k Ks nk c)) ch V ∧ (∀ j, j < aN b k Ks nk c → V (ρ j) 19 = bi (ch.testBit j)) ∧ ho58 b k c (aL b k Ks nk c) ch (aN b k Ks nk c) V ∧ (V 30 13 = 1 → fnC (spS b k c) (lz0 (aL b k Ks nk c) ch (aN b k Ks nk c)) V)
def S4 (V : VV) (R : RR) : Prop := ordC (aMt b k Ks nk c ch) (aLt b k Ks nk c ch) ρ ch (aN b k Ks nk c) V R ∧ phS (aMt b k Ks nk c ch) (aLt b k Ks nk c ch) (aC b k Ks nk c ch) (V 85 11) (V 85 12) (V 85 13) (V 96)
def S5 (V : VV) : Prop := stS (aMt b k Ks nk c ch) (aLt b k Ks nk c ch) (aC b k Ks nk c ch) (lfM Ks (aL b k Ks nk c) ch (aN b k Ks nk c)) (e0M b k c (aL b k Ks nk c) ch (aN b k Ks nk c) b.dn) (l0M b k c (aL b k Ks nk c) ch (aN b k Ks nk c) b.dn) (V 85 11) (V 85 15) (V 97) (V 98)
/-- all that stands at a stage -/
def svC (sg : Int) (V : VV) (R : RR) : Prop := (1 ≤ sg → S1 b k c V) ∧ (2 ≤ sg → S2 b k Ks nk c ρ V) ∧ (3 ≤ sg → S3 b k Ks nk c ρ ch V) ∧ (4 ≤ sg → S4 b k Ks nk c ρ ch V R) ∧ (5 ≤ sg → S5 b k Ks nk c ch V)
end
section
variable {b : Bk} {w k : Int}
theorem sw_S1 (h : sameW b w k) : S1 b w = S1 b k := by funext c V; unfold S1; rw [sw_KK h, sw_sgC h, sw_spS h]
theorem sw_S2 (h : sameW b w k) : S2 b w = S2 b k := by funext Ks nk c ρ V; unfold S2 aN aL; rw [sw_spS h, sw_allK h, sw_gvK h, sw_weak h]
theorem sw_S3 (h : sameW b w k) : S3 b w = S3 b k := by funext Ks nk c ρ ch V; unfold S3 aN aL; rw [sw_spS h, sw_allK h, sw_ho58 h]
theorem sw_S4 (h : sameW b w k) : S4 b w = S4 b k := by funext Ks nk c ρ ch V R; unfold S4 aC aMt aLt aN aL; rw [sw_spS h, sw_allK h, sw_ltM h]
theorem sw_S5 (h : sameW b w k) : S5 b w = S5 b k := by funext Ks nk c ch V; unfold S5 aC aMt aLt aN aL; rw [sw_spS h, sw_allK h, sw_ltM h, sw_e0M h, sw_l0M h]
theorem sw_svC (h : sameW b w k) : svC b w = svC b k := by funext Ks nk c ρ ch sg V R; unfold svC; rw [sw_S1 h, sw_S2 h, sw_S3 h, sw_S4 h, sw_S5 h]
end
/-! that it stays -/
section
variable {b : Bk} {k : Int} {Ks : Nat → Kd} {nk c : Nat} {ρ : Nat → Nat} {ch : Nat} {V V' : VV} {R R' : RR}
theorem S1_x (h : S1 b k c V) (e : ∀ a, 34 ≤ a → a ≤ 51 → V' a = V a) : S1 b k c V' := by
  obtain ⟨h1, h2, h3, h4⟩ := h
  refine ⟨h1, ?_, ?_, fun i hi => by rw [e 49 (by omega) (by omega)]; exact h4 i hi⟩
  · unfold sgC frC snC at h2 ⊢
    rw [e 34 (by omega) (by omega), e 35 (by omega) (by omega), e 36 (by omega) (by omega), e 37 (by omega) (by omega), e 39 (by omega) (by omega), e 40 (by omega) (by omega), e 41 (by omega) (by omega)]
    exact h2
  · unfold mapC sC at h3 ⊢
    rw [e 44 (by omega) (by omega), e 45 (by omega) (by omega), e 46 (by omega) (by omega), e 47 (by omega) (by omega), e 48 (by omega) (by omega), e 50 (by omega) (by omega), e 51 (by omega) (by omega)]
    exact h3
theorem S2_x (h : S2 b k Ks nk c ρ V) (hrw : rwI R ρ) (e1 : V' 56 1 = V 56 1) (e2 : ∀ a j, 60 ≤ a → a ≤ 84 → j < 19 → V' a j = V a j) (e3 : V' 31 = V 31) (e4 : V' 32 = V 32) : S2 b k Ks nk c ρ V' := ⟨h.1, by rw [e1]; exact h.2.1, rwL_x h.2.2.1 hrw h.1 e2, fun j hj => by rw [e3, e4]; exact h.2.2.2 j hj⟩
theorem fnC_x {S : Sp} {L0 : Nat → Bool} (h : fnC S L0 V) (e1 : V' 30 12 = V 30 12) (e2 : V' 33 = V 33) : fnC S L0 V' := by
  unfold fnC; rw [e1, e2]; exact h
theorem S3_x (h : S3 b k Ks nk c ρ ch V) (hN : aN b k Ks nk c ≤ 24) (hrw : rwI R ρ) (e1 : ∀ j, 3 ≤ j → j ≤ 5 → V' 56 j = V 56 j) (e2 : ∀ a, 60 ≤ a → a ≤ 84 → V' a 19 = V a 19) (e3 : V' 58 = V 58) (e4 : V' 30 13 = V 30 13) (e5 : V' 30 12 = V 30 12) (e6 : V' 33 = V 33) : S3 b k Ks nk c ρ ch V' := by
  obtain ⟨h1, h2, h3, h4, h5⟩ := h
  refine ⟨h1, ?_, fun j hj => by rw [e2 _ (hrw.1 j (by omega)).2.1 (hrw.1 j (by omega)).2.2]; exact h3 j hj, ho58_x h4 e3, fun z => fnC_x (h5 (by rw [← e4]; exact z)) e5 e6⟩
  unfold stC at h2 ⊢
  rw [e1 5 (by omega) (by omega), e1 3 (by omega) (by omega), e1 4 (by omega) (by omega)]
  exact h2
theorem S4_x (h : S4 b k Ks nk c ρ ch V R) (e1 : V' 85 0 = V 85 0) (e2 : ∀ j, 11 ≤ j → j ≤ 13 → V' 85 j = V 85 j) (e3 : ∀ a, 87 ≤ a → a ≤ 96 → V' a = V a) (e4 : ∀ i, R' 86 i = R 86 i) : S4 b k Ks nk c ρ ch V' R' := by
  obtain ⟨⟨h1, h2, h3, h4, h5, h6, h7⟩, h8⟩ := h
  refine ⟨⟨by rw [e1]; exact h1, by rw [e3 87 (by omega) (by omega)]; exact h2, rowC_x h3 (e3 88 (by omega) (by omega)), rowC_x h4 (e3 89 (by omega) (by omega)), rowC_x h5 (e3 90 (by omega) (by omega)), lsS_x h6 (e3 91 (by omega) (by omega)) (e3 92 (by omega) (by omega)), fun t ht => by rw [e4]; exact h7 t ht⟩, ?_⟩
  rw [e2 11 (by omega) (by omega), e2 12 (by omega) (by omega), e2 13 (by omega) (by omega), e3 96 (by omega) (by omega)]
  exact h8
theorem S5_x (h : S5 b k Ks nk c ch V) (e1 : V' 85 11 = V 85 11) (e2 : V' 85 15 = V 85 15) (e3 : V' 97 = V 97) (e4 : V' 98 = V 98) : S5 b k Ks nk c ch V' := by
  unfold S5 at h ⊢
  rw [e1, e2, e3, e4]
  exact h
/-- facts of the list -/
theorem a_row : allR (rowP b k (spS b k c) Ks nk) (aN b k Ks nk c) (aL b k Ks nk c) := all_row nk (Nat.le_refl _)
theorem a_13 (ho : bO b) (ko : ∀ i, i < nk → kO (Ks i)) (hO : cOk (vL (aL b k Ks nk c)) (bL (aL b k Ks nk c)) (aN b k Ks nk c) ch) : aC b k Ks nk c ch ≤ 13 := by
  refine ch_13 hO fun i hi => ?_
  obtain ⟨kd, p, q, r, ⟨_, h2, h3, h4⟩, ⟨h5, h6, h7⟩, _, _, h8, h9, h10⟩ := row_f (a_row i hi) ko
  have hm := (spS_O (b := b) (k := k) (c := c) ho).1
  exact ⟨p, q, r, by omega, by omega, by omega, h5, h6, h7, h8, h9, h10⟩
theorem a_lf (ko : ∀ i, i < nk → kO (Ks i)) : ∀ i, i < aC b k Ks nk c ch → 0 ≤ lfM Ks (aL b k Ks nk c) ch (aN b k Ks nk c) i ∧ lfM Ks (aL b k Ks nk c) ch (aN b k Ks nk c) i ≤ 500 := fun i hi => by
  have ni := nth_ok (p := fun x => ch.testBit x) (n := aN b k Ks nk c) (i := i) hi
  obtain ⟨kd, p, q, r, ⟨z1, _⟩, _, ⟨z2, _⟩, _⟩ := row_f (a_row (mbr ch (aN b k Ks nk c) i) ni.1) ko
  have z := (ko kd z1).2.2.2.2.2.2.2.2.1
  unfold lfM
  rw [z2, Int.toNat_natCast]
  omega
end
theorem S1_mk {b : Bk} {k : Int} {c : Nat} {V V0 : VV} (h1 : isB (KK b k) 6724 c) (h2 : sgC b k c V0) (e : ∀ a, 34 ≤ a → a ≤ 41 → V a = V0 a) (h3 : mapC (spS b k c) V) (h4 : ∀ i, i < (spS b k c).m → V 49 i = (spS b k c).y i) : S1 b k c V := by
  refine ⟨h1, ?_, h3, h4⟩
  unfold sgC frC snC at h2 ⊢
  rw [e 34 (by omega) (by omega), e 35 (by omega) (by omega), e 36 (by omega) (by omega), e 37 (by omega) (by omega), e 39 (by omega) (by omega), e 40 (by omega) (by omega), e 41 (by omega) (by omega)]
  exact h2
theorem ho58_mk {b : Bk} {k : Int} {c : Nat} {l : Nat → Nat → Int} {ch N : Nat} {Ks : Nat → Kd} {ρ : Nat → Nat} {V X : VV} (hrl : rwL (spS b k c) Ks N l ρ V) (h : ∀ x, x < 40 → X 58 x = lstB (hoB V ρ ch x) N) : ho58 b k c l ch N X := by
  refine ⟨fun i => (V (ρ i) 18).toNat, fun i hi => ?_, h⟩
  obtain ⟨x, e, m⟩ := ho_18 (hrl i hi).1
  show mR (spS b k c) (bL l i) (V (ρ i) 18).toNat
  rw [e, Int.toNat_natCast]
  exact m
theorem offA {A : List (Nat × Nat)} {F : List (Nat × Nat × Nat)} {V X : VV} (f : chg A F V X) (lo hi : Nat) (h : ((List.range (hi + 1)).all fun i => Nat.blt i lo || offC A F i) = true) : ∀ a, lo ≤ a → a ≤ hi → X a = V a := fun a h1 h2 => by
  rw [List.all_eq_true] at h
  have := h a (List.mem_range.mpr (by omega))
  rw [Bool.or_eq_true] at this
  rcases this with z | z
  · exact absurd (Nat.le_of_ble_eq_true z) (by omega)
  · exact chg_k f z
/-- all that a call finds in the class -/
def icB (b : Bk) (Ks : Nat → Kd) (nk : Nat) (V : VV) : Prop := nwO b (V 15) ∧ V 16 4 = (nk : Int) ∧ ∀ i, i < nk → i < 5 → kC (Ks i) (19 + i) V
def okB (b : Bk) (Ks : Nat → Kd) (nk : Nat) : Prop := bO b ∧ bW b ∧ nk ≤ 5 ∧ ∀ i, i < nk → kO (Ks i)
def rchQ (b : Bk) (Ks : Nat → Kd) (nk kk t : Nat) (V : VV) : Option AV → VV → RR → Prop := fun r X Q => FinR Q ∧ Bd X ∧ chg [(31, 98)] [(30, 7, 8), (30, 12, 13)] V X ∧ r = some (vi (bi true)) ∧ X 30 7 = (wkF (V 15) kk : Int) ∧ (t : Int) ≤ X 30 8 ∧ ∃ ρ c ch, rwI Q ρ ∧ svC b (wkF (V 15) kk : Int) Ks nk c ρ ch (X 30 8) X Q
theorem icB_c {b : Bk} {Ks : Nat → Kd} {nk : Nat} {V X : VV} (h : icB b Ks nk V) (f : chg [(31, 98)] [(30, 7, 8), (30, 12, 13)] V X) : icB b Ks nk X := by
  obtain ⟨h1, h2, h3⟩ := h
  refine ⟨by rw [chg_k (c := 15) f rfl]; exact h1, by rw [chg_k (c := 16) f rfl]; exact h2, fun i hi h5 j hj => ?_⟩
  rw [offA f 19 23 rfl (19 + i) (by omega) (by omega)]
  exact h3 i hi h5 j hj
section
variable {b : Bk} {k sg : Int} {Ks : Nat → Kd} {nk c : Nat} {ρ : Nat → Nat} {ch : Nat} {V V' : VV} {R : RR}
theorem svC_0 (h : sg = 0) : svC b k Ks nk c ρ ch sg V R := ⟨fun z => by omega, fun z => by omega, fun z => by omega, fun z => by omega, fun z => by omega⟩
theorem svC_1 (h : sg = 1) (h1 : S1 b k c V) : svC b k Ks nk c ρ ch sg V R := ⟨fun _ => h1, fun z => by omega, fun z => by omega, fun z => by omega, fun z => by omega⟩
theorem svC_2 (h : sg = 2) (h1 : S1 b k c V) (h2 : S2 b k Ks nk c ρ V) : svC b k Ks nk c ρ ch sg V R := ⟨fun _ => h1, fun _ => h2, fun z => by omega, fun z => by omega, fun z => by omega⟩
theorem svC_3 (h : sg = 3) (h1 : S1 b k c V) (h2 : S2 b k Ks nk c ρ V) (h3 : S3 b k Ks nk c ρ ch V) : svC b k Ks nk c ρ ch sg V R := ⟨fun _ => h1, fun _ => h2, fun _ => h3, fun z => by omega, fun z => by omega⟩
theorem svC_4 (h : sg = 4) (h1 : S1 b k c V) (h2 : S2 b k Ks nk c ρ V) (h3 : S3 b k Ks nk c ρ ch V) (h4 : S4 b k Ks nk c ρ ch V R) : svC b k Ks nk c ρ ch sg V R := ⟨fun _ => h1, fun _ => h2, fun _ => h3, fun _ => h4, fun z => by omega⟩
theorem svC_5 (h : sg = 5) (h1 : S1 b k c V) (h2 : S2 b k Ks nk c ρ V) (h3 : S3 b k Ks nk c ρ ch V) (h4 : S4 b k Ks nk c ρ ch V R) (h5 : S5 b k Ks nk c ch V) : svC b k Ks nk c ρ ch sg V R := ⟨fun _ => h1, fun _ => h2, fun _ => h3, fun _ => h4, fun _ => h5⟩
theorem S3_n (h1 : isCh (vL (aL b k Ks nk c)) (bL (aL b k Ks nk c)) (aN b k Ks nk c) ch) (h2 : stC (aN b k Ks nk c) (vL (aL b k Ks nk c)) ch V) (h3 : ∀ j, j < aN b k Ks nk c → V (ρ j) 19 = bi (ch.testBit j)) (h4 : ho58 b k c (aL b k Ks nk c) ch (aN b k Ks nk c) V) (h5 : V 30 13 = 0) : S3 b k Ks nk c ρ ch V := ⟨h1, h2, h3, h4, fun z => by omega⟩
end
theorem inF_lt {j : Nat} (h : j ≤ 13) : inF [(85, 15, 15)] 85 j = false := by
  unfold inF
  simp
  omega
theorem ea_x {n : Nat} {rl : Nat → Nat → Bool} {f g : Nat → Nat} {lf e0 : Nat → Int} (h : ∀ i, i < n → f i = g i) : ∀ i, i < n → eaM n rl f lf e0 i = eaM n rl g lf e0 i := fun i hi => by
  have h1 : isE n rl g (fun _ j => lf j) e0 (eaM n rl f lf e0) := fun i hi => by
    obtain ⟨a, c, d⟩ := ea_E n rl f lf e0 i hi
    refine ⟨a, fun j hj z1 z2 => c j hj z1 (by rw [h i hi, h j hj]; exact z2), d.elim Or.inl fun ⟨j, z1, z2, z3, z4⟩ => Or.inr ⟨j, z1, z2, by rw [← h i hi, ← h j z1]; exact z3, z4⟩⟩
  exact isE_u h1 (ea_E n rl g lf e0) (g i + 1) i hi (by omega)
theorem na_x {n : Nat} {rl : Nat → Nat → Bool} {f g : Nat → Nat} {lf l0 : Nat → Int} (h : ∀ i, i < n → f i = g i) : ∀ i, i < n → naM n rl f lf l0 i = naM n rl g lf l0 i := fun i hi => by
  have h1 : isE n rl (fun j => n - 1 - g j) (fun i _ => lf i) l0 (naM n rl f lf l0) := fun i hi => by
    obtain ⟨a, c, d⟩ := na_E n rl f lf l0 i hi
    refine ⟨a, fun j hj z1 z2 => c j hj z1 (by show n - 1 - f j < n - 1 - f i; rw [h i hi, h j hj]; exact z2), d.elim Or.inl fun ⟨j, z1, z2, z3, z4⟩ => Or.inr ⟨j, z1, z2, by show n - 1 - g j < n - 1 - g i; rw [← h i hi, ← h j z1]; exact z3, z4⟩⟩
  exact isE_u h1 (na_E n rl g lf l0) (n - 1 - g i + 1) i hi (by omega)
theorem hsB_x {n : Nat} {a a' c c' : Nat → Int} (h : ∀ i, i < n → a i = a' i ∧ c i = c' i) : hsB n a c = hsB n a' c' := by
  have key : ∀ m, m ≤ n → anyB (fun i => decide (- c i < a i)) m = anyB (fun i => decide (- c' i < a' i)) m := by
    intro m
    induction m with
    | zero => intro _; rfl
    | succ m ih =>
      intro hm
      show (anyB (fun i => decide (- c i < a i)) m || decide (- c m < a m)) = (anyB (fun i => decide (- c' i < a' i)) m || decide (- c' m < a' m))
      rw [ih (by omega), (h m (by omega)).1, (h m (by omega)).2]
  exact key n (Nat.le_refl _)
theorem S5_n {b : Bk} {k : Int} {Ks : Nat → Kd} {nk c ch : Nat} {V X X' : VV} {f5 : Nat → Nat} {m5 : Nat} (e11 : X' 85 11 = V 85 11) (ps : (V 85 11 = 0 → X 85 15 = 0) ∧ (V 85 11 = 1 → X 85 15 = bi (!(hsB (aC b k Ks nk c ch) (eaM (aC b k Ks nk c ch) (rlB (aMt b k Ks nk c ch) (aLt b k Ks nk c ch)) f5 (lfM Ks (aL b k Ks nk c) ch (aN b k Ks nk c)) (e0M b k c (aL b k Ks nk c) ch (aN b k Ks nk c) b.dn)) (naM (aC b k Ks nk c ch) (rlB (aMt b k Ks nk c ch) (aLt b k Ks nk c ch)) f5 (lfM Ks (aL b k Ks nk c) ch (aN b k Ks nk c)) (l0M b k c (aL b k Ks nk c) ch (aN b k Ks nk c) b.dn)))) ∧ ∀ i, i < aC b k Ks nk c ch → X 97 i = eaM (aC b k Ks nk c ch) (rlB (aMt b k Ks nk c ch) (aLt b k Ks nk c ch)) f5 (lfM Ks (aL b k Ks nk c) ch (aN b k Ks nk c)) (e0M b k c (aL b k Ks nk c) ch (aN b k Ks nk c) b.dn) i ∧ X 98 i = - naM (aC b k Ks nk c ch) (rlB (aMt b k Ks nk c ch) (aLt b k Ks nk c ch)) f5 (lfM Ks (aL b k Ks nk c) ch (aN b k Ks nk c)) (l0M b k c (aL b k Ks nk c) ch (aN b k Ks nk c) b.dn) i)) (e15 : X' 85 15 = X 85 15) (e97 : X' 97 = X 97) (e98 : X' 98 = X 98) (hph : V 85 11 = 1 → ∀ m f0 t, isPh (aMt b k Ks nk c ch) (aLt b k Ks nk c ch) (aC b k Ks nk c ch) m f0 t → ∀ i, i < aC b k Ks nk c ch → f0 i = f5 i) (h11 : V 85 11 = 0 ∨ (V 85 11 = 1 ∧ V 85 12 = (m5 : Int) ∧ m5 ≤ aC b k Ks nk c ch ∧ ∀ i, i < aC b k Ks nk c ch → V 96 i = (f5 i : Int) ∧ f5 i < m5)) : S5 b k Ks nk c ch X' := by
  unfold S5 stS
  rw [e11, e15, e97, e98]
  refine ⟨ps.1, fun z m f0 t hi => ?_⟩
  obtain ⟨p1, p2⟩ := ps.2 z
  have hx := ea_x (rl := rlB (aMt b k Ks nk c ch) (aLt b k Ks nk c ch)) (lf := lfM Ks (aL b k Ks nk c) ch (aN b k Ks nk c)) (e0 := e0M b k c (aL b k Ks nk c) ch (aN b k Ks nk c) b.dn) (hph z m f0 t hi)
  have hy := na_x (rl := rlB (aMt b k Ks nk c ch) (aLt b k Ks nk c ch)) (lf := lfM Ks (aL b k Ks nk c) ch (aN b k Ks nk c)) (l0 := l0M b k c (aL b k Ks nk c) ch (aN b k Ks nk c) b.dn) (hph z m f0 t hi)
  exact ⟨by rw [p1, hsB_x (fun i hi => ⟨hx i hi, hy i hi⟩)], fun i hi => ⟨by rw [(p2 i hi).1, hx i hi], by rw [(p2 i hi).2, hy i hi]⟩⟩
theorem ph_f {mt lt : Nat → Nat → Bool} {n : Nat} {hw cn rv : Int} {ro : Nat → Int} (h : phS mt lt n hw cn rv ro) (hs : ∀ i j, mt i j = mt j i) : ∃ (m5 : Nat) (f5 : Nat → Nat), (hw = 0 ∨ (hw = 1 ∧ cn = (m5 : Int) ∧ m5 ≤ n ∧ ∀ i, i < n → ro i = (f5 i : Int) ∧ f5 i < m5)) ∧ (hw = 1 → ∀ m f0 t, isPh mt lt n m f0 t → ∀ i, i < n → f0 i = f5 i) := by
  rcases h with z | ⟨z1, m0, f0, t0, z2, z3, z4, z5⟩
  · exact ⟨0, fun _ => 0, Or.inl z.1, fun y => absurd y (by omega)⟩
  · have zb := isPh_b hs z2
    exact ⟨m0, f0, Or.inr ⟨z1, z3, zb.1, fun i hi => ⟨z5 i hi, zb.2 i hi⟩⟩, fun _ m f1 t hi i _ => by rw [(isPh_u hi z2).2]⟩
