/-! what is told, on both sides -/
theorem bM_self {V : VV} (hB : Bd V) : bM V V := by
  have g : ∀ (k : Nat) (hi : Int), clB 11 k = some (0, hi) → V 99 k = (((V 99 k).toNat : Nat) : Int) := fun k hi h => (Int.toNat_of_nonneg (hB.2 99 11 k 0 hi rfl h).1).symm
  exact ⟨g 2 40 rfl, rfl, g 3 60 rfl, g 4 20 rfl, g 5 20 rfl, g 6 60 rfl, g 7 60 rfl, rfl, rfl, rfl, rfl, rfl, rfl, rfl, rfl, rfl, rfl, rfl, rfl, rfl, rfl, rfl, rfl, rfl, rfl, rfl, rfl⟩
section
variable {b b' : Bk} {Ks : Nat → Kd} {nk : Nat} {V X Y : VV} {R : RR}
/-- a refusal -/
theorem inv_no {s : Int} (h : INV b Ks nk V R) (hB : Bd (uV (uV V 0 3 s) 99 0 s)) : INV b Ks nk (uV (uV V 0 3 s) 99 0 s) R := by
  obtain ⟨⟨_, hF⟩, ok, ⟨c1, c2, c3, c4⟩, ⟨m1, m2, m3, m4⟩, t1, t2, t3, t4⟩ := h
  have e : ∀ a, a ≠ 0 → a ≠ 99 → uV (uV V 0 3 s) 99 0 s a = V a := fun a h1 h2 => by rw [uV_cell h2, uV_cell h1]
  have e9 : ∀ j, j ≠ 0 → uV (uV V 0 3 s) 99 0 s 99 j = V 99 j := fun j hj => by rw [uV_ne (fun z => hj z.2), uV_ne (fun z => absurd z.1 (by decide))]
  refine ⟨⟨hB, hF⟩, ok, ⟨bC_fr c1 (fun a h1 h2 => e a (by omega) (by omega)), icB_x c2 (fun a h1 h2 => e a (by omega) (by omega)), LR_x c3 (fun a h1 h2 => e a (by omega) (by omega)), svX_e c4 (fun a h1 h2 => e a (by omega) (by omega))⟩, ⟨bM_fr m1 (fun a h1 h2 => e a (by omega) (by omega)) (fun k h1 h2 => e9 k (by omega)), ⟨by rw [e9 36 (by omega)]; exact m2.1, fun i hi j hj => by rw [e 122 (by omega) (by omega), e 123 (by omega) (by omega)]; exact m2.2 i hi j hj⟩, ?_, ConM_x m4 (fun a h1 h2 => e a (by omega) (by omega))⟩, ?_⟩
  · have eA : ∀ a, 100 ≤ a → a ≤ 161 → uV (uV V 0 3 s) 99 0 s a = V a := fun a h1 h2 => e a (by omega) (by omega)
    unfold ldM
    rw [e9 1 (by omega)]
    rcases m3 with z | ⟨z1, c, ch, l1, l2, l3, l4, l5, l6, l7, l8, l9, l10, l11⟩
    · exact Or.inl z
    · refine Or.inr ⟨z1, c, ch, l1, spM_x l2 (fun j h1 h2 => e9 j (by omega)) (fun a h1 h2 => eA a (by omega) (by omega)), lsM_x l3 (e9 57 (by omega)) (fun a h1 h2 => eA a (by omega) (by omega)), l4, ?_, ?_, ?_, relM_x l8 (eA 152 (by omega) (by omega)) (eA 153 (by omega) (by omega)), ?_, ?_, ?_⟩
      · rw [eA 147 (by omega) (by omega)]; exact l5
      · rw [e9 80 (by omega), e9 81 (by omega)]; exact l6
      · rw [e9 83 (by omega), eA 151 (by omega) (by omega)]; exact l7
      · rw [e9 86 (by omega), e9 84 (by omega), e9 85 (by omega), eA 155 (by omega) (by omega)]; exact l9
      · rw [e9 86 (by omega), e9 87 (by omega), eA 156 (by omega) (by omega), eA 157 (by omega) (by omega)]; exact l10
      · unfold fnM; rw [e9 97 (by omega), eA 160 (by omega) (by omega)]; exact l11
  · unfold tpE
    rw [e 16 (by omega) (by omega), e 17 (by omega) (by omega), e 120 (by omega) (by omega), e9 30 (by omega), e9 34 (by omega)]
    refine ⟨t1, t2, t3, ?_⟩
    rw [uV_self, uV_ne (fun z => absurd z.1 (by decide)), uV_self]
/-- something told: the book is another, the stage goes back -/
theorem inv_tell {s : Int} (h : INV b Ks nk V R) (hB : Bd Y) (hbM : bM b' Y) (hbC : bC b' Y) (hW : bW b') (hnw : nwO b' (Y 15)) (hL : LR Y) (e16 : ∀ a, 16 ≤ a → a ≤ 29 → Y a = V a) (e30 : ∀ j, j ≠ 8 → Y 30 j = V 30 j) (e31 : ∀ a, 31 ≤ a → a ≤ 98 → Y a = V a) (e120 : ∀ a, 120 ≤ a → a ≤ 127 → Y a = V a) (e99 : ∀ j, 30 ≤ j → j ≤ 36 → Y 99 j = V 99 j) (y0 : Y 0 3 = 0) (y9 : Y 99 0 = 0) (y1 : Y 99 1 = -1) (y8 : Y 30 8 = if s < V 30 8 then s else V 30 8) (hs : 0 ≤ s ∧ s ≤ 4) (a1 : 1 ≤ s → ag1 b b') (a2 : 2 ≤ s → ag2 b b') (a3 : 4 ≤ s → ag3 b b') : INV b' Ks nk Y R := by
  obtain ⟨⟨_, hF⟩, ok, ⟨c1, c2, c3, ρ, c, ch, w1, w2⟩, ⟨m1, m2, m3, m4⟩, t1, t2, t3, t4⟩ := h
  have le : Y 30 8 ≤ s ∧ Y 30 8 ≤ V 30 8 := by rw [y8]; split <;> omega
  refine ⟨⟨hB, hF⟩, ⟨bO_of hbM hB, hW, ok.2.2⟩, ⟨hbC, ⟨hnw, by rw [e16 16 (by omega) (by omega)]; exact c2.2.1, fun i hi h5 j hj => by rw [e16 (19 + i) (by omega) (by omega)]; exact c2.2.2 i hi h5 j hj⟩, hL, ρ, c, ch, w1, ?_⟩, ⟨hbM, ⟨by rw [e99 36 (by omega) (by omega)]; exact m2.1, fun i hi j hj => by rw [e120 122 (by omega) (by omega), e120 123 (by omega) (by omega)]; exact m2.2 i hi j hj⟩, Or.inl y1, ConM_x m4 (fun a h1 h2 => e120 a (by omega) (by omega))⟩, ?_⟩
  · rw [e30 7 (by omega)]
    obtain ⟨h1, h2, h3, h4, h5⟩ := w2
    have n56 := e31 56 (by omega) (by omega)
    have n85 := e31 85 (by omega) (by omega)
    refine ⟨fun z => ?_, fun z => ?_, fun z => ?_, fun z => ?_, fun z => by omega⟩
    · rw [← c1_S1 (a1 (by omega))]
      exact S1_x (h1 (by omega)) (fun a g1 g2 => e31 a (by omega) (by omega))
    · rw [← c2_S2 (a2 (by omega))]
      exact S2_x (h2 (by omega)) w1 (by rw [n56]) (fun a j g1 g2 _ => by rw [e31 a (by omega) (by omega)]) (e31 31 (by omega) (by omega)) (e31 32 (by omega) (by omega))
    · rw [← c2_S3 (a2 (by omega))]
      exact S3_x (h3 (by omega)) (h2 (by omega)).1 w1 (fun j _ _ => by rw [n56]) (fun a g1 g2 => by rw [e31 a (by omega) (by omega)]) (e31 58 (by omega) (by omega)) (e30 13 (by omega)) (e30 12 (by omega)) (e31 33 (by omega) (by omega))
    · rw [← c3_S4 (a3 (by omega))]
      exact S4_x (h4 (by omega)) (by rw [n85]) (fun j _ _ => by rw [n85]) (fun a g1 g2 => e31 a (by omega) (by omega)) (fun i => rfl)
  · unfold tpE
    rw [e16 16 (by omega) (by omega), e16 17 (by omega) (by omega), e120 120 (by omega) (by omega), e99 30 (by omega) (by omega), e99 34 (by omega) (by omega), y0, y9]
    exact ⟨t1, t2, t3, rfl⟩
/-- books that agree, by where they lie -/
theorem ag1_of (h : bM b V) (g : bM b' Y) (e : ∀ j, j = 2 ∨ j = 3 ∨ j = 5 ∨ j = 8 → Y 99 j = V 99 j) (e2 : ∀ a, (100 ≤ a ∧ a ≤ 108) ∨ a = 111 ∨ a = 112 → Y a = V a) : ag1 b b' := by
  have i1 := h.n; have i2 := g.n; have i3 := h.rn; have i4 := g.rn; have i5 := h.pn; have i6 := g.pn; have i7 := h.e; have i8 := g.e
  rw [e 2 (by omega)] at i2
  rw [e 3 (by omega)] at i4
  rw [e 5 (by omega)] at i6
  rw [e 8 (by omega)] at i8
  have c : ∀ a, (100 ≤ a ∧ a ≤ 108) ∨ a = 111 ∨ a = 112 → V a = Y a := fun a ha => (e2 a ha).symm
  exact ⟨by omega, by omega, by omega, by omega, h.dg.symm.trans ((c 100 (by omega)).trans g.dg), h.hx.symm.trans ((c 101 (by omega)).trans g.hx), h.hy.symm.trans ((c 102 (by omega)).trans g.hy), h.dp.symm.trans ((c 103 (by omega)).trans g.dp), h.kn.symm.trans ((c 104 (by omega)).trans g.kn), h.st.symm.trans ((c 105 (by omega)).trans g.st), h.rO.symm.trans ((c 106 (by omega)).trans g.rO), h.rD.symm.trans ((c 107 (by omega)).trans g.rD), h.rK.symm.trans ((c 108 (by omega)).trans g.rK), h.pl.symm.trans ((c 111 (by omega)).trans g.pl), h.pd.symm.trans ((c 112 (by omega)).trans g.pd)⟩
theorem ag2_of (h : bM b V) (g : bM b' Y) (h1 : ag1 b b') (e : Y 99 4 = V 99 4) (e2 : ∀ a, 109 ≤ a → a ≤ 110 → Y a = V a) : ag2 b b' := by
  have i1 := h.tn; have i2 := g.tn
  rw [e] at i2
  exact ⟨h1, by omega, h.tr.symm.trans ((e2 109 (by omega) (by omega)).symm.trans g.tr), h.tk.symm.trans ((e2 110 (by omega) (by omega)).symm.trans g.tk)⟩
theorem ag3_of (h : bM b V) (g : bM b' Y) (h1 : ag2 b b') (e : Y 99 6 = V 99 6) (e2 : ∀ a, 113 ≤ a → a ≤ 115 → Y a = V a) : ag3 b b' := by
  have i1 := h.cn; have i2 := g.cn
  rw [e] at i2
  exact ⟨h1, by omega, h.cL.symm.trans ((e2 113 (by omega) (by omega)).symm.trans g.cL), h.cE.symm.trans ((e2 114 (by omega) (by omega)).symm.trans g.cE), h.cK.symm.trans ((e2 115 (by omega) (by omega)).symm.trans g.cK)⟩
end
/-! ledgers -/
theorem adv_c {V : VV} {t c n i : Nat} {x1 x2 x3 x4 x5 : Int} (hn : V t 2 = (n : Int)) (hct : c ≠ t) (hi : i ≤ n) : addV V t c x1 x2 x3 x4 x5 c (i * 5) = (if i = n then x1 else V c (i * 5)) ∧ addV V t c x1 x2 x3 x4 x5 c (i * 5 + 1) = (if i = n then x2 else V c (i * 5 + 1)) ∧ addV V t c x1 x2 x3 x4 x5 c (i * 5 + 2) = (if i = n then x3 else V c (i * 5 + 2)) ∧ addV V t c x1 x2 x3 x4 x5 c (i * 5 + 3) = (if i = n then x4 else V c (i * 5 + 3)) ∧ addV V t c x1 x2 x3 x4 x5 c (i * 5 + 4) = (if i = n then x5 else V c (i * 5 + 4)) := by
  have e : ∀ j, addV V t c x1 x2 x3 x4 x5 c j = if j = n * 5 + 4 then x5 else if j = n * 5 + 3 then x4 else if j = n * 5 + 2 then x3 else if j = n * 5 + 1 then x2 else if j = n * 5 then x1 else V c j := fun j => by
    unfold addV
    rw [hn, uV_cell hct, uV_at, uV_at, uV_at, uV_at, uV_at, show ((n : Int) * 5 + 4).toNat = n * 5 + 4 by omega, show ((n : Int) * 5 + 3).toNat = n * 5 + 3 by omega, show ((n : Int) * 5 + 2).toNat = n * 5 + 2 by omega, show ((n : Int) * 5 + 1).toNat = n * 5 + 1 by omega, show ((n : Int) * 5).toNat = n * 5 by omega]
  rw [e, e, e, e, e]
  by_cases q : i = n
  · subst q
    refine ⟨?_, ?_, ?_, ?_, ?_⟩ <;> (repeat' split) <;> first | rfl | omega
  · rw [if_neg q, if_neg q, if_neg q, if_neg q, if_neg q]
    refine ⟨?_, ?_, ?_, ?_, ?_⟩ <;> rw [if_neg (by omega), if_neg (by omega), if_neg (by omega), if_neg (by omega), if_neg (by omega)]
theorem adv_t {V : VV} {t c : Nat} {x1 x2 x3 x4 x5 : Int} (hct : t ≠ c) : addV V t c x1 x2 x3 x4 x5 t 2 = V t 2 + 1 ∧ ∀ j, j ≠ 2 → addV V t c x1 x2 x3 x4 x5 t j = V t j := by
  unfold addV
  refine ⟨uV_self, fun j hj => ?_⟩
  rw [uV_ne (fun z => hj z.2), uV_cell hct, uV_cell hct, uV_cell hct, uV_cell hct, uV_cell hct]
theorem adv_o {V : VV} {t c a : Nat} {x1 x2 x3 x4 x5 : Int} (h1 : a ≠ t) (h2 : a ≠ c) : addV V t c x1 x2 x3 x4 x5 a = V a := by
  unfold addV
  rw [uV_cell h1, uV_cell h2, uV_cell h2, uV_cell h2, uV_cell h2, uV_cell h2]
/-- the class's world behind something told -/
def telC (W : VV) (k s : Int) : VV := uV (forgV (markV W k) s) 0 3 0
theorem tel_o {W : VV} {k s : Int} {a : Nat} (h0 : a ≠ 0) (h1 : a ≠ 15) (h2 : a ≠ 30) : telC W k s a = W a := by
  unfold telC forgV markV
  rw [uV_cell h0, uV_cell h2, uV_cell h1]
theorem tel_15 {W : VV} {k s : Int} {j : Nat} : telC W k s 15 j = if j = k.toNat then 1 else W 15 j := by
  unfold telC forgV markV
  rw [uV_cell (by decide), uV_cell (by decide), uV_at]
theorem tel_30 {W : VV} {k s : Int} : telC W k s 30 8 = (if s < W 30 8 then s else W 30 8) ∧ ∀ j, j ≠ 8 → telC W k s 30 j = W 30 j := by
  unfold telC forgV markV
  refine ⟨?_, fun j hj => ?_⟩
  · rw [uV_cell (by decide), uV_self, uV_cell (by decide)]
  · rw [uV_cell (by decide), uV_ne (fun z => hj z.2), uV_cell (by decide)]
theorem tel_0 {W : VV} {k s : Int} : telC W k s 0 3 = 0 := uV_self
theorem nw_1 {nw nw' : Nat → Int} {k : Nat} (h : ∀ j, nw' j = if j = k then 1 else nw j) {x : Int} (hx : x = 0 ∨ nw x.toNat = 1) : x = 0 ∨ nw' x.toNat = 1 := by
  rcases hx with z | z
  · exact Or.inl z
  · refine Or.inr ?_
    rw [h]
    split
    · rfl
    · exact z

/-! each call that tells -/
section
variable {G : GG} {V : VV} {R : RR}
theorem ends_n {X : VV} {s : Int} (h : s < 0) : endsV X s = uV X 99 0 s := if_pos h
theorem ends_y {X : VV} {s : Int} (h : 0 ≤ s) : endsV X s = uV (uV X 99 0 0) 99 1 (-1) := if_neg (by omega)
/-- a refusal, on both sides -/
theorem pr_no {MM : Mth} {dM : Nat} {as : List AV} {s : Int} (h : INVX V R) (hs : -6 ≤ s ∧ s < 0) (hM : Runs G MM dM 162 162 (vr 99 :: as) (uV V 0 3 s) R (QV R s (endsV (uV V 0 3 s) s))) : ∃ v, (some (vi s) : Option AV) = some (vi v) ∧ r32 v ∧ Runs G MM dM 162 162 (vr 99 :: as) (uV V 0 3 s) R (fun r' Y Q' => r' = some (vi v) ∧ INVX Y Q') := by
  refine ⟨s, rfl, ⟨by omega, by omega⟩, hM.mono fun r' Y Q' hq => ?_⟩
  obtain ⟨rfl, rfl, rfl, y4⟩ := hq
  rw [ends_n hs.2] at y4 ⊢
  obtain ⟨b, Ks, nk, hI⟩ := h
  exact ⟨rfl, b, Ks, nk, inv_no hI y4⟩
end
