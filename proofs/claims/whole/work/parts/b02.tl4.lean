/-! error, strike, end, feed -/
section
variable {b : Bk} {Ks : Nat → Kd} {nk : Nat} {V X Y : VV} {R : RR}
theorem laidM_s {k : Int} {c ch : Nat} (h : laidM b Ks nk k c ch V) (e9 : ∀ j, 45 ≤ j → j ≤ 97 → X 99 j = V 99 j) (eA : ∀ a, 128 ≤ a → a ≤ 160 → X a = V a) : laidM b Ks nk k c ch X := by
  obtain ⟨l1, l2, l3, l4, l5, l6, l7, l8, l9, l10, l11⟩ := h
  refine ⟨l1, spM_x l2 (fun j h1 h2 => e9 j (by omega) (by omega)) (fun a h1 h2 => eA a (by omega) (by omega)), lsM_x l3 (e9 57 (by omega) (by omega)) (fun a h1 h2 => eA a (by omega) (by omega)), l4, ?_, ?_, ?_, relM_x l8 (eA 152 (by omega) (by omega)) (eA 153 (by omega) (by omega)), ?_, ?_, ?_⟩
  · rw [eA 147 (by omega) (by omega)]; exact l5
  · rw [e9 80 (by omega) (by omega), e9 81 (by omega) (by omega)]; exact l6
  · rw [e9 83 (by omega) (by omega), eA 151 (by omega) (by omega)]; exact l7
  · rw [e9 86 (by omega) (by omega), e9 84 (by omega) (by omega), e9 85 (by omega) (by omega), eA 155 (by omega) (by omega)]; exact l9
  · rw [e9 86 (by omega) (by omega), e9 87 (by omega) (by omega), eA 156 (by omega) (by omega), eA 157 (by omega) (by omega)]; exact l10
  · unfold fnM; rw [e9 97 (by omega) (by omega), eA 160 (by omega) (by omega)]; exact l11
/-- the tape alone has changed -/
theorem inv_tape (h : INV b Ks nk V R) (hB : Bd Y) (e : ∀ a, a ≠ 16 → a ≠ 17 → a ≠ 99 → a ≠ 120 → a ≠ 121 → Y a = V a) (e16 : ∀ j, j ≠ 1 → Y 16 j = V 16 j) (e9 : ∀ j, j ≠ 30 → Y 99 j = V 99 j) (t1 : Y 16 1 = Y 99 30) (t2 : ∀ i : Nat, i < (Y 99 30).toNat → tE (Y 120 i) (Y 17 i)) : INV b Ks nk Y R := by
  obtain ⟨⟨_, hF⟩, ok, ⟨c1, c2, c3, c4⟩, ⟨m1, m2, m3, m4⟩, _, _, t3, t4⟩ := h
  have ea : ∀ a, a ≠ 16 ∧ a ≠ 17 ∧ a ≠ 99 ∧ a ≠ 120 ∧ a ≠ 121 → Y a = V a := fun a h => e a h.1 h.2.1 h.2.2.1 h.2.2.2.1 h.2.2.2.2
  refine ⟨⟨hB, hF⟩, ok, ⟨bC_fr c1 (fun a h1 h2 => ea a (by omega)), ⟨by rw [ea 15 (by omega)]; exact c2.1, by rw [e16 4 (by omega)]; exact c2.2.1, fun i hi h5 j hj => by rw [ea (19 + i) (by omega)]; exact c2.2.2 i hi h5 j hj⟩, LR_x c3 (fun a h1 h2 => ea a (by omega)), svX_e c4 (fun a h1 h2 => ea a (by omega))⟩, ⟨bM_fr m1 (fun a h1 h2 => ea a (by omega)) (fun k h1 h2 => e9 k (by omega)), ⟨by rw [e9 36 (by omega)]; exact m2.1, fun i hi j hj => by rw [ea 122 (by omega), ea 123 (by omega)]; exact m2.2 i hi j hj⟩, ?_, ConM_x m4 (fun a h1 h2 => ea a (by omega))⟩, t1, t2, by rw [e16 5 (by omega), e9 34 (by omega)]; exact t3, by rw [ea 0 (by omega), e9 0 (by omega)]; exact t4⟩
  unfold ldM
  rw [e9 1 (by omega)]
  rcases m3 with z | ⟨z1, c, ch, z2⟩
  · exact Or.inl z
  · exact Or.inr ⟨z1, c, ch, laidM_s z2 (fun j h1 h2 => e9 j (by omega)) (fun a h1 h2 => ea a (by omega))⟩
end
section
variable {G : GG} {V : VV} {R : RR}
set_option maxHeartbeats 1000000 in
theorem pr_end {n : Int} (hI : INVX V R) (hn : r32 n) : PR G M_X10_end M_X11_end 2 2 [vi n] V R := by
  obtain ⟨b, Ks, nk, hI2⟩ := id hI
  obtain ⟨⟨hB, hF⟩, ok, ⟨c1, c2, c3, c4⟩, ⟨m1, m2, m3, m4⟩, t1, t2, t3, t4⟩ := id hI2
  refine (R_X10_end hB hF hn).mono fun r X Q hq => ?_
  obtain ⟨rfl, rfl, rfl, hBX⟩ := hq
  by_cases q : 0 ≤ n ∧ n ≤ V 16 1
  · rw [if_pos q] at hBX
    rw [if_pos q, if_pos q]
    refine ⟨_, rfl, hn, (R_X11_end hBX hF hn).mono fun r2 Y Q2 hq2 => ?_⟩
    obtain ⟨rfl, rfl, rfl, hBY⟩ := hq2
    have q2 : 0 ≤ n ∧ n ≤ uV V 16 1 n 99 30 := by rw [uV_cell (by decide), ← t1]; exact q
    rw [if_pos q2] at hBY
    rw [if_pos q2, if_pos q2]
    refine ⟨rfl, b, Ks, nk, inv_tape hI2 hBY (fun a h1 h2 h3 h4 h5 => by rw [uV_cell h3, uV_cell h1]) (fun j hj => by rw [uV_cell (by decide), uV_ne (fun z => hj z.2)]) (fun j hj => by rw [uV_ne (fun z => hj z.2), uV_cell (by decide)]) (by rw [uV_self, uV_cell (by decide), uV_self]) (fun i hi => ?_)⟩
    rw [uV_self] at hi
    rw [uV_cell (by decide), uV_cell (by decide), uV_cell (by decide), uV_cell (by decide)]
    exact t2 i (by rw [← t1]; omega)
  · rw [if_neg q] at hBX
    rw [if_neg q, if_neg q]
    refine ⟨_, rfl, ⟨by omega, by omega⟩, (R_X11_end hB hF hn).mono fun r2 Y Q2 hq2 => ?_⟩
    obtain ⟨rfl, rfl, rfl, hBY⟩ := hq2
    rw [if_neg (by rw [← t1]; exact q), if_neg (by rw [← t1]; exact q)]
    exact ⟨rfl, hI⟩
theorem bS_tE (x s : Int) : tE (bS x s) (bU x s) := by
  rw [bU_bS]
  unfold tE
  have h : -128 ≤ bS x s := (i2b_r _).1
  split <;> omega
set_option maxHeartbeats 1000000 in
theorem pr_feed {a1 a2 a3 a4 a5 : Int} (hI : INVX V R) (h1 : r32 a1) (h2 : r32 a2) (h3 : r32 a3) (h4 : r32 a4) (h5 : r32 a5) : PR G M_X10_feed M_X11_feed 3 1 [vi a1, vi a2, vi a3, vi a4, vi a5] V R := by
  obtain ⟨b, Ks, nk, hI2⟩ := id hI
  obtain ⟨⟨hB, hF⟩, ok, ⟨c1, c2, c3, c4⟩, ⟨m1, m2, m3, m4⟩, t1, t2, t3, t4⟩ := id hI2
  have bn := hB.2 99 11 30 0 400 rfl rfl
  refine (R_X10_feed hB hF h1 h2 h3 h4 h5).mono fun r X Q hq => ?_
  obtain ⟨rfl, hBX, hq⟩ := hq
  by_cases q : 400 < V 16 1 + 20
  · rw [if_pos q] at hq
    obtain ⟨rfl, rfl⟩ := hq
    refine ⟨_, rfl, ⟨by omega, by omega⟩, (R_X11_feed hB hF).mono fun r2 Y Q2 hq2 => ?_⟩
    obtain ⟨rfl, hBY, hq2⟩ := hq2
    rw [if_pos (by rw [← t1]; exact q)] at hq2
    obtain ⟨rfl, rfl⟩ := hq2
    exact ⟨rfl, hI⟩
  · rw [if_neg q] at hq
    obtain ⟨rfl, x1, x2, x3⟩ := hq
    have x9 : X 99 30 = V 99 30 := x3 99 30 (fun z => absurd z.1 (by decide)) (fun z => absurd z.1 (by decide))
    refine ⟨_, rfl, ⟨by omega, by omega⟩, (R_X11_feed hBX hF).mono fun r2 Y Q2 hq2 => ?_⟩
    obtain ⟨rfl, hBY, hq2⟩ := hq2
    rw [if_neg (by rw [x9, ← t1]; exact q)] at hq2
    obtain ⟨rfl, y1, y2, y3⟩ := hq2
    have e : ∀ a, a ≠ 16 → a ≠ 17 → a ≠ 99 → a ≠ 120 → a ≠ 121 → Y a = V a := fun a g1 g2 g3 g4 g5 => funext fun j => by
      rw [y3 a j g5 (fun z => g3 z.1) (fun z => g4 z.1), x3 a j (fun z => g1 z.1) (fun z => g2 z.1)]
    refine ⟨by rw [x9, t1], b, Ks, nk, inv_tape hI2 hBY e (fun j hj => ?_) (fun j hj => ?_) ?_ (fun i hi => ?_)⟩
    · rw [y3 16 j (by decide) (fun z => absurd z.1 (by decide)) (fun z => absurd z.1 (by decide)), x3 16 j (fun z => hj z.2) (fun z => absurd z.1 (by decide))]
    · rw [y3 99 j (by decide) (fun z => hj z.2) (fun z => absurd z.1 (by decide)), x3 99 j (fun z => absurd z.1 (by decide)) (fun z => absurd z.1 (by decide))]
    · rw [y3 16 1 (by decide) (fun z => absurd z.1 (by decide)) (fun z => absurd z.1 (by decide)), x1, y1, x9, t1]
    · rw [y1, x9] at hi
      have y17 : Y 17 i = X 17 i := y3 17 i (by decide) (fun z => absurd z.1 (by decide)) (fun z => absurd z.1 (by decide))
      rw [y17]
      by_cases z : i < (V 99 30).toNat
      · rw [y3 120 i (by decide) (fun w => absurd w.1 (by decide)) (fun w => by rw [x9] at w; omega), x3 120 i (fun w => absurd w.1 (by decide)) (fun w => absurd w.1 (by decide)), x3 17 i (fun w => absurd w.1 (by decide)) (fun w => by rw [t1] at w; omega)]
        exact t2 i z
      · have z1 := y2 (i - (V 99 30).toNat) (by omega)
        have z2 := x2 (i - (V 99 30).toNat) (by omega)
        rw [x9, show (V 99 30).toNat + (i - (V 99 30).toNat) = i by omega] at z1
        rw [t1, show (V 99 30).toNat + (i - (V 99 30).toNat) = i by omega] at z2
        rw [z1, z2]
        exact bS_tE _ _
end

section
variable {G : GG} {V : VV} {R : RR}
set_option maxHeartbeats 1000000 in
theorem pr_error {n : Int} (hI : INVX V R) (hn : r32 n) : PR G M_X10_error M_X11_error 6 3 [vi n] V R := by
  obtain ⟨b, Ks, nk, hI2⟩ := id hI
  obtain ⟨⟨hB, hF⟩, ok, ⟨c1, c2, c3, c4⟩, ⟨m1, m2, m3, m4⟩, t1, t2, t3, t4⟩ := id hI2
  obtain ⟨gH, gR, gT, gP, gC, gD, gE⟩ := c_of c1 m1
  have gn := nw_of m1 c2.1
  have gW := bW_of hB m1 ok.2.1
  have b8 := hB.2 99 11 8 0 5 rfl rfl
  refine (R_X10_error hB hF c3 hn).mono fun r X Q hq => ?_
  obtain ⟨rfl, rfl, rfl, hBX⟩ := hq
  by_cases q0 : ¬ (0 ≤ n ∧ n ≤ 5)
  · rw [if_pos q0] at hBX
    rw [if_pos q0, if_pos q0]
    have hM := R_X11_error (G := G) (R := R) hBX hF hn
    rw [if_pos q0, if_pos q0] at hM
    exact pr_no hI ⟨by omega, by omega⟩ hM
  · rw [if_neg q0] at hBX
    rw [if_neg q0, if_neg q0]
    obtain ⟨X, hX⟩ : ∃ X, X = telP (uV V 1 8 n) 0 := ⟨_, rfl⟩
    rw [show uV (forgV (uV V 1 8 n) 0) 0 3 0 = X from hX.symm] at hBX ⊢
    have xo : ∀ a, a ≠ 0 → a ≠ 30 → a ≠ 1 → X a = V a := fun a h0 h30 h1 => by rw [hX, tlp_o h0 h30, uV_cell h1]
    have x1 : X 1 8 = n := by rw [hX, tlp_o (by decide) (by decide)]; exact uV_self
    have x8 : X 99 8 = V 1 8 := by rw [xo 99 (by decide) (by decide) (by decide)]; exact gE.symm
    have hM := R_X11_error (G := G) (R := R) hBX hF hn
    rw [if_neg q0, if_neg q0, x8] at hM
    refine ⟨_, rfl, ⟨by omega, by omega⟩, hM.mono fun r2 Y Q2 hq2 => ?_⟩
    obtain ⟨rfl, rfl, rfl, hBY⟩ := hq2
    rw [ends_y (by omega)] at hBY ⊢
    refine ⟨rfl, ?_⟩
    obtain ⟨Y, hY⟩ : ∃ Y, Y = uV (uV (uV X 99 8 n) 99 0 0) 99 1 (-1) := ⟨_, rfl⟩
    rw [← hY] at hBY ⊢
    have yo : ∀ a, a ≠ 99 → Y a = X a := fun a h9 => by rw [hY, uV_cell h9, uV_cell h9, uV_cell h9]
    have y9 : ∀ j, j ≠ 0 → j ≠ 1 → j ≠ 8 → Y 99 j = V 99 j := fun j h0 h1 h2 => by rw [hY, uV_ne (fun z => h1 z.2), uV_ne (fun z => h0 z.2), uV_ne (fun z => h2 z.2), xo 99 (by decide) (by decide) (by decide)]
    have y8 : Y 99 8 = n := by rw [hY, uV_ne (fun z => absurd z.2 (by decide)), uV_ne (fun z => absurd z.2 (by decide))]; exact uV_self
    have ya : ∀ a, a ≠ 99 → a ≠ 0 → a ≠ 30 → a ≠ 1 → Y a = V a := fun a h9 h0 h30 h1 => by rw [yo a h9, xo a h0 h30 h1]
    have hbC := bC_self hBY (lgH_k gH (by rw [ya 2 (by decide) (by decide) (by decide) (by decide)]) (y9 2 (by decide) (by decide) (by decide)) (ya 3 (by decide) (by decide) (by decide) (by decide)) (ya 14 (by decide) (by decide) (by decide) (by decide)) (ya 100 (by decide) (by decide) (by decide) (by decide)) (ya 101 (by decide) (by decide) (by decide) (by decide)) (ya 102 (by decide) (by decide) (by decide) (by decide)) (ya 103 (by decide) (by decide) (by decide) (by decide)) (ya 104 (by decide) (by decide) (by decide) (by decide)) (ya 105 (by decide) (by decide) (by decide) (by decide))) (lgR_k gR (by rw [ya 4 (by decide) (by decide) (by decide) (by decide)]) (y9 3 (by decide) (by decide) (by decide)) (ya 5 (by decide) (by decide) (by decide) (by decide)) (ya 106 (by decide) (by decide) (by decide) (by decide)) (ya 107 (by decide) (by decide) (by decide) (by decide)) (ya 108 (by decide) (by decide) (by decide) (by decide))) (lgT_k gT (by rw [ya 6 (by decide) (by decide) (by decide) (by decide)]) (y9 4 (by decide) (by decide) (by decide)) (ya 7 (by decide) (by decide) (by decide) (by decide)) (ya 109 (by decide) (by decide) (by decide) (by decide)) (ya 110 (by decide) (by decide) (by decide) (by decide))) (lgP_k gP (by rw [ya 8 (by decide) (by decide) (by decide) (by decide)]) (y9 5 (by decide) (by decide) (by decide)) (ya 9 (by decide) (by decide) (by decide) (by decide)) (ya 111 (by decide) (by decide) (by decide) (by decide)) (ya 112 (by decide) (by decide) (by decide) (by decide))) (lgC_k gC (by rw [ya 10 (by decide) (by decide) (by decide) (by decide)]) (y9 6 (by decide) (by decide) (by decide)) (ya 11 (by decide) (by decide) (by decide) (by decide)) (ya 113 (by decide) (by decide) (by decide) (by decide)) (ya 114 (by decide) (by decide) (by decide) (by decide)) (ya 115 (by decide) (by decide) (by decide) (by decide))) (lgD_k gD (by rw [ya 12 (by decide) (by decide) (by decide) (by decide)]) (y9 7 (by decide) (by decide) (by decide)) (ya 13 (by decide) (by decide) (by decide) (by decide)) (ya 116 (by decide) (by decide) (by decide) (by decide)) (ya 117 (by decide) (by decide) (by decide) (by decide)) (ya 118 (by decide) (by decide) (by decide) (by decide)) (ya 119 (by decide) (by decide) (by decide) (by decide))) (by rw [yo 1 (by decide), x1, y8])
    have hW := bW_self hBY (by rw [y9 6 (by decide) (by decide) (by decide), y9 7 (by decide) (by decide) (by decide), y9 2 (by decide) (by decide) (by decide), ya 113 (by decide) (by decide) (by decide) (by decide), ya 114 (by decide) (by decide) (by decide) (by decide), ya 116 (by decide) (by decide) (by decide) (by decide)]; exact gW)
    have hnw : nwO Y (Y 15) := by
      have e15 := ya 15 (by decide) (by decide) (by decide) (by decide)
      refine ⟨?_, ?_, ?_, ?_, ?_, ?_⟩
      · show ∀ x, Y 104 x = 0 ∨ Y 15 (Y 104 x).toNat = 1; rw [ya 104 (by decide) (by decide) (by decide) (by decide), e15]; exact gn.1
      · show ∀ x, Y 105 x = 0 ∨ Y 105 x = 401 ∨ Y 15 (Y 105 x).toNat = 1; rw [ya 105 (by decide) (by decide) (by decide) (by decide), e15]; exact gn.2.1
      · show ∀ x, Y 108 x = 0 ∨ Y 15 (Y 108 x).toNat = 1; rw [ya 108 (by decide) (by decide) (by decide) (by decide), e15]; exact gn.2.2.1
      · show ∀ x, Y 110 x = 0 ∨ Y 15 (Y 110 x).toNat = 1; rw [ya 110 (by decide) (by decide) (by decide) (by decide), e15]; exact gn.2.2.2.1
      · show ∀ x, Y 115 x = 0 ∨ Y 15 (Y 115 x).toNat = 1; rw [ya 115 (by decide) (by decide) (by decide) (by decide), e15]; exact gn.2.2.2.2.1
      · show ∀ x, Y 119 x = 0 ∨ Y 15 (Y 119 x).toNat = 1; rw [ya 119 (by decide) (by decide) (by decide) (by decide), e15]; exact gn.2.2.2.2.2
    have hL : LR Y := by unfold LR; rw [ya 2 (by decide) (by decide) (by decide) (by decide), ya 4 (by decide) (by decide) (by decide) (by decide), ya 6 (by decide) (by decide) (by decide) (by decide), ya 8 (by decide) (by decide) (by decide) (by decide), ya 10 (by decide) (by decide) (by decide) (by decide), ya 12 (by decide) (by decide) (by decide) (by decide)]; exact c3
    have w30 : uV V 1 8 n 30 = V 30 := uV_cell (by decide)
    have y30 : Y 30 = X 30 := yo 30 (by decide)
    exact ⟨Y, Ks, nk, inv_tell (s := 0) hI2 hBY (bM_self hBY) hbC hW hnw hL (fun a h1 h2 => ya a (by omega) (by omega) (by omega) (by omega)) (fun j hj => by rw [y30, hX, tlp_30.2 j hj, w30]) (fun a h1 h2 => ya a (by omega) (by omega) (by omega) (by omega)) (fun a h1 h2 => ya a (by omega) (by omega) (by omega) (by omega)) (fun j h1 h2 => y9 j (by omega) (by omega) (by omega)) (by rw [yo 0 (by decide), hX]; exact uV_self) (by rw [hY]; exact (uV_ne (fun z => absurd z.2 (by decide))).trans uV_self) (by rw [hY]; exact uV_self) (by rw [y30, hX, tlp_30.1, w30]) ⟨by decide, by decide⟩ (fun z => absurd z (by decide)) (fun z => absurd z (by decide)) (fun z => absurd z (by decide))⟩
set_option maxHeartbeats 1000000 in
theorem pr_strike {h k : Int} (hI : INVX V R) (hh : r32 h) (hk : r32 k) : PR G M_X10_strike M_X11_strike 6 3 [vi h, vi k] V R := by
  obtain ⟨b, Ks, nk, hI2⟩ := id hI
  obtain ⟨⟨hB, hF⟩, ok, ⟨c1, c2, c3, c4⟩, ⟨m1, m2, m3, m4⟩, t1, t2, t3, t4⟩ := id hI2
  obtain ⟨gH, gR, gT, gP, gC, gD, gE⟩ := c_of c1 m1
  have gn := nw_of m1 c2.1
  have gW := bW_of hB m1 ok.2.1
  have n2 : V 99 2 = V 2 2 := gH.1.symm
  refine (R_X10_strike hB hF c3 hh hk).mono fun r X Q hq => ?_
  obtain ⟨rfl, rfl, rfl, hBX⟩ := hq
  unfold hasC at hBX ⊢
  by_cases q0 : ¬ wkP k
  · rw [if_pos (c := ¬ wkP k) q0] at hBX
    rw [if_pos (c := ¬ wkP k) q0, if_pos (c := ¬ wkP k) q0]
    have hM := R_X11_strike (G := G) (R := R) hBX hF hh hk
    rw [if_pos (c := ¬ wkP k) q0, if_pos (c := ¬ wkP k) q0] at hM
    exact pr_no hI ⟨by omega, by omega⟩ hM
  · by_cases q1 : ¬ (0 ≤ h ∧ h < V 2 2)
    · rw [if_neg (c := ¬ wkP k) q0, if_pos (c := ¬ (0 ≤ h ∧ h < V 2 2)) q1] at hBX
      rw [if_neg (c := ¬ wkP k) q0, if_neg (c := ¬ wkP k) q0, if_pos (c := ¬ (0 ≤ h ∧ h < V 2 2)) q1, if_pos (c := ¬ (0 ≤ h ∧ h < V 2 2)) q1]
      have hM := R_X11_strike (G := G) (R := R) hBX hF hh hk
      unfold hasP at hM
      rw [show (uV V 0 3 (-2)) 99 2 = V 2 2 from n2] at hM
      rw [if_neg (c := ¬ wkP k) q0, if_neg (c := ¬ wkP k) q0, if_pos (c := ¬ (0 ≤ h ∧ h < V 2 2)) q1, if_pos (c := ¬ (0 ≤ h ∧ h < V 2 2)) q1] at hM
      exact pr_no hI ⟨by omega, by omega⟩ hM
    · rw [if_neg (c := ¬ wkP k) q0, if_neg (c := ¬ (0 ≤ h ∧ h < V 2 2)) q1] at hBX
      rw [if_neg (c := ¬ wkP k) q0, if_neg (c := ¬ wkP k) q0, if_neg (c := ¬ (0 ≤ h ∧ h < V 2 2)) q1, if_neg (c := ¬ (0 ≤ h ∧ h < V 2 2)) q1]
      have q2 : 0 ≤ h ∧ h < V 2 2 := Classical.byContradiction q1
      have q3 : wkP k := Classical.byContradiction q0
      have e14 : V 14 h.toNat = V 105 h.toNat := (gH.2 h.toNat (by rw [n2]; omega)).2.2.2.2.2
      obtain ⟨m, hm⟩ : ∃ m, m = if k < V 14 h.toNat then k else V 14 h.toNat := ⟨_, rfl⟩
      rw [← hm] at hBX ⊢
      obtain ⟨X, hX⟩ : ∃ X, X = telC (uV V 14 h.toNat m) k 0 := ⟨_, rfl⟩
      rw [show uV (forgV (markV (uV V 14 h.toNat m) k) 0) 0 3 0 = X from hX.symm] at hBX ⊢
      have xo : ∀ a, a ≠ 0 → a ≠ 30 → a ≠ 15 → a ≠ 14 → X a = V a := fun a h0 h30 h15 h14 => by rw [hX, tel_o h0 h15 h30, uV_cell h14]
      have x14 : ∀ j, X 14 j = if j = h.toNat then m else V 14 j := fun j => by rw [hX, tel_o (by decide) (by decide) (by decide), uV_at]
      have hM := R_X11_strike (G := G) (R := R) hBX hF hh hk
      unfold hasP at hM
      rw [show X 99 2 = V 2 2 from by rw [xo 99 (by decide) (by decide) (by decide) (by decide)]; exact n2] at hM
      rw [if_neg (c := ¬ wkP k) q0, if_neg (c := ¬ wkP k) q0, if_neg (c := ¬ (0 ≤ h ∧ h < V 2 2)) q1, if_neg (c := ¬ (0 ≤ h ∧ h < V 2 2)) q1] at hM
      refine ⟨_, rfl, ⟨by omega, by omega⟩, hM.mono fun r2 Y Q2 hq2 => ?_⟩
      obtain ⟨rfl, rfl, rfl, hBY⟩ := hq2
      rw [ends_y (by omega)] at hBY ⊢
      refine ⟨rfl, ?_⟩
      obtain ⟨Z, hZ⟩ : ∃ Z, Z = (if k < X 105 h.toNat then uV X 105 h.toNat k else X) := ⟨_, rfl⟩
      have zo : ∀ a, a ≠ 105 → Z a = X a := fun a ha => by rw [hZ]; split; exact uV_cell ha; rfl
      have z5 : ∀ j, Z 105 j = if j = h.toNat then m else V 105 j := fun j => by
        have x5 : X 105 = V 105 := xo 105 (by decide) (by decide) (by decide) (by decide)
        rw [hZ, hm, e14]
        rw [show X 105 h.toNat = V 105 h.toNat from by rw [x5]]
        by_cases z : k < V 105 h.toNat
        · rw [if_pos z, if_pos z, uV_at, x5]
        · rw [if_neg z, if_neg z, x5]
          by_cases w : j = h.toNat
          · rw [if_pos w, w]
          · rw [if_neg w]
      obtain ⟨Y, hY⟩ : ∃ Y, Y = uV (uV (if k < X 105 h.toNat then uV X 105 h.toNat k else X) 99 0 0) 99 1 (-1) := ⟨_, rfl⟩
      rw [← hY] at hBY ⊢
      rw [← hZ] at hY
      have yo : ∀ a, a ≠ 99 → a ≠ 105 → Y a = X a := fun a h9 h5 => by rw [hY, uV_cell h9, uV_cell h9, zo a h5]
      have y9 : ∀ j, j ≠ 0 → j ≠ 1 → Y 99 j = V 99 j := fun j h0 h1 => by rw [hY, uV_ne (fun z => h1 z.2), uV_ne (fun z => h0 z.2), zo 99 (by decide), xo 99 (by decide) (by decide) (by decide) (by decide)]
      have y105 : ∀ j, Y 105 j = if j = h.toNat then m else V 105 j := fun j => by rw [hY, uV_cell (by decide), uV_cell (by decide)]; exact z5 j
      have ya : ∀ a, a ≠ 99 → a ≠ 105 → a ≠ 0 → a ≠ 30 → a ≠ 15 → a ≠ 14 → Y a = V a := fun a h9 h5 h0 h30 h15 h14 => by rw [yo a h9 h5, xo a h0 h30 h15 h14]
      have hH : lgH Y := ⟨by rw [ya 2 (by decide) (by decide) (by decide) (by decide) (by decide) (by decide), y9 2 (by decide) (by decide)]; exact gH.1, fun i hi => by
        rw [y9 2 (by decide) (by decide)] at hi
        have g := gH.2 i hi
        rw [ya 3 (by decide) (by decide) (by decide) (by decide) (by decide) (by decide), ya 100 (by decide) (by decide) (by decide) (by decide) (by decide) (by decide), ya 101 (by decide) (by decide) (by decide) (by decide) (by decide) (by decide), ya 102 (by decide) (by decide) (by decide) (by decide) (by decide) (by decide), ya 103 (by decide) (by decide) (by decide) (by decide) (by decide) (by decide), ya 104 (by decide) (by decide) (by decide) (by decide) (by decide) (by decide), y105, yo 14 (by decide) (by decide), x14]
        refine ⟨g.1, g.2.1, g.2.2.1, g.2.2.2.1, g.2.2.2.2.1, ?_⟩
        split
        · rfl
        · exact g.2.2.2.2.2⟩
      have hbC := bC_self hBY hH (lgR_k gR (by rw [ya 4 (by decide) (by decide) (by decide) (by decide) (by decide) (by decide)]) (y9 3 (by decide) (by decide)) (ya 5 (by decide) (by decide) (by decide) (by decide) (by decide) (by decide)) (ya 106 (by decide) (by decide) (by decide) (by decide) (by decide) (by decide)) (ya 107 (by decide) (by decide) (by decide) (by decide) (by decide) (by decide)) (ya 108 (by decide) (by decide) (by decide) (by decide) (by decide) (by decide))) (lgT_k gT (by rw [ya 6 (by decide) (by decide) (by decide) (by decide) (by decide) (by decide)]) (y9 4 (by decide) (by decide)) (ya 7 (by decide) (by decide) (by decide) (by decide) (by decide) (by decide)) (ya 109 (by decide) (by decide) (by decide) (by decide) (by decide) (by decide)) (ya 110 (by decide) (by decide) (by decide) (by decide) (by decide) (by decide))) (lgP_k gP (by rw [ya 8 (by decide) (by decide) (by decide) (by decide) (by decide) (by decide)]) (y9 5 (by decide) (by decide)) (ya 9 (by decide) (by decide) (by decide) (by decide) (by decide) (by decide)) (ya 111 (by decide) (by decide) (by decide) (by decide) (by decide) (by decide)) (ya 112 (by decide) (by decide) (by decide) (by decide) (by decide) (by decide))) (lgC_k gC (by rw [ya 10 (by decide) (by decide) (by decide) (by decide) (by decide) (by decide)]) (y9 6 (by decide) (by decide)) (ya 11 (by decide) (by decide) (by decide) (by decide) (by decide) (by decide)) (ya 113 (by decide) (by decide) (by decide) (by decide) (by decide) (by decide)) (ya 114 (by decide) (by decide) (by decide) (by decide) (by decide) (by decide)) (ya 115 (by decide) (by decide) (by decide) (by decide) (by decide) (by decide))) (lgD_k gD (by rw [ya 12 (by decide) (by decide) (by decide) (by decide) (by decide) (by decide)]) (y9 7 (by decide) (by decide)) (ya 13 (by decide) (by decide) (by decide) (by decide) (by decide) (by decide)) (ya 116 (by decide) (by decide) (by decide) (by decide) (by decide) (by decide)) (ya 117 (by decide) (by decide) (by decide) (by decide) (by decide) (by decide)) (ya 118 (by decide) (by decide) (by decide) (by decide) (by decide) (by decide)) (ya 119 (by decide) (by decide) (by decide) (by decide) (by decide) (by decide))) (by rw [ya 1 (by decide) (by decide) (by decide) (by decide) (by decide) (by decide), y9 8 (by decide) (by decide)]; exact gE)
      have hW := bW_self hBY (by rw [y9 6 (by decide) (by decide), y9 7 (by decide) (by decide), y9 2 (by decide) (by decide), ya 113 (by decide) (by decide) (by decide) (by decide) (by decide) (by decide), ya 114 (by decide) (by decide) (by decide) (by decide) (by decide) (by decide), ya 116 (by decide) (by decide) (by decide) (by decide) (by decide) (by decide)]; exact gW)
      have y15 : ∀ j, Y 15 j = if j = k.toNat then 1 else V 15 j := fun j => by rw [yo 15 (by decide) (by decide), hX, tel_15, uV_cell (by decide)]
      have gn1 := nw_0 gn y15
      have hnw : nwO Y (Y 15) := by
        refine ⟨?_, ?_, ?_, ?_, ?_, ?_⟩
        · show ∀ x, Y 104 x = 0 ∨ Y 15 (Y 104 x).toNat = 1; rw [ya 104 (by decide) (by decide) (by decide) (by decide) (by decide) (by decide)]; exact gn1.1
        · intro x
          show Y 105 x = 0 ∨ Y 105 x = 401 ∨ Y 15 (Y 105 x).toNat = 1
          rw [y105]
          by_cases z : x = h.toNat
          · rw [if_pos z, hm]
            by_cases w : k < V 14 h.toNat
            · rw [if_pos w]; exact Or.inr (Or.inr (by rw [y15, if_pos rfl]))
            · rw [if_neg w, e14]; exact gn1.2.1 h.toNat
          · rw [if_neg z]; exact gn1.2.1 x
        · show ∀ x, Y 108 x = 0 ∨ Y 15 (Y 108 x).toNat = 1; rw [ya 108 (by decide) (by decide) (by decide) (by decide) (by decide) (by decide)]; exact gn1.2.2.1
        · show ∀ x, Y 110 x = 0 ∨ Y 15 (Y 110 x).toNat = 1; rw [ya 110 (by decide) (by decide) (by decide) (by decide) (by decide) (by decide)]; exact gn1.2.2.2.1
        · show ∀ x, Y 115 x = 0 ∨ Y 15 (Y 115 x).toNat = 1; rw [ya 115 (by decide) (by decide) (by decide) (by decide) (by decide) (by decide)]; exact gn1.2.2.2.2.1
        · show ∀ x, Y 119 x = 0 ∨ Y 15 (Y 119 x).toNat = 1; rw [ya 119 (by decide) (by decide) (by decide) (by decide) (by decide) (by decide)]; exact gn1.2.2.2.2.2
      have hL : LR Y := by unfold LR; rw [ya 2 (by decide) (by decide) (by decide) (by decide) (by decide) (by decide), ya 4 (by decide) (by decide) (by decide) (by decide) (by decide) (by decide), ya 6 (by decide) (by decide) (by decide) (by decide) (by decide) (by decide), ya 8 (by decide) (by decide) (by decide) (by decide) (by decide) (by decide), ya 10 (by decide) (by decide) (by decide) (by decide) (by decide) (by decide), ya 12 (by decide) (by decide) (by decide) (by decide) (by decide) (by decide)]; exact c3
      have w30 : uV V 14 h.toNat m 30 = V 30 := uV_cell (by decide)
      have y30 : Y 30 = X 30 := yo 30 (by decide) (by decide)
      exact ⟨Y, Ks, nk, inv_tell (s := 0) hI2 hBY (bM_self hBY) hbC hW hnw hL (fun a h1 h2 => ya a (by omega) (by omega) (by omega) (by omega) (by omega) (by omega)) (fun j hj => by rw [y30, hX, tel_30.2 j hj, w30]) (fun a h1 h2 => ya a (by omega) (by omega) (by omega) (by omega) (by omega) (by omega)) (fun a h1 h2 => ya a (by omega) (by omega) (by omega) (by omega) (by omega) (by omega)) (fun j h1 h2 => y9 j (by omega) (by omega)) (by rw [yo 0 (by decide) (by decide), hX]; exact uV_self) (by rw [hY]; exact (uV_ne (fun z => absurd z.2 (by decide))).trans uV_self) (by rw [hY]; exact uV_self) (by rw [y30, hX, tel_30.1, w30]) ⟨by decide, by decide⟩ (fun z => absurd z (by decide)) (fun z => absurd z (by decide)) (fun z => absurd z (by decide))⟩
end
