/-! both sides at once -/
def tpE (V : VV) : Prop := V 16 1 = V 99 30 ∧ (∀ i : Nat, i < (V 99 30).toNat → tE (V 120 i) (V 17 i)) ∧ V 16 5 = V 99 34 ∧ V 0 3 = V 99 0
def INV (b : Bk) (Ks : Nat → Kd) (nk : Nat) (V : VV) (R : RR) : Prop := (Bd V ∧ FinR R) ∧ okB b Ks nk ∧ (bC b V ∧ icB b Ks nk V ∧ LR V ∧ svX b Ks nk V R) ∧ (bM b V ∧ imB Ks nk V ∧ ldM b Ks nk V ∧ ConM V) ∧ tpE V
def INVX (V : VV) (R : RR) : Prop := ∃ b Ks nk, INV b Ks nk V R
/-- the class's call, then the reference's: the same answer, and all stands as before -/
def PR (G : GG) (MC MM : Mth) (dC dM : Nat) (as : List AV) (V : VV) (R : RR) : Prop := Runs G MC dC 162 162 (vr 0 :: as) V R (fun r X Q => ∃ v, r = some (vi v) ∧ r32 v ∧ Runs G MM dM 162 162 (vr 99 :: as) X Q (fun r' Y Q' => r' = some (vi v) ∧ INVX Y Q'))
section
variable {b : Bk} {Ks : Nat → Kd} {nk : Nat} {V X Y : VV} {R Q : RR}
theorem laidM_x {k : Int} {c ch : Nat} (h : laidM b Ks nk k c ch V) (e : ∀ a, 99 ≤ a → a ≤ 161 → X a = V a) : laidM b Ks nk k c ch X := by
  obtain ⟨l1, l2, l3, l4, l5, l6, l7, l8, l9, l10, l11⟩ := h
  have e9 := e 99 (by omega) (by omega)
  refine ⟨l1, spM_x l2 (fun j _ _ => by rw [e9]) (fun a h1 h2 => e a (by omega) (by omega)), lsM_x l3 (by rw [e9]) (fun a h1 h2 => e a (by omega) (by omega)), l4, ?_, ?_, ?_, relM_x l8 (e 152 (by omega) (by omega)) (e 153 (by omega) (by omega)), ?_, ?_, ?_⟩
  · rw [e 147 (by omega) (by omega)]; exact l5
  · rw [e9]; exact l6
  · rw [e9, e 151 (by omega) (by omega)]; exact l7
  · rw [e9, e 155 (by omega) (by omega)]; exact l9
  · rw [e9, e 156 (by omega) (by omega), e 157 (by omega) (by omega)]; exact l10
  · unfold fnM; rw [e9, e 160 (by omega) (by omega)]; exact l11
theorem ldM_x (h : ldM b Ks nk V) (e : ∀ a, 99 ≤ a → a ≤ 161 → X a = V a) : ldM b Ks nk X := by
  unfold ldM
  rw [e 99 (by omega) (by omega)]
  rcases h with z | ⟨z1, c, ch, z2⟩
  · exact Or.inl z
  · exact Or.inr ⟨z1, c, ch, laidM_x z2 e⟩
theorem svC_e {k sg : Int} {c : Nat} {ρ : Nat → Nat} {ch : Nat} (h : svC b k Ks nk c ρ ch sg V R) (hrw : rwI R ρ) (e : ∀ a, 30 ≤ a → a ≤ 98 → X a = V a) : svC b k Ks nk c ρ ch sg X R := by
  obtain ⟨h1, h2, h3, h4, h5⟩ := h
  have e30 := e 30 (by omega) (by omega)
  have e56 := e 56 (by omega) (by omega)
  have e85 := e 85 (by omega) (by omega)
  exact ⟨fun z => S1_x (h1 z) (fun a g1 g2 => e a (by omega) (by omega)), fun z => S2_x (h2 z) hrw (by rw [e56]) (fun a j g1 g2 _ => by rw [e a (by omega) (by omega)]) (e 31 (by omega) (by omega)) (e 32 (by omega) (by omega)), fun z => S3_x (h3 z) (h2 (by omega)).1 hrw (fun j _ _ => by rw [e56]) (fun a g1 g2 => by rw [e a (by omega) (by omega)]) (e 58 (by omega) (by omega)) (by rw [e30]) (by rw [e30]) (e 33 (by omega) (by omega)), fun z => S4_x (h4 z) (by rw [e85]) (fun j _ _ => by rw [e85]) (fun a g1 g2 => e a (by omega) (by omega)) (fun i => rfl), fun z => S5_x (h5 z) (by rw [e85]) (by rw [e85]) (e 97 (by omega) (by omega)) (e 98 (by omega) (by omega))⟩
theorem svX_e (h : svX b Ks nk V R) (e : ∀ a, 30 ≤ a → a ≤ 98 → X a = V a) : svX b Ks nk X R := by
  obtain ⟨ρ, c, ch, h1, h2⟩ := h
  refine ⟨ρ, c, ch, h1, ?_⟩
  rw [e 30 (by omega) (by omega)]
  exact svC_e h2 h1 e
theorem LR_x (h : LR V) (e : ∀ a, 1 ≤ a → a ≤ 14 → X a = V a) : LR X := by
  unfold LR
  rw [e 2 (by omega) (by omega), e 4 (by omega) (by omega), e 6 (by omega) (by omega), e 8 (by omega) (by omega), e 10 (by omega) (by omega), e 12 (by omega) (by omega)]
  exact h
theorem icB_x (h : icB b Ks nk V) (e : ∀ a, 15 ≤ a → a ≤ 23 → X a = V a) : icB b Ks nk X := by
  refine ⟨by rw [e 15 (by omega) (by omega)]; exact h.1, by rw [e 16 (by omega) (by omega)]; exact h.2.1, fun i hi h5 j hj => ?_⟩
  rw [e (19 + i) (by omega) (by omega)]
  exact h.2.2 i hi h5 j hj
theorem ConM_x (h : ConM V) (e : ∀ a, 126 ≤ a → a ≤ 127 → X a = V a) : ConM X := fun j hj => by
  rw [e 126 (by omega) (by omega), e 127 (by omega) (by omega)]; exact h j hj
set_option maxRecDepth 100000 in
theorem obs_pr {G : GG} {MC MM : Mth} {dC dM : Nat} {as : List AV} {P : Bk → (Nat → Kd) → Nat → Int → Prop} (hu : ∀ b Ks nk v v', P b Ks nk v → P b Ks nk v' → v = v') (hC : ∀ b Ks nk V R, Bd V → FinR R → bC b V → okB b Ks nk → icB b Ks nk V → svX b Ks nk V R → Runs G MC dC 162 162 (vr 0 :: as) V R (obsQ b Ks nk V (P b Ks nk))) (hM : ∀ b Ks nk V R, Bd V → FinR R → bM b V → okB b Ks nk → imB Ks nk V → ldM b Ks nk V → Runs G MM dM 162 162 (vr 99 :: as) V R (obsM b Ks nk V R (P b Ks nk))) {V : VV} {R : RR} (h : INVX V R) : PR G MC MM dC dM as V R := by
  obtain ⟨b, Ks, nk, ⟨hB, hF⟩, ok, ⟨c1, c2, c3, c4⟩, ⟨m1, m2, m3, m4⟩, t1, t2, t3, t4⟩ := h
  refine (hC b Ks nk V R hB hF c1 ok c2 c4).mono fun r X Q hq => ?_
  obtain ⟨x1, x2, x3, x4, v, rfl, x5, x6⟩ := hq
  have ex := offA x3 99 161 rfl
  have e0 := chg_k (c := 0) x3 rfl
  have e16 := chg_k (c := 16) x3 rfl
  have e17 := chg_k (c := 17) x3 rfl
  have e99 := ex 99 (by omega) (by omega)
  have e120 := ex 120 (by omega) (by omega)
  have k1 : bM b X := bM_c m1 x3 rfl
  have k2 : imB Ks nk X := ⟨by rw [e99]; exact m2.1, fun i hi => kM_c (m2.2 i hi) x3 rfl⟩
  have k3 : ldM b Ks nk X := ldM_x m3 ex
  have k4 : ConM X := ConM_x m4 (fun a h1 h2 => ex a (by omega) (by omega))
  have k5 : bC b X := bC_c c1 x3 rfl
  have k6 : icB b Ks nk X := icB_c c2 x3
  have k7 : LR X := LR_x c3 (offA x3 1 14 rfl)
  refine ⟨v, rfl, x5, (hM b Ks nk X Q x2 x1 k1 ok k2 k3).mono fun r' Y Q' hq' => ?_⟩
  obtain ⟨rfl, y2, y3, y4, v', rfl, y5, y6⟩ := hq'
  refine ⟨by rw [hu b Ks nk v v' x6 y6], b, Ks, nk, ⟨y2, x1⟩, ok, ⟨bC_c k5 y3 rfl, icB_x k6 (offA y3 15 23 rfl), LR_x k7 (offA y3 1 14 rfl), svX_e x4 (offA y3 30 98 rfl)⟩, ⟨bM_c k1 y3 rfl, imB_c k2 y3, y4, ConM_x k4 (offA y3 126 127 rfl)⟩, ?_⟩
  unfold tpE
  rw [chg_k (c := 16) y3 rfl, chg_k (c := 17) y3 rfl, chg_k (c := 0) y3 rfl, chg_k (c := 120) y3 rfl, y3 99 30 rfl rfl, y3 99 34 rfl rfl, y3 99 0 rfl rfl, e0, e16, e17, e99, e120]
  exact ⟨t1, t2, t3, t4⟩
theorem pur_pr {G : GG} {MC MM : Mth} {dC dM : Nat} {as : List AV} {f : VV → Int} (h : INVX V R) (hr : r32 (f V)) (hC : RunsP G MC dC (vr 0 :: as) V R (vi (f V))) (hM : RunsP G MM dM (vr 99 :: as) V R (vi (f V))) : PR G MC MM dC dM as V R := by
  refine Runs.mono hC fun r X Q hq => ?_
  obtain ⟨rfl, rfl, rfl⟩ := hq
  refine ⟨f X, rfl, hr, Runs.mono hM fun r' Y Q' hq' => ?_⟩
  obtain ⟨rfl, rfl, rfl⟩ := hq'
  exact ⟨rfl, h⟩
end

section
variable {G : GG} {V : VV} {R : RR} {k g h i j w y d : Int}
theorem pr_frame (hI : INVX V R) (h_k : r32 k) (h_w : r32 w) : PR G M_X10_frame M_X11_frame 42 44 [vi k, vi w] V R := obs_pr (P := fun b Ks nk => gd (K4 k ∧ 0 ≤ w ∧ w ≤ 3) (-1000) (o1 b k (frW b k w))) (fun b Ks nk v v' => gd_u (fun v v' => o1_u)) (fun b Ks nk V R h1 h2 h3 h4 h5 h6 => R_X10_frame h1 h2 h3 h4 h5 h6 h_k h_w) (fun b Ks nk V R h1 h2 h3 h4 h5 h6 => R_X11_frame h1 h2 h3 h4 h5 h6 h_k h_w) hI
theorem pr_spot (hI : INVX V R) (h_h : r32 h) (h_k : r32 k) (h_w : r32 w) : PR G M_X10_spot M_X11_spot 42 44 [vi h, vi k, vi w] V R := obs_pr (P := fun b Ks nk => gd ((0 ≤ h ∧ h < (b.n : Int)) ∧ K4 k ∧ 0 ≤ w ∧ w ≤ 4) (-1000) (o1 b k (spW b k h.toNat w))) (fun b Ks nk v v' => gd_u (fun v v' => o1_u)) (fun b Ks nk V R h1 h2 h3 h4 h5 h6 => R_X10_spot h1 h2 h3 h4 h5 h6 h_h h_k h_w) (fun b Ks nk V R h1 h2 h3 h4 h5 h6 => R_X11_spot h1 h2 h3 h4 h5 h6 h_h h_k h_w) hI
theorem pr_houses (hI : INVX V R) (h_k : r32 k) : PR G M_X10_houses M_X11_houses 42 44 [vi k] V R := obs_pr (P := fun b Ks nk => gd (K4 k) (-1) (o1 b k (fun c => (aN b k Ks nk c : Int)))) (fun b Ks nk v v' => gd_u (fun v v' => o1_u)) (fun b Ks nk V R h1 h2 h3 h4 h5 h6 => R_X10_houses h1 h2 h3 h4 h5 h6 h_k) (fun b Ks nk V R h1 h2 h3 h4 h5 h6 => R_X11_houses h1 h2 h3 h4 h5 h6 h_k) hI
theorem pr_house (hI : INVX V R) (h_k : r32 k) (h_h : r32 h) (h_w : r32 w) : PR G M_X10_house M_X11_house 42 44 [vi k, vi h, vi w] V R := obs_pr (P := fun b Ks nk => gd (K4 k) (-1000) (o2 b Ks nk k (hoW b Ks nk k h w))) (fun b Ks nk v v' => gd_u (fun v v' => o2_u)) (fun b Ks nk V R h1 h2 h3 h4 h5 h6 => R_X10_house h1 h2 h3 h4 h5 h6 h_k h_h h_w) (fun b Ks nk V R h1 h2 h3 h4 h5 h6 => R_X11_house h1 h2 h3 h4 h5 h6 h_k h_h h_w) hI
theorem pr_place (hI : INVX V R) (h_k : r32 k) (h_h : r32 h) (h_i : r32 i) (h_j : r32 j) : PR G M_X10_place M_X11_place 42 44 [vi k, vi h, vi i, vi j] V R := obs_pr (P := fun b Ks nk => gd (K4 k) (-1000) (o1 b k (plcW b Ks nk k h i j))) (fun b Ks nk v v' => gd_u (fun v v' => o1_u)) (fun b Ks nk V R h1 h2 h3 h4 h5 h6 => R_X10_place h1 h2 h3 h4 h5 h6 h_k h_h h_i h_j) (fun b Ks nk V R h1 h2 h3 h4 h5 h6 => R_X11_place h1 h2 h3 h4 h5 h6 h_k h_h h_i h_j) hI
theorem pr_explained (hI : INVX V R) (h_k : r32 k) (h_w : r32 w) : PR G M_X10_explained M_X11_explained 42 44 [vi k, vi w] V R := obs_pr (P := fun b Ks nk => gd ((0 ≤ w ∧ w ≤ 1) ∧ K4 k) (-1) (o2 b Ks nk k (exW b Ks nk k w))) (fun b Ks nk v v' => gd_u (fun v v' => o2_u)) (fun b Ks nk V R h1 h2 h3 h4 h5 h6 => R_X10_explained h1 h2 h3 h4 h5 h6 h_k h_w) (fun b Ks nk V R h1 h2 h3 h4 h5 h6 => R_X11_explained h1 h2 h3 h4 h5 h6 h_k h_w) hI
theorem pr_pair (hI : INVX V R) (h_k : r32 k) (h_g : r32 g) (h_h : r32 h) (h_w : r32 w) : PR G M_X10_pair M_X11_pair 42 44 [vi k, vi g, vi h, vi w] V R := obs_pr (P := fun b Ks nk => gd ((0 ≤ w ∧ w ≤ 1) ∧ K4 k) (-1) (o2 b Ks nk k (paW b Ks nk k g h w))) (fun b Ks nk v v' => gd_u (fun v v' => o2_u)) (fun b Ks nk V R h1 h2 h3 h4 h5 h6 => R_X10_pair h1 h2 h3 h4 h5 h6 h_k h_g h_h h_w) (fun b Ks nk V R h1 h2 h3 h4 h5 h6 => R_X11_pair h1 h2 h3 h4 h5 h6 h_k h_g h_h h_w) hI
theorem pr_phases (hI : INVX V R) (h_k : r32 k) (h_w : r32 w) : PR G M_X10_phases M_X11_phases 42 44 [vi k, vi w] V R := obs_pr (P := fun b Ks nk => gd ((0 ≤ w ∧ w ≤ 1) ∧ K4 k) (-1) (o4 b Ks nk k w)) (fun b Ks nk v v' => gd_u (fun v v' => o4_u)) (fun b Ks nk V R h1 h2 h3 h4 h5 h6 => R_X10_phases h1 h2 h3 h4 h5 h6 h_k h_w) (fun b Ks nk V R h1 h2 h3 h4 h5 h6 => R_X11_phases h1 h2 h3 h4 h5 h6 h_k h_w) hI
theorem pr_phase (hI : INVX V R) (h_k : r32 k) (h_h : r32 h) : PR G M_X10_phase M_X11_phase 42 44 [vi k, vi h] V R := obs_pr (P := fun b Ks nk => gd (K4 k) (-1) (o6 b Ks nk k h)) (fun b Ks nk v v' => gd_u (fun v v' => o6_u)) (fun b Ks nk V R h1 h2 h3 h4 h5 h6 => R_X10_phase h1 h2 h3 h4 h5 h6 h_k h_h) (fun b Ks nk V R h1 h2 h3 h4 h5 h6 => R_X11_phase h1 h2 h3 h4 h5 h6 h_k h_h) hI
theorem pr_start (hI : INVX V R) (h_k : r32 k) (h_h : r32 h) (h_w : r32 w) : PR G M_X10_start M_X11_start 42 44 [vi k, vi h, vi w] V R := obs_pr (P := fun b Ks nk => gd ((0 ≤ w ∧ w ≤ 1) ∧ K4 k) (-1) (o7 b Ks nk k h w)) (fun b Ks nk v v' => gd_u (fun v v' => o7_u)) (fun b Ks nk V R h1 h2 h3 h4 h5 h6 => R_X10_start h1 h2 h3 h4 h5 h6 h_k h_h h_w) (fun b Ks nk V R h1 h2 h3 h4 h5 h6 => R_X11_start h1 h2 h3 h4 h5 h6 h_k h_h h_w) hI
theorem pr_stands (hI : INVX V R) (h_k : r32 k) (h_y : r32 y) (h_w : r32 w) : PR G M_X10_stands M_X11_stands 42 44 [vi k, vi y, vi w] V R := obs_pr (P := fun b Ks nk => gd ((0 ≤ y ∧ y ≤ 2500) ∧ (0 ≤ w ∧ w ≤ 1) ∧ K4 k) (-1) (o8 b Ks nk k y w)) (fun b Ks nk v v' => gd_u (fun v v' => o8_u)) (fun b Ks nk V R h1 h2 h3 h4 h5 h6 => R_X10_stands h1 h2 h3 h4 h5 h6 h_k h_y h_w) (fun b Ks nk V R h1 h2 h3 h4 h5 h6 => R_X11_stands h1 h2 h3 h4 h5 h6 h_k h_y h_w) hI
theorem pr_fences (hI : INVX V R) (h_k : r32 k) : PR G M_X10_fences M_X11_fences 42 44 [vi k] V R := obs_pr (P := fun b Ks nk => gd (K4 k) (-1) (o2 b Ks nk k (fun c ch => ((fnS (spS b k c) (lz0 (aL b k Ks nk c) ch (aN b k Ks nk c)) 40).1 : Int)))) (fun b Ks nk v v' => gd_u (fun v v' => o2_u)) (fun b Ks nk V R h1 h2 h3 h4 h5 h6 => R_X10_fences h1 h2 h3 h4 h5 h6 h_k) (fun b Ks nk V R h1 h2 h3 h4 h5 h6 => R_X11_fences h1 h2 h3 h4 h5 h6 h_k) hI
theorem pr_led (hI : INVX V R) (h_h : r32 h) (h_k : r32 k) (h_w : r32 w) : PR G M_X10_led M_X11_led 42 44 [vi h, vi k, vi w] V R := obs_pr (P := fun b Ks nk => gd ((0 ≤ h ∧ h < (b.n : Int)) ∧ (0 ≤ w ∧ w ≤ 1) ∧ K4 k) (-1) (o2 b Ks nk k (leW b Ks nk k h.toNat w))) (fun b Ks nk v v' => gd_u (fun v v' => o2_u)) (fun b Ks nk V R h1 h2 h3 h4 h5 h6 => R_X10_led h1 h2 h3 h4 h5 h6 h_h h_k h_w) (fun b Ks nk V R h1 h2 h3 h4 h5 h6 => R_X11_led h1 h2 h3 h4 h5 h6 h_h h_k h_w) hI
theorem R_X11_strengthA {b : Bk} {Ks : Nat → Kd} {nk : Nat} (hB : Bd V) (hF : FinR R) (bMV : bM b V) (hob : okB b Ks nk) (him : imB Ks nk V) (hld : ldM b Ks nk V) (hd : r32 d) (hk : r32 k) : Runs G M_X11_strength 7 162 162 [vr 99, vi d, vi k] V R (obsM b Ks nk V R (gd ((0 ≤ d ∧ d < (nk : Int)) ∧ K4 k) (-1) (o1 b k (fun c => (weak b k (spS b k c) Ks d.toNat 7 : Int))))) := by
  by_cases q : (0 ≤ d ∧ d < (nk : Int)) ∧ K4 k
  · have z := R_X11_strength (G := G) (R := R) (k := k) (b := b) (Ks := Ks) (nk := nk) (kd := d.toNat) hB hF bMV (by omega) q.2 him.1 hob.2.2.1 (fun i hi => ⟨him.2 i hi, hob.2.2.2 i hi⟩)
    rw [show ((d.toNat : Nat) : Int) = d by omega] at z
    refine z.mono fun r X Q hq => ?_
    obtain ⟨rfl, x2, x3, x4, c, x5, rfl⟩ := hq
    have wl : weak b k (spS b k c) Ks d.toNat 7 ≤ 7 := cntB_le
    exact ⟨rfl, x2, chg_s x3 rfl, Or.inl x4, _, rfl, ⟨by omega, by omega⟩, gd_y q ⟨c, x5, rfl⟩⟩
  · refine Runs.mono (R_X11_strengthN (nk := nk) hB hF him.1 hob.2.2.1 hd hk q) fun r X Q hq => ?_
    obtain ⟨rfl, rfl, rfl⟩ := hq
    exact ⟨rfl, hB, chg_r, hld, _, rfl, ⟨by omega, by omega⟩, gd_n q⟩
theorem pr_strength (hI : INVX V R) (h_d : r32 d) (h_k : r32 k) : PR G M_X10_strength M_X11_strength 42 7 [vi d, vi k] V R := obs_pr (P := fun b Ks nk => gd ((0 ≤ d ∧ d < (nk : Int)) ∧ K4 k) (-1) (o1 b k (fun c => (weak b k (spS b k c) Ks d.toNat 7 : Int)))) (fun b Ks nk v v' => gd_u (fun v v' => o1_u)) (fun b Ks nk V R h1 h2 h3 h4 h5 h6 => R_X10_strength h1 h2 h3 h4 h5 h6 h_d h_k) (fun b Ks nk V R h1 h2 h3 h4 h5 h6 => R_X11_strengthA h1 h2 h3 h4 h5 h6 h_d h_k) hI
theorem pr_status (hI : INVX V R) : PR G M_X10_status M_X11_status 1 1 [] V R := by
  obtain ⟨b, Ks, nk, ⟨hB, hF⟩, ok, ⟨c1, c2, c3, c4⟩, ⟨m1, m2, m3, m4⟩, t1, t2, t3, t4⟩ := id hI
  have z := hB.2 0 10 3 (-6) 0 rfl rfl
  exact pur_pr (f := fun V => V 0 3) hI ⟨by omega, by omega⟩ (R_X10_status hB hF) (by show RunsP G _ 1 _ V R (vi (V 0 3)); rw [t4]; exact R_X11_status hB hF)
theorem pr_fault (hI : INVX V R) : PR G M_X10_fault M_X11_fault 1 1 [] V R := by
  obtain ⟨b, Ks, nk, ⟨hB, hF⟩, ok, ⟨c1, c2, c3, c4⟩, ⟨m1, m2, m3, m4⟩, t1, t2, t3, t4⟩ := id hI
  have z := hB.2 16 4 5 (-1) 400 rfl rfl
  exact pur_pr (f := fun V => V 16 5) hI ⟨by omega, by omega⟩ (R_X10_fault hB hF) (by show RunsP G _ 1 _ V R (vi (V 16 5)); rw [t3]; exact R_X11_fault hB hF)
theorem pr_count (hI : INVX V R) (h_w : r32 w) : PR G M_X10_count M_X11_count 1 1 [vi w] V R := by
  obtain ⟨b, Ks, nk, ⟨hB, hF⟩, ok, ⟨c1, c2, c3, c4⟩, ⟨m1, m2, m3, m4⟩, t1, t2, t3, t4⟩ := id hI
  have e : cntC V w = cntM V w := by unfold cntC cntM; rw [c1.n, c1.rn, c1.tn, c1.pn, c1.cn, c1.dn, m1.n, m1.rn, m1.tn, m1.pn, m1.cn, m1.dn, c2.2.1, m2.1, t1]
  have z1 := ok.1.n
  have z2 := ok.1.rn
  have z3 := ok.1.tn
  have z4 := ok.1.pn
  have z5 := ok.1.cn
  have z6 := ok.1.dn
  have z7 := ok.2.2.1
  have z8 := hB.2 16 4 1 0 400 rfl rfl
  refine pur_pr (f := fun V => cntC V w) hI ?_ (R_X10_count hB hF h_w) (by show RunsP G _ 1 _ V R (vi (cntC V w)); rw [e]; exact R_X11_count hB hF h_w)
  show r32 (cntC V w)
  unfold cntC
  rw [c1.n, c1.rn, c1.tn, c1.pn, c1.cn, c1.dn, c2.2.1]
  unfold r32
  repeat' split
  all_goals omega
end
