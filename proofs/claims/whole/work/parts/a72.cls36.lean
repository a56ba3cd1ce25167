set_option maxHeartbeats 1000000 in
set_option maxRecDepth 100000 in
theorem R_X6_setPhases {G : GG} {V : VV} {R : RR} {k : Int} {b : Bk} {k : Int} {c : Nat} {Ks : Nat → Kd} {l : Nat → Nat → Int} {N ch : Nat} {ρ : Nat → Nat} (hB : Bd V) (hF : FinR R) (bCV : bC b V) (ho : bO b) (hw : bW b) (hk : 0 ≤ k ∧ k ≤ 400) (h39 : ∀ h, h < b.n → V 39 h = owO b k c h) (h58 : ho58 b k c l ch N V) (hN : N ≤ 24) (hNz : V 56 1 = (N : Int)) (hrw : rwI R ρ) (hrl : rwL (spS b k c) Ks N l ρ V) (h19 : ∀ i, i < N → V (ρ i) 19 = bi (ch.testBit i)) (hO : cOk (vL l) (bL l) N ch) (h13 : chN ch N ≤ 13) : Runs G M_X6_setPhases 9 162 162 [vr 85, vr 1, vr 34, vr 56, vi k] V R (PQM [(87, 96)] [(85, 0, 0), (85, 11, 13)] V R (fun o X R2 => o = none ∧ ordC (mtM (spS b k c) Ks l ch N) (ltM b k c l ch N) ρ ch N X R2 ∧ ∃ L W B, dpQ (chn (mtM (spS b k c) Ks l ch N) (ltM b k c l ch N) (chN ch N) 0) L W B ∧ phC (chN ch N) L W B X)) := by
  refine Runs.of pn_X6 (Nat.le_of_ble_eq_true rfl) rfl ?_
  show TT G M_X6_setPhases (rmd 9 162 162) 162 (Zm G 162 162 (PQM [(87, 96)] [(85, 0, 0), (85, 11, 13)] V R (fun o X R2 => o = none ∧ ordC (mtM (spS b k c) Ks l ch N) (ltM b k c l ch N) ρ ch N X R2 ∧ ∃ L W B, dpQ (chn (mtM (spS b k c) Ks l ch N) (ltM b k c l ch N) (chN ch N) 0) L W B ∧ phC (chN ch N) L W B X))) 162 0 [(0, vr 85), (1, vr 1), (2, vr 34), (3, vr 56), (4, vi k)] [] V R
  have fV : chg [(87, 96)] [(85, 0, 0), (85, 11, 13)] V V := chg_r
  have hp8 : 2 ^ chN ch N ≤ 8192 := Nat.pow_le_pow_right (n := 2) (by decide) h13
  have hp1 := Nat.two_pow_pos (chN ch N)
  refine T_al d_X6_setPhases_0 rfl ?_
  refine T_al d_X6_setPhases_1 rfl ?_
  refine C_v1 d_X6_setPhases_2 rfl (hdF (by decide)) (hcF _) (R_X6_nameMembers (N := N) (ch := ch) (ρ := ρ) hB hF hN hNz hrw h19 h13) (fun r_1 V_2 R_3 qV_2 => ?_)
  obtain ⟨hF, oV_2, hBV_2, cV_2, rfl, pV_2⟩ := qV_2
  have fV_2 := chg_t (A := [(87, 96)]) (F := [(85, 0, 0), (85, 11, 13)]) fV cV_2 rfl
  have bCV_2 := bC_c bCV fV_2 rfl
  obtain ⟨a0, a87, aM⟩ := pV_2
  have oR := oV_2
  have rw2 := rwI_m hrw oR
  refine T_al d_X6_setPhases_5 rfl ?_
  refine C_v0 d_X6_setPhases_6 rfl (hdF (by decide)) (hcF _) (R_X6_meetMembers (S := spS b k c) (Ks := Ks) (l := l) (ρ := ρ) hBV_2 hF hN rw2 (rwL_x hrl hrw hN (V' := V_2) (fun c j h1 h2 _ => fV_2 c j (inA_no (by omega)) (inF_6 (by omega)))) h13 a0 aM) (fun r_4 V_5 R_6 qV_5 => ?_)
  obtain ⟨rfl, hBV_5, cV_5, rfl, pV_5⟩ := qV_5
  have fV_5 := chg_t (A := [(87, 96)]) (F := [(85, 0, 0), (85, 11, 13)]) fV_2 cV_5 rfl
  have bCV_5 := bC_c bCV fV_5 rfl
  have b88 := pV_5
  have b0 : V_5 85 0 = (chN ch N : Int) := (cV_5 85 0 rfl rfl).trans a0
  have b87 : ∀ i, i < 24 → V_5 87 i = mbI ch N i := fun i hi => by rw [chg_k (c := 87) cV_5 rfl]; exact a87 i hi
  refine T_al d_X6_setPhases_9 rfl ?_
  refine T_al d_X6_setPhases_10 rfl ?_
  refine T_al d_X6_setPhases_11 rfl ?_
  refine T_al d_X6_setPhases_12 rfl ?_
  refine T_il d_X6_setPhases_13 rfl ?_
  refine C_v4 d_X6_setPhases_15 rfl (hdF (by decide)) (hcF _) (R_X6_cutMembers (b := b) (k := k) (c := c) (l := l) (N := N) (ch := ch) (v := vL l) hBV_5 hF bCV_5 ho hw hk (fun h hh => by rw [chg_k (c := 39) fV_5 rfl]; exact h39 h hh) (ho58_x h58 (chg_k (c := 58) fV_5 rfl)) b87 hN hO h13) (fun r_7 V_8 R_9 qV_8 => ?_)
  obtain ⟨rfl, hBV_8, cV_8, rfl, pV_8⟩ := qV_8
  have fV_8 := chg_t (A := [(87, 96)]) (F := [(85, 0, 0), (85, 11, 13)]) fV_5 cV_8 rfl
  have bCV_8 := bC_c bCV fV_8 rfl
  have d89 := pV_8
  have d0 : V_8 85 0 = (chN ch N : Int) := (cV_8 85 0 rfl rfl).trans b0
  have d87 : ∀ i, i < 24 → V_8 87 i = mbI ch N i := fun i hi => by rw [chg_k (c := 87) cV_8 rfl]; exact b87 i hi
  have d88 := rowC_x b88 (chg_k (c := 88) cV_8 rfl)
  refine T_al d_X6_setPhases_18 rfl ?_
  refine C_v0 d_X6_setPhases_19 rfl (hdF (by decide)) (hcF _) (R_X6_relateMembers (mt := (mtM (spS b k c) Ks l ch N)) (lt := (ltM b k c l ch N)) (n := (chN ch N)) hBV_8 hF h13 d0 d88 d89 (fun i => ltM_ir i)) (fun r_10 V_11 R_12 qV_11 => ?_)
  obtain ⟨rfl, hBV_11, cV_11, rfl, pV_11⟩ := qV_11
  have fV_11 := chg_t (A := [(87, 96)]) (F := [(85, 0, 0), (85, 11, 13)]) fV_8 cV_11 rfl
  have bCV_11 := bC_c bCV fV_11 rfl
  have e90 := pV_11
  have e0 : V_11 85 0 = (chN ch N : Int) := (cV_11 85 0 rfl rfl).trans d0
  have e87 : ∀ i, i < 24 → V_11 87 i = mbI ch N i := fun i hi => by rw [chg_k (c := 87) cV_11 rfl]; exact d87 i hi
  have e88 := rowC_x d88 (chg_k (c := 88) cV_11 rfl)
  have e89 := rowC_x d89 (chg_k (c := 89) cV_11 rfl)
  refine T_al d_X6_setPhases_22 rfl ?_
  refine C_v0 d_X6_setPhases_23 rfl (hdF (by decide)) (hcF _) (R_X6_listSets (r := (rlB (mtM (spS b k c) Ks l ch N) (ltM b k c l ch N))) (n := (chN ch N)) hBV_11 hF h13 e0 e90 (rl_cm mtM_cm)) (fun r_13 V_14 R_15 qV_14 => ?_)
  obtain ⟨rfl, hBV_14, cV_14, rfl, pV_14⟩ := qV_14
  have fV_14 := chg_t (A := [(87, 96)]) (F := [(85, 0, 0), (85, 11, 13)]) fV_11 cV_14 rfl
  have bCV_14 := bC_c bCV fV_14 rfl
  have g91 := pV_14
  have g0 : V_14 85 0 = (chN ch N : Int) := (cV_14 85 0 rfl rfl).trans e0
  have g87 : ∀ i, i < 24 → V_14 87 i = mbI ch N i := fun i hi => by rw [chg_k (c := 87) cV_14 rfl]; exact e87 i hi
  have g88 := rowC_x e88 (chg_k (c := 88) cV_14 rfl)
  have g89 := rowC_x e89 (chg_k (c := 89) cV_14 rfl)
  have g90 := rowC_x e90 (chg_k (c := 90) cV_14 rfl)
  have g26 := V_14
  refine T_k d_X6_setPhases_26 ?_
  refine T_al d_X6_setPhases_27 rfl ?_
  refine F_gi d_X6_setPhases_28 rfl hBV_14 rfl (fun b_16 => ?_)
  refine T_ishl d_X6_setPhases_31 ?_
  rw [g0, show ishlZ 1 (chN ch N : Int) = ((2 ^ chN ch N : Nat) : Int) from by rw [show (1 : Int) = ((1 : Nat) : Int) from rfl, ishl_n (by omega) (by rw [Nat.one_mul]; omega), Nat.one_mul]]
  refine T_k d_X6_setPhases_32 ?_
  refine T_isub d_X6_setPhases_33 ?_
  refine F_isg d_X6_setPhases_34 (f := fun x_17 => [(0, vr 85), (1, vr 1), (2, vr 34), (3, vr 56), (4, vi k), (5, vi x_17)]) (fun _ => rfl) (fun x_17 ex_17 => ?_)
  obtain rfl : x_17 = ((2 ^ chN ch N - 1 : Nat) : Int) := by rw [ex_17]; omega
  refine T_al d_X6_setPhases_36 rfl ?_
  refine F_gr (b := 93) d_X6_setPhases_37 rfl hF rfl ?_
  refine T_il d_X6_setPhases_40 rfl ?_
  refine T_k d_X6_setPhases_42 ?_
  refine F_is d_X6_setPhases_43 rfl hBV_14 rfl ⟨by omega, by omega⟩ ⟨by omega, by omega⟩ (fun V_18 eV_18 hBV_18 => ?_)
  have fV_18 := chg_u eV_18 rfl fV_14
  have bCV_18 := bC_c bCV fV_18 rfl
  refine T_al d_X6_setPhases_44 rfl ?_
  refine F_gr (b := 94) d_X6_setPhases_45 rfl hF rfl ?_
  refine T_il d_X6_setPhases_48 rfl ?_
  refine T_k d_X6_setPhases_50 ?_
  refine F_is d_X6_setPhases_51 rfl hBV_18 rfl ⟨by omega, by omega⟩ ⟨by omega, by omega⟩ (fun V_19 eV_19 hBV_19 => ?_)
  have fV_19 := chg_u eV_19 rfl fV_18
  have bCV_19 := bC_c bCV fV_19 rfl
  refine T_al d_X6_setPhases_52 rfl ?_
  refine F_gr (b := 95) d_X6_setPhases_53 rfl hF rfl ?_
  refine T_il d_X6_setPhases_56 rfl ?_
  refine T_jk d_X6_setPhases_58 ?_
  refine F_ls d_X6_setPhases_59 rfl hBV_19 rfl ⟨by omega, by omega⟩ ⟨by omega, by omega⟩ (fun V_20 eV_20 hBV_20 => ?_)
  have fV_20 := chg_u eV_20 rfl fV_19
  have bCV_20 := bC_c bCV fV_20 rfl
  refine T_il d_X6_setPhases_60 rfl ?_
  refine T_k d_X6_setPhases_62 ?_
  refine T_isub d_X6_setPhases_63 ?_
  refine F_isg d_X6_setPhases_64 (f := fun x_21 => [(0, vr 85), (1, vr 1), (2, vr 34), (3, vr 56), (4, vi k), (5, vi ((2 ^ chN ch N - 1 : Nat) : Int)), (6, vi x_21)]) (fun _ => rfl) (fun x_21 ex_21 => ?_)
  -- to 66 @66
  have L66 : ∀ (fu : Nat) (Y : VV) (y : Int) (t : Nat), t < fu → (Bd Y) → (chg [(87, 96)] [(85, 0, 0), (85, 11, 13)] V Y) → (Y 85 0 = (chN ch N : Int)) → (∀ i, i < 24 → Y 87 i = mbI ch N i) → (rowC 88 (mtM (spS b k c) Ks l ch N) (chN ch N) Y) → (rowC 89 (ltM b k c l ch N) (chN ch N) Y) → (rowC 90 (rlB (mtM (spS b k c) Ks l ch N) (ltM b k c l ch N)) (chN ch N) Y) → (lsS (rlB (mtM (spS b k c) Ks l ch N) (ltM b k c l ch N)) (2 ^ chN ch N) Y) → (y = (t : Int) - 1) → (t ≤ 2 ^ chN ch N - 1) → (∀ E, t ≤ E → E < 2 ^ chN ch N → dpV (mtM (spS b k c) Ks l ch N) (ltM b k c l ch N) (chN ch N) Y E) → TT G M_X6_setPhases (rmd 9 162 162) 162 (Zm G 162 162 (PQM [(87, 96)] [(85, 0, 0), (85, 11, 13)] V R (fun o X R2 => o = none ∧ ordC (mtM (spS b k c) Ks l ch N) (ltM b k c l ch N) ρ ch N X R2 ∧ ∃ L W B, dpQ (chn (mtM (spS b k c) Ks l ch N) (ltM b k c l ch N) (chN ch N) 0) L W B ∧ phC (chN ch N) L W B X))) 162 66 [(0, vr 85), (6, vi y)] [] Y R_3 := by
    intro fu
    induction fu with
    | zero => intro Y y t hm; exact absurd hm (Nat.not_lt_zero _)
    | succ fu ih66 =>
      intro Y y t hm66 hBY fY y0 y87 y88 y89 y90 y91 ey htl yd
      have bCY := bC_c bCV fY rfl
      refine T_il d_X6_setPhases_66 rfl ?_
      refine T_zlt d_X6_setPhases_68 ⟨by omega, by omega⟩ (fun h68 => ?_) (fun h68 => ?_)
      · skip
        obtain ⟨L, W, B, v1, v2, v3, v4⟩ := yd 0 (by omega) hp1
        have bb := dpQ_b v4
        refine T_al d_X6_setPhases_83 rfl ?_
        refine C_v0 d_X6_setPhases_84 rfl (hdF (by decide)) (hcF _) (R_X6_takeBestRow (n := (chN ch N)) (L := L) (W := W) (B := B) hBY hF h13 y0 v1 v2 v3 bb.1 bb.2 (dpq_B h13 v4 (fun k g z => z))) (fun r_22 V_23 R_24 qV_23 => ?_)
        obtain ⟨rfl, hBV_23, cV_23, rfl, pV_23⟩ := qV_23
        have fV_23 := chg_t (A := [(87, 96)]) (F := [(85, 0, 0), (85, 11, 13)]) fY cV_23 rfl
        have bCV_23 := bC_c bCV fV_23 rfl
        -- leaf 68t@87
        refine T_vret d_X6_setPhases_87 rfl ?_
        exact ⟨hF, oR, hBV_23, fV_23, rfl, ⟨(cV_23 85 0 rfl rfl).trans y0, fun i hi => by rw [chg_k (c := 87) cV_23 rfl]; exact y87 i hi, rowC_x y88 (chg_k (c := 88) cV_23 rfl), rowC_x y89 (chg_k (c := 89) cV_23 rfl), rowC_x y90 (chg_k (c := 90) cV_23 rfl), lsS_x y91 (chg_k (c := 91) cV_23 rfl) (chg_k (c := 92) cV_23 rfl), aM⟩, L, W, B, v4, pV_23⟩
      · skip
        obtain ⟨D, eD⟩ : ∃ D, t = D + 1 := ⟨t - 1, by omega⟩
        obtain rfl : y = (D : Int) := by omega
        refine T_al d_X6_setPhases_71 rfl ?_
        refine T_il d_X6_setPhases_72 rfl ?_
        refine C_v1 d_X6_setPhases_74 rfl (hdF (by decide)) (hcF _) (R_X6_goOnFrom (mt := (mtM (spS b k c) Ks l ch N)) (lt := (ltM b k c l ch N)) (n := (chN ch N)) (D := D) hBY hF h13 y0 y89 y91 mtM_cm (fun i => ltM_ir i) (by omega) (fun E h1 h2 => yd E (by omega) h2)) (fun r_25 V_26 R_27 qV_26 => ?_)
        obtain ⟨rfl, hBV_26, cV_26, rfl, pV_26⟩ := qV_26
        have fV_26 := chg_t (A := [(87, 96)]) (F := [(85, 0, 0), (85, 11, 13)]) fY cV_26 rfl
        have bCV_26 := bC_c bCV fV_26 rfl
        refine F_incg d_X6_setPhases_77 rfl (f := fun x_28 => [(0, vr 85), (6, vi x_28)]) (fun _ => rfl) (fun x_28 ex_28 => ?_)
        refine T_go d_X6_setPhases_80 ?_
        -- to 66 68f@66
        exact ih66 V_26 x_28 (D) (by omega) hBV_26 fV_26 ((cV_26 85 0 rfl rfl).trans y0) (fun i hi => by rw [chg_k (c := 87) cV_26 rfl]; exact y87 i hi) (rowC_x y88 (chg_k (c := 88) cV_26 rfl)) (rowC_x y89 (chg_k (c := 89) cV_26 rfl)) (rowC_x y90 (chg_k (c := 90) cV_26 rfl)) (lsS_x y91 (chg_k (c := 91) cV_26 rfl) (chg_k (c := 92) cV_26 rfl)) (by omega) (by omega) (fun E h1 h2 => (Nat.eq_or_lt_of_le h1).elim (fun z => z ▸ pV_26.1) (fun z => dpV_x (yd E (by omega) h2) (pV_26.2 E (by omega)).1 (pV_26.2 E (by omega)).2.1 (pV_26.2 E (by omega)).2.2))
  refine T_subp (ks := [0, 6]) (ls' := [(0, vr 85), (6, vi x_21)]) rfl ?_
  exact L66 _ V_20 x_21 (2 ^ chN ch N - 1) (Nat.lt_succ_self _) hBV_20 fV_20 (by rw [eV_20, eV_19, eV_18]; exact g0) (fun i hi => by rw [eV_20, eV_19, eV_18, uV_cell (by decide), uV_cell (by decide), uV_cell (by decide)]; exact g87 i hi) (rowC_x g88 (by rw [eV_20, eV_19, eV_18, uV_cell (by decide), uV_cell (by decide), uV_cell (by decide)])) (rowC_x g89 (by rw [eV_20, eV_19, eV_18, uV_cell (by decide), uV_cell (by decide), uV_cell (by decide)])) (rowC_x g90 (by rw [eV_20, eV_19, eV_18, uV_cell (by decide), uV_cell (by decide), uV_cell (by decide)])) (lsS_x g91 (by rw [eV_20, eV_19, eV_18, uV_cell (by decide), uV_cell (by decide), uV_cell (by decide)]) (by rw [eV_20, eV_19, eV_18, uV_cell (by decide), uV_cell (by decide), uV_cell (by decide)])) (by omega) (by omega) (fun E h1 h2 => by rw [show E = 2 ^ chN ch N - 1 by omega]; exact ⟨0, 1, 0, by rw [eV_20, uV_cell (by decide), eV_19, uV_cell (by decide), eV_18, Int.toNat_natCast]; exact uV_self, by rw [eV_20, uV_cell (by decide), eV_19, Int.toNat_natCast]; exact uV_self, by rw [eV_20, Int.toNat_natCast]; exact uV_self, dp_full full_1⟩)
