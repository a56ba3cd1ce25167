set_option maxHeartbeats 1000000 in
set_option maxRecDepth 100000 in
theorem R_X3_nameChosen {G : GG} {V : VV} {R : RR}  {N c : Nat} {ρ : Nat → Nat} (hB : Bd V) (hF : FinR R) (hN : N ≤ 24) (hNz : V 56 1 = (N : Int)) (hrw : rwI R ρ) (h5 : V 56 5 = (c : Int)) (hc : c < 2 ^ N) : Runs G M_X3_nameChosen 2 162 162 [vr 56] V R (PQ [(60, 84), (58, 58)] [] V R (fun o X => o = none ∧ (∀ c j, 60 ≤ c → c ≤ 84 → j < 19 → X c j = V c j) ∧ (∀ j, j < N → X (ρ j) 19 = bi (c.testBit j)) ∧ ∀ h, h < 40 → X 58 h = lstB (hoB V ρ c h) N)) := by
  refine Runs.of pn_X3 (Nat.le_of_ble_eq_true rfl) rfl ?_
  show TT G M_X3_nameChosen (rmd 2 162 162) 162 (Zm G 162 162 (PQ [(60, 84), (58, 58)] [] V R (fun o X => o = none ∧ (∀ c j, 60 ≤ c → c ≤ 84 → j < 19 → X c j = V c j) ∧ (∀ j, j < N → X (ρ j) 19 = bi (c.testBit j)) ∧ ∀ h, h < 40 → X 58 h = lstB (hoB V ρ c h) N))) 162 0 [(0, vr 56)] [] V R
  have fV : chg [(60, 84), (58, 58)] [] V V := chg_r
  have hc31 : c < 2 ^ 31 := Nat.lt_of_lt_of_le hc (Nat.pow_le_pow_right (by decide) (by omega))
  refine T_al d_X3_nameChosen_0 rfl ?_
  refine F_gr (b := 58) d_X3_nameChosen_1 rfl hF rfl ?_
  refine T_k d_X3_nameChosen_4 ?_
  refine C_s2 d_X3_nameChosen_5 (hdF (by decide)) (hcF _) (R_fill_58 (v := -1) hB hF ⟨by omega, by omega⟩) (fun r_1 V_2 R_3 qV_2 => ?_)
  obtain ⟨rfl, hBV_2, cV_2, rfl, pV_2⟩ := qV_2
  have fV_2 := chg_t (A := [(60, 84), (58, 58)]) (F := []) fV cV_2 rfl
  refine T_k d_X3_nameChosen_8 ?_
  refine T_is d_X3_nameChosen_9 (ls' := [(0, vr 56), (1, vi 0)]) rfl ?_
  -- to 10 @10
  have L10 : ∀ (fu : Nat) (X : VV) (i : Nat), N - i < fu → (Bd X) → (chg [(60, 84), (58, 58)] [] V X) → (i ≤ N) → (∀ c j, 60 ≤ c → c ≤ 84 → j < 19 → X c j = V c j) → (∀ j, j < i → X (ρ j) 19 = bi (c.testBit j)) → (∀ h, h < 40 → X 58 h = lstB (hoB V ρ c h) i) → TT G M_X3_nameChosen (rmd 2 162 162) 162 (Zm G 162 162 (PQ [(60, 84), (58, 58)] [] V R (fun o X => o = none ∧ (∀ c j, 60 ≤ c → c ≤ 84 → j < 19 → X c j = V c j) ∧ (∀ j, j < N → X (ρ j) 19 = bi (c.testBit j)) ∧ ∀ h, h < 40 → X 58 h = lstB (hoB V ρ c h) N))) 162 10 [(0, vr 56), (1, vi (i : Int))] [] X R := by
    intro fu
    induction fu with
    | zero => intro X i hm; exact absurd hm (Nat.not_lt_zero _)
    | succ fu ih10 =>
      intro X i hm10 hBX fX hi hX h19 h58
      have x1 : X 56 1 = (N : Int) := (fX 56 1 rfl rfl).trans hNz
      have x5 : X 56 5 = (c : Int) := (fX 56 5 rfl rfl).trans h5
      refine T_il d_X3_nameChosen_10 rfl ?_
      refine T_al d_X3_nameChosen_11 rfl ?_
      refine F_gi d_X3_nameChosen_12 rfl hBX rfl (fun b_4 => ?_)
      refine T_ige d_X3_nameChosen_15 ⟨by omega, by omega⟩ ⟨by omega, by omega⟩ (fun h15 => ?_) (fun h15 => ?_)
      · skip
        -- leaf 15t@101
        refine T_vret d_X3_nameChosen_101 rfl ?_
        have ei : i = N := by omega
        rw [ei] at h19 h58
        exact ⟨rfl, hBX, fX, rfl, hX, h19, h58⟩
      · skip
        have hr := hrw.1 i (by omega)
        have hlr := lay_h hr.2
        have b18 := hB.2 (ρ i) 2 18 0 1099511627775 hlr rfl
        refine T_al d_X3_nameChosen_18 rfl ?_
        have L46 : ∀ (fu : Nat) (Y : VV) (h : Nat), 40 - h < fu → (Bd Y) → (chg [(60, 84), (58, 58)] [] V Y) → (h ≤ 40) → (∀ c j, 60 ≤ c → c ≤ 84 → j < 19 → Y c j = V c j) → (∀ j, j < i + 1 → Y (ρ j) 19 = bi (c.testBit j)) → (∀ g, g < h → Y 58 g = lstB (hoB V ρ c g) (i + 1)) → (∀ g, h ≤ g → g < 40 → Y 58 g = lstB (hoB V ρ c g) i) → TT G M_X3_nameChosen (rmd 2 162 162) 162 (Zm G 162 162 (PQ [(60, 84), (58, 58)] [] V R (fun o X => o = none ∧ (∀ c j, 60 ≤ c → c ≤ 84 → j < 19 → X c j = V c j) ∧ (∀ j, j < N → X (ρ j) 19 = bi (c.testBit j)) ∧ ∀ h, h < 40 → X 58 h = lstB (hoB V ρ c h) N))) 162 46 [(0, vr 56), (1, vi (i : Int)), (2, vi (h : Int))] [] Y R := by
          intro fu
          induction fu with
          | zero => intro Y h hm; exact absurd hm (Nat.not_lt_zero _)
          | succ fu ih46 =>
            intro Y h hm46 hBY fY hh hY y19 ylo yhi
            have yi := y19 i (by omega)
            have y18 := hY (ρ i) 18 hr.2.1 hr.2.2 (by omega)
            refine T_il d_X3_nameChosen_46 rfl ?_
            refine T_k d_X3_nameChosen_47 ?_
            refine T_ige d_X3_nameChosen_49 ⟨by omega, by omega⟩ ⟨by omega, by omega⟩ (fun h49 => ?_) (fun h49 => ?_)
            · skip
              refine F_incg d_X3_nameChosen_95 rfl (f := fun x_5 => [(0, vr 56), (1, vi x_5), (2, vi (h : Int))]) (fun _ => rfl) (fun x_5 ex_5 => ?_)
              refine T_go d_X3_nameChosen_98 ?_
              -- to 10 49t@10
              refine T_subp (ks := [0, 1]) (ls' := [(0, vr 56), (1, vi x_5)]) rfl ?_
              obtain rfl : x_5 = ((i + 1) : Int) := by omega
              exact ih10 Y (i + 1) (by omega) hBY fY (by first | assumption | omega) hY y19 (fun g hg => ylo g (by omega))
            · skip
              refine T_al d_X3_nameChosen_52 rfl ?_
              refine F_gr (b := 57) d_X3_nameChosen_53 rfl hF rfl ?_
              refine T_il d_X3_nameChosen_56 rfl ?_
              refine F_aa d_X3_nameChosen_57 rfl ⟨by omega, by omega⟩ ?_
              rw [show R 57 ((i : Nat) : Int).toNat = some (ρ i) from hr.1]
              refine F_gi d_X3_nameChosen_58 hlr hBY rfl (fun b_6 => ?_)
              refine T_zeq d_X3_nameChosen_61 ⟨by omega, by omega⟩ (fun h61 => ?_) (fun h61 => ?_)
              · skip
                refine F_incg d_X3_nameChosen_95 rfl (f := fun x_7 => [(0, vr 56), (1, vi x_7), (2, vi (h : Int))]) (fun _ => rfl) (fun x_7 ex_7 => ?_)
                refine T_go d_X3_nameChosen_98 ?_
                -- to 10 49f.61t@10
                refine T_subp (ks := [0, 1]) (ls' := [(0, vr 56), (1, vi x_7)]) rfl ?_
                have zi : ¬ c.testBit i = true := fun z => absurd (h61.symm.trans (yi.trans (bi_t z))) (by decide)
                obtain rfl : x_7 = ((i + 1) : Int) := by omega
                exact ih10 Y (i + 1) (by omega) hBY fY (by first | assumption | omega) hY y19 (fun g hg => by rw [lst_f (fun z => zi (Bool.and_eq_true _ _ ▸ z : _ ∧ _).1)]; exact (Nat.lt_or_ge g h).elim (fun q => by rw [ylo g q, lst_f (fun z => zi (Bool.and_eq_true _ _ ▸ z : _ ∧ _).1)]) (fun q => yhi g q hg))
              · skip
                refine T_al d_X3_nameChosen_64 rfl ?_
                refine F_gr (b := 57) d_X3_nameChosen_65 rfl hF rfl ?_
                refine T_il d_X3_nameChosen_68 rfl ?_
                refine F_aa d_X3_nameChosen_69 rfl ⟨by omega, by omega⟩ ?_
                rw [show R 57 ((i : Nat) : Int).toNat = some (ρ i) from hr.1]
                refine F_gj d_X3_nameChosen_70 hlr hBY rfl (fun b_8 => ?_)
                refine T_il d_X3_nameChosen_73 rfl ?_
                refine T_lshr d_X3_nameChosen_74 ?_
                refine T_jk d_X3_nameChosen_75 ?_
                refine T_land d_X3_nameChosen_76 ?_
                rw [y18, show V (ρ i) 18 = (((V (ρ i) 18).toNat : Nat) : Int) by omega, tb_1 (Nat.lt_of_le_of_lt (show (V (ρ i) 18).toNat ≤ 1099511627775 by omega) (by decide)) (by omega)]
                refine T_jk d_X3_nameChosen_77 ?_
                refine T_lne d_X3_nameChosen_78 d_X3_nameChosen_79 ⟨by split <;> omega, by split <;> omega⟩ ⟨by omega, by omega⟩ (fun h78 => ?_) (fun h78 => ?_)
                · skip
                  refine F_incg d_X3_nameChosen_89 rfl (f := fun x_9 => [(0, vr 56), (1, vi (i : Int)), (2, vi x_9)]) (fun _ => rfl) (fun x_9 ex_9 => ?_)
                  refine T_go d_X3_nameChosen_92 ?_
                  -- to 46 49f.61f.78t@46
                  obtain rfl : x_9 = ((h + 1) : Int) := by omega
                  exact ih46 Y (h + 1) (by omega) hBY fY (by first | assumption | omega) hY y19 (up_all ylo (by rw [yhi h (Nat.le_refl _) (by omega), lst_f (fun z => h78 (if_pos (Bool.and_eq_true _ _ ▸ z : _ ∧ _).2))])) (fun g h1 h2 => yhi g (by omega) h2)
                · skip
                  refine T_al d_X3_nameChosen_82 rfl ?_
                  refine F_gr (b := 58) d_X3_nameChosen_83 rfl hF rfl ?_
                  refine T_il d_X3_nameChosen_86 rfl ?_
                  refine T_il d_X3_nameChosen_87 rfl ?_
                  refine F_is d_X3_nameChosen_88 rfl hBY rfl ⟨by omega, by omega⟩ ⟨by omega, by omega⟩ (fun V_10 eV_10 hBV_10 => ?_)
                  have fV_10 := chg_u eV_10 rfl fY
                  refine F_incg d_X3_nameChosen_89 rfl (f := fun x_11 => [(0, vr 56), (1, vi (i : Int)), (2, vi x_11)]) (fun _ => rfl) (fun x_11 ex_11 => ?_)
                  refine T_go d_X3_nameChosen_92 ?_
                  -- to 46 49f.61f.78f@46
                  have zi : c.testBit i = true := Classical.byContradiction fun z => h61 (yi.trans (bi_f z))
                  have zb : (V (ρ i) 18).toNat.testBit h = true := Classical.byContradiction fun z => absurd ((if_neg z).symm.trans h78) (by decide)
                  obtain rfl : x_11 = ((h + 1) : Int) := by omega
                  exact ih46 V_10 (h + 1) (by omega) hBV_10 fV_10 (by first | assumption | omega) (ncy hY eV_10) (fun j hj => by rw [eV_10, uV_cell (by have := (hrw.1 j (by omega)).2; omega)]; exact y19 j hj) (row_s (f := fun g => lstB (hoB V ρ c g) (i + 1)) eV_10 (lst_t (show hoB V ρ c h i = true by unfold hoB; rw [zi, zb]; rfl)).symm ylo) (fun g h1 h2 => by rw [eV_10, Int.toNat_natCast, uV_at, if_neg (by omega)]; exact yhi g (by omega) h2)
        refine F_gr (b := 57) d_X3_nameChosen_19 rfl hF rfl ?_
        refine T_il d_X3_nameChosen_22 rfl ?_
        refine F_aa d_X3_nameChosen_23 rfl ⟨by omega, by omega⟩ ?_
        rw [show R 57 ((i : Nat) : Int).toNat = some (ρ i) from hr.1]
        refine T_al d_X3_nameChosen_24 rfl ?_
        refine F_gin d_X3_nameChosen_25 rfl ?_
        refine T_il d_X3_nameChosen_28 rfl ?_
        refine T_ishr d_X3_nameChosen_29 ?_
        refine T_k d_X3_nameChosen_30 ?_
        refine T_iand d_X3_nameChosen_31 ?_
        rw [x5, tbI hc31 (by omega)]
        refine T_k d_X3_nameChosen_32 ?_
        refine T_ine d_X3_nameChosen_33 ⟨by cases c.testBit i <;> decide, by cases c.testBit i <;> decide⟩ ⟨by omega, by omega⟩ (fun h33 => ?_) (fun h33 => ?_)
        · skip
          refine T_k d_X3_nameChosen_40 ?_
          refine F_pz d_X3_nameChosen_41 hlr hBX rfl ⟨by omega, by omega⟩ (fun V_12 eV_12 hBV_12 => ?_)
          have fV_12 := chg_u eV_12 (inh hr.2) fX
          refine T_k d_X3_nameChosen_44 ?_
          refine T_is d_X3_nameChosen_45 (ls' := [(0, vr 56), (1, vi (i : Int)), (2, vi 0)]) rfl ?_
          -- to 46 15f.33t@46
          have zi : ¬ c.testBit i = true := fun z => h33 (bi_t z)
          exact L46 _ V_12 (0) (Nat.lt_succ_self _) hBV_12 fV_12 (by first | assumption | omega) (ncx hX eV_12) (nc19 h19 eV_12 (bi_f zi).symm (fun j hj z => by have := hrw.2 j i (by omega) (by omega) z; omega)) (fun g hg => absurd hg (Nat.not_lt_zero _)) (fun g _ hg => by rw [eV_12, uV_cell (by omega)]; exact h58 g hg)
        · skip
          refine T_k d_X3_nameChosen_36 ?_
          refine T_go d_X3_nameChosen_37 ?_
          refine F_pz d_X3_nameChosen_41 hlr hBX rfl ⟨by omega, by omega⟩ (fun V_13 eV_13 hBV_13 => ?_)
          have fV_13 := chg_u eV_13 (inh hr.2) fX
          refine T_k d_X3_nameChosen_44 ?_
          refine T_is d_X3_nameChosen_45 (ls' := [(0, vr 56), (1, vi (i : Int)), (2, vi 0)]) rfl ?_
          -- to 46 15f.33f@46
          have zi : c.testBit i = true := Classical.byContradiction fun z => absurd ((bi_f z).symm.trans h33) (by decide)
          exact L46 _ V_13 (0) (Nat.lt_succ_self _) hBV_13 fV_13 (by first | assumption | omega) (ncx hX eV_13) (nc19 h19 eV_13 (bi_t zi).symm (fun j hj z => by have := hrw.2 j i (by omega) (by omega) z; omega)) (fun g hg => absurd hg (Nat.not_lt_zero _)) (fun g _ hg => by rw [eV_13, uV_cell (by omega)]; exact h58 g hg)
  exact L10 _ V_2 (0) (Nat.lt_succ_self _) hBV_2 fV_2 (by first | assumption | omega) (fun c j h1 h2 _ => cV_2 c j (inA_no (by omega)) rfl) (fun j hj => absurd hj (Nat.not_lt_zero _)) (fun h hh => pV_2 h hh)
set_option maxHeartbeats 1000000 in
set_option maxRecDepth 100000 in
theorem R_X3_choose {G : GG} {V : VV} {R : RR}  {S : Sp} {Ks : Nat → Kd} {N : Nat} {l : Nat → Nat → Int} {ρ : Nat → Nat} (hB : Bd V) (hF : FinR R) (so : sO S) (hN : N ≤ 24) (hNz : V 56 1 = (N : Int)) (hrw : rwI R ρ) (hrl : rwL S Ks N l ρ V) : Runs G M_X3_choose 28 162 162 [vr 56] V R (PQ [(60, 84), (58, 59)] [(56, 3, 5)] V R (fun o X => o = none ∧ ∃ c, isCh (vL l) (bL l) N c ∧ stC N (vL l) c X ∧ (∀ c j, 60 ≤ c → c ≤ 84 → j < 19 → X c j = V c j) ∧ (∀ j, j < N → X (ρ j) 19 = bi (c.testBit j)) ∧ ∀ h, h < 40 → X 58 h = lstB (hoB V ρ c h) N)) := by
  refine Runs.of pn_X3 (Nat.le_of_ble_eq_true rfl) rfl ?_
  show TT G M_X3_choose (rmd 28 162 162) 162 (Zm G 162 162 (PQ [(60, 84), (58, 59)] [(56, 3, 5)] V R (fun o X => o = none ∧ ∃ c, isCh (vL l) (bL l) N c ∧ stC N (vL l) c X ∧ (∀ c j, 60 ≤ c → c ≤ 84 → j < 19 → X c j = V c j) ∧ (∀ j, j < N → X (ρ j) 19 = bi (c.testBit j)) ∧ ∀ h, h < 40 → X 58 h = lstB (hoB V ρ c h) N))) 162 0 [(0, vr 56)] [] V R
  have fV : chg [(60, 84), (58, 59)] [(56, 3, 5)] V V := chg_r
  have hvb := vb_of hB hrw hN hrl
  have hps := ps_b (v := vL l) N (fun i hi => (hvb i hi).2)
  refine T_al d_X3_choose_0 rfl ?_
  refine F_gr (b := 59) d_X3_choose_1 rfl hF rfl ?_
  refine T_al d_X3_choose_4 rfl ?_
  refine F_gi d_X3_choose_5 rfl hB rfl (fun b_1 => ?_)
  refine T_k d_X3_choose_8 ?_
  refine F_is d_X3_choose_9 rfl hB rfl ⟨by omega, by omega⟩ ⟨by omega, by omega⟩ (fun V_2 eV_2 hBV_2 => ?_)
  have fV_2 := chg_u eV_2 rfl fV
  refine T_al d_X3_choose_10 rfl ?_
  refine F_gi d_X3_choose_11 rfl hBV_2 rfl (fun b_3 => ?_)
  have fV_2_56_1 : V_2 56 1 = V 56 1 := by rw [eV_2]; rfl
  rw [fV_2_56_1]
  rw [fV_2_56_1] at b_3
  refine T_k d_X3_choose_14 ?_
  refine T_isub d_X3_choose_15 ?_
  refine F_isg d_X3_choose_16 (f := fun x_4 => [(0, vr 56), (1, vi x_4)]) (fun _ => rfl) (fun x_4 ex_4 => ?_)
  -- to 17 @17
  have L17 : ∀ (fu : Nat) (X : VV) (y : Int) (t : Nat), t < fu → (Bd X) → (chg [(60, 84), (58, 59)] [(56, 3, 5)] V X) → (y = (t : Int) - 1) → (t ≤ N) → (∀ c j, 60 ≤ c → c ≤ 84 → X c j = V c j) → (∀ j, t ≤ j → j ≤ N → X 59 j = pvS (vL l) N - pvS (vL l) j) → TT G M_X3_choose (rmd 28 162 162) 162 (Zm G 162 162 (PQ [(60, 84), (58, 59)] [(56, 3, 5)] V R (fun o X => o = none ∧ ∃ c, isCh (vL l) (bL l) N c ∧ stC N (vL l) c X ∧ (∀ c j, 60 ≤ c → c ≤ 84 → j < 19 → X c j = V c j) ∧ (∀ j, j < N → X (ρ j) 19 = bi (c.testBit j)) ∧ ∀ h, h < 40 → X 58 h = lstB (hoB V ρ c h) N))) 162 17 [(0, vr 56), (1, vi y)] [] X R := by
    intro fu
    induction fu with
    | zero => intro X y t hm; exact absurd hm (Nat.not_lt_zero _)
    | succ fu ih17 =>
      intro X y t hm17 hBX fX ey ht hX hv
      refine T_il d_X3_choose_17 rfl ?_
      refine T_zlt d_X3_choose_18 ⟨by omega, by omega⟩ (fun h18 => ?_) (fun h18 => ?_)
      · skip
        refine T_al d_X3_choose_55 rfl ?_
        refine T_k d_X3_choose_56 ?_
        refine F_pin d_X3_choose_57 rfl hBX rfl (fun V_5 eV_5 hBV_5 => ?_)
        have fV_5 := chg_u eV_5 rfl fX
        refine T_al d_X3_choose_60 rfl ?_
        refine T_k d_X3_choose_61 ?_
        refine F_pi d_X3_choose_62 rfl hBV_5 rfl ⟨by omega, by omega⟩ (fun V_6 eV_6 hBV_6 => ?_)
        have fV_6 := chg_u eV_6 rfl fV_5
        refine T_al d_X3_choose_65 rfl ?_
        refine T_k d_X3_choose_66 ?_
        refine F_pi d_X3_choose_67 rfl hBV_6 rfl ⟨by omega, by omega⟩ (fun V_7 eV_7 hBV_7 => ?_)
        have fV_7 := chg_u eV_7 rfl fV_6
        refine T_al d_X3_choose_70 rfl ?_
        refine T_k d_X3_choose_71 ?_
        refine T_k d_X3_choose_72 ?_
        refine T_jk d_X3_choose_73 ?_
        refine T_k d_X3_choose_74 ?_
        have k5 : ∀ c j, 60 ≤ c → c ≤ 84 → V_7 c j = V c j := fun c j h1 h2 => by rw [eV_7, eV_6, eV_5, uV_cell (by omega), uV_cell (by omega), uV_cell (by omega)]; exact hX c j h1 h2
        refine C_v4 d_X3_choose_75 rfl (hdF (by omega)) (hcF _) (cf_all hF so hN hrw N V_7 0 0 0 0 0 (by omega) hBV_7 (by rw [eV_7, eV_6, eV_5]; exact (fX 56 1 rfl rfl).trans hNz) (rwL_x hrl hrw hN (fun c j h1 h2 h3 => by rw [eV_7, eV_6, eV_5, uV_cell (by omega), uV_cell (by omega), uV_cell (by omega)]; exact hX c j h1 h2)) (fun i hi => by rw [eV_7, eV_6, eV_5]; exact hv i (by omega) hi) (by decide) cOk_0 mR_0 rfl ⟨by rw [eV_7, eV_6, eV_5]; rfl, by rw [eV_7, eV_6, eV_5]; exact congrArg (fun z : Nat => (z : Int)) (chN_0 N).symm, by rw [eV_7]; exact uV_self.trans (chV_0 N).symm, Nat.two_pow_pos N⟩ J_0) (fun r_8 V_9 R_10 qV_9 => ?_)
        obtain ⟨rfl, hBV_9, cV_9, rfl, pV_9⟩ := qV_9
        have fV_9 := chg_t (A := [(60, 84), (58, 59)]) (F := [(56, 3, 5)]) fV_7 cV_9 rfl
        obtain ⟨c, stc, bc⟩ := pV_9
        have k60 : ∀ c j, 60 ≤ c → c ≤ 84 → V_9 c j = V c j := fun c j h1 h2 => by rw [cV_9 c j rfl (by unfold inF; simp; omega)]; exact k5 c j h1 h2
        refine T_al d_X3_choose_78 rfl ?_
        refine C_v0 d_X3_choose_79 rfl (hdF (by omega)) (hcF _) (R_X3_nameChosen (N := N) (c := c) (ρ := ρ) hBV_9 hF hN ((fV_9 56 1 rfl rfl).trans hNz) hrw stc.1 stc.2.2.2) (fun r_11 V_12 R_13 qV_12 => ?_)
        obtain ⟨rfl, hBV_12, cV_12, rfl, pV_12⟩ := qV_12
        have fV_12 := chg_t (A := [(60, 84), (58, 59)]) (F := [(56, 3, 5)]) fV_9 cV_12 rfl
        -- leaf 18t@82
        refine T_vret d_X3_choose_82 rfl ?_
        obtain ⟨n1, n2, n3⟩ := pV_12
        exact ⟨rfl, hBV_12, fV_12, rfl, c, isCh_0 bc, ⟨by rw [cV_12 56 5 rfl rfl]; exact stc.1, by rw [cV_12 56 3 rfl rfl]; exact stc.2.1, by rw [cV_12 56 4 rfl rfl]; exact stc.2.2.1, stc.2.2.2⟩, fun c2 j h1 h2 h3 => by rw [n1 c2 j h1 h2 h3]; exact k60 c2 j h1 h2, n2, fun h hh => by rw [n3 h hh]; exact lst_x2 N (hoB_x hN hrw (fun c2 h1 h2 => k60 c2 18 h1 h2))⟩
      · skip
        obtain ⟨w, ew⟩ : ∃ w, t = w + 1 := ⟨t - 1, by omega⟩
        have hr := hrw.1 w (by omega)
        have hlr := lay_h hr.2
        have hy : y = (w : Int) := by omega
        have t1 : (y + 1).toNat = w + 1 := by omega
        have v59 := hv (w + 1) (by omega) (by omega)
        have x17 : X (ρ w) 17 = l w 9 := (hX (ρ w) 17 hr.2.1 hr.2.2).trans (ho_17 (hrl w (by omega)).1)
        have pw := ps_m (v := vL l) (n := w + 1) N (by omega)
        have pw2 : pvS (vL l) (w + 1) = pvS (vL l) w + if 0 < l w 9 then l w 9 else 0 := rfl
        have vw := hvb w (by omega)
        have pw0 := ps_b (v := vL l) w (fun i hi => (hvb i (by omega)).2)
        refine T_al d_X3_choose_21 rfl ?_
        refine F_gr (b := 59) d_X3_choose_22 rfl hF rfl ?_
        refine T_il d_X3_choose_25 rfl ?_
        refine T_al d_X3_choose_26 rfl ?_
        refine F_gr (b := 59) d_X3_choose_27 rfl hF rfl ?_
        refine T_il d_X3_choose_30 rfl ?_
        refine T_k d_X3_choose_31 ?_
        refine T_iadd d_X3_choose_32 ?_
        refine F_ia d_X3_choose_33 rfl hBX rfl ⟨by omega, by omega⟩ (fun b_14 => ?_)
        try simp only [Int.toNat_natCast, t1]
        try simp only [Int.toNat_natCast, t1] at b_14
        refine T_k d_X3_choose_34 ?_
        refine T_al d_X3_choose_35 rfl ?_
        refine F_gr (b := 57) d_X3_choose_36 rfl hF rfl ?_
        refine T_il d_X3_choose_39 rfl ?_
        refine F_aa d_X3_choose_40 rfl ⟨by omega, by omega⟩ ?_
        rw [show R 57 y.toNat = some (ρ w) from by rw [hy, Int.toNat_natCast]; exact hr.1]
        refine F_gi d_X3_choose_41 hlr hBX rfl (fun b_15 => ?_)
        refine T_mmax d_X3_choose_44 ⟨by omega, by omega⟩ ⟨by omega, by omega⟩ (Nat.le_of_ble_eq_true rfl) (hmF _) ?_
        refine T_iadd d_X3_choose_47 ?_
        rw [x17, v59]
        refine F_is d_X3_choose_48 rfl hBX rfl ⟨by omega, by omega⟩ ⟨by split <;> omega, by split <;> omega⟩ (fun V_16 eV_16 hBV_16 => ?_)
        have fV_16 := chg_u eV_16 rfl fX
        refine F_incg d_X3_choose_49 rfl (f := fun x_17 => [(0, vr 56), (1, vi x_17)]) (fun _ => rfl) (fun x_17 ex_17 => ?_)
        refine T_go d_X3_choose_52 ?_
        -- to 17 18f@17
        exact ih17 V_16 x_17 (w) (by omega) hBV_16 fV_16 (by omega) (by first | assumption | omega) (fun c j h1 h2 => by rw [eV_16, uV_cell (by omega)]; exact hX c j h1 h2) (vf_s (g := fun j => pvS (vL l) N - pvS (vL l) j) (fun j h1 h2 => hv j (by omega) h2) (by rw [eV_16, hy, Int.toNat_natCast]) (by omega))
  exact L17 _ V_2 x_4 (N) (Nat.lt_succ_self _) hBV_2 fV_2 (by omega) (by first | assumption | omega) (fun c j h1 h2 => by rw [eV_2, uV_cell (by omega)]) (fun j h1 h2 => by rw [show j = N by omega, eV_2, hNz, Int.toNat_natCast]; exact uV_self.trans (by omega))
