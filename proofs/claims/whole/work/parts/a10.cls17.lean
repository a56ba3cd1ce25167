set_option maxHeartbeats 1000000 in
set_option maxRecDepth 100000 in
theorem R_X2_copy {G : GG} {V : VV} {R : RR} {h : Nat}  (hB : Bd V) (hF : FinR R) (hh : 60 ≤ h ∧ h ≤ 84) : Runs G M_X2_copy 1 162 162 [vr h, vr 55] V R (PQ [(60, 84)] [] V R (fun o X => o = none ∧ (∀ j, j < 19 → X h j = V 55 j) ∧ X h 19 = 0 ∧ ∀ c, c ≠ h → X c = V c)) := by
  refine Runs.of pn_X2 (Nat.le_of_ble_eq_true rfl) rfl ?_
  show TT G M_X2_copy (rmd 1 162 162) 162 (Zm G 162 162 (PQ [(60, 84)] [] V R (fun o X => o = none ∧ (∀ j, j < 19 → X h j = V 55 j) ∧ X h 19 = 0 ∧ ∀ c, c ≠ h → X c = V c))) 162 0 [(0, vr h), (1, vr 55)] [] V R
  have fV : chg [(60, 84)] [] V V := chg_r
  have hl_h := lay_h hh
  have B0 := hB.2 55 2 0 (0) 4 rfl rfl
  have B1 := hB.2 55 2 1 (0) 39 rfl rfl
  have B2 := hB.2 55 2 2 (0) 39 rfl rfl
  have B3 := hB.2 55 2 3 (0) 39 rfl rfl
  have B4 := hB.2 55 2 4 (-620) 1119 rfl rfl
  have B5 := hB.2 55 2 5 (-620) 1119 rfl rfl
  have B6 := hB.2 55 2 6 (-1800) 1800 rfl rfl
  have B7 := hB.2 55 2 7 (-1800) 1800 rfl rfl
  have B8 := hB.2 55 2 8 (-1800) 1800 rfl rfl
  have B9 := hB.2 55 2 9 (-1800) 1800 rfl rfl
  have B10 := hB.2 55 2 10 (0) 4 rfl rfl
  have B11 := hB.2 55 2 11 (0) 500 rfl rfl
  have B12 := hB.2 55 2 12 (0) 8 rfl rfl
  have B13 := hB.2 55 2 13 (0) 32 rfl rfl
  have B14 := hB.2 55 2 14 (0) 32 rfl rfl
  have B15 := hB.2 55 2 15 (0) 32 rfl rfl
  have B16 := hB.2 55 2 16 (0) 32 rfl rfl
  have B17 := hB.2 55 2 17 (-1000) 10000 rfl rfl
  have B18 := hB.2 55 2 18 (0) 1099511627775 rfl rfl
  have cp0 : cpI V V h 0 := ⟨fun t ht => absurd ht (Nat.not_lt_zero _), fun c _ => rfl⟩
  refine T_al d_X2_copy_0 rfl ?_
  refine T_al d_X2_copy_1 rfl ?_
  refine F_gi d_X2_copy_2 rfl hB rfl (fun b_1 => ?_)
  rw [chg_k (c := 55) fV rfl]
  refine F_pi d_X2_copy_5 hl_h hB rfl ⟨by omega, by omega⟩ (fun V_2 eV_2 hBV_2 => ?_)
  have fV_2 := chg_u eV_2 (inh hh) fV
  have cp1 := cpI_s cp0 eV_2 rfl
  refine T_al d_X2_copy_8 rfl ?_
  refine T_al d_X2_copy_9 rfl ?_
  refine F_gi d_X2_copy_10 rfl hBV_2 rfl (fun b_3 => ?_)
  rw [chg_k (c := 55) fV_2 rfl]
  refine F_pi d_X2_copy_13 hl_h hBV_2 rfl ⟨by omega, by omega⟩ (fun V_4 eV_4 hBV_4 => ?_)
  have fV_4 := chg_u eV_4 (inh hh) fV_2
  have cp2 := cpI_s cp1 eV_4 rfl
  refine T_al d_X2_copy_16 rfl ?_
  refine T_al d_X2_copy_17 rfl ?_
  refine F_gi d_X2_copy_18 rfl hBV_4 rfl (fun b_5 => ?_)
  rw [chg_k (c := 55) fV_4 rfl]
  refine F_pi d_X2_copy_21 hl_h hBV_4 rfl ⟨by omega, by omega⟩ (fun V_6 eV_6 hBV_6 => ?_)
  have fV_6 := chg_u eV_6 (inh hh) fV_4
  have cp3 := cpI_s cp2 eV_6 rfl
  refine T_al d_X2_copy_24 rfl ?_
  refine T_al d_X2_copy_25 rfl ?_
  refine F_gi d_X2_copy_26 rfl hBV_6 rfl (fun b_7 => ?_)
  rw [chg_k (c := 55) fV_6 rfl]
  refine F_pi d_X2_copy_29 hl_h hBV_6 rfl ⟨by omega, by omega⟩ (fun V_8 eV_8 hBV_8 => ?_)
  have fV_8 := chg_u eV_8 (inh hh) fV_6
  have cp4 := cpI_s cp3 eV_8 rfl
  refine T_al d_X2_copy_32 rfl ?_
  refine T_al d_X2_copy_33 rfl ?_
  refine F_gi d_X2_copy_34 rfl hBV_8 rfl (fun b_9 => ?_)
  rw [chg_k (c := 55) fV_8 rfl]
  refine F_pi d_X2_copy_37 hl_h hBV_8 rfl ⟨by omega, by omega⟩ (fun V_10 eV_10 hBV_10 => ?_)
  have fV_10 := chg_u eV_10 (inh hh) fV_8
  have cp5 := cpI_s cp4 eV_10 rfl
  refine T_al d_X2_copy_40 rfl ?_
  refine T_al d_X2_copy_41 rfl ?_
  refine F_gi d_X2_copy_42 rfl hBV_10 rfl (fun b_11 => ?_)
  rw [chg_k (c := 55) fV_10 rfl]
  refine F_pi d_X2_copy_45 hl_h hBV_10 rfl ⟨by omega, by omega⟩ (fun V_12 eV_12 hBV_12 => ?_)
  have fV_12 := chg_u eV_12 (inh hh) fV_10
  have cp6 := cpI_s cp5 eV_12 rfl
  refine T_al d_X2_copy_48 rfl ?_
  refine T_al d_X2_copy_49 rfl ?_
  refine F_gi d_X2_copy_50 rfl hBV_12 rfl (fun b_13 => ?_)
  rw [chg_k (c := 55) fV_12 rfl]
  refine F_pi d_X2_copy_53 hl_h hBV_12 rfl ⟨by omega, by omega⟩ (fun V_14 eV_14 hBV_14 => ?_)
  have fV_14 := chg_u eV_14 (inh hh) fV_12
  have cp7 := cpI_s cp6 eV_14 rfl
  refine T_al d_X2_copy_56 rfl ?_
  refine T_al d_X2_copy_57 rfl ?_
  refine F_gi d_X2_copy_58 rfl hBV_14 rfl (fun b_15 => ?_)
  rw [chg_k (c := 55) fV_14 rfl]
  refine F_pi d_X2_copy_61 hl_h hBV_14 rfl ⟨by omega, by omega⟩ (fun V_16 eV_16 hBV_16 => ?_)
  have fV_16 := chg_u eV_16 (inh hh) fV_14
  have cp8 := cpI_s cp7 eV_16 rfl
  refine T_al d_X2_copy_64 rfl ?_
  refine T_al d_X2_copy_65 rfl ?_
  refine F_gi d_X2_copy_66 rfl hBV_16 rfl (fun b_17 => ?_)
  rw [chg_k (c := 55) fV_16 rfl]
  refine F_pi d_X2_copy_69 hl_h hBV_16 rfl ⟨by omega, by omega⟩ (fun V_18 eV_18 hBV_18 => ?_)
  have fV_18 := chg_u eV_18 (inh hh) fV_16
  have cp9 := cpI_s cp8 eV_18 rfl
  refine T_al d_X2_copy_72 rfl ?_
  refine T_al d_X2_copy_73 rfl ?_
  refine F_gi d_X2_copy_74 rfl hBV_18 rfl (fun b_19 => ?_)
  rw [chg_k (c := 55) fV_18 rfl]
  refine F_pi d_X2_copy_77 hl_h hBV_18 rfl ⟨by omega, by omega⟩ (fun V_20 eV_20 hBV_20 => ?_)
  have fV_20 := chg_u eV_20 (inh hh) fV_18
  have cp10 := cpI_s cp9 eV_20 rfl
  refine T_al d_X2_copy_80 rfl ?_
  refine T_al d_X2_copy_81 rfl ?_
  refine F_gi d_X2_copy_82 rfl hBV_20 rfl (fun b_21 => ?_)
  rw [chg_k (c := 55) fV_20 rfl]
  refine F_pi d_X2_copy_85 hl_h hBV_20 rfl ⟨by omega, by omega⟩ (fun V_22 eV_22 hBV_22 => ?_)
  have fV_22 := chg_u eV_22 (inh hh) fV_20
  have cp11 := cpI_s cp10 eV_22 rfl
  refine T_al d_X2_copy_88 rfl ?_
  refine T_al d_X2_copy_89 rfl ?_
  refine F_gi d_X2_copy_90 rfl hBV_22 rfl (fun b_23 => ?_)
  rw [chg_k (c := 55) fV_22 rfl]
  refine F_pi d_X2_copy_93 hl_h hBV_22 rfl ⟨by omega, by omega⟩ (fun V_24 eV_24 hBV_24 => ?_)
  have fV_24 := chg_u eV_24 (inh hh) fV_22
  have cp12 := cpI_s cp11 eV_24 rfl
  refine T_al d_X2_copy_96 rfl ?_
  refine T_al d_X2_copy_97 rfl ?_
  refine F_gi d_X2_copy_98 rfl hBV_24 rfl (fun b_25 => ?_)
  rw [chg_k (c := 55) fV_24 rfl]
  refine F_pi d_X2_copy_101 hl_h hBV_24 rfl ⟨by omega, by omega⟩ (fun V_26 eV_26 hBV_26 => ?_)
  have fV_26 := chg_u eV_26 (inh hh) fV_24
  have cp13 := cpI_s cp12 eV_26 rfl
  refine T_al d_X2_copy_104 rfl ?_
  refine T_al d_X2_copy_105 rfl ?_
  refine F_gi d_X2_copy_106 rfl hBV_26 rfl (fun b_27 => ?_)
  rw [chg_k (c := 55) fV_26 rfl]
  refine F_pi d_X2_copy_109 hl_h hBV_26 rfl ⟨by omega, by omega⟩ (fun V_28 eV_28 hBV_28 => ?_)
  have fV_28 := chg_u eV_28 (inh hh) fV_26
  have cp14 := cpI_s cp13 eV_28 rfl
  refine T_al d_X2_copy_112 rfl ?_
  refine T_al d_X2_copy_113 rfl ?_
  refine F_gi d_X2_copy_114 rfl hBV_28 rfl (fun b_29 => ?_)
  rw [chg_k (c := 55) fV_28 rfl]
  refine F_pi d_X2_copy_117 hl_h hBV_28 rfl ⟨by omega, by omega⟩ (fun V_30 eV_30 hBV_30 => ?_)
  have fV_30 := chg_u eV_30 (inh hh) fV_28
  have cp15 := cpI_s cp14 eV_30 rfl
  refine T_al d_X2_copy_120 rfl ?_
  refine T_al d_X2_copy_121 rfl ?_
  refine F_gi d_X2_copy_122 rfl hBV_30 rfl (fun b_31 => ?_)
  rw [chg_k (c := 55) fV_30 rfl]
  refine F_pi d_X2_copy_125 hl_h hBV_30 rfl ⟨by omega, by omega⟩ (fun V_32 eV_32 hBV_32 => ?_)
  have fV_32 := chg_u eV_32 (inh hh) fV_30
  have cp16 := cpI_s cp15 eV_32 rfl
  refine T_al d_X2_copy_128 rfl ?_
  refine T_al d_X2_copy_129 rfl ?_
  refine F_gi d_X2_copy_130 rfl hBV_32 rfl (fun b_33 => ?_)
  rw [chg_k (c := 55) fV_32 rfl]
  refine F_pi d_X2_copy_133 hl_h hBV_32 rfl ⟨by omega, by omega⟩ (fun V_34 eV_34 hBV_34 => ?_)
  have fV_34 := chg_u eV_34 (inh hh) fV_32
  have cp17 := cpI_s cp16 eV_34 rfl
  refine T_al d_X2_copy_136 rfl ?_
  refine T_al d_X2_copy_137 rfl ?_
  refine F_gi d_X2_copy_138 rfl hBV_34 rfl (fun b_35 => ?_)
  rw [chg_k (c := 55) fV_34 rfl]
  refine F_pi d_X2_copy_141 hl_h hBV_34 rfl ⟨by omega, by omega⟩ (fun V_36 eV_36 hBV_36 => ?_)
  have fV_36 := chg_u eV_36 (inh hh) fV_34
  have cp18 := cpI_s cp17 eV_36 rfl
  refine T_al d_X2_copy_144 rfl ?_
  refine T_al d_X2_copy_145 rfl ?_
  refine F_gj d_X2_copy_146 rfl hBV_36 rfl (fun b_37 => ?_)
  rw [chg_k (c := 55) fV_36 rfl]
  refine F_pj d_X2_copy_149 hl_h hBV_36 rfl ⟨by omega, by omega⟩ (fun V_38 eV_38 hBV_38 => ?_)
  have fV_38 := chg_u eV_38 (inh hh) fV_36
  have cp19 := cpI_s cp18 eV_38 rfl
  refine T_al d_X2_copy_152 rfl ?_
  refine T_k d_X2_copy_153 ?_
  refine F_pz d_X2_copy_154 hl_h hBV_38 rfl ⟨by omega, by omega⟩ (fun V_39 eV_39 hBV_39 => ?_)
  have fV_39 := chg_u eV_39 (inh hh) fV_38
  -- leaf @157
  refine T_vret d_X2_copy_157 rfl ?_
  exact ⟨rfl, hBV_39, fV_39, rfl, fun j hj => by rw [eV_39, uV_ne (by omega)]; exact cp19.1 j hj, by rw [eV_39]; exact uV_self, fun c hc => by rw [eV_39, uV_cell hc]; exact cp19.2 c hc⟩
