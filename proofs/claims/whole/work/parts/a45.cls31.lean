set_option maxHeartbeats 1000000 in
set_option maxRecDepth 100000 in
theorem R_X2_lowest {G : GG} {V : VV} {R : RR} {a : Int} {b : Int} {h : Nat}  (hB : Bd V) (hF : FinR R) (hh : 60 ≤ h ∧ h ≤ 84) (ha : -1800 ≤ a ∧ a ≤ 1800) (hb : -1800 ≤ b ∧ b ≤ 1800) : RunsP G M_X2_lowest 1 [vr h, vi a, vi b] V R (vi (lowC V h a b)) := by
  unfold RunsP
  refine Runs.of pn_X2 (Nat.le_of_ble_eq_true rfl) rfl ?_
  show TT G M_X2_lowest (rmd 1 162 162) 162 (Zm G 162 162 (QP V R (vi (lowC V h a b)))) 162 0 [(0, vr h), (1, vi a), (2, vi b)] [] V R
  have hl_h := lay_h hh
  have hlb := low_b hB hl_h ha hb
  refine T_al d_X2_lowest_0 rfl ?_
  refine F_gi d_X2_lowest_1 hl_h hB rfl (fun b_1 => ?_)
  refine T_k d_X2_lowest_4 ?_
  refine T_isub d_X2_lowest_5 ?_
  refine T_al d_X2_lowest_6 rfl ?_
  refine F_gi d_X2_lowest_7 hl_h hB rfl (fun b_2 => ?_)
  refine T_il d_X2_lowest_10 rfl ?_
  refine T_imul d_X2_lowest_11 ?_
  refine T_al d_X2_lowest_12 rfl ?_
  refine F_gi d_X2_lowest_13 hl_h hB rfl (fun b_3 => ?_)
  refine T_il d_X2_lowest_16 rfl ?_
  refine T_imul d_X2_lowest_17 ?_
  refine T_iadd d_X2_lowest_18 ?_
  refine T_imul d_X2_lowest_19 ?_
  refine F_isg d_X2_lowest_20 (f := fun x_4 => [(0, vr h), (1, vi a), (2, vi b), (3, vi x_4)]) (fun _ => rfl) (fun x_4 ex_4 => ?_)
  have e3 := ex_4
  refine T_al d_X2_lowest_21 rfl ?_
  refine F_gi d_X2_lowest_22 hl_h hB rfl (fun b_5 => ?_)
  refine T_k d_X2_lowest_25 ?_
  refine T_isub d_X2_lowest_26 ?_
  refine T_al d_X2_lowest_27 rfl ?_
  refine F_gi d_X2_lowest_28 hl_h hB rfl (fun b_6 => ?_)
  refine T_il d_X2_lowest_31 rfl ?_
  refine T_imul d_X2_lowest_32 ?_
  refine T_al d_X2_lowest_33 rfl ?_
  refine F_gi d_X2_lowest_34 hl_h hB rfl (fun b_7 => ?_)
  refine T_il d_X2_lowest_37 rfl ?_
  refine T_imul d_X2_lowest_38 ?_
  refine T_iadd d_X2_lowest_39 ?_
  refine T_imul d_X2_lowest_40 ?_
  refine F_isg d_X2_lowest_41 (f := fun x_8 => [(0, vr h), (1, vi a), (2, vi b), (3, vi x_4), (4, vi x_8)]) (fun _ => rfl) (fun x_8 ex_8 => ?_)
  have e4 := ex_8
  refine T_al d_X2_lowest_43 rfl ?_
  refine F_gi d_X2_lowest_44 hl_h hB rfl (fun b_9 => ?_)
  refine T_il d_X2_lowest_47 rfl ?_
  refine T_imul d_X2_lowest_48 ?_
  refine T_al d_X2_lowest_49 rfl ?_
  refine F_gi d_X2_lowest_50 hl_h hB rfl (fun b_10 => ?_)
  refine T_il d_X2_lowest_53 rfl ?_
  refine T_imul d_X2_lowest_54 ?_
  refine T_iadd d_X2_lowest_55 ?_
  refine T_k d_X2_lowest_56 ?_
  refine T_il d_X2_lowest_57 rfl ?_
  refine T_mmin d_X2_lowest_58 ⟨by omega, by omega⟩ ⟨by omega, by omega⟩ (Nat.le_of_ble_eq_true rfl) (hmF _) ?_
  refine T_iadd d_X2_lowest_61 ?_
  refine T_k d_X2_lowest_62 ?_
  refine T_il d_X2_lowest_63 rfl ?_
  refine T_mmin d_X2_lowest_65 ⟨by omega, by omega⟩ ⟨by omega, by omega⟩ (Nat.le_of_ble_eq_true rfl) (hmF _) ?_
  refine T_iadd d_X2_lowest_68 ?_
  -- leaf @69
  exact P_I d_X2_lowest_69 (by rw [e3, e4]; rfl)
set_option maxHeartbeats 1000000 in
set_option maxRecDepth 100000 in
theorem R_X2_highest {G : GG} {V : VV} {R : RR} {a : Int} {b : Int} {h : Nat}  (hB : Bd V) (hF : FinR R) (hh : 60 ≤ h ∧ h ≤ 84) (ha : -1800 ≤ a ∧ a ≤ 1800) (hb : -1800 ≤ b ∧ b ≤ 1800) : RunsP G M_X2_highest 2 [vr h, vi a, vi b] V R (vi (-(lowC V h (-a) (-b)))) := by
  unfold RunsP
  refine Runs.of pn_X2 (Nat.le_of_ble_eq_true rfl) rfl ?_
  show TT G M_X2_highest (rmd 2 162 162) 162 (Zm G 162 162 (QP V R (vi (-(lowC V h (-a) (-b)))))) 162 0 [(0, vr h), (1, vi a), (2, vi b)] [] V R
  have hl_h := lay_h hh
  refine T_al d_X2_highest_0 rfl ?_
  refine T_il d_X2_highest_1 rfl ?_
  refine T_ineg d_X2_highest_2 ?_
  refine T_il d_X2_highest_3 rfl ?_
  refine T_ineg d_X2_highest_4 ?_
  refine C_pv2 d_X2_highest_5 hl_h (hdF (by decide)) (hcF _) (R_X2_lowest hB hF hh ⟨by omega, by omega⟩ ⟨by omega, by omega⟩) ?_
  refine T_ineg d_X2_highest_8 ?_
  -- leaf @9
  exact P_I d_X2_highest_9 (by rfl)
set_option maxHeartbeats 1000000 in
set_option maxRecDepth 100000 in
theorem R_X2_isParted {G : GG} {V : VV} {R : RR} {o : Nat} {a : Int} {b : Int} {h : Nat}  (hB : Bd V) (hF : FinR R) (hh : 60 ≤ h ∧ h ≤ 84) (ho : 60 ≤ o ∧ o ≤ 84) (ha : -1800 ≤ a ∧ a ≤ 1800) (hb : -1800 ≤ b ∧ b ≤ 1800) : RunsP G M_X2_isParted 3 [vr h, vr o, vi a, vi b] V R (vi (bi (decide (-(lowC V h (-a) (-b)) < lowC V o a b ∨ -(lowC V o (-a) (-b)) < lowC V h a b)))) := by
  unfold RunsP
  refine Runs.of pn_X2 (Nat.le_of_ble_eq_true rfl) rfl ?_
  show TT G M_X2_isParted (rmd 3 162 162) 162 (Zm G 162 162 (QP V R (vi (bi (decide (-(lowC V h (-a) (-b)) < lowC V o a b ∨ -(lowC V o (-a) (-b)) < lowC V h a b)))))) 162 0 [(0, vr h), (1, vr o), (2, vi a), (3, vi b)] [] V R
  have hl_h := lay_h hh
  have hl_o := lay_h ho
  have b1 := (low_b hB hl_h ha hb).2
  have b2 := (low_b (ux := -a) (uy := -b) hB hl_h ⟨by omega, by omega⟩ ⟨by omega, by omega⟩).2
  have b3 := (low_b hB hl_o ha hb).2
  have b4 := (low_b (ux := -a) (uy := -b) hB hl_o ⟨by omega, by omega⟩ ⟨by omega, by omega⟩).2
  refine T_al d_X2_isParted_0 rfl ?_
  refine T_il d_X2_isParted_1 rfl ?_
  refine T_il d_X2_isParted_2 rfl ?_
  refine C_pv2 d_X2_isParted_3 hl_h (hdF (by decide)) (hcF _) (R_X2_highest hB hF hh ha hb) ?_
  refine T_al d_X2_isParted_6 rfl ?_
  refine T_il d_X2_isParted_7 rfl ?_
  refine T_il d_X2_isParted_8 rfl ?_
  refine C_pv2 d_X2_isParted_9 hl_o (hdF (by decide)) (hcF _) (R_X2_lowest hB hF ho ha hb) ?_
  refine T_ilt d_X2_isParted_12 ⟨by omega, by omega⟩ ⟨by omega, by omega⟩ (fun h12 => ?_) (fun h12 => ?_)
  · skip
    refine T_k d_X2_isParted_30 ?_
    refine T_go d_X2_isParted_31 ?_
    -- leaf 12t@35
    exact P_T d_X2_isParted_35 (by exact Or.inl h12)
  · skip
    refine T_al d_X2_isParted_15 rfl ?_
    refine T_il d_X2_isParted_16 rfl ?_
    refine T_il d_X2_isParted_17 rfl ?_
    refine C_pv2 d_X2_isParted_18 hl_o (hdF (by decide)) (hcF _) (R_X2_highest hB hF ho ha hb) ?_
    refine T_al d_X2_isParted_21 rfl ?_
    refine T_il d_X2_isParted_22 rfl ?_
    refine T_il d_X2_isParted_23 rfl ?_
    refine C_pv2 d_X2_isParted_24 hl_h (hdF (by decide)) (hcF _) (R_X2_lowest hB hF hh ha hb) ?_
    refine T_ige d_X2_isParted_27 ⟨by omega, by omega⟩ ⟨by omega, by omega⟩ (fun h27 => ?_) (fun h27 => ?_)
    · skip
      refine T_k d_X2_isParted_34 ?_
      -- leaf 12f.27t@35
      exact P_F d_X2_isParted_35 (by intro z; omega)
    · skip
      refine T_k d_X2_isParted_30 ?_
      refine T_go d_X2_isParted_31 ?_
      -- leaf 12f.27f@35
      exact P_T d_X2_isParted_35 (by exact Or.inr (by omega))
set_option maxHeartbeats 1000000 in
set_option maxRecDepth 100000 in
theorem R_X2_meets {G : GG} {V : VV} {R : RR} {o : Nat} {h : Nat}  (hB : Bd V) (hF : FinR R) (hh : 60 ≤ h ∧ h ≤ 84) (ho : 60 ≤ o ∧ o ≤ 84) : RunsP G M_X2_meets 4 [vr h, vr o] V R (vi (bi (decide (metC V h o)))) := by
  unfold RunsP
  refine Runs.of pn_X2 (Nat.le_of_ble_eq_true rfl) rfl ?_
  show TT G M_X2_meets (rmd 4 162 162) 162 (Zm G 162 162 (QP V R (vi (bi (decide (metC V h o)))))) 162 0 [(0, vr h), (1, vr o)] [] V R
  have hl_h := lay_h hh
  have hl_o := lay_h ho
  have ch6 := hB.2 h 2 6 (-1800) 1800 hl_h rfl
  have ch7 := hB.2 h 2 7 (-1800) 1800 hl_h rfl
  have ch8 := hB.2 h 2 8 (-1800) 1800 hl_h rfl
  have ch9 := hB.2 h 2 9 (-1800) 1800 hl_h rfl
  have co6 := hB.2 o 2 6 (-1800) 1800 hl_o rfl
  have co7 := hB.2 o 2 7 (-1800) 1800 hl_o rfl
  have co8 := hB.2 o 2 8 (-1800) 1800 hl_o rfl
  have co9 := hB.2 o 2 9 (-1800) 1800 hl_o rfl
  refine T_al d_X2_meets_0 rfl ?_
  refine T_al d_X2_meets_1 rfl ?_
  refine T_al d_X2_meets_2 rfl ?_
  refine F_gi d_X2_meets_3 hl_h hB rfl (fun b_1 => ?_)
  refine T_al d_X2_meets_6 rfl ?_
  refine F_gi d_X2_meets_7 hl_h hB rfl (fun b_2 => ?_)
  refine C_pv3 d_X2_meets_10 hl_h (hdF (by decide)) (hcF _) (R_X2_isParted hB hF hh ho ⟨by omega, by omega⟩ ⟨by omega, by omega⟩) ?_
  refine T_pz1 d_X2_meets_13 (fun h13 => ?_) (fun h13 => ?_)
  · skip
    refine T_k d_X2_meets_136 ?_
    -- leaf 13t@137
    exact P_F d_X2_meets_137 (by intro z; exact z.1.1 h13)
  · skip
    refine T_al d_X2_meets_16 rfl ?_
    refine T_al d_X2_meets_17 rfl ?_
    refine T_al d_X2_meets_18 rfl ?_
    refine F_gi d_X2_meets_19 hl_h hB rfl (fun b_3 => ?_)
    refine T_ineg d_X2_meets_22 ?_
    refine T_al d_X2_meets_23 rfl ?_
    refine F_gi d_X2_meets_24 hl_h hB rfl (fun b_4 => ?_)
    refine C_pv3 d_X2_meets_27 hl_h (hdF (by decide)) (hcF _) (R_X2_isParted hB hF hh ho ⟨by omega, by omega⟩ ⟨by omega, by omega⟩) ?_
    refine T_pz1 d_X2_meets_30 (fun h30 => ?_) (fun h30 => ?_)
    · skip
      refine T_k d_X2_meets_136 ?_
      -- leaf 13f.30t@137
      exact P_F d_X2_meets_137 (by intro z; exact z.1.2.1 h30)
    · skip
      refine T_al d_X2_meets_33 rfl ?_
      refine T_al d_X2_meets_34 rfl ?_
      refine T_al d_X2_meets_35 rfl ?_
      refine F_gi d_X2_meets_36 hl_h hB rfl (fun b_5 => ?_)
      refine T_al d_X2_meets_39 rfl ?_
      refine F_gi d_X2_meets_40 hl_h hB rfl (fun b_6 => ?_)
      refine C_pv3 d_X2_meets_43 hl_h (hdF (by decide)) (hcF _) (R_X2_isParted hB hF hh ho ⟨by omega, by omega⟩ ⟨by omega, by omega⟩) ?_
      refine T_pz1 d_X2_meets_46 (fun h46 => ?_) (fun h46 => ?_)
      · skip
        refine T_k d_X2_meets_136 ?_
        -- leaf 13f.30f.46t@137
        exact P_F d_X2_meets_137 (by intro z; exact z.1.2.2.1 h46)
      · skip
        refine T_al d_X2_meets_49 rfl ?_
        refine T_al d_X2_meets_50 rfl ?_
        refine T_al d_X2_meets_51 rfl ?_
        refine F_gi d_X2_meets_52 hl_h hB rfl (fun b_7 => ?_)
        refine T_ineg d_X2_meets_55 ?_
        refine T_al d_X2_meets_56 rfl ?_
        refine F_gi d_X2_meets_57 hl_h hB rfl (fun b_8 => ?_)
        refine C_pv3 d_X2_meets_60 hl_h (hdF (by decide)) (hcF _) (R_X2_isParted hB hF hh ho ⟨by omega, by omega⟩ ⟨by omega, by omega⟩) ?_
        refine T_pz1 d_X2_meets_63 (fun h63 => ?_) (fun h63 => ?_)
        · skip
          refine T_k d_X2_meets_136 ?_
          -- leaf 13f.30f.46f.63t@137
          exact P_F d_X2_meets_137 (by intro z; exact z.1.2.2.2 h63)
        · skip
          refine T_al d_X2_meets_66 rfl ?_
          refine T_al d_X2_meets_67 rfl ?_
          refine T_al d_X2_meets_68 rfl ?_
          refine F_gi d_X2_meets_69 hl_o hB rfl (fun b_9 => ?_)
          refine T_al d_X2_meets_72 rfl ?_
          refine F_gi d_X2_meets_73 hl_o hB rfl (fun b_10 => ?_)
          refine C_pv3 d_X2_meets_76 hl_o (hdF (by decide)) (hcF _) (R_X2_isParted hB hF ho hh ⟨by omega, by omega⟩ ⟨by omega, by omega⟩) ?_
          refine T_pz1 d_X2_meets_79 (fun h79 => ?_) (fun h79 => ?_)
          · skip
            refine T_k d_X2_meets_136 ?_
            -- leaf 13f.30f.46f.63f.79t@137
            exact P_F d_X2_meets_137 (by intro z; exact z.2.1 h79)
          · skip
            refine T_al d_X2_meets_82 rfl ?_
            refine T_al d_X2_meets_83 rfl ?_
            refine T_al d_X2_meets_84 rfl ?_
            refine F_gi d_X2_meets_85 hl_o hB rfl (fun b_11 => ?_)
            refine T_ineg d_X2_meets_88 ?_
            refine T_al d_X2_meets_89 rfl ?_
            refine F_gi d_X2_meets_90 hl_o hB rfl (fun b_12 => ?_)
            refine C_pv3 d_X2_meets_93 hl_o (hdF (by decide)) (hcF _) (R_X2_isParted hB hF ho hh ⟨by omega, by omega⟩ ⟨by omega, by omega⟩) ?_
            refine T_pz1 d_X2_meets_96 (fun h96 => ?_) (fun h96 => ?_)
            · skip
              refine T_k d_X2_meets_136 ?_
              -- leaf 13f.30f.46f.63f.79f.96t@137
              exact P_F d_X2_meets_137 (by intro z; exact z.2.2.1 h96)
            · skip
              refine T_al d_X2_meets_99 rfl ?_
              refine T_al d_X2_meets_100 rfl ?_
              refine T_al d_X2_meets_101 rfl ?_
              refine F_gi d_X2_meets_102 hl_o hB rfl (fun b_13 => ?_)
              refine T_al d_X2_meets_105 rfl ?_
              refine F_gi d_X2_meets_106 hl_o hB rfl (fun b_14 => ?_)
              refine C_pv3 d_X2_meets_109 hl_o (hdF (by decide)) (hcF _) (R_X2_isParted hB hF ho hh ⟨by omega, by omega⟩ ⟨by omega, by omega⟩) ?_
              refine T_pz1 d_X2_meets_112 (fun h112 => ?_) (fun h112 => ?_)
              · skip
                refine T_k d_X2_meets_136 ?_
                -- leaf 13f.30f.46f.63f.79f.96f.112t@137
                exact P_F d_X2_meets_137 (by intro z; exact z.2.2.2.1 h112)
              · skip
                refine T_al d_X2_meets_115 rfl ?_
                refine T_al d_X2_meets_116 rfl ?_
                refine T_al d_X2_meets_117 rfl ?_
                refine F_gi d_X2_meets_118 hl_o hB rfl (fun b_15 => ?_)
                refine T_ineg d_X2_meets_121 ?_
                refine T_al d_X2_meets_122 rfl ?_
                refine F_gi d_X2_meets_123 hl_o hB rfl (fun b_16 => ?_)
                refine C_pv3 d_X2_meets_126 hl_o (hdF (by decide)) (hcF _) (R_X2_isParted hB hF ho hh ⟨by omega, by omega⟩ ⟨by omega, by omega⟩) ?_
                refine T_pz1 d_X2_meets_129 (fun h129 => ?_) (fun h129 => ?_)
                · skip
                  refine T_k d_X2_meets_136 ?_
                  -- leaf 13f.30f.46f.63f.79f.96f.112f.129t@137
                  exact P_F d_X2_meets_137 (by intro z; exact z.2.2.2.2 h129)
                · skip
                  refine T_k d_X2_meets_132 ?_
                  refine T_go d_X2_meets_133 ?_
                  -- leaf 13f.30f.46f.63f.79f.96f.112f.129f@137
                  exact P_T d_X2_meets_137 (by exact ⟨⟨h13, h30, h46, h63⟩, h79, h96, h112, h129⟩)
