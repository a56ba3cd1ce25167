set_option maxHeartbeats 1000000 in
set_option maxRecDepth 100000 in
theorem R_X1_noteN {G : GG} {V : VV} {R : RR}  {S : Sp} {Ks : Nat → Kd} {e : Nat → Int} {t : Bool} (hB : Bd V) (hF : FinR R) (he : hoC S Ks e V 55) (reo : rOK S e) (hft : V 52 14 = bi t) : Runs G M_X1_note 2 162 162 [vr 52, vn] V R (PQ [] [(52, 14, 15)] V R (fun o X => o = none ∧ X 52 14 = 1 ∧ X 52 15 = (if t = false ∨ V 52 15 < e 9 then e 9 else V 52 15))) := by
  refine Runs.of pn_X1 (Nat.le_of_ble_eq_true rfl) rfl ?_
  show TT G M_X1_note (rmd 2 162 162) 162 (Zm G 162 162 (PQ [] [(52, 14, 15)] V R (fun o X => o = none ∧ X 52 14 = 1 ∧ X 52 15 = (if t = false ∨ V 52 15 < e 9 then e 9 else V 52 15)))) 162 0 [(0, vr 52), (1, vn)] [] V R
  have fV : chg [] [(52, 14, 15)] V V := chg_r
  have e17 := ho_17 he
  have ht1 := bi_01 t
  refine T_al d_X1_note_0 rfl ?_
  refine T_al d_X1_note_1 rfl ?_
  refine F_gi d_X1_note_2 rfl hB rfl (fun b_1 => ?_)
  refine T_zeq d_X1_note_5 ⟨by omega, by omega⟩ (fun h5 => ?_) (fun h5 => ?_)
  · skip
    refine T_al d_X1_note_25 rfl ?_
    refine F_gr (b := 55) d_X1_note_26 rfl hF rfl ?_
    refine F_gi d_X1_note_29 rfl hB rfl (fun b_2 => ?_)
    refine F_pi d_X1_note_32 rfl hB rfl ⟨by omega, by omega⟩ (fun V_3 eV_3 hBV_3 => ?_)
    have fV_3 := chg_u eV_3 rfl fV
    refine T_al d_X1_note_35 rfl ?_
    refine T_k d_X1_note_36 ?_
    refine F_pz d_X1_note_37 rfl hBV_3 rfl ⟨by omega, by omega⟩ (fun V_4 eV_4 hBV_4 => ?_)
    have fV_4 := chg_u eV_4 rfl fV_3
    refine T_al d_X1_note_40 rfl ?_
    refine T_nul d_X1_note_41 (fun _ => ?_) (fun a41 h41 => by cases h41)
    -- leaf 5t@52
    refine T_vret d_X1_note_52 rfl ?_
    refine ⟨rfl, hBV_4, fV_4, rfl, by rw [eV_4]; rfl, ?_⟩
    rw [eV_4, eV_3]
    show V 55 17 = _
    cases t with
    | true => rw [h5] at hft; cases hft
    | false => rw [if_pos (Or.inl rfl)]; exact e17
  · skip
    refine T_al d_X1_note_8 rfl ?_
    refine F_gi d_X1_note_9 rfl hB rfl (fun b_5 => ?_)
    refine T_al d_X1_note_12 rfl ?_
    refine F_gr (b := 55) d_X1_note_13 rfl hF rfl ?_
    refine F_gi d_X1_note_16 rfl hB rfl (fun b_6 => ?_)
    refine T_mmax d_X1_note_19 ⟨by omega, by omega⟩ ⟨by omega, by omega⟩ (Nat.le_of_ble_eq_true rfl) (hmF _) ?_
    refine T_go d_X1_note_22 ?_
    refine F_pi d_X1_note_32 rfl hB rfl ⟨by omega, by omega⟩ (fun V_7 eV_7 hBV_7 => ?_)
    have fV_7 := chg_u eV_7 rfl fV
    refine T_al d_X1_note_35 rfl ?_
    refine T_k d_X1_note_36 ?_
    refine F_pz d_X1_note_37 rfl hBV_7 rfl ⟨by omega, by omega⟩ (fun V_8 eV_8 hBV_8 => ?_)
    have fV_8 := chg_u eV_8 rfl fV_7
    refine T_al d_X1_note_40 rfl ?_
    refine T_nul d_X1_note_41 (fun _ => ?_) (fun a41 h41 => by cases h41)
    -- leaf 5f@52
    refine T_vret d_X1_note_52 rfl ?_
    refine ⟨rfl, hBV_8, fV_8, rfl, by rw [eV_8]; rfl, ?_⟩
    cases t with
    | false => exact absurd hft h5
    | true =>
      rw [eV_8, eV_7]
      refine (uV_ne (by decide)).trans (uV_self.trans ?_)
      rw [e17]
      by_cases q : V 52 15 < e 9
      · rw [if_pos q, if_pos (Or.inr q)]
      · rw [if_neg q, if_neg (fun z => q (z.resolve_left (by decide)))]
set_option maxHeartbeats 1000000 in
set_option maxRecDepth 100000 in
theorem R_X1_noteL {G : GG} {V : VV} {R : RR}  {S : Sp} {Ks : Nat → Kd} {N : Nat} {l : Nat → Nat → Int} {ρ : Nat → Nat} {e : Nat → Int} {t : Bool} (hB : Bd V) (hF : FinR R) (so : sO S) (hN : N ≤ 24) (hNz : V 56 1 = (N : Int)) (hrw : rwI R ρ) (hrl : rwL S Ks N l ρ V) (he : hoC S Ks e V 55) (reo : rOK S e) (hun : uniq N l) (hft : V 52 14 = bi t) : Runs G M_X1_note 4 162 162 [vr 52, vr 56] V R (PQR [(60, 84)] [(52, 14, 15), (56, 1, 1)] V R (fun o X R2 => o = none ∧ X 52 14 = 1 ∧ X 52 15 = (if t = false ∨ V 52 15 < e 9 then e 9 else V 52 15) ∧ ∃ σ, X 56 1 = ((kpN N l e : Nat) : Int) ∧ rwI R2 σ ∧ rwL S Ks (kpN N l e) (kpL N l e) σ X)) := by
  refine Runs.of pn_X1 (Nat.le_of_ble_eq_true rfl) rfl ?_
  show TT G M_X1_note (rmd 4 162 162) 162 (Zm G 162 162 (PQR [(60, 84)] [(52, 14, 15), (56, 1, 1)] V R (fun o X R2 => o = none ∧ X 52 14 = 1 ∧ X 52 15 = (if t = false ∨ V 52 15 < e 9 then e 9 else V 52 15) ∧ ∃ σ, X 56 1 = ((kpN N l e : Nat) : Int) ∧ rwI R2 σ ∧ rwL S Ks (kpN N l e) (kpL N l e) σ X))) 162 0 [(0, vr 52), (1, vr 56)] [] V R
  have fV : chg [(60, 84)] [(52, 14, 15), (56, 1, 1)] V V := chg_r
  have e17 := ho_17 he
  have ht1 := bi_01 t
  refine T_al d_X1_note_0 rfl ?_
  refine T_al d_X1_note_1 rfl ?_
  refine F_gi d_X1_note_2 rfl hB rfl (fun b_1 => ?_)
  refine T_zeq d_X1_note_5 ⟨by omega, by omega⟩ (fun h5 => ?_) (fun h5 => ?_)
  · skip
    refine T_al d_X1_note_25 rfl ?_
    refine F_gr (b := 55) d_X1_note_26 rfl hF rfl ?_
    refine F_gi d_X1_note_29 rfl hB rfl (fun b_2 => ?_)
    refine F_pi d_X1_note_32 rfl hB rfl ⟨by omega, by omega⟩ (fun V_3 eV_3 hBV_3 => ?_)
    have fV_3 := chg_u eV_3 rfl fV
    refine T_al d_X1_note_35 rfl ?_
    refine T_k d_X1_note_36 ?_
    refine F_pz d_X1_note_37 rfl hBV_3 rfl ⟨by omega, by omega⟩ (fun V_4 eV_4 hBV_4 => ?_)
    have fV_4 := chg_u eV_4 rfl fV_3
    have g14 : V_4 52 14 = 1 := by rw [eV_4]; rfl
    have g15 : V_4 52 15 = (if t = false ∨ V 52 15 < e 9 then e 9 else V 52 15) := by
      rw [eV_4, eV_3]
      show V 55 17 = _
      cases t with
      | true => rw [h5] at hft; cases hft
      | false => rw [if_pos (Or.inl rfl)]; exact e17
    have w56 : V_4 56 = V 56 := by rw [eV_4, eV_3]; rfl
    have w55 : V_4 55 = V 55 := by rw [eV_4, eV_3]; rfl
    have wh : ∀ i, i < N → V_4 (ρ i) = V (ρ i) := fun i hi => by have b := (hrw.1 i (by omega)).2; rw [eV_4, eV_3, uV_cell (by omega), uV_cell (by omega)]
    refine T_al d_X1_note_40 rfl ?_
    refine T_nul d_X1_note_41 (fun h41 => by cases h41) (fun a41 h41 => ?_)
    refine T_al d_X1_note_44 rfl ?_
    refine T_al d_X1_note_45 rfl ?_
    refine F_gr (b := 55) d_X1_note_46 rfl hF rfl ?_
    refine C_v1 d_X1_note_49 rfl (hdF (by decide)) (hcF _) (R_X3_offer (S := S) (Ks := Ks) (N := N) (l := l) (ρ := ρ) (e := e) hBV_4 hF so hN (by rw [w56]; exact hNz) hrw (fun i hi => ⟨hoC_x (hrl i hi).1 (fun j _ => by rw [wh i hi]), (hrl i hi).2⟩) (hoC_x he (fun j _ => by rw [w55])) reo hun) (fun r_5 V_6 R_7 qV_6 => ?_)
    obtain ⟨hFV_6, oV_6, hBV_6, cV_6, rfl, pV_6⟩ := qV_6
    have hF := hFV_6
    have fV_6 := chg_t (A := [(60, 84)]) (F := [(52, 14, 15), (56, 1, 1)]) fV_4 cV_6 rfl
    -- leaf 5t@52
    refine T_vret d_X1_note_52 rfl ?_
    obtain ⟨σ, s1, s2, s3⟩ := pV_6
    exact ⟨hF, oV_6, hBV_6, fV_6, rfl, by rw [chg_j (c := 52) (j := 14) cV_6 rfl]; exact g14, by rw [chg_j (c := 52) (j := 15) cV_6 rfl]; exact g15, σ, s1, s2, s3⟩
  · skip
    refine T_al d_X1_note_8 rfl ?_
    refine F_gi d_X1_note_9 rfl hB rfl (fun b_8 => ?_)
    refine T_al d_X1_note_12 rfl ?_
    refine F_gr (b := 55) d_X1_note_13 rfl hF rfl ?_
    refine F_gi d_X1_note_16 rfl hB rfl (fun b_9 => ?_)
    refine T_mmax d_X1_note_19 ⟨by omega, by omega⟩ ⟨by omega, by omega⟩ (Nat.le_of_ble_eq_true rfl) (hmF _) ?_
    refine T_go d_X1_note_22 ?_
    refine F_pi d_X1_note_32 rfl hB rfl ⟨by omega, by omega⟩ (fun V_10 eV_10 hBV_10 => ?_)
    have fV_10 := chg_u eV_10 rfl fV
    refine T_al d_X1_note_35 rfl ?_
    refine T_k d_X1_note_36 ?_
    refine F_pz d_X1_note_37 rfl hBV_10 rfl ⟨by omega, by omega⟩ (fun V_11 eV_11 hBV_11 => ?_)
    have fV_11 := chg_u eV_11 rfl fV_10
    have g14 : V_11 52 14 = 1 := by rw [eV_11]; rfl
    have g15 : V_11 52 15 = (if t = false ∨ V 52 15 < e 9 then e 9 else V 52 15) := by
      cases t with
      | false => exact absurd hft h5
      | true =>
        rw [eV_11, eV_10]
        refine (uV_ne (by decide)).trans (uV_self.trans ?_)
        rw [e17]
        by_cases q : V 52 15 < e 9
        · rw [if_pos q, if_pos (Or.inr q)]
        · rw [if_neg q, if_neg (fun z => q (z.resolve_left (by decide)))]
    have w56 : V_11 56 = V 56 := by rw [eV_11, eV_10]; rfl
    have w55 : V_11 55 = V 55 := by rw [eV_11, eV_10]; rfl
    have wh : ∀ i, i < N → V_11 (ρ i) = V (ρ i) := fun i hi => by have b := (hrw.1 i (by omega)).2; rw [eV_11, eV_10, uV_cell (by omega), uV_cell (by omega)]
    refine T_al d_X1_note_40 rfl ?_
    refine T_nul d_X1_note_41 (fun h41 => by cases h41) (fun a41 h41 => ?_)
    refine T_al d_X1_note_44 rfl ?_
    refine T_al d_X1_note_45 rfl ?_
    refine F_gr (b := 55) d_X1_note_46 rfl hF rfl ?_
    refine C_v1 d_X1_note_49 rfl (hdF (by decide)) (hcF _) (R_X3_offer (S := S) (Ks := Ks) (N := N) (l := l) (ρ := ρ) (e := e) hBV_11 hF so hN (by rw [w56]; exact hNz) hrw (fun i hi => ⟨hoC_x (hrl i hi).1 (fun j _ => by rw [wh i hi]), (hrl i hi).2⟩) (hoC_x he (fun j _ => by rw [w55])) reo hun) (fun r_12 V_13 R_14 qV_13 => ?_)
    obtain ⟨hFV_13, oV_13, hBV_13, cV_13, rfl, pV_13⟩ := qV_13
    have hF := hFV_13
    have fV_13 := chg_t (A := [(60, 84)]) (F := [(52, 14, 15), (56, 1, 1)]) fV_11 cV_13 rfl
    -- leaf 5f@52
    refine T_vret d_X1_note_52 rfl ?_
    obtain ⟨σ, s1, s2, s3⟩ := pV_13
    exact ⟨hF, oV_13, hBV_13, fV_13, rfl, by rw [chg_j (c := 52) (j := 14) cV_13 rfl]; exact g14, by rw [chg_j (c := 52) (j := 15) cV_13 rfl]; exact g15, σ, s1, s2, s3⟩
