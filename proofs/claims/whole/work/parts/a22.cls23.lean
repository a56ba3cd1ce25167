set_option maxHeartbeats 1000000 in
set_option maxRecDepth 100000 in
theorem R_X1_setKind {G : GG} {V : VV} {R : RR} {ka : Nat} {k : Int}  (hB : Bd V) (hF : FinR R) (hk : 0 ≤ k ∧ k ≤ 400) : Runs G M_X1_setKind 1 162 162 [vr 52, vr ka, vi k] V R (PQS [] [(52, 2, 2)] V R (fun o X R2 => o = none ∧ X 52 2 = k ∧ R2 = uR R 52 3 (some ka))) := by
  refine Runs.of pn_X1 (Nat.le_of_ble_eq_true rfl) rfl ?_
  show TT G M_X1_setKind (rmd 1 162 162) 162 (Zm G 162 162 (PQS [] [(52, 2, 2)] V R (fun o X R2 => o = none ∧ X 52 2 = k ∧ R2 = uR R 52 3 (some ka)))) 162 0 [(0, vr 52), (1, vr ka), (2, vi k)] [] V R
  have fV : chg [] [(52, 2, 2)] V V := chg_r
  refine T_al d_X1_setKind_0 rfl ?_
  refine T_al d_X1_setKind_1 rfl ?_
  refine F_pk d_X1_setKind_2 hF (fun R_1 eR_1 hF => ?_)
  refine T_al d_X1_setKind_5 rfl ?_
  refine T_il d_X1_setKind_6 rfl ?_
  refine F_pi d_X1_setKind_7 rfl hB rfl ⟨by omega, by omega⟩ (fun V_2 eV_2 hBV_2 => ?_)
  have fV_2 := chg_u eV_2 rfl fV
  -- leaf @10
  refine T_vret d_X1_setKind_10 rfl ?_
  exact ⟨hF, frX_k frX_r eR_1, hBV_2, fV_2, rfl, by rw [eV_2]; exact uV_self, eR_1⟩
set_option maxHeartbeats 1000000 in
set_option maxRecDepth 100000 in
theorem R_X3_clear {G : GG} {V : VV} {R : RR}   (hB : Bd V) (hF : FinR R) : Runs G M_X3_clear 1 162 162 [vr 56] V R (PQ [] [(56, 1, 1)] V R (fun o X => o = none ∧ X 56 1 = 0)) := by
  refine Runs.of pn_X3 (Nat.le_of_ble_eq_true rfl) rfl ?_
  show TT G M_X3_clear (rmd 1 162 162) 162 (Zm G 162 162 (PQ [] [(56, 1, 1)] V R (fun o X => o = none ∧ X 56 1 = 0))) 162 0 [(0, vr 56)] [] V R
  have fV : chg [] [(56, 1, 1)] V V := chg_r
  refine T_al d_X3_clear_0 rfl ?_
  refine T_k d_X3_clear_1 ?_
  refine F_pi d_X3_clear_2 rfl hB rfl ⟨by omega, by omega⟩ (fun V_1 eV_1 hBV_1 => ?_)
  have fV_1 := chg_u eV_1 rfl fV
  -- leaf @5
  refine T_vret d_X3_clear_5 rfl ?_
  exact ⟨rfl, hBV_1, fV_1, rfl, by rw [eV_1]; rfl⟩
set_option maxHeartbeats 1000000 in
set_option maxRecDepth 100000 in
theorem R_X9_findHouses {G : GG} {V : VV} {R : RR}  {b : Bk} {k : Int} {S : Sp} {Ks : Nat → Kd} {nk : Nat} (hB : Bd V) (hF : FinR R) (bCV : bC b V) (ho : bO b) (mCV : mapC S V) (so : sO S) (hk : 0 ≤ k ∧ k ≤ 400) (h7 : V 30 7 = k) (hnk : V 16 4 = (nk : Int)) (hn5 : nk ≤ 5) (hT : ∀ i, i < nk → kC (Ks i) (19 + i) V ∧ kO (Ks i)) (hρ : ∃ ρ, rwI R ρ) : Runs G M_X9_findHouses 9 162 162 [vr 30] V R (PQS [(60, 84), (53, 54), (31, 32)] [(52, 2, 2), (52, 5, 5), (52, 7, 7), (52, 9, 15), (55, 0, 18), (56, 1, 1)] V R (fun o X R2 => o = none ∧ lsC S Ks (allK b k S Ks nk).1 (allK b k S Ks nk).2 X R2 ∧ ∀ j, j < nk → X 31 j = gvK b k S Ks j ∧ X 32 j = -1)) := by
  refine Runs.of pn_X9 (Nat.le_of_ble_eq_true rfl) rfl ?_
  show TT G M_X9_findHouses (rmd 9 162 162) 162 (Zm G 162 162 (PQS [(60, 84), (53, 54), (31, 32)] [(52, 2, 2), (52, 5, 5), (52, 7, 7), (52, 9, 15), (55, 0, 18), (56, 1, 1)] V R (fun o X R2 => o = none ∧ lsC S Ks (allK b k S Ks nk).1 (allK b k S Ks nk).2 X R2 ∧ ∀ j, j < nk → X 31 j = gvK b k S Ks j ∧ X 32 j = -1))) 162 0 [(0, vr 30)] [] V R
  have fV : chg [(60, 84), (53, 54), (31, 32)] [(52, 2, 2), (52, 5, 5), (52, 7, 7), (52, 9, 15), (55, 0, 18), (56, 1, 1)] V V := chg_r
  refine T_al d_X9_findHouses_0 rfl ?_
  refine F_gr (b := 56) d_X9_findHouses_1 rfl hF rfl ?_
  refine C_v0 d_X9_findHouses_4 rfl (hdF (by decide)) (hcF _) (R_X3_clear hB hF) (fun r_1 V_2 R_3 qV_2 => ?_)
  obtain ⟨rfl, hBV_2, cV_2, rfl, pV_2⟩ := qV_2
  have fV_2 := chg_t (A := [(60, 84), (53, 54), (31, 32)]) (F := [(52, 2, 2), (52, 5, 5), (52, 7, 7), (52, 9, 15), (55, 0, 18), (56, 1, 1)]) fV cV_2 rfl
  have bCV_2 := bC_c bCV fV_2 rfl
  have mCV_2 := mapC_c mCV fV_2 rfl
  refine T_k d_X9_findHouses_7 ?_
  refine T_is d_X9_findHouses_8 (ls' := [(0, vr 30), (1, vi 0)]) rfl ?_
  -- to 9 @9
  have L9 : ∀ (fu : Nat) (X : VV) (Q : RR) (i : Nat), nk - i < fu → (Bd X) → (chg [(60, 84), (53, 54), (31, 32)] [(52, 2, 2), (52, 5, 5), (52, 7, 7), (52, 9, 15), (55, 0, 18), (56, 1, 1)] V X) → (FinR Q) → (frX R Q) → (i ≤ nk) → (lsC S Ks (allK b k S Ks i).1 (allK b k S Ks i).2 X Q) → (∀ j, j < i → X 31 j = gvK b k S Ks j ∧ X 32 j = -1) → TT G M_X9_findHouses (rmd 9 162 162) 162 (Zm G 162 162 (PQS [(60, 84), (53, 54), (31, 32)] [(52, 2, 2), (52, 5, 5), (52, 7, 7), (52, 9, 15), (55, 0, 18), (56, 1, 1)] V R (fun o X R2 => o = none ∧ lsC S Ks (allK b k S Ks nk).1 (allK b k S Ks nk).2 X R2 ∧ ∀ j, j < nk → X 31 j = gvK b k S Ks j ∧ X 32 j = -1))) 162 9 [(0, vr 30), (1, vi (i : Int))] [] X Q := by
    intro fu
    induction fu with
    | zero => intro X Q i hm; exact absurd hm (Nat.not_lt_zero _)
    | succ fu ih9 =>
      intro X Q i hm9 hBX fX hF hQo hi lc hg
      have bCX := bC_c bCV fX rfl
      have mCX := mapC_c mCV fX rfl
      have x4 : X 16 4 = (nk : Int) := (chg_j (c := 16) (j := 4) fX rfl).trans hnk
      have x7 : X 30 7 = k := (chg_k (c := 30) fX rfl) ▸ h7
      refine T_il d_X9_findHouses_9 rfl ?_
      refine T_al d_X9_findHouses_10 rfl ?_
      refine F_gr (b := 16) d_X9_findHouses_11 rfl hF rfl ?_
      refine F_gi d_X9_findHouses_14 rfl hBX rfl (fun b_4 => ?_)
      refine T_ige d_X9_findHouses_17 ⟨by omega, by omega⟩ ⟨by omega, by omega⟩ (fun h17 => ?_) (fun h17 => ?_)
      · skip
        -- leaf 17t@76
        refine T_vret d_X9_findHouses_76 rfl ?_
        have ei : i = nk := by omega
        rw [ei] at lc hg
        exact ⟨hF, hQo, hBX, fX, rfl, lc, hg⟩
      · skip
        refine T_il d_X9_findHouses_20 rfl ?_
        refine T_k d_X9_findHouses_21 ?_
        refine T_ige d_X9_findHouses_22 ⟨by omega, by omega⟩ ⟨by omega, by omega⟩ (fun h22 => ?_) (fun h22 => ?_)
        · omega
        · skip
          refine T_al d_X9_findHouses_25 rfl ?_
          refine F_gr (b := 52) d_X9_findHouses_26 rfl hF rfl ?_
          refine T_al d_X9_findHouses_29 rfl ?_
          refine F_gr (b := 16) d_X9_findHouses_30 rfl hF rfl ?_
          refine F_gr (b := 18) d_X9_findHouses_33 rfl hF rfl ?_
          refine T_il d_X9_findHouses_36 rfl ?_
          refine F_aa2 d_X9_findHouses_37 rfl ⟨by omega, by omega⟩ ?_
          rw [show Q 18 ((i : Nat) : Int).toNat = some (19 + i) from told_r hF (by omega)]
          refine T_al d_X9_findHouses_38 rfl ?_
          refine F_gi d_X9_findHouses_39 rfl hBX rfl (fun b_5 => ?_)
          rw [x7]
          refine C_v2 d_X9_findHouses_42 rfl (hdF (by decide)) (hcF _) (R_X1_setKind (ka := 19 + i) (k := k) hBX hF hk) (fun r_6 V_7 R_8 qV_7 => ?_)
          obtain ⟨hFV_7, oV_7, hBV_7, cV_7, rfl, pV_7⟩ := qV_7
          have hF := hFV_7
          have fV_7 := chg_t (A := [(60, 84), (53, 54), (31, 32)]) (F := [(52, 2, 2), (52, 5, 5), (52, 7, 7), (52, 9, 15), (55, 0, 18), (56, 1, 1)]) fX cV_7 rfl
          have bCV_7 := bC_c bCV fV_7 rfl
          have mCV_7 := mapC_c mCV fV_7 rfl
          have cK := cV_7
          have oK := oV_7
          have pK := pV_7
          have ti := hT i (by omega)
          have tl := told_l (show i < 5 by omega)
          refine T_al d_X9_findHouses_45 rfl ?_
          refine F_gr (b := 31) d_X9_findHouses_46 rfl hF rfl ?_
          refine T_il d_X9_findHouses_49 rfl ?_
          refine T_al d_X9_findHouses_50 rfl ?_
          refine F_gr (b := 52) d_X9_findHouses_51 rfl hF rfl ?_
          refine T_il d_X9_findHouses_54 rfl ?_
          refine T_al d_X9_findHouses_55 rfl ?_
          refine F_gr (b := 56) d_X9_findHouses_56 rfl hF rfl ?_
          refine C_v2 d_X9_findHouses_59 rfl (hdF (by decide)) (hcF _) (R_X1_seekL (b := b) (k := k) (S := S) (Ks := Ks) (ka := 19 + i) (kd := i) (N := (allK b k S Ks i).1) (l := (allK b k S Ks i).2) hBV_7 hF bCV_7 ho (by rw [pK.2]; exact if_pos ⟨rfl, rfl⟩) tl.1 tl.2 (by omega) (kC_c ti.1 (by omega) fV_7 rfl) ti.2 mCV_7 so pK.1 hk (by omega) (lsC_k (lsC_c lc cK rfl) pK.2)) (fun r_9 V_10 R_11 qV_10 => ?_)
          obtain ⟨hFV_10, oV_10, hBV_10, cV_10, rfl, pV_10⟩ := qV_10
          have hF := hFV_10
          have fV_10 := chg_t (A := [(60, 84), (53, 54), (31, 32)]) (F := [(52, 2, 2), (52, 5, 5), (52, 7, 7), (52, 9, 15), (55, 0, 18), (56, 1, 1)]) fV_7 cV_10 rfl
          have bCV_10 := bC_c bCV fV_10 rfl
          have mCV_10 := mapC_c mCV fV_10 rfl
          have pS := pV_10
          have cS := cV_10
          have oS := oV_10
          have gb := hBV_10.2 52 1 15 (-1000) 10000 rfl rfl
          rw [pS.1] at gb
          refine F_is d_X9_findHouses_62 rfl hBV_10 rfl ⟨by omega, by omega⟩ ⟨by omega, by omega⟩ (fun V_12 eV_12 hBV_12 => ?_)
          have fV_12 := chg_u eV_12 rfl fV_10
          have bCV_12 := bC_c bCV fV_12 rfl
          have mCV_12 := mapC_c mCV fV_12 rfl
          refine T_al d_X9_findHouses_63 rfl ?_
          refine F_gr (b := 32) d_X9_findHouses_64 rfl hF rfl ?_
          refine T_il d_X9_findHouses_67 rfl ?_
          refine T_k d_X9_findHouses_68 ?_
          refine F_is d_X9_findHouses_69 rfl hBV_12 rfl ⟨by omega, by omega⟩ ⟨by omega, by omega⟩ (fun V_13 eV_13 hBV_13 => ?_)
          have fV_13 := chg_u eV_13 rfl fV_12
          have bCV_13 := bC_c bCV fV_13 rfl
          have mCV_13 := mapC_c mCV fV_13 rfl
          refine F_incg d_X9_findHouses_70 rfl (f := fun x_14 => [(0, vr 30), (1, vi x_14)]) (fun _ => rfl) (fun x_14 ex_14 => ?_)
          refine T_go d_X9_findHouses_73 ?_
          -- to 9 17f.22f@9
          obtain rfl : x_14 = ((i + 1) : Int) := by omega
          exact ih9 V_13 R_11 (i + 1) (by omega) hBV_13 fV_13 hF (frX_R (frX_t hQo oK) oS) (by first | assumption | omega) (lsC_x pS.2 (by rw [eV_13, eV_12]; rfl) (fun c h1 h2 => by rw [eV_13, eV_12, uV_cell (by omega), uV_cell (by omega)])) (fun j hj => ⟨by rw [eV_13, uV_cell (by decide)]; exact row_s (f := gvK b k S Ks) eV_12 rfl (fun j hj => by rw [chg_k (c := 31) cS rfl, chg_k (c := 31) cK rfl]; exact (hg j hj).1) j hj, row_s (f := fun _ => -1) eV_13 rfl (fun j hj => by rw [eV_12, uV_cell (by decide), chg_k (c := 32) cS rfl, chg_k (c := 32) cK rfl]; exact (hg j hj).2) j hj⟩)
  exact L9 _ V_2 R (0) (Nat.lt_succ_self _) hBV_2 fV_2 hF frX_r (by first | assumption | omega) (by obtain ⟨ρ, hρ⟩ := hρ; exact ⟨Nat.zero_le 24, pV_2, fun i j _ h => absurd h (Nat.not_lt_zero _), ρ, hρ, fun i h => absurd h (Nat.not_lt_zero _)⟩) (fun j hj => absurd hj (Nat.not_lt_zero _))
