set_option maxHeartbeats 1000000 in
set_option maxRecDepth 100000 in
theorem R_X1_placeOf {G : GG} {V : VV} {R : RR} {h : Nat} {b : Bk} {k : Int} {S : Sp} {K : Kd} {ka : Nat} {p q r i j : Nat} (hB : Bd V) (hF : FinR R) (bCV : bC b V) (ho : bO b) (hka : R 52 3 = some ka) (hla : lay ka = (1, 20)) (hba : arB ka = some (-1, 500)) (h19 : 19 ≤ ka ∧ ka ≤ 23) (kCV : kC K ka V) (ko : kO K) (mCV : mapC S V) (so : sO S) (hwk : V 52 2 = k) (hk : 0 ≤ k ∧ k ≤ 400) (hh : 60 ≤ h ∧ h ≤ 84) (hp : p < S.m) (hq : q < S.m) (hr : r < S.m) (hi : i ≤ 7) (hj : j ≤ 3) (hf : V h 4 = S.x p ∧ V h 5 = S.y p ∧ V h 6 = S.x q - S.x p ∧ V h 7 = S.y q - S.y p ∧ V h 8 = S.x r - S.x p ∧ V h 9 = S.y r - S.y p) : RunsP G M_X1_placeOf 5 [vr 52, vr h, vi (i:Int), vi (j:Int)] V R (vi (if (plO b k S K p q r i j) < 0 then (plO b k S K p q r i j) else S.h (plO b k S K p q r i j).toNat)) := by
  unfold RunsP
  refine Runs.of pn_X1 (Nat.le_of_ble_eq_true rfl) rfl ?_
  show TT G M_X1_placeOf (rmd 5 162 162) 162 (Zm G 162 162 (QP V R (vi (if (plO b k S K p q r i j) < 0 then (plO b k S K p q r i j) else S.h (plO b k S K p q r i j).toNat)))) 162 0 [(0, vr 52), (1, vr h), (2, vi (i:Int)), (3, vi (j:Int))] [] V R
  have hl_h := lay_h hh
  have hM := so.1
  have hpb := plO_b so hp hq hr (i := (i : Int)) (j := (j : Int)) ⟨by omega, by omega⟩ ⟨by omega, by omega⟩
  have fr := plO_r (b := b) (k := k) (S := S) (K := K) (p := p) (q := q) (r := r) (i := i) (j := j) hM
  refine T_al d_X1_placeOf_0 rfl ?_
  refine T_gr uws_ok d_X1_placeOf_1 rfl (lay_lc rfl (by decide)) hka ?_
  refine T_nnul d_X1_placeOf_4 (fun a4 h4 => ?_) (fun h4 => by cases h4)
  refine T_al d_X1_placeOf_11 rfl ?_
  refine T_al d_X1_placeOf_12 rfl ?_
  refine F_gi d_X1_placeOf_13 hl_h hB rfl (fun b_1 => ?_)
  refine T_il d_X1_placeOf_16 rfl ?_
  refine T_al d_X1_placeOf_17 rfl ?_
  refine F_gi d_X1_placeOf_18 hl_h hB rfl (fun b_2 => ?_)
  refine T_imul d_X1_placeOf_21 ?_
  refine T_iadd d_X1_placeOf_22 ?_
  refine T_il d_X1_placeOf_23 rfl ?_
  refine T_al d_X1_placeOf_24 rfl ?_
  refine F_gi d_X1_placeOf_25 hl_h hB rfl (fun b_3 => ?_)
  refine T_imul d_X1_placeOf_28 ?_
  refine T_iadd d_X1_placeOf_29 ?_
  refine T_al d_X1_placeOf_30 rfl ?_
  refine F_gi d_X1_placeOf_31 hl_h hB rfl (fun b_4 => ?_)
  refine T_il d_X1_placeOf_34 rfl ?_
  refine T_al d_X1_placeOf_35 rfl ?_
  refine F_gi d_X1_placeOf_36 hl_h hB rfl (fun b_5 => ?_)
  refine T_imul d_X1_placeOf_39 ?_
  refine T_iadd d_X1_placeOf_40 ?_
  refine T_il d_X1_placeOf_41 rfl ?_
  refine T_al d_X1_placeOf_42 rfl ?_
  refine F_gi d_X1_placeOf_43 hl_h hB rfl (fun b_6 => ?_)
  refine T_imul d_X1_placeOf_46 ?_
  refine T_iadd d_X1_placeOf_47 ?_
  rw [hf.1, hf.2.1, hf.2.2.1, hf.2.2.2.1, hf.2.2.2.2.1, hf.2.2.2.2.2]
  refine C_pv2 d_X1_placeOf_48 rfl (hdF (by decide)) (hcF _) (R_X1_stateAt (b := b) (k := k) (S := S) (K := K) hB hF bCV ho hka hla hba h19 kCV ko mCV so hpb.1 hpb.2 hwk hk) ?_
  refine F_isg d_X1_placeOf_51 (f := fun x_7 => [(0, vr 52), (1, vr h), (2, vi (i:Int)), (3, vi (j:Int)), (4, vi x_7)]) (fun _ => rfl) (fun x_7 ex_7 => ?_)
  have ef : x_7 = (plO b k S K p q r i j) := ex_7
  refine T_il d_X1_placeOf_53 rfl ?_
  refine T_zge d_X1_placeOf_55 ⟨by omega, by omega⟩ (fun h55 => ?_) (fun h55 => ?_)
  · skip
    have w := mCV.1.2 (x_7).toNat (by omega)
    refine T_al d_X1_placeOf_63 rfl ?_
    refine F_gr (b := 44) d_X1_placeOf_64 rfl hF rfl ?_
    refine F_gr (b := 45) d_X1_placeOf_67 rfl hF rfl ?_
    refine T_il d_X1_placeOf_70 rfl ?_
    refine F_ia d_X1_placeOf_72 rfl hB rfl ⟨by omega, by omega⟩ (fun b_8 => ?_)
    try simp only [Int.toNat_natCast, w.1]
    try simp only [Int.toNat_natCast, w.1] at b_8
    -- leaf 55t@73
    exact P_I d_X1_placeOf_73 (by rw [if_neg (by omega), ef])
  · skip
    refine T_il d_X1_placeOf_58 rfl ?_
    refine T_go d_X1_placeOf_60 ?_
    -- leaf 55f@73
    exact P_I d_X1_placeOf_73 (by rw [if_pos (by omega)]; exact ef)
set_option maxHeartbeats 1000000 in
set_option maxRecDepth 100000 in
theorem R_X9_placeOf {G : GG} {V : VV} {R : RR} {h : Nat} {b : Bk} {k : Int} {S : Sp} {Ks : Nat → Kd} {kd p q r i j : Nat} (hB : Bd V) (hF : FinR R) (bCV : bC b V) (ho : bO b) (mCV : mapC S V) (so : sO S) (hk : 0 ≤ k ∧ k ≤ 400) (h7 : V 30 7 = k) (hkd : kd < 5) (hT : kC (Ks kd) (19 + kd) V ∧ kO (Ks kd)) (hh : 60 ≤ h ∧ h ≤ 84) (hp : p < S.m) (hq : q < S.m) (hr : r < S.m) (hi : i ≤ 7) (hj : j ≤ 3) (h0 : V h 0 = (kd : Int)) (hf : V h 4 = S.x p ∧ V h 5 = S.y p ∧ V h 6 = S.x q - S.x p ∧ V h 7 = S.y q - S.y p ∧ V h 8 = S.x r - S.x p ∧ V h 9 = S.y r - S.y p) : Runs G M_X9_placeOf 6 162 162 [vr 30, vr h, vi (i:Int), vi (j:Int)] V R (PQS [] [(52, 2, 2)] V R (fun o X R2 => o = some (vi (if (plO b k S (Ks kd) p q r i j) < 0 then (plO b k S (Ks kd) p q r i j) else S.h (plO b k S (Ks kd) p q r i j).toNat)))) := by
  refine Runs.of pn_X9 (Nat.le_of_ble_eq_true rfl) rfl ?_
  show TT G M_X9_placeOf (rmd 6 162 162) 162 (Zm G 162 162 (PQS [] [(52, 2, 2)] V R (fun o X R2 => o = some (vi (if (plO b k S (Ks kd) p q r i j) < 0 then (plO b k S (Ks kd) p q r i j) else S.h (plO b k S (Ks kd) p q r i j).toNat))))) 162 0 [(0, vr 30), (1, vr h), (2, vi (i:Int)), (3, vi (j:Int))] [] V R
  have fV : chg [] [(52, 2, 2)] V V := chg_r
  have hl_h := lay_h hh
  have tl := told_l hkd
  refine T_al d_X9_placeOf_0 rfl ?_
  refine F_gi d_X9_placeOf_1 hl_h hB rfl (fun b_1 => ?_)
  refine T_k d_X9_placeOf_4 ?_
  refine T_k d_X9_placeOf_5 ?_
  refine C_ps3 d_X9_placeOf_6 (hdF (by decide)) (hcF _) (R_X10_isIn ⟨by omega, by omega⟩ ⟨by omega, by omega⟩ ⟨by omega, by omega⟩) ?_
  refine T_pz1 d_X9_placeOf_9 (fun h9 => ?_) (fun h9 => ?_)
  · skip
    refine T_al d_X9_placeOf_16 rfl ?_
    refine F_gr (b := 52) d_X9_placeOf_17 rfl hF rfl ?_
    refine T_al d_X9_placeOf_20 rfl ?_
    refine F_gr (b := 16) d_X9_placeOf_21 rfl hF rfl ?_
    refine F_gr (b := 18) d_X9_placeOf_24 rfl hF rfl ?_
    refine T_al d_X9_placeOf_27 rfl ?_
    refine F_gi d_X9_placeOf_28 hl_h hB rfl (fun b_2 => ?_)
    refine F_aa2 d_X9_placeOf_31 rfl ⟨by omega, by omega⟩ ?_
    rw [show R 18 (V h 0).toNat = some (19 + kd) from by rw [h0, Int.toNat_natCast]; exact told_r hF hkd]
    refine T_al d_X9_placeOf_32 rfl ?_
    refine F_gi d_X9_placeOf_33 rfl hB rfl (fun b_3 => ?_)
    rw [h7]
    refine C_v2 d_X9_placeOf_36 rfl (hdF (by decide)) (hcF _) (R_X1_setKind (ka := 19 + kd) (k := k) hB hF hk) (fun r_4 V_5 R_6 qV_5 => ?_)
    obtain ⟨hFV_5, oV_5, hBV_5, cV_5, rfl, pV_5⟩ := qV_5
    have hF := hFV_5
    have fV_5 := chg_t (A := []) (F := [(52, 2, 2)]) fV cV_5 rfl
    have bCV_5 := bC_c bCV fV_5 rfl
    have pK := pV_5
    have oK := oV_5
    have vh : V_5 h = V h := funext fun j => cV_5 h j rfl (by unfold inF; simp; omega)
    refine T_al d_X9_placeOf_39 rfl ?_
    refine F_gr (b := 52) d_X9_placeOf_40 rfl hF rfl ?_
    refine T_al d_X9_placeOf_43 rfl ?_
    refine T_il d_X9_placeOf_44 rfl ?_
    refine T_il d_X9_placeOf_45 rfl ?_
    refine C_pv3 d_X9_placeOf_46 rfl (hdF (by decide)) (hcF _) (R_X1_placeOf (b := b) (k := k) (S := S) (K := Ks kd) (ka := 19 + kd) (p := p) (q := q) (r := r) hBV_5 hF bCV_5 ho (by rw [pK.2]; exact if_pos ⟨rfl, rfl⟩) tl.1 tl.2 (by omega) (kC_c hT.1 (by omega) fV_5 rfl) hT.2 (mapC_c mCV fV_5 rfl) so pK.1 hk hh hp hq hr hi hj (by rw [vh]; exact hf)) ?_
    -- leaf 9t@49
    refine T_iret d_X9_placeOf_49 rfl ?_
    exact ⟨hF, oK, hBV_5, fV_5, rfl⟩
  · exact absurd (by omega) h9
set_option maxHeartbeats 1000000 in
set_option maxRecDepth 100000 in
theorem R_X9_strengthOf {G : GG} {V : VV} {R : RR}  {b : Bk} {k : Int} {S : Sp} {Ks : Nat → Kd} {kd : Nat} (hB : Bd V) (hF : FinR R) (bCV : bC b V) (ho : bO b) (mCV : mapC S V) (so : sO S) (hk : 0 ≤ k ∧ k ≤ 400) (h7 : V 30 7 = k) (hkd : kd < 5) (hT : kC (Ks kd) (19 + kd) V ∧ kO (Ks kd)) (h49 : ∀ i, i < S.m → V 49 i = S.y i) (h31 : V 31 kd = bgK b k S Ks kd) (h32 : V 32 kd = -1 ∨ V 32 kd = (weak b k S Ks kd 7 : Int)) : Runs G M_X9_strengthOf 10 162 162 [vr 30, vi (kd:Int)] V R (PQS [(60, 84), (53, 54), (47, 47), (32, 32)] [(52, 2, 2), (52, 5, 5), (52, 7, 7), (52, 9, 15), (55, 0, 18), (56, 1, 1)] V R (fun o X R2 => o = some (vi (weak b k S Ks kd 7 : Int)) ∧ mapC S X ∧ X 32 kd = (weak b k S Ks kd 7 : Int) ∧ ∀ j, j ≠ kd → X 32 j = V 32 j)) := by
  refine Runs.of pn_X9 (Nat.le_of_ble_eq_true rfl) rfl ?_
  show TT G M_X9_strengthOf (rmd 10 162 162) 162 (Zm G 162 162 (PQS [(60, 84), (53, 54), (47, 47), (32, 32)] [(52, 2, 2), (52, 5, 5), (52, 7, 7), (52, 9, 15), (55, 0, 18), (56, 1, 1)] V R (fun o X R2 => o = some (vi (weak b k S Ks kd 7 : Int)) ∧ mapC S X ∧ X 32 kd = (weak b k S Ks kd 7 : Int) ∧ ∀ j, j ≠ kd → X 32 j = V 32 j))) 162 0 [(0, vr 30), (1, vi (kd:Int))] [] V R
  have fV : chg [(60, 84), (53, 54), (47, 47), (32, 32)] [(52, 2, 2), (52, 5, 5), (52, 7, 7), (52, 9, 15), (55, 0, 18), (56, 1, 1)] V V := chg_r
  have hwl : weak b k S Ks kd 7 ≤ 7 := cntB_le
  refine T_il d_X9_strengthOf_0 rfl ?_
  refine T_k d_X9_strengthOf_1 ?_
  refine T_k d_X9_strengthOf_2 ?_
  refine C_ps3 d_X9_strengthOf_3 (hdF (by decide)) (hcF _) (R_X10_isIn ⟨by omega, by omega⟩ ⟨by omega, by omega⟩ ⟨by omega, by omega⟩) ?_
  refine T_pz1 d_X9_strengthOf_6 (fun h6 => ?_) (fun h6 => ?_)
  · skip
    refine T_al d_X9_strengthOf_11 rfl ?_
    refine F_gr (b := 32) d_X9_strengthOf_12 rfl hF rfl ?_
    refine T_il d_X9_strengthOf_15 rfl ?_
    refine F_ia d_X9_strengthOf_16 rfl hB rfl ⟨by omega, by omega⟩ (fun b_1 => ?_)
    try simp only [Int.toNat_natCast]
    try simp only [Int.toNat_natCast] at b_1
    refine T_k d_X9_strengthOf_17 ?_
    refine T_ine d_X9_strengthOf_18 ⟨by omega, by omega⟩ ⟨by omega, by omega⟩ (fun h18 => ?_) (fun h18 => ?_)
    · skip
      refine T_al d_X9_strengthOf_32 rfl ?_
      refine F_gr (b := 32) d_X9_strengthOf_33 rfl hF rfl ?_
      refine T_il d_X9_strengthOf_36 rfl ?_
      refine F_ia d_X9_strengthOf_37 rfl hB rfl ⟨by omega, by omega⟩ (fun b_2 => ?_)
      try simp only [Int.toNat_natCast]
      try simp only [Int.toNat_natCast] at b_2
      -- leaf 6t.18t@38
      refine T_iret d_X9_strengthOf_38 rfl ?_
      have w := h32.resolve_left h18
      exact ⟨hF, frX_r, hB, fV, by rw [w], mCV, w, fun j _ => rfl⟩
    · skip
      refine T_al d_X9_strengthOf_21 rfl ?_
      refine F_gr (b := 32) d_X9_strengthOf_22 rfl hF rfl ?_
      refine T_il d_X9_strengthOf_25 rfl ?_
      refine T_al d_X9_strengthOf_26 rfl ?_
      refine T_il d_X9_strengthOf_27 rfl ?_
      refine C_v1 d_X9_strengthOf_28 rfl (hdF (by decide)) (hcF _) (R_X9_tryChance (b := b) (k := k) (S := S) (Ks := Ks) hB hF bCV ho mCV so hk h7 hkd hT h49 h31) (fun r_3 V_4 R_5 qV_4 => ?_)
      obtain ⟨hFV_4, oV_4, hBV_4, cV_4, rfl, pV_4⟩ := qV_4
      have hF := hFV_4
      have fV_4 := chg_t (A := [(60, 84), (53, 54), (47, 47), (32, 32)]) (F := [(52, 2, 2), (52, 5, 5), (52, 7, 7), (52, 9, 15), (55, 0, 18), (56, 1, 1)]) fV cV_4 rfl
      have bCV_4 := bC_c bCV fV_4 rfl
      have pT := pV_4
      have oT := oV_4
      have cT := cV_4
      refine F_is d_X9_strengthOf_31 rfl hBV_4 rfl ⟨by omega, by omega⟩ ⟨by omega, by omega⟩ (fun V_6 eV_6 hBV_6 => ?_)
      have fV_6 := chg_u eV_6 rfl fV_4
      have bCV_6 := bC_c bCV fV_6 rfl
      refine T_al d_X9_strengthOf_32 rfl ?_
      refine F_gr (b := 32) d_X9_strengthOf_33 rfl hF rfl ?_
      refine T_il d_X9_strengthOf_36 rfl ?_
      refine F_ia d_X9_strengthOf_37 rfl hBV_6 rfl ⟨by omega, by omega⟩ (fun b_7 => ?_)
      try simp only [Int.toNat_natCast]
      try simp only [Int.toNat_natCast] at b_7
      -- leaf 6t.18f@38
      refine T_iret d_X9_strengthOf_38 rfl ?_
      exact ⟨hF, oT, hBV_6, fV_6, by rw [eV_6]; exact congrArg (fun z => some (vi z)) uV_self, mapC_c (A := [(32, 32)]) (F := []) pT (chg_u eV_6 rfl chg_r) rfl, by rw [eV_6]; exact uV_self, fun j hj => by rw [eV_6, Int.toNat_natCast, uV_at, if_neg hj, chg_k (c := 32) cT rfl]⟩
  · exact absurd (by omega) h6
