set_option maxHeartbeats 1000000 in
set_option maxRecDepth 100000 in
theorem R_X9_tryChance {G : GG} {V : VV} {R : RR}  {b : Bk} {k : Int} {S : Sp} {Ks : Nat → Kd} {kd : Nat} (hB : Bd V) (hF : FinR R) (bCV : bC b V) (ho : bO b) (mCV : mapC S V) (so : sO S) (hk : 0 ≤ k ∧ k ≤ 400) (h7 : V 30 7 = k) (hkd : kd < 5) (hT : kC (Ks kd) (19 + kd) V ∧ kO (Ks kd)) (h49 : ∀ i, i < S.m → V 49 i = S.y i) (h31 : V 31 kd = bgK b k S Ks kd) : Runs G M_X9_tryChance 9 162 162 [vr 30, vi (kd:Int)] V R (PQS [(60, 84), (53, 54), (47, 47)] [(52, 2, 2), (52, 5, 5), (52, 7, 7), (52, 9, 15), (55, 0, 18), (56, 1, 1)] V R (fun o X R2 => o = some (vi ((weak b k S Ks kd 7) : Int)) ∧ mapC S X)) := by
  refine Runs.of pn_X9 (Nat.le_of_ble_eq_true rfl) rfl ?_
  show TT G M_X9_tryChance (rmd 9 162 162) 162 (Zm G 162 162 (PQS [(60, 84), (53, 54), (47, 47)] [(52, 2, 2), (52, 5, 5), (52, 7, 7), (52, 9, 15), (55, 0, 18), (56, 1, 1)] V R (fun o X R2 => o = some (vi ((weak b k S Ks kd 7) : Int)) ∧ mapC S X))) 162 0 [(0, vr 30), (1, vi (kd:Int))] [] V R
  have fV : chg [(60, 84), (53, 54), (47, 47)] [(52, 2, 2), (52, 5, 5), (52, 7, 7), (52, 9, 15), (55, 0, 18), (56, 1, 1)] V V := chg_r
  have tl := told_l hkd
  have hm4 := so.1
  refine T_k d_X9_tryChance_0 ?_
  refine T_is d_X9_tryChance_1 (ls' := [(0, vr 30), (1, vi (kd:Int)), (2, vi 0)]) rfl ?_
  refine T_al d_X9_tryChance_2 rfl ?_
  refine F_gr (b := 52) d_X9_tryChance_3 rfl hF rfl ?_
  refine T_al d_X9_tryChance_6 rfl ?_
  refine F_gr (b := 16) d_X9_tryChance_7 rfl hF rfl ?_
  refine F_gr (b := 18) d_X9_tryChance_10 rfl hF rfl ?_
  refine T_il d_X9_tryChance_13 rfl ?_
  refine F_aa2 d_X9_tryChance_14 rfl ⟨by omega, by omega⟩ ?_
  rw [show R 18 ((kd : Nat) : Int).toNat = some (19 + kd) from told_r hF hkd]
  refine T_al d_X9_tryChance_15 rfl ?_
  refine F_gi d_X9_tryChance_16 rfl hB rfl (fun b_1 => ?_)
  rw [h7]
  refine C_v2 d_X9_tryChance_19 rfl (hdF (by decide)) (hcF _) (R_X1_setKind (ka := 19 + kd) (k := k) hB hF hk) (fun r_2 V_3 R_4 qV_3 => ?_)
  obtain ⟨hFV_3, oV_3, hBV_3, cV_3, rfl, pV_3⟩ := qV_3
  have hF := hFV_3
  have fV_3 := chg_t (A := [(60, 84), (53, 54), (47, 47)]) (F := [(52, 2, 2), (52, 5, 5), (52, 7, 7), (52, 9, 15), (55, 0, 18), (56, 1, 1)]) fV cV_3 rfl
  have bCV_3 := bC_c bCV fV_3 rfl
  have pK := pV_3
  have oK := oV_3
  have cK := cV_3
  have hkq : R_4 52 3 = some (19 + kd) := by rw [pK.2]; exact if_pos ⟨rfl, rfl⟩
  refine T_k d_X9_tryChance_22 ?_
  refine T_is d_X9_tryChance_23 (ls' := [(0, vr 30), (1, vi (kd:Int)), (2, vi 0), (3, vi 1)]) rfl ?_
  -- to 24 @24
  have L24 : ∀ (fu : Nat) (X : VV) (w t s : Nat), 7 - t < fu → (Bd X) → (chg [(60, 84), (53, 54), (47, 47)] [(52, 2, 2), (52, 5, 5), (52, 7, 7), (52, 9, 15), (55, 0, 18), (56, 1, 1)] V X) → (t ≤ 7) → (w = (weak b k S Ks kd t)) → (mapC (srot S s) X) → (∀ i, i < S.m → X 49 i = S.y i) → (X 52 2 = k) → TT G M_X9_tryChance (rmd 9 162 162) 162 (Zm G 162 162 (PQS [(60, 84), (53, 54), (47, 47)] [(52, 2, 2), (52, 5, 5), (52, 7, 7), (52, 9, 15), (55, 0, 18), (56, 1, 1)] V R (fun o X R2 => o = some (vi ((weak b k S Ks kd 7) : Int)) ∧ mapC S X))) 162 24 [(0, vr 30), (1, vi (kd:Int)), (2, vi (w : Int)), (3, vi ((t + 1 : Nat) : Int))] [] X R_4 := by
    intro fu
    induction fu with
    | zero => intro X w t s hm; exact absurd hm (Nat.not_lt_zero _)
    | succ fu ih24 =>
      intro X w t s hm24 hBX fX ht hw mX x49 x52
      have bCX := bC_c bCV fX rfl
      refine T_il d_X9_tryChance_24 rfl ?_
      refine T_k d_X9_tryChance_25 ?_
      refine T_igt d_X9_tryChance_27 ⟨by omega, by omega⟩ ⟨by omega, by omega⟩ (fun h27 => ?_) (fun h27 => ?_)
      · skip
        have hwl : w ≤ 7 := by rw [hw]; exact Nat.le_trans cntB_le ht
        refine T_al d_X9_tryChance_65 rfl ?_
        refine F_gr (b := 44) d_X9_tryChance_66 rfl hF rfl ?_
        refine T_k d_X9_tryChance_69 ?_
        refine C_v1 d_X9_tryChance_70 rfl (hdF (by decide)) (hcF _) (R_X8_rotate (S := S) (t := 0) hBX hF (by have a := mX.1.1; rw [srot_m] at a; exact a) hm4 (by omega)) (fun r_5 V_6 R_7 qV_6 => ?_)
        obtain ⟨rfl, hBV_6, cV_6, rfl, pV_6⟩ := qV_6
        have fV_6 := chg_t (A := [(60, 84), (53, 54), (47, 47)]) (F := [(52, 2, 2), (52, 5, 5), (52, 7, 7), (52, 9, 15), (55, 0, 18), (56, 1, 1)]) fX cV_6 rfl
        have bCV_6 := bC_c bCV fV_6 rfl
        refine T_il d_X9_tryChance_73 rfl ?_
        -- leaf 27t@74
        refine T_iret d_X9_tryChance_74 rfl ?_
        have sr := srot_C (t := 0) mX x49 cV_6 pV_6
        exact ⟨hF, oK, hBV_6, fV_6, by rw [hw, show t = 7 by omega], srot_0 sr.1⟩
      · skip
        refine T_al d_X9_tryChance_30 rfl ?_
        refine F_gr (b := 44) d_X9_tryChance_31 rfl hF rfl ?_
        refine T_il d_X9_tryChance_34 rfl ?_
        refine C_v1 d_X9_tryChance_35 rfl (hdF (by decide)) (hcF _) (R_X8_rotate (S := S) (t := t + 1) hBX hF (by have a := mX.1.1; rw [srot_m] at a; exact a) hm4 (by omega)) (fun r_8 V_9 R_10 qV_9 => ?_)
        obtain ⟨rfl, hBV_9, cV_9, rfl, pV_9⟩ := qV_9
        have fV_9 := chg_t (A := [(60, 84), (53, 54), (47, 47)]) (F := [(52, 2, 2), (52, 5, 5), (52, 7, 7), (52, 9, 15), (55, 0, 18), (56, 1, 1)]) fX cV_9 rfl
        have bCV_9 := bC_c bCV fV_9 rfl
        have sr := srot_C (t := t + 1) mX x49 cV_9 pV_9
        have w52 : V_9 52 2 = k := (chg_k (c := 52) cV_9 rfl) ▸ x52
        refine T_al d_X9_tryChance_38 rfl ?_
        refine F_gr (b := 52) d_X9_tryChance_39 rfl hF rfl ?_
        refine T_il d_X9_tryChance_42 rfl ?_
        refine T_null d_X9_tryChance_43 ?_
        refine C_v2 d_X9_tryChance_44 rfl (hdF (by decide)) (hcF _) (R_X1_seekN (b := b) (k := k) (S := srot S (t + 1)) (Ks := Ks) (ka := 19 + kd) (kd := kd) (N := 0) (l := fun _ _ => 0) hBV_9 hF bCV_9 ho hkq tl.1 tl.2 (by omega) (kC_c hT.1 (by omega) fV_9 rfl) hT.2 sr.1 (srot_O so) w52 hk hkd) (fun r_11 V_12 R_13 qV_12 => ?_)
        obtain ⟨rfl, hBV_12, cV_12, rfl, pV_12⟩ := qV_12
        have fV_12 := chg_t (A := [(60, 84), (53, 54), (47, 47)]) (F := [(52, 2, 2), (52, 5, 5), (52, 7, 7), (52, 9, 15), (55, 0, 18), (56, 1, 1)]) fV_9 cV_12 rfl
        have bCV_12 := bC_c bCV fV_12 rfl
        have pS := pV_12
        have sr2 := mapC_c sr.1 cV_12 rfl
        have s49 : ∀ i, i < S.m → V_12 49 i = S.y i := by rw [chg_k (c := 49) cV_12 rfl]; exact sr.2
        have s52 : V_12 52 2 = k := (chg_j (c := 52) (j := 2) cV_12 rfl).trans w52
        have s31 : V_12 31 kd = bgK b k S Ks kd := by rw [chg_k (c := 31) fV_12 rfl]; exact h31
        have gb := hBV_12.2 52 1 15 (-1000) 10000 rfl rfl
        rw [pS, bg_is] at gb
        have gb2 : bgK b k (srot S (t + 1)) Ks kd = bgK b k (srot S (t + 1)) Ks kd := rfl
        rw [bg_is]
        refine T_al d_X9_tryChance_47 rfl ?_
        refine F_gr (b := 31) d_X9_tryChance_48 rfl hF rfl ?_
        refine T_il d_X9_tryChance_51 rfl ?_
        refine F_ia d_X9_tryChance_52 rfl hBV_12 rfl ⟨by omega, by omega⟩ (fun b_14 => ?_)
        try simp only [Int.toNat_natCast, s31]
        try simp only [Int.toNat_natCast, s31] at b_14
        refine T_ige d_X9_tryChance_53 ⟨by omega, by omega⟩ ⟨by omega, by omega⟩ (fun h53 => ?_) (fun h53 => ?_)
        · skip
          refine F_incg d_X9_tryChance_59 rfl (f := fun x_15 => [(0, vr 30), (1, vi (kd:Int)), (2, vi (w : Int)), (3, vi x_15)]) (fun _ => rfl) (fun x_15 ex_15 => ?_)
          refine T_go d_X9_tryChance_62 ?_
          -- to 24 27f.53t@24
          obtain rfl : x_15 = (((t + 1) + 1 : Nat) : Int) := by omega
          exact ih24 V_12 (w) (t + 1) (t + 1) (by omega) hBV_12 fV_12 (by first | assumption | omega) (by unfold weak; rw [cntB_f (fun z => by have := of_decide_eq_true z; omega)]; exact hw) sr2 s49 s52
        · skip
          refine F_incg d_X9_tryChance_56 rfl (f := fun x_16 => [(0, vr 30), (1, vi (kd:Int)), (2, vi x_16), (3, vi ((t + 1 : Nat) : Int))]) (fun _ => rfl) (fun x_16 ex_16 => ?_)
          refine F_incg d_X9_tryChance_59 rfl (f := fun x_17 => [(0, vr 30), (1, vi (kd:Int)), (2, vi x_16), (3, vi x_17)]) (fun _ => rfl) (fun x_17 ex_17 => ?_)
          refine T_go d_X9_tryChance_62 ?_
          -- to 24 27f.53f@24
          obtain rfl : x_16 = ((w + 1) : Int) := by omega
          obtain rfl : x_17 = (((t + 1) + 1 : Nat) : Int) := by omega
          exact ih24 V_12 (w + 1) (t + 1) (t + 1) (by omega) hBV_12 fV_12 (by first | assumption | omega) (by unfold weak; rw [cntB_t (decide_eq_true (by omega))]; rw [hw]; rfl) sr2 s49 s52
  exact L24 _ V_3 (0) (0) (0) (Nat.lt_succ_self _) hBV_3 fV_3 (by first | assumption | omega) rfl (srot_i (mapC_c mCV cK rfl)) (by rw [chg_k (c := 49) cK rfl]; exact h49) pK.1
