set_option maxHeartbeats 1000000 in
set_option maxRecDepth 100000 in
theorem R_X1_keep {G : GG} {V : VV} {R : RR}  {b : Bk} {k : Int} {S : Sp} {K : Kd} {ka : Nat} {p q r n : Nat} {s : HS} (hB : Bd V) (hF : FinR R) (hka : R 52 3 = some ka) (hla : lay ka = (1, 20)) (hba : arB ka = some (-1, 500)) (h19 : 19 ≤ ka ∧ ka ≤ 23) (kCV : kC K ka V) (ko : kO K) (hn : n ≤ 8) (hs : hsO b k S K p q r n = some s) (hsv : hsC S s V) (hcb : (0 ≤ s.1 ∧ s.1 ≤ 32) ∧ (0 ≤ s.2.1 ∧ s.2.1 ≤ 32) ∧ (0 ≤ s.2.2.1 ∧ s.2.2.1 ≤ 32) ∧ 0 ≤ s.2.2.2.1 ∧ s.2.2.2.1 ≤ 32) : Runs G M_X1_keep 1 162 162 [vr 52, vi (n:Int)] V R (PQ [] [(55, 12, 18)] V R (fun o X => o = none ∧ trK b k S K p q r n X)) := by
  refine Runs.of pn_X1 (Nat.le_of_ble_eq_true rfl) rfl ?_
  show TT G M_X1_keep (rmd 1 162 162) 162 (Zm G 162 162 (PQ [] [(55, 12, 18)] V R (fun o X => o = none ∧ trK b k S K p q r n X))) 162 0 [(0, vr 52), (1, vi (n:Int))] [] V R
  have fV : chg [] [(55, 12, 18)] V V := chg_r
  obtain ⟨v9, v10, v11, v12, c, v13, hmr⟩ := hsv
  have hc40 : c < 1099511627776 := hmr.1
  have ko1 := ko
  obtain ⟨_, _, _, _, _, _, _, _, _, k9⟩ := ko1
  have h9 := mulb (i := K.l 9) (v := V 52 9) (M := 32) (N := 100) (by omega) (by omega) (by omega) (by omega)
  have h90 : 0 ≤ K.l 9 * V 52 9 := Int.mul_nonneg (by omega) (by omega)
  refine T_al d_X1_keep_0 rfl ?_
  refine F_gr (b := 55) d_X1_keep_1 rfl hF rfl ?_
  refine T_il d_X1_keep_4 rfl ?_
  refine F_pi d_X1_keep_5 rfl hB rfl ⟨by omega, by omega⟩ (fun V_1 eV_1 hBV_1 => ?_)
  have fV_1 := chg_u eV_1 rfl fV
  have kCV_1 := kC_c kCV h19 fV_1 rfl
  refine T_al d_X1_keep_8 rfl ?_
  refine F_gr (b := 55) d_X1_keep_9 rfl hF rfl ?_
  refine T_al d_X1_keep_12 rfl ?_
  refine F_gin d_X1_keep_13 rfl ?_
  have fV_1_52_9 : V_1 52 9 = V 52 9 := by rw [eV_1]; rfl
  rw [fV_1_52_9]
  refine F_pi d_X1_keep_16 rfl hBV_1 rfl ⟨by omega, by omega⟩ (fun V_2 eV_2 hBV_2 => ?_)
  have fV_2 := chg_u eV_2 rfl fV_1
  have kCV_2 := kC_c kCV h19 fV_2 rfl
  refine T_al d_X1_keep_19 rfl ?_
  refine F_gr (b := 55) d_X1_keep_20 rfl hF rfl ?_
  refine T_al d_X1_keep_23 rfl ?_
  refine F_gin d_X1_keep_24 rfl ?_
  have fV_2_52_10 : V_2 52 10 = V 52 10 := by rw [eV_2, eV_1]; rfl
  rw [fV_2_52_10]
  refine F_pi d_X1_keep_27 rfl hBV_2 rfl ⟨by omega, by omega⟩ (fun V_3 eV_3 hBV_3 => ?_)
  have fV_3 := chg_u eV_3 rfl fV_2
  have kCV_3 := kC_c kCV h19 fV_3 rfl
  refine T_al d_X1_keep_30 rfl ?_
  refine F_gr (b := 55) d_X1_keep_31 rfl hF rfl ?_
  refine T_al d_X1_keep_34 rfl ?_
  refine F_gin d_X1_keep_35 rfl ?_
  have fV_3_52_11 : V_3 52 11 = V 52 11 := by rw [eV_3, eV_2, eV_1]; rfl
  rw [fV_3_52_11]
  refine F_pi d_X1_keep_38 rfl hBV_3 rfl ⟨by omega, by omega⟩ (fun V_4 eV_4 hBV_4 => ?_)
  have fV_4 := chg_u eV_4 rfl fV_3
  have kCV_4 := kC_c kCV h19 fV_4 rfl
  refine T_al d_X1_keep_41 rfl ?_
  refine F_gr (b := 55) d_X1_keep_42 rfl hF rfl ?_
  refine T_al d_X1_keep_45 rfl ?_
  refine F_gin d_X1_keep_46 rfl ?_
  have fV_4_52_12 : V_4 52 12 = V 52 12 := by rw [eV_4, eV_3, eV_2, eV_1]; rfl
  rw [fV_4_52_12]
  refine F_pi d_X1_keep_49 rfl hBV_4 rfl ⟨by omega, by omega⟩ (fun V_5 eV_5 hBV_5 => ?_)
  have fV_5 := chg_u eV_5 rfl fV_4
  have kCV_5 := kC_c kCV h19 fV_5 rfl
  refine T_al d_X1_keep_52 rfl ?_
  refine F_gr (b := 55) d_X1_keep_53 rfl hF rfl ?_
  refine T_al d_X1_keep_56 rfl ?_
  refine F_gjn d_X1_keep_57 rfl ?_
  have fV_5_52_13 : V_5 52 13 = V 52 13 := by rw [eV_5, eV_4, eV_3, eV_2, eV_1]; rfl
  rw [fV_5_52_13]
  refine F_pj d_X1_keep_60 rfl hBV_5 rfl ⟨by omega, by omega⟩ (fun V_6 eV_6 hBV_6 => ?_)
  have fV_6 := chg_u eV_6 rfl fV_5
  have kCV_6 := kC_c kCV h19 fV_6 rfl
  refine T_al d_X1_keep_63 rfl ?_
  refine F_gr (b := 55) d_X1_keep_64 rfl hF rfl ?_
  refine T_al d_X1_keep_67 rfl ?_
  refine T_gr uws_ok d_X1_keep_68 rfl (lay_lc rfl (by decide)) hka ?_
  have kl9 : V_6 ka (9 : Int).toNat = K.l 9 := (kCV_6 9 (by omega)).1
  refine T_k d_X1_keep_71 ?_
  refine F_ia d_X1_keep_73 hla hBV_6 hba ⟨by omega, by omega⟩ (fun b_7 => ?_)
  try simp only [Int.toNat_natCast, kl9]
  try simp only [Int.toNat_natCast, kl9] at b_7
  refine T_al d_X1_keep_74 rfl ?_
  refine F_gin d_X1_keep_75 rfl ?_
  have fV_6_52_9 : V_6 52 9 = V 52 9 := by rw [eV_6, eV_5, eV_4, eV_3, eV_2, eV_1]; rfl
  rw [fV_6_52_9]
  refine T_imul d_X1_keep_78 ?_
  refine T_k d_X1_keep_79 ?_
  refine T_al d_X1_keep_80 rfl ?_
  refine F_gin d_X1_keep_81 rfl ?_
  have fV_6_52_10 : V_6 52 10 = V 52 10 := by rw [eV_6, eV_5, eV_4, eV_3, eV_2, eV_1]; rfl
  rw [fV_6_52_10]
  refine T_imul d_X1_keep_84 ?_
  refine T_isub d_X1_keep_85 ?_
  refine T_k d_X1_keep_86 ?_
  refine T_al d_X1_keep_87 rfl ?_
  refine F_gin d_X1_keep_88 rfl ?_
  have fV_6_52_11 : V_6 52 11 = V 52 11 := by rw [eV_6, eV_5, eV_4, eV_3, eV_2, eV_1]; rfl
  rw [fV_6_52_11]
  refine T_imul d_X1_keep_91 ?_
  refine T_isub d_X1_keep_92 ?_
  refine F_pi d_X1_keep_93 rfl hBV_6 rfl ⟨by omega, by omega⟩ (fun V_8 eV_8 hBV_8 => ?_)
  have fV_8 := chg_u eV_8 rfl fV_6
  have kCV_8 := kC_c kCV h19 fV_8 rfl
  -- leaf @96
  refine T_vret d_X1_keep_96 rfl ?_
  exact ⟨rfl, hBV_8, fV_8, rfl, by rw [eV_8, eV_6, eV_5, eV_4, eV_3, eV_2, eV_1]; rfl, fun _ => ⟨s, hs, by rw [eV_8, eV_6, eV_5, eV_4, eV_3, eV_2]; exact v9, by rw [eV_8, eV_6, eV_5, eV_4, eV_3]; exact v10, by rw [eV_8, eV_6, eV_5, eV_4]; exact v11, by rw [eV_8, eV_6, eV_5]; exact v12, by rw [eV_8]; show K.l 9 * V 52 9 - 5 * V 52 10 - 2 * V 52 11 = _; rw [v9, v10, v11], c, by rw [eV_8, eV_6]; exact v13, hmr⟩⟩
set_option maxHeartbeats 1000000 in
set_option maxRecDepth 100000 in
theorem R_X1_grow {G : GG} {V : VV} {R : RR}  {b : Bk} {k : Int} {S : Sp} {K : Kd} {ka : Nat} {p q r ro : Nat} (hB : Bd V) (hF : FinR R) (bCV : bC b V) (ho : bO b) (hka : R 52 3 = some ka) (hla : lay ka = (1, 20)) (hba : arB ka = some (-1, 500)) (h19 : 19 ≤ ka ∧ ka ≤ 23) (kCV : kC K ka V) (ko : kO K) (mCV : mapC S V) (so : sO S) (hwk : V 52 2 = k) (hk : 0 ≤ k ∧ k ≤ 400) (hp : p < S.m) (hq : q < S.m) (hr : r < S.m) (hro : K.l 0 = (ro : Int)) (ht : trP S K p q r V) : Runs G M_X1_grow 6 162 162 [vr 52] V R (PQ [] [(52, 9, 13), (55, 12, 18)] V R (fun o X => o = some (vi (bi (decide (tkF b k S K p q r (K.l 1).toNat (K.h 1).toNat ≠ 0)))) ∧ trK b k S K p q r (tkF b k S K p q r (K.l 1).toNat (K.h 1).toNat) X)) := by
  refine Runs.of pn_X1 (Nat.le_of_ble_eq_true rfl) rfl ?_
  show TT G M_X1_grow (rmd 6 162 162) 162 (Zm G 162 162 (PQ [] [(52, 9, 13), (55, 12, 18)] V R (fun o X => o = some (vi (bi (decide (tkF b k S K p q r (K.l 1).toNat (K.h 1).toNat ≠ 0)))) ∧ trK b k S K p q r (tkF b k S K p q r (K.l 1).toNat (K.h 1).toNat) X))) 162 0 [(0, vr 52)] [] V R
  have fV : chg [] [(52, 9, 13), (55, 12, 18)] V V := chg_r
  have hM4 := so.1
  have ko1 := ko
  obtain ⟨k0, k1, _, _, _, _, _, k7, _⟩ := ko1
  refine T_al d_X1_grow_0 rfl ?_
  refine T_k d_X1_grow_1 ?_
  refine F_pin d_X1_grow_2 rfl hB rfl (fun V_1 eV_1 hBV_1 => ?_)
  have fV_1 := chg_u eV_1 rfl fV
  have bCV_1 := bC_c bCV fV_1 rfl
  have kCV_1 := kC_c kCV h19 fV_1 rfl
  have mCV_1 := mapC_c mCV fV_1 rfl
  refine T_al d_X1_grow_5 rfl ?_
  refine T_k d_X1_grow_6 ?_
  refine F_pin d_X1_grow_7 rfl hBV_1 rfl (fun V_2 eV_2 hBV_2 => ?_)
  have fV_2 := chg_u eV_2 rfl fV_1
  have bCV_2 := bC_c bCV fV_2 rfl
  have kCV_2 := kC_c kCV h19 fV_2 rfl
  have mCV_2 := mapC_c mCV fV_2 rfl
  refine T_al d_X1_grow_10 rfl ?_
  refine T_k d_X1_grow_11 ?_
  refine F_pin d_X1_grow_12 rfl hBV_2 rfl (fun V_3 eV_3 hBV_3 => ?_)
  have fV_3 := chg_u eV_3 rfl fV_2
  have bCV_3 := bC_c bCV fV_3 rfl
  have kCV_3 := kC_c kCV h19 fV_3 rfl
  have mCV_3 := mapC_c mCV fV_3 rfl
  refine T_al d_X1_grow_15 rfl ?_
  refine T_k d_X1_grow_16 ?_
  refine F_pin d_X1_grow_17 rfl hBV_3 rfl (fun V_4 eV_4 hBV_4 => ?_)
  have fV_4 := chg_u eV_4 rfl fV_3
  have bCV_4 := bC_c bCV fV_4 rfl
  have kCV_4 := kC_c kCV h19 fV_4 rfl
  have mCV_4 := mapC_c mCV fV_4 rfl
  refine T_al d_X1_grow_20 rfl ?_
  refine T_jk d_X1_grow_21 ?_
  refine F_pjn d_X1_grow_22 rfl hBV_4 rfl (fun V_5 eV_5 hBV_5 => ?_)
  have fV_5 := chg_u eV_5 rfl fV_4
  have bCV_5 := bC_c bCV fV_5 rfl
  have kCV_5 := kC_c kCV h19 fV_5 rfl
  have mCV_5 := mapC_c mCV fV_5 rfl
  refine T_al d_X1_grow_25 rfl ?_
  refine F_gr (b := 55) d_X1_grow_26 rfl hF rfl ?_
  refine T_k d_X1_grow_29 ?_
  refine F_pi d_X1_grow_30 rfl hBV_5 rfl ⟨by omega, by omega⟩ (fun V_6 eV_6 hBV_6 => ?_)
  have fV_6 := chg_u eV_6 rfl fV_5
  have bCV_6 := bC_c bCV fV_6 rfl
  have kCV_6 := kC_c kCV h19 fV_6 rfl
  have mCV_6 := mapC_c mCV fV_6 rfl
  refine T_al d_X1_grow_33 rfl ?_
  have kh1 : V_6 ka (11 : Int).toNat = K.h 1 := ((kCV_6 1 (by omega)).2).trans (if_pos rfl)
  refine T_gr uws_ok d_X1_grow_34 rfl (lay_lc rfl (by decide)) hka ?_
  refine T_k d_X1_grow_37 ?_
  refine F_ia d_X1_grow_39 hla hBV_6 hba ⟨by omega, by omega⟩ (fun b_7 => ?_)
  try simp only [Int.toNat_natCast, kh1]
  try simp only [Int.toNat_natCast, kh1] at b_7
  refine F_isg d_X1_grow_40 (f := fun x_8 => [(0, vr 52), (1, vi x_8)]) (fun _ => rfl) (fun x_8 ex_8 => ?_)
  have hmx : x_8 = K.h 1 := ex_8
  have hpr : x_8 * (ro : Int) = (((K.h 1).toNat : Nat) : Int) * (ro : Int) := by rw [show x_8 = (((K.h 1).toNat : Nat) : Int) by omega]
  have hpb := mulb (i := x_8) (v := (ro : Int)) (M := 4) (N := 8) (by omega) (by omega) (by omega) (by omega)
  refine T_k d_X1_grow_41 ?_
  refine T_is d_X1_grow_42 (ls' := [(0, vr 52), (1, vi x_8), (2, vi 1)]) rfl ?_
  refine T_k d_X1_grow_43 ?_
  refine T_is d_X1_grow_44 (ls' := [(0, vr 52), (1, vi x_8), (2, vi 1), (3, vi 0)]) rfl ?_
  -- to 45 @45
  have L45 : ∀ (fu : Nat) (X : VV) (g : Int) (i : Nat), (K.h 1).toNat - i < fu → (Bd X) → (chg [] [(52, 9, 13), (55, 12, 18)] V X) → (i ≤ (K.h 1).toNat) → ((g = 1 ∧ ∃ s, hsO b k S K p q r i = some s ∧ hsC S s X) ∨ (g = 0 ∧ ∀ n, i < n → n ≤ (K.h 1).toNat → ¬ hkB b k S K p q r n = true)) → (trK b k S K p q r (tkF b k S K p q r (K.l 1).toNat i) X) → TT G M_X1_grow (rmd 6 162 162) 162 (Zm G 162 162 (PQ [] [(52, 9, 13), (55, 12, 18)] V R (fun o X => o = some (vi (bi (decide (tkF b k S K p q r (K.l 1).toNat (K.h 1).toNat ≠ 0)))) ∧ trK b k S K p q r (tkF b k S K p q r (K.l 1).toNat (K.h 1).toNat) X))) 162 45 [(0, vr 52), (1, vi x_8), (2, vi g), (3, vi (i : Int))] [] X R := by
    intro fu
    induction fu with
    | zero => intro X g i hm; exact absurd hm (Nat.not_lt_zero _)
    | succ fu ih45 =>
      intro X g i hm45 hBX fX hi hg hT
      have bCX := bC_c bCV fX rfl
      have kCX := kC_c kCV h19 fX rfl
      have mCX := mapC_c mCV fX rfl
      have tX : trP S K p q r X := by unfold trP; rw [chg_j (c := 55) (j := 4) fX rfl, chg_j (c := 55) (j := 5) fX rfl, chg_j (c := 55) (j := 6) fX rfl, chg_j (c := 55) (j := 7) fX rfl, chg_j (c := 55) (j := 8) fX rfl, chg_j (c := 55) (j := 9) fX rfl, chg_j (c := 55) (j := 10) fX rfl]; exact ht
      have x2 : X 52 2 = k := (chg_j fX rfl).trans hwk
      have hg01 : 0 ≤ g ∧ g ≤ 1 := by rcases hg with hg | hg; (have := hg.1; omega); (have := hg.1; omega)
      refine T_il d_X1_grow_45 rfl ?_
      refine T_il d_X1_grow_46 rfl ?_
      refine T_ige d_X1_grow_47 ⟨by omega, by omega⟩ ⟨by omega, by omega⟩ (fun h47 => ?_) (fun h47 => ?_)
      · skip
        have hTT : trK b k S K p q r (tkF b k S K p q r (K.l 1).toNat (K.h 1).toNat) X := by rw [← (show i = (K.h 1).toNat by omega)]; exact hT
        have hT1 := hTT.1
        refine T_al d_X1_grow_142 rfl ?_
        refine F_gr (b := 55) d_X1_grow_143 rfl hF rfl ?_
        refine F_gi d_X1_grow_146 rfl hBX rfl (fun b_9 => ?_)
        refine T_zle d_X1_grow_149 ⟨by omega, by omega⟩ (fun h149 => ?_) (fun h149 => ?_)
        · skip
          refine T_k d_X1_grow_156 ?_
          -- leaf 47t.149t@157
          refine T_zret0 d_X1_grow_157 rfl ?_
          exact ⟨rfl, hBX, fX, by rw [decide_eq_false (by omega)], hTT⟩
        · skip
          refine T_k d_X1_grow_152 ?_
          refine T_go d_X1_grow_153 ?_
          -- leaf 47t.149f@157
          refine T_zret1 d_X1_grow_157 rfl ?_
          exact ⟨rfl, hBX, fX, by rw [decide_eq_true (by omega)], hTT⟩
      · skip
        refine T_il d_X1_grow_50 rfl ?_
        refine T_zeq d_X1_grow_51 ⟨by omega, by omega⟩ (fun h51 => ?_) (fun h51 => ?_)
        · skip
          have hTT : trK b k S K p q r (tkF b k S K p q r (K.l 1).toNat (K.h 1).toNat) X := by rw [tk_e hi (hg.resolve_left (fun z => by have := z.1; omega)).2]; exact hT
          have hT1 := hTT.1
          refine T_al d_X1_grow_142 rfl ?_
          refine F_gr (b := 55) d_X1_grow_143 rfl hF rfl ?_
          refine F_gi d_X1_grow_146 rfl hBX rfl (fun b_10 => ?_)
          refine T_zle d_X1_grow_149 ⟨by omega, by omega⟩ (fun h149 => ?_) (fun h149 => ?_)
          · skip
            refine T_k d_X1_grow_156 ?_
            -- leaf 47f.51t.149t@157
            refine T_zret0 d_X1_grow_157 rfl ?_
            exact ⟨rfl, hBX, fX, by rw [decide_eq_false (by omega)], hTT⟩
          · skip
            refine T_k d_X1_grow_152 ?_
            refine T_go d_X1_grow_153 ?_
            -- leaf 47f.51t.149f@157
            refine T_zret1 d_X1_grow_157 rfl ?_
            exact ⟨rfl, hBX, fX, by rw [decide_eq_true (by omega)], hTT⟩
        · skip
          have L110 : ∀ (Y : VV) (gv ev : Int), (Bd Y) → (chg [] [(52, 9, 13), (55, 12, 18)] V Y) → ((gv = 0 ∧ ¬ faB b k S K p q r i = true) ∨ (gv = 1 ∧ ∃ u, hsO b k S K p q r (i + 1) = some u ∧ hsC S u Y ∧ ev = ((i : Int) + 1) * (ro : Int) - u.1)) → (trK b k S K p q r (tkF b k S K p q r (K.l 1).toNat (i + 1)) Y) → TT G M_X1_grow (rmd 6 162 162) 162 (Zm G 162 162 (PQ [] [(52, 9, 13), (55, 12, 18)] V R (fun o X => o = some (vi (bi (decide (tkF b k S K p q r (K.l 1).toNat (K.h 1).toNat ≠ 0)))) ∧ trK b k S K p q r (tkF b k S K p q r (K.l 1).toNat (K.h 1).toNat) X))) 162 110 [(0, vr 52), (1, vi x_8), (2, vi gv), (3, vi (i : Int)), (4, vi ev)] [] Y R := by
            intro Y gv ev hBY fY hcv hTY
            have bCY := bC_c bCV fY rfl
            have kCY := kC_c kCV h19 fY rfl
            have mCY := mapC_c mCV fY rfl
            clear hg
            have hgv : 0 ≤ gv ∧ gv ≤ 1 := by rcases hcv with h | h; (have := h.1; omega); (have := h.1; omega)
            have y10 : Y 55 10 = (ro : Int) := (chg_j (c := 55) (j := 10) fY rfl).trans (ht.2.2.2.2.2.2.trans hro)
            have hmr := mulb (i := (i : Int) + 1) (v := (ro : Int)) (M := 4) (N := 8) (by omega) (by omega) (by omega) (by omega)
            refine T_il d_X1_grow_110 rfl ?_
            refine T_zeq d_X1_grow_111 ⟨by omega, by omega⟩ (fun h111 => ?_) (fun h111 => ?_)
            · skip
              refine T_k d_X1_grow_134 ?_
              refine T_is d_X1_grow_135 (ls' := [(0, vr 52), (1, vi x_8), (2, vi 0), (3, vi (i : Int)), (4, vi ev)]) rfl ?_
              refine F_incg d_X1_grow_136 rfl (f := fun x_11 => [(0, vr 52), (1, vi x_8), (2, vi 0), (3, vi x_11), (4, vi ev)]) (fun _ => rfl) (fun x_11 ex_11 => ?_)
              refine T_go d_X1_grow_139 ?_
              -- to 45 111t@45
              refine T_subp (ks := [0, 1, 2, 3]) (ls' := [(0, vr 52), (1, vi x_8), (2, vi 0), (3, vi x_11)]) rfl ?_
              obtain rfl : x_11 = ((i + 1) : Int) := by omega
              exact ih45 Y 0 (i + 1) (by omega) hBY fY (by first | assumption | omega) (Or.inr ⟨rfl, fun n h1 h2 => gr_a (hcv.resolve_right (fun z => by have := z.1; omega)).2 (by omega)⟩) hTY
            · skip
              obtain ⟨_, u, hu, huv, hev⟩ := hcv.resolve_left (fun z => by have := z.1; omega)
              clear hcv
              have hub := (hs_b hro (by omega) hM4 (by omega) hu).1
              refine T_k d_X1_grow_114 ?_
              refine T_il d_X1_grow_115 rfl ?_
              refine T_imul d_X1_grow_117 ?_
              refine T_il d_X1_grow_118 rfl ?_
              refine T_al d_X1_grow_119 rfl ?_
              refine F_gr (b := 55) d_X1_grow_120 rfl hF rfl ?_
              refine F_gi d_X1_grow_123 rfl hBY rfl (fun b_12 => ?_)
              rw [y10]
              refine T_imul d_X1_grow_126 ?_
              refine T_igt d_X1_grow_127 ⟨by omega, by omega⟩ ⟨by omega, by omega⟩ (fun h127 => ?_) (fun h127 => ?_)
              · skip
                refine T_k d_X1_grow_134 ?_
                refine T_is d_X1_grow_135 (ls' := [(0, vr 52), (1, vi x_8), (2, vi 0), (3, vi (i : Int)), (4, vi ev)]) rfl ?_
                refine F_incg d_X1_grow_136 rfl (f := fun x_13 => [(0, vr 52), (1, vi x_8), (2, vi 0), (3, vi x_13), (4, vi ev)]) (fun _ => rfl) (fun x_13 ex_13 => ?_)
                refine T_go d_X1_grow_139 ?_
                -- to 45 111f.127t@45
                refine T_subp (ks := [0, 1, 2, 3]) (ls' := [(0, vr 52), (1, vi x_8), (2, vi 0), (3, vi x_13)]) rfl ?_
                obtain rfl : x_13 = ((i + 1) : Int) := by omega
                exact ih45 Y 0 (i + 1) (by omega) hBY fY (by first | assumption | omega) (Or.inr ⟨rfl, fun n h1 h2 => gr_b hro hM4 hu (by omega) (by omega) h2⟩) hTY
              · skip
                refine T_k d_X1_grow_130 ?_
                refine T_go d_X1_grow_131 ?_
                refine T_is d_X1_grow_135 (ls' := [(0, vr 52), (1, vi x_8), (2, vi 1), (3, vi (i : Int)), (4, vi ev)]) rfl ?_
                refine F_incg d_X1_grow_136 rfl (f := fun x_14 => [(0, vr 52), (1, vi x_8), (2, vi 1), (3, vi x_14), (4, vi ev)]) (fun _ => rfl) (fun x_14 ex_14 => ?_)
                refine T_go d_X1_grow_139 ?_
                -- to 45 111f.127f@45
                refine T_subp (ks := [0, 1, 2, 3]) (ls' := [(0, vr 52), (1, vi x_8), (2, vi 1), (3, vi x_14)]) rfl ?_
                obtain rfl : x_14 = ((i + 1) : Int) := by omega
                exact ih45 Y 1 (i + 1) (by omega) hBY fY (by first | assumption | omega) (Or.inl ⟨rfl, u, hu, huv⟩) hTY
          obtain ⟨_, s, hs, hsv⟩ := hg.resolve_right (fun z => by have := z.1; omega)
          clear hg
          refine T_al d_X1_grow_54 rfl ?_
          refine T_il d_X1_grow_55 rfl ?_
          refine C_v1 d_X1_grow_56 rfl (hdF (by decide)) (hcF _) (R_X1_fillAcross (b := b) (k := k) (ro := ro) (s := s) (p := p) (q := q) (r := r) hBX hF bCX ho hka hla hba h19 kCX ko mCX so x2 hk hp hq hr hro tX (by omega) hs hsv) (fun r_15 V_16 R_17 qV_16 => ?_)
          obtain ⟨rfl, hBV_16, cV_16, rfl, pV_16⟩ := qV_16
          have fV_16 := chg_t (A := []) (F := [(52, 9, 13), (55, 12, 18)]) fX cV_16 rfl
          have bCV_16 := bC_c bCV fV_16 rfl
          have kCV_16 := kC_c kCV h19 fV_16 rfl
          have mCV_16 := mapC_c mCV fV_16 rfl
          refine F_isg d_X1_grow_59 (f := fun x_18 => [(0, vr 52), (1, vi x_8), (2, vi x_18), (3, vi (i : Int))]) (fun _ => rfl) (fun x_18 ex_18 => ?_)
          have hx2 : (x_18 = 1 ∧ faB b k S K p q r i = true) ∨ (x_18 = 0 ∧ ¬ faB b k S K p q r i = true) := by rw [ex_18, bi_if]; by_cases z : faB b k S K p q r i = true <;> simp [z]
          have w10 : V_16 55 10 = (ro : Int) := (chg_j (c := 55) (j := 10) fV_16 rfl).trans (ht.2.2.2.2.2.2.trans hro)
          have hTW := trK_x hT (chg_k (c := 55) cV_16 rfl)
          have pW := pV_16
          refine T_il d_X1_grow_60 rfl ?_
          refine T_k d_X1_grow_61 ?_
          refine T_iadd d_X1_grow_62 ?_
          refine T_al d_X1_grow_63 rfl ?_
          refine F_gr (b := 55) d_X1_grow_64 rfl hF rfl ?_
          refine F_gi d_X1_grow_67 rfl hBV_16 rfl (fun b_19 => ?_)
          rw [w10]
          refine T_imul d_X1_grow_70 ?_
          refine T_al d_X1_grow_71 rfl ?_
          refine F_gin d_X1_grow_72 rfl ?_
          refine T_isub d_X1_grow_75 ?_
          refine F_isg d_X1_grow_76 (f := fun x_20 => [(0, vr 52), (1, vi x_8), (2, vi x_18), (3, vi (i : Int)), (4, vi x_20)]) (fun _ => rfl) (fun x_20 ex_20 => ?_)
          refine T_il d_X1_grow_78 rfl ?_
          refine T_zeq d_X1_grow_79 ⟨by omega, by omega⟩ (fun h79 => ?_) (fun h79 => ?_)
          · skip
            -- to 110 47f.51f.79t@110
            exact L110 V_16 x_18 x_20 hBV_16 fV_16 (Or.inl ⟨h79, (hx2.resolve_left (fun z => by have := z.1; omega)).2⟩) (by rw [tk_f (fun z => gr_a (hx2.resolve_left (fun z => by have := z.1; omega)).2 (Nat.lt_succ_self i) z.2)]; exact hTW)
          · skip
            have hfa := (hx2.resolve_right (fun z => h79 z.1)).2
            have hg1 := (hx2.resolve_right (fun z => h79 z.1)).1
            obtain ⟨u, hu, huv⟩ := pW hfa
            have hub := hs_b hro (by omega) hM4 (by omega) hu
            have hu9 := huv.1
            have hpush : (((i + 1 : Nat) : Int)) * (ro : Int) = ((i : Int) + 1) * (ro : Int) := by push_cast; rfl
            have hkp : hkB b k S K p q r (i + 1) = true ↔ ((i : Int) + 1) * (ro : Int) ≤ 2 * u.1 := by rw [hk_s hu, decide_eq_true_iff, hro, hpush]; have f := fa_s hu; rw [hfa] at f; have f2 := of_decide_eq_true f.symm; exact ⟨fun z => z.1, fun z => ⟨z, f2⟩⟩
            have hmr := mulb (i := (i : Int) + 1) (v := (ro : Int)) (M := 4) (N := 8) (by omega) (by omega) (by omega) (by omega)
            have kl1 : V_16 ka (1 : Int).toNat = K.l 1 := (kCV_16 1 (by omega)).1
            refine T_il d_X1_grow_82 rfl ?_
            refine T_k d_X1_grow_83 ?_
            refine T_iadd d_X1_grow_84 ?_
            refine T_al d_X1_grow_85 rfl ?_
            refine T_gr uws_ok d_X1_grow_86 rfl (lay_lc rfl (by decide)) hka ?_
            refine T_k d_X1_grow_89 ?_
            refine F_ia d_X1_grow_90 hla hBV_16 hba ⟨by omega, by omega⟩ (fun b_21 => ?_)
            try simp only [Int.toNat_natCast, kl1]
            try simp only [Int.toNat_natCast, kl1] at b_21
            refine T_ilt d_X1_grow_91 ⟨by omega, by omega⟩ ⟨by omega, by omega⟩ (fun h91 => ?_) (fun h91 => ?_)
            · skip
              -- to 110 47f.51f.79f.91t@110
              exact L110 V_16 x_18 x_20 hBV_16 fV_16 (Or.inr ⟨hg1, u, hu, huv, by rw [← hu9]; exact ex_20⟩) (by rw [tk_f (fun z => by have := z.1; omega)]; exact hTW)
            · skip
              refine T_al d_X1_grow_94 rfl ?_
              refine F_gin d_X1_grow_95 rfl ?_
              refine T_il d_X1_grow_98 rfl ?_
              refine T_ilt d_X1_grow_100 ⟨by omega, by omega⟩ ⟨by omega, by omega⟩ (fun h100 => ?_) (fun h100 => ?_)
              · skip
                -- to 110 47f.51f.79f.91f.100t@110
                exact L110 V_16 x_18 x_20 hBV_16 fV_16 (Or.inr ⟨hg1, u, hu, huv, by rw [← hu9]; exact ex_20⟩) (by rw [tk_f (fun z => by have := hkp.mp z.2; omega)]; exact hTW)
              · skip
                refine T_al d_X1_grow_103 rfl ?_
                refine T_il d_X1_grow_104 rfl ?_
                refine T_k d_X1_grow_105 ?_
                refine T_iadd d_X1_grow_106 ?_
                refine C_v1 d_X1_grow_107 rfl (hdF (by decide)) (hcF _) (R_X1_keep (n := i + 1) (s := u) (b := b) (k := k) (p := p) (q := q) (r := r) (S := S) hBV_16 hF hka hla hba h19 kCV_16 ko (by omega) hu huv hub.1) (fun r_22 V_23 R_24 qV_23 => ?_)
                obtain ⟨rfl, hBV_23, cV_23, rfl, pV_23⟩ := qV_23
                have fV_23 := chg_t (A := []) (F := [(52, 9, 13), (55, 12, 18)]) fV_16 cV_23 rfl
                have bCV_23 := bC_c bCV fV_23 rfl
                have kCV_23 := kC_c kCV h19 fV_23 rfl
                have mCV_23 := mapC_c mCV fV_23 rfl
                -- to 110 47f.51f.79f.91f.100f@110
                exact L110 V_23 x_18 x_20 hBV_23 fV_23 (Or.inr ⟨hg1, u, hu, hsC_x huv (chg_k (c := 52) cV_23 rfl), by rw [← hu9]; exact ex_20⟩) (by rw [tk_t (by omega) (hkp.mpr (by omega))]; exact pV_23)
  exact L45 _ V_6 1 (0) (Nat.lt_succ_self _) hBV_6 fV_6 (by first | assumption | omega) (Or.inl ⟨rfl, _, rfl, by rw [eV_6, eV_5, eV_4, eV_3, eV_2, eV_1]; rfl, by rw [eV_6, eV_5, eV_4, eV_3, eV_2]; rfl, by rw [eV_6, eV_5, eV_4, eV_3]; rfl, by rw [eV_6, eV_5, eV_4]; rfl, 0, by rw [eV_6, eV_5]; rfl, mR_0⟩) ⟨by rw [eV_6]; rfl, fun z => absurd rfl z⟩
