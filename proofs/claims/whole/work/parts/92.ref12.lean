set_option maxHeartbeats 1000000 in
set_option maxRecDepth 100000 in
theorem R_X11_isHouseWith {G : GG} {V : VV} {R : RR} {k : Int} {b : Bk} {S : Sp} {K : Kd} {kd p q r n ro : Nat} (hB : Bd V) (hF : FinR R) (bMV : bM b V) (sMV : sM S V) (so : sO S) (hkd : kd < 5) (kMV : kM K kd V) (ko : kO K) (hk : 0 ≤ k ∧ k ≤ 400) (hp : p < S.m) (hq : q < S.m) (hr : r < S.m) (hn : n ≤ 8) (hro : K.l 0 = (ro : Int)) : Runs G M_X11_isHouseWith 4 162 162 [vr 99, vi (kd:Int), vi (p:Int), vi (q:Int), vi (r:Int), vi (n:Int), vi k] V R (PQ [(148, 148)] [(99, 72, 77)] V R (fun o X => o = some (vi (bi (decide (hwB b k S K p q r n = true)))) ∧ (hwB b k S K p q r n = true → ∃ s, hsO b k S K p q r n = some s ∧ hsV s X ∧ X 99 76 = K.l 9 * s.1 - 5 * s.2.1 - 2 * s.2.2.1 ∧ plI (plO b k S K p q r) ro n 0 X))) := by
  refine Runs.of pn_X11 (Nat.le_of_ble_eq_true rfl) rfl ?_
  show TT G M_X11_isHouseWith (rmd 4 162 162) 162 (Zm G 162 162 (PQ [(148, 148)] [(99, 72, 77)] V R (fun o X => o = some (vi (bi (decide (hwB b k S K p q r n = true)))) ∧ (hwB b k S K p q r n = true → ∃ s, hsO b k S K p q r n = some s ∧ hsV s X ∧ X 99 76 = K.l 9 * s.1 - 5 * s.2.1 - 2 * s.2.2.1 ∧ plI (plO b k S K p q r) ro n 0 X)))) 162 0 [(0, vr 99), (1, vi (kd:Int)), (2, vi (p:Int)), (3, vi (q:Int)), (4, vi (r:Int)), (5, vi (n:Int)), (6, vi k)] [] V R
  have fV : chg [(148, 148)] [(99, 72, 77)] V V := chg_r
  have hm4 := so.1
  have ko1 := ko
  obtain ⟨ko0, _, _, _, _, _, ko6, ko7, _, ko9⟩ := ko1
  have sp := so.2 p hp
  have sq := so.2 q hq
  have sr := so.2 r hr
  have t0 : (10 * (kd : Int)).toNat = 10 * kd + 0 := by omega
  have t6 : (10 * (kd : Int) + 6).toNat = 10 * kd + 6 := by omega
  have t7 : (10 * (kd : Int) + 7).toNat = 10 * kd + 7 := by omega
  have t9 : (10 * (kd : Int) + 9).toNat = 10 * kd + 9 := by omega
  refine T_al d_X11_isHouseWith_0 rfl ?_
  refine F_gr (b := 122) d_X11_isHouseWith_1 rfl hF rfl ?_
  refine T_k d_X11_isHouseWith_4 ?_
  refine T_il d_X11_isHouseWith_6 rfl ?_
  refine T_imul d_X11_isHouseWith_7 ?_
  refine F_ia d_X11_isHouseWith_8 rfl hB rfl ⟨by omega, by omega⟩ (fun b_1 => ?_)
  try simp only [Int.toNat_natCast, t0, (kMV 0 (by omega)).1]
  try simp only [Int.toNat_natCast, t0, (kMV 0 (by omega)).1] at b_1
  refine F_isg d_X11_isHouseWith_9 (f := fun x_2 => [(0, vr 99), (1, vi (kd:Int)), (2, vi (p:Int)), (3, vi (q:Int)), (4, vi (r:Int)), (5, vi (n:Int)), (6, vi k), (7, vi x_2)]) (fun _ => rfl) (fun x_2 ex_2 => ?_)
  refine T_al d_X11_isHouseWith_11 rfl ?_
  refine F_gr (b := 132) d_X11_isHouseWith_12 rfl hF rfl ?_
  refine T_il d_X11_isHouseWith_15 rfl ?_
  refine F_ia d_X11_isHouseWith_16 rfl hB rfl ⟨by omega, by omega⟩ (fun b_3 => ?_)
  try simp only [Int.toNat_natCast, (sMV.2 q hq).2.1]
  try simp only [Int.toNat_natCast, (sMV.2 q hq).2.1] at b_3
  refine T_al d_X11_isHouseWith_17 rfl ?_
  refine F_gr (b := 132) d_X11_isHouseWith_18 rfl hF rfl ?_
  refine T_il d_X11_isHouseWith_21 rfl ?_
  refine F_ia d_X11_isHouseWith_22 rfl hB rfl ⟨by omega, by omega⟩ (fun b_4 => ?_)
  try simp only [Int.toNat_natCast, (sMV.2 p hp).2.1]
  try simp only [Int.toNat_natCast, (sMV.2 p hp).2.1] at b_4
  refine T_isub d_X11_isHouseWith_23 ?_
  refine F_isg d_X11_isHouseWith_24 (f := fun x_5 => [(0, vr 99), (1, vi (kd:Int)), (2, vi (p:Int)), (3, vi (q:Int)), (4, vi (r:Int)), (5, vi (n:Int)), (6, vi k), (7, vi x_2), (8, vi x_5)]) (fun _ => rfl) (fun x_5 ex_5 => ?_)
  refine T_al d_X11_isHouseWith_26 rfl ?_
  refine F_gr (b := 133) d_X11_isHouseWith_27 rfl hF rfl ?_
  refine T_il d_X11_isHouseWith_30 rfl ?_
  refine F_ia d_X11_isHouseWith_31 rfl hB rfl ⟨by omega, by omega⟩ (fun b_6 => ?_)
  try simp only [Int.toNat_natCast, (sMV.2 q hq).2.2.1]
  try simp only [Int.toNat_natCast, (sMV.2 q hq).2.2.1] at b_6
  refine T_al d_X11_isHouseWith_32 rfl ?_
  refine F_gr (b := 133) d_X11_isHouseWith_33 rfl hF rfl ?_
  refine T_il d_X11_isHouseWith_36 rfl ?_
  refine F_ia d_X11_isHouseWith_37 rfl hB rfl ⟨by omega, by omega⟩ (fun b_7 => ?_)
  try simp only [Int.toNat_natCast, (sMV.2 p hp).2.2.1]
  try simp only [Int.toNat_natCast, (sMV.2 p hp).2.2.1] at b_7
  refine T_isub d_X11_isHouseWith_38 ?_
  refine F_isg d_X11_isHouseWith_39 (f := fun x_8 => [(0, vr 99), (1, vi (kd:Int)), (2, vi (p:Int)), (3, vi (q:Int)), (4, vi (r:Int)), (5, vi (n:Int)), (6, vi k), (7, vi x_2), (8, vi x_5), (9, vi x_8)]) (fun _ => rfl) (fun x_8 ex_8 => ?_)
  refine T_al d_X11_isHouseWith_41 rfl ?_
  refine F_gr (b := 132) d_X11_isHouseWith_42 rfl hF rfl ?_
  refine T_il d_X11_isHouseWith_45 rfl ?_
  refine F_ia d_X11_isHouseWith_47 rfl hB rfl ⟨by omega, by omega⟩ (fun b_9 => ?_)
  try simp only [Int.toNat_natCast, (sMV.2 r hr).2.1]
  try simp only [Int.toNat_natCast, (sMV.2 r hr).2.1] at b_9
  refine T_al d_X11_isHouseWith_48 rfl ?_
  refine F_gr (b := 132) d_X11_isHouseWith_49 rfl hF rfl ?_
  refine T_il d_X11_isHouseWith_52 rfl ?_
  refine F_ia d_X11_isHouseWith_53 rfl hB rfl ⟨by omega, by omega⟩ (fun b_10 => ?_)
  try simp only [Int.toNat_natCast, (sMV.2 p hp).2.1]
  try simp only [Int.toNat_natCast, (sMV.2 p hp).2.1] at b_10
  refine T_isub d_X11_isHouseWith_54 ?_
  refine F_isg d_X11_isHouseWith_55 (f := fun x_11 => [(0, vr 99), (1, vi (kd:Int)), (2, vi (p:Int)), (3, vi (q:Int)), (4, vi (r:Int)), (5, vi (n:Int)), (6, vi k), (7, vi x_2), (8, vi x_5), (9, vi x_8), (10, vi x_11)]) (fun _ => rfl) (fun x_11 ex_11 => ?_)
  refine T_al d_X11_isHouseWith_57 rfl ?_
  refine F_gr (b := 133) d_X11_isHouseWith_58 rfl hF rfl ?_
  refine T_il d_X11_isHouseWith_61 rfl ?_
  refine F_ia d_X11_isHouseWith_63 rfl hB rfl ⟨by omega, by omega⟩ (fun b_12 => ?_)
  try simp only [Int.toNat_natCast, (sMV.2 r hr).2.2.1]
  try simp only [Int.toNat_natCast, (sMV.2 r hr).2.2.1] at b_12
  refine T_al d_X11_isHouseWith_64 rfl ?_
  refine F_gr (b := 133) d_X11_isHouseWith_65 rfl hF rfl ?_
  refine T_il d_X11_isHouseWith_68 rfl ?_
  refine F_ia d_X11_isHouseWith_69 rfl hB rfl ⟨by omega, by omega⟩ (fun b_13 => ?_)
  try simp only [Int.toNat_natCast, (sMV.2 p hp).2.2.1]
  try simp only [Int.toNat_natCast, (sMV.2 p hp).2.2.1] at b_13
  refine T_isub d_X11_isHouseWith_70 ?_
  refine F_isg d_X11_isHouseWith_71 (f := fun x_14 => [(0, vr 99), (1, vi (kd:Int)), (2, vi (p:Int)), (3, vi (q:Int)), (4, vi (r:Int)), (5, vi (n:Int)), (6, vi k), (7, vi x_2), (8, vi x_5), (9, vi x_8), (10, vi x_11), (11, vi x_14)]) (fun _ => rfl) (fun x_14 ex_14 => ?_)
  refine T_al d_X11_isHouseWith_73 rfl ?_
  refine T_k d_X11_isHouseWith_74 ?_
  refine F_pin d_X11_isHouseWith_75 rfl hB rfl (fun V_15 eV_15 hBV_15 => ?_)
  have fV_15 := chg_u eV_15 rfl fV
  have bMV_15 := bM_c bMV fV_15 rfl
  have sMV_15 := sM_c sMV fV_15 rfl
  have kMV_15 := kM_c kMV fV_15 rfl
  refine T_al d_X11_isHouseWith_78 rfl ?_
  refine T_k d_X11_isHouseWith_79 ?_
  refine F_pin d_X11_isHouseWith_80 rfl hBV_15 rfl (fun V_16 eV_16 hBV_16 => ?_)
  have fV_16 := chg_u eV_16 rfl fV_15
  have bMV_16 := bM_c bMV fV_16 rfl
  have sMV_16 := sM_c sMV fV_16 rfl
  have kMV_16 := kM_c kMV fV_16 rfl
  refine T_al d_X11_isHouseWith_83 rfl ?_
  refine T_k d_X11_isHouseWith_84 ?_
  refine F_pin d_X11_isHouseWith_85 rfl hBV_16 rfl (fun V_17 eV_17 hBV_17 => ?_)
  have fV_17 := chg_u eV_17 rfl fV_16
  have bMV_17 := bM_c bMV fV_17 rfl
  have sMV_17 := sM_c sMV fV_17 rfl
  have kMV_17 := kM_c kMV fV_17 rfl
  refine T_al d_X11_isHouseWith_88 rfl ?_
  refine T_k d_X11_isHouseWith_89 ?_
  refine F_pin d_X11_isHouseWith_90 rfl hBV_17 rfl (fun V_18 eV_18 hBV_18 => ?_)
  have fV_18 := chg_u eV_18 rfl fV_17
  have bMV_18 := bM_c bMV fV_18 rfl
  have sMV_18 := sM_c sMV fV_18 rfl
  have kMV_18 := kM_c kMV fV_18 rfl
  refine T_al d_X11_isHouseWith_93 rfl ?_
  refine T_jk d_X11_isHouseWith_94 ?_
  refine F_pjn d_X11_isHouseWith_95 rfl hBV_18 rfl (fun V_19 eV_19 hBV_19 => ?_)
  have fV_19 := chg_u eV_19 rfl fV_18
  have bMV_19 := bM_c bMV fV_19 rfl
  have sMV_19 := sM_c sMV fV_19 rfl
  have kMV_19 := kM_c kMV fV_19 rfl
  refine T_k d_X11_isHouseWith_98 ?_
  refine T_is d_X11_isHouseWith_99 (ls' := [(0, vr 99), (1, vi (kd:Int)), (2, vi (p:Int)), (3, vi (q:Int)), (4, vi (r:Int)), (5, vi (n:Int)), (6, vi k), (7, vi x_2), (8, vi x_5), (9, vi x_8), (10, vi x_11), (11, vi x_14), (12, vi 0)]) rfl ?_
  -- to 101 @101
  have L101 : ∀ (fu : Nat) (X : VV) (i : Nat) (s : HS), n - i < fu → (Bd X) → (chg [(148, 148)] [(99, 72, 77)] V X) → (i ≤ n) → (hsO b k S K p q r i = some s) → (hsV s X) → (plI (plO b k S K p q r) ro i 0 X) → TT G M_X11_isHouseWith (rmd 4 162 162) 162 (Zm G 162 162 (PQ [(148, 148)] [(99, 72, 77)] V R (fun o X => o = some (vi (bi (decide (hwB b k S K p q r n = true)))) ∧ (hwB b k S K p q r n = true → ∃ s, hsO b k S K p q r n = some s ∧ hsV s X ∧ X 99 76 = K.l 9 * s.1 - 5 * s.2.1 - 2 * s.2.2.1 ∧ plI (plO b k S K p q r) ro n 0 X)))) 162 101 [(0, vr 99), (1, vi (kd:Int)), (2, vi (p:Int)), (3, vi (q:Int)), (4, vi (r:Int)), (5, vi (n:Int)), (6, vi k), (7, vi x_2), (8, vi x_5), (9, vi x_8), (10, vi x_11), (11, vi x_14), (12, vi (i : Int))] [] X R := by
    intro fu
    induction fu with
    | zero => intro X i s hm; exact absurd hm (Nat.not_lt_zero _)
    | succ fu ih101 =>
      intro X i s hm101 hBX fX hi hs hV hPX
      have bMX := bM_c bMV fX rfl
      have sMX := sM_c sMV fX rfl
      have kMX := kM_c kMV fX rfl
      refine T_il d_X11_isHouseWith_101 rfl ?_
      refine T_il d_X11_isHouseWith_103 rfl ?_
      refine T_ige d_X11_isHouseWith_105 ⟨by omega, by omega⟩ ⟨by omega, by omega⟩ (fun h105 => ?_) (fun h105 => ?_)
      · skip
        have hin : i = n := by omega
        rw [hin] at hs hPX
        have hI := hs_I (j := 0) hro hm4 hs rfl
        have hmr := mulb (i := (n : Int)) (v := (ro : Int)) (M := 4) (N := 8) (by omega) (by omega) (by omega) (by omega)
        have hnr : ((n * ro : Nat) : Int) = (n : Int) * (ro : Int) := by push_cast; rfl
        have hI1 := hI.1
        have hV1 := hV.1
        have hV2 := hV.2.1
        have hV3 := hV.2.2.1
        have e7n : (n : Int) * x_2 = (n : Int) * K.l 0 := by rw [ex_2]
        have e7m : (n : Int) * K.l 0 = (n : Int) * (ro : Int) := by rw [hro]
        refine T_k d_X11_isHouseWith_356 ?_
        refine T_al d_X11_isHouseWith_357 rfl ?_
        refine F_gin d_X11_isHouseWith_358 rfl ?_
        refine T_imul d_X11_isHouseWith_361 ?_
        refine T_il d_X11_isHouseWith_362 rfl ?_
        refine T_il d_X11_isHouseWith_364 rfl ?_
        refine T_imul d_X11_isHouseWith_366 ?_
        refine T_ilt d_X11_isHouseWith_367 ⟨by omega, by omega⟩ ⟨by omega, by omega⟩ (fun h367 => ?_) (fun h367 => ?_)
        · skip
          refine T_k d_X11_isHouseWith_389 ?_
          -- leaf 105t.367t@390
          refine T_zret0 d_X11_isHouseWith_390 rfl ?_
          exact ⟨rfl, hBX, fX, by rw [decide_eq_false (hw_sf hs (fun z => by have := z.1; omega))], fun z => absurd z (hw_sf hs (fun z => by have := z.1; omega))⟩
        · skip
          refine T_al d_X11_isHouseWith_370 rfl ?_
          refine F_gin d_X11_isHouseWith_371 rfl ?_
          refine T_al d_X11_isHouseWith_374 rfl ?_
          refine F_gr (b := 122) d_X11_isHouseWith_375 rfl hF rfl ?_
          refine T_k d_X11_isHouseWith_378 ?_
          refine T_il d_X11_isHouseWith_380 rfl ?_
          refine T_imul d_X11_isHouseWith_381 ?_
          refine T_k d_X11_isHouseWith_382 ?_
          refine T_iadd d_X11_isHouseWith_384 ?_
          refine F_ia d_X11_isHouseWith_385 rfl hBX rfl ⟨by omega, by omega⟩ (fun b_20 => ?_)
          try simp only [Int.toNat_natCast, t7, (kMX 7 (by omega)).1]
          try simp only [Int.toNat_natCast, t7, (kMX 7 (by omega)).1] at b_20
          refine T_ile d_X11_isHouseWith_386 ⟨by omega, by omega⟩ ⟨by omega, by omega⟩ (fun h386 => ?_) (fun h386 => ?_)
          · skip
            have bp : landZ (lshrZ (X 99 77) (p : Int)) 1 = if s.2.2.2.2.testBit p = true then 1 else 0 := by rw [hV.2.2.2.2]; exact tb_1 (Nat.lt_trans hI.2.1 (by decide)) (by omega)
            have bq : landZ (lshrZ (X 99 77) (q : Int)) 1 = if s.2.2.2.2.testBit q = true then 1 else 0 := by rw [hV.2.2.2.2]; exact tb_1 (Nat.lt_trans hI.2.1 (by decide)) (by omega)
            have br : landZ (lshrZ (X 99 77) (r : Int)) 1 = if s.2.2.2.2.testBit r = true then 1 else 0 := by rw [hV.2.2.2.2]; exact tb_1 (Nat.lt_trans hI.2.1 (by decide)) (by omega)
            refine T_al d_X11_isHouseWith_391 rfl ?_
            refine F_gjn d_X11_isHouseWith_392 rfl ?_
            refine T_il d_X11_isHouseWith_395 rfl ?_
            refine T_lshr d_X11_isHouseWith_396 ?_
            refine T_jk d_X11_isHouseWith_397 ?_
            refine T_land d_X11_isHouseWith_398 ?_
            rw [bp]
            refine T_jk d_X11_isHouseWith_399 ?_
            refine T_leq d_X11_isHouseWith_400 d_X11_isHouseWith_401 (by split <;> exact ⟨by decide, by decide⟩) ⟨by omega, by omega⟩ (fun h400 => ?_) (fun h400 => ?_)
            · skip
              refine T_k d_X11_isHouseWith_431 ?_
              -- leaf 105t.367f.386t.400t@432
              refine T_zret0 d_X11_isHouseWith_432 rfl ?_
              exact ⟨rfl, hBX, fX, by rw [decide_eq_false (hw_sf hs (fun z => by rw [if_pos z.2.2.1] at h400; omega))], fun z => absurd z (hw_sf hs (fun z => by rw [if_pos z.2.2.1] at h400; omega))⟩
            · skip
              refine T_al d_X11_isHouseWith_404 rfl ?_
              refine F_gjn d_X11_isHouseWith_405 rfl ?_
              refine T_il d_X11_isHouseWith_408 rfl ?_
              refine T_lshr d_X11_isHouseWith_409 ?_
              refine T_jk d_X11_isHouseWith_410 ?_
              refine T_land d_X11_isHouseWith_411 ?_
              rw [bq]
              refine T_jk d_X11_isHouseWith_412 ?_
              refine T_leq d_X11_isHouseWith_413 d_X11_isHouseWith_414 (by split <;> exact ⟨by decide, by decide⟩) ⟨by omega, by omega⟩ (fun h413 => ?_) (fun h413 => ?_)
              · skip
                refine T_k d_X11_isHouseWith_431 ?_
                -- leaf 105t.367f.386t.400f.413t@432
                refine T_zret0 d_X11_isHouseWith_432 rfl ?_
                exact ⟨rfl, hBX, fX, by rw [decide_eq_false (hw_sf hs (fun z => by rw [if_pos z.2.2.2.1] at h413; omega))], fun z => absurd z (hw_sf hs (fun z => by rw [if_pos z.2.2.2.1] at h413; omega))⟩
              · skip
                refine T_al d_X11_isHouseWith_417 rfl ?_
                refine F_gjn d_X11_isHouseWith_418 rfl ?_
                refine T_il d_X11_isHouseWith_421 rfl ?_
                refine T_lshr d_X11_isHouseWith_423 ?_
                refine T_jk d_X11_isHouseWith_424 ?_
                refine T_land d_X11_isHouseWith_425 ?_
                rw [br]
                refine T_jk d_X11_isHouseWith_426 ?_
                refine T_lne d_X11_isHouseWith_427 d_X11_isHouseWith_428 (by split <;> exact ⟨by decide, by decide⟩) ⟨by omega, by omega⟩ (fun h427 => ?_) (fun h427 => ?_)
                · skip
                  have h90 : 0 ≤ K.l 9 * X 99 72 := Int.mul_nonneg (by omega) (by omega)
                  have h9 := mulb (i := K.l 9) (v := X 99 72) (M := 32) (N := 100) (by omega) (by omega) (by omega) (by omega)
                  refine T_al d_X11_isHouseWith_433 rfl ?_
                  refine T_al d_X11_isHouseWith_434 rfl ?_
                  refine F_gr (b := 122) d_X11_isHouseWith_435 rfl hF rfl ?_
                  refine T_k d_X11_isHouseWith_438 ?_
                  refine T_il d_X11_isHouseWith_440 rfl ?_
                  refine T_imul d_X11_isHouseWith_441 ?_
                  refine T_k d_X11_isHouseWith_442 ?_
                  refine T_iadd d_X11_isHouseWith_444 ?_
                  refine F_ia d_X11_isHouseWith_445 rfl hBX rfl ⟨by omega, by omega⟩ (fun b_21 => ?_)
                  try simp only [Int.toNat_natCast, t9, (kMX 9 (by omega)).1]
                  try simp only [Int.toNat_natCast, t9, (kMX 9 (by omega)).1] at b_21
                  refine T_al d_X11_isHouseWith_446 rfl ?_
                  refine F_gin d_X11_isHouseWith_447 rfl ?_
                  refine T_imul d_X11_isHouseWith_450 ?_
                  refine T_k d_X11_isHouseWith_451 ?_
                  refine T_al d_X11_isHouseWith_452 rfl ?_
                  refine F_gin d_X11_isHouseWith_453 rfl ?_
                  refine T_imul d_X11_isHouseWith_456 ?_
                  refine T_isub d_X11_isHouseWith_457 ?_
                  refine T_k d_X11_isHouseWith_458 ?_
                  refine T_al d_X11_isHouseWith_459 rfl ?_
                  refine F_gin d_X11_isHouseWith_460 rfl ?_
                  refine T_imul d_X11_isHouseWith_463 ?_
                  refine T_isub d_X11_isHouseWith_464 ?_
                  refine F_pi d_X11_isHouseWith_465 rfl hBX rfl ⟨by omega, by omega⟩ (fun V_22 eV_22 hBV_22 => ?_)
                  have fV_22 := chg_u eV_22 rfl fX
                  have bMV_22 := bM_c bMV fV_22 rfl
                  have sMV_22 := sM_c sMV fV_22 rfl
                  have kMV_22 := kM_c kMV fV_22 rfl
                  refine T_k d_X11_isHouseWith_468 ?_
                  -- leaf 105t.367f.386t.400f.413f.427t@469
                  refine T_zret1 d_X11_isHouseWith_469 rfl ?_
                  have w1 : s.2.2.2.2.testBit p = true := Classical.byContradiction fun z => h400 (if_neg z)
                  have w2 : s.2.2.2.2.testBit q = true := Classical.byContradiction fun z => h413 (if_neg z)
                  have w3 : s.2.2.2.2.testBit r = true := Classical.byContradiction fun z => h427 (if_neg z)
                  exact ⟨rfl, hBV_22, fV_22, by rw [decide_eq_true (hw_t hs (by omega) (by omega) w1 w2 w3)], fun _ => ⟨s, hs, by rw [eV_22]; exact hV, by rw [eV_22]; exact uV_self.trans (by rw [hV1, hV2, hV3]), fun a c z => by rw [eV_22]; exact hPX a c z⟩⟩
                · skip
                  refine T_k d_X11_isHouseWith_431 ?_
                  -- leaf 105t.367f.386t.400f.413f.427f@432
                  refine T_zret0 d_X11_isHouseWith_432 rfl ?_
                  exact ⟨rfl, hBX, fX, by rw [decide_eq_false (hw_sf hs (fun z => by rw [if_pos z.2.2.2.2] at h427; omega))], fun z => absurd z (hw_sf hs (fun z => by rw [if_pos z.2.2.2.2] at h427; omega))⟩
          · skip
            refine T_k d_X11_isHouseWith_389 ?_
            -- leaf 105t.367f.386f@390
            refine T_zret0 d_X11_isHouseWith_390 rfl ?_
            exact ⟨rfl, hBX, fX, by rw [decide_eq_false (hw_sf hs (fun z => by have := z.2.1; omega))], fun z => absurd z (hw_sf hs (fun z => by have := z.2.1; omega))⟩
      · skip
        refine T_k d_X11_isHouseWith_108 ?_
        refine T_is d_X11_isHouseWith_109 (ls' := [(0, vr 99), (1, vi (kd:Int)), (2, vi (p:Int)), (3, vi (q:Int)), (4, vi (r:Int)), (5, vi (n:Int)), (6, vi k), (7, vi x_2), (8, vi x_5), (9, vi x_8), (10, vi x_11), (11, vi x_14), (12, vi (i : Int)), (13, vi 0)]) rfl ?_
        -- to 111 105f@111
        have L111 : ∀ (fu : Nat) (Y : VV) (j : Nat) (u : HS), ro - j < fu → (Bd Y) → (chg [(148, 148)] [(99, 72, 77)] V Y) → (j ≤ ro) → (hrow (plO b k S K p q r) S.f (K.l 6) (some s) i j = some u) → (hsV u Y) → (plI (plO b k S K p q r) ro i j Y) → TT G M_X11_isHouseWith (rmd 4 162 162) 162 (Zm G 162 162 (PQ [(148, 148)] [(99, 72, 77)] V R (fun o X => o = some (vi (bi (decide (hwB b k S K p q r n = true)))) ∧ (hwB b k S K p q r n = true → ∃ s, hsO b k S K p q r n = some s ∧ hsV s X ∧ X 99 76 = K.l 9 * s.1 - 5 * s.2.1 - 2 * s.2.2.1 ∧ plI (plO b k S K p q r) ro n 0 X)))) 162 111 [(0, vr 99), (1, vi (kd:Int)), (2, vi (p:Int)), (3, vi (q:Int)), (4, vi (r:Int)), (5, vi (n:Int)), (6, vi k), (7, vi x_2), (8, vi x_5), (9, vi x_8), (10, vi x_11), (11, vi x_14), (12, vi (i : Int)), (13, vi (j : Int))] [] Y R := by
          intro fu
          induction fu with
          | zero => intro Y j u hm; exact absurd hm (Nat.not_lt_zero _)
          | succ fu ih111 =>
            intro Y j u hm111 hBY fY hj hu hV hP
            have bMY := bM_c bMV fY rfl
            have sMY := sM_c sMV fY rfl
            have kMY := kM_c kMV fY rfl
            refine T_il d_X11_isHouseWith_111 rfl ?_
            refine T_il d_X11_isHouseWith_113 rfl ?_
            refine T_ige d_X11_isHouseWith_115 ⟨by omega, by omega⟩ ⟨by omega, by omega⟩ (fun h115 => ?_) (fun h115 => ?_)
            · skip
              refine F_incg d_X11_isHouseWith_350 rfl (f := fun x_23 => [(0, vr 99), (1, vi (kd:Int)), (2, vi (p:Int)), (3, vi (q:Int)), (4, vi (r:Int)), (5, vi (n:Int)), (6, vi k), (7, vi x_2), (8, vi x_5), (9, vi x_8), (10, vi x_11), (11, vi x_14), (12, vi x_23), (13, vi (j : Int))]) (fun _ => rfl) (fun x_23 ex_23 => ?_)
              refine T_go d_X11_isHouseWith_353 ?_
              -- to 101 115t@101
              refine T_subp (ks := [0, 1, 2, 3, 4, 5, 6, 7, 8, 9, 10, 11, 12]) (ls' := [(0, vr 99), (1, vi (kd:Int)), (2, vi (p:Int)), (3, vi (q:Int)), (4, vi (r:Int)), (5, vi (n:Int)), (6, vi k), (7, vi x_2), (8, vi x_5), (9, vi x_8), (10, vi x_11), (11, vi x_14), (12, vi x_23)]) rfl ?_
              obtain rfl : x_23 = ((i + 1) : Int) := by omega
              exact ih101 Y (i + 1) (u) (by omega) hBY fY (by first | assumption | omega) (hs_s hro hs hu (by omega)) hV (fun a c z => hP a c (by omega))
            · skip
              have hpb := plO_b so hp hq hr (i := (i : Int)) (j := (j : Int)) ⟨by omega, by omega⟩ ⟨by omega, by omega⟩
              have t48 : (4 * (i : Int) + (j : Int)).toNat = 4 * i + j := by omega
              have hIu := hs_I hro hm4 hs hu
              have hmr := mulb (i := (i : Int)) (v := (ro : Int)) (M := 4) (N := 8) (by omega) (by omega) (by omega) (by omega)
              refine T_al d_X11_isHouseWith_118 rfl ?_
              refine T_il d_X11_isHouseWith_119 rfl ?_
              refine T_al d_X11_isHouseWith_120 rfl ?_
              refine F_gr (b := 132) d_X11_isHouseWith_121 rfl hF rfl ?_
              refine T_il d_X11_isHouseWith_124 rfl ?_
              refine F_ia d_X11_isHouseWith_125 rfl hBY rfl ⟨by omega, by omega⟩ (fun b_24 => ?_)
              try simp only [Int.toNat_natCast, (sMY.2 p hp).2.1]
              try simp only [Int.toNat_natCast, (sMY.2 p hp).2.1] at b_24
              refine T_il d_X11_isHouseWith_126 rfl ?_
              refine T_il d_X11_isHouseWith_128 rfl ?_
              refine T_imul d_X11_isHouseWith_130 ?_
              refine T_iadd d_X11_isHouseWith_131 ?_
              refine T_il d_X11_isHouseWith_132 rfl ?_
              refine T_il d_X11_isHouseWith_134 rfl ?_
              refine T_imul d_X11_isHouseWith_136 ?_
              refine T_iadd d_X11_isHouseWith_137 ?_
              refine T_al d_X11_isHouseWith_138 rfl ?_
              refine F_gr (b := 133) d_X11_isHouseWith_139 rfl hF rfl ?_
              refine T_il d_X11_isHouseWith_142 rfl ?_
              refine F_ia d_X11_isHouseWith_143 rfl hBY rfl ⟨by omega, by omega⟩ (fun b_25 => ?_)
              try simp only [Int.toNat_natCast, (sMY.2 p hp).2.2.1]
              try simp only [Int.toNat_natCast, (sMY.2 p hp).2.2.1] at b_25
              refine T_il d_X11_isHouseWith_144 rfl ?_
              refine T_il d_X11_isHouseWith_146 rfl ?_
              refine T_imul d_X11_isHouseWith_148 ?_
              refine T_iadd d_X11_isHouseWith_149 ?_
              refine T_il d_X11_isHouseWith_150 rfl ?_
              refine T_il d_X11_isHouseWith_152 rfl ?_
              refine T_imul d_X11_isHouseWith_154 ?_
              refine T_iadd d_X11_isHouseWith_155 ?_
              refine T_il d_X11_isHouseWith_156 rfl ?_
              refine C_pv4 d_X11_isHouseWith_158 rfl (hdF (by decide)) (hcF _) (R_X11_placed (K := K) hBY hF bMY sMY so (by rw [ex_5, ex_11]; exact hpb.1) (by rw [ex_8, ex_14]; exact hpb.2) hkd kMY ko hk) ?_
              refine F_isg d_X11_isHouseWith_161 (f := fun x_26 => [(0, vr 99), (1, vi (kd:Int)), (2, vi (p:Int)), (3, vi (q:Int)), (4, vi (r:Int)), (5, vi (n:Int)), (6, vi k), (7, vi x_2), (8, vi x_5), (9, vi x_8), (10, vi x_11), (11, vi x_14), (12, vi (i : Int)), (13, vi (j : Int)), (14, vi x_26)]) (fun _ => rfl) (fun x_26 ex_26 => ?_)
              have ef : x_26 = (plO b k S K p q r i j) := by rw [ex_26, ex_5, ex_8, ex_11, ex_14]; rfl
              have fr := plO_r (b := b) (k := k) (S := S) (K := K) (p := p) (q := q) (r := r) (i := i) (j := j) hm4
              refine T_al d_X11_isHouseWith_163 rfl ?_
              refine F_gr (b := 148) d_X11_isHouseWith_164 rfl hF rfl ?_
              refine T_k d_X11_isHouseWith_167 ?_
              refine T_il d_X11_isHouseWith_168 rfl ?_
              refine T_imul d_X11_isHouseWith_170 ?_
              refine T_il d_X11_isHouseWith_171 rfl ?_
              refine T_iadd d_X11_isHouseWith_173 ?_
              refine T_il d_X11_isHouseWith_174 rfl ?_
              refine F_is d_X11_isHouseWith_176 rfl hBY rfl ⟨by omega, by omega⟩ ⟨by omega, by omega⟩ (fun V_27 eV_27 hBV_27 => ?_)
              have fV_27 := chg_u eV_27 rfl fY
              have bMV_27 := bM_c bMV fV_27 rfl
              have sMV_27 := sM_c sMV fV_27 rfl
              have kMV_27 := kM_c kMV fV_27 rfl
              refine T_il d_X11_isHouseWith_177 rfl ?_
              refine T_k d_X11_isHouseWith_179 ?_
              refine T_ine d_X11_isHouseWith_181 ⟨by omega, by omega⟩ ⟨by omega, by omega⟩ (fun h181 => ?_) (fun h181 => ?_)
              · skip
                refine T_il d_X11_isHouseWith_194 rfl ?_
                refine T_k d_X11_isHouseWith_196 ?_
                refine T_ine d_X11_isHouseWith_198 ⟨by omega, by omega⟩ ⟨by omega, by omega⟩ (fun h198 => ?_) (fun h198 => ?_)
                · skip
                  refine T_il d_X11_isHouseWith_211 rfl ?_
                  refine T_k d_X11_isHouseWith_213 ?_
                  refine T_ine d_X11_isHouseWith_215 ⟨by omega, by omega⟩ ⟨by omega, by omega⟩ (fun h215 => ?_) (fun h215 => ?_)
                  · skip
                    refine T_il d_X11_isHouseWith_228 rfl ?_
                    refine T_zge d_X11_isHouseWith_230 ⟨by omega, by omega⟩ (fun h230 => ?_) (fun h230 => ?_)
                    · skip
                      refine T_al d_X11_isHouseWith_236 rfl ?_
                      refine F_gjn d_X11_isHouseWith_237 rfl ?_
                      have fV_27_99_77 : V_27 99 77 = Y 99 77 := by rw [eV_27]; rfl
                      rw [fV_27_99_77]
                      refine T_il d_X11_isHouseWith_240 rfl ?_
                      refine T_lshr d_X11_isHouseWith_242 ?_
                      refine T_jk d_X11_isHouseWith_243 ?_
                      refine T_land d_X11_isHouseWith_244 ?_
                      have et : landZ (lshrZ (Y 99 77) x_26) 1 = if u.2.2.2.2.testBit (plO b k S K p q r i j).toNat = true then 1 else 0 := by rw [hV.2.2.2.2, show x_26 = (((plO b k S K p q r i j).toNat : Nat) : Int) by omega]; exact tb_1 (Nat.lt_trans hIu.2.1 (by decide)) (by omega)
                      rw [et]
                      refine T_jk d_X11_isHouseWith_245 ?_
                      refine T_lne d_X11_isHouseWith_246 d_X11_isHouseWith_247 (by split <;> exact ⟨by decide, by decide⟩) ⟨by omega, by omega⟩ (fun h246 => ?_) (fun h246 => ?_)
                      · skip
                        have hnb : ¬ u.2.2.2.2.testBit (plO b k S K p q r i j).toNat = true := fun z => h246 (if_pos z)
                        refine T_al d_X11_isHouseWith_252 rfl ?_
                        refine T_dup d_X11_isHouseWith_253 rfl ?_
                        refine F_gjn d_X11_isHouseWith_254 rfl ?_
                        have fV_27_99_77 : V_27 99 77 = Y 99 77 := by rw [eV_27]; rfl
                        rw [fV_27_99_77]
                        refine T_jk d_X11_isHouseWith_257 ?_
                        refine T_il d_X11_isHouseWith_258 rfl ?_
                        refine T_lshl d_X11_isHouseWith_260 ?_
                        refine T_lor d_X11_isHouseWith_261 ?_
                        refine F_pjn d_X11_isHouseWith_262 rfl hBV_27 rfl (fun V_28 eV_28 hBV_28 => ?_)
                        have fV_28 := chg_u eV_28 rfl fV_27
                        have bMV_28 := bM_c bMV fV_28 rfl
                        have sMV_28 := sM_c sMV fV_28 rfl
                        have kMV_28 := kM_c kMV fV_28 rfl
                        refine T_al d_X11_isHouseWith_265 rfl ?_
                        refine T_dup d_X11_isHouseWith_266 rfl ?_
                        refine F_gin d_X11_isHouseWith_267 rfl ?_
                        have fV_28_99_72 : V_28 99 72 = Y 99 72 := by rw [eV_28, eV_27]; rfl
                        rw [fV_28_99_72]
                        refine T_k d_X11_isHouseWith_270 ?_
                        refine T_iadd d_X11_isHouseWith_271 ?_
                        refine F_pin d_X11_isHouseWith_272 rfl hBV_28 rfl (fun V_29 eV_29 hBV_29 => ?_)
                        have fV_29 := chg_u eV_29 rfl fV_28
                        have bMV_29 := bM_c bMV fV_29 rfl
                        have sMV_29 := sM_c sMV fV_29 rfl
                        have kMV_29 := kM_c kMV fV_29 rfl
                        refine T_il d_X11_isHouseWith_275 rfl ?_
                        refine T_zle d_X11_isHouseWith_277 ⟨by omega, by omega⟩ (fun h277 => ?_) (fun h277 => ?_)
                        · skip
                          refine F_incg d_X11_isHouseWith_344 rfl (f := fun x_30 => [(0, vr 99), (1, vi (kd:Int)), (2, vi (p:Int)), (3, vi (q:Int)), (4, vi (r:Int)), (5, vi (n:Int)), (6, vi k), (7, vi x_2), (8, vi x_5), (9, vi x_8), (10, vi x_11), (11, vi x_14), (12, vi (i : Int)), (13, vi x_30), (14, vi x_26)]) (fun _ => rfl) (fun x_30 ex_30 => ?_)
                          refine T_go d_X11_isHouseWith_347 ?_
                          -- to 111 115f.181t.198t.215t.230t.246t.277t@111
                          refine T_subp (ks := [0, 1, 2, 3, 4, 5, 6, 7, 8, 9, 10, 11, 12, 13]) (ls' := [(0, vr 99), (1, vi (kd:Int)), (2, vi (p:Int)), (3, vi (q:Int)), (4, vi (r:Int)), (5, vi (n:Int)), (6, vi k), (7, vi x_2), (8, vi x_5), (9, vi x_8), (10, vi x_11), (11, vi x_14), (12, vi (i : Int)), (13, vi x_30)]) rfl ?_
                          have hst := st_y (by omega) hnb (fun z => by have := z.1; omega)
                          have hor := or_s (s := (plO b k S K p q r i j).toNat) hIu.2.1 (by omega)
                          obtain rfl : x_30 = ((j + 1) : Int) := by omega
                          exact ih111 V_29 (j + 1) _ (by omega) hBV_29 fV_29 (by first | assumption | omega) ((hrow_n hu).trans hst) (hv_f hV (eV_27.trans (by rw [t48])) eV_28 eV_29 (by rw [hV.2.2.2.2, show x_26 = (((plO b k S K p q r i j).toNat : Nat) : Int) by omega]; exact hor.1)) (pl_s hP (by omega) (by omega) (by rw [eV_29, eV_28, eV_27, t48]; rfl) ef)
                        · skip
                          have tp : V_27 148 (4 * (i : Int) + (j : Int) - 1).toNat = plO b k S K p q r i (j - 1) := by rw [show (4 * (i : Int) + (j : Int) - 1).toNat = 4 * i + (j - 1) by omega, eV_27, t48, uV_at, if_neg (by omega)]; exact hP i (j - 1) (Or.inr ⟨rfl, by omega⟩)
                          have fp := plO_r (b := b) (k := k) (S := S) (K := K) (p := p) (q := q) (r := r) (i := i) (j := j - 1) hm4
                          refine T_al d_X11_isHouseWith_280 rfl ?_
                          refine F_gr (b := 148) d_X11_isHouseWith_281 rfl hF rfl ?_
                          refine T_k d_X11_isHouseWith_284 ?_
                          refine T_il d_X11_isHouseWith_285 rfl ?_
                          refine T_imul d_X11_isHouseWith_287 ?_
                          refine T_il d_X11_isHouseWith_288 rfl ?_
                          refine T_iadd d_X11_isHouseWith_290 ?_
                          refine T_k d_X11_isHouseWith_291 ?_
                          refine T_isub d_X11_isHouseWith_292 ?_
                          refine F_ia d_X11_isHouseWith_293 rfl hBV_29 rfl ⟨by omega, by omega⟩ (fun b_31 => ?_)
                          have faV_29_148 : V_29 148 = V_27 148 := by rw [eV_29, eV_28]; rfl
                          rw [faV_29_148]
                          rw [faV_29_148] at b_31
                          try simp only [Int.toNat_natCast, tp]
                          try simp only [Int.toNat_natCast, tp] at b_31
                          refine T_zlt d_X11_isHouseWith_294 ⟨by omega, by omega⟩ (fun h294 => ?_) (fun h294 => ?_)
                          · skip
                            refine F_incg d_X11_isHouseWith_344 rfl (f := fun x_32 => [(0, vr 99), (1, vi (kd:Int)), (2, vi (p:Int)), (3, vi (q:Int)), (4, vi (r:Int)), (5, vi (n:Int)), (6, vi k), (7, vi x_2), (8, vi x_5), (9, vi x_8), (10, vi x_11), (11, vi x_14), (12, vi (i : Int)), (13, vi x_32), (14, vi x_26)]) (fun _ => rfl) (fun x_32 ex_32 => ?_)
                            refine T_go d_X11_isHouseWith_347 ?_
                            -- to 111 115f.181t.198t.215t.230t.246t.277f.294t@111
                            refine T_subp (ks := [0, 1, 2, 3, 4, 5, 6, 7, 8, 9, 10, 11, 12, 13]) (ls' := [(0, vr 99), (1, vi (kd:Int)), (2, vi (p:Int)), (3, vi (q:Int)), (4, vi (r:Int)), (5, vi (n:Int)), (6, vi k), (7, vi x_2), (8, vi x_5), (9, vi x_8), (10, vi x_11), (11, vi x_14), (12, vi (i : Int)), (13, vi x_32)]) rfl ?_
                            have hst := st_y (by omega) hnb (fun z => by have := z.2.1; omega)
                            have hor := or_s (s := (plO b k S K p q r i j).toNat) hIu.2.1 (by omega)
                            obtain rfl : x_32 = ((j + 1) : Int) := by omega
                            exact ih111 V_29 (j + 1) _ (by omega) hBV_29 fV_29 (by first | assumption | omega) ((hrow_n hu).trans hst) (hv_f hV (eV_27.trans (by rw [t48])) eV_28 eV_29 (by rw [hV.2.2.2.2, show x_26 = (((plO b k S K p q r i j).toNat : Nat) : Int) by omega]; exact hor.1)) (pl_s hP (by omega) (by omega) (by rw [eV_29, eV_28, eV_27, t48]; rfl) ef)
                          · skip
                            have sf1 := (so.2 (x_26).toNat (by omega)).2.2.1
                            have sf2 := (so.2 (plO b k S K p q r i (j - 1)).toNat (by omega)).2.2.1
                            refine T_al d_X11_isHouseWith_297 rfl ?_
                            refine F_gr (b := 134) d_X11_isHouseWith_298 rfl hF rfl ?_
                            refine T_il d_X11_isHouseWith_301 rfl ?_
                            refine F_ia d_X11_isHouseWith_303 rfl hBV_29 rfl ⟨by omega, by omega⟩ (fun b_33 => ?_)
                            have faV_29_134 : V_29 134 = Y 134 := by rw [eV_29, eV_28, eV_27]; rfl
                            rw [faV_29_134]
                            rw [faV_29_134] at b_33
                            try simp only [Int.toNat_natCast, (sMY.2 (x_26).toNat (by omega)).2.2.2]
                            try simp only [Int.toNat_natCast, (sMY.2 (x_26).toNat (by omega)).2.2.2] at b_33
                            refine T_al d_X11_isHouseWith_304 rfl ?_
                            refine F_gr (b := 134) d_X11_isHouseWith_305 rfl hF rfl ?_
                            refine T_al d_X11_isHouseWith_308 rfl ?_
                            refine F_gr (b := 148) d_X11_isHouseWith_309 rfl hF rfl ?_
                            refine T_k d_X11_isHouseWith_312 ?_
                            refine T_il d_X11_isHouseWith_313 rfl ?_
                            refine T_imul d_X11_isHouseWith_315 ?_
                            refine T_il d_X11_isHouseWith_316 rfl ?_
                            refine T_iadd d_X11_isHouseWith_318 ?_
                            refine T_k d_X11_isHouseWith_319 ?_
                            refine T_isub d_X11_isHouseWith_320 ?_
                            refine F_ia d_X11_isHouseWith_321 rfl hBV_29 rfl ⟨by omega, by omega⟩ (fun b_34 => ?_)
                            have faV_29_148 : V_29 148 = V_27 148 := by rw [eV_29, eV_28]; rfl
                            rw [faV_29_148]
                            rw [faV_29_148] at b_34
                            try simp only [Int.toNat_natCast, tp]
                            try simp only [Int.toNat_natCast, tp] at b_34
                            refine F_ia d_X11_isHouseWith_322 rfl hBV_29 rfl ⟨by omega, by omega⟩ (fun b_35 => ?_)
                            have faV_29_134 : V_29 134 = Y 134 := by rw [eV_29, eV_28, eV_27]; rfl
                            rw [faV_29_134]
                            rw [faV_29_134] at b_35
                            try simp only [Int.toNat_natCast, (sMY.2 (plO b k S K p q r i (j - 1)).toNat (by omega)).2.2.2]
                            try simp only [Int.toNat_natCast, (sMY.2 (plO b k S K p q r i (j - 1)).toNat (by omega)).2.2.2] at b_35
                            refine T_isub d_X11_isHouseWith_323 ?_
                            refine C_ps1 d_X11_isHouseWith_324 (hdF (by decide)) (hcF _) (R_X11_size ⟨by omega, by omega⟩) ?_
                            refine T_al d_X11_isHouseWith_327 rfl ?_
                            refine F_gr (b := 122) d_X11_isHouseWith_328 rfl hF rfl ?_
                            refine T_k d_X11_isHouseWith_331 ?_
                            refine T_il d_X11_isHouseWith_333 rfl ?_
                            refine T_imul d_X11_isHouseWith_334 ?_
                            refine T_k d_X11_isHouseWith_335 ?_
                            refine T_iadd d_X11_isHouseWith_337 ?_
                            refine F_ia d_X11_isHouseWith_338 rfl hBV_29 rfl ⟨by omega, by omega⟩ (fun b_36 => ?_)
                            have faV_29_122 : V_29 122 = Y 122 := by rw [eV_29, eV_28, eV_27]; rfl
                            rw [faV_29_122]
                            rw [faV_29_122] at b_36
                            try simp only [Int.toNat_natCast, t6, (kMY 6 (by omega)).1]
                            try simp only [Int.toNat_natCast, t6, (kMY 6 (by omega)).1] at b_36
                            refine T_ile d_X11_isHouseWith_339 ⟨by omega, by omega⟩ ⟨by omega, by omega⟩ (fun h339 => ?_) (fun h339 => ?_)
                            · skip
                              refine F_incg d_X11_isHouseWith_344 rfl (f := fun x_37 => [(0, vr 99), (1, vi (kd:Int)), (2, vi (p:Int)), (3, vi (q:Int)), (4, vi (r:Int)), (5, vi (n:Int)), (6, vi k), (7, vi x_2), (8, vi x_5), (9, vi x_8), (10, vi x_11), (11, vi x_14), (12, vi (i : Int)), (13, vi x_37), (14, vi x_26)]) (fun _ => rfl) (fun x_37 ex_37 => ?_)
                              refine T_go d_X11_isHouseWith_347 ?_
                              -- to 111 115f.181t.198t.215t.230t.246t.277f.294f.339t@111
                              refine T_subp (ks := [0, 1, 2, 3, 4, 5, 6, 7, 8, 9, 10, 11, 12, 13]) (ls' := [(0, vr 99), (1, vi (kd:Int)), (2, vi (p:Int)), (3, vi (q:Int)), (4, vi (r:Int)), (5, vi (n:Int)), (6, vi k), (7, vi x_2), (8, vi x_5), (9, vi x_8), (10, vi x_11), (11, vi x_14), (12, vi (i : Int)), (13, vi x_37)]) rfl ?_
                              have hst := st_y (by omega) hnb (fun z => by have z3 := z.2.2; rw [← ef] at z3; simp only [abI] at z3; omega)
                              have hor := or_s (s := (plO b k S K p q r i j).toNat) hIu.2.1 (by omega)
                              obtain rfl : x_37 = ((j + 1) : Int) := by omega
                              exact ih111 V_29 (j + 1) _ (by omega) hBV_29 fV_29 (by first | assumption | omega) ((hrow_n hu).trans hst) (hv_f hV (eV_27.trans (by rw [t48])) eV_28 eV_29 (by rw [hV.2.2.2.2, show x_26 = (((plO b k S K p q r i j).toNat : Nat) : Int) by omega]; exact hor.1)) (pl_s hP (by omega) (by omega) (by rw [eV_29, eV_28, eV_27, t48]; rfl) ef)
                            · skip
                              refine T_k d_X11_isHouseWith_342 ?_
                              -- leaf 115f.181t.198t.215t.230t.246t.277f.294f.339f@343
                              refine T_zret0 d_X11_isHouseWith_343 rfl ?_
                              exact ⟨rfl, hBV_29, fV_29, by rw [decide_eq_false (hw_no (hs_f hro (by omega) (by omega) hs hu (st_p (by omega) hnb ⟨by omega, by omega, by rw [← ef]; simp only [abI]; omega⟩)))], fun z => absurd z (hw_no (hs_f hro (by omega) (by omega) hs hu (st_p (by omega) hnb ⟨by omega, by omega, by rw [← ef]; simp only [abI]; omega⟩)))⟩
                      · skip
                        have hb : u.2.2.2.2.testBit (plO b k S K p q r i j).toNat = true := Classical.byContradiction fun z => by rw [if_neg z] at h246; omega
                        refine T_k d_X11_isHouseWith_250 ?_
                        -- leaf 115f.181t.198t.215t.230t.246f@251
                        refine T_zret0 d_X11_isHouseWith_251 rfl ?_
                        exact ⟨rfl, hBV_27, fV_27, by rw [decide_eq_false (hw_no (hs_f hro (by omega) (by omega) hs hu (st_b (by omega) hb)))], fun z => absurd z (hw_no (hs_f hro (by omega) (by omega) hs hu (st_b (by omega) hb)))⟩
                    · omega
                  · skip
                    refine T_al d_X11_isHouseWith_218 rfl ?_
                    refine T_dup d_X11_isHouseWith_219 rfl ?_
                    refine F_gin d_X11_isHouseWith_220 rfl ?_
                    have fV_27_99_73 : V_27 99 73 = Y 99 73 := by rw [eV_27]; rfl
                    rw [fV_27_99_73]
                    refine T_k d_X11_isHouseWith_223 ?_
                    refine T_iadd d_X11_isHouseWith_224 ?_
                    refine F_pin d_X11_isHouseWith_225 rfl hBV_27 rfl (fun V_38 eV_38 hBV_38 => ?_)
                    have fV_38 := chg_u eV_38 rfl fV_27
                    have bMV_38 := bM_c bMV fV_38 rfl
                    have sMV_38 := sM_c sMV fV_38 rfl
                    have kMV_38 := kM_c kMV fV_38 rfl
                    refine T_il d_X11_isHouseWith_228 rfl ?_
                    refine T_zge d_X11_isHouseWith_230 ⟨by omega, by omega⟩ (fun h230 => ?_) (fun h230 => ?_)
                    · omega
                    · skip
                      refine T_go d_X11_isHouseWith_233 ?_
                      refine F_incg d_X11_isHouseWith_344 rfl (f := fun x_39 => [(0, vr 99), (1, vi (kd:Int)), (2, vi (p:Int)), (3, vi (q:Int)), (4, vi (r:Int)), (5, vi (n:Int)), (6, vi k), (7, vi x_2), (8, vi x_5), (9, vi x_8), (10, vi x_11), (11, vi x_14), (12, vi (i : Int)), (13, vi x_39), (14, vi x_26)]) (fun _ => rfl) (fun x_39 ex_39 => ?_)
                      refine T_go d_X11_isHouseWith_347 ?_
                      -- to 111 115f.181t.198t.215f.230f@111
                      refine T_subp (ks := [0, 1, 2, 3, 4, 5, 6, 7, 8, 9, 10, 11, 12, 13]) (ls' := [(0, vr 99), (1, vi (kd:Int)), (2, vi (p:Int)), (3, vi (q:Int)), (4, vi (r:Int)), (5, vi (n:Int)), (6, vi k), (7, vi x_2), (8, vi x_5), (9, vi x_8), (10, vi x_11), (11, vi x_14), (12, vi (i : Int)), (13, vi x_39)]) rfl ?_
                      obtain rfl : x_39 = ((j + 1) : Int) := by omega
                      exact ih111 V_38 (j + 1) _ (by omega) hBV_38 fV_38 (by first | assumption | omega) ((hrow_n hu).trans (by rw [st_n (by omega), if_neg (by omega), if_neg (by omega)])) (hv_m hV (eV_27.trans (by rw [t48])) eV_38) (pl_s hP (by omega) (by omega) (by rw [eV_38, eV_27, t48]; rfl) ef)
                · skip
                  refine T_al d_X11_isHouseWith_201 rfl ?_
                  refine T_dup d_X11_isHouseWith_202 rfl ?_
                  refine F_gin d_X11_isHouseWith_203 rfl ?_
                  have fV_27_99_74 : V_27 99 74 = Y 99 74 := by rw [eV_27]; rfl
                  rw [fV_27_99_74]
                  refine T_k d_X11_isHouseWith_206 ?_
                  refine T_iadd d_X11_isHouseWith_207 ?_
                  refine F_pin d_X11_isHouseWith_208 rfl hBV_27 rfl (fun V_40 eV_40 hBV_40 => ?_)
                  have fV_40 := chg_u eV_40 rfl fV_27
                  have bMV_40 := bM_c bMV fV_40 rfl
                  have sMV_40 := sM_c sMV fV_40 rfl
                  have kMV_40 := kM_c kMV fV_40 rfl
                  refine T_il d_X11_isHouseWith_211 rfl ?_
                  refine T_k d_X11_isHouseWith_213 ?_
                  refine T_ine d_X11_isHouseWith_215 ⟨by omega, by omega⟩ ⟨by omega, by omega⟩ (fun h215 => ?_) (fun h215 => ?_)
                  · skip
                    refine T_il d_X11_isHouseWith_228 rfl ?_
                    refine T_zge d_X11_isHouseWith_230 ⟨by omega, by omega⟩ (fun h230 => ?_) (fun h230 => ?_)
                    · omega
                    · skip
                      refine T_go d_X11_isHouseWith_233 ?_
                      refine F_incg d_X11_isHouseWith_344 rfl (f := fun x_41 => [(0, vr 99), (1, vi (kd:Int)), (2, vi (p:Int)), (3, vi (q:Int)), (4, vi (r:Int)), (5, vi (n:Int)), (6, vi k), (7, vi x_2), (8, vi x_5), (9, vi x_8), (10, vi x_11), (11, vi x_14), (12, vi (i : Int)), (13, vi x_41), (14, vi x_26)]) (fun _ => rfl) (fun x_41 ex_41 => ?_)
                      refine T_go d_X11_isHouseWith_347 ?_
                      -- to 111 115f.181t.198f.215t.230f@111
                      refine T_subp (ks := [0, 1, 2, 3, 4, 5, 6, 7, 8, 9, 10, 11, 12, 13]) (ls' := [(0, vr 99), (1, vi (kd:Int)), (2, vi (p:Int)), (3, vi (q:Int)), (4, vi (r:Int)), (5, vi (n:Int)), (6, vi k), (7, vi x_2), (8, vi x_5), (9, vi x_8), (10, vi x_11), (11, vi x_14), (12, vi (i : Int)), (13, vi x_41)]) rfl ?_
                      obtain rfl : x_41 = ((j + 1) : Int) := by omega
                      exact ih111 V_40 (j + 1) _ (by omega) hBV_40 fV_40 (by first | assumption | omega) ((hrow_n hu).trans (by rw [st_n (by omega), if_neg (by omega), if_pos (by omega)])) (hv_l hV (eV_27.trans (by rw [t48])) eV_40) (pl_s hP (by omega) (by omega) (by rw [eV_40, eV_27, t48]; rfl) ef)
                  · omega
              · skip
                refine T_al d_X11_isHouseWith_184 rfl ?_
                refine T_dup d_X11_isHouseWith_185 rfl ?_
                refine F_gin d_X11_isHouseWith_186 rfl ?_
                have fV_27_99_75 : V_27 99 75 = Y 99 75 := by rw [eV_27]; rfl
                rw [fV_27_99_75]
                refine T_k d_X11_isHouseWith_189 ?_
                refine T_iadd d_X11_isHouseWith_190 ?_
                refine F_pin d_X11_isHouseWith_191 rfl hBV_27 rfl (fun V_42 eV_42 hBV_42 => ?_)
                have fV_42 := chg_u eV_42 rfl fV_27
                have bMV_42 := bM_c bMV fV_42 rfl
                have sMV_42 := sM_c sMV fV_42 rfl
                have kMV_42 := kM_c kMV fV_42 rfl
                refine T_il d_X11_isHouseWith_194 rfl ?_
                refine T_k d_X11_isHouseWith_196 ?_
                refine T_ine d_X11_isHouseWith_198 ⟨by omega, by omega⟩ ⟨by omega, by omega⟩ (fun h198 => ?_) (fun h198 => ?_)
                · skip
                  refine T_il d_X11_isHouseWith_211 rfl ?_
                  refine T_k d_X11_isHouseWith_213 ?_
                  refine T_ine d_X11_isHouseWith_215 ⟨by omega, by omega⟩ ⟨by omega, by omega⟩ (fun h215 => ?_) (fun h215 => ?_)
                  · skip
                    refine T_il d_X11_isHouseWith_228 rfl ?_
                    refine T_zge d_X11_isHouseWith_230 ⟨by omega, by omega⟩ (fun h230 => ?_) (fun h230 => ?_)
                    · omega
                    · skip
                      refine T_go d_X11_isHouseWith_233 ?_
                      refine F_incg d_X11_isHouseWith_344 rfl (f := fun x_43 => [(0, vr 99), (1, vi (kd:Int)), (2, vi (p:Int)), (3, vi (q:Int)), (4, vi (r:Int)), (5, vi (n:Int)), (6, vi k), (7, vi x_2), (8, vi x_5), (9, vi x_8), (10, vi x_11), (11, vi x_14), (12, vi (i : Int)), (13, vi x_43), (14, vi x_26)]) (fun _ => rfl) (fun x_43 ex_43 => ?_)
                      refine T_go d_X11_isHouseWith_347 ?_
                      -- to 111 115f.181f.198t.215t.230f@111
                      refine T_subp (ks := [0, 1, 2, 3, 4, 5, 6, 7, 8, 9, 10, 11, 12, 13]) (ls' := [(0, vr 99), (1, vi (kd:Int)), (2, vi (p:Int)), (3, vi (q:Int)), (4, vi (r:Int)), (5, vi (n:Int)), (6, vi k), (7, vi x_2), (8, vi x_5), (9, vi x_8), (10, vi x_11), (11, vi x_14), (12, vi (i : Int)), (13, vi x_43)]) rfl ?_
                      obtain rfl : x_43 = ((j + 1) : Int) := by omega
                      exact ih111 V_42 (j + 1) _ (by omega) hBV_42 fV_42 (by first | assumption | omega) ((hrow_n hu).trans (by rw [st_n (by omega), if_pos (by omega)])) (hv_u hV (eV_27.trans (by rw [t48])) eV_42) (pl_s hP (by omega) (by omega) (by rw [eV_42, eV_27, t48]; rfl) ef)
                  · omega
                · omega
        exact L111 _ X (0) (s) (Nat.lt_succ_self _) hBX fX (by first | assumption | omega) rfl hV hPX
  exact L101 _ V_19 (0) ((0, 0, 0, 0, 0)) (Nat.lt_succ_self _) hBV_19 fV_19 (by first | assumption | omega) rfl ⟨by rw [eV_19, eV_18, eV_17, eV_16, eV_15]; rfl, by rw [eV_19, eV_18, eV_17, eV_16]; rfl, by rw [eV_19, eV_18, eV_17]; rfl, by rw [eV_19, eV_18]; rfl, by rw [eV_19]; rfl⟩ (fun a c z => by omega)
