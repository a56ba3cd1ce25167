theorem d2_X6_goOnFrom_121 : dMlx M_X6_goOnFrom 121 124 := ⟨170, d_X6_goOnFrom_121, rfl, w5_0⟩
set_option maxHeartbeats 1000000 in
set_option maxRecDepth 100000 in
theorem R_X6_digitShift {G : GG} {V : VV} {R : RR} {i : Int}   : RunsP G M_X6_digitShift 1 [vi i] V R (vi (4 * (12 - i))) := by
  unfold RunsP
  refine Runs.of pn_X6 (Nat.le_of_ble_eq_true rfl) rfl ?_
  show TT G M_X6_digitShift (rmd 1 162 162) 162 (Zm G 162 162 (QP V R (vi (4 * (12 - i))))) 162 0 [(0, vi i)] [] V R
  refine T_k d_X6_digitShift_0 ?_
  refine T_k d_X6_digitShift_1 ?_
  refine T_il d_X6_digitShift_3 rfl ?_
  refine T_isub d_X6_digitShift_4 ?_
  refine T_imul d_X6_digitShift_5 ?_
  -- leaf @6
  exact P_I d_X6_digitShift_6 (by rfl)
set_option maxHeartbeats 1000000 in
set_option maxRecDepth 100000 in
theorem R_X6_listSets {G : GG} {V : VV} {R : RR}  {r : Nat → Nat → Bool} {n : Nat} (hB : Bd V) (hF : FinR R) (hn : n ≤ 13) (h0 : V 85 0 = (n : Int)) (hr : rowC 90 r n V) (hs : ∀ i j, r i j = r j i) : Runs G M_X6_listSets 2 162 162 [vr 85] V R (PQ [(91, 92)] [] V R (fun o X => o = none ∧ lsS r (2 ^ n) X)) := by
  refine Runs.of pn_X6 (Nat.le_of_ble_eq_true rfl) rfl ?_
  show TT G M_X6_listSets (rmd 2 162 162) 162 (Zm G 162 162 (PQ [(91, 92)] [] V R (fun o X => o = none ∧ lsS r (2 ^ n) X))) 162 0 [(0, vr 85)] [] V R
  have fV : chg [(91, 92)] [] V V := chg_r
  have hp := Nat.pow_le_pow_right (n := 2) (by decide) hn
  have hp8 : 2 ^ n ≤ 8192 := hp
  have hp1 := Nat.two_pow_pos n
  refine T_al d_X6_listSets_0 rfl ?_
  refine F_gr (b := 91) d_X6_listSets_1 rfl hF rfl ?_
  refine T_k d_X6_listSets_4 ?_
  refine T_k d_X6_listSets_5 ?_
  refine F_zs d_X6_listSets_6 rfl hB rfl ⟨by omega, by omega⟩ ⟨by decide, by decide⟩ (fun V_1 eV_1 hBV_1 => ?_)
  have fV_1 := chg_u eV_1 rfl fV
  refine T_al d_X6_listSets_7 rfl ?_
  refine F_gr (b := 92) d_X6_listSets_8 rfl hF rfl ?_
  refine T_k d_X6_listSets_11 ?_
  refine T_jk d_X6_listSets_12 ?_
  refine F_ls d_X6_listSets_13 rfl hBV_1 rfl ⟨by omega, by omega⟩ ⟨by omega, by omega⟩ (fun V_2 eV_2 hBV_2 => ?_)
  have fV_2 := chg_u eV_2 rfl fV_1
  refine T_k d_X6_listSets_14 ?_
  refine T_is d_X6_listSets_15 (ls' := [(0, vr 85), (1, vi 1)]) rfl ?_
  -- to 16 @16
  have L16 : ∀ (fu : Nat) (X : VV) (s : Nat), 2 ^ n - s < fu → (Bd X) → (chg [(91, 92)] [] V X) → (1 ≤ s) → (s ≤ 2 ^ n) → (lsS r s X) → TT G M_X6_listSets (rmd 2 162 162) 162 (Zm G 162 162 (PQ [(91, 92)] [] V R (fun o X => o = none ∧ lsS r (2 ^ n) X))) 162 16 [(0, vr 85), (1, vi (s : Int))] [] X R := by
    intro fu
    induction fu with
    | zero => intro X s hm; exact absurd hm (Nat.not_lt_zero _)
    | succ fu ih16 =>
      intro X s hm16 hBX fX h1 hs2 xs
      have x0 : X 85 0 = (n : Int) := (fX 85 0 rfl rfl).trans h0
      have x90 := chg_k (c := 90) fX rfl
      refine T_il d_X6_listSets_16 rfl ?_
      refine T_k d_X6_listSets_17 ?_
      refine T_al d_X6_listSets_18 rfl ?_
      refine F_gi d_X6_listSets_19 rfl hBX rfl (fun b_3 => ?_)
      refine T_ishl d_X6_listSets_22 ?_
      rw [x0, show ishlZ 1 (n : Int) = ((2 ^ n : Nat) : Int) from by rw [show (1 : Int) = ((1 : Nat) : Int) from rfl, ishl_n (by omega) (by rw [Nat.one_mul]; omega), Nat.one_mul]]
      refine T_ige d_X6_listSets_23 ⟨by omega, by omega⟩ ⟨by omega, by omega⟩ (fun h23 => ?_) (fun h23 => ?_)
      · skip
        -- leaf 23t@93
        refine T_vret d_X6_listSets_93 rfl ?_
        have es : s = 2 ^ n := by omega
        rw [es] at xs
        exact ⟨rfl, hBX, fX, rfl, xs⟩
      · skip
        have hs13 : s < 2 ^ 13 := by show s < 8192; omega
        obtain ⟨l1, l2, l3, l4, l5⟩ := low_s 13 s (by omega) hs13
        have ln : lowB 13 s < n := by apply Classical.byContradiction; intro w; rw [Nat.testBit_lt_two_pow (Nat.lt_of_lt_of_le (show s < 2 ^ n by omega) (Nat.pow_le_pow_right (by decide) (by omega)))] at l2; cases l2
        have al := and_lt (s := s) (by omega)
        have xl := xs (s &&& (s - 1)) al
        have xr := hr (lowB 13 s) ln
        have bl := bn_lt (p := r (lowB 13 s)) (n := n)
        have fs := fre_s (k := 13) (n := n) hs (show 0 < s by omega) hs13 (by omega)
        have ds := dig_s (show 0 < s by omega) hs13
        have dl := dig_lt s
        have hval : X 92 (s &&& (s - 1)) + lshlZ 1 (4 * (12 - (lowB 13 s : Int))) = (cdN (inD s) 13 : Int) := by rw [shl16 l1, xl.2, ds]; push_cast; rfl
        refine T_il d_X6_listSets_26 rfl ?_
        refine C_ps1 d_X6_listSets_27 (hdF (by decide)) (hcF _) (R_ntz (by omega) hs13) ?_
        refine F_isg d_X6_listSets_30 (f := fun x_4 => [(0, vr 85), (1, vi (s : Int)), (2, vi x_4)]) (fun _ => rfl) (fun x_4 ex_4 => ?_)
        obtain rfl : x_4 = (lowB 13 s : Int) := ex_4
        refine T_il d_X6_listSets_31 rfl ?_
        refine T_il d_X6_listSets_32 rfl ?_
        refine T_k d_X6_listSets_33 ?_
        refine T_isub d_X6_listSets_34 ?_
        refine T_iand d_X6_listSets_35 ?_
        refine F_isg d_X6_listSets_36 (f := fun x_5 => [(0, vr 85), (1, vi (s : Int)), (2, vi (lowB 13 s : Int)), (3, vi x_5)]) (fun _ => rfl) (fun x_5 ex_5 => ?_)
        obtain rfl : x_5 = ((s &&& (s - 1) : Nat) : Int) := by rw [ex_5, show ((s : Int) - 1) = ((s - 1 : Nat) : Int) by omega]; exact iand_n (by omega)
        refine T_al d_X6_listSets_37 rfl ?_
        refine F_gr (b := 91) d_X6_listSets_38 rfl hF rfl ?_
        refine T_il d_X6_listSets_41 rfl ?_
        refine T_al d_X6_listSets_42 rfl ?_
        refine F_gr (b := 91) d_X6_listSets_43 rfl hF rfl ?_
        refine T_il d_X6_listSets_46 rfl ?_
        refine F_za d_X6_listSets_47 rfl hBX rfl ⟨by omega, by omega⟩ (fun b_6 => ?_)
        try simp only [Int.toNat_natCast]
        try simp only [Int.toNat_natCast] at b_6
        refine T_zeq d_X6_listSets_48 ⟨by omega, by omega⟩ (fun h48 => ?_) (fun h48 => ?_)
        · skip
          refine T_k d_X6_listSets_66 ?_
          refine F_zs d_X6_listSets_67 rfl hBX rfl ⟨by omega, by omega⟩ ⟨by omega, by omega⟩ (fun V_7 eV_7 hBV_7 => ?_)
          have fV_7 := chg_u eV_7 rfl fX
          refine T_al d_X6_listSets_68 rfl ?_
          refine F_gr (b := 92) d_X6_listSets_69 rfl hF rfl ?_
          refine T_il d_X6_listSets_72 rfl ?_
          refine T_al d_X6_listSets_73 rfl ?_
          refine F_gr (b := 92) d_X6_listSets_74 rfl hF rfl ?_
          refine T_il d_X6_listSets_77 rfl ?_
          refine F_la d_X6_listSets_78 rfl hBV_7 rfl ⟨by omega, by omega⟩ (fun b_8 => ?_)
          have faV_7_92 : V_7 92 = X 92 := by rw [eV_7]; rfl
          rw [faV_7_92]
          rw [faV_7_92] at b_8
          try simp only [Int.toNat_natCast]
          try simp only [Int.toNat_natCast] at b_8
          refine T_jk d_X6_listSets_79 ?_
          refine T_il d_X6_listSets_80 rfl ?_
          refine C_ps1 d_X6_listSets_81 (hdF (by decide)) (hcF _) (R_X6_digitShift) ?_
          refine T_lshl d_X6_listSets_84 ?_
          refine T_ladd d_X6_listSets_85 ?_
          rw [hval]
          refine F_ls d_X6_listSets_86 rfl hBV_7 rfl ⟨by omega, by omega⟩ ⟨by omega, by omega⟩ (fun V_9 eV_9 hBV_9 => ?_)
          have fV_9 := chg_u eV_9 rfl fV_7
          refine F_incg d_X6_listSets_87 rfl (f := fun x_10 => [(0, vr 85), (1, vi x_10), (2, vi (lowB 13 s : Int)), (3, vi ((s &&& (s - 1) : Nat) : Int))]) (fun _ => rfl) (fun x_10 ex_10 => ?_)
          refine T_go d_X6_listSets_90 ?_
          -- to 16 23f.48t@16
          refine T_subp (ks := [0, 1]) (ls' := [(0, vr 85), (1, vi x_10)]) rfl ?_
          obtain rfl : x_10 = ((s + 1) : Int) := by omega
          exact ih16 V_9 (s + 1) (by omega) hBV_9 fV_9 (by first | assumption | omega) (by first | assumption | omega) (ls_s (Y := V_7) (Z := V_9) xs (b := 0) (by rw [eV_7, Int.toNat_natCast]) (by rw [eV_9, Int.toNat_natCast]) ⟨fun z => absurd z (by decide), fun z => absurd (xl.1.mpr (fs.mp z).1) (by omega)⟩ rfl)
        · skip
          refine T_al d_X6_listSets_51 rfl ?_
          refine F_gr (b := 90) d_X6_listSets_52 rfl hF rfl ?_
          refine T_il d_X6_listSets_55 rfl ?_
          refine F_ia d_X6_listSets_56 rfl hBX rfl ⟨by omega, by omega⟩ (fun b_11 => ?_)
          try simp only [Int.toNat_natCast, x90]
          try simp only [Int.toNat_natCast, x90] at b_11
          refine T_il d_X6_listSets_57 rfl ?_
          refine T_iand d_X6_listSets_58 ?_
          rw [xr, iand_n (by omega)]
          refine T_zne d_X6_listSets_59 ⟨by omega, by have := Nat.and_le_left (n := bitsN (r (lowB 13 s)) n) (m := s &&& (s - 1)); omega⟩ (fun h59 => ?_) (fun h59 => ?_)
          · skip
            refine T_k d_X6_listSets_66 ?_
            refine F_zs d_X6_listSets_67 rfl hBX rfl ⟨by omega, by omega⟩ ⟨by omega, by omega⟩ (fun V_12 eV_12 hBV_12 => ?_)
            have fV_12 := chg_u eV_12 rfl fX
            refine T_al d_X6_listSets_68 rfl ?_
            refine F_gr (b := 92) d_X6_listSets_69 rfl hF rfl ?_
            refine T_il d_X6_listSets_72 rfl ?_
            refine T_al d_X6_listSets_73 rfl ?_
            refine F_gr (b := 92) d_X6_listSets_74 rfl hF rfl ?_
            refine T_il d_X6_listSets_77 rfl ?_
            refine F_la d_X6_listSets_78 rfl hBV_12 rfl ⟨by omega, by omega⟩ (fun b_13 => ?_)
            have faV_12_92 : V_12 92 = X 92 := by rw [eV_12]; rfl
            rw [faV_12_92]
            rw [faV_12_92] at b_13
            try simp only [Int.toNat_natCast]
            try simp only [Int.toNat_natCast] at b_13
            refine T_jk d_X6_listSets_79 ?_
            refine T_il d_X6_listSets_80 rfl ?_
            refine C_ps1 d_X6_listSets_81 (hdF (by decide)) (hcF _) (R_X6_digitShift) ?_
            refine T_lshl d_X6_listSets_84 ?_
            refine T_ladd d_X6_listSets_85 ?_
            rw [hval]
            refine F_ls d_X6_listSets_86 rfl hBV_12 rfl ⟨by omega, by omega⟩ ⟨by omega, by omega⟩ (fun V_14 eV_14 hBV_14 => ?_)
            have fV_14 := chg_u eV_14 rfl fV_12
            refine F_incg d_X6_listSets_87 rfl (f := fun x_15 => [(0, vr 85), (1, vi x_15), (2, vi (lowB 13 s : Int)), (3, vi ((s &&& (s - 1) : Nat) : Int))]) (fun _ => rfl) (fun x_15 ex_15 => ?_)
            refine T_go d_X6_listSets_90 ?_
            -- to 16 23f.48f.59t@16
            refine T_subp (ks := [0, 1]) (ls' := [(0, vr 85), (1, vi x_15)]) rfl ?_
            obtain rfl : x_15 = ((s + 1) : Int) := by omega
            exact ih16 V_14 (s + 1) (by omega) hBV_14 fV_14 (by first | assumption | omega) (by first | assumption | omega) (ls_s (Y := V_12) (Z := V_14) xs (b := 0) (by rw [eV_12, Int.toNat_natCast]) (by rw [eV_14, Int.toNat_natCast]) ⟨fun z => absurd z (by decide), fun z => absurd (fs.mp z).2 (by omega)⟩ rfl)
          · skip
            refine T_k d_X6_listSets_62 ?_
            refine T_go d_X6_listSets_63 ?_
            refine F_zs d_X6_listSets_67 rfl hBX rfl ⟨by omega, by omega⟩ ⟨by omega, by omega⟩ (fun V_16 eV_16 hBV_16 => ?_)
            have fV_16 := chg_u eV_16 rfl fX
            refine T_al d_X6_listSets_68 rfl ?_
            refine F_gr (b := 92) d_X6_listSets_69 rfl hF rfl ?_
            refine T_il d_X6_listSets_72 rfl ?_
            refine T_al d_X6_listSets_73 rfl ?_
            refine F_gr (b := 92) d_X6_listSets_74 rfl hF rfl ?_
            refine T_il d_X6_listSets_77 rfl ?_
            refine F_la d_X6_listSets_78 rfl hBV_16 rfl ⟨by omega, by omega⟩ (fun b_17 => ?_)
            have faV_16_92 : V_16 92 = X 92 := by rw [eV_16]; rfl
            rw [faV_16_92]
            rw [faV_16_92] at b_17
            try simp only [Int.toNat_natCast]
            try simp only [Int.toNat_natCast] at b_17
            refine T_jk d_X6_listSets_79 ?_
            refine T_il d_X6_listSets_80 rfl ?_
            refine C_ps1 d_X6_listSets_81 (hdF (by decide)) (hcF _) (R_X6_digitShift) ?_
            refine T_lshl d_X6_listSets_84 ?_
            refine T_ladd d_X6_listSets_85 ?_
            rw [hval]
            refine F_ls d_X6_listSets_86 rfl hBV_16 rfl ⟨by omega, by omega⟩ ⟨by omega, by omega⟩ (fun V_18 eV_18 hBV_18 => ?_)
            have fV_18 := chg_u eV_18 rfl fV_16
            refine F_incg d_X6_listSets_87 rfl (f := fun x_19 => [(0, vr 85), (1, vi x_19), (2, vi (lowB 13 s : Int)), (3, vi ((s &&& (s - 1) : Nat) : Int))]) (fun _ => rfl) (fun x_19 ex_19 => ?_)
            refine T_go d_X6_listSets_90 ?_
            -- to 16 23f.48f.59f@16
            refine T_subp (ks := [0, 1]) (ls' := [(0, vr 85), (1, vi x_19)]) rfl ?_
            obtain rfl : x_19 = ((s + 1) : Int) := by omega
            exact ih16 V_18 (s + 1) (by omega) hBV_18 fV_18 (by first | assumption | omega) (by first | assumption | omega) (ls_s (Y := V_16) (Z := V_18) xs (b := 1) (by rw [eV_16, Int.toNat_natCast]) (by rw [eV_18, Int.toNat_natCast]) ⟨fun _ => fs.mpr ⟨xl.1.mp (by omega), by omega⟩, fun _ => rfl⟩ rfl)
  exact L16 _ V_2 (1) (Nat.lt_succ_self _) hBV_2 fV_2 (Nat.le_refl _) (by first | assumption | omega) (fun s hs => by rw [show s = 0 by omega, eV_2, eV_1]; exact ⟨⟨fun _ => fre_0, fun _ => rfl⟩, by rw [dig_0]; rfl⟩)
set_option maxHeartbeats 1000000 in
set_option maxRecDepth 100000 in
theorem R_X6_openAfter {G : GG} {V : VV} {R : RR}  {lt : Nat → Nat → Bool} {n D : Nat} (hB : Bd V) (hF : FinR R) (hn : n ≤ 13) (h0 : V 85 0 = (n : Int)) (hr : rowC 89 lt n V) (hD : D < 2 ^ 13) : RunsP G M_X6_openAfter 1 [vr 85, vi (D:Int)] V R (vi ((bitsN (opB lt n D) n : Int))) := by
  unfold RunsP
  refine Runs.of pn_X6 (Nat.le_of_ble_eq_true rfl) rfl ?_
  show TT G M_X6_openAfter (rmd 1 162 162) 162 (Zm G 162 162 (QP V R (vi ((bitsN (opB lt n D) n : Int))))) 162 0 [(0, vr 85), (1, vi (D:Int))] [] V R
  have hD2 : D < 8192 := hD
  refine T_k d_X6_openAfter_0 ?_
  refine T_is d_X6_openAfter_1 (ls' := [(0, vr 85), (1, vi (D:Int)), (2, vi 0)]) rfl ?_
  refine T_k d_X6_openAfter_2 ?_
  refine T_is d_X6_openAfter_3 (ls' := [(0, vr 85), (1, vi (D:Int)), (2, vi 0), (3, vi 0)]) rfl ?_
  -- to 4 @4
  have L4 : ∀ (fu : Nat) (i : Nat), n - i < fu → (i ≤ n) → TT G M_X6_openAfter (rmd 1 162 162) 162 (Zm G 162 162 (QP V R (vi ((bitsN (opB lt n D) n : Int))))) 162 4 [(0, vr 85), (1, vi (D:Int)), (2, vi (bitsN (opB lt n D) i : Int)), (3, vi (i : Int))] [] V R := by
    intro fu
    induction fu with
    | zero => intro i hm; exact absurd hm (Nat.not_lt_zero _)
    | succ fu ih4 =>
      intro i hm4 hi
      refine T_il d_X6_openAfter_4 rfl ?_
      refine T_al d_X6_openAfter_5 rfl ?_
      refine F_gi d_X6_openAfter_6 rfl hB rfl (fun b_1 => ?_)
      refine T_ige d_X6_openAfter_9 ⟨by omega, by omega⟩ ⟨by omega, by omega⟩ (fun h9 => ?_) (fun h9 => ?_)
      · skip
        refine T_il d_X6_openAfter_45 rfl ?_
        -- leaf 9t@46
        exact P_I d_X6_openAfter_46 (by rw [show i = n by omega])
      · skip
        have xr := hr i (by omega)
        have bl := bn_lt (p := lt i) (n := n)
        have bo := bn_lt (p := opB lt n D) (n := i)
        have b13 := Nat.pow_le_pow_right (n := 2) (by decide) hn
        have b14 : 2 ^ i ≤ 2 ^ 13 := Nat.pow_le_pow_right (by decide) (by omega)
        have b15 : (2 : Nat) ^ 13 = 8192 := rfl
        have b0 := Nat.two_pow_pos i
        refine T_il d_X6_openAfter_12 rfl ?_
        refine T_il d_X6_openAfter_13 rfl ?_
        refine T_ishr d_X6_openAfter_14 ?_
        refine T_k d_X6_openAfter_15 ?_
        refine T_iand d_X6_openAfter_16 ?_
        rw [tbI (by omega) (by omega)]
        refine T_zne d_X6_openAfter_17 (bi_r _) (fun h17 => ?_) (fun h17 => ?_)
        · skip
          have e2 : bitsN (opB lt n D) (i + 1) = bitsN (opB lt n D) i := if_neg (fun z => absurd (op_t.mp z).1 (by rw [bi_n.mp h17]; decide))
          rw [← e2]
          refine F_incg d_X6_openAfter_39 rfl (f := fun x_2 => [(0, vr 85), (1, vi (D:Int)), (2, vi (bitsN (opB lt n D) (i + 1) : Int)), (3, vi x_2)]) (fun _ => rfl) (fun x_2 ex_2 => ?_)
          refine T_go d_X6_openAfter_42 ?_
          -- to 4 9f.17t@4
          obtain rfl : x_2 = ((i + 1) : Int) := by omega
          exact ih4 (i + 1) (by omega) (by first | assumption | omega)
        · skip
          refine T_al d_X6_openAfter_20 rfl ?_
          refine F_gr (b := 89) d_X6_openAfter_21 rfl hF rfl ?_
          refine T_il d_X6_openAfter_24 rfl ?_
          refine F_ia d_X6_openAfter_25 rfl hB rfl ⟨by omega, by omega⟩ (fun b_3 => ?_)
          try simp only [Int.toNat_natCast]
          try simp only [Int.toNat_natCast] at b_3
          refine T_il d_X6_openAfter_26 rfl ?_
          refine T_k d_X6_openAfter_27 ?_
          refine T_ixor d_X6_openAfter_28 ?_
          refine T_iand d_X6_openAfter_29 ?_
          rw [xr, iandnot_n (by omega) (by omega)]
          refine T_zne d_X6_openAfter_30 ⟨by omega, by have := Nat.xor_lt_two_pow (x := bitsN (lt i) n) (y := bitsN (lt i) n &&& D) (n := 13) (by omega) (Nat.lt_of_le_of_lt Nat.and_le_left (by omega)); omega⟩ (fun h30 => ?_) (fun h30 => ?_)
          · skip
            have e2 : bitsN (opB lt n D) (i + 1) = bitsN (opB lt n D) i := if_neg (fun z => h30 (by rw [bn_not0.mpr (op_t.mp z).2]; rfl))
            rw [← e2]
            refine F_incg d_X6_openAfter_39 rfl (f := fun x_4 => [(0, vr 85), (1, vi (D:Int)), (2, vi (bitsN (opB lt n D) (i + 1) : Int)), (3, vi x_4)]) (fun _ => rfl) (fun x_4 ex_4 => ?_)
            refine T_go d_X6_openAfter_42 ?_
            -- to 4 9f.17f.30t@4
            obtain rfl : x_4 = ((i + 1) : Int) := by omega
            exact ih4 (i + 1) (by omega) (by first | assumption | omega)
          · skip
            refine T_il d_X6_openAfter_33 rfl ?_
            refine T_k d_X6_openAfter_34 ?_
            refine T_il d_X6_openAfter_35 rfl ?_
            refine T_ishl d_X6_openAfter_36 ?_
            refine T_ior d_X6_openAfter_37 ?_
            refine F_isg d_X6_openAfter_38 (f := fun x_5 => [(0, vr 85), (1, vi (D:Int)), (2, vi x_5), (3, vi (i : Int))]) (fun _ => rfl) (fun x_5 ex_5 => ?_)
            obtain rfl : x_5 = (bitsN (opB lt n D) (i + 1) : Int) := by rw [ex_5, show ishlZ 1 (i : Int) = ((2 ^ i : Nat) : Int) from by rw [show (1 : Int) = ((1 : Nat) : Int) from rfl, ishl_n (by omega) (by rw [Nat.one_mul]; omega), Nat.one_mul], ior_n (by omega) (by omega)]; show _ = (((if opB lt n D i = true then bitsN (opB lt n D) i ||| 2 ^ i else bitsN (opB lt n D) i) : Nat) : Int); rw [if_pos (op_t.mpr ⟨bi_0.mp h17, bn_not0.mp (by omega)⟩)]
            refine F_incg d_X6_openAfter_39 rfl (f := fun x_6 => [(0, vr 85), (1, vi (D:Int)), (2, vi (bitsN (opB lt n D) (i + 1) : Int)), (3, vi x_6)]) (fun _ => rfl) (fun x_6 ex_6 => ?_)
            refine T_go d_X6_openAfter_42 ?_
            -- to 4 9f.17f.30f@4
            obtain rfl : x_6 = ((i + 1) : Int) := by omega
            exact ih4 (i + 1) (by omega) (by first | assumption | omega)
  exact L4 _ (0) (Nat.lt_succ_self _) (by first | assumption | omega)
set_option maxHeartbeats 1000000 in
set_option maxRecDepth 100000 in
theorem R_X6_goOnFrom {G : GG} {V : VV} {R : RR}  {mt lt : Nat → Nat → Bool} {n D : Nat} (hB : Bd V) (hF : FinR R) (hn : n ≤ 13) (h0 : V 85 0 = (n : Int)) (hr : rowC 89 lt n V) (hls : lsS (rlB mt lt) (2 ^ n) V) (hs : ∀ i j, mt i j = mt j i) (hl : ∀ i, lt i i = false) (hD : D + 1 < 2 ^ n) (hdp : ∀ E, D < E → E < 2 ^ n → dpV mt lt n V E) : Runs G M_X6_goOnFrom 2 162 162 [vr 85, vi (D:Int)] V R (PQ [(93, 95)] [] V R (fun o X => o = none ∧ dpV mt lt n X D ∧ ∀ E, E ≠ D → X 93 E = V 93 E ∧ X 94 E = V 94 E ∧ X 95 E = V 95 E)) := by
  refine Runs.of pn_X6 (Nat.le_of_ble_eq_true rfl) rfl ?_
  show TT G M_X6_goOnFrom (rmd 2 162 162) 162 (Zm G 162 162 (PQ [(93, 95)] [] V R (fun o X => o = none ∧ dpV mt lt n X D ∧ ∀ E, E ≠ D → X 93 E = V 93 E ∧ X 94 E = V 94 E ∧ X 95 E = V 95 E))) 162 0 [(0, vr 85), (1, vi (D:Int))] [] V R
  have fV : chg [(93, 95)] [] V V := chg_r
  have hp8 : 2 ^ n ≤ 8192 := Nat.pow_le_pow_right (n := 2) (by decide) hn
  have bo := bn_lt (p := opB lt n D) (n := n)
  refine T_al d_X6_goOnFrom_0 rfl ?_
  refine T_il d_X6_goOnFrom_1 rfl ?_
  refine C_pv1 d_X6_goOnFrom_2 rfl (hdF (by decide)) (hcF _) (R_X6_openAfter (n := n) hB hF hn h0 hr (Nat.lt_of_lt_of_le (show D < 2 ^ n by omega) (Nat.pow_le_pow_right (by decide) hn))) ?_
  refine F_isg d_X6_goOnFrom_5 (f := fun x_1 => [(0, vr 85), (1, vi (D:Int)), (2, vi x_1)]) (fun _ => rfl) (fun x_1 ex_1 => ?_)
  obtain rfl : x_1 = (bitsN (opB lt n D) n : Int) := ex_1
  refine T_k d_X6_goOnFrom_6 ?_
  refine T_is d_X6_goOnFrom_9 (ls' := [(0, vr 85), (1, vi (D:Int)), (2, vi (bitsN (opB lt n D) n : Int)), (3, vi 1000)]) rfl ?_
  refine T_k d_X6_goOnFrom_10 ?_
  refine T_is d_X6_goOnFrom_11 (ls' := [(0, vr 85), (1, vi (D:Int)), (2, vi (bitsN (opB lt n D) n : Int)), (3, vi 1000), (4, vi 0)]) rfl ?_
  refine T_jk d_X6_goOnFrom_13 ?_
  refine T_ls d_X6_goOnFrom_14 (ls' := [(0, vr 85), (1, vi (D:Int)), (2, vi (bitsN (opB lt n D) n : Int)), (3, vi 1000), (4, vi 0), (5, vj 0)]) rfl ?_
  refine T_il d_X6_goOnFrom_16 rfl ?_
  refine F_isg d_X6_goOnFrom_17 (f := fun x_2 => [(0, vr 85), (1, vi (D:Int)), (2, vi (bitsN (opB lt n D) n : Int)), (3, vi 1000), (4, vi 0), (5, vj 0), (7, vi x_2)]) (fun _ => rfl) (fun x_2 ex_2 => ?_)
  -- to 19 @19
  have L19 : ∀ (fu : Nat) (L W B p : Nat), p < fu → (subB (bitsN (opB lt n D) n) p) → (dpQ (fun k g => qT mt lt n D (p + 1) k g) L W B) → TT G M_X6_goOnFrom (rmd 2 162 162) 162 (Zm G 162 162 (PQ [(93, 95)] [] V R (fun o X => o = none ∧ dpV mt lt n X D ∧ ∀ E, E ≠ D → X 93 E = V 93 E ∧ X 94 E = V 94 E ∧ X 95 E = V 95 E))) 162 19 [(0, vr 85), (1, vi (D:Int)), (2, vi (bitsN (opB lt n D) n : Int)), (3, vi (L : Int)), (4, vi (W : Int)), (5, vj (B : Int)), (7, vi (p : Int))] [] V R := by
    intro fu
    induction fu with
    | zero => intro L W B p hm; exact absurd hm (Nat.not_lt_zero _)
    | succ fu ih19 =>
      intro L W B p hm19 hp hq
      have bl := dpQ_b hq
      have hpl : p ≤ bitsN (opB lt n D) n := by rw [← sub_eq hp]; exact Nat.and_le_right
      refine T_il d_X6_goOnFrom_19 rfl ?_
      refine T_zle d_X6_goOnFrom_21 ⟨by omega, by omega⟩ (fun h21 => ?_) (fun h21 => ?_)
      · skip
        have ep : p = 0 := by omega
        have hf : dpQ (chn mt lt n D) L W B := dpQ_i (by rw [ep] at hq; exact hq) fun k g => qT_all (nfull hD)
        have fb := dpQ_b hf
        have fB := dpq_B hn hf (fun k g z => z)
        refine T_al d_X6_goOnFrom_137 rfl ?_
        refine F_gr (b := 93) d_X6_goOnFrom_138 rfl hF rfl ?_
        refine T_il d_X6_goOnFrom_141 rfl ?_
        refine T_il d_X6_goOnFrom_142 rfl ?_
        refine F_is d_X6_goOnFrom_143 rfl hB rfl ⟨by omega, by omega⟩ ⟨by omega, by omega⟩ (fun V_3 eV_3 hBV_3 => ?_)
        have fV_3 := chg_u eV_3 rfl fV
        refine T_al d_X6_goOnFrom_144 rfl ?_
        refine F_gr (b := 94) d_X6_goOnFrom_145 rfl hF rfl ?_
        refine T_il d_X6_goOnFrom_148 rfl ?_
        refine T_il d_X6_goOnFrom_149 rfl ?_
        refine F_is d_X6_goOnFrom_151 rfl hBV_3 rfl ⟨by omega, by omega⟩ ⟨by omega, by omega⟩ (fun V_4 eV_4 hBV_4 => ?_)
        have fV_4 := chg_u eV_4 rfl fV_3
        refine T_al d_X6_goOnFrom_152 rfl ?_
        refine F_gr (b := 95) d_X6_goOnFrom_153 rfl hF rfl ?_
        refine T_il d_X6_goOnFrom_156 rfl ?_
        refine T_ll d_X6_goOnFrom_157 rfl ?_
        refine F_ls d_X6_goOnFrom_159 rfl hBV_4 rfl ⟨by omega, by omega⟩ ⟨by omega, by omega⟩ (fun V_5 eV_5 hBV_5 => ?_)
        have fV_5 := chg_u eV_5 rfl fV_4
        -- leaf 21t@160
        refine T_vret d_X6_goOnFrom_160 rfl ?_
        exact ⟨rfl, hBV_5, fV_5, rfl, ⟨L, W, B, by rw [eV_5, uV_cell (by decide), eV_4, uV_cell (by decide), eV_3, Int.toNat_natCast]; exact uV_self, by rw [eV_5, uV_cell (by decide), eV_4, Int.toNat_natCast]; exact uV_self, by rw [eV_5, Int.toNat_natCast]; exact uV_self, hf⟩, fun E hE => ⟨by rw [eV_5, uV_cell (by decide), eV_4, uV_cell (by decide), eV_3, Int.toNat_natCast, uV_at, if_neg hE], by rw [eV_5, uV_cell (by decide), eV_4, Int.toNat_natCast, uV_at, if_neg hE, eV_3, uV_cell (by decide)], by rw [eV_5, Int.toNat_natCast, uV_at, if_neg hE, eV_4, uV_cell (by decide), eV_3, uV_cell (by decide)]⟩⟩
      · skip
        have opj : ∀ j, p.testBit j = true → D.testBit j = false := fun j hj => (op_t.mp (bn_t.mp (hp j hj)).2).1
        have gt := or_gt (D := D) (P := p) (by omega) opj
        have ol : D ||| p < 2 ^ n := Nat.or_lt_two_pow (by omega) (by omega)
        obtain ⟨L1, W1, B1, v1, v2, v3, v4⟩ := hdp (D ||| p) gt ol
        have io : iorZ (D : Int) (p : Int) = ((D ||| p : Nat) : Int) := ior_n (by omega) (by omega)
        have lp := hls p (by omega)
        have bL := dpQ_b v4
        have bB := dpq_B hn v4 (fun k g z => z)
        have bQ := dpq_B hn hq (fun k g z => z.1)
        have bD := dig_lt p
        have skp : ∀ Q, subB (bitsN (opB lt n D) n) Q → Q < p → Q ≤ (p - 1) &&& bitsN (opB lt n D) n := fun Q q1 q2 => sub_nx p _ Q hp q1 q2
        have pn2 : (p - 1) &&& bitsN (opB lt n D) n < p := sub_lt (by omega)
        have ia : iandZ ((p : Int) - 1) (bitsN (opB lt n D) n : Int) = (((p - 1) &&& bitsN (opB lt n D) n : Nat) : Int) := by rw [show (p : Int) - 1 = ((p - 1 : Nat) : Int) by omega]; exact iand_n (by omega)
        skip
        refine T_al d_X6_goOnFrom_24 rfl ?_
        refine F_gr (b := 93) d_X6_goOnFrom_25 rfl hF rfl ?_
        refine T_il d_X6_goOnFrom_28 rfl ?_
        refine T_il d_X6_goOnFrom_29 rfl ?_
        refine T_ior d_X6_goOnFrom_31 ?_
        rw [io]
        refine F_ia d_X6_goOnFrom_32 rfl hB rfl ⟨by omega, by omega⟩ (fun b_6 => ?_)
        try simp only [Int.toNat_natCast]
        try simp only [Int.toNat_natCast] at b_6
        refine T_k d_X6_goOnFrom_33 ?_
        refine T_iadd d_X6_goOnFrom_34 ?_
        refine F_isg d_X6_goOnFrom_35 (f := fun x_7 => [(0, vr 85), (1, vi (D:Int)), (2, vi (bitsN (opB lt n D) n : Int)), (3, vi (L : Int)), (4, vi (W : Int)), (5, vj (B : Int)), (7, vi (p : Int)), (8, vi x_7)]) (fun _ => rfl) (fun x_7 ex_7 => ?_)
        obtain rfl : x_7 = (L1 : Int) + 1 := by rw [ex_7, v1]
        refine T_al d_X6_goOnFrom_37 rfl ?_
        refine F_gr (b := 91) d_X6_goOnFrom_38 rfl hF rfl ?_
        refine T_il d_X6_goOnFrom_41 rfl ?_
        refine F_za d_X6_goOnFrom_43 rfl hB rfl ⟨by omega, by omega⟩ (fun b_8 => ?_)
        try simp only [Int.toNat_natCast]
        try simp only [Int.toNat_natCast] at b_8
        refine T_zeq d_X6_goOnFrom_44 ⟨by have := hB.1 91 0 1 rfl p; omega, by have := hB.1 91 0 1 rfl p; omega⟩ (fun h44 => ?_) (fun h44 => ?_)
        · skip
          refine T_il d_X6_goOnFrom_126 rfl ?_
          refine T_k d_X6_goOnFrom_128 ?_
          refine T_isub d_X6_goOnFrom_129 ?_
          refine T_il d_X6_goOnFrom_130 rfl ?_
          refine T_iand d_X6_goOnFrom_131 ?_
          refine F_isg d_X6_goOnFrom_132 (f := fun x_9 => [(0, vr 85), (1, vi (D:Int)), (2, vi (bitsN (opB lt n D) n : Int)), (3, vi (L : Int)), (4, vi (W : Int)), (5, vj (B : Int)), (7, vi x_9), (8, vi ((L1 : Int) + 1))]) (fun _ => rfl) (fun x_9 ex_9 => ?_)
          obtain rfl : x_9 = (((p - 1) &&& bitsN (opB lt n D) n : Nat) : Int) := by rw [ex_9]; exact ia
          refine T_go d_X6_goOnFrom_134 ?_
          -- to 19 21f.44t@19
          refine T_subp (ks := [0, 1, 2, 3, 4, 5, 6]) (ls' := [(0, vr 85), (1, vi (D:Int)), (2, vi (bitsN (opB lt n D) n : Int)), (3, vi (L : Int)), (4, vi (W : Int)), (5, vj (B : Int)), (7, vi (((p - 1) &&& bitsN (opB lt n D) n : Nat) : Int))]) rfl ?_
          exact ih19 (L) (W) (B) ((p - 1) &&& bitsN (opB lt n D) n) (by omega) sub_and (dpQ_i (dpQ_i hq fun k g => qT_sk (t := p) (p := p + 1) (fun P p1 p2 z => absurd (lp.1.mpr (by rw [show p = P by omega]; exact ((vP_iff hs hl).mp z).2.2)) (by omega)) (by omega)) fun k g => qT_sk (fun P p1 p2 z => absurd (skp P ((vP_iff hs hl).mp z).2.1 p2) (by omega)) (by omega))
        · skip
          have fp : freP (rlB mt lt) p := lp.1.mp (by omega)
          have vp : vPt mt lt n D p := (vP_iff hs hl).mpr ⟨by omega, hp, fp⟩
          have L78 : ∀ (W2 B2 : Nat), ((L1 + 1 < L ∧ W2 = 0 ∧ B2 = 0) ∨ (L1 + 1 = L ∧ W2 = W ∧ B2 = B)) → (L1 + 1 ≤ 13) → TT G M_X6_goOnFrom (rmd 2 162 162) 162 (Zm G 162 162 (PQ [(93, 95)] [] V R (fun o X => o = none ∧ dpV mt lt n X D ∧ ∀ E, E ≠ D → X 93 E = V 93 E ∧ X 94 E = V 94 E ∧ X 95 E = V 95 E))) 162 78 [(0, vr 85), (1, vi (D:Int)), (2, vi (bitsN (opB lt n D) n : Int)), (3, vi ((L1 : Int) + 1)), (4, vi (W2 : Int)), (5, vj (B2 : Int)), (7, vi (p : Int)), (8, vi ((L1 : Int) + 1))] [] V R := by
            intro W2 B2 cc h13
            have mle : (((L1 + 1) * cdN (inD p) 13 : Nat) : Int) = ((L1 : Int) + 1) * (cdN (inD p) 13 : Int) := by push_cast; rfl
            have mll : (L1 + 1) * cdN (inD p) 13 ≤ 13 * 4503599627370496 := Nat.mul_le_mul (by omega) (by omega)
            refine T_k d_X6_goOnFrom_78 ?_
            refine T_il d_X6_goOnFrom_81 rfl ?_
            refine T_al d_X6_goOnFrom_83 rfl ?_
            refine F_gr (b := 94) d_X6_goOnFrom_84 rfl hF rfl ?_
            refine T_il d_X6_goOnFrom_87 rfl ?_
            refine T_il d_X6_goOnFrom_88 rfl ?_
            refine T_ior d_X6_goOnFrom_90 ?_
            rw [io]
            refine F_ia d_X6_goOnFrom_91 rfl hB rfl ⟨by omega, by omega⟩ (fun b_10 => ?_)
            try simp only [Int.toNat_natCast]
            try simp only [Int.toNat_natCast] at b_10
            rw [v2]
            refine T_iadd d_X6_goOnFrom_92 ?_
            refine T_mmin d_X6_goOnFrom_93 ⟨by decide, by decide⟩ ⟨by omega, by omega⟩ (Nat.le_of_ble_eq_true rfl) (hmF _) ?_
            refine F_isg d_X6_goOnFrom_96 (f := fun x_11 => [(0, vr 85), (1, vi (D:Int)), (2, vi (bitsN (opB lt n D) n : Int)), (3, vi ((L1 : Int) + 1)), (4, vi x_11), (5, vj (B2 : Int)), (7, vi (p : Int)), (8, vi ((L1 : Int) + 1))]) (fun _ => rfl) (fun x_11 ex_11 => ?_)
            refine T_ll d_X6_goOnFrom_98 rfl ?_
            refine T_al d_X6_goOnFrom_100 rfl ?_
            refine F_gr (b := 95) d_X6_goOnFrom_101 rfl hF rfl ?_
            refine T_il d_X6_goOnFrom_104 rfl ?_
            refine T_il d_X6_goOnFrom_105 rfl ?_
            refine T_ior d_X6_goOnFrom_107 ?_
            rw [io]
            refine F_la d_X6_goOnFrom_108 rfl hB rfl ⟨by omega, by omega⟩ (fun b_12 => ?_)
            try simp only [Int.toNat_natCast]
            try simp only [Int.toNat_natCast] at b_12
            rw [v3]
            refine T_il d_X6_goOnFrom_109 rfl ?_
            refine T_i2l d_X6_goOnFrom_111 ⟨by omega, by omega⟩ ?_
            refine T_al d_X6_goOnFrom_112 rfl ?_
            refine F_gr (b := 92) d_X6_goOnFrom_113 rfl hF rfl ?_
            refine T_il d_X6_goOnFrom_116 rfl ?_
            refine F_la d_X6_goOnFrom_118 rfl hB rfl ⟨by omega, by omega⟩ (fun b_13 => ?_)
            try simp only [Int.toNat_natCast]
            try simp only [Int.toNat_natCast] at b_13
            rw [lp.2]
            refine T_lmul d_X6_goOnFrom_119 ?_
            refine T_ladd d_X6_goOnFrom_120 ?_
            refine T_lmax d2_X6_goOnFrom_121 ⟨by omega, by omega⟩ ⟨by rw [← mle]; omega, by rw [← mle]; omega⟩ (Nat.le_of_ble_eq_true rfl) (hmF _) ?_
            refine F_lsg d_X6_goOnFrom_124 (f := fun y_14 => [(0, vr 85), (1, vi (D:Int)), (2, vi (bitsN (opB lt n D) n : Int)), (3, vi ((L1 : Int) + 1)), (4, vi x_11), (5, vj y_14), (7, vi (p : Int)), (8, vi ((L1 : Int) + 1))]) (fun _ => rfl) (fun y_14 ey_14 => ?_)
            obtain rfl : x_11 = ((min 1000 (W2 + W1) : Nat) : Int) := by rw [ex_11]; split <;> omega
            obtain rfl : y_14 = ((max B2 (B1 + (L1 + 1) * cdN (inD p) 13) : Nat) : Int) := by rw [ey_14, ← mle]; split <;> omega
            refine T_il d_X6_goOnFrom_126 rfl ?_
            refine T_k d_X6_goOnFrom_128 ?_
            refine T_isub d_X6_goOnFrom_129 ?_
            refine T_il d_X6_goOnFrom_130 rfl ?_
            refine T_iand d_X6_goOnFrom_131 ?_
            refine F_isg d_X6_goOnFrom_132 (f := fun x_15 => [(0, vr 85), (1, vi (D:Int)), (2, vi (bitsN (opB lt n D) n : Int)), (3, vi ((L1 : Int) + 1)), (4, vi ((min 1000 (W2 + W1) : Nat) : Int)), (5, vj ((max B2 (B1 + (L1 + 1) * cdN (inD p) 13) : Nat) : Int)), (7, vi x_15), (8, vi ((L1 : Int) + 1))]) (fun _ => rfl) (fun x_15 ex_15 => ?_)
            obtain rfl : x_15 = (((p - 1) &&& bitsN (opB lt n D) n : Nat) : Int) := by rw [ex_15]; exact ia
            refine T_go d_X6_goOnFrom_134 ?_
            -- to 19 @19
            refine T_subp (ks := [0, 1, 2, 3, 4, 5, 6]) (ls' := [(0, vr 85), (1, vi (D:Int)), (2, vi (bitsN (opB lt n D) n : Int)), (3, vi ((L1 : Int) + 1)), (4, vi ((min 1000 (W2 + W1) : Nat) : Int)), (5, vj ((max B2 (B1 + (L1 + 1) * cdN (inD p) 13) : Nat) : Int)), (7, vi (((p - 1) &&& bitsN (opB lt n D) n : Nat) : Int))]) rfl ?_
            exact ih19 (L1 + 1) (min 1000 (W2 + W1)) (max B2 (B1 + (L1 + 1) * cdN (inD p) 13)) ((p - 1) &&& bitsN (opB lt n D) n) (by omega) sub_and (dpQ_i (dp_bc vp hq v4 h13 cc) fun k g => qT_sk (fun P p1 p2 z => absurd (skp P ((vP_iff hs hl).mp z).2.1 p2) (by omega)) (by omega))
          refine T_il d_X6_goOnFrom_47 rfl ?_
          refine T_il d_X6_goOnFrom_49 rfl ?_
          refine T_igt d_X6_goOnFrom_50 ⟨by omega, by omega⟩ ⟨by omega, by omega⟩ (fun h50 => ?_) (fun h50 => ?_)
          · skip
            refine T_il d_X6_goOnFrom_126 rfl ?_
            refine T_k d_X6_goOnFrom_128 ?_
            refine T_isub d_X6_goOnFrom_129 ?_
            refine T_il d_X6_goOnFrom_130 rfl ?_
            refine T_iand d_X6_goOnFrom_131 ?_
            refine F_isg d_X6_goOnFrom_132 (f := fun x_16 => [(0, vr 85), (1, vi (D:Int)), (2, vi (bitsN (opB lt n D) n : Int)), (3, vi (L : Int)), (4, vi (W : Int)), (5, vj (B : Int)), (7, vi x_16), (8, vi ((L1 : Int) + 1))]) (fun _ => rfl) (fun x_16 ex_16 => ?_)
            obtain rfl : x_16 = (((p - 1) &&& bitsN (opB lt n D) n : Nat) : Int) := by rw [ex_16]; exact ia
            refine T_go d_X6_goOnFrom_134 ?_
            -- to 19 21f.44f.50t@19
            refine T_subp (ks := [0, 1, 2, 3, 4, 5, 6]) (ls' := [(0, vr 85), (1, vi (D:Int)), (2, vi (bitsN (opB lt n D) n : Int)), (3, vi (L : Int)), (4, vi (W : Int)), (5, vj (B : Int)), (7, vi (((p - 1) &&& bitsN (opB lt n D) n : Nat) : Int))]) rfl ?_
            exact ih19 (L) (W) (B) ((p - 1) &&& bitsN (opB lt n D) n) (by omega) sub_and (dpQ_i (dpQ_i (dp_a hn vp hq v4 (Or.inl (by omega))) fun k g => qT_ad vp) fun k g => qT_sk (fun P p1 p2 z => absurd (skp P ((vP_iff hs hl).mp z).2.1 p2) (by omega)) (by omega))
          · skip
            refine T_il d_X6_goOnFrom_53 rfl ?_
            refine T_k d_X6_goOnFrom_55 ?_
            refine T_ile d_X6_goOnFrom_57 ⟨by omega, by omega⟩ ⟨by omega, by omega⟩ (fun h57 => ?_) (fun h57 => ?_)
            · skip
              refine T_il d_X6_goOnFrom_63 rfl ?_
              refine T_il d_X6_goOnFrom_65 rfl ?_
              refine T_ige d_X6_goOnFrom_66 ⟨by omega, by omega⟩ ⟨by omega, by omega⟩ (fun h66 => ?_) (fun h66 => ?_)
              · skip
                -- to 78 21f.44f.50f.57t.66t@78
                rw [show (L : Int) = (L1 : Int) + 1 by omega]
                exact L78 (W) (B) (by omega) (by omega)
              · skip
                refine T_il d_X6_goOnFrom_69 rfl ?_
                refine F_isg d_X6_goOnFrom_71 (f := fun x_17 => [(0, vr 85), (1, vi (D:Int)), (2, vi (bitsN (opB lt n D) n : Int)), (3, vi x_17), (4, vi (W : Int)), (5, vj (B : Int)), (7, vi (p : Int)), (8, vi ((L1 : Int) + 1))]) (fun _ => rfl) (fun x_17 ex_17 => ?_)
                refine T_k d_X6_goOnFrom_72 ?_
                refine T_is d_X6_goOnFrom_73 (ls' := [(0, vr 85), (1, vi (D:Int)), (2, vi (bitsN (opB lt n D) n : Int)), (3, vi x_17), (4, vi 0), (5, vj (B : Int)), (7, vi (p : Int)), (8, vi ((L1 : Int) + 1))]) rfl ?_
                refine T_jk d_X6_goOnFrom_75 ?_
                refine T_ls d_X6_goOnFrom_76 (ls' := [(0, vr 85), (1, vi (D:Int)), (2, vi (bitsN (opB lt n D) n : Int)), (3, vi x_17), (4, vi 0), (5, vj 0), (7, vi (p : Int)), (8, vi ((L1 : Int) + 1))]) rfl ?_
                -- to 78 21f.44f.50f.57t.66f@78
                obtain rfl : x_17 = ((L1 : Int) + 1) := by omega
                exact L78 (0) (0) (by omega) (by omega)
            · skip
              refine T_go d_X6_goOnFrom_60 ?_
              refine T_il d_X6_goOnFrom_126 rfl ?_
              refine T_k d_X6_goOnFrom_128 ?_
              refine T_isub d_X6_goOnFrom_129 ?_
              refine T_il d_X6_goOnFrom_130 rfl ?_
              refine T_iand d_X6_goOnFrom_131 ?_
              refine F_isg d_X6_goOnFrom_132 (f := fun x_18 => [(0, vr 85), (1, vi (D:Int)), (2, vi (bitsN (opB lt n D) n : Int)), (3, vi (L : Int)), (4, vi (W : Int)), (5, vj (B : Int)), (7, vi x_18), (8, vi ((L1 : Int) + 1))]) (fun _ => rfl) (fun x_18 ex_18 => ?_)
              obtain rfl : x_18 = (((p - 1) &&& bitsN (opB lt n D) n : Nat) : Int) := by rw [ex_18]; exact ia
              refine T_go d_X6_goOnFrom_134 ?_
              -- to 19 21f.44f.50f.57f@19
              refine T_subp (ks := [0, 1, 2, 3, 4, 5, 6]) (ls' := [(0, vr 85), (1, vi (D:Int)), (2, vi (bitsN (opB lt n D) n : Int)), (3, vi (L : Int)), (4, vi (W : Int)), (5, vj (B : Int)), (7, vi (((p - 1) &&& bitsN (opB lt n D) n : Nat) : Int))]) rfl ?_
              exact ih19 (L) (W) (B) ((p - 1) &&& bitsN (opB lt n D) n) (by omega) sub_and (dpQ_i (dpQ_i (dp_a hn vp hq v4 (Or.inr (by omega))) fun k g => qT_ad vp) fun k g => qT_sk (fun P p1 p2 z => absurd (skp P ((vP_iff hs hl).mp z).2.1 p2) (by omega)) (by omega))
  obtain rfl : x_2 = ((bitsN (opB lt n D) n) : Int) := by omega
  exact L19 _ (1000) (0) (0) (bitsN (opB lt n D) n) (Nat.lt_succ_self _) (fun i h => h) (Or.inl ⟨rfl, rfl, rfl, fun k g => qT_no (fun P p1 z => absurd (Nat.le_trans (Nat.le_of_eq (sub_eq ((vP_iff hs hl).mp z).2.1).symm) Nat.and_le_right) (by omega))⟩)
set_option maxHeartbeats 1000000 in
set_option maxRecDepth 100000 in
theorem R_X6_takeBestRow {G : GG} {V : VV} {R : RR}  {n L W B : Nat} (hB : Bd V) (hF : FinR R) (hn : n ≤ 13) (h0 : V 85 0 = (n : Int)) (hL : V 93 0 = (L : Int)) (hW : V 94 0 = (W : Int)) (hb : V 95 0 = (B : Int)) (hL2 : L ≤ 13 ∨ L = 1000) (hW2 : W ≤ 1000) (hB2 : B < 4503599627370496) : Runs G M_X6_takeBestRow 2 162 162 [vr 85] V R (PQ [(96, 96)] [(85, 11, 13)] V R (fun o X => o = none ∧ phC n L W B X)) := by
  refine Runs.of pn_X6 (Nat.le_of_ble_eq_true rfl) rfl ?_
  show TT G M_X6_takeBestRow (rmd 2 162 162) 162 (Zm G 162 162 (PQ [(96, 96)] [(85, 11, 13)] V R (fun o X => o = none ∧ phC n L W B X))) 162 0 [(0, vr 85)] [] V R
  have fV : chg [(96, 96)] [(85, 11, 13)] V V := chg_r
  refine T_al d_X6_takeBestRow_0 rfl ?_
  refine T_al d_X6_takeBestRow_1 rfl ?_
  refine F_gr (b := 93) d_X6_takeBestRow_2 rfl hF rfl ?_
  refine T_k d_X6_takeBestRow_5 ?_
  refine F_ia d_X6_takeBestRow_6 rfl hB rfl ⟨by omega, by omega⟩ (fun b_1 => ?_)
  try simp only [Int.toNat_natCast]
  try simp only [Int.toNat_natCast] at b_1
  rw [show V 93 (0 : Int).toNat = (L : Int) from hL]
  refine F_pi d_X6_takeBestRow_7 rfl hB rfl ⟨by omega, by omega⟩ (fun V_2 eV_2 hBV_2 => ?_)
  have fV_2 := chg_u eV_2 rfl fV
  refine T_al d_X6_takeBestRow_10 rfl ?_
  refine T_al d_X6_takeBestRow_11 rfl ?_
  refine F_gr (b := 94) d_X6_takeBestRow_12 rfl hF rfl ?_
  refine T_k d_X6_takeBestRow_15 ?_
  refine F_ia d_X6_takeBestRow_16 rfl hBV_2 rfl ⟨by omega, by omega⟩ (fun b_3 => ?_)
  have faV_2_94 : V_2 94 = V 94 := by rw [eV_2]; rfl
  rw [faV_2_94]
  rw [faV_2_94] at b_3
  try simp only [Int.toNat_natCast]
  try simp only [Int.toNat_natCast] at b_3
  rw [show V 94 (0 : Int).toNat = (W : Int) from hW]
  refine F_pi d_X6_takeBestRow_17 rfl hBV_2 rfl ⟨by omega, by omega⟩ (fun V_4 eV_4 hBV_4 => ?_)
  have fV_4 := chg_u eV_4 rfl fV_2
  refine T_al d_X6_takeBestRow_20 rfl ?_
  refine T_al d_X6_takeBestRow_21 rfl ?_
  refine F_gi d_X6_takeBestRow_22 rfl hBV_4 rfl (fun b_5 => ?_)
  have fV_4_85_12 : V_4 85 12 = V_2 85 12 := by rw [eV_4]; rfl
  have gV_4_85_12 := (congrFun (congrFun eV_2 85) 12).trans uV_self
  rw [fV_4_85_12, gV_4_85_12]
  rw [fV_4_85_12, gV_4_85_12] at b_5
  refine T_k d_X6_takeBestRow_25 ?_
  refine T_ieq d_X6_takeBestRow_28 ⟨by omega, by omega⟩ ⟨by omega, by omega⟩ (fun h28 => ?_) (fun h28 => ?_)
  · skip
    refine T_k d_X6_takeBestRow_35 ?_
    refine F_pz d_X6_takeBestRow_36 rfl hBV_4 rfl ⟨by omega, by omega⟩ (fun V_6 eV_6 hBV_6 => ?_)
    have fV_6 := chg_u eV_6 rfl fV_4
    refine T_k d_X6_takeBestRow_39 ?_
    refine T_is d_X6_takeBestRow_40 (ls' := [(0, vr 85), (1, vi 0)]) rfl ?_
    -- to 41 28t@41
    have L41 : ∀ (fu : Nat) (X : VV) (i : Nat), n - i < fu → (Bd X) → (chg [(96, 96)] [(85, 11, 13)] V X) → (i ≤ n) → (X 85 11 = if L = 1000 then 0 else 1) → (X 85 12 = (L : Int)) → (X 85 13 = (W : Int)) → (∀ t, t < i → X 96 t = (L : Int) - ((B / 16 ^ (12 - t) % 16 : Nat) : Int)) → TT G M_X6_takeBestRow (rmd 2 162 162) 162 (Zm G 162 162 (PQ [(96, 96)] [(85, 11, 13)] V R (fun o X => o = none ∧ phC n L W B X))) 162 41 [(0, vr 85), (1, vi (i : Int))] [] X R := by
      intro fu
      induction fu with
      | zero => intro X i hm; exact absurd hm (Nat.not_lt_zero _)
      | succ fu ih41 =>
        intro X i hm41 hBX fX hi x11 x12 x13 x96
        have x0 : X 85 0 = (n : Int) := (fX 85 0 rfl rfl).trans h0
        have x95 := chg_k (c := 95) fX rfl
        refine T_il d_X6_takeBestRow_41 rfl ?_
        refine T_al d_X6_takeBestRow_42 rfl ?_
        refine F_gi d_X6_takeBestRow_43 rfl hBX rfl (fun b_7 => ?_)
        refine T_ige d_X6_takeBestRow_46 ⟨by omega, by omega⟩ ⟨by omega, by omega⟩ (fun h46 => ?_) (fun h46 => ?_)
        · skip
          -- leaf 46t@83
          refine T_vret d_X6_takeBestRow_83 rfl ?_
          exact ⟨rfl, hBX, fX, rfl, x12, x13, x11, fun t ht => x96 t (by omega)⟩
        · skip
          refine T_al d_X6_takeBestRow_49 rfl ?_
          refine F_gr (b := 95) d_X6_takeBestRow_50 rfl hF rfl ?_
          refine T_k d_X6_takeBestRow_53 ?_
          refine F_la d_X6_takeBestRow_54 rfl hBX rfl ⟨by omega, by omega⟩ (fun b_8 => ?_)
          try simp only [Int.toNat_natCast]
          try simp only [Int.toNat_natCast] at b_8
          refine T_il d_X6_takeBestRow_55 rfl ?_
          refine C_ps1 d_X6_takeBestRow_56 (hdF (by decide)) (hcF _) (R_X6_digitShift) ?_
          refine T_lshr d_X6_takeBestRow_59 ?_
          refine T_l2i d_X6_takeBestRow_60 ?_
          refine T_k d_X6_takeBestRow_61 ?_
          refine T_iand d_X6_takeBestRow_63 ?_
          refine F_isg d_X6_takeBestRow_64 (f := fun x_9 => [(0, vr 85), (1, vi (i : Int)), (2, vi x_9)]) (fun _ => rfl) (fun x_9 ex_9 => ?_)
          have z95 : X 95 (0 : Int).toNat = (B : Int) := by rw [x95]; exact hb
          obtain rfl : x_9 = ((B / 16 ^ (12 - i) % 16 : Nat) : Int) := by rw [ex_9, z95, shr16 hB2 (by omega), iand15]
          refine T_al d_X6_takeBestRow_65 rfl ?_
          refine F_gr (b := 96) d_X6_takeBestRow_66 rfl hF rfl ?_
          refine T_il d_X6_takeBestRow_69 rfl ?_
          refine T_al d_X6_takeBestRow_70 rfl ?_
          refine F_gi d_X6_takeBestRow_71 rfl hBX rfl (fun b_10 => ?_)
          refine T_il d_X6_takeBestRow_74 rfl ?_
          refine T_isub d_X6_takeBestRow_75 ?_
          refine F_is d_X6_takeBestRow_76 rfl hBX rfl ⟨by omega, by omega⟩ ⟨by omega, by omega⟩ (fun V_11 eV_11 hBV_11 => ?_)
          have fV_11 := chg_u eV_11 rfl fX
          refine F_incg d_X6_takeBestRow_77 rfl (f := fun x_12 => [(0, vr 85), (1, vi x_12), (2, vi ((B / 16 ^ (12 - i) % 16 : Nat) : Int))]) (fun _ => rfl) (fun x_12 ex_12 => ?_)
          refine T_go d_X6_takeBestRow_80 ?_
          -- to 41 46f@41
          refine T_subp (ks := [0, 1]) (ls' := [(0, vr 85), (1, vi x_12)]) rfl ?_
          obtain rfl : x_12 = ((i + 1) : Int) := by omega
          exact ih41 V_11 (i + 1) (by omega) hBV_11 fV_11 (by first | assumption | omega) (by rw [eV_11]; exact x11) (by rw [eV_11]; exact x12) (by rw [eV_11]; exact x13) (row_s (f := fun t => (L : Int) - ((B / 16 ^ (12 - t) % 16 : Nat) : Int)) eV_11 (by rw [x12]) x96)
    exact L41 _ V_6 (0) (Nat.lt_succ_self _) hBV_6 fV_6 (by first | assumption | omega) (by rw [eV_6, if_pos (by omega)]; rfl) (by rw [eV_6, eV_4, eV_2]; rfl) (by rw [eV_6, eV_4]; rfl) (fun t ht => absurd ht (Nat.not_lt_zero _))
  · skip
    refine T_k d_X6_takeBestRow_31 ?_
    refine T_go d_X6_takeBestRow_32 ?_
    refine F_pz d_X6_takeBestRow_36 rfl hBV_4 rfl ⟨by omega, by omega⟩ (fun V_13 eV_13 hBV_13 => ?_)
    have fV_13 := chg_u eV_13 rfl fV_4
    refine T_k d_X6_takeBestRow_39 ?_
    refine T_is d_X6_takeBestRow_40 (ls' := [(0, vr 85), (1, vi 0)]) rfl ?_
    -- to 41 28f@41
    have L41 : ∀ (fu : Nat) (X : VV) (i : Nat), n - i < fu → (Bd X) → (chg [(96, 96)] [(85, 11, 13)] V X) → (i ≤ n) → (X 85 11 = if L = 1000 then 0 else 1) → (X 85 12 = (L : Int)) → (X 85 13 = (W : Int)) → (∀ t, t < i → X 96 t = (L : Int) - ((B / 16 ^ (12 - t) % 16 : Nat) : Int)) → TT G M_X6_takeBestRow (rmd 2 162 162) 162 (Zm G 162 162 (PQ [(96, 96)] [(85, 11, 13)] V R (fun o X => o = none ∧ phC n L W B X))) 162 41 [(0, vr 85), (1, vi (i : Int))] [] X R := by
      intro fu
      induction fu with
      | zero => intro X i hm; exact absurd hm (Nat.not_lt_zero _)
      | succ fu ih41 =>
        intro X i hm41 hBX fX hi x11 x12 x13 x96
        have x0 : X 85 0 = (n : Int) := (fX 85 0 rfl rfl).trans h0
        have x95 := chg_k (c := 95) fX rfl
        refine T_il d_X6_takeBestRow_41 rfl ?_
        refine T_al d_X6_takeBestRow_42 rfl ?_
        refine F_gi d_X6_takeBestRow_43 rfl hBX rfl (fun b_14 => ?_)
        refine T_ige d_X6_takeBestRow_46 ⟨by omega, by omega⟩ ⟨by omega, by omega⟩ (fun h46 => ?_) (fun h46 => ?_)
        · skip
          -- leaf 46t@83
          refine T_vret d_X6_takeBestRow_83 rfl ?_
          exact ⟨rfl, hBX, fX, rfl, x12, x13, x11, fun t ht => x96 t (by omega)⟩
        · skip
          refine T_al d_X6_takeBestRow_49 rfl ?_
          refine F_gr (b := 95) d_X6_takeBestRow_50 rfl hF rfl ?_
          refine T_k d_X6_takeBestRow_53 ?_
          refine F_la d_X6_takeBestRow_54 rfl hBX rfl ⟨by omega, by omega⟩ (fun b_15 => ?_)
          try simp only [Int.toNat_natCast]
          try simp only [Int.toNat_natCast] at b_15
          refine T_il d_X6_takeBestRow_55 rfl ?_
          refine C_ps1 d_X6_takeBestRow_56 (hdF (by decide)) (hcF _) (R_X6_digitShift) ?_
          refine T_lshr d_X6_takeBestRow_59 ?_
          refine T_l2i d_X6_takeBestRow_60 ?_
          refine T_k d_X6_takeBestRow_61 ?_
          refine T_iand d_X6_takeBestRow_63 ?_
          refine F_isg d_X6_takeBestRow_64 (f := fun x_16 => [(0, vr 85), (1, vi (i : Int)), (2, vi x_16)]) (fun _ => rfl) (fun x_16 ex_16 => ?_)
          have z95 : X 95 (0 : Int).toNat = (B : Int) := by rw [x95]; exact hb
          obtain rfl : x_16 = ((B / 16 ^ (12 - i) % 16 : Nat) : Int) := by rw [ex_16, z95, shr16 hB2 (by omega), iand15]
          refine T_al d_X6_takeBestRow_65 rfl ?_
          refine F_gr (b := 96) d_X6_takeBestRow_66 rfl hF rfl ?_
          refine T_il d_X6_takeBestRow_69 rfl ?_
          refine T_al d_X6_takeBestRow_70 rfl ?_
          refine F_gi d_X6_takeBestRow_71 rfl hBX rfl (fun b_17 => ?_)
          refine T_il d_X6_takeBestRow_74 rfl ?_
          refine T_isub d_X6_takeBestRow_75 ?_
          refine F_is d_X6_takeBestRow_76 rfl hBX rfl ⟨by omega, by omega⟩ ⟨by omega, by omega⟩ (fun V_18 eV_18 hBV_18 => ?_)
          have fV_18 := chg_u eV_18 rfl fX
          refine F_incg d_X6_takeBestRow_77 rfl (f := fun x_19 => [(0, vr 85), (1, vi x_19), (2, vi ((B / 16 ^ (12 - i) % 16 : Nat) : Int))]) (fun _ => rfl) (fun x_19 ex_19 => ?_)
          refine T_go d_X6_takeBestRow_80 ?_
          -- to 41 46f@41
          refine T_subp (ks := [0, 1]) (ls' := [(0, vr 85), (1, vi x_19)]) rfl ?_
          obtain rfl : x_19 = ((i + 1) : Int) := by omega
          exact ih41 V_18 (i + 1) (by omega) hBV_18 fV_18 (by first | assumption | omega) (by rw [eV_18]; exact x11) (by rw [eV_18]; exact x12) (by rw [eV_18]; exact x13) (row_s (f := fun t => (L : Int) - ((B / 16 ^ (12 - t) % 16 : Nat) : Int)) eV_18 (by rw [x12]) x96)
    exact L41 _ V_13 (0) (Nat.lt_succ_self _) hBV_13 fV_13 (by first | assumption | omega) (by rw [eV_13, if_neg (by omega)]; rfl) (by rw [eV_13, eV_4, eV_2]; rfl) (by rw [eV_13, eV_4]; rfl) (fun t ht => absurd ht (Nat.not_lt_zero _))
