set_option maxHeartbeats 1000000 in
set_option maxRecDepth 100000 in
theorem R_X6_meetMembers {G : GG} {V : VV} {R : RR}  {S : Sp} {Ks : Nat → Kd} {N ch : Nat} {l : Nat → Nat → Int} {ρ : Nat → Nat} (hB : Bd V) (hF : FinR R) (hN : N ≤ 24) (hrw : rwI R ρ) (hrl : rwL S Ks N l ρ V) (h13 : chN ch N ≤ 13) (h0 : V 85 0 = (chN ch N : Int)) (hm : mmR ρ ch N (chN ch N) R) : Runs G M_X6_meetMembers 6 162 162 [vr 85] V R (PQ [(88, 88)] [] V R (fun o X => o = none ∧ rowC 88 (mtM S Ks l ch N) (chN ch N) X)) := by
  refine Runs.of pn_X6 (Nat.le_of_ble_eq_true rfl) rfl ?_
  show TT G M_X6_meetMembers (rmd 6 162 162) 162 (Zm G 162 162 (PQ [(88, 88)] [] V R (fun o X => o = none ∧ rowC 88 (mtM S Ks l ch N) (chN ch N) X))) 162 0 [(0, vr 85)] [] V R
  have fV : chg [(88, 88)] [] V V := chg_r
  have hcN : cntB (fun x => ch.testBit x) N = chN ch N := rfl
  refine T_k d_X6_meetMembers_0 ?_
  refine T_is d_X6_meetMembers_1 (ls' := [(0, vr 85), (1, vi 0)]) rfl ?_
  -- to 2 @2
  have L2 : ∀ (fu : Nat) (X : VV) (i : Nat), chN ch N - i < fu → (Bd X) → (chg [(88, 88)] [] V X) → (i ≤ chN ch N) → (∀ t, t < i → X 88 t = (bitsN (mtM S Ks l ch N t) (chN ch N) : Int)) → TT G M_X6_meetMembers (rmd 6 162 162) 162 (Zm G 162 162 (PQ [(88, 88)] [] V R (fun o X => o = none ∧ rowC 88 (mtM S Ks l ch N) (chN ch N) X))) 162 2 [(0, vr 85), (1, vi (i : Int))] [] X R := by
    intro fu
    induction fu with
    | zero => intro X i hm; exact absurd hm (Nat.not_lt_zero _)
    | succ fu ih2 =>
      intro X i hm2 hBX fX hi x1
      have x0 : X 85 0 = (chN ch N : Int) := (fX 85 0 rfl rfl).trans h0
      refine T_il d_X6_meetMembers_2 rfl ?_
      refine T_al d_X6_meetMembers_3 rfl ?_
      refine F_gi d_X6_meetMembers_4 rfl hBX rfl (fun b_1 => ?_)
      refine T_ige d_X6_meetMembers_7 ⟨by omega, by omega⟩ ⟨by omega, by omega⟩ (fun h7 => ?_) (fun h7 => ?_)
      · skip
        -- leaf 7t@74
        refine T_vret d_X6_meetMembers_74 rfl ?_
        have ei : i = chN ch N := by omega
        rw [ei] at x1
        exact ⟨rfl, hBX, fX, rfl, x1⟩
      · skip
        refine T_al d_X6_meetMembers_10 rfl ?_
        refine F_gr (b := 88) d_X6_meetMembers_11 rfl hF rfl ?_
        refine T_il d_X6_meetMembers_14 rfl ?_
        refine T_k d_X6_meetMembers_15 ?_
        refine F_is d_X6_meetMembers_16 rfl hBX rfl ⟨by omega, by omega⟩ ⟨by omega, by omega⟩ (fun V_2 eV_2 hBV_2 => ?_)
        have fV_2 := chg_u eV_2 rfl fX
        refine T_k d_X6_meetMembers_17 ?_
        refine T_is d_X6_meetMembers_18 (ls' := [(0, vr 85), (1, vi (i : Int)), (2, vi 0)]) rfl ?_
        -- to 19 7f@19
        have L19 : ∀ (fu : Nat) (Y : VV) (j : Nat), chN ch N - j < fu → (Bd Y) → (chg [(88, 88)] [] V Y) → (j ≤ chN ch N) → (∀ t, t < i → Y 88 t = (bitsN (mtM S Ks l ch N t) (chN ch N) : Int)) → (Y 88 i = (bitsN (mtM S Ks l ch N i) j : Int)) → TT G M_X6_meetMembers (rmd 6 162 162) 162 (Zm G 162 162 (PQ [(88, 88)] [] V R (fun o X => o = none ∧ rowC 88 (mtM S Ks l ch N) (chN ch N) X))) 162 19 [(0, vr 85), (1, vi (i : Int)), (2, vi (j : Int))] [] Y R := by
          intro fu
          induction fu with
          | zero => intro Y j hm; exact absurd hm (Nat.not_lt_zero _)
          | succ fu ih19 =>
            intro Y j hm19 hBY fY hj y1 y2
            have y0 : Y 85 0 = (chN ch N : Int) := (fY 85 0 rfl rfl).trans h0
            have bj := bn_13 (p := mtM S Ks l ch N i) (n := j) (by omega)
            refine T_il d_X6_meetMembers_19 rfl ?_
            refine T_al d_X6_meetMembers_20 rfl ?_
            refine F_gi d_X6_meetMembers_21 rfl hBY rfl (fun b_3 => ?_)
            refine T_ige d_X6_meetMembers_24 ⟨by omega, by omega⟩ ⟨by omega, by omega⟩ (fun h24 => ?_) (fun h24 => ?_)
            · skip
              refine F_incg d_X6_meetMembers_68 rfl (f := fun x_4 => [(0, vr 85), (1, vi x_4), (2, vi (j : Int))]) (fun _ => rfl) (fun x_4 ex_4 => ?_)
              refine T_go d_X6_meetMembers_71 ?_
              -- to 2 24t@2
              refine T_subp (ks := [0, 1]) (ls' := [(0, vr 85), (1, vi x_4)]) rfl ?_
              have ej : j = chN ch N := by omega
              rw [ej] at y2
              obtain rfl : x_4 = ((i + 1) : Int) := by omega
              exact ih2 Y (i + 1) (by omega) hBY fY (by first | assumption | omega) (up_all y1 y2)
            · skip
              refine T_il d_X6_meetMembers_27 rfl ?_
              refine T_il d_X6_meetMembers_28 rfl ?_
              refine T_ieq d_X6_meetMembers_29 ⟨by omega, by omega⟩ ⟨by omega, by omega⟩ (fun h29 => ?_) (fun h29 => ?_)
              · skip
                refine F_incg d_X6_meetMembers_62 rfl (f := fun x_5 => [(0, vr 85), (1, vi (i : Int)), (2, vi x_5)]) (fun _ => rfl) (fun x_5 ex_5 => ?_)
                refine T_go d_X6_meetMembers_65 ?_
                -- to 19 24f.29t@19
                obtain rfl : x_5 = ((j + 1) : Int) := by omega
                exact ih19 Y (j + 1) (by omega) hBY fY (by first | assumption | omega) y1 (by rw [bits_f (mt_eq (by omega))]; exact y2)
              · skip
                have ni := nth_ok (p := fun x => ch.testBit x) (n := N) (i := i) (show i < cntB (fun x => ch.testBit x) N by omega)
                have mi : mbr ch N i < N := ni.1
                have ri := hrw.1 (mbr ch N i) (by omega)
                have nj := nth_ok (p := fun x => ch.testBit x) (n := N) (i := j) (show j < cntB (fun x => ch.testBit x) N by omega)
                have mj : mbr ch N j < N := nj.1
                have rj := hrw.1 (mbr ch N j) (by omega)
                have hli := lay_h ri.2
                have hlj := lay_h rj.2
                have yl := rwL_x hrl hrw hN (V' := Y) (fun c j h1 h2 _ => fY c j (inA_no (by omega)) rfl)
                have mc := met_C (yl _ mi).1 (yl _ mj).1
                refine T_al d_X6_meetMembers_32 rfl ?_
                refine F_gr (b := 86) d_X6_meetMembers_33 rfl hF rfl ?_
                refine T_il d_X6_meetMembers_36 rfl ?_
                refine F_aa d_X6_meetMembers_37 rfl ⟨by omega, by omega⟩ ?_
                rw [show R 86 ((i : Nat) : Int).toNat = some (ρ (mbr ch N i)) from hm i (by omega)]
                refine T_al d_X6_meetMembers_38 rfl ?_
                refine F_gr (b := 86) d_X6_meetMembers_39 rfl hF rfl ?_
                refine T_il d_X6_meetMembers_42 rfl ?_
                refine F_aa d_X6_meetMembers_43 rfl ⟨by omega, by omega⟩ ?_
                rw [show R 86 ((j : Nat) : Int).toNat = some (ρ (mbr ch N j)) from hm j (by omega)]
                refine C_pv1 d_X6_meetMembers_44 hli (hdF (by decide)) (hcF _) (R_X2_meets (h := ρ (mbr ch N i)) (o := ρ (mbr ch N j)) hBY hF ri.2 rj.2) ?_
                refine T_pz0 d_X6_meetMembers_47 (fun h47 => ?_) (fun h47 => ?_)
                · skip
                  refine F_incg d_X6_meetMembers_62 rfl (f := fun x_6 => [(0, vr 85), (1, vi (i : Int)), (2, vi x_6)]) (fun _ => rfl) (fun x_6 ex_6 => ?_)
                  refine T_go d_X6_meetMembers_65 ?_
                  -- to 19 24f.29f.47t@19
                  obtain rfl : x_6 = ((j + 1) : Int) := by omega
                  exact ih19 Y (j + 1) (by omega) hBY fY (by first | assumption | omega) y1 (by rw [bits_f (Bool.eq_false_iff.mpr fun z => h47 (mc.mpr (by unfold mtM at z; rw [Bool.and_eq_true] at z; exact z.2)))]; exact y2)
                · skip
                  refine T_al d_X6_meetMembers_50 rfl ?_
                  refine F_gr (b := 88) d_X6_meetMembers_51 rfl hF rfl ?_
                  refine T_il d_X6_meetMembers_54 rfl ?_
                  refine T_dup2 d_X6_meetMembers_55 rfl rfl ?_
                  refine F_ia d_X6_meetMembers_56 rfl hBY rfl ⟨by omega, by omega⟩ (fun b_7 => ?_)
                  try simp only [Int.toNat_natCast]
                  try simp only [Int.toNat_natCast] at b_7
                  refine T_k d_X6_meetMembers_57 ?_
                  refine T_il d_X6_meetMembers_58 rfl ?_
                  refine T_ishl d_X6_meetMembers_59 ?_
                  refine T_ior d_X6_meetMembers_60 ?_
                  rw [y2, (or_13 bj (by omega)).1]
                  refine F_is d_X6_meetMembers_61 rfl hBY rfl ⟨by omega, by omega⟩ ⟨by omega, by have := (or_13 bj (show j < 13 by omega)).2; omega⟩ (fun V_8 eV_8 hBV_8 => ?_)
                  have fV_8 := chg_u eV_8 rfl fY
                  refine F_incg d_X6_meetMembers_62 rfl (f := fun x_9 => [(0, vr 85), (1, vi (i : Int)), (2, vi x_9)]) (fun _ => rfl) (fun x_9 ex_9 => ?_)
                  refine T_go d_X6_meetMembers_65 ?_
                  -- to 19 24f.29f.47f@19
                  obtain rfl : x_9 = ((j + 1) : Int) := by omega
                  exact ih19 V_8 (j + 1) (by omega) hBV_8 fV_8 (by first | assumption | omega) (fun t ht => by rw [eV_8, Int.toNat_natCast, uV_at, if_neg (by omega)]; exact y1 t ht) (by rw [eV_8, Int.toNat_natCast, bits_t (show mtM S Ks l ch N i j = true from by unfold mtM; rw [decide_eq_true (show i ≠ j by omega), mc.mp h47]; rfl)]; exact uV_self)
        exact L19 _ V_2 (0) (Nat.lt_succ_self _) hBV_2 fV_2 (by first | assumption | omega) (fun t ht => by rw [eV_2, Int.toNat_natCast, uV_at, if_neg (by omega)]; exact x1 t ht) (by rw [eV_2, Int.toNat_natCast]; exact uV_self)
  exact L2 _ V (0) (Nat.lt_succ_self _) hB fV (by first | assumption | omega) (fun t ht => absurd ht (Nat.not_lt_zero _))
set_option maxHeartbeats 1000000 in
set_option maxRecDepth 100000 in
theorem R_X6_relateMembers {G : GG} {V : VV} {R : RR}  {mt lt : Nat → Nat → Bool} {n : Nat} (hB : Bd V) (hF : FinR R) (hn : n ≤ 13) (h0 : V 85 0 = (n : Int)) (hm : rowC 88 mt n V) (hl : rowC 89 lt n V) (hir : ∀ i, lt i i = false) : Runs G M_X6_relateMembers 1 162 162 [vr 85] V R (PQ [(90, 90)] [] V R (fun o X => o = none ∧ rowC 90 (rlB mt lt) n X)) := by
  refine Runs.of pn_X6 (Nat.le_of_ble_eq_true rfl) rfl ?_
  show TT G M_X6_relateMembers (rmd 1 162 162) 162 (Zm G 162 162 (PQ [(90, 90)] [] V R (fun o X => o = none ∧ rowC 90 (rlB mt lt) n X))) 162 0 [(0, vr 85)] [] V R
  have fV : chg [(90, 90)] [] V V := chg_r
  refine T_al d_X6_relateMembers_0 rfl ?_
  refine F_gr (b := 88) d_X6_relateMembers_1 rfl hF rfl ?_
  refine T_k d_X6_relateMembers_4 ?_
  refine T_al d_X6_relateMembers_5 rfl ?_
  refine F_gr (b := 90) d_X6_relateMembers_6 rfl hF rfl ?_
  refine T_k d_X6_relateMembers_9 ?_
  refine T_k d_X6_relateMembers_10 ?_
  refine F_ac13 dAC_rel rfl rfl rfl hB rfl ⟨by decide, by decide⟩ ⟨by decide, by decide⟩ (by decide) ⟨by decide, by decide⟩ (fun V_1 eV_1 hBV_1 => ?_)
  have fV_1 := chg_v eV_1 rfl fV
  refine T_k d_X6_relateMembers_15 ?_
  refine T_is d_X6_relateMembers_16 (ls' := [(0, vr 85), (1, vi 0)]) rfl ?_
  -- to 17 @17
  have L17 : ∀ (fu : Nat) (X : VV) (i : Nat), n - i < fu → (Bd X) → (chg [(90, 90)] [] V X) → (i ≤ n) → (relI mt lt n i 0 X) → TT G M_X6_relateMembers (rmd 1 162 162) 162 (Zm G 162 162 (PQ [(90, 90)] [] V R (fun o X => o = none ∧ rowC 90 (rlB mt lt) n X))) 162 17 [(0, vr 85), (1, vi (i : Int))] [] X R := by
    intro fu
    induction fu with
    | zero => intro X i hm; exact absurd hm (Nat.not_lt_zero _)
    | succ fu ih17 =>
      intro X i hm17 hBX fX hi xr
      have x0 : X 85 0 = (n : Int) := (fX 85 0 rfl rfl).trans h0
      refine T_il d_X6_relateMembers_17 rfl ?_
      refine T_al d_X6_relateMembers_18 rfl ?_
      refine F_gi d_X6_relateMembers_19 rfl hBX rfl (fun b_2 => ?_)
      refine T_ige d_X6_relateMembers_22 ⟨by omega, by omega⟩ ⟨by omega, by omega⟩ (fun h22 => ?_) (fun h22 => ?_)
      · skip
        -- leaf 22t@85
        refine T_vret d_X6_relateMembers_85 rfl ?_
        have ei : i = n := by omega
        rw [ei] at xr
        exact ⟨rfl, hBX, fX, rfl, rel_f xr⟩
      · skip
        refine T_k d_X6_relateMembers_25 ?_
        refine T_is d_X6_relateMembers_26 (ls' := [(0, vr 85), (1, vi (i : Int)), (2, vi 0)]) rfl ?_
        -- to 27 22f@27
        have L27 : ∀ (fu : Nat) (Y : VV) (j : Nat), n - j < fu → (Bd Y) → (chg [(90, 90)] [] V Y) → (j ≤ n) → (relI mt lt n i j Y) → TT G M_X6_relateMembers (rmd 1 162 162) 162 (Zm G 162 162 (PQ [(90, 90)] [] V R (fun o X => o = none ∧ rowC 90 (rlB mt lt) n X))) 162 27 [(0, vr 85), (1, vi (i : Int)), (2, vi (j : Int))] [] Y R := by
          intro fu
          induction fu with
          | zero => intro Y j hm; exact absurd hm (Nat.not_lt_zero _)
          | succ fu ih27 =>
            intro Y j hm27 hBY fY hj yr
            have y0 : Y 85 0 = (n : Int) := (fY 85 0 rfl rfl).trans h0
            have y89 := chg_k (c := 89) fY rfl
            refine T_il d_X6_relateMembers_27 rfl ?_
            refine T_al d_X6_relateMembers_28 rfl ?_
            refine F_gi d_X6_relateMembers_29 rfl hBY rfl (fun b_3 => ?_)
            refine T_ige d_X6_relateMembers_32 ⟨by omega, by omega⟩ ⟨by omega, by omega⟩ (fun h32 => ?_) (fun h32 => ?_)
            · skip
              refine F_incg d_X6_relateMembers_79 rfl (f := fun x_4 => [(0, vr 85), (1, vi x_4), (2, vi (j : Int))]) (fun _ => rfl) (fun x_4 ex_4 => ?_)
              refine T_go d_X6_relateMembers_82 ?_
              -- to 17 32t@17
              refine T_subp (ks := [0, 1]) (ls' := [(0, vr 85), (1, vi x_4)]) rfl ?_
              have ej : j = n := by omega
              rw [ej] at yr
              obtain rfl : x_4 = ((i + 1) : Int) := by omega
              exact ih17 Y (i + 1) (by omega) hBY fY (by first | assumption | omega) (rel_r yr)
            · skip
              have b89 := hl i (by omega)
              have bi_ := yr i (by omega)
              have bj_ := yr j (by omega)
              have ki := bn_13 (p := fun c => mt i c || dnP lt i j i c) hn
              have kj := bn_13 (p := fun c => mt j c || dnP lt i j j c) hn
              have kl := bn_13 (p := lt i) hn
              have oi := or_13 ki (show j < 13 by omega)
              have oj := or_13 kj (show i < 13 by omega)
              have et : (bitsN (lt i) n).testBit j = lt i j := by have z := bn_t (p := lt i) (n := n) (j := j); cases w : (bitsN (lt i) n).testBit j <;> cases w2 : lt i j <;> simp_all
              refine T_al d_X6_relateMembers_35 rfl ?_
              refine F_gr (b := 89) d_X6_relateMembers_36 rfl hF rfl ?_
              refine T_il d_X6_relateMembers_39 rfl ?_
              refine F_ia d_X6_relateMembers_40 rfl hBY rfl ⟨by omega, by omega⟩ (fun b_5 => ?_)
              try simp only [Int.toNat_natCast, y89]
              try simp only [Int.toNat_natCast, y89] at b_5
              refine T_il d_X6_relateMembers_41 rfl ?_
              refine T_ishr d_X6_relateMembers_42 ?_
              refine T_k d_X6_relateMembers_43 ?_
              refine T_iand d_X6_relateMembers_44 ?_
              rw [b89, tbI (by omega) (by omega), et]
              refine T_k d_X6_relateMembers_45 ?_
              refine T_ine d_X6_relateMembers_46 (bi_r _) ⟨by omega, by omega⟩ (fun h46 => ?_) (fun h46 => ?_)
              · skip
                refine F_incg d_X6_relateMembers_73 rfl (f := fun x_6 => [(0, vr 85), (1, vi (i : Int)), (2, vi x_6)]) (fun _ => rfl) (fun x_6 ex_6 => ?_)
                refine T_go d_X6_relateMembers_76 ?_
                -- to 27 32f.46t@27
                obtain rfl : x_6 = ((j + 1) : Int) := by omega
                exact ih27 Y (j + 1) (by omega) hBY fY (by first | assumption | omega) (rel_no yr (Bool.eq_false_iff.mpr fun z => h46 (bi_1.mpr z)))
              · skip
                have lij : lt i j = true := bi_1.mp h46
                have nij : i ≠ j := fun z => by rw [z, hir j] at lij; cases lij
                refine T_al d_X6_relateMembers_49 rfl ?_
                refine F_gr (b := 90) d_X6_relateMembers_50 rfl hF rfl ?_
                refine T_il d_X6_relateMembers_53 rfl ?_
                refine T_dup2 d_X6_relateMembers_54 rfl rfl ?_
                refine F_ia d_X6_relateMembers_55 rfl hBY rfl ⟨by omega, by omega⟩ (fun b_7 => ?_)
                try simp only [Int.toNat_natCast]
                try simp only [Int.toNat_natCast] at b_7
                refine T_k d_X6_relateMembers_56 ?_
                refine T_il d_X6_relateMembers_57 rfl ?_
                refine T_ishl d_X6_relateMembers_58 ?_
                refine T_ior d_X6_relateMembers_59 ?_
                rw [bi_, oi.1]
                refine F_is d_X6_relateMembers_60 rfl hBY rfl ⟨by omega, by omega⟩ ⟨by omega, by omega⟩ (fun V_8 eV_8 hBV_8 => ?_)
                have fV_8 := chg_u eV_8 rfl fY
                refine T_al d_X6_relateMembers_61 rfl ?_
                refine F_gr (b := 90) d_X6_relateMembers_62 rfl hF rfl ?_
                refine T_il d_X6_relateMembers_65 rfl ?_
                refine T_dup2 d_X6_relateMembers_66 rfl rfl ?_
                refine F_ia d_X6_relateMembers_67 rfl hBV_8 rfl ⟨by omega, by omega⟩ (fun b_9 => ?_)
                try simp only [Int.toNat_natCast]
                try simp only [Int.toNat_natCast] at b_9
                refine T_k d_X6_relateMembers_68 ?_
                refine T_il d_X6_relateMembers_69 rfl ?_
                refine T_ishl d_X6_relateMembers_70 ?_
                refine T_ior d_X6_relateMembers_71 ?_
                rw [show V_8 90 j = Y 90 j from by rw [eV_8, Int.toNat_natCast, uV_at, if_neg (fun z => nij z.symm)], bj_, oj.1]
                refine F_is d_X6_relateMembers_72 rfl hBV_8 rfl ⟨by omega, by omega⟩ ⟨by omega, by omega⟩ (fun V_10 eV_10 hBV_10 => ?_)
                have fV_10 := chg_u eV_10 rfl fV_8
                refine F_incg d_X6_relateMembers_73 rfl (f := fun x_11 => [(0, vr 85), (1, vi (i : Int)), (2, vi x_11)]) (fun _ => rfl) (fun x_11 ex_11 => ?_)
                refine T_go d_X6_relateMembers_76 ?_
                -- to 27 32f.46f@27
                obtain rfl : x_11 = ((j + 1) : Int) := by omega
                exact ih27 V_10 (j + 1) (by omega) hBV_10 fV_10 (by first | assumption | omega) (rel_y yr lij nij (by omega) (by omega) bi_ bj_ (Y := V_8) (by rw [eV_8, Int.toNat_natCast]) (by rw [eV_10, Int.toNat_natCast]))
        exact L27 _ X (0) (Nat.lt_succ_self _) hBX fX (by first | assumption | omega) xr
  exact L17 _ V_1 (0) (Nat.lt_succ_self _) hBV_1 fV_1 (by first | assumption | omega) (rel_0 hm hn eV_1)
