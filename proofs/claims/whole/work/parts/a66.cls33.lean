set_option maxHeartbeats 1000000 in
set_option maxRecDepth 100000 in
theorem R_X3_get {G : GG} {V : VV} {R : RR}  {N i : Nat} {ρ : Nat → Nat} (hB : Bd V) (hF : FinR R) (hN : N ≤ 24) (hNz : V 56 1 = (N : Int)) (hrw : rwI R ρ) (hi : i < N) : RunsP G M_X3_get 2 [vr 56, vi (i:Int)] V R (vr (ρ i)) := by
  unfold RunsP
  refine Runs.of pn_X3 (Nat.le_of_ble_eq_true rfl) rfl ?_
  show TT G M_X3_get (rmd 2 162 162) 162 (Zm G 162 162 (QP V R (vr (ρ i)))) 162 0 [(0, vr 56), (1, vi (i:Int))] [] V R
  refine T_il d_X3_get_0 rfl ?_
  refine T_k d_X3_get_1 ?_
  refine T_al d_X3_get_2 rfl ?_
  refine F_gi d_X3_get_3 rfl hB rfl (fun b_1 => ?_)
  refine T_k d_X3_get_6 ?_
  refine T_isub d_X3_get_7 ?_
  refine C_ps3 d_X3_get_8 (hdF (by decide)) (hcF _) (R_X10_isIn ⟨by omega, by omega⟩ ⟨by omega, by omega⟩ ⟨by omega, by omega⟩) ?_
  refine T_pz0 d_X3_get_11 (fun h11 => ?_) (fun h11 => ?_)
  · exact absurd (show (0 : Int) ≤ (i : Int) ∧ (i : Int) ≤ V 56 1 - 1 from ⟨by omega, by omega⟩) h11
  · skip
    refine T_al d_X3_get_14 rfl ?_
    refine F_gr (b := 57) d_X3_get_15 rfl hF rfl ?_
    refine T_il d_X3_get_18 rfl ?_
    refine F_aa d_X3_get_19 rfl ⟨by omega, by omega⟩ ?_
    rw [show R 57 ((i : Nat) : Int).toNat = some (ρ i) from (hrw.1 i (by omega)).1]
    refine T_go d_X3_get_20 ?_
    -- leaf 11f@24
    exact T_aret d_X3_get_24 rfl ⟨by rfl, rfl, rfl⟩
set_option maxHeartbeats 1000000 in
set_option maxRecDepth 100000 in
theorem R_X6_memberFor {G : GG} {V : VV} {R : RR} {g : Int} {ch N : Nat} (hB : Bd V) (hF : FinR R) (hg : -1 ≤ g ∧ g ≤ 100) (h87 : ∀ i, i < 24 → V 87 i = mbI ch N i) (hN : N ≤ 24) : RunsP G M_X6_memberFor 2 [vr 85, vi g] V R (vi (if g = -1 then -1 else mbI ch N g.toNat)) := by
  unfold RunsP
  refine Runs.of pn_X6 (Nat.le_of_ble_eq_true rfl) rfl ?_
  show TT G M_X6_memberFor (rmd 2 162 162) 162 (Zm G 162 162 (QP V R (vi (if g = -1 then -1 else mbI ch N g.toNat)))) 162 0 [(0, vr 85), (1, vi g)] [] V R
  refine T_il d_X6_memberFor_0 rfl ?_
  refine T_k d_X6_memberFor_1 ?_
  refine T_k d_X6_memberFor_2 ?_
  refine C_ps3 d_X6_memberFor_4 (hdF (by decide)) (hcF _) (R_X10_isIn ⟨by omega, by omega⟩ ⟨by omega, by omega⟩ ⟨by omega, by omega⟩) ?_
  refine T_pz0 d_X6_memberFor_7 (fun h7 => ?_) (fun h7 => ?_)
  · skip
    refine T_k d_X6_memberFor_19 ?_
    -- leaf 7t@20
    exact P_I d_X6_memberFor_20 (by by_cases q : g = -1; (rw [if_pos q]); (rw [if_neg q]; unfold mbI; rw [if_neg (fun z => h7 ⟨by omega, by omega⟩)]))
  · skip
    refine T_al d_X6_memberFor_10 rfl ?_
    refine F_gr (b := 87) d_X6_memberFor_11 rfl hF rfl ?_
    refine T_il d_X6_memberFor_14 rfl ?_
    refine F_ia d_X6_memberFor_15 rfl hB rfl ⟨by omega, by omega⟩ (fun b_1 => ?_)
    try simp only [Int.toNat_natCast]
    try simp only [Int.toNat_natCast] at b_1
    refine T_go d_X6_memberFor_16 ?_
    -- leaf 7f@20
    exact P_I d_X6_memberFor_20 (by rw [if_neg (by omega)]; exact h87 g.toNat (by omega))
set_option maxHeartbeats 1000000 in
set_option maxRecDepth 100000 in
theorem R_X6_nameMembers {G : GG} {V : VV} {R : RR}  {N ch : Nat} {ρ : Nat → Nat} (hB : Bd V) (hF : FinR R) (hN : N ≤ 24) (hNz : V 56 1 = (N : Int)) (hrw : rwI R ρ) (h19 : ∀ i, i < N → V (ρ i) 19 = bi (ch.testBit i)) (h13 : chN ch N ≤ 13) : Runs G M_X6_nameMembers 3 162 162 [vr 85, vr 56] V R (PQM [(87, 87)] [(85, 0, 0)] V R (fun o X R2 => o = none ∧ X 85 0 = (chN ch N : Int) ∧ (∀ i, i < 24 → X 87 i = mbI ch N i) ∧ mmR ρ ch N (chN ch N) R2)) := by
  refine Runs.of pn_X6 (Nat.le_of_ble_eq_true rfl) rfl ?_
  show TT G M_X6_nameMembers (rmd 3 162 162) 162 (Zm G 162 162 (PQM [(87, 87)] [(85, 0, 0)] V R (fun o X R2 => o = none ∧ X 85 0 = (chN ch N : Int) ∧ (∀ i, i < 24 → X 87 i = mbI ch N i) ∧ mmR ρ ch N (chN ch N) R2))) 162 0 [(0, vr 85), (1, vr 56)] [] V R
  have fV : chg [(87, 87)] [(85, 0, 0)] V V := chg_r
  have hcN : cntB (fun x => ch.testBit x) N = chN ch N := rfl
  refine T_al d_X6_nameMembers_0 rfl ?_
  refine T_k d_X6_nameMembers_1 ?_
  refine F_pi d_X6_nameMembers_2 rfl hB rfl ⟨by omega, by omega⟩ (fun V_1 eV_1 hBV_1 => ?_)
  have fV_1 := chg_u eV_1 rfl fV
  refine T_al d_X6_nameMembers_5 rfl ?_
  refine F_gr (b := 87) d_X6_nameMembers_6 rfl hF rfl ?_
  refine T_k d_X6_nameMembers_9 ?_
  have e85 : V_1 85 0 = 0 := by rw [eV_1]; exact uV_self
  refine C_s2 d_X6_nameMembers_10 (hdF (by decide)) (hcF _) (R_fill_87 (v := -1) hBV_1 hF ⟨by omega, by omega⟩) (fun r_2 V_3 R_4 qV_3 => ?_)
  obtain ⟨rfl, hBV_3, cV_3, rfl, pV_3⟩ := qV_3
  have fV_3 := chg_t (A := [(87, 87)]) (F := [(85, 0, 0)]) fV_1 cV_3 rfl
  refine T_k d_X6_nameMembers_13 ?_
  refine T_is d_X6_nameMembers_14 (ls' := [(0, vr 85), (1, vr 56), (2, vi 0)]) rfl ?_
  -- to 15 @15
  have L15 : ∀ (fu : Nat) (X : VV) (Q : RR) (i : Nat), N - i < fu → (Bd X) → (chg [(87, 87)] [(85, 0, 0)] V X) → (FinR Q) → (frM R Q) → (i ≤ N) → (X 85 0 = (cntB (fun x => ch.testBit x) i : Int)) → (∀ t, t < 24 → X 87 t = mbI ch i t) → (mmR ρ ch N (cntB (fun x => ch.testBit x) i) Q) → TT G M_X6_nameMembers (rmd 3 162 162) 162 (Zm G 162 162 (PQM [(87, 87)] [(85, 0, 0)] V R (fun o X R2 => o = none ∧ X 85 0 = (chN ch N : Int) ∧ (∀ i, i < 24 → X 87 i = mbI ch N i) ∧ mmR ρ ch N (chN ch N) R2))) 162 15 [(0, vr 85), (1, vr 56), (2, vi (i : Int))] [] X Q := by
    intro fu
    induction fu with
    | zero => intro X Q i hm; exact absurd hm (Nat.not_lt_zero _)
    | succ fu ih15 =>
      intro X Q i hm15 hBX fX hF hQo hi x0 x87 hQ
      have x56 : X 56 1 = (N : Int) := (fX 56 1 rfl rfl).trans hNz
      have rwQ := rwI_m hrw hQo
      refine T_il d_X6_nameMembers_15 rfl ?_
      refine T_al d_X6_nameMembers_16 rfl ?_
      refine F_gi d_X6_nameMembers_17 rfl hBX rfl (fun b_5 => ?_)
      refine T_ige d_X6_nameMembers_20 ⟨by omega, by omega⟩ ⟨by omega, by omega⟩ (fun h20 => ?_) (fun h20 => ?_)
      · skip
        -- leaf 20t@85
        refine T_vret d_X6_nameMembers_85 rfl ?_
        have ei : i = N := by omega
        rw [ei] at x0 x87 hQ
        exact ⟨hF, hQo, hBX, fX, rfl, x0, x87, hQ⟩
      · skip
        have hr := rwQ.1 i (by omega)
        have hlr := lay_h hr.2
        have x19 : X (ρ i) 19 = bi (ch.testBit i) := (fX (ρ i) 19 (inA_no (by omega)) (by unfold inF; simp; omega)).trans (h19 i (by omega))
        refine T_al d_X6_nameMembers_23 rfl ?_
        refine T_il d_X6_nameMembers_24 rfl ?_
        refine C_pv1 d_X6_nameMembers_25 rfl (hdF (by decide)) (hcF _) (R_X3_get (N := N) (ρ := ρ) (i := i) hBX hF hN x56 rwQ (by omega)) ?_
        refine F_asg d_X6_nameMembers_28 (f := fun q_6 => [(0, vr 85), (1, vr 56), (2, vi (i : Int)), (3, vq q_6)]) (fun _ => rfl) (fun q_6 eq_6 => ?_)
        have eg := eq_6
        refine T_al d_X6_nameMembers_29 rfl ?_
        refine T_nul d_X6_nameMembers_30 (fun h30 => ?_) (fun a30 h30 => ?_)
        · cases h30.symm.trans eg
        · subst h30
          obtain rfl : a30 = ρ i := Option.some.inj eg
          refine T_al d_X6_nameMembers_33 rfl ?_
          refine F_gi d_X6_nameMembers_34 hlr hBX rfl (fun b_7 => ?_)
          rw [x19]
          refine T_zeq d_X6_nameMembers_37 (bi_r _) (fun h37 => ?_) (fun h37 => ?_)
          · skip
            refine F_incg d_X6_nameMembers_79 rfl (f := fun x_8 => [(0, vr 85), (1, vr 56), (2, vi x_8), (3, vr (ρ i))]) (fun _ => rfl) (fun x_8 ex_8 => ?_)
            refine T_go d_X6_nameMembers_82 ?_
            -- to 15 20f.30a.37t@15
            refine T_subp (ks := [0, 1, 2]) (ls' := [(0, vr 85), (1, vr 56), (2, vi x_8)]) rfl ?_
            have zb : ¬ ch.testBit i = true := by rw [bi_0.mp h37]; decide
            obtain rfl : x_8 = ((i + 1) : Int) := by omega
            exact ih15 X Q (i + 1) (by omega) hBX fX hF hQo (by first | assumption | omega) (by rw [cntB_f (p := (fun x => ch.testBit x)) (n := i) zb]; exact x0) (fun t ht => by rw [mbI_f zb]; exact x87 t ht) (by rw [cntB_f (p := (fun x => ch.testBit x)) (n := i) zb]; exact hQ)
          · skip
            have zb : ch.testBit i = true := bi_n.mp h37
            have cl := chb_lt (n := N) (show i < N by omega) zb
            refine T_al d_X6_nameMembers_40 rfl ?_
            refine F_gi d_X6_nameMembers_41 rfl hBX rfl (fun b_9 => ?_)
            refine T_k d_X6_nameMembers_44 ?_
            refine T_ige d_X6_nameMembers_46 ⟨by omega, by omega⟩ ⟨by omega, by omega⟩ (fun h46 => ?_) (fun h46 => ?_)
            · omega
            · skip
              refine T_al d_X6_nameMembers_49 rfl ?_
              refine F_gr (b := 87) d_X6_nameMembers_50 rfl hF rfl ?_
              refine T_il d_X6_nameMembers_53 rfl ?_
              refine T_al d_X6_nameMembers_54 rfl ?_
              refine F_gi d_X6_nameMembers_55 rfl hBX rfl (fun b_10 => ?_)
              refine F_is d_X6_nameMembers_58 rfl hBX rfl ⟨by omega, by omega⟩ ⟨by omega, by omega⟩ (fun V_11 eV_11 hBV_11 => ?_)
              have fV_11 := chg_u eV_11 rfl fX
              refine T_al d_X6_nameMembers_59 rfl ?_
              refine F_gr (b := 86) d_X6_nameMembers_60 rfl hF rfl ?_
              refine T_al d_X6_nameMembers_63 rfl ?_
              refine F_gi d_X6_nameMembers_64 rfl hBV_11 rfl (fun b_12 => ?_)
              have fV_11_85_0 : V_11 85 0 = X 85 0 := by rw [eV_11]; rfl
              rw [fV_11_85_0]
              rw [fV_11_85_0] at b_12
              refine T_al d_X6_nameMembers_67 rfl ?_
              refine F_aast86 d_X6_nameMembers_68 hF ⟨by omega, by omega⟩ hr.2 (fun R_13 eR_13 hF => ?_)
              refine T_al d_X6_nameMembers_69 rfl ?_
              refine T_dup d_X6_nameMembers_70 rfl ?_
              refine F_gi d_X6_nameMembers_71 rfl hBV_11 rfl (fun b_14 => ?_)
              have fV_11_85_0 : V_11 85 0 = X 85 0 := by rw [eV_11]; rfl
              rw [fV_11_85_0]
              rw [fV_11_85_0] at b_14
              refine T_k d_X6_nameMembers_74 ?_
              refine T_iadd d_X6_nameMembers_75 ?_
              refine F_pi d_X6_nameMembers_76 rfl hBV_11 rfl ⟨by omega, by omega⟩ (fun V_15 eV_15 hBV_15 => ?_)
              have fV_15 := chg_u eV_15 rfl fV_11
              refine F_incg d_X6_nameMembers_79 rfl (f := fun x_16 => [(0, vr 85), (1, vr 56), (2, vi x_16), (3, vr (ρ i))]) (fun _ => rfl) (fun x_16 ex_16 => ?_)
              refine T_go d_X6_nameMembers_82 ?_
              -- to 15 20f.30a.37f.46f@15
              refine T_subp (ks := [0, 1, 2]) (ls' := [(0, vr 85), (1, vr 56), (2, vi x_16)]) rfl ?_
              obtain rfl : x_16 = ((i + 1) : Int) := by omega
              exact ih15 V_15 R_13 (i + 1) (by omega) hBV_15 fV_15 hF (frM_u hQo eR_13) (by first | assumption | omega) (by rw [eV_15]; exact uV_self.trans (by rw [x0, cntB_t (p := (fun x => ch.testBit x)) (n := i) zb]; rfl)) (fun t ht => by rw [eV_15, uV_cell (by decide)]; exact mb_r zb x87 (by rw [eV_11, Int.toNat_natCast]) x0 t ht) (mm_u (by omega) zb hQ (by rw [eR_13, show (X 85 0).toNat = cntB (fun x => ch.testBit x) i from by rw [x0]; rfl]))
  exact L15 _ V_3 R (0) (Nat.lt_succ_self _) hBV_3 fV_3 hF frM_r (by first | assumption | omega) ((cV_3 85 0 rfl rfl).trans e85) (fun t ht => by rw [pV_3 t ht, mbI_0]) (fun t ht => absurd ht (Nat.not_lt_zero _))
