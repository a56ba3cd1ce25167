set_option maxHeartbeats 1000000 in
set_option maxRecDepth 100000 in
theorem cf_step {G : GG} {V : VV} {R : RR} {w : Int} {S : Sp} {Ks : Nat → Kd} {N n T cU c u : Nat} {l : Nat → Nat → Int} {ρ : Nat → Nat} (hB : Bd V) (hF : FinR R) (so : sO S) (hN : N ≤ 24) (hNz : V 56 1 = (N : Int)) (hrw : rwI R ρ) (hrl : rwL S Ks N l ρ V) (hvf : vfC N (vL l) V) (ih : ∀ u2, u2 + 1 = u → chfP G S Ks N l ρ R u2) (hn : n + u = N) (hT : T < 2 ^ n) (hO : cOk (vL l) (bL l) N T) (hU : mR S (chU (bL l) T n) cU) (hw : w = chV (vL l) T n) (hst : stC N (vL l) c V) (hJ : chJ (vL l) (bL l) N T n c) : Runs G M_X3_chooseFrom (u + 3) 162 162 [vr 56, vi (n:Int), vi (T:Int), vj (cU:Int), vi w] V R (PQ [] [(56, 3, 5)] V R (fun o X => o = none ∧ ∃ c2, stC N (vL l) c2 X ∧ bSt (vL l) N (fun s => s = c ∨ (cOk (vL l) (bL l) N s ∧ agB T n s)) c2)) := by
  refine Runs.of pn_X3 (Nat.le_of_ble_eq_true rfl) rfl ?_
  show TT G M_X3_chooseFrom (rmd (u + 3) 162 162) 162 (Zm G 162 162 (PQ [] [(56, 3, 5)] V R (fun o X => o = none ∧ ∃ c2, stC N (vL l) c2 X ∧ bSt (vL l) N (fun s => s = c ∨ (cOk (vL l) (bL l) N s ∧ agB T n s)) c2))) 162 0 [(0, vr 56), (1, vi (n:Int)), (2, vi (T:Int)), (3, vj (cU:Int)), (5, vi w)] [] V R
  have fV : chg [] [(56, 3, 5)] V V := chg_r
  have hvb := vb_of hB hrw hN hrl
  have hps := ps_b (v := vL l) N (fun i hi => (hvb i hi).2)
  have hpm := ps_m (v := vL l) (n := n) N (by omega)
  have hpn := ps_b (v := vL l) n (fun i hi => (hvb i (by omega)).2)
  have hwb := chV_b hO n
  have hvn := hvf n (by omega)
  have hT24 : T < 2 ^ 24 := Nat.lt_of_lt_of_le hT (Nat.pow_le_pow_right (by decide) (by omega))
  have hc24 : chN T 24 ≤ 24 := cntB_le
  have hcT : chN T 24 = chN T n := lo_N hT 24 (by omega)
  have hcN : chN T N = chN T n := lo_N hT N (by omega)
  have hvN : chV (vL l) T N = chV (vL l) T n := lo_V hT N (by omega)
  obtain ⟨s5, s3, s4, sc⟩ := hst
  refine T_al d_X3_chooseFrom_0 rfl ?_
  refine T_il d_X3_chooseFrom_1 rfl ?_
  refine C_ps1 d_X3_chooseFrom_2 (hdF (by omega)) (hcF _) (R_bitCount hT24) ?_
  refine T_il d_X3_chooseFrom_5 rfl ?_
  refine T_al d_X3_chooseFrom_7 rfl ?_
  refine F_gr (b := 59) d_X3_chooseFrom_8 rfl hF rfl ?_
  refine T_il d_X3_chooseFrom_11 rfl ?_
  refine F_ia d_X3_chooseFrom_12 rfl hB rfl ⟨by omega, by omega⟩ (fun b_1 => ?_)
  try simp only [Int.toNat_natCast]
  try simp only [Int.toNat_natCast] at b_1
  refine T_iadd d_X3_chooseFrom_13 ?_
  refine C_pv2 d_X3_chooseFrom_14 rfl (hdF (by omega)) (hcF _) (R_X3_canBeat hB hF ⟨by omega, by omega⟩ ⟨by omega, by omega⟩) ?_
  refine T_pz1 d_X3_chooseFrom_17 (fun h17 => ?_) (fun h17 => ?_)
  · skip
    refine T_il d_X3_chooseFrom_21 rfl ?_
    refine T_al d_X3_chooseFrom_22 rfl ?_
    refine F_gi d_X3_chooseFrom_23 rfl hB rfl (fun b_2 => ?_)
    refine T_ilt d_X3_chooseFrom_26 ⟨by omega, by omega⟩ ⟨by omega, by omega⟩ (fun h26 => ?_) (fun h26 => ?_)
    · skip
      obtain ⟨u2, eu⟩ : ∃ u2, u = u2 + 1 := ⟨u - 1, by omega⟩
      obtain ⟨z0, ez0⟩ : ∃ d, ρ n = d := ⟨_, rfl⟩
      have hr := hrw.1 n (by omega)
      rw [ez0] at hr
      have hlr := lay_h hr.2
      have hho := (hrl n (by omega)).1
      rw [ez0] at hho
      have h17 := ho_17 hho
      obtain ⟨cn, ec, mn⟩ := ho_18 hho
      have hand := mR_and so (ro_m hrl (i := n) (by omega)) mn hU
      have hcl : cn &&& cU ≤ cn := Nat.and_le_left
      have hcn := mn.1
      have hcu := hU.1
      have vn := hvb n (by omega)
      refine T_al d_X3_chooseFrom_49 rfl ?_
      refine F_gr (b := 57) d_X3_chooseFrom_50 rfl hF rfl ?_
      refine T_il d_X3_chooseFrom_53 rfl ?_
      have L104 : ∀ (Y : VV) (c1 : Nat), (Bd Y) → (chg [] [(56, 3, 5)] V Y) → (stC N (vL l) c1 Y) → (bSt (vL l) N (fun s => s = c ∨ (cOk (vL l) (bL l) N s ∧ agB (T ||| 2 ^ n) (n + 1) s)) c1) → TT G M_X3_chooseFrom (rmd (u + 3) 162 162) 162 (Zm G 162 162 (PQ [] [(56, 3, 5)] V R (fun o X => o = none ∧ ∃ c2, stC N (vL l) c2 X ∧ bSt (vL l) N (fun s => s = c ∨ (cOk (vL l) (bL l) N s ∧ agB T n s)) c2))) 162 104 [(0, vr 56), (1, vi (n:Int)), (2, vi (T:Int)), (3, vj (cU:Int)), (5, vi w)] [] Y R := by
        intro Y c1 hBY fY st1 b1
        obtain ⟨x1, x2, x3⟩ := cf_x fY hrw hN hNz hrl hvf
        refine T_al d_X3_chooseFrom_104 rfl ?_
        refine T_il d_X3_chooseFrom_105 rfl ?_
        refine T_k d_X3_chooseFrom_106 ?_
        refine T_iadd d_X3_chooseFrom_107 ?_
        refine T_il d_X3_chooseFrom_108 rfl ?_
        refine T_ll d_X3_chooseFrom_109 rfl ?_
        refine T_il d_X3_chooseFrom_110 rfl ?_
        rw [show (n : Int) + 1 = ((n + 1 : Nat) : Int) from rfl]
        refine C_v4 d_X3_chooseFrom_112 rfl (hdF (by omega)) (hcF _) (ih u2 (by omega) Y (n + 1) T cU c1 w (by omega) hBY x1 x2 x3 (Nat.lt_trans hT (Nat.pow_lt_pow_right (by decide) (by omega))) hO (by rw [no_U hT]; exact hU) (by rw [hw]; exact (lo_V hT (n + 1) (by omega)).symm) st1 (J_no hT hJ b1.1)) (fun r_3 V_4 R_5 qV_4 => ?_)
        obtain ⟨rfl, hBV_4, cV_4, rfl, pV_4⟩ := qV_4
        have fV_4 := chg_t (A := []) (F := [(56, 3, 5)]) fY cV_4 rfl
        -- leaf @115
        refine T_vret d_X3_chooseFrom_115 rfl ?_
        obtain ⟨c2, st2, b2⟩ := pV_4
        exact ⟨rfl, hBV_4, fV_4, rfl, c2, st2, two_ok hT b1 b2⟩
      refine F_aa d_X3_chooseFrom_54 rfl ⟨by omega, by omega⟩ ?_
      rw [show R 57 ((n : Nat) : Int).toNat = some z0 from hr.1]
      refine T_as d_X3_chooseFrom_55 (ls' := [(0, vr 56), (1, vi (n:Int)), (2, vi (T:Int)), (3, vj (cU:Int)), (5, vi w), (6, vr z0)]) rfl ?_
      refine T_al d_X3_chooseFrom_57 rfl ?_
      refine F_gi d_X3_chooseFrom_59 hlr hB rfl (fun b_6 => ?_)
      refine T_zle d_X3_chooseFrom_62 ⟨by omega, by omega⟩ (fun h62 => ?_) (fun h62 => ?_)
      · skip
        -- to 104 17t.26t.62t@104
        refine T_subp (ks := [0, 1, 2, 3, 4]) (ls' := [(0, vr 56), (1, vi (n:Int)), (2, vi (T:Int)), (3, vj (cU:Int)), (5, vi w)]) rfl ?_
        exact L104 V (c) hB fV ⟨s5, s3, s4, sc⟩ (one_ok (fun z => by have z1 : 0 < l n 9 := z.1; omega))
      · skip
        refine T_al d_X3_chooseFrom_65 rfl ?_
        refine F_gj d_X3_chooseFrom_67 hlr hB rfl (fun b_7 => ?_)
        refine T_ll d_X3_chooseFrom_70 rfl ?_
        refine T_land d_X3_chooseFrom_71 ?_
        rw [ec, land_n (Nat.lt_trans hcn (by decide)) (Nat.lt_trans hcu (by decide))]
        refine T_jk d_X3_chooseFrom_72 ?_
        refine T_lne d_X3_chooseFrom_73 d_X3_chooseFrom_74 ⟨by omega, by omega⟩ ⟨by omega, by omega⟩ (fun h73 => ?_) (fun h73 => ?_)
        · skip
          -- to 104 17t.26t.62f.73t@104
          refine T_subp (ks := [0, 1, 2, 3, 4]) (ls' := [(0, vr 56), (1, vi (n:Int)), (2, vi (T:Int)), (3, vj (cU:Int)), (5, vi w)]) rfl ?_
          exact L104 V (c) hB fV ⟨s5, s3, s4, sc⟩ (one_ok (fun z => h73 (by rw [hand.mpr (by rw [Nat.and_comm]; exact z.2)]; rfl)))
        · skip
          refine T_al d_X3_chooseFrom_77 rfl ?_
          refine T_il d_X3_chooseFrom_78 rfl ?_
          refine T_k d_X3_chooseFrom_79 ?_
          refine T_iadd d_X3_chooseFrom_80 ?_
          refine T_il d_X3_chooseFrom_81 rfl ?_
          refine T_k d_X3_chooseFrom_82 ?_
          refine T_il d_X3_chooseFrom_83 rfl ?_
          refine T_ishl d_X3_chooseFrom_84 ?_
          refine T_ior d_X3_chooseFrom_85 ?_
          refine T_ll d_X3_chooseFrom_86 rfl ?_
          refine T_al d_X3_chooseFrom_87 rfl ?_
          refine F_gj d_X3_chooseFrom_89 hlr hB rfl (fun b_8 => ?_)
          refine T_lor d_X3_chooseFrom_92 ?_
          refine T_il d_X3_chooseFrom_93 rfl ?_
          refine T_al d_X3_chooseFrom_95 rfl ?_
          refine F_gi d_X3_chooseFrom_97 hlr hB rfl (fun b_9 => ?_)
          refine T_iadd d_X3_chooseFrom_100 ?_
          have hv0 : 0 < vL l n := by show 0 < l n 9; omega
          have hd0 : chU (bL l) T n &&& bL l n = 0 := by rw [Nat.and_comm]; exact hand.mp (by omega)
          rw [ec, lor_n (Nat.lt_trans hcu (by decide)) (Nat.lt_trans hcn (by decide)), show ishlZ 1 (n : Int) = ((2 ^ n : Nat) : Int) from by rw [show (1 : Int) = ((1 : Nat) : Int) from rfl, ishl_n (by omega) (by rw [Nat.one_mul]; exact wb_lt2 (by omega)), Nat.one_mul], ior_n (Nat.lt_trans hT24 (by decide)) (wb_lt2 (by omega)), h17, show w + l n 9 = chV (vL l) (T ||| 2 ^ n) (n + 1) from by rw [hw]; exact or_V.symm, show (n : Int) + 1 = ((n + 1 : Nat) : Int) from rfl]
          refine C_v4 d_X3_chooseFrom_101 rfl (hdF (by omega)) (hcF _) (ih u2 (by omega) V (n + 1) (T ||| 2 ^ n) (cU ||| cn) c (chV (vL l) (T ||| 2 ^ n) (n + 1)) (by omega) hB hNz hrl hvf (or_lt hT) (cOk_or hO hT (by omega) hv0 hd0) (by rw [or_U]; exact mR_or hU mn) rfl ⟨s5, s3, s4, sc⟩ (J_or hJ)) (fun r_10 V_11 R_12 qV_11 => ?_)
          obtain ⟨rfl, hBV_11, cV_11, rfl, pV_11⟩ := qV_11
          have fV_11 := chg_t (A := []) (F := [(56, 3, 5)]) fV cV_11 rfl
          -- to 104 17t.26t.62f.73f@104
          refine T_subp (ks := [0, 1, 2, 3, 4]) (ls' := [(0, vr 56), (1, vi (n:Int)), (2, vi (T:Int)), (3, vj (cU:Int)), (5, vi w)]) rfl ?_
          obtain ⟨c1, st1, b1⟩ := pV_11
          exact L104 V_11 (c1) hBV_11 fV_11 st1 b1
    · skip
      refine T_al d_X3_chooseFrom_29 rfl ?_
      refine T_il d_X3_chooseFrom_30 rfl ?_
      refine F_pin d_X3_chooseFrom_31 rfl hB rfl (fun V_13 eV_13 hBV_13 => ?_)
      have fV_13 := chg_u eV_13 rfl fV
      refine T_al d_X3_chooseFrom_34 rfl ?_
      refine T_il d_X3_chooseFrom_35 rfl ?_
      refine C_ps1 d_X3_chooseFrom_36 (hdF (by omega)) (hcF _) (R_bitCount hT24) ?_
      refine F_pi d_X3_chooseFrom_39 rfl hBV_13 rfl ⟨by omega, by omega⟩ (fun V_14 eV_14 hBV_14 => ?_)
      have fV_14 := chg_u eV_14 rfl fV_13
      refine T_al d_X3_chooseFrom_42 rfl ?_
      refine T_il d_X3_chooseFrom_43 rfl ?_
      refine F_pi d_X3_chooseFrom_45 rfl hBV_14 rfl ⟨by omega, by omega⟩ (fun V_15 eV_15 hBV_15 => ?_)
      have fV_15 := chg_u eV_15 rfl fV_14
      -- leaf 17t.26f@48
      refine T_vret d_X3_chooseFrom_48 rfl ?_
      have en : n = N := by omega
      subst en
      exact ⟨rfl, hBV_15, fV_15, rfl, T, ⟨by rw [eV_15, eV_14, eV_13]; rfl, by rw [eV_15, eV_14, eV_13]; exact congrArg (fun z : Nat => (z : Int)) hcT, by rw [eV_15]; exact uV_self.trans hw, hT⟩, leaf_ok hT hO (by omega)⟩
  · skip
    -- leaf 17f@20
    refine T_vret d_X3_chooseFrom_20 rfl ?_
    exact ⟨rfl, hB, fV, rfl, c, ⟨s5, s3, s4, sc⟩, cut_ok (by omega) hJ (by omega)⟩
theorem cf_all {G : GG} {R : RR} {S : Sp} {Ks : Nat → Kd} {N : Nat} {l : Nat → Nat → Int} {ρ : Nat → Nat} (hF : FinR R) (so : sO S) (hN : N ≤ 24) (hrw : rwI R ρ) : ∀ u, chfP G S Ks N l ρ R u
  | 0 => fun V n T cU c w hn hB hNz hrl hvf hT hO hU hw hst hJ => cf_step hB hF so hN hNz hrw hrl hvf (fun u2 h => absurd h (by omega)) hn hT hO hU hw hst hJ
  | u + 1 => fun V n T cU c w hn hB hNz hrl hvf hT hO hU hw hst hJ => cf_step hB hF so hN hNz hrw hrl hvf (fun u2 h => by rw [show u2 = u by omega]; exact cf_all hF so hN hrw u) hn hT hO hU hw hst hJ
