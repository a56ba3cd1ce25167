set_option maxHeartbeats 1000000 in
set_option maxRecDepth 100000 in
theorem R_X7_look {G : GG} {V : VV} {R : RR} {k : Int} {b : Bk} (hB : Bd V) (hF : FinR R) (bCV : bC b V) (ho : bO b) (hk : 0 ≤ k ∧ k ≤ 400) : Runs G M_X7_look 6 162 162 [vr 34, vi k] V R (PQ [(35, 43)] [(34, 8, 12)] V R (fun r X => r = none ∧ ∃ c, isB (KK b k) 6724 c ∧ sgC b k c X)) := by
  refine Runs.of pn_X7 (Nat.le_of_ble_eq_true rfl) rfl ?_
  show TT G M_X7_look (rmd 6 162 162) 162 (Zm G 162 162 (PQ [(35, 43)] [(34, 8, 12)] V R (fun r X => r = none ∧ ∃ c, isB (KK b k) 6724 c ∧ sgC b k c X))) 162 0 [(0, vr 34), (1, vi k)] [] V R
  have fV : chg [(35, 43)] [(34, 8, 12)] V V := chg_r
  have hn4 := ho.n
  have hrn := ho.rn
  refine T_k d_X7_look_0 ?_
  refine T_is d_X7_look_1 (ls' := [(0, vr 34), (1, vi k), (2, vi 0)]) rfl ?_
  -- to 2 @2
  have L2 : ∀ (fu : Nat) (W : VV) (h : Nat), b.n - h < fu → (Bd W) → (chg [(35, 43)] [(34, 8, 12)] V W) → (h ≤ b.n) → (∀ i, i < h → W 35 i = if thr b k i then 1 else 0) → (∀ i, i < h → W 38 i = b.dp i) → TT G M_X7_look (rmd 6 162 162) 162 (Zm G 162 162 (PQ [(35, 43)] [(34, 8, 12)] V R (fun r X => r = none ∧ ∃ c, isB (KK b k) 6724 c ∧ sgC b k c X))) 162 2 [(0, vr 34), (1, vi k), (2, vi (h : Int))] [] W R := by
    intro fu
    induction fu with
    | zero => intro W h hm; exact absurd hm (Nat.not_lt_zero _)
    | succ fu ih2 =>
      intro W h hm2 hBW fW hh h5 h8
      have bCW := bC_c bCV fW rfl
      refine T_il d_X7_look_2 rfl ?_
      refine T_al d_X7_look_3 rfl ?_
      refine F_gr (b := 1) d_X7_look_4 rfl hF rfl ?_
      refine F_gr (b := 2) d_X7_look_7 rfl hF rfl ?_
      refine F_gi d_X7_look_10 rfl hBW rfl (fun b_1 => ?_)
      rw [bCW.n]
      rw [bCW.n] at b_1
      refine T_ige d_X7_look_13 ⟨by omega, by omega⟩ ⟨by omega, by omega⟩ (fun h13 => ?_) (fun h13 => ?_)
      · skip
        refine T_k d_X7_look_55 ?_
        refine T_is d_X7_look_56 (ls' := [(0, vr 34), (1, vi k), (2, vi 0)]) rfl ?_
        -- to 57 13t@57
        have L57 : ∀ (fu : Nat) (X : VV) (i : Nat), b.rn - i < fu → (Bd X) → (chg [(35, 43)] [(34, 8, 12)] V X) → (i ≤ b.rn) → (snC b k X) → (∀ h, h < b.n → X 38 h = dep b k h i) → TT G M_X7_look (rmd 6 162 162) 162 (Zm G 162 162 (PQ [(35, 43)] [(34, 8, 12)] V R (fun r X => r = none ∧ ∃ c, isB (KK b k) 6724 c ∧ sgC b k c X))) 162 57 [(0, vr 34), (1, vi k), (2, vi (i : Int))] [] X R := by
          intro fu
          induction fu with
          | zero => intro X i hm; exact absurd hm (Nat.not_lt_zero _)
          | succ fu ih57 =>
            intro X i hm57 hBX fX hi sX hX
            have bCX := bC_c bCV fX rfl
            refine T_il d_X7_look_57 rfl ?_
            refine T_al d_X7_look_58 rfl ?_
            refine F_gr (b := 1) d_X7_look_59 rfl hF rfl ?_
            refine F_gr (b := 4) d_X7_look_62 rfl hF rfl ?_
            refine F_gi d_X7_look_65 rfl hBX rfl (fun b_2 => ?_)
            rw [bCX.rn]
            rw [bCX.rn] at b_2
            refine T_ige d_X7_look_68 ⟨by omega, by omega⟩ ⟨by omega, by omega⟩ (fun h68 => ?_) (fun h68 => ?_)
            · skip
              refine T_al d_X7_look_135 rfl ?_
              refine C_v0 d_X7_look_136 rfl (hdF (by decide)) (hcF _) (R_X7_joinFrames (k := k) hBX hF bCX ho sX) (fun r_3 V_4 R_5 qV_4 => ?_)
              obtain ⟨rfl, hBV_4, cV_4, rfl, pV_4⟩ := qV_4
              have fV_4 := chg_t (A := [(35, 43)]) (F := [(34, 8, 12)]) fX cV_4 rfl
              have bCV_4 := bC_c bCV fV_4 rfl
              obtain ⟨c, hcB, hfc0⟩ := pV_4
              have hc6 := hcB.1
              have c139 := cV_4
              refine T_k d_X7_look_139 ?_
              refine T_is d_X7_look_140 (ls' := [(0, vr 34), (1, vi k), (2, vi 0)]) rfl ?_
              -- to 141 68t@141
              have L141 : ∀ (fu : Nat) (Y : VV) (h : Nat), b.n - h < fu → (Bd Y) → (chg [(35, 43)] [(34, 8, 12)] V Y) → (h ≤ b.n) → (frC b k Y c) → (snC b k Y) → (∀ h, h < b.n → Y 38 h = depO b k h) → (∀ i, i < h → Y 36 i = fdX b c i ∧ Y 37 i = fdY b c i) → TT G M_X7_look (rmd 6 162 162) 162 (Zm G 162 162 (PQ [(35, 43)] [(34, 8, 12)] V R (fun r X => r = none ∧ ∃ c, isB (KK b k) 6724 c ∧ sgC b k c X))) 162 141 [(0, vr 34), (1, vi k), (2, vi (h : Int))] [] Y R := by
                intro fu
                induction fu with
                | zero => intro Y h hm; exact absurd hm (Nat.not_lt_zero _)
                | succ fu ih141 =>
                  intro Y h hm141 hBY fY hh hfc sY dY hY
                  have bCY := bC_c bCV fY rfl
                  refine T_il d_X7_look_141 rfl ?_
                  refine T_al d_X7_look_142 rfl ?_
                  refine F_gr (b := 1) d_X7_look_143 rfl hF rfl ?_
                  refine F_gr (b := 2) d_X7_look_146 rfl hF rfl ?_
                  refine F_gi d_X7_look_149 rfl hBY rfl (fun b_6 => ?_)
                  rw [bCY.n]
                  rw [bCY.n] at b_6
                  refine T_ige d_X7_look_152 ⟨by omega, by omega⟩ ⟨by omega, by omega⟩ (fun h152 => ?_) (fun h152 => ?_)
                  · skip
                    refine T_al d_X7_look_204 rfl ?_
                    refine C_v0 d_X7_look_205 rfl (hdF (by decide)) (hcF _) (R_X7_nameSpots (k := k) (c := c) hBY hF bCY ho sY (fun i hi => hY i (by omega))) (fun r_7 V_8 R_9 qV_8 => ?_)
                    obtain ⟨rfl, hBV_8, cV_8, rfl, pV_8⟩ := qV_8
                    have fV_8 := chg_t (A := [(35, 43)]) (F := [(34, 8, 12)]) fY cV_8 rfl
                    have bCV_8 := bC_c bCV fV_8 rfl
                    have p208 := pV_8
                    have c208 := cV_8
                    refine T_al d_X7_look_208 rfl ?_
                    refine C_v0 d_X7_look_209 rfl (hdF (by decide)) (hcF _) (R_X7_deepenSpots (k := k) (c := c) hBV_8 hF bCV_8 ho (by rw [chg_k (c := 36) c208 rfl, chg_k (c := 37) c208 rfl]; exact fun i hi => hY i (by omega)) p208 (by rw [chg_k (c := 38) c208 rfl]; exact dY)) (fun r_10 V_11 R_12 qV_11 => ?_)
                    obtain ⟨rfl, hBV_11, cV_11, rfl, pV_11⟩ := qV_11
                    have fV_11 := chg_t (A := [(35, 43)]) (F := [(34, 8, 12)]) fV_8 cV_11 rfl
                    have bCV_11 := bC_c bCV fV_11 rfl
                    -- leaf 152t@212
                    refine T_vret d_X7_look_212 rfl ?_
                    exact ⟨rfl, hBV_11, fV_11, rfl, c, hcB, sg_e c208 cV_11 hfc sY (fun i hi => hY i (by omega)) p208 pV_11⟩
                  · skip
                    refine T_al d_X7_look_155 rfl ?_
                    refine T_il d_X7_look_156 rfl ?_
                    refine T_al d_X7_look_157 rfl ?_
                    refine F_gi d_X7_look_158 rfl hBY rfl (fun b_13 => ?_)
                    rw [hfc.1]
                    refine C_v2 d_X7_look_161 rfl (hdF (by decide)) (hcF _) (R_X7_turnHole (t := c / 1681) hBY hF bCY ho (by omega) (by omega)) (fun r_14 V_15 R_16 qV_15 => ?_)
                    obtain ⟨rfl, hBV_15, cV_15, rfl, pV_15⟩ := qV_15
                    have fV_15 := chg_t (A := [(35, 43)]) (F := [(34, 8, 12)]) fY cV_15 rfl
                    have bCV_15 := bC_c bCV fV_15 rfl
                    refine T_al d_X7_look_164 rfl ?_
                    refine T_il d_X7_look_165 rfl ?_
                    refine C_pv1 d_X7_look_166 rfl (hdF (by decide)) (hcF _) (R_X7_isOfSecond hBV_15 hF bCV_15 ho (by omega)) ?_
                    refine T_pz0 d_X7_look_169 (fun h169 => ?_) (fun h169 => ?_)
                    · skip
                      refine F_incg d_X7_look_198 rfl (f := fun x_17 => [(0, vr 34), (1, vi k), (2, vi x_17)]) (fun _ => rfl) (fun x_17 ex_17 => ?_)
                      refine T_go d_X7_look_201 ?_
                      -- to 141 152f.169t@141
                      obtain rfl : x_17 = ((h + 1) : Int) := by omega
                      exact ih141 V_15 (h + 1) (by omega) hBV_15 fV_15 (by first | assumption | omega) (frC_x hfc (fun j _ _ => by rw [pV_15]; rfl)) (by rw [pV_15]; exact sY) (by rw [pV_15]; exact dY) (lk_0 pV_15 (fd_o h169).1 (fd_o h169).2 hY)
                    · skip
                      have t36 : V_15 36 h = oX b h ((c / 1681 : Nat) : Int) := by rw [pV_15]; exact (uV_ne (fun z => absurd z.1 (by decide))).trans uV_self
                      have t37 : V_15 37 h = oY b h ((c / 1681 : Nat) : Int) := by rw [pV_15]; exact uV_self
                      have hob := o_b (h := h) (t := ((c / 1681 : Nat) : Int)) ho
                      have eT := pV_15
                      have z10 : V_15 34 10 = ((c / 41 % 41 : Nat) : Int) - 20 := by rw [eT]; exact hfc.2.1
                      have z11 : V_15 34 11 = ((c % 41 : Nat) : Int) - 20 := by rw [eT]; exact hfc.2.2.1
                      refine T_al d_X7_look_172 rfl ?_
                      refine F_gr (b := 36) d_X7_look_173 rfl hF rfl ?_
                      refine T_il d_X7_look_176 rfl ?_
                      refine T_dup2 d_X7_look_177 rfl rfl ?_
                      refine F_ia d_X7_look_178 rfl hBV_15 rfl ⟨by omega, by omega⟩ (fun b_18 => ?_)
                      try simp only [Int.toNat_natCast, t36]
                      try simp only [Int.toNat_natCast, t36] at b_18
                      refine T_al d_X7_look_179 rfl ?_
                      refine F_gi d_X7_look_180 rfl hBV_15 rfl (fun b_19 => ?_)
                      refine T_iadd d_X7_look_183 ?_
                      refine F_is d_X7_look_184 rfl hBV_15 rfl ⟨by omega, by omega⟩ ⟨by omega, by omega⟩ (fun V_20 eV_20 hBV_20 => ?_)
                      have fV_20 := chg_u eV_20 rfl fV_15
                      have bCV_20 := bC_c bCV fV_20 rfl
                      refine T_al d_X7_look_185 rfl ?_
                      refine F_gr (b := 37) d_X7_look_186 rfl hF rfl ?_
                      refine T_il d_X7_look_189 rfl ?_
                      refine T_dup2 d_X7_look_190 rfl rfl ?_
                      refine F_ia d_X7_look_191 rfl hBV_20 rfl ⟨by omega, by omega⟩ (fun b_21 => ?_)
                      have faV_20_37 : V_20 37 = V_15 37 := by rw [eV_20]; rfl
                      rw [faV_20_37]
                      rw [faV_20_37] at b_21
                      try simp only [Int.toNat_natCast, t37]
                      try simp only [Int.toNat_natCast, t37] at b_21
                      refine T_al d_X7_look_192 rfl ?_
                      refine F_gi d_X7_look_193 rfl hBV_20 rfl (fun b_22 => ?_)
                      have fV_20_34_11 : V_20 34 11 = V_15 34 11 := by rw [eV_20]; rfl
                      rw [fV_20_34_11]
                      rw [fV_20_34_11] at b_22
                      refine T_iadd d_X7_look_196 ?_
                      refine F_is d_X7_look_197 rfl hBV_20 rfl ⟨by omega, by omega⟩ ⟨by omega, by omega⟩ (fun V_23 eV_23 hBV_23 => ?_)
                      have fV_23 := chg_u eV_23 rfl fV_20
                      have bCV_23 := bC_c bCV fV_23 rfl
                      refine F_incg d_X7_look_198 rfl (f := fun x_24 => [(0, vr 34), (1, vi k), (2, vi x_24)]) (fun _ => rfl) (fun x_24 ex_24 => ?_)
                      refine T_go d_X7_look_201 ?_
                      -- to 141 152f.169f@141
                      obtain rfl : x_24 = ((h + 1) : Int) := by omega
                      exact ih141 V_23 (h + 1) (by omega) hBV_23 fV_23 (by first | assumption | omega) (frC_x hfc (fun j _ _ => by rw [eV_23, eV_20, eT]; rfl)) (by rw [eV_23, eV_20, eT]; exact sY) (by rw [eV_23, eV_20, eT]; exact dY) (lk_1 eT (by rw [eV_23, eV_20, Int.toNat_natCast]) (by rw [z10, (fd_1 h169).1]) (by rw [z11, (fd_1 h169).2]) hY)
              exact L141 _ V_4 (0) (Nat.lt_succ_self _) hBV_4 fV_4 (by first | assumption | omega) hfc0 (by unfold snC; rw [chg_k (c := 35) c139 rfl]; exact sX) (by rw [chg_k (c := 38) c139 rfl]; intro h hh; rw [hX h hh, show i = b.rn by omega]; rfl) (fun i hi => absurd hi (Nat.not_lt_zero _))
            · skip
              have hr1 := ho.rO i
              have hr2 := ho.rD i
              have hr3 := ho.rK i
              refine T_al d_X7_look_71 rfl ?_
              refine F_gr (b := 1) d_X7_look_72 rfl hF rfl ?_
              refine F_gr (b := 4) d_X7_look_75 rfl hF rfl ?_
              refine T_il d_X7_look_78 rfl ?_
              refine T_k d_X7_look_79 ?_
              refine C_pv2 d_X7_look_80 rfl (hdF (by decide)) (hcF _) (Gt4_0 hBX hF bCX ho (by omega)) ?_
              refine F_isg d_X7_look_83 (f := fun x_25 => [(0, vr 34), (1, vi k), (2, vi (i : Int)), (3, vi x_25)]) (fun _ => rfl) (fun x_25 ex_25 => ?_)
              refine T_al d_X7_look_84 rfl ?_
              refine F_gr (b := 1) d_X7_look_85 rfl hF rfl ?_
              refine T_il d_X7_look_88 rfl ?_
              refine C_pv1 d_X7_look_89 rfl (hdF (by decide)) (hcF _) (R_X0_hasHole hBX hF ⟨by omega, by omega⟩) ?_
              refine T_pz0 d_X7_look_92 (fun h92 => ?_) (fun h92 => ?_)
              · skip
                refine F_incg d_X7_look_129 rfl (f := fun x_26 => [(0, vr 34), (1, vi k), (2, vi x_26), (3, vi x_25)]) (fun _ => rfl) (fun x_26 ex_26 => ?_)
                refine T_go d_X7_look_132 ?_
                -- to 57 68f.92t@57
                refine T_subp (ks := [0, 1, 2]) (ls' := [(0, vr 34), (1, vi k), (2, vi x_26)]) rfl ?_
                obtain rfl : x_26 = ((i + 1) : Int) := by omega
                exact ih57 X (i + 1) (by omega) hBX fX (by first | assumption | omega) (by first | assumption | omega) (fun h hh => by rw [dep_n (fun z => h92 ⟨by omega, by rw [bCX.n]; omega⟩)]; exact hX h hh)
              · skip
                refine T_al d_X7_look_95 rfl ?_
                refine F_gr (b := 1) d_X7_look_96 rfl hF rfl ?_
                refine F_gr (b := 4) d_X7_look_99 rfl hF rfl ?_
                refine T_il d_X7_look_102 rfl ?_
                refine T_k d_X7_look_103 ?_
                refine C_pv2 d_X7_look_104 rfl (hdF (by decide)) (hcF _) (Gt4_4 hBX hF bCX ho (by omega)) ?_
                refine T_il d_X7_look_107 rfl ?_
                refine T_igt d_X7_look_108 ⟨by omega, by omega⟩ ⟨by omega, by omega⟩ (fun h108 => ?_) (fun h108 => ?_)
                · skip
                  refine F_incg d_X7_look_129 rfl (f := fun x_27 => [(0, vr 34), (1, vi k), (2, vi x_27), (3, vi x_25)]) (fun _ => rfl) (fun x_27 ex_27 => ?_)
                  refine T_go d_X7_look_132 ?_
                  -- to 57 68f.92f.108t@57
                  refine T_subp (ks := [0, 1, 2]) (ls' := [(0, vr 34), (1, vi k), (2, vi x_27)]) rfl ?_
                  obtain rfl : x_27 = ((i + 1) : Int) := by omega
                  exact ih57 X (i + 1) (by omega) hBX fX (by first | assumption | omega) (by first | assumption | omega) (fun h hh => by rw [dep_n (fun z => by have := z.2; omega)]; exact hX h hh)
                · skip
                  obtain ⟨j, ej⟩ : ∃ j : Nat, x_25 = (j : Int) := ⟨(x_25).toNat, by omega⟩
                  have i0 : (x_25).toNat = j := by omega
                  have hhc := h92.2
                  refine T_al d_X7_look_111 rfl ?_
                  refine F_gr (b := 38) d_X7_look_112 rfl hF rfl ?_
                  refine T_il d_X7_look_115 rfl ?_
                  refine T_al d_X7_look_116 rfl ?_
                  refine F_gr (b := 1) d_X7_look_117 rfl hF rfl ?_
                  refine F_gr (b := 4) d_X7_look_120 rfl hF rfl ?_
                  refine T_il d_X7_look_123 rfl ?_
                  refine T_k d_X7_look_124 ?_
                  refine C_pv2 d_X7_look_125 rfl (hdF (by decide)) (hcF _) (Gt4_1 hBX hF bCX ho (by omega)) ?_
                  refine F_is d_X7_look_128 rfl hBX rfl ⟨by omega, by omega⟩ ⟨by omega, by omega⟩ (fun V_28 eV_28 hBV_28 => ?_)
                  have fV_28 := chg_u eV_28 rfl fX
                  have bCV_28 := bC_c bCV fV_28 rfl
                  refine F_incg d_X7_look_129 rfl (f := fun x_29 => [(0, vr 34), (1, vi k), (2, vi x_29), (3, vi x_25)]) (fun _ => rfl) (fun x_29 ex_29 => ?_)
                  refine T_go d_X7_look_132 ?_
                  -- to 57 68f.92f.108f@57
                  refine T_subp (ks := [0, 1, 2]) (ls' := [(0, vr 34), (1, vi k), (2, vi x_29)]) rfl ?_
                  obtain rfl : x_29 = ((i + 1) : Int) := by omega
                  exact ih57 V_28 (i + 1) (by omega) hBV_28 fV_28 (by first | assumption | omega) (by rw [eV_28]; exact sX) (dep_w (j := j) hX (by omega) (by omega) (by rw [eV_28, i0]) rfl)
        exact L57 _ W (0) (Nat.lt_succ_self _) hBW fW (by first | assumption | omega) (fun i hi => h5 i (by omega)) (fun i hi => h8 i (by omega))
      · skip
        have hdp := ho.dp h
        refine T_al d_X7_look_16 rfl ?_
        refine F_gr (b := 35) d_X7_look_17 rfl hF rfl ?_
        refine T_il d_X7_look_20 rfl ?_
        refine T_al d_X7_look_21 rfl ?_
        refine F_gr (b := 1) d_X7_look_22 rfl hF rfl ?_
        refine T_il d_X7_look_25 rfl ?_
        refine T_il d_X7_look_26 rfl ?_
        refine C_pv2 d_X7_look_27 rfl (hdF (by decide)) (hcF _) (R_X0_isSeen hBW hF bCW ho (by omega) hk) ?_
        refine F_zs d_X7_look_30 rfl hBW rfl ⟨by omega, by omega⟩ (bi_01 _) (fun V_30 eV_30 hBV_30 => ?_)
        have fV_30 := chg_u eV_30 rfl fW
        have bCV_30 := bC_c bCV fV_30 rfl
        refine T_al d_X7_look_31 rfl ?_
        refine F_gr (b := 38) d_X7_look_32 rfl hF rfl ?_
        refine T_il d_X7_look_35 rfl ?_
        refine T_al d_X7_look_36 rfl ?_
        refine F_gr (b := 1) d_X7_look_37 rfl hF rfl ?_
        refine F_gr (b := 2) d_X7_look_40 rfl hF rfl ?_
        refine T_il d_X7_look_43 rfl ?_
        refine T_k d_X7_look_44 ?_
        refine C_pv2 d_X7_look_45 rfl (hdF (by decide)) (hcF _) (Gt2_3 hBV_30 hF bCV_30 ho (by omega)) ?_
        refine F_is d_X7_look_48 rfl hBV_30 rfl ⟨by omega, by omega⟩ ⟨by omega, by omega⟩ (fun V_31 eV_31 hBV_31 => ?_)
        have fV_31 := chg_u eV_31 rfl fV_30
        have bCV_31 := bC_c bCV fV_31 rfl
        refine F_incg d_X7_look_49 rfl (f := fun x_32 => [(0, vr 34), (1, vi k), (2, vi x_32)]) (fun _ => rfl) (fun x_32 ex_32 => ?_)
        refine T_go d_X7_look_52 ?_
        -- to 2 13f@2
        obtain rfl : x_32 = ((h + 1) : Int) := by omega
        exact ih2 V_31 (h + 1) (by omega) hBV_31 fV_31 (by first | assumption | omega) (fun i hi => by rw [eV_31]; exact row_s (f := fun i => if thr b k i then 1 else 0) eV_30 (bi_if _) h5 i hi) (row_s eV_31 rfl (fun i hi => by rw [eV_30]; exact h8 i hi))
  exact L2 _ V (0) (Nat.lt_succ_self _) hB fV (by first | assumption | omega) (fun i hi => absurd hi (Nat.not_lt_zero _)) (fun i hi => absurd hi (Nat.not_lt_zero _))
