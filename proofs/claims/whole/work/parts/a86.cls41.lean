set_option maxHeartbeats 1000000 in
set_option maxRecDepth 100000 in
theorem R_X9_reachN {G : GG} {V : VV} {R : RR} {k : Int} {t : Int}  (hB : Bd V) (hF : FinR R) (hk : r32 k) (hn : ¬ (0 ≤ k ∧ k ≤ 400)) : RunsP G M_X9_reach 40 [vr 30, vi k, vi t] V R (vi (bi (decide (False)))) := by
  unfold RunsP
  refine Runs.of pn_X9 (Nat.le_of_ble_eq_true rfl) rfl ?_
  show TT G M_X9_reach (rmd 40 162 162) 162 (Zm G 162 162 (QP V R (vi (bi (decide (False)))))) 162 0 [(0, vr 30), (1, vi k), (2, vi t)] [] V R
  obtain ⟨hk1, hk2⟩ := hk
  refine T_il d_X9_reach_0 rfl ?_
  refine C_ps1 d_X9_reach_1 (hdF (by omega)) (hcF _) (R_X10_isWeek ⟨by omega, by omega⟩) ?_
  refine T_pz1 d_X9_reach_4 (fun h4 => ?_) (fun h4 => ?_)
  · exact absurd h4 hn
  · skip
    refine T_k d_X9_reach_7 ?_
    -- leaf 4f@8
    exact P_F d_X9_reach_8 (by exact id)
set_option maxHeartbeats 1000000 in
set_option maxRecDepth 100000 in
theorem R_X9_reach {G : GG} {V : VV} {R : RR}  {b : Bk} {Ks : Nat → Kd} {nk kk t c0 ch0 : Nat} {ρ0 : Nat → Nat} (hB : Bd V) (hF : FinR R) (bCV : bC b V) (hob : okB b Ks nk) (hic : icB b Ks nk V) (hk : kk ≤ 400) (ht : 1 ≤ t ∧ t ≤ 5) (hrw : rwI R ρ0) (hsv : svC b (V 30 7) Ks nk c0 ρ0 ch0 (V 30 8) V R) : Runs G M_X9_reach 40 162 162 [vr 30, vi (kk:Int), vi (t:Int)] V R (rchQ b Ks nk kk t V) := by
  refine Runs.of pn_X9 (Nat.le_of_ble_eq_true rfl) rfl ?_
  show TT G M_X9_reach (rmd 40 162 162) 162 (Zm G 162 162 (rchQ b Ks nk kk t V)) 162 0 [(0, vr 30), (1, vi (kk:Int)), (2, vi (t:Int))] [] V R
  have fV : chg [(31, 98)] [(30, 7, 8), (30, 12, 13)] V V := chg_r
  have ho := hob.1
  have hw := hob.2.1
  have hn5 := hob.2.2.1
  have ko := hob.2.2.2
  have wl := (wk_spec (nw := V 15) kk).1
  have hkw : 0 ≤ (wkF (V 15) kk : Int) ∧ (wkF (V 15) kk : Int) ≤ 400 := ⟨by omega, by omega⟩
  refine T_il d_X9_reach_0 rfl ?_
  refine C_ps1 d_X9_reach_1 (hdF (by omega)) (hcF _) (R_X10_isWeek ⟨by omega, by omega⟩) ?_
  refine T_pz1 d_X9_reach_4 (fun h4 => ?_) (fun h4 => ?_)
  · skip
    have g4 := h4
    refine T_al d_X9_reach_9 rfl ?_
    refine F_gr (b := 1) d_X9_reach_10 rfl hF rfl ?_
    refine T_il d_X9_reach_13 rfl ?_
    refine C_pv1 d_X9_reach_14 rfl (hdF (by omega)) (hcF _) (R_X0_weekOfNews (k := kk) hB hF hk) ?_
    refine F_isg d_X9_reach_17 (f := fun x_1 => [(0, vr 30), (1, vi (kk:Int)), (2, vi (t:Int)), (3, vi x_1)]) (fun _ => rfl) (fun x_1 ex_1 => ?_)
    have L36 : ∀ (A : VV) (Qa : RR), (Bd A) → (chg [(31, 98)] [(30, 7, 8), (30, 12, 13)] V A) → (FinR Qa) → (A 30 7 = (wkF (V 15) kk : Int)) → (0 ≤ A 30 8) → (∃ ρ c ch, rwI Qa ρ ∧ svC b (wkF (V 15) kk : Int) Ks nk c ρ ch (A 30 8) A Qa) → TT G M_X9_reach (rmd 40 162 162) 162 (Zm G 162 162 (rchQ b Ks nk kk t V)) 162 36 [(0, vr 30), (2, vi (t:Int))] [] A Qa := by
      intro A Qa hBA fA hF x7_A gA sA
      have bCA := bC_c bCV fA rfl
      have icX := icB_c hic fA
      have b8 := hBA.2 30 9 8 0 5 rfl rfl
      have L71 : ∀ (B : VV) (Qb : RR), (Bd B) → (chg [(31, 98)] [(30, 7, 8), (30, 12, 13)] V B) → (FinR Qb) → (B 30 7 = (wkF (V 15) kk : Int)) → (0 ≤ B 30 8 ∧ 1 ≤ B 30 8) → (∃ ρ c ch, rwI Qb ρ ∧ svC b (wkF (V 15) kk : Int) Ks nk c ρ ch (B 30 8) B Qb) → TT G M_X9_reach (rmd 40 162 162) 162 (Zm G 162 162 (rchQ b Ks nk kk t V)) 162 71 [(0, vr 30), (2, vi (t:Int))] [] B Qb := by
        intro B Qb hBB fB hF x7_B gB sB
        have bCB := bC_c bCV fB rfl
        have icX := icB_c hic fB
        have b8 := hBB.2 30 9 8 0 5 rfl rfl
        have L93 : ∀ (C : VV) (Qc : RR), (Bd C) → (chg [(31, 98)] [(30, 7, 8), (30, 12, 13)] V C) → (FinR Qc) → (C 30 7 = (wkF (V 15) kk : Int)) → (0 ≤ C 30 8 ∧ 1 ≤ C 30 8 ∧ (2 ≤ t → 2 ≤ C 30 8)) → (∃ ρ c ch, rwI Qc ρ ∧ svC b (wkF (V 15) kk : Int) Ks nk c ρ ch (C 30 8) C Qc) → TT G M_X9_reach (rmd 40 162 162) 162 (Zm G 162 162 (rchQ b Ks nk kk t V)) 162 93 [(0, vr 30), (2, vi (t:Int))] [] C Qc := by
          intro C Qc hBC fC hF x7_C gC sC
          have bCC := bC_c bCV fC rfl
          have icX := icB_c hic fC
          have b8 := hBC.2 30 9 8 0 5 rfl rfl
          have L123 : ∀ (D : VV) (Qd : RR), (Bd D) → (chg [(31, 98)] [(30, 7, 8), (30, 12, 13)] V D) → (FinR Qd) → (D 30 7 = (wkF (V 15) kk : Int)) → (0 ≤ D 30 8 ∧ 1 ≤ D 30 8 ∧ (2 ≤ t → 2 ≤ D 30 8) ∧ (3 ≤ t → 3 ≤ D 30 8)) → (∃ ρ c ch, rwI Qd ρ ∧ svC b (wkF (V 15) kk : Int) Ks nk c ρ ch (D 30 8) D Qd) → TT G M_X9_reach (rmd 40 162 162) 162 (Zm G 162 162 (rchQ b Ks nk kk t V)) 162 123 [(0, vr 30), (2, vi (t:Int))] [] D Qd := by
            intro D Qd hBD fD hF x7_D gD sD
            have bCD := bC_c bCV fD rfl
            have icX := icB_c hic fD
            have b8 := hBD.2 30 9 8 0 5 rfl rfl
            have L164 : ∀ (E : VV) (Qe : RR), (Bd E) → (chg [(31, 98)] [(30, 7, 8), (30, 12, 13)] V E) → (FinR Qe) → (E 30 7 = (wkF (V 15) kk : Int)) → (0 ≤ E 30 8 ∧ 1 ≤ E 30 8 ∧ (2 ≤ t → 2 ≤ E 30 8) ∧ (3 ≤ t → 3 ≤ E 30 8) ∧ (4 ≤ t → 4 ≤ E 30 8)) → (∃ ρ c ch, rwI Qe ρ ∧ svC b (wkF (V 15) kk : Int) Ks nk c ρ ch (E 30 8) E Qe) → TT G M_X9_reach (rmd 40 162 162) 162 (Zm G 162 162 (rchQ b Ks nk kk t V)) 162 164 [(0, vr 30), (2, vi (t:Int))] [] E Qe := by
              intro E Qe hBE fE hF x7_E gE sE
              have bCE := bC_c bCV fE rfl
              have icX := icB_c hic fE
              have b8 := hBE.2 30 9 8 0 5 rfl rfl
              have L205 : ∀ (F : VV) (Qf : RR), (Bd F) → (chg [(31, 98)] [(30, 7, 8), (30, 12, 13)] V F) → (FinR Qf) → (F 30 7 = (wkF (V 15) kk : Int)) → (0 ≤ F 30 8 ∧ (t : Int) ≤ F 30 8) → (∃ ρ c ch, rwI Qf ρ ∧ svC b (wkF (V 15) kk : Int) Ks nk c ρ ch (F 30 8) F Qf) → TT G M_X9_reach (rmd 40 162 162) 162 (Zm G 162 162 (rchQ b Ks nk kk t V)) 162 205 [(0, vr 30), (2, vi (t:Int))] [] F Qf := by
                intro F Qf hBF fF hF x7_F gF sF
                have bCF := bC_c bCV fF rfl
                have icX := icB_c hic fF
                have b8 := hBF.2 30 9 8 0 5 rfl rfl
                refine T_k d_X9_reach_205 ?_
                -- leaf @206
                refine T_zret1 d_X9_reach_206 rfl ?_
                exact ⟨hF, hBF, fF, rfl, x7_F, by omega, sF⟩
              refine T_al d_X9_reach_164 rfl ?_
              refine F_gi d_X9_reach_165 rfl hBE rfl (fun b_2 => ?_)
              refine T_k d_X9_reach_168 ?_
              refine T_ige d_X9_reach_169 ⟨by omega, by omega⟩ ⟨by omega, by omega⟩ (fun h169 => ?_) (fun h169 => ?_)
              · skip
                -- to 205 169t@205
                exact L205 E Qe hBE fE hF x7_E (by omega) sE
              · skip
                refine T_il d_X9_reach_172 rfl ?_
                refine T_k d_X9_reach_173 ?_
                refine T_ilt d_X9_reach_174 ⟨by omega, by omega⟩ ⟨by omega, by omega⟩ (fun h174 => ?_) (fun h174 => ?_)
                · skip
                  -- to 205 169f.174t@205
                  exact L205 E Qe hBE fE hF x7_E (by omega) sE
                · skip
                  obtain ⟨ρ, c, ch, rw0, sv⟩ := sE
                  have s1 := sv.1 gE.2.1
                  have s2 := sv.2.1 (gE.2.2.1 (by omega))
                  have s3 := sv.2.2.1 (gE.2.2.2.1 (by omega))
                  have s4 := sv.2.2.2.1 (gE.2.2.2.2 (by omega))
                  have hO : cOk (vL (aL b (wkF (V 15) kk : Int) Ks nk c)) (bL (aL b (wkF (V 15) kk : Int) Ks nk c)) (aN b (wkF (V 15) kk : Int) Ks nk c) ch := s3.1.1
                  have h13 := a_13 (ch := ch) ho ko hO
                  obtain ⟨m5, f5, h11, hph⟩ := ph_f s4.2 mtM_cm
                  refine T_al d_X9_reach_177 rfl ?_
                  refine F_gr (b := 85) d_X9_reach_178 rfl hF rfl ?_
                  refine T_al d_X9_reach_181 rfl ?_
                  refine F_gr (b := 1) d_X9_reach_182 rfl hF rfl ?_
                  refine T_al d_X9_reach_185 rfl ?_
                  refine F_gr (b := 34) d_X9_reach_186 rfl hF rfl ?_
                  refine T_al d_X9_reach_189 rfl ?_
                  refine F_gr (b := 56) d_X9_reach_190 rfl hF rfl ?_
                  refine T_al d_X9_reach_193 rfl ?_
                  refine F_gi d_X9_reach_194 rfl hBE rfl (fun b_3 => ?_)
                  rw [x7_E]
                  refine C_v4 d_X9_reach_197 rfl (hdF (by omega)) (hcF _) (R_X6_setStarts (b := b) (k := (wkF (V 15) kk : Int)) (c := c) (Ks := Ks) (l := (aL b (wkF (V 15) kk : Int) Ks nk c)) (N := (aN b (wkF (V 15) kk : Int) Ks nk c)) (ch := ch) (ρ := ρ) (rl := rlB (aMt b (wkF (V 15) kk : Int) Ks nk c ch) (aLt b (wkF (V 15) kk : Int) Ks nk c ch)) (f := f5) (m := m5) hBE hF bCE ho hw hkw s1.2.1.2.2.2.2.1 s3.2.2.2.1 s4.1.2.1 s2.1 rw0 s2.2.2.1 h13 s4.1.1 s4.1.2.2.2.2.1 (rl_cm mtM_cm) s4.1.2.2.2.2.2.2 (a_lf ko) h11) (fun r_4 V_5 R_6 qV_5 => ?_)
                  obtain ⟨rfl, hBV_5, cV_5, rfl, pV_5⟩ := qV_5
                  have fV_5 := chg_t (A := [(31, 98)]) (F := [(30, 7, 8), (30, 12, 13)]) fE cV_5 rfl
                  have bCV_5 := bC_c bCV fV_5 rfl
                  have cf := cV_5
                  have ps := pV_5
                  refine T_al d_X9_reach_200 rfl ?_
                  refine T_k d_X9_reach_201 ?_
                  refine F_pi d_X9_reach_202 rfl hBV_5 rfl ⟨by omega, by omega⟩ (fun V_7 eV_7 hBV_7 => ?_)
                  have fV_7 := chg_u eV_7 rfl fV_5
                  have bCV_7 := bC_c bCV fV_7 rfl
                  -- to 205 169f.174f@205
                  exact L205 V_7 Qe hBV_7 fV_7 hF (by rw [eV_7]; show V_5 30 7 = _; rw [chg_k (c := 30) cf rfl]; exact x7_E) (by rw [eV_7, uV_self]; omega) ⟨ρ, c, ch, rw0, svC_5 (by rw [eV_7]; exact uV_self) (S1_x (V := V_5) (S1_x s1 (offA cf 34 51 rfl)) (fun a h1 h2 => by rw [eV_7, uV_cell (by omega)])) (S2_x (V := E) s2 rw0 (by rw [eV_7]; exact cf 56 1 rfl rfl) (fun a j h1 h2 h3 => by rw [eV_7, uV_cell (by omega), offA cf 60 84 rfl a h1 h2]) (by rw [eV_7, uV_cell (by decide)]; exact chg_k (c := 31) cf rfl) (by rw [eV_7, uV_cell (by decide)]; exact chg_k (c := 32) cf rfl)) (S3_x (V := E) s3 s2.1 rw0 (fun j h1 h2 => by rw [eV_7, uV_cell (by decide), chg_k (c := 56) cf rfl]) (fun a h1 h2 => by rw [eV_7, uV_cell (by omega), offA cf 60 84 rfl a h1 h2]) (by rw [eV_7, uV_cell (by decide)]; exact chg_k (c := 58) cf rfl) (by rw [eV_7]; exact cf 30 13 rfl rfl) (by rw [eV_7]; exact cf 30 12 rfl rfl) (by rw [eV_7, uV_cell (by decide)]; exact chg_k (c := 33) cf rfl)) (S4_x (V := E) s4 (by rw [eV_7]; exact cf 85 0 rfl rfl) (fun j h1 h2 => by rw [eV_7, uV_cell (by decide)]; exact cf 85 j rfl (inF_lt h2)) (fun a h1 h2 => by rw [eV_7, uV_cell (by omega), offA cf 87 96 rfl a h1 h2]) (fun i => rfl)) (S5_n (V := E) (by rw [eV_7]; exact cf 85 11 rfl rfl) ps (by rw [eV_7, uV_ne (fun z => absurd z.1 (by decide))]) (by rw [eV_7, uV_cell (by decide)]) (by rw [eV_7, uV_cell (by decide)]) hph h11)⟩
            refine T_al d_X9_reach_123 rfl ?_
            refine F_gi d_X9_reach_124 rfl hBD rfl (fun b_8 => ?_)
            refine T_k d_X9_reach_127 ?_
            refine T_ige d_X9_reach_128 ⟨by omega, by omega⟩ ⟨by omega, by omega⟩ (fun h128 => ?_) (fun h128 => ?_)
            · skip
              -- to 164 128t@164
              exact L164 D Qd hBD fD hF x7_D (by omega) sD
            · skip
              refine T_il d_X9_reach_131 rfl ?_
              refine T_k d_X9_reach_132 ?_
              refine T_ilt d_X9_reach_133 ⟨by omega, by omega⟩ ⟨by omega, by omega⟩ (fun h133 => ?_) (fun h133 => ?_)
              · skip
                -- to 164 128f.133t@164
                exact L164 D Qd hBD fD hF x7_D (by omega) sD
              · skip
                obtain ⟨ρ, c, ch, rw0, sv⟩ := sD
                have s1 := sv.1 gD.2.1
                have s2 := sv.2.1 (gD.2.2.1 (by omega))
                have s3 := sv.2.2.1 (gD.2.2.2 (by omega))
                replace sv : S1 b (wkF (V 15) kk : Int) c D ∧ S2 b (wkF (V 15) kk : Int) Ks nk c ρ D ∧ S3 b (wkF (V 15) kk : Int) Ks nk c ρ ch D := ⟨s1, s2, s3⟩
                have hO : cOk (vL (aL b (wkF (V 15) kk : Int) Ks nk c)) (bL (aL b (wkF (V 15) kk : Int) Ks nk c)) (aN b (wkF (V 15) kk : Int) Ks nk c) ch := s3.1.1
                have h13 := a_13 (ch := ch) ho ko hO
                refine T_al d_X9_reach_136 rfl ?_
                refine F_gr (b := 85) d_X9_reach_137 rfl hF rfl ?_
                refine T_al d_X9_reach_140 rfl ?_
                refine F_gr (b := 1) d_X9_reach_141 rfl hF rfl ?_
                refine T_al d_X9_reach_144 rfl ?_
                refine F_gr (b := 34) d_X9_reach_145 rfl hF rfl ?_
                refine T_al d_X9_reach_148 rfl ?_
                refine F_gr (b := 56) d_X9_reach_149 rfl hF rfl ?_
                refine T_al d_X9_reach_152 rfl ?_
                refine F_gi d_X9_reach_153 rfl hBD rfl (fun b_9 => ?_)
                rw [x7_D]
                refine C_v4 d_X9_reach_156 rfl (hdF (by omega)) (hcF _) (R_X6_setPhases (b := b) (k := (wkF (V 15) kk : Int)) (c := c) (Ks := Ks) (l := (aL b (wkF (V 15) kk : Int) Ks nk c)) (N := (aN b (wkF (V 15) kk : Int) Ks nk c)) (ch := ch) (ρ := ρ) hBD hF bCD ho hw hkw s1.2.1.2.2.2.2.1 s3.2.2.2.1 s2.1 s2.2.1 rw0 s2.2.2.1 s3.2.2.1 hO h13) (fun r_10 V_11 R_12 qV_11 => ?_)
                obtain ⟨hF, oV_11, hBV_11, cV_11, rfl, pV_11⟩ := qV_11
                have fV_11 := chg_t (A := [(31, 98)]) (F := [(30, 7, 8), (30, 12, 13)]) fD cV_11 rfl
                have bCV_11 := bC_c bCV fV_11 rfl
                have cf := cV_11
                obtain ⟨po, Lq, Wq, Bq, pd, pp⟩ := pV_11
                have oM := oV_11
                refine T_al d_X9_reach_159 rfl ?_
                refine T_k d_X9_reach_160 ?_
                refine F_pi d_X9_reach_161 rfl hBV_11 rfl ⟨by omega, by omega⟩ (fun V_13 eV_13 hBV_13 => ?_)
                have fV_13 := chg_u eV_13 rfl fV_11
                have bCV_13 := bC_c bCV fV_13 rfl
                -- to 164 128f.133f@164
                exact L164 V_13 R_12 hBV_13 fV_13 hF (by rw [eV_13]; show V_11 30 7 = _; rw [chg_k (c := 30) cf rfl]; exact x7_D) (by rw [eV_13, uV_self]; omega) ⟨ρ, c, ch, rwI_m rw0 oM, svC_4 (by rw [eV_13]; exact uV_self) (S1_x (V := V_11) (S1_x s1 (offA cf 34 51 rfl)) (fun a h1 h2 => by rw [eV_13, uV_cell (by omega)])) (S2_x (V := D) s2 rw0 (by rw [eV_13]; exact cf 56 1 rfl rfl) (fun a j h1 h2 h3 => by rw [eV_13, uV_cell (by omega), offA cf 60 84 rfl a h1 h2]) (by rw [eV_13, uV_cell (by decide)]; exact chg_k (c := 31) cf rfl) (by rw [eV_13, uV_cell (by decide)]; exact chg_k (c := 32) cf rfl)) (S3_x (V := D) s3 s2.1 rw0 (fun j h1 h2 => by rw [eV_13, uV_cell (by decide), chg_k (c := 56) cf rfl]) (fun a h1 h2 => by rw [eV_13, uV_cell (by omega), offA cf 60 84 rfl a h1 h2]) (by rw [eV_13, uV_cell (by decide)]; exact chg_k (c := 58) cf rfl) (by rw [eV_13]; exact cf 30 13 rfl rfl) (by rw [eV_13]; exact cf 30 12 rfl rfl) (by rw [eV_13, uV_cell (by decide)]; exact chg_k (c := 33) cf rfl)) (S4_x (V := V_11) ⟨po, phS_of h13 mtM_cm pd pp⟩ (by rw [eV_13]; rfl) (fun j h1 h2 => by rw [eV_13, uV_cell (by decide)]) (fun a h1 h2 => by rw [eV_13, uV_cell (by omega)]) (fun i => rfl))⟩
          refine T_al d_X9_reach_93 rfl ?_
          refine F_gi d_X9_reach_94 rfl hBC rfl (fun b_14 => ?_)
          refine T_k d_X9_reach_97 ?_
          refine T_ige d_X9_reach_98 ⟨by omega, by omega⟩ ⟨by omega, by omega⟩ (fun h98 => ?_) (fun h98 => ?_)
          · skip
            -- to 123 98t@123
            exact L123 C Qc hBC fC hF x7_C (by omega) sC
          · skip
            refine T_il d_X9_reach_101 rfl ?_
            refine T_k d_X9_reach_102 ?_
            refine T_ilt d_X9_reach_103 ⟨by omega, by omega⟩ ⟨by omega, by omega⟩ (fun h103 => ?_) (fun h103 => ?_)
            · skip
              -- to 123 98f.103t@123
              exact L123 C Qc hBC fC hF x7_C (by omega) sC
            · skip
              obtain ⟨ρ, c, ch, rw0, sv⟩ := sC
              have s1 := sv.1 gC.2.1
              have s2 := sv.2.1 (gC.2.2 (by omega))
              replace sv : S1 b (wkF (V 15) kk : Int) c C ∧ S2 b (wkF (V 15) kk : Int) Ks nk c ρ C := ⟨s1, s2⟩
              refine T_al d_X9_reach_106 rfl ?_
              refine F_gr (b := 56) d_X9_reach_107 rfl hF rfl ?_
              refine C_v0 d_X9_reach_110 rfl (hdF (by omega)) (hcF _) (R_X3_choose (S := (spS b (wkF (V 15) kk : Int) c)) (Ks := Ks) (N := (aN b (wkF (V 15) kk : Int) Ks nk c)) (l := (aL b (wkF (V 15) kk : Int) Ks nk c)) (ρ := ρ) hBC hF (spS_O ho) s2.1 s2.2.1 rw0 s2.2.2.1) (fun r_15 V_16 R_17 qV_16 => ?_)
              obtain ⟨rfl, hBV_16, cV_16, rfl, pV_16⟩ := qV_16
              have fV_16 := chg_t (A := [(31, 98)]) (F := [(30, 7, 8), (30, 12, 13)]) fC cV_16 rfl
              have bCV_16 := bC_c bCV fV_16 rfl
              have cf := cV_16
              obtain ⟨ch2, c1, c2, c3, c4, c5⟩ := pV_16
              refine T_al d_X9_reach_113 rfl ?_
              refine T_k d_X9_reach_114 ?_
              refine F_pz d_X9_reach_115 rfl hBV_16 rfl ⟨by omega, by omega⟩ (fun V_18 eV_18 hBV_18 => ?_)
              have fV_18 := chg_u eV_18 rfl fV_16
              have bCV_18 := bC_c bCV fV_18 rfl
              refine T_al d_X9_reach_118 rfl ?_
              refine T_k d_X9_reach_119 ?_
              refine F_pi d_X9_reach_120 rfl hBV_18 rfl ⟨by omega, by omega⟩ (fun V_19 eV_19 hBV_19 => ?_)
              have fV_19 := chg_u eV_19 rfl fV_18
              have bCV_19 := bC_c bCV fV_19 rfl
              -- to 123 98f.103f@123
              exact L123 V_19 Qc hBV_19 fV_19 hF (by rw [eV_19, eV_18]; show V_16 30 7 = _; rw [chg_k (c := 30) cf rfl]; exact x7_C) (by rw [eV_19, uV_self]; omega) ⟨ρ, c, ch2, rw0, svC_3 (by rw [eV_19]; exact uV_self) (S1_x (V := V_16) (S1_x s1 (offA cf 34 51 rfl)) (fun a h1 h2 => by rw [eV_19, eV_18, uV_cell (by omega), uV_cell (by omega)])) (S2_x (V := C) s2 rw0 (by rw [eV_19, eV_18]; show V_16 56 1 = _; exact cf 56 1 rfl rfl) (fun a j h1 h2 h3 => by rw [eV_19, eV_18, uV_cell (by omega), uV_cell (by omega)]; exact c3 a j h1 h2 h3) (by rw [eV_19, eV_18, uV_cell (by decide), uV_cell (by decide)]; exact chg_k (c := 31) cf rfl) (by rw [eV_19, eV_18, uV_cell (by decide), uV_cell (by decide)]; exact chg_k (c := 32) cf rfl)) (S3_n c1 (by rw [eV_19, eV_18]; exact c2) (fun j hj => by rw [eV_19, eV_18, uV_cell (by have := (rw0.1 j (by have := s2.1; omega)).2; omega), uV_cell (by have := (rw0.1 j (by have := s2.1; omega)).2; omega)]; exact c4 j hj) (ho58_x (ho58_mk s2.2.2.1 c5) (by rw [eV_19, eV_18, uV_cell (by decide), uV_cell (by decide)])) (by rw [eV_19, eV_18]; rfl))⟩
        refine T_al d_X9_reach_71 rfl ?_
        refine F_gi d_X9_reach_72 rfl hBB rfl (fun b_20 => ?_)
        refine T_k d_X9_reach_75 ?_
        refine T_ige d_X9_reach_76 ⟨by omega, by omega⟩ ⟨by omega, by omega⟩ (fun h76 => ?_) (fun h76 => ?_)
        · skip
          -- to 93 76t@93
          exact L93 B Qb hBB fB hF x7_B (by omega) sB
        · skip
          refine T_il d_X9_reach_79 rfl ?_
          refine T_k d_X9_reach_80 ?_
          refine T_ilt d_X9_reach_81 ⟨by omega, by omega⟩ ⟨by omega, by omega⟩ (fun h81 => ?_) (fun h81 => ?_)
          · skip
            -- to 93 76f.81t@93
            exact L93 B Qb hBB fB hF x7_B (by omega) sB
          · skip
            obtain ⟨ρ, c, ch, rw0, sv⟩ := sB
            have sv1 : S1 b (wkF (V 15) kk : Int) c B := sv.1 gB.2
            replace sv : S1 b (wkF (V 15) kk : Int) c B ∧ True := ⟨sv1, trivial⟩
            refine T_al d_X9_reach_84 rfl ?_
            refine C_v0 d_X9_reach_85 rfl (hdF (by omega)) (hcF _) (R_X9_findHouses (b := b) (k := (wkF (V 15) kk : Int)) (S := (spS b (wkF (V 15) kk : Int) c)) (Ks := Ks) (nk := nk) hBB hF bCB ho sv1.2.2.1 (spS_O ho) hkw x7_B icX.2.1 hn5 (fun i hi => ⟨icX.2.2 i hi (by omega), ko i hi⟩) ⟨ρ, rw0⟩) (fun r_21 V_22 R_23 qV_22 => ?_)
            obtain ⟨hF, oV_22, hBV_22, cV_22, rfl, pV_22⟩ := qV_22
            have fV_22 := chg_t (A := [(31, 98)]) (F := [(30, 7, 8), (30, 12, 13)]) fB cV_22 rfl
            have bCV_22 := bC_c bCV fV_22 rfl
            have cf := cV_22
            obtain ⟨pl, pj⟩ := pV_22
            obtain ⟨l1, l2, l3, ρ2, l4, l5⟩ := pl
            refine T_al d_X9_reach_88 rfl ?_
            refine T_k d_X9_reach_89 ?_
            refine F_pi d_X9_reach_90 rfl hBV_22 rfl ⟨by omega, by omega⟩ (fun V_24 eV_24 hBV_24 => ?_)
            have fV_24 := chg_u eV_24 rfl fV_22
            have bCV_24 := bC_c bCV fV_24 rfl
            -- to 93 76f.81f@93
            exact L93 V_24 R_23 hBV_24 fV_24 hF (by rw [eV_24]; show V_22 30 7 = _; rw [chg_k (c := 30) cf rfl]; exact x7_B) (by rw [eV_24, uV_self]; omega) ⟨ρ2, c, ch, l4, svC_2 (by rw [eV_24]; exact uV_self) (S1_x (V := V_22) (S1_x sv1 (offA cf 34 51 rfl)) (fun a h1 h2 => by rw [eV_24, uV_cell (by omega)])) (S2_x (V := V_22) ⟨l1, l2, l5, fun j hj => ⟨(pj j hj).1, Or.inl (pj j hj).2⟩⟩ l4 (by rw [eV_24]; rfl) (fun a j h1 h2 _ => by rw [eV_24, uV_cell (by omega)]) (by rw [eV_24, uV_cell (by decide)]) (by rw [eV_24, uV_cell (by decide)]))⟩
      refine T_al d_X9_reach_36 rfl ?_
      refine F_gi d_X9_reach_37 rfl hBA rfl (fun b_25 => ?_)
      refine T_k d_X9_reach_40 ?_
      refine T_ige d_X9_reach_41 ⟨by omega, by omega⟩ ⟨by omega, by omega⟩ (fun h41 => ?_) (fun h41 => ?_)
      · skip
        -- to 71 41t@71
        exact L71 A Qa hBA fA hF x7_A (by omega) sA
      · skip
        refine T_al d_X9_reach_44 rfl ?_
        refine F_gr (b := 34) d_X9_reach_45 rfl hF rfl ?_
        refine T_al d_X9_reach_48 rfl ?_
        refine F_gi d_X9_reach_49 rfl hBA rfl (fun b_26 => ?_)
        rw [x7_A]
        refine C_v1 d_X9_reach_52 rfl (hdF (by omega)) (hcF _) (R_X7_look (b := b) (k := (wkF (V 15) kk : Int)) hBA hF bCA ho hkw) (fun r_27 V_28 R_29 qV_28 => ?_)
        obtain ⟨rfl, hBV_28, cV_28, rfl, pV_28⟩ := qV_28
        have fV_28 := chg_t (A := [(31, 98)]) (F := [(30, 7, 8), (30, 12, 13)]) fA cV_28 rfl
        have bCV_28 := bC_c bCV fV_28 rfl
        obtain ⟨c1, i1, sg1⟩ := pV_28
        have fl := cV_28
        refine T_al d_X9_reach_55 rfl ?_
        refine F_gr (b := 44) d_X9_reach_56 rfl hF rfl ?_
        refine T_al d_X9_reach_59 rfl ?_
        refine F_gr (b := 34) d_X9_reach_60 rfl hF rfl ?_
        refine C_v1 d_X9_reach_63 rfl (hdF (by omega)) (hcF _) (R_X8_load (b := b) (k := (wkF (V 15) kk : Int)) (c := c1) hBV_28 hF ho sg1) (fun r_30 V_31 R_32 qV_31 => ?_)
        obtain ⟨rfl, hBV_31, cV_31, rfl, pV_31⟩ := qV_31
        have fV_31 := chg_t (A := [(31, 98)]) (F := [(30, 7, 8), (30, 12, 13)]) fV_28 cV_31 rfl
        have bCV_31 := bC_c bCV fV_31 rfl
        have pl := pV_31
        have cl := cV_31
        refine T_al d_X9_reach_66 rfl ?_
        refine T_k d_X9_reach_67 ?_
        refine F_pi d_X9_reach_68 rfl hBV_31 rfl ⟨by omega, by omega⟩ (fun V_33 eV_33 hBV_33 => ?_)
        have fV_33 := chg_u eV_33 rfl fV_31
        have bCV_33 := bC_c bCV fV_33 rfl
        -- to 71 41f@71
        exact L71 V_33 Qa hBV_33 fV_33 hF (by rw [eV_33]; show V_31 30 7 = _; rw [chg_k (c := 30) cl rfl, chg_k (c := 30) fl rfl]; exact x7_A) (by rw [eV_33, uV_self]; omega) (by obtain ⟨ρ, c, ch, rw0, sv⟩ := sA; exact ⟨ρ, c1, ch, rw0, svC_1 (by rw [eV_33]; exact uV_self) (S1_x (V := V_31) (S1_mk i1 sg1 (offA cl 34 41 rfl) pl.1 pl.2) (fun a h1 h2 => by rw [eV_33, uV_cell (by omega)]))⟩)
    obtain rfl : x_1 = (wkF (V 15) kk : Int) := ex_1
    have b8 := hB.2 30 9 8 0 5 rfl rfl
    refine T_il d_X9_reach_18 rfl ?_
    refine T_al d_X9_reach_19 rfl ?_
    refine F_gi d_X9_reach_20 rfl hB rfl (fun b_34 => ?_)
    refine T_ieq d_X9_reach_23 ⟨by omega, by omega⟩ ⟨by omega, by omega⟩ (fun h23 => ?_) (fun h23 => ?_)
    · skip
      -- to 36 4t.23t@36
      refine T_subp (ks := [0, 2]) (ls' := [(0, vr 30), (2, vi (t:Int))]) rfl ?_
      exact L36 V R hB fV hF (by omega) (by omega) ⟨ρ0, c0, ch0, hrw, by rw [show (wkF (V 15) kk : Int) = V 30 7 by omega]; exact hsv⟩
    · skip
      refine T_al d_X9_reach_26 rfl ?_
      refine T_il d_X9_reach_27 rfl ?_
      refine F_pi d_X9_reach_28 rfl hB rfl ⟨by omega, by omega⟩ (fun V_35 eV_35 hBV_35 => ?_)
      have fV_35 := chg_u eV_35 rfl fV
      have bCV_35 := bC_c bCV fV_35 rfl
      refine T_al d_X9_reach_31 rfl ?_
      refine T_k d_X9_reach_32 ?_
      refine F_pi d_X9_reach_33 rfl hBV_35 rfl ⟨by omega, by omega⟩ (fun V_36 eV_36 hBV_36 => ?_)
      have fV_36 := chg_u eV_36 rfl fV_35
      have bCV_36 := bC_c bCV fV_36 rfl
      -- to 36 4t.23f@36
      refine T_subp (ks := [0, 2]) (ls' := [(0, vr 30), (2, vi (t:Int))]) rfl ?_
      exact L36 V_36 R hBV_36 fV_36 hF (by rw [eV_36, eV_35]; rfl) (by rw [eV_36]; exact (by decide : (0:Int) ≤ 0)) ⟨ρ0, c0, ch0, hrw, svC_0 (by rw [eV_36]; exact uV_self)⟩
  · exact absurd ⟨by omega, by omega⟩ h4
