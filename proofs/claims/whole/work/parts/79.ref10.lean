set_option maxHeartbeats 1000000 in
set_option maxRecDepth 100000 in
theorem R_X11_finds {G : GG} {V : VV} {R : RR} {k : Int} {b : Bk} (hB : Bd V) (hF : FinR R) (bMV : bM b V) (hk : 0 ≤ k ∧ k ≤ 400) : Runs G M_X11_finds 5 162 162 [vr 99, vi k] V R (PQ [(128, 134)] [(99, 45, 49)] V R (fun r X => r = none ∧ ∃ c, isB (KK b k) 6724 c ∧ spM b k c X)) := by
  refine Runs.of pn_X11 (Nat.le_of_ble_eq_true rfl) rfl ?_
  show TT G M_X11_finds (rmd 5 162 162) 162 (Zm G 162 162 (PQ [(128, 134)] [(99, 45, 49)] V R (fun r X => r = none ∧ ∃ c, isB (KK b k) 6724 c ∧ spM b k c X))) 162 0 [(0, vr 99), (1, vi k)] [] V R
  have fV : chg [(128, 134)] [(99, 45, 49)] V V := chg_r
  have ho := bO_of bMV hB
  have hn4 := ho.n
  refine T_al d_X11_finds_0 rfl ?_
  refine T_il d_X11_finds_1 rfl ?_
  refine C_v1 d_X11_finds_2 rfl (hdF (by decide)) (hcF _) (R_X11_frames hB hF bMV ⟨by omega, by omega⟩) (fun r_1 V_2 R_3 qV_2 => ?_)
  obtain ⟨rfl, hBV_2, cV_2, rfl, pV_2⟩ := qV_2
  have fV_2 := chg_t (A := [(128, 134)]) (F := [(99, 45, 49)]) fV cV_2 rfl
  have bMV_2 := bM_c bMV fV_2 rfl
  obtain ⟨hX0, c, hcB, hfr⟩ := pV_2
  have hc6 := hcB.1
  refine T_al d_X11_finds_5 rfl ?_
  refine T_k d_X11_finds_6 ?_
  refine F_pi d_X11_finds_7 rfl hBV_2 rfl ⟨by omega, by omega⟩ (fun V_4 eV_4 hBV_4 => ?_)
  have fV_4 := chg_u eV_4 rfl fV_2
  have bMV_4 := bM_c bMV fV_4 rfl
  refine T_k d_X11_finds_10 ?_
  refine T_is d_X11_finds_11 (ls' := [(0, vr 99), (1, vi k), (2, vi 0)]) rfl ?_
  -- to 12 @12
  have L12 : ∀ (fu : Nat) (W : VV) (h : Nat), b.n - h < fu → (Bd W) → (chg [(128, 134)] [(99, 45, 49)] V W) → (h ≤ b.n) → (S12 b k c h W) → TT G M_X11_finds (rmd 5 162 162) 162 (Zm G 162 162 (PQ [(128, 134)] [(99, 45, 49)] V R (fun r X => r = none ∧ ∃ c, isB (KK b k) 6724 c ∧ spM b k c X))) 162 12 [(0, vr 99), (1, vi k), (2, vi (h : Int))] [] W R := by
    intro fu
    induction fu with
    | zero => intro W h hm; exact absurd hm (Nat.not_lt_zero _)
    | succ fu ih12 =>
      intro W h hm12 hBW fW hh hL
      have bMW := bM_c bMV fW rfl
      refine T_il d_X11_finds_12 rfl ?_
      refine T_al d_X11_finds_13 rfl ?_
      refine F_gi d_X11_finds_14 rfl hBW rfl (fun b_5 => ?_)
      rw [bMW.n]
      rw [bMW.n] at b_5
      refine T_ige d_X11_finds_17 ⟨by omega, by omega⟩ ⟨by omega, by omega⟩ (fun h17 => ?_) (fun h17 => ?_)
      · skip
        refine T_k d_X11_finds_83 ?_
        refine T_is d_X11_finds_84 (ls' := [(0, vr 99), (1, vi k), (2, vi 0)]) rfl ?_
        -- to 85 17t@85
        have L85 : ∀ (fu : Nat) (X : VV) (h : Nat), b.n - h < fu → (Bd X) → (chg [(128, 134)] [(99, 45, 49)] V X) → (h ≤ b.n) → (S85 b k c h X) → TT G M_X11_finds (rmd 5 162 162) 162 (Zm G 162 162 (PQ [(128, 134)] [(99, 45, 49)] V R (fun r X => r = none ∧ ∃ c, isB (KK b k) 6724 c ∧ spM b k c X))) 162 85 [(0, vr 99), (1, vi k), (2, vi (h : Int))] [] X R := by
          intro fu
          induction fu with
          | zero => intro X h hm; exact absurd hm (Nat.not_lt_zero _)
          | succ fu ih85 =>
            intro X h hm85 hBX fX hh hL
            have bMX := bM_c bMV fX rfl
            refine T_il d_X11_finds_85 rfl ?_
            refine T_al d_X11_finds_86 rfl ?_
            refine F_gi d_X11_finds_87 rfl hBX rfl (fun b_6 => ?_)
            rw [bMX.n]
            rw [bMX.n] at b_6
            refine T_ige d_X11_finds_90 ⟨by omega, by omega⟩ ⟨by omega, by omega⟩ (fun h90 => ?_) (fun h90 => ?_)
            · skip
              refine T_k d_X11_finds_234 ?_
              refine T_is d_X11_finds_235 (ls' := [(0, vr 99), (1, vi k), (2, vi 0)]) rfl ?_
              -- to 236 90t@236
              have L236 : ∀ (fu : Nat) (Y : VV) (h : Nat), b.n - h < fu → (Bd Y) → (chg [(128, 134)] [(99, 45, 49)] V Y) → (h ≤ b.n) → (S236 b k c h Y) → TT G M_X11_finds (rmd 5 162 162) 162 (Zm G 162 162 (PQ [(128, 134)] [(99, 45, 49)] V R (fun r X => r = none ∧ ∃ c, isB (KK b k) 6724 c ∧ spM b k c X))) 162 236 [(0, vr 99), (1, vi k), (2, vi (h : Int))] [] Y R := by
                intro fu
                induction fu with
                | zero => intro Y h hm; exact absurd hm (Nat.not_lt_zero _)
                | succ fu ih236 =>
                  intro Y h hm236 hBY fY hh hL
                  have bMY := bM_c bMV fY rfl
                  refine T_il d_X11_finds_236 rfl ?_
                  refine T_al d_X11_finds_237 rfl ?_
                  refine F_gi d_X11_finds_238 rfl hBY rfl (fun b_7 => ?_)
                  rw [bMY.n]
                  rw [bMY.n] at b_7
                  refine T_ige d_X11_finds_241 ⟨by omega, by omega⟩ ⟨by omega, by omega⟩ (fun h241 => ?_) (fun h241 => ?_)
                  · skip
                    refine T_k d_X11_finds_401 ?_
                    refine T_is d_X11_finds_402 (ls' := [(0, vr 99), (1, vi k), (2, vi 0)]) rfl ?_
                    -- to 403 241t@403
                    have L403 : ∀ (fu : Nat) (U : VV) (s : Nat), nSp b k c - s < fu → (Bd U) → (chg [(128, 134)] [(99, 45, 49)] V U) → (s ≤ nSp b k c) → (S403 b k c s U) → TT G M_X11_finds (rmd 5 162 162) 162 (Zm G 162 162 (PQ [(128, 134)] [(99, 45, 49)] V R (fun r X => r = none ∧ ∃ c, isB (KK b k) 6724 c ∧ spM b k c X))) 162 403 [(0, vr 99), (1, vi k), (2, vi (s : Int))] [] U R := by
                      intro fu
                      induction fu with
                      | zero => intro U s hm; exact absurd hm (Nat.not_lt_zero _)
                      | succ fu ih403 =>
                        intro U s hm403 hBU fU hs hL
                        have bMU := bM_c bMV fU rfl
                        have h49 := hL.2.1
                        have hnn := nSp_le (b := b) (k := k) (c := c)
                        refine T_il d_X11_finds_403 rfl ?_
                        refine T_al d_X11_finds_404 rfl ?_
                        refine F_gi d_X11_finds_405 rfl hBU rfl (fun b_8 => ?_)
                        refine T_ige d_X11_finds_408 ⟨by omega, by omega⟩ ⟨by omega, by omega⟩ (fun h408 => ?_) (fun h408 => ?_)
                        · skip
                          -- leaf 408t@442
                          refine T_vret d_X11_finds_442 rfl ?_
                          exact ⟨rfl, hBU, fU, rfl, c, hcB, S403_e (by have h49 := hL.2.1; omega) hL⟩
                        · skip
                          have hm1 : 0 ≤ U 134 s ∧ U 134 s ≤ 200 := by rw [hL.2.2.2.2.2 s (by omega), if_neg (by omega)]; exact mxD_b ho _
                          have hp1 : 0 ≤ plgO b (U 132 s) (U 133 s) ∧ plgO b (U 132 s) (U 133 s) ≤ 100 := plg_b ho b.pn
                          have hnn := nSp_le (b := b) (k := k) (c := c)
                          refine T_al d_X11_finds_411 rfl ?_
                          refine F_gr (b := 134) d_X11_finds_412 rfl hF rfl ?_
                          refine T_il d_X11_finds_415 rfl ?_
                          refine T_dup2 d_X11_finds_416 rfl rfl ?_
                          refine F_ia d_X11_finds_417 rfl hBU rfl ⟨by omega, by omega⟩ (fun b_9 => ?_)
                          try simp only [Int.toNat_natCast]
                          try simp only [Int.toNat_natCast] at b_9
                          refine T_al d_X11_finds_418 rfl ?_
                          refine T_al d_X11_finds_419 rfl ?_
                          refine F_gr (b := 132) d_X11_finds_420 rfl hF rfl ?_
                          refine T_il d_X11_finds_423 rfl ?_
                          refine F_ia d_X11_finds_424 rfl hBU rfl ⟨by omega, by omega⟩ (fun b_10 => ?_)
                          try simp only [Int.toNat_natCast]
                          try simp only [Int.toNat_natCast] at b_10
                          refine T_al d_X11_finds_425 rfl ?_
                          refine F_gr (b := 133) d_X11_finds_426 rfl hF rfl ?_
                          refine T_il d_X11_finds_429 rfl ?_
                          refine F_ia d_X11_finds_430 rfl hBU rfl ⟨by omega, by omega⟩ (fun b_11 => ?_)
                          try simp only [Int.toNat_natCast]
                          try simp only [Int.toNat_natCast] at b_11
                          refine C_pv2 d_X11_finds_431 rfl (hdF (by decide)) (hcF _) (R_X11_ploughed (by first | assumption | omega | exact ⟨by omega, by omega⟩ | (subst_vars; simp_all [uV]; done) | grind [uV]) (by first | assumption | omega | exact ⟨by omega, by omega⟩ | (subst_vars; simp_all [uV]; done) | grind [uV]) (by first | assumption | omega | exact ⟨by omega, by omega⟩ | (subst_vars; simp_all [uV]; done) | grind [uV]) (by first | assumption | omega | exact ⟨by omega, by omega⟩ | (subst_vars; simp_all [uV]; done) | grind [uV]) (by first | assumption | omega | exact ⟨by omega, by omega⟩ | (subst_vars; simp_all [uV]; done) | grind [uV])) ?_
                          refine T_iadd d_X11_finds_434 ?_
                          refine F_is d_X11_finds_435 rfl hBU rfl ⟨by omega, by omega⟩ ⟨by omega, by omega⟩ (fun V_12 eV_12 hBV_12 => ?_)
                          have fV_12 := chg_u eV_12 rfl fU
                          have bMV_12 := bM_c bMV fV_12 rfl
                          refine F_incg d_X11_finds_436 rfl (f := fun x_13 => [(0, vr 99), (1, vi k), (2, vi x_13)]) (fun _ => rfl) (fun x_13 ex_13 => ?_)
                          refine T_go d_X11_finds_439 ?_
                          -- to 403 408f@403
                          obtain rfl : x_13 = ((s + 1) : Int) := by omega
                          exact ih403 V_12 (s + 1) (by omega) hBV_12 fV_12 (by first | assumption | omega) (S403_s (by omega) hL rfl eV_12)
                    exact L403 _ Y (0) (Nat.lt_succ_self _) hBY fY (by first | assumption | omega) (S236_e ho (by omega) hh hL)
                  · skip
                    have hx1 := (hL.2.2.1 h (by omega)).1
                    have hy1 := (hL.2.2.1 h (by omega)).2
                    have hdh := ho.dg h
                    have hnn := nSp_le (b := b) (k := k) (c := c)
                    have h49 := hL.2.1
                    refine T_al d_X11_finds_244 rfl ?_
                    refine T_il d_X11_finds_245 rfl ?_
                    refine T_il d_X11_finds_246 rfl ?_
                    refine C_pv2 d_X11_finds_247 rfl (hdF (by decide)) (hcF _) (R_X11_isThere hBY hF bMY (by omega) ⟨by omega, by omega⟩) ?_
                    refine T_pz0 d_X11_finds_250 (fun h250 => ?_) (fun h250 => ?_)
                    · skip
                      refine F_incg d_X11_finds_395 rfl (f := fun x_14 => [(0, vr 99), (1, vi k), (2, vi x_14)]) (fun _ => rfl) (fun x_14 ex_14 => ?_)
                      refine T_go d_X11_finds_398 ?_
                      -- to 236 241f.250t@236
                      obtain rfl : x_14 = ((h + 1) : Int) := by omega
                      exact ih236 Y (h + 1) (by omega) hBY fY (by first | assumption | omega) (S236_s (by omega) hL (ow_or (fun w => h250 w.1)))
                    · skip
                      refine T_al d_X11_finds_253 rfl ?_
                      refine F_gr (b := 100) d_X11_finds_254 rfl hF rfl ?_
                      refine T_il d_X11_finds_257 rfl ?_
                      refine F_ia d_X11_finds_258 rfl hBY rfl ⟨by omega, by omega⟩ (fun b_15 => ?_)
                      rw [bMY.dg]
                      rw [bMY.dg] at b_15
                      try simp only [Int.toNat_natCast]
                      try simp only [Int.toNat_natCast] at b_15
                      refine T_zeq d_X11_finds_259 ⟨by omega, by omega⟩ (fun h259 => ?_) (fun h259 => ?_)
                      · skip
                        refine F_incg d_X11_finds_395 rfl (f := fun x_16 => [(0, vr 99), (1, vi k), (2, vi x_16)]) (fun _ => rfl) (fun x_16 ex_16 => ?_)
                        refine T_go d_X11_finds_398 ?_
                        -- to 236 241f.250f.259t@236
                        obtain rfl : x_16 = ((h + 1) : Int) := by omega
                        exact ih236 Y (h + 1) (by omega) hBY fY (by first | assumption | omega) (S236_s (by omega) hL (ow_or (fun w => by have := w.2.1; omega)))
                      · skip
                        refine T_al d_X11_finds_262 rfl ?_
                        refine T_al d_X11_finds_263 rfl ?_
                        refine F_gr (b := 128) d_X11_finds_264 rfl hF rfl ?_
                        refine T_il d_X11_finds_267 rfl ?_
                        refine F_ia d_X11_finds_268 rfl hBY rfl ⟨by omega, by omega⟩ (fun b_17 => ?_)
                        try simp only [Int.toNat_natCast]
                        try simp only [Int.toNat_natCast] at b_17
                        refine T_al d_X11_finds_269 rfl ?_
                        refine F_gr (b := 129) d_X11_finds_270 rfl hF rfl ?_
                        refine T_il d_X11_finds_273 rfl ?_
                        refine F_ia d_X11_finds_274 rfl hBY rfl ⟨by omega, by omega⟩ (fun b_18 => ?_)
                        try simp only [Int.toNat_natCast]
                        try simp only [Int.toNat_natCast] at b_18
                        refine T_il d_X11_finds_275 rfl ?_
                        refine C_pv3 d_X11_finds_276 rfl (hdF (by decide)) (hcF _) (R_X11_strikesOne hBY hF bMY (by omega) (by omega) ⟨by omega, by omega⟩ (fun g hg hd => by have w := (hL.2.2.1 g hg); rw [(fd0 hd).1, (fd0 hd).2] at w; exact w)) ?_
                        refine T_pz1 d_X11_finds_279 (fun h279 => ?_) (fun h279 => ?_)
                        · skip
                          rw [hx1, hy1] at h279
                          have hs : thr b k h ∧ b.dg h = 1 ∧ stks b k (fdX b c h) (fdY b c h) = true := ⟨h250, by omega, h279⟩
                          refine T_al d_X11_finds_285 rfl ?_
                          refine F_gi d_X11_finds_286 rfl hBY rfl (fun b_19 => ?_)
                          refine T_k d_X11_finds_289 ?_
                          refine T_isub d_X11_finds_290 ?_
                          refine F_isg d_X11_finds_291 (f := fun x_20 => [(0, vr 99), (1, vi k), (2, vi (h : Int)), (3, vi x_20)]) (fun _ => rfl) (fun x_20 ex_20 => ?_)
                          -- to 292 241f.250f.259f.279t@292
                          have L292 : ∀ (fu : Nat) (Z : VV) (u : Nat) (z : Int), u < fu → (Bd Z) → (chg [(128, 134)] [(99, 45, 49)] V Z) → (u ≤ nSp b k c) → (Z = uV Y 130 h z) → (lowI (nrS b k c h) (nSp b k c) u z) → TT G M_X11_finds (rmd 5 162 162) 162 (Zm G 162 162 (PQ [(128, 134)] [(99, 45, 49)] V R (fun r X => r = none ∧ ∃ c, isB (KK b k) 6724 c ∧ spM b k c X))) 162 292 [(0, vr 99), (1, vi k), (2, vi (h : Int)), (3, vi ((u : Int) - 1))] [] Z R := by
                            intro fu
                            induction fu with
                            | zero => intro Z u z hm; exact absurd hm (Nat.not_lt_zero _)
                            | succ fu ih292 =>
                              intro Z u z hm292 hBZ fZ hu eZ hz
                              have bMZ := bM_c bMV fZ rfl
                              refine T_il d_X11_finds_292 rfl ?_
                              refine T_zlt d_X11_finds_293 ⟨by omega, by omega⟩ (fun h293 => ?_) (fun h293 => ?_)
                              · skip
                                have hu0 : u = 0 := by omega
                                rw [hu0] at hz
                                have hz0 : Z 130 h = z := by rw [eZ]; exact uV_self
                                obtain ⟨hnp, hlw⟩ := low_ow (by omega) hs hz
                                refine T_al d_X11_finds_348 rfl ?_
                                refine F_gr (b := 130) d_X11_finds_349 rfl hF rfl ?_
                                refine T_il d_X11_finds_352 rfl ?_
                                refine F_ia d_X11_finds_353 rfl hBZ rfl ⟨by omega, by omega⟩ (fun b_21 => ?_)
                                try simp only [Int.toNat_natCast, hz0]
                                try simp only [Int.toNat_natCast, hz0] at b_21
                                refine T_k d_X11_finds_354 ?_
                                refine T_ieq d_X11_finds_355 ⟨by omega, by omega⟩ ⟨by omega, by omega⟩ (fun h355 => ?_) (fun h355 => ?_)
                                · skip
                                  refine F_incg d_X11_finds_395 rfl (f := fun x_22 => [(0, vr 99), (1, vi k), (2, vi x_22), (3, vi ((u : Int) - 1))]) (fun _ => rfl) (fun x_22 ex_22 => ?_)
                                  refine T_go d_X11_finds_398 ?_
                                  -- to 236 293t.355t@236
                                  refine T_subp (ks := [0, 1, 2]) (ls' := [(0, vr 99), (1, vi k), (2, vi x_22)]) rfl ?_
                                  have hzY : Z = Y := by rw [eZ, h355]; exact uV_same (by rw [hL.2.2.2.1 h (by omega), if_neg (Nat.lt_irrefl _), if_neg hnp])
                                  have how : owO b k c h = -1 := hlw.elim (fun w => w.2) (fun ⟨i, e, _⟩ => by omega)
                                  obtain rfl : x_22 = ((h + 1) : Int) := by omega
                                  exact ih236 Z (h + 1) (by omega) hBZ fZ (by first | assumption | omega) (by rw [hzY]; exact S236_s (by omega) hL (Or.inr how))
                                · skip
                                  have hdp : 0 ≤ depO b k h ∧ depO b k h ≤ 200 := dep_b ho b.rn
                                  obtain ⟨i, rfl, hi, how⟩ := hlw.resolve_left (fun w => h355 w.1)
                                  refine T_al d_X11_finds_358 rfl ?_
                                  refine T_il d_X11_finds_359 rfl ?_
                                  refine T_il d_X11_finds_360 rfl ?_
                                  refine C_pv2 d_X11_finds_361 rfl (hdF (by decide)) (hcF _) (R_X11_depthOf (by first | assumption | omega | exact ⟨by omega, by omega⟩ | (subst_vars; simp_all [uV]; done) | grind [uV]) (by first | assumption | omega | exact ⟨by omega, by omega⟩ | (subst_vars; simp_all [uV]; done) | grind [uV]) (by first | assumption | omega | exact ⟨by omega, by omega⟩ | (subst_vars; simp_all [uV]; done) | grind [uV]) (by first | assumption | omega | exact ⟨by omega, by omega⟩ | (subst_vars; simp_all [uV]; done) | grind [uV]) (by first | assumption | omega | exact ⟨by omega, by omega⟩ | (subst_vars; simp_all [uV]; done) | grind [uV])) ?_
                                  refine T_al d_X11_finds_364 rfl ?_
                                  refine F_gr (b := 134) d_X11_finds_365 rfl hF rfl ?_
                                  refine T_al d_X11_finds_368 rfl ?_
                                  refine F_gr (b := 130) d_X11_finds_369 rfl hF rfl ?_
                                  refine T_il d_X11_finds_372 rfl ?_
                                  refine F_ia d_X11_finds_373 rfl hBZ rfl ⟨by omega, by omega⟩ (fun b_23 => ?_)
                                  try simp only [Int.toNat_natCast, hz0]
                                  try simp only [Int.toNat_natCast, hz0] at b_23
                                  refine F_ia d_X11_finds_374 rfl hBZ rfl ⟨by omega, by omega⟩ (fun b_24 => ?_)
                                  try simp only [Int.toNat_natCast, hz0]
                                  try simp only [Int.toNat_natCast, hz0] at b_24
                                  refine T_ile d_X11_finds_375 ⟨by omega, by omega⟩ ⟨by omega, by omega⟩ (fun h375 => ?_) (fun h375 => ?_)
                                  · skip
                                    refine F_incg d_X11_finds_395 rfl (f := fun x_25 => [(0, vr 99), (1, vi k), (2, vi x_25), (3, vi ((u : Int) - 1))]) (fun _ => rfl) (fun x_25 ex_25 => ?_)
                                    refine T_go d_X11_finds_398 ?_
                                    -- to 236 293t.355f.375t@236
                                    refine T_subp (ks := [0, 1, 2]) (ls' := [(0, vr 99), (1, vi k), (2, vi x_25)]) rfl ?_
                                    have z4 : Z 134 = Y 134 := by rw [eZ]; rfl
                                    rw [z4] at h375
                                    obtain rfl : x_25 = ((h + 1) : Int) := by omega
                                    exact ih236 Z (h + 1) (by omega) hBZ fZ (by first | assumption | omega) (S236_a (w := Y 134 i) (by omega) hL hnp hi how (by rw [if_neg (by omega)]) (by rw [eZ] <;> rfl) (by rw [eZ] <;> rfl) (by rw [eZ] <;> rfl) (by rw [eZ] <;> rfl) (by rw [eZ] <;> rfl) (by rw [eZ] <;> rfl) (by rw [eZ] <;> rfl) (by rw [uV_same rfl, eZ] <;> rfl))
                                  · skip
                                    refine T_al d_X11_finds_378 rfl ?_
                                    refine F_gr (b := 134) d_X11_finds_379 rfl hF rfl ?_
                                    refine T_al d_X11_finds_382 rfl ?_
                                    refine F_gr (b := 130) d_X11_finds_383 rfl hF rfl ?_
                                    refine T_il d_X11_finds_386 rfl ?_
                                    refine F_ia d_X11_finds_387 rfl hBZ rfl ⟨by omega, by omega⟩ (fun b_26 => ?_)
                                    try simp only [Int.toNat_natCast, hz0]
                                    try simp only [Int.toNat_natCast, hz0] at b_26
                                    refine T_al d_X11_finds_388 rfl ?_
                                    refine T_il d_X11_finds_389 rfl ?_
                                    refine T_il d_X11_finds_390 rfl ?_
                                    refine C_pv2 d_X11_finds_391 rfl (hdF (by decide)) (hcF _) (R_X11_depthOf (by first | assumption | omega | exact ⟨by omega, by omega⟩ | (subst_vars; simp_all [uV]; done) | grind [uV]) (by first | assumption | omega | exact ⟨by omega, by omega⟩ | (subst_vars; simp_all [uV]; done) | grind [uV]) (by first | assumption | omega | exact ⟨by omega, by omega⟩ | (subst_vars; simp_all [uV]; done) | grind [uV]) (by first | assumption | omega | exact ⟨by omega, by omega⟩ | (subst_vars; simp_all [uV]; done) | grind [uV]) (by first | assumption | omega | exact ⟨by omega, by omega⟩ | (subst_vars; simp_all [uV]; done) | grind [uV])) ?_
                                    refine F_is d_X11_finds_394 rfl hBZ rfl ⟨by omega, by omega⟩ ⟨by omega, by omega⟩ (fun V_27 eV_27 hBV_27 => ?_)
                                    have fV_27 := chg_u eV_27 rfl fZ
                                    have bMV_27 := bM_c bMV fV_27 rfl
                                    refine F_incg d_X11_finds_395 rfl (f := fun x_28 => [(0, vr 99), (1, vi k), (2, vi x_28), (3, vi ((u : Int) - 1))]) (fun _ => rfl) (fun x_28 ex_28 => ?_)
                                    refine T_go d_X11_finds_398 ?_
                                    -- to 236 293t.355f.375f@236
                                    refine T_subp (ks := [0, 1, 2]) (ls' := [(0, vr 99), (1, vi k), (2, vi x_28)]) rfl ?_
                                    have z4 : Z 134 = Y 134 := by rw [eZ]; rfl
                                    rw [z4] at h375
                                    obtain rfl : x_28 = ((h + 1) : Int) := by omega
                                    exact ih236 V_27 (h + 1) (by omega) hBV_27 fV_27 (by first | assumption | omega) (S236_a (w := depO b k h) (by omega) hL hnp hi how (by rw [if_pos (by omega)]) (by rw [eV_27, eZ]; rfl) (by rw [eV_27, eZ]; rfl) (by rw [eV_27, eZ]; rfl) (by rw [eV_27, eZ]; rfl) (by rw [eV_27, eZ]; rfl) (by rw [eV_27, eZ]; rfl) (by rw [eV_27, eZ]; rfl) (by rw [eV_27, eZ]; rfl))
                              · skip
                                obtain ⟨w, rfl⟩ : ∃ w, u = w + 1 := ⟨u - 1, by omega⟩
                                have i0 : (((w + 1 : Nat) : Int) - 1).toNat = w := by omega
                                have sh0 : Z 131 w = (shO b k c w : Int) := by rw [eZ]; exact (hL.2.2.2.2.1 w (by omega)).1
                                have shn : shO b k c w < b.n := (nth_ok (p := isSp b k c) (n := b.n) (i := w) (by unfold nSp at hu; omega)).1
                                have zx : ∀ i, i < b.n → Z 128 i = fdX b c i ∧ Z 129 i = fdY b c i := by rw [eZ]; exact hL.2.2.1
                                refine T_al d_X11_finds_296 rfl ?_
                                refine F_gr (b := 100) d_X11_finds_297 rfl hF rfl ?_
                                refine T_al d_X11_finds_300 rfl ?_
                                refine F_gr (b := 131) d_X11_finds_301 rfl hF rfl ?_
                                refine T_il d_X11_finds_304 rfl ?_
                                refine F_ia d_X11_finds_305 rfl hBZ rfl ⟨by omega, by omega⟩ (fun b_29 => ?_)
                                try simp only [Int.toNat_natCast, i0, sh0]
                                try simp only [Int.toNat_natCast, i0, sh0] at b_29
                                refine F_ia d_X11_finds_306 rfl hBZ rfl ⟨by omega, by omega⟩ (fun b_30 => ?_)
                                rw [bMZ.dg]
                                rw [bMZ.dg] at b_30
                                try simp only [Int.toNat_natCast, i0, sh0]
                                try simp only [Int.toNat_natCast, i0, sh0] at b_30
                                refine T_zne d_X11_finds_307 ⟨by omega, by omega⟩ (fun h307 => ?_) (fun h307 => ?_)
                                · skip
                                  refine F_incg d_X11_finds_342 rfl (f := fun x_31 => [(0, vr 99), (1, vi k), (2, vi (h : Int)), (3, vi x_31)]) (fun _ => rfl) (fun x_31 ex_31 => ?_)
                                  refine T_go d_X11_finds_345 ?_
                                  -- to 292 293f.307t@292
                                  obtain rfl : x_31 = ((w : Int) - 1) := by omega
                                  exact ih292 Z (w) (z) (by omega) hBZ fZ (by first | assumption | omega) (by first | assumption | omega) (lowI_f hz (decide_eq_false (fun v => h307 v.1)))
                                · skip
                                  refine T_al d_X11_finds_310 rfl ?_
                                  refine T_al d_X11_finds_311 rfl ?_
                                  refine F_gr (b := 128) d_X11_finds_312 rfl hF rfl ?_
                                  refine T_il d_X11_finds_315 rfl ?_
                                  refine F_ia d_X11_finds_316 rfl hBZ rfl ⟨by omega, by omega⟩ (fun b_32 => ?_)
                                  try simp only [Int.toNat_natCast]
                                  try simp only [Int.toNat_natCast] at b_32
                                  refine T_al d_X11_finds_317 rfl ?_
                                  refine F_gr (b := 129) d_X11_finds_318 rfl hF rfl ?_
                                  refine T_il d_X11_finds_321 rfl ?_
                                  refine F_ia d_X11_finds_322 rfl hBZ rfl ⟨by omega, by omega⟩ (fun b_33 => ?_)
                                  try simp only [Int.toNat_natCast]
                                  try simp only [Int.toNat_natCast] at b_33
                                  refine T_al d_X11_finds_323 rfl ?_
                                  refine F_gr (b := 131) d_X11_finds_324 rfl hF rfl ?_
                                  refine T_il d_X11_finds_327 rfl ?_
                                  refine F_ia d_X11_finds_328 rfl hBZ rfl ⟨by omega, by omega⟩ (fun b_34 => ?_)
                                  try simp only [Int.toNat_natCast, i0, sh0]
                                  try simp only [Int.toNat_natCast, i0, sh0] at b_34
                                  refine C_pv3 d_X11_finds_329 rfl (hdF (by decide)) (hcF _) (R_X11_isNear hBZ hF bMZ (by omega) (by omega) (by omega)) ?_
                                  refine T_pz0 d_X11_finds_332 (fun h332 => ?_) (fun h332 => ?_)
                                  · skip
                                    refine F_incg d_X11_finds_342 rfl (f := fun x_35 => [(0, vr 99), (1, vi k), (2, vi (h : Int)), (3, vi x_35)]) (fun _ => rfl) (fun x_35 ex_35 => ?_)
                                    refine T_go d_X11_finds_345 ?_
                                    -- to 292 293f.307f.332t@292
                                    rw [(zx h (by omega)).1, (zx h (by omega)).2, (zx _ shn).1, (zx _ shn).2, (fd0 h307).1, (fd0 h307).2] at h332
                                    obtain rfl : x_35 = ((w : Int) - 1) := by omega
                                    exact ih292 Z (w) (z) (by omega) hBZ fZ (by first | assumption | omega) (by first | assumption | omega) (lowI_f hz (decide_eq_false (fun v => h332 v.2)))
                                  · skip
                                    refine T_al d_X11_finds_335 rfl ?_
                                    refine F_gr (b := 130) d_X11_finds_336 rfl hF rfl ?_
                                    refine T_il d_X11_finds_339 rfl ?_
                                    refine T_il d_X11_finds_340 rfl ?_
                                    refine F_is d_X11_finds_341 rfl hBZ rfl ⟨by omega, by omega⟩ ⟨by omega, by omega⟩ (fun V_36 eV_36 hBV_36 => ?_)
                                    have fV_36 := chg_u eV_36 rfl fZ
                                    have bMV_36 := bM_c bMV fV_36 rfl
                                    refine F_incg d_X11_finds_342 rfl (f := fun x_37 => [(0, vr 99), (1, vi k), (2, vi (h : Int)), (3, vi x_37)]) (fun _ => rfl) (fun x_37 ex_37 => ?_)
                                    refine T_go d_X11_finds_345 ?_
                                    -- to 292 293f.307f.332f@292
                                    rw [(zx h (by omega)).1, (zx h (by omega)).2, (zx _ shn).1, (zx _ shn).2, (fd0 h307).1, (fd0 h307).2] at h332
                                    obtain rfl : x_37 = ((w : Int) - 1) := by omega
                                    exact ih292 V_36 (w) ((w : Int)) (by omega) hBV_36 fV_36 (by first | assumption | omega) (by rw [eV_36, eZ, Int.toNat_natCast, uV_uV, show ((w + 1 : Nat) : Int) - 1 = (w : Int) by omega]) (lowI_t (by omega) (decide_eq_true ⟨h307, h332⟩))
                          obtain rfl : x_20 = (((nSp b k c) : Int) - 1) := by omega
                          exact L292 _ Y (nSp b k c) (-1) (Nat.lt_succ_self _) hBY fY (by first | assumption | omega) (uV_same (by rw [hL.2.2.2.1 h (by omega), if_neg (Nat.lt_irrefl _), if_neg (fun w => (isSp_iff.mp w).2 hs.2)])).symm (Or.inl ⟨rfl, fun i a d => absurd d (Nat.not_lt.mpr a)⟩)
                        · skip
                          refine T_go d_X11_finds_282 ?_
                          refine F_incg d_X11_finds_395 rfl (f := fun x_38 => [(0, vr 99), (1, vi k), (2, vi x_38)]) (fun _ => rfl) (fun x_38 ex_38 => ?_)
                          refine T_go d_X11_finds_398 ?_
                          -- to 236 241f.250f.259f.279f@236
                          rw [hx1, hy1] at h279
                          obtain rfl : x_38 = ((h + 1) : Int) := by omega
                          exact ih236 Y (h + 1) (by omega) hBY fY (by first | assumption | omega) (S236_s (by omega) hL (ow_or (fun w => h279 w.2.2)))
              exact L236 _ X (0) (Nat.lt_succ_self _) hBX fX (by first | assumption | omega) (S85_e (by omega) hh hL)
            · skip
              have hdp : 0 ≤ depO b k h ∧ depO b k h ≤ 200 := dep_b ho b.rn
              have hx1 := (hL.2.2.1 h (by omega)).1
              have hy1 := (hL.2.2.1 h (by omega)).2
              have hsn := cntB_le (p := isSp b k c) (n := h)
              have h49 := hL.2.1
              refine T_al d_X11_finds_93 rfl ?_
              refine T_il d_X11_finds_94 rfl ?_
              refine T_il d_X11_finds_95 rfl ?_
              refine C_pv2 d_X11_finds_96 rfl (hdF (by decide)) (hcF _) (R_X11_isThere hBX hF bMX (by omega) ⟨by omega, by omega⟩) ?_
              refine T_pz0 d_X11_finds_99 (fun h99 => ?_) (fun h99 => ?_)
              · skip
                refine F_incg d_X11_finds_228 rfl (f := fun x_39 => [(0, vr 99), (1, vi k), (2, vi x_39)]) (fun _ => rfl) (fun x_39 ex_39 => ?_)
                refine T_go d_X11_finds_231 ?_
                -- to 85 90f.99t@85
                obtain rfl : x_39 = ((h + 1) : Int) := by omega
                exact ih85 X (h + 1) (by omega) hBX fX (by first | assumption | omega) (S85_s hL (fun w => h99 (isSp_iff.mp w).1.1))
              · skip
                refine T_al d_X11_finds_102 rfl ?_
                refine F_gr (b := 128) d_X11_finds_103 rfl hF rfl ?_
                refine T_il d_X11_finds_106 rfl ?_
                refine F_ia d_X11_finds_107 rfl hBX rfl ⟨by omega, by omega⟩ (fun b_40 => ?_)
                try simp only [Int.toNat_natCast]
                try simp only [Int.toNat_natCast] at b_40
                refine T_al d_X11_finds_108 rfl ?_
                refine F_gr (b := 129) d_X11_finds_109 rfl hF rfl ?_
                refine T_il d_X11_finds_112 rfl ?_
                refine F_ia d_X11_finds_113 rfl hBX rfl ⟨by omega, by omega⟩ (fun b_41 => ?_)
                try simp only [Int.toNat_natCast]
                try simp only [Int.toNat_natCast] at b_41
                refine C_ps2 d_X11_finds_114 (hdF (by decide)) (hcF _) (R_X11_isField (by first | assumption | omega | exact ⟨by omega, by omega⟩ | (subst_vars; simp_all [uV]; done) | grind [uV]) (by first | assumption | omega | exact ⟨by omega, by omega⟩ | (subst_vars; simp_all [uV]; done) | grind [uV])) ?_
                refine T_pz0 d_X11_finds_117 (fun h117 => ?_) (fun h117 => ?_)
                · skip
                  refine F_incg d_X11_finds_228 rfl (f := fun x_42 => [(0, vr 99), (1, vi k), (2, vi x_42)]) (fun _ => rfl) (fun x_42 ex_42 => ?_)
                  refine T_go d_X11_finds_231 ?_
                  -- to 85 90f.99f.117t@85
                  rw [hx1, hy1] at h117
                  obtain rfl : x_42 = ((h + 1) : Int) := by omega
                  exact ih85 X (h + 1) (by omega) hBX fX (by first | assumption | omega) (S85_s hL (fun w => h117 (isSp_iff.mp w).1.2))
                · skip
                  refine T_al d_X11_finds_120 rfl ?_
                  refine F_gr (b := 100) d_X11_finds_121 rfl hF rfl ?_
                  refine T_il d_X11_finds_124 rfl ?_
                  refine F_ia d_X11_finds_125 rfl hBX rfl ⟨by omega, by omega⟩ (fun b_43 => ?_)
                  rw [bMX.dg]
                  rw [bMX.dg] at b_43
                  try simp only [Int.toNat_natCast]
                  try simp only [Int.toNat_natCast] at b_43
                  refine T_k d_X11_finds_126 ?_
                  refine T_ine d_X11_finds_127 ⟨by omega, by omega⟩ ⟨by omega, by omega⟩ (fun h127 => ?_) (fun h127 => ?_)
                  · skip
                    refine T_al d_X11_finds_153 rfl ?_
                    refine F_gr (b := 130) d_X11_finds_154 rfl hF rfl ?_
                    refine T_il d_X11_finds_157 rfl ?_
                    refine T_al d_X11_finds_158 rfl ?_
                    refine F_gi d_X11_finds_159 rfl hBX rfl (fun b_44 => ?_)
                    refine F_is d_X11_finds_162 rfl hBX rfl ⟨by omega, by omega⟩ ⟨by omega, by omega⟩ (fun V_45 eV_45 hBV_45 => ?_)
                    have fV_45 := chg_u eV_45 rfl fX
                    have bMV_45 := bM_c bMV fV_45 rfl
                    refine T_al d_X11_finds_163 rfl ?_
                    refine F_gr (b := 131) d_X11_finds_164 rfl hF rfl ?_
                    refine T_al d_X11_finds_167 rfl ?_
                    refine F_gi d_X11_finds_168 rfl hBV_45 rfl (fun b_46 => ?_)
                    have fV_45_99_49 : V_45 99 49 = X 99 49 := by rw [eV_45]; rfl
                    rw [fV_45_99_49]
                    rw [fV_45_99_49] at b_46
                    refine T_il d_X11_finds_171 rfl ?_
                    refine F_is d_X11_finds_172 rfl hBV_45 rfl ⟨by omega, by omega⟩ ⟨by omega, by omega⟩ (fun V_47 eV_47 hBV_47 => ?_)
                    have fV_47 := chg_u eV_47 rfl fV_45
                    have bMV_47 := bM_c bMV fV_47 rfl
                    refine T_al d_X11_finds_173 rfl ?_
                    refine F_gr (b := 132) d_X11_finds_174 rfl hF rfl ?_
                    refine T_al d_X11_finds_177 rfl ?_
                    refine F_gi d_X11_finds_178 rfl hBV_47 rfl (fun b_48 => ?_)
                    have fV_47_99_49 : V_47 99 49 = X 99 49 := by rw [eV_47, eV_45]; rfl
                    rw [fV_47_99_49]
                    rw [fV_47_99_49] at b_48
                    refine T_al d_X11_finds_181 rfl ?_
                    refine F_gr (b := 128) d_X11_finds_182 rfl hF rfl ?_
                    refine T_il d_X11_finds_185 rfl ?_
                    refine F_ia d_X11_finds_186 rfl hBV_47 rfl ⟨by omega, by omega⟩ (fun b_49 => ?_)
                    have faV_47_128 : V_47 128 = X 128 := by rw [eV_47, eV_45]; rfl
                    rw [faV_47_128]
                    rw [faV_47_128] at b_49
                    try simp only [Int.toNat_natCast]
                    try simp only [Int.toNat_natCast] at b_49
                    refine F_is d_X11_finds_187 rfl hBV_47 rfl ⟨by omega, by omega⟩ ⟨by omega, by omega⟩ (fun V_50 eV_50 hBV_50 => ?_)
                    have fV_50 := chg_u eV_50 rfl fV_47
                    have bMV_50 := bM_c bMV fV_50 rfl
                    refine T_al d_X11_finds_188 rfl ?_
                    refine F_gr (b := 133) d_X11_finds_189 rfl hF rfl ?_
                    refine T_al d_X11_finds_192 rfl ?_
                    refine F_gi d_X11_finds_193 rfl hBV_50 rfl (fun b_51 => ?_)
                    have fV_50_99_49 : V_50 99 49 = X 99 49 := by rw [eV_50, eV_47, eV_45]; rfl
                    rw [fV_50_99_49]
                    rw [fV_50_99_49] at b_51
                    refine T_al d_X11_finds_196 rfl ?_
                    refine F_gr (b := 129) d_X11_finds_197 rfl hF rfl ?_
                    refine T_il d_X11_finds_200 rfl ?_
                    refine F_ia d_X11_finds_201 rfl hBV_50 rfl ⟨by omega, by omega⟩ (fun b_52 => ?_)
                    have faV_50_129 : V_50 129 = X 129 := by rw [eV_50, eV_47, eV_45]; rfl
                    rw [faV_50_129]
                    rw [faV_50_129] at b_52
                    try simp only [Int.toNat_natCast]
                    try simp only [Int.toNat_natCast] at b_52
                    refine F_is d_X11_finds_202 rfl hBV_50 rfl ⟨by omega, by omega⟩ ⟨by omega, by omega⟩ (fun V_53 eV_53 hBV_53 => ?_)
                    have fV_53 := chg_u eV_53 rfl fV_50
                    have bMV_53 := bM_c bMV fV_53 rfl
                    refine T_al d_X11_finds_203 rfl ?_
                    refine F_gr (b := 134) d_X11_finds_204 rfl hF rfl ?_
                    refine T_al d_X11_finds_207 rfl ?_
                    refine F_gi d_X11_finds_208 rfl hBV_53 rfl (fun b_54 => ?_)
                    have fV_53_99_49 : V_53 99 49 = X 99 49 := by rw [eV_53, eV_50, eV_47, eV_45]; rfl
                    rw [fV_53_99_49]
                    rw [fV_53_99_49] at b_54
                    refine T_al d_X11_finds_211 rfl ?_
                    refine T_il d_X11_finds_212 rfl ?_
                    refine T_il d_X11_finds_213 rfl ?_
                    refine C_pv2 d_X11_finds_214 rfl (hdF (by decide)) (hcF _) (R_X11_depthOf (by first | assumption | omega | exact ⟨by omega, by omega⟩ | (subst_vars; simp_all [uV]; done) | grind [uV]) (by first | assumption | omega | exact ⟨by omega, by omega⟩ | (subst_vars; simp_all [uV]; done) | grind [uV]) (by first | assumption | omega | exact ⟨by omega, by omega⟩ | (subst_vars; simp_all [uV]; done) | grind [uV]) (by first | assumption | omega | exact ⟨by omega, by omega⟩ | (subst_vars; simp_all [uV]; done) | grind [uV]) (by first | assumption | omega | exact ⟨by omega, by omega⟩ | (subst_vars; simp_all [uV]; done) | grind [uV])) ?_
                    refine F_is d_X11_finds_217 rfl hBV_53 rfl ⟨by omega, by omega⟩ ⟨by omega, by omega⟩ (fun V_55 eV_55 hBV_55 => ?_)
                    have fV_55 := chg_u eV_55 rfl fV_53
                    have bMV_55 := bM_c bMV fV_55 rfl
                    refine T_al d_X11_finds_218 rfl ?_
                    refine T_dup d_X11_finds_219 rfl ?_
                    refine F_gi d_X11_finds_220 rfl hBV_55 rfl (fun b_56 => ?_)
                    have fV_55_99_49 : V_55 99 49 = X 99 49 := by rw [eV_55, eV_53, eV_50, eV_47, eV_45]; rfl
                    rw [fV_55_99_49]
                    rw [fV_55_99_49] at b_56
                    refine T_k d_X11_finds_223 ?_
                    refine T_iadd d_X11_finds_224 ?_
                    refine F_pi d_X11_finds_225 rfl hBV_55 rfl ⟨by omega, by omega⟩ (fun V_57 eV_57 hBV_57 => ?_)
                    have fV_57 := chg_u eV_57 rfl fV_55
                    have bMV_57 := bM_c bMV fV_57 rfl
                    refine F_incg d_X11_finds_228 rfl (f := fun x_58 => [(0, vr 99), (1, vi k), (2, vi x_58)]) (fun _ => rfl) (fun x_58 ex_58 => ?_)
                    refine T_go d_X11_finds_231 ?_
                    -- to 85 90f.99f.117f.127t@85
                    rw [hx1, hy1] at h117
                    obtain rfl : x_58 = ((h + 1) : Int) := by omega
                    exact ih85 V_57 (h + 1) (by omega) hBV_57 fV_57 (by first | assumption | omega) (S85_a (by omega) hL (isSp_iff.mpr ⟨⟨h99, h117⟩, (fun w => h127 w.1)⟩) (by rw [eV_57, eV_55, eV_53, eV_50, eV_47, eV_45]; rfl) rfl (by rw [eV_57, eV_55, eV_53, eV_50, eV_47, eV_45]; rfl) (by rw [eV_57, eV_55, eV_53, eV_50, eV_47, eV_45]; rfl) (by rw [eV_57, eV_55, eV_53, eV_50, eV_47, eV_45]; rfl) (by rw [eV_57, eV_55, eV_53, eV_50, eV_47, eV_45]; rfl) (by rw [eV_57, eV_55, eV_53, eV_50, eV_47, eV_45]; rfl) (by rw [eV_57, eV_55, eV_53, eV_50, eV_47, eV_45]; rfl) (by rw [eV_57, eV_55, eV_53, eV_50, eV_47, eV_45]; rfl))
                  · skip
                    refine T_al d_X11_finds_130 rfl ?_
                    refine T_al d_X11_finds_131 rfl ?_
                    refine F_gr (b := 128) d_X11_finds_132 rfl hF rfl ?_
                    refine T_il d_X11_finds_135 rfl ?_
                    refine F_ia d_X11_finds_136 rfl hBX rfl ⟨by omega, by omega⟩ (fun b_59 => ?_)
                    try simp only [Int.toNat_natCast]
                    try simp only [Int.toNat_natCast] at b_59
                    refine T_al d_X11_finds_137 rfl ?_
                    refine F_gr (b := 129) d_X11_finds_138 rfl hF rfl ?_
                    refine T_il d_X11_finds_141 rfl ?_
                    refine F_ia d_X11_finds_142 rfl hBX rfl ⟨by omega, by omega⟩ (fun b_60 => ?_)
                    try simp only [Int.toNat_natCast]
                    try simp only [Int.toNat_natCast] at b_60
                    refine T_il d_X11_finds_143 rfl ?_
                    refine C_pv3 d_X11_finds_144 rfl (hdF (by decide)) (hcF _) (R_X11_strikesOne hBX hF bMX (by omega) (by omega) ⟨by omega, by omega⟩ (fun g hg hd => by have w := (hL.2.2.1 g hg); rw [(fd0 hd).1, (fd0 hd).2] at w; exact w)) ?_
                    refine T_pz0 d_X11_finds_147 (fun h147 => ?_) (fun h147 => ?_)
                    · skip
                      refine T_al d_X11_finds_153 rfl ?_
                      refine F_gr (b := 130) d_X11_finds_154 rfl hF rfl ?_
                      refine T_il d_X11_finds_157 rfl ?_
                      refine T_al d_X11_finds_158 rfl ?_
                      refine F_gi d_X11_finds_159 rfl hBX rfl (fun b_61 => ?_)
                      refine F_is d_X11_finds_162 rfl hBX rfl ⟨by omega, by omega⟩ ⟨by omega, by omega⟩ (fun V_62 eV_62 hBV_62 => ?_)
                      have fV_62 := chg_u eV_62 rfl fX
                      have bMV_62 := bM_c bMV fV_62 rfl
                      refine T_al d_X11_finds_163 rfl ?_
                      refine F_gr (b := 131) d_X11_finds_164 rfl hF rfl ?_
                      refine T_al d_X11_finds_167 rfl ?_
                      refine F_gi d_X11_finds_168 rfl hBV_62 rfl (fun b_63 => ?_)
                      have fV_62_99_49 : V_62 99 49 = X 99 49 := by rw [eV_62]; rfl
                      rw [fV_62_99_49]
                      rw [fV_62_99_49] at b_63
                      refine T_il d_X11_finds_171 rfl ?_
                      refine F_is d_X11_finds_172 rfl hBV_62 rfl ⟨by omega, by omega⟩ ⟨by omega, by omega⟩ (fun V_64 eV_64 hBV_64 => ?_)
                      have fV_64 := chg_u eV_64 rfl fV_62
                      have bMV_64 := bM_c bMV fV_64 rfl
                      refine T_al d_X11_finds_173 rfl ?_
                      refine F_gr (b := 132) d_X11_finds_174 rfl hF rfl ?_
                      refine T_al d_X11_finds_177 rfl ?_
                      refine F_gi d_X11_finds_178 rfl hBV_64 rfl (fun b_65 => ?_)
                      have fV_64_99_49 : V_64 99 49 = X 99 49 := by rw [eV_64, eV_62]; rfl
                      rw [fV_64_99_49]
                      rw [fV_64_99_49] at b_65
                      refine T_al d_X11_finds_181 rfl ?_
                      refine F_gr (b := 128) d_X11_finds_182 rfl hF rfl ?_
                      refine T_il d_X11_finds_185 rfl ?_
                      refine F_ia d_X11_finds_186 rfl hBV_64 rfl ⟨by omega, by omega⟩ (fun b_66 => ?_)
                      have faV_64_128 : V_64 128 = X 128 := by rw [eV_64, eV_62]; rfl
                      rw [faV_64_128]
                      rw [faV_64_128] at b_66
                      try simp only [Int.toNat_natCast]
                      try simp only [Int.toNat_natCast] at b_66
                      refine F_is d_X11_finds_187 rfl hBV_64 rfl ⟨by omega, by omega⟩ ⟨by omega, by omega⟩ (fun V_67 eV_67 hBV_67 => ?_)
                      have fV_67 := chg_u eV_67 rfl fV_64
                      have bMV_67 := bM_c bMV fV_67 rfl
                      refine T_al d_X11_finds_188 rfl ?_
                      refine F_gr (b := 133) d_X11_finds_189 rfl hF rfl ?_
                      refine T_al d_X11_finds_192 rfl ?_
                      refine F_gi d_X11_finds_193 rfl hBV_67 rfl (fun b_68 => ?_)
                      have fV_67_99_49 : V_67 99 49 = X 99 49 := by rw [eV_67, eV_64, eV_62]; rfl
                      rw [fV_67_99_49]
                      rw [fV_67_99_49] at b_68
                      refine T_al d_X11_finds_196 rfl ?_
                      refine F_gr (b := 129) d_X11_finds_197 rfl hF rfl ?_
                      refine T_il d_X11_finds_200 rfl ?_
                      refine F_ia d_X11_finds_201 rfl hBV_67 rfl ⟨by omega, by omega⟩ (fun b_69 => ?_)
                      have faV_67_129 : V_67 129 = X 129 := by rw [eV_67, eV_64, eV_62]; rfl
                      rw [faV_67_129]
                      rw [faV_67_129] at b_69
                      try simp only [Int.toNat_natCast]
                      try simp only [Int.toNat_natCast] at b_69
                      refine F_is d_X11_finds_202 rfl hBV_67 rfl ⟨by omega, by omega⟩ ⟨by omega, by omega⟩ (fun V_70 eV_70 hBV_70 => ?_)
                      have fV_70 := chg_u eV_70 rfl fV_67
                      have bMV_70 := bM_c bMV fV_70 rfl
                      refine T_al d_X11_finds_203 rfl ?_
                      refine F_gr (b := 134) d_X11_finds_204 rfl hF rfl ?_
                      refine T_al d_X11_finds_207 rfl ?_
                      refine F_gi d_X11_finds_208 rfl hBV_70 rfl (fun b_71 => ?_)
                      have fV_70_99_49 : V_70 99 49 = X 99 49 := by rw [eV_70, eV_67, eV_64, eV_62]; rfl
                      rw [fV_70_99_49]
                      rw [fV_70_99_49] at b_71
                      refine T_al d_X11_finds_211 rfl ?_
                      refine T_il d_X11_finds_212 rfl ?_
                      refine T_il d_X11_finds_213 rfl ?_
                      refine C_pv2 d_X11_finds_214 rfl (hdF (by decide)) (hcF _) (R_X11_depthOf (by first | assumption | omega | exact ⟨by omega, by omega⟩ | (subst_vars; simp_all [uV]; done) | grind [uV]) (by first | assumption | omega | exact ⟨by omega, by omega⟩ | (subst_vars; simp_all [uV]; done) | grind [uV]) (by first | assumption | omega | exact ⟨by omega, by omega⟩ | (subst_vars; simp_all [uV]; done) | grind [uV]) (by first | assumption | omega | exact ⟨by omega, by omega⟩ | (subst_vars; simp_all [uV]; done) | grind [uV]) (by first | assumption | omega | exact ⟨by omega, by omega⟩ | (subst_vars; simp_all [uV]; done) | grind [uV])) ?_
                      refine F_is d_X11_finds_217 rfl hBV_70 rfl ⟨by omega, by omega⟩ ⟨by omega, by omega⟩ (fun V_72 eV_72 hBV_72 => ?_)
                      have fV_72 := chg_u eV_72 rfl fV_70
                      have bMV_72 := bM_c bMV fV_72 rfl
                      refine T_al d_X11_finds_218 rfl ?_
                      refine T_dup d_X11_finds_219 rfl ?_
                      refine F_gi d_X11_finds_220 rfl hBV_72 rfl (fun b_73 => ?_)
                      have fV_72_99_49 : V_72 99 49 = X 99 49 := by rw [eV_72, eV_70, eV_67, eV_64, eV_62]; rfl
                      rw [fV_72_99_49]
                      rw [fV_72_99_49] at b_73
                      refine T_k d_X11_finds_223 ?_
                      refine T_iadd d_X11_finds_224 ?_
                      refine F_pi d_X11_finds_225 rfl hBV_72 rfl ⟨by omega, by omega⟩ (fun V_74 eV_74 hBV_74 => ?_)
                      have fV_74 := chg_u eV_74 rfl fV_72
                      have bMV_74 := bM_c bMV fV_74 rfl
                      refine F_incg d_X11_finds_228 rfl (f := fun x_75 => [(0, vr 99), (1, vi k), (2, vi x_75)]) (fun _ => rfl) (fun x_75 ex_75 => ?_)
                      refine T_go d_X11_finds_231 ?_
                      -- to 85 90f.99f.117f.127f.147t@85
                      rw [hx1, hy1] at h117 h147
                      obtain rfl : x_75 = ((h + 1) : Int) := by omega
                      exact ih85 V_74 (h + 1) (by omega) hBV_74 fV_74 (by first | assumption | omega) (S85_a (by omega) hL (isSp_iff.mpr ⟨⟨h99, h117⟩, (fun w => h147 w.2)⟩) (by rw [eV_74, eV_72, eV_70, eV_67, eV_64, eV_62]; rfl) rfl (by rw [eV_74, eV_72, eV_70, eV_67, eV_64, eV_62]; rfl) (by rw [eV_74, eV_72, eV_70, eV_67, eV_64, eV_62]; rfl) (by rw [eV_74, eV_72, eV_70, eV_67, eV_64, eV_62]; rfl) (by rw [eV_74, eV_72, eV_70, eV_67, eV_64, eV_62]; rfl) (by rw [eV_74, eV_72, eV_70, eV_67, eV_64, eV_62]; rfl) (by rw [eV_74, eV_72, eV_70, eV_67, eV_64, eV_62]; rfl) (by rw [eV_74, eV_72, eV_70, eV_67, eV_64, eV_62]; rfl))
                    · skip
                      refine T_go d_X11_finds_150 ?_
                      refine F_incg d_X11_finds_228 rfl (f := fun x_76 => [(0, vr 99), (1, vi k), (2, vi x_76)]) (fun _ => rfl) (fun x_76 ex_76 => ?_)
                      refine T_go d_X11_finds_231 ?_
                      -- to 85 90f.99f.117f.127f.147f@85
                      rw [hx1, hy1] at h147
                      obtain rfl : x_76 = ((h + 1) : Int) := by omega
                      exact ih85 X (h + 1) (by omega) hBX fX (by first | assumption | omega) (S85_s hL (fun w => (isSp_iff.mp w).2 ⟨h127, h147⟩))
        exact L85 _ W (0) (Nat.lt_succ_self _) hBW fW (by first | assumption | omega) (S12_e (by omega) hL)
      · skip
        have htx := tX_b (h := h) (t := W 99 45) ho
        have hty := tY_b (h := h) (t := W 99 45) ho
        refine T_al d_X11_finds_20 rfl ?_
        refine F_gr (b := 130) d_X11_finds_21 rfl hF rfl ?_
        refine T_il d_X11_finds_24 rfl ?_
        refine T_k d_X11_finds_25 ?_
        refine F_is d_X11_finds_26 rfl hBW rfl ⟨by omega, by omega⟩ ⟨by omega, by omega⟩ (fun V_77 eV_77 hBV_77 => ?_)
        have fV_77 := chg_u eV_77 rfl fW
        have bMV_77 := bM_c bMV fV_77 rfl
        refine T_al d_X11_finds_27 rfl ?_
        refine F_gr (b := 100) d_X11_finds_28 rfl hF rfl ?_
        refine T_il d_X11_finds_31 rfl ?_
        refine F_ia d_X11_finds_32 rfl hBV_77 rfl ⟨by omega, by omega⟩ (fun b_78 => ?_)
        rw [bMV_77.dg]
        rw [bMV_77.dg] at b_78
        try simp only [Int.toNat_natCast]
        try simp only [Int.toNat_natCast] at b_78
        refine T_k d_X11_finds_33 ?_
        refine T_ine d_X11_finds_34 ⟨by omega, by omega⟩ ⟨by omega, by omega⟩ (fun h34 => ?_) (fun h34 => ?_)
        · skip
          refine F_incg d_X11_finds_77 rfl (f := fun x_79 => [(0, vr 99), (1, vi k), (2, vi x_79)]) (fun _ => rfl) (fun x_79 ex_79 => ?_)
          refine T_go d_X11_finds_80 ?_
          -- to 12 17f.34t@12
          obtain rfl : x_79 = ((h + 1) : Int) := by omega
          exact ih12 V_77 (h + 1) (by omega) hBV_77 fV_77 (by first | assumption | omega) (S12_0 (by omega) hL h34 eV_77)
        · skip
          refine T_al d_X11_finds_37 rfl ?_
          refine F_gr (b := 128) d_X11_finds_38 rfl hF rfl ?_
          refine T_il d_X11_finds_41 rfl ?_
          refine T_al d_X11_finds_42 rfl ?_
          refine T_il d_X11_finds_43 rfl ?_
          refine T_al d_X11_finds_44 rfl ?_
          refine F_gi d_X11_finds_45 rfl hBV_77 rfl (fun b_80 => ?_)
          have fV_77_99_45 : V_77 99 45 = W 99 45 := by rw [eV_77]; rfl
          rw [fV_77_99_45]
          rw [fV_77_99_45] at b_80
          refine C_pv2 d_X11_finds_48 rfl (hdF (by decide)) (hcF _) (R_X11_turnedX hBV_77 hF bMV_77 (by omega) (by omega)) ?_
          refine T_al d_X11_finds_51 rfl ?_
          refine F_gi d_X11_finds_52 rfl hBV_77 rfl (fun b_81 => ?_)
          have fV_77_99_46 : V_77 99 46 = W 99 46 := by rw [eV_77]; rfl
          rw [fV_77_99_46]
          rw [fV_77_99_46] at b_81
          refine T_iadd d_X11_finds_55 ?_
          refine F_is d_X11_finds_56 rfl hBV_77 rfl ⟨by omega, by omega⟩ ⟨by omega, by omega⟩ (fun V_82 eV_82 hBV_82 => ?_)
          have fV_82 := chg_u eV_82 rfl fV_77
          have bMV_82 := bM_c bMV fV_82 rfl
          refine T_al d_X11_finds_57 rfl ?_
          refine F_gr (b := 129) d_X11_finds_58 rfl hF rfl ?_
          refine T_il d_X11_finds_61 rfl ?_
          refine T_al d_X11_finds_62 rfl ?_
          refine T_il d_X11_finds_63 rfl ?_
          refine T_al d_X11_finds_64 rfl ?_
          refine F_gi d_X11_finds_65 rfl hBV_82 rfl (fun b_83 => ?_)
          have fV_82_99_45 : V_82 99 45 = W 99 45 := by rw [eV_82, eV_77]; rfl
          rw [fV_82_99_45]
          rw [fV_82_99_45] at b_83
          refine C_pv2 d_X11_finds_68 rfl (hdF (by decide)) (hcF _) (R_X11_turnedY hBV_82 hF bMV_82 (by omega) (by omega)) ?_
          refine T_al d_X11_finds_71 rfl ?_
          refine F_gi d_X11_finds_72 rfl hBV_82 rfl (fun b_84 => ?_)
          have fV_82_99_47 : V_82 99 47 = W 99 47 := by rw [eV_82, eV_77]; rfl
          rw [fV_82_99_47]
          rw [fV_82_99_47] at b_84
          refine T_iadd d_X11_finds_75 ?_
          refine F_is d_X11_finds_76 rfl hBV_82 rfl ⟨by omega, by omega⟩ ⟨by omega, by omega⟩ (fun V_85 eV_85 hBV_85 => ?_)
          have fV_85 := chg_u eV_85 rfl fV_82
          have bMV_85 := bM_c bMV fV_85 rfl
          refine F_incg d_X11_finds_77 rfl (f := fun x_86 => [(0, vr 99), (1, vi k), (2, vi x_86)]) (fun _ => rfl) (fun x_86 ex_86 => ?_)
          refine T_go d_X11_finds_80 ?_
          -- to 12 17f.34f@12
          obtain rfl : x_86 = ((h + 1) : Int) := by omega
          exact ih12 V_85 (h + 1) (by omega) hBV_85 fV_85 (by first | assumption | omega) (S12_1 (by omega) hL h34 (by rw [eV_85, eV_82, eV_77]; simp only [Int.toNat_natCast]))
  exact L12 _ V_4 (0) (Nat.lt_succ_self _) hBV_4 fV_4 (by first | assumption | omega) (S12_i (by rw [eV_4]; exact hfr) (by rw [eV_4]; rfl) (by rw [eV_4]; exact hX0))
