set_option maxHeartbeats 1000000 in
set_option maxRecDepth 100000 in
theorem R_X11_goes {G : GG} {V : VV} {R : RR} {k : Int} {zz : Int} {b : Bk} {S : Sp} {Ks : Nat → Kd} {kd N : Nat} {l : Nat → Nat → Int} {kz : Bool} (hB : Bd V) (hF : FinR R) (bMV : bM b V) (sMV : sM S V) (so : sO S) (hkd : kd < 5) (kMV : kM (Ks kd) kd V) (ko : kO (Ks kd)) (hk : 0 ≤ k ∧ k ≤ 400) (hz : zz = bi kz) (hls : kz = true → lsM b k S Ks N l V) : Runs G M_X11_goes 6 162 162 [vr 99, vi (kd:Int), vi k, vi zz] V R (PQ [(135, 146), (148, 148)] [(99, 57, 57), (99, 72, 77)] V R (fun o X => o = some (vi (goP b k S Ks kd kz (false, 0, N, l) S.m).2.1) ∧ (-1000 ≤ (goP b k S Ks kd kz (false, 0, N, l) S.m).2.1 ∧ (goP b k S Ks kd kz (false, 0, N, l) S.m).2.1 ≤ 10000) ∧ (kz = true → lsM b k S Ks (goP b k S Ks kd kz (false, 0, N, l) S.m).2.2.1 (goP b k S Ks kd kz (false, 0, N, l) S.m).2.2.2 X))) := by
  refine Runs.of pn_X11 (Nat.le_of_ble_eq_true rfl) rfl ?_
  show TT G M_X11_goes (rmd 6 162 162) 162 (Zm G 162 162 (PQ [(135, 146), (148, 148)] [(99, 57, 57), (99, 72, 77)] V R (fun o X => o = some (vi (goP b k S Ks kd kz (false, 0, N, l) S.m).2.1) ∧ (-1000 ≤ (goP b k S Ks kd kz (false, 0, N, l) S.m).2.1 ∧ (goP b k S Ks kd kz (false, 0, N, l) S.m).2.1 ≤ 10000) ∧ (kz = true → lsM b k S Ks (goP b k S Ks kd kz (false, 0, N, l) S.m).2.2.1 (goP b k S Ks kd kz (false, 0, N, l) S.m).2.2.2 X)))) 162 0 [(0, vr 99), (1, vi (kd:Int)), (2, vi k), (3, vi zz)] [] V R
  have fV : chg [(135, 146), (148, 148)] [(99, 57, 57), (99, 72, 77)] V V := chg_r
  have hm4 := so.1
  have hz1 := bi_01 kz
  have h49 := sMV.1
  refine T_k d_X11_goes_0 ?_
  refine T_is d_X11_goes_1 (ls' := [(0, vr 99), (1, vi (kd:Int)), (2, vi k), (3, vi zz), (4, vi 0)]) rfl ?_
  refine T_k d_X11_goes_3 ?_
  refine T_is d_X11_goes_4 (ls' := [(0, vr 99), (1, vi (kd:Int)), (2, vi k), (3, vi zz), (4, vi 0), (5, vi 0)]) rfl ?_
  refine T_k d_X11_goes_6 ?_
  refine T_is d_X11_goes_7 (ls' := [(0, vr 99), (1, vi (kd:Int)), (2, vi k), (3, vi zz), (4, vi 0), (5, vi 0), (6, vi 0)]) rfl ?_
  -- to 9 @9
  have L9 : ∀ (fu : Nat) (X : VV) (x y : Int) (p : Nat), S.m - p < fu → (Bd X) → (chg [(135, 146), (148, 148)] [(99, 57, 57), (99, 72, 77)] V X) → (p ≤ S.m) → (gsM b k S Ks kz (goP b k S Ks kd kz (false, 0, N, l) p) X x y) → TT G M_X11_goes (rmd 6 162 162) 162 (Zm G 162 162 (PQ [(135, 146), (148, 148)] [(99, 57, 57), (99, 72, 77)] V R (fun o X => o = some (vi (goP b k S Ks kd kz (false, 0, N, l) S.m).2.1) ∧ (-1000 ≤ (goP b k S Ks kd kz (false, 0, N, l) S.m).2.1 ∧ (goP b k S Ks kd kz (false, 0, N, l) S.m).2.1 ≤ 10000) ∧ (kz = true → lsM b k S Ks (goP b k S Ks kd kz (false, 0, N, l) S.m).2.2.1 (goP b k S Ks kd kz (false, 0, N, l) S.m).2.2.2 X)))) 162 9 [(0, vr 99), (1, vi (kd:Int)), (2, vi k), (3, vi zz), (4, vi x), (5, vi y), (6, vi (p : Int))] [] X R := by
    intro fu
    induction fu with
    | zero => intro X x y p hm; exact absurd hm (Nat.not_lt_zero _)
    | succ fu ih9 =>
      intro X x y p hm9 hBX fX hp gs
      have bMX := bM_c bMV fX rfl
      have sMX := sM_c sMV fX rfl
      have kMX := kM_c kMV fX rfl
      have x49 := sMX.1
      refine T_il d_X11_goes_9 rfl ?_
      refine T_al d_X11_goes_11 rfl ?_
      refine F_gi d_X11_goes_12 rfl hBX rfl (fun b_1 => ?_)
      refine T_ige d_X11_goes_15 ⟨by omega, by omega⟩ ⟨by omega, by omega⟩ (fun h15 => ?_) (fun h15 => ?_)
      · skip
        refine T_il d_X11_goes_146 rfl ?_
        -- leaf 15t@148
        refine T_iret d_X11_goes_148 rfl ?_
        have ep : p = S.m := by omega
        rw [ep] at gs
        exact ⟨rfl, hBX, fX, by rw [gs.1], by rw [← gs.1]; exact gs.2.2.1, gs.2.2.2⟩
      · skip
        refine T_k d_X11_goes_18 ?_
        refine T_is d_X11_goes_19 (ls' := [(0, vr 99), (1, vi (kd:Int)), (2, vi k), (3, vi zz), (4, vi x), (5, vi y), (6, vi (p : Int)), (7, vi 0)]) rfl ?_
        -- to 21 15f@21
        have L21 : ∀ (fu : Nat) (Y : VV) (x y : Int) (q : Nat), S.m - q < fu → (Bd Y) → (chg [(135, 146), (148, 148)] [(99, 57, 57), (99, 72, 77)] V Y) → (q ≤ S.m) → (gsM b k S Ks kz (goQ b k S Ks kd kz (goP b k S Ks kd kz (false, 0, N, l) p) p q) Y x y) → TT G M_X11_goes (rmd 6 162 162) 162 (Zm G 162 162 (PQ [(135, 146), (148, 148)] [(99, 57, 57), (99, 72, 77)] V R (fun o X => o = some (vi (goP b k S Ks kd kz (false, 0, N, l) S.m).2.1) ∧ (-1000 ≤ (goP b k S Ks kd kz (false, 0, N, l) S.m).2.1 ∧ (goP b k S Ks kd kz (false, 0, N, l) S.m).2.1 ≤ 10000) ∧ (kz = true → lsM b k S Ks (goP b k S Ks kd kz (false, 0, N, l) S.m).2.2.1 (goP b k S Ks kd kz (false, 0, N, l) S.m).2.2.2 X)))) 162 21 [(0, vr 99), (1, vi (kd:Int)), (2, vi k), (3, vi zz), (4, vi x), (5, vi y), (6, vi (p : Int)), (7, vi (q : Int))] [] Y R := by
          intro fu
          induction fu with
          | zero => intro Y x y q hm; exact absurd hm (Nat.not_lt_zero _)
          | succ fu ih21 =>
            intro Y x y q hm21 hBY fY hq gs
            have bMY := bM_c bMV fY rfl
            have sMY := sM_c sMV fY rfl
            have kMY := kM_c kMV fY rfl
            have y49 := sMY.1
            refine T_il d_X11_goes_21 rfl ?_
            refine T_al d_X11_goes_23 rfl ?_
            refine F_gi d_X11_goes_24 rfl hBY rfl (fun b_2 => ?_)
            refine T_ige d_X11_goes_27 ⟨by omega, by omega⟩ ⟨by omega, by omega⟩ (fun h27 => ?_) (fun h27 => ?_)
            · skip
              refine F_incg d_X11_goes_140 rfl (f := fun x_3 => [(0, vr 99), (1, vi (kd:Int)), (2, vi k), (3, vi zz), (4, vi x), (5, vi y), (6, vi x_3), (7, vi (q : Int))]) (fun _ => rfl) (fun x_3 ex_3 => ?_)
              refine T_go d_X11_goes_143 ?_
              -- to 9 27t@9
              refine T_subp (ks := [0, 1, 2, 3, 4, 5, 6]) (ls' := [(0, vr 99), (1, vi (kd:Int)), (2, vi k), (3, vi zz), (4, vi x), (5, vi y), (6, vi x_3)]) rfl ?_
              obtain rfl : x_3 = ((p + 1) : Int) := by omega
              exact ih9 Y x y (p + 1) (by omega) hBY fY (by first | assumption | omega) (by have eq : q = S.m := (by omega); rw [eq] at gs; exact gs)
            · skip
              refine T_k d_X11_goes_30 ?_
              refine T_is d_X11_goes_31 (ls' := [(0, vr 99), (1, vi (kd:Int)), (2, vi k), (3, vi zz), (4, vi x), (5, vi y), (6, vi (p : Int)), (7, vi (q : Int)), (8, vi 0)]) rfl ?_
              -- to 33 27f@33
              have L33 : ∀ (fu : Nat) (Z : VV) (x y : Int) (r : Nat), S.m - r < fu → (Bd Z) → (chg [(135, 146), (148, 148)] [(99, 57, 57), (99, 72, 77)] V Z) → (r ≤ S.m) → (gsM b k S Ks kz (goR b k S Ks kd kz (goQ b k S Ks kd kz (goP b k S Ks kd kz (false, 0, N, l) p) p q) p q r) Z x y) → TT G M_X11_goes (rmd 6 162 162) 162 (Zm G 162 162 (PQ [(135, 146), (148, 148)] [(99, 57, 57), (99, 72, 77)] V R (fun o X => o = some (vi (goP b k S Ks kd kz (false, 0, N, l) S.m).2.1) ∧ (-1000 ≤ (goP b k S Ks kd kz (false, 0, N, l) S.m).2.1 ∧ (goP b k S Ks kd kz (false, 0, N, l) S.m).2.1 ≤ 10000) ∧ (kz = true → lsM b k S Ks (goP b k S Ks kd kz (false, 0, N, l) S.m).2.2.1 (goP b k S Ks kd kz (false, 0, N, l) S.m).2.2.2 X)))) 162 33 [(0, vr 99), (1, vi (kd:Int)), (2, vi k), (3, vi zz), (4, vi x), (5, vi y), (6, vi (p : Int)), (7, vi (q : Int)), (8, vi (r : Int))] [] Z R := by
                intro fu
                induction fu with
                | zero => intro Z x y r hm; exact absurd hm (Nat.not_lt_zero _)
                | succ fu ih33 =>
                  intro Z x y r hm33 hBZ fZ hr gs
                  have bMZ := bM_c bMV fZ rfl
                  have sMZ := sM_c sMV fZ rfl
                  have kMZ := kM_c kMV fZ rfl
                  have z49 := sMZ.1
                  have gy := gs_y gs
                  have gb := gs.2.2.1
                  refine T_il d_X11_goes_33 rfl ?_
                  refine T_al d_X11_goes_35 rfl ?_
                  refine F_gi d_X11_goes_36 rfl hBZ rfl (fun b_4 => ?_)
                  refine T_ige d_X11_goes_39 ⟨by omega, by omega⟩ ⟨by omega, by omega⟩ (fun h39 => ?_) (fun h39 => ?_)
                  · skip
                    refine F_incg d_X11_goes_134 rfl (f := fun x_5 => [(0, vr 99), (1, vi (kd:Int)), (2, vi k), (3, vi zz), (4, vi x), (5, vi y), (6, vi (p : Int)), (7, vi x_5), (8, vi (r : Int))]) (fun _ => rfl) (fun x_5 ex_5 => ?_)
                    refine T_go d_X11_goes_137 ?_
                    -- to 21 39t@21
                    refine T_subp (ks := [0, 1, 2, 3, 4, 5, 6, 7]) (ls' := [(0, vr 99), (1, vi (kd:Int)), (2, vi k), (3, vi zz), (4, vi x), (5, vi y), (6, vi (p : Int)), (7, vi x_5)]) rfl ?_
                    obtain rfl : x_5 = ((q + 1) : Int) := by omega
                    exact ih21 Z x y (q + 1) (by omega) hBZ fZ (by first | assumption | omega) (by have er : r = S.m := (by omega); rw [er] at gs; exact gs)
                  · skip
                    refine T_il d_X11_goes_42 rfl ?_
                    refine T_il d_X11_goes_44 rfl ?_
                    refine T_ieq d_X11_goes_46 ⟨by omega, by omega⟩ ⟨by omega, by omega⟩ (fun h46 => ?_) (fun h46 => ?_)
                    · skip
                      refine F_incg d_X11_goes_128 rfl (f := fun x_6 => [(0, vr 99), (1, vi (kd:Int)), (2, vi k), (3, vi zz), (4, vi x), (5, vi y), (6, vi (p : Int)), (7, vi (q : Int)), (8, vi x_6)]) (fun _ => rfl) (fun x_6 ex_6 => ?_)
                      refine T_go d_X11_goes_131 ?_
                      -- to 33 39f.46t@33
                      obtain rfl : x_6 = ((r + 1) : Int) := by omega
                      exact ih33 Z x y (r + 1) (by omega) hBZ fZ (by first | assumption | omega) (gs_0 gs (by omega))
                    · skip
                      refine T_il d_X11_goes_49 rfl ?_
                      refine T_il d_X11_goes_51 rfl ?_
                      refine T_ieq d_X11_goes_53 ⟨by omega, by omega⟩ ⟨by omega, by omega⟩ (fun h53 => ?_) (fun h53 => ?_)
                      · skip
                        refine F_incg d_X11_goes_128 rfl (f := fun x_7 => [(0, vr 99), (1, vi (kd:Int)), (2, vi k), (3, vi zz), (4, vi x), (5, vi y), (6, vi (p : Int)), (7, vi (q : Int)), (8, vi x_7)]) (fun _ => rfl) (fun x_7 ex_7 => ?_)
                        refine T_go d_X11_goes_131 ?_
                        -- to 33 39f.46f.53t@33
                        obtain rfl : x_7 = ((r + 1) : Int) := by omega
                        exact ih33 Z x y (r + 1) (by omega) hBZ fZ (by first | assumption | omega) (gs_0 gs (by omega))
                      · skip
                        refine T_il d_X11_goes_56 rfl ?_
                        refine T_il d_X11_goes_58 rfl ?_
                        refine T_ine d_X11_goes_60 ⟨by omega, by omega⟩ ⟨by omega, by omega⟩ (fun h60 => ?_) (fun h60 => ?_)
                        · skip
                          refine T_al d_X11_goes_66 rfl ?_
                          refine T_il d_X11_goes_67 rfl ?_
                          refine T_il d_X11_goes_68 rfl ?_
                          refine T_il d_X11_goes_70 rfl ?_
                          refine T_il d_X11_goes_72 rfl ?_
                          refine T_il d_X11_goes_74 rfl ?_
                          refine C_v5 d_X11_goes_75 rfl (hdF (by decide)) (hcF _) (R_X11_framed (K := Ks kd) hBZ hF bMZ sMZ so hkd kMZ ko hk (by omega) (by omega) (by omega)) (fun r_8 V_9 R_10 qV_9 => ?_)
                          obtain ⟨rfl, hBV_9, cV_9, rfl, pV_9⟩ := qV_9
                          have fV_9 := chg_t (A := [(135, 146), (148, 148)]) (F := [(99, 57, 57), (99, 72, 77)]) fZ cV_9 rfl
                          have bMV_9 := bM_c bMV fV_9 rfl
                          have sMV_9 := sM_c sMV fV_9 rfl
                          have kMV_9 := kM_c kMV fV_9 rfl
                          refine F_isg d_X11_goes_78 (f := fun x_11 => [(0, vr 99), (1, vi (kd:Int)), (2, vi k), (3, vi zz), (4, vi x), (5, vi y), (6, vi (p : Int)), (7, vi (q : Int)), (8, vi (r : Int)), (9, vi x_11)]) (fun _ => rfl) (fun x_11 ex_11 => ?_)
                          have en := ex_11
                          subst en
                          have hfs := pV_9
                          have gsW := gs_c gs cV_9 rfl
                          have hn8 := fr_r (b := b) (k := k) (S := S) (p := p) (q := q) (r := r) ko
                          refine T_il d_X11_goes_80 rfl ?_
                          refine T_zne d_X11_goes_82 ⟨by omega, by omega⟩ (fun h82 => ?_) (fun h82 => ?_)
                          · skip
                            have L108 : ∀ (x2 : Int), (x2 = if (goR b k S Ks kd kz (goQ b k S Ks kd kz (goP b k S Ks kd kz (false, 0, N, l) p) p q) p q r).1 = false ∨ (goR b k S Ks kd kz (goQ b k S Ks kd kz (goP b k S Ks kd kz (false, 0, N, l) p) p q) p q r).2.1 < (recO b k S Ks kd p q r) 9 then (recO b k S Ks kd p q r) 9 else (goR b k S Ks kd kz (goQ b k S Ks kd kz (goP b k S Ks kd kz (false, 0, N, l) p) p q) p q r).2.1) → (-1000 ≤ x2 ∧ x2 ≤ 10000) → TT G M_X11_goes (rmd 6 162 162) 162 (Zm G 162 162 (PQ [(135, 146), (148, 148)] [(99, 57, 57), (99, 72, 77)] V R (fun o X => o = some (vi (goP b k S Ks kd kz (false, 0, N, l) S.m).2.1) ∧ (-1000 ≤ (goP b k S Ks kd kz (false, 0, N, l) S.m).2.1 ∧ (goP b k S Ks kd kz (false, 0, N, l) S.m).2.1 ≤ 10000) ∧ (kz = true → lsM b k S Ks (goP b k S Ks kd kz (false, 0, N, l) S.m).2.2.1 (goP b k S Ks kd kz (false, 0, N, l) S.m).2.2.2 X)))) 162 108 [(0, vr 99), (1, vi (kd:Int)), (2, vi k), (3, vi zz), (4, vi x2), (6, vi (p : Int)), (7, vi (q : Int)), (8, vi (r : Int)), (9, vi ((frO b k S (Ks kd) p q r) : Int))] [] V_9 R := by
                              intro x2 hx2 hx3
                              have hn0 : (frO b k S (Ks kd) p q r) ≠ 0 := by omega
                              have h9 := rec_9 hn0 hfs
                              have hpq : ¬ (p = q ∨ p = r ∨ q = r ∨ (frO b k S (Ks kd) p q r) = 0) := by omega
                              have hfb := fr_b hm4 ko hn8 hn0 hfs
                              refine T_k d_X11_goes_108 ?_
                              refine T_is d_X11_goes_109 (ls' := [(0, vr 99), (1, vi (kd:Int)), (2, vi k), (3, vi zz), (4, vi x2), (5, vi 1), (6, vi (p : Int)), (7, vi (q : Int)), (8, vi (r : Int)), (9, vi ((frO b k S (Ks kd) p q r) : Int))]) rfl ?_
                              refine T_il d_X11_goes_111 rfl ?_
                              refine T_zeq d_X11_goes_112 ⟨by omega, by omega⟩ (fun h112 => ?_) (fun h112 => ?_)
                              · skip
                                refine F_incg d_X11_goes_128 rfl (f := fun x_12 => [(0, vr 99), (1, vi (kd:Int)), (2, vi k), (3, vi zz), (4, vi x2), (5, vi 1), (6, vi (p : Int)), (7, vi (q : Int)), (8, vi x_12), (9, vi ((frO b k S (Ks kd) p q r) : Int))]) (fun _ => rfl) (fun x_12 ex_12 => ?_)
                                refine T_go d_X11_goes_131 ?_
                                -- to 33 112t@33
                                refine T_subp (ks := [0, 1, 2, 3, 4, 5, 6, 7, 8]) (ls' := [(0, vr 99), (1, vi (kd:Int)), (2, vi k), (3, vi zz), (4, vi x2), (5, vi 1), (6, vi (p : Int)), (7, vi (q : Int)), (8, vi x_12)]) rfl ?_
                                obtain rfl : x_12 = ((r + 1) : Int) := by omega
                                exact ih33 V_9 x2 1 (r + 1) (by omega) hBV_9 fV_9 (by first | assumption | omega) (gs_1 hpq hx2 hx3 (fun w => by rw [w] at hz; rw [hz] at h112; cases h112))
                              · skip
                                have hkz : kz = true := by cases kz with | true => rfl | false => exact absurd hz h112
                                obtain ⟨hN24, l2, h3, h4, h5⟩ := gsW.2.2.2 hkz
                                refine T_al d_X11_goes_115 rfl ?_
                                refine T_il d_X11_goes_116 rfl ?_
                                refine T_il d_X11_goes_117 rfl ?_
                                refine T_il d_X11_goes_119 rfl ?_
                                refine T_il d_X11_goes_121 rfl ?_
                                refine T_il d_X11_goes_123 rfl ?_
                                refine C_v5 d_X11_goes_125 rfl (hdF (by decide)) (hcF _) (R_X11_keeps (N := (goR b k S Ks kd kz (goQ b k S Ks kd kz (goP b k S Ks kd kz (false, 0, N, l) p) p q) p q r).2.2.1) (l := l2) hBV_9 hF h3 hN24 hkd ⟨by omega, by omega, by omega, hn8⟩ hfb) (fun r_13 V_14 R_15 qV_14 => ?_)
                                obtain ⟨rfl, hBV_14, cV_14, rfl, pV_14⟩ := qV_14
                                have fV_14 := chg_t (A := [(135, 146), (148, 148)]) (F := [(99, 57, 57), (99, 72, 77)]) fV_9 cV_14 rfl
                                have bMV_14 := bM_c bMV fV_14 rfl
                                have sMV_14 := sM_c sMV fV_14 rfl
                                have kMV_14 := kM_c kMV fV_14 rfl
                                refine F_incg d_X11_goes_128 rfl (f := fun x_16 => [(0, vr 99), (1, vi (kd:Int)), (2, vi k), (3, vi zz), (4, vi x2), (5, vi 1), (6, vi (p : Int)), (7, vi (q : Int)), (8, vi x_16), (9, vi ((frO b k S (Ks kd) p q r) : Int))]) (fun _ => rfl) (fun x_16 ex_16 => ?_)
                                refine T_go d_X11_goes_131 ?_
                                -- to 33 112f@33
                                refine T_subp (ks := [0, 1, 2, 3, 4, 5, 6, 7, 8]) (ls' := [(0, vr 99), (1, vi (kd:Int)), (2, vi k), (3, vi zz), (4, vi x2), (5, vi 1), (6, vi (p : Int)), (7, vi (q : Int)), (8, vi x_16)]) rfl ?_
                                obtain rfl : x_16 = ((r + 1) : Int) := by omega
                                exact ih33 V_14 x2 1 (r + 1) (by omega) hBV_14 fV_14 (by first | assumption | omega) (gs_1 hpq hx2 hx3 (fun _ => ls_keep (gsW.2.2.2 hkz) hkd (by omega) (by omega) (by omega) hn0 hfs h3 h4 h5 pV_14))
                            have hn0 : (frO b k S (Ks kd) p q r) ≠ 0 := by omega
                            have h9 := rec_9 hn0 hfs
                            have hpq : ¬ (p = q ∨ p = r ∨ q = r ∨ (frO b k S (Ks kd) p q r) = 0) := by omega
                            have hfb := fr_b hm4 ko hn8 hn0 hfs
                            refine T_il d_X11_goes_88 rfl ?_
                            refine T_zeq d_X11_goes_90 ⟨by omega, by omega⟩ (fun h90 => ?_) (fun h90 => ?_)
                            · skip
                              refine T_al d_X11_goes_102 rfl ?_
                              refine F_gi d_X11_goes_103 rfl hBV_9 rfl (fun b_17 => ?_)
                              refine F_isg d_X11_goes_106 (f := fun x_18 => [(0, vr 99), (1, vi (kd:Int)), (2, vi k), (3, vi zz), (4, vi x_18), (5, vi y), (6, vi (p : Int)), (7, vi (q : Int)), (8, vi (r : Int)), (9, vi ((frO b k S (Ks kd) p q r) : Int))]) (fun _ => rfl) (fun x_18 ex_18 => ?_)
                              -- to 108 39f.46f.53f.60t.82t.90t@108
                              refine T_subp (ks := [0, 1, 2, 3, 4, 6, 7, 8, 9]) (ls' := [(0, vr 99), (1, vi (kd:Int)), (2, vi k), (3, vi zz), (4, vi x_18), (6, vi (p : Int)), (7, vi (q : Int)), (8, vi (r : Int)), (9, vi ((frO b k S (Ks kd) p q r) : Int))]) rfl ?_
                              exact L108 x_18 (by rw [if_pos (Or.inl (gy.2.mp h90)), ex_18]; exact h9) (by omega)
                            · skip
                              refine T_al d_X11_goes_93 rfl ?_
                              refine F_gi d_X11_goes_94 rfl hBV_9 rfl (fun b_19 => ?_)
                              refine T_il d_X11_goes_97 rfl ?_
                              refine T_ile d_X11_goes_99 ⟨by omega, by omega⟩ ⟨by omega, by omega⟩ (fun h99 => ?_) (fun h99 => ?_)
                              · skip
                                -- to 108 39f.46f.53f.60t.82t.90f.99t@108
                                refine T_subp (ks := [0, 1, 2, 3, 4, 6, 7, 8, 9]) (ls' := [(0, vr 99), (1, vi (kd:Int)), (2, vi k), (3, vi zz), (4, vi x), (6, vi (p : Int)), (7, vi (q : Int)), (8, vi (r : Int)), (9, vi ((frO b k S (Ks kd) p q r) : Int))]) rfl ?_
                                exact L108 x (by rw [if_neg (fun w => by rcases w with w | w; exact h90 (gy.2.mpr w); rw [← h9, ← gs.1] at w; omega)]; exact gs.1) gb
                              · skip
                                refine T_al d_X11_goes_102 rfl ?_
                                refine F_gi d_X11_goes_103 rfl hBV_9 rfl (fun b_20 => ?_)
                                refine F_isg d_X11_goes_106 (f := fun x_21 => [(0, vr 99), (1, vi (kd:Int)), (2, vi k), (3, vi zz), (4, vi x_21), (5, vi y), (6, vi (p : Int)), (7, vi (q : Int)), (8, vi (r : Int)), (9, vi ((frO b k S (Ks kd) p q r) : Int))]) (fun _ => rfl) (fun x_21 ex_21 => ?_)
                                -- to 108 39f.46f.53f.60t.82t.90f.99f@108
                                refine T_subp (ks := [0, 1, 2, 3, 4, 6, 7, 8, 9]) (ls' := [(0, vr 99), (1, vi (kd:Int)), (2, vi k), (3, vi zz), (4, vi x_21), (6, vi (p : Int)), (7, vi (q : Int)), (8, vi (r : Int)), (9, vi ((frO b k S (Ks kd) p q r) : Int))]) rfl ?_
                                exact L108 x_21 (by rw [if_pos (Or.inr (by rw [← h9, ← gs.1]; omega)), ex_21]; exact h9) (by omega)
                          · skip
                            refine T_go d_X11_goes_85 ?_
                            refine F_incg d_X11_goes_128 rfl (f := fun x_22 => [(0, vr 99), (1, vi (kd:Int)), (2, vi k), (3, vi zz), (4, vi x), (5, vi y), (6, vi (p : Int)), (7, vi (q : Int)), (8, vi x_22), (9, vi ((frO b k S (Ks kd) p q r) : Int))]) (fun _ => rfl) (fun x_22 ex_22 => ?_)
                            refine T_go d_X11_goes_131 ?_
                            -- to 33 39f.46f.53f.60t.82f@33
                            refine T_subp (ks := [0, 1, 2, 3, 4, 5, 6, 7, 8]) (ls' := [(0, vr 99), (1, vi (kd:Int)), (2, vi k), (3, vi zz), (4, vi x), (5, vi y), (6, vi (p : Int)), (7, vi (q : Int)), (8, vi x_22)]) rfl ?_
                            obtain rfl : x_22 = ((r + 1) : Int) := by omega
                            exact ih33 V_9 x y (r + 1) (by omega) hBV_9 fV_9 (by first | assumption | omega) (gs_0 gsW (by omega))
                        · skip
                          refine T_go d_X11_goes_63 ?_
                          refine F_incg d_X11_goes_128 rfl (f := fun x_23 => [(0, vr 99), (1, vi (kd:Int)), (2, vi k), (3, vi zz), (4, vi x), (5, vi y), (6, vi (p : Int)), (7, vi (q : Int)), (8, vi x_23)]) (fun _ => rfl) (fun x_23 ex_23 => ?_)
                          refine T_go d_X11_goes_131 ?_
                          -- to 33 39f.46f.53f.60f@33
                          obtain rfl : x_23 = ((r + 1) : Int) := by omega
                          exact ih33 Z x y (r + 1) (by omega) hBZ fZ (by first | assumption | omega) (gs_0 gs (by omega))
              exact L33 _ Y x y (0) (Nat.lt_succ_self _) hBY fY (by first | assumption | omega) gs
        exact L21 _ X x y (0) (Nat.lt_succ_self _) hBX fX (by first | assumption | omega) gs
  exact L9 _ V 0 0 (0) (Nat.lt_succ_self _) hB fV (by first | assumption | omega) ⟨rfl, rfl, by omega, hls⟩
