set_option maxHeartbeats 1000000 in
set_option maxRecDepth 100000 in
theorem R_X11_lays {G : GG} {V : VV} {R : RR} {k : Int} {b : Bk} {Ks : Nat → Kd} {nk : Nat} (hB : Bd V) (hF : FinR R) (bMV : bM b V) (hob : okB b Ks nk) (him : imB Ks nk V) (hk : 0 ≤ k ∧ k ≤ 400) (hl : V 99 1 = k → ∃ c ch, laidM b Ks nk k c ch V) : Runs G M_X11_lays 40 162 162 [vr 99, vi k] V R (PQ [(128, 160)] [(99, 1, 1), (99, 45, 49), (99, 57, 57), (99, 72, 87), (99, 97, 97)] V R (fun o X => o = none ∧ X 99 1 = k ∧ ∃ c ch, laidM b Ks nk k c ch X)) := by
  refine Runs.of pn_X11 (Nat.le_of_ble_eq_true rfl) rfl ?_
  show TT G M_X11_lays (rmd 40 162 162) 162 (Zm G 162 162 (PQ [(128, 160)] [(99, 1, 1), (99, 45, 49), (99, 57, 57), (99, 72, 87), (99, 97, 97)] V R (fun o X => o = none ∧ X 99 1 = k ∧ ∃ c ch, laidM b Ks nk k c ch X))) 162 0 [(0, vr 99), (1, vi k)] [] V R
  have fV : chg [(128, 160)] [(99, 1, 1), (99, 45, 49), (99, 57, 57), (99, 72, 87), (99, 97, 97)] V V := chg_r
  have ho := hob.1
  have hw := hob.2.1
  have hn5 := hob.2.2.1
  have ko := hob.2.2.2
  obtain ⟨hnk, hKs⟩ := him
  refine T_al d_X11_lays_0 rfl ?_
  refine F_gi d_X11_lays_1 rfl hB rfl (fun b_1 => ?_)
  refine T_il d_X11_lays_4 rfl ?_
  refine T_ine d_X11_lays_5 ⟨by omega, by omega⟩ ⟨by omega, by omega⟩ (fun h5 => ?_) (fun h5 => ?_)
  · skip
    refine T_al d_X11_lays_9 rfl ?_
    refine T_il d_X11_lays_10 rfl ?_
    refine F_pi d_X11_lays_11 rfl hB rfl ⟨by omega, by omega⟩ (fun V_2 eV_2 hBV_2 => ?_)
    have fV_2 := chg_u eV_2 rfl fV
    have bMV_2 := bM_c bMV fV_2 rfl
    have a1 : V_2 99 1 = k := by rw [eV_2]; exact uV_self
    refine T_al d_X11_lays_14 rfl ?_
    refine T_il d_X11_lays_15 rfl ?_
    refine C_v1 d_X11_lays_16 rfl (hdF (by omega)) (hcF _) (R_X11_finds (b := b) (k := k) hBV_2 hF bMV_2 hk) (fun r_3 V_4 R_5 qV_4 => ?_)
    obtain ⟨rfl, hBV_4, cV_4, rfl, pV_4⟩ := qV_4
    have fV_4 := chg_t (A := [(128, 160)]) (F := [(99, 1, 1), (99, 45, 49), (99, 57, 57), (99, 72, 87), (99, 97, 97)]) fV_2 cV_4 rfl
    have bMV_4 := bM_c bMV fV_4 rfl
    obtain ⟨c, ic, sp⟩ := pV_4
    have b1 : V_4 99 1 = k := (cV_4 99 1 rfl rfl).trans a1
    refine T_al d_X11_lays_19 rfl ?_
    refine T_k d_X11_lays_20 ?_
    refine F_pi d_X11_lays_21 rfl hBV_4 rfl ⟨by omega, by omega⟩ (fun V_6 eV_6 hBV_6 => ?_)
    have fV_6 := chg_u eV_6 rfl fV_4
    have bMV_6 := bM_c bMV fV_6 rfl
    refine T_k d_X11_lays_24 ?_
    refine T_is d_X11_lays_25 (ls' := [(0, vr 99), (1, vi k), (2, vi 0)]) rfl ?_
    -- to 26 5t@26
    have L26 : ∀ (fu : Nat) (X : VV) (i : Nat), nk - i < fu → (Bd X) → (chg [(128, 160)] [(99, 1, 1), (99, 45, 49), (99, 57, 57), (99, 72, 87), (99, 97, 97)] V X) → (i ≤ nk) → (X 99 1 = k) → (spM b k c X) → (lsM b k (spS b k c) Ks (allK b k (spS b k c) Ks i).1 (allK b k (spS b k c) Ks i).2 X) → TT G M_X11_lays (rmd 40 162 162) 162 (Zm G 162 162 (PQ [(128, 160)] [(99, 1, 1), (99, 45, 49), (99, 57, 57), (99, 72, 87), (99, 97, 97)] V R (fun o X => o = none ∧ X 99 1 = k ∧ ∃ c ch, laidM b Ks nk k c ch X))) 162 26 [(0, vr 99), (1, vi k), (2, vi (i : Int))] [] X R := by
      intro fu
      induction fu with
      | zero => intro X i hm; exact absurd hm (Nat.not_lt_zero _)
      | succ fu ih26 =>
        intro X i hm26 hBX fX hi x1 xs xl
        have bMX := bM_c bMV fX rfl
        have x36 : X 99 36 = (nk : Int) := (fX 99 36 rfl rfl).trans hnk
        refine T_il d_X11_lays_26 rfl ?_
        refine T_al d_X11_lays_27 rfl ?_
        refine F_gi d_X11_lays_28 rfl hBX rfl (fun b_7 => ?_)
        rw [x36]
        refine T_ige d_X11_lays_31 ⟨by omega, by omega⟩ ⟨by omega, by omega⟩ (fun h31 => ?_) (fun h31 => ?_)
        · skip
          have ei : i = nk := by omega
          rw [ei] at xl
          refine T_k d_X11_lays_48 ?_
          refine T_is d_X11_lays_49 (ls' := [(0, vr 99), (1, vi k), (2, vi 0)]) rfl ?_
          -- to 50 31t@50
          have L50 : ∀ (fu : Nat) (Y : VV) (h : Nat), 25 - h < fu → (Bd Y) → (chg [(128, 160)] [(99, 1, 1), (99, 45, 49), (99, 57, 57), (99, 72, 87), (99, 97, 97)] V Y) → (h ≤ 25) → (Y 99 1 = k) → (spM b k c Y) → (lsM b k (spS b k c) Ks (aN b k Ks nk c) (aL b k Ks nk c) Y) → (∀ j, j < h → Y 147 j = 0) → TT G M_X11_lays (rmd 40 162 162) 162 (Zm G 162 162 (PQ [(128, 160)] [(99, 1, 1), (99, 45, 49), (99, 57, 57), (99, 72, 87), (99, 97, 97)] V R (fun o X => o = none ∧ X 99 1 = k ∧ ∃ c ch, laidM b Ks nk k c ch X))) 162 50 [(0, vr 99), (1, vi k), (2, vi (h : Int))] [] Y R := by
            intro fu
            induction fu with
            | zero => intro Y h hm; exact absurd hm (Nat.not_lt_zero _)
            | succ fu ih50 =>
              intro Y h hm50 hBY fY hh y1 ys yl y147
              have bMY := bM_c bMV fY rfl
              refine T_il d_X11_lays_50 rfl ?_
              refine T_k d_X11_lays_51 ?_
              refine T_ige d_X11_lays_53 ⟨by omega, by omega⟩ ⟨by omega, by omega⟩ (fun h53 => ?_) (fun h53 => ?_)
              · skip
                have eh : h = 25 := by omega
                rw [eh] at y147
                refine T_al d_X11_lays_69 rfl ?_
                refine T_k d_X11_lays_70 ?_
                refine F_pi d_X11_lays_71 rfl hBY rfl ⟨by omega, by omega⟩ (fun V_8 eV_8 hBV_8 => ?_)
                have fV_8 := chg_u eV_8 rfl fY
                have bMV_8 := bM_c bMV fV_8 rfl
                refine T_al d_X11_lays_74 rfl ?_
                refine T_k d_X11_lays_75 ?_
                refine F_pi d_X11_lays_76 rfl hBV_8 rfl ⟨by omega, by omega⟩ (fun V_9 eV_9 hBV_9 => ?_)
                have fV_9 := chg_u eV_9 rfl fV_8
                have bMV_9 := bM_c bMV fV_9 rfl
                have yN24 := yl.1
                have fc := chg_u (A := []) (F := [(99, 80, 81)]) (V := Y) eV_9 rfl (chg_u eV_8 rfl chg_r)
                have lv := lstV_of (lsM_c yl fc rfl)
                have cl := chL_of lv hBV_9
                have st0 : stM (aN b k Ks nk c) (vL (aL b k Ks nk c)) 0 V_9 := stM0 (by rw [eV_9]; exact uV_self) (by rw [eV_9, eV_8]; rfl)
                have chz := chs_all (G := G) (R := R) (N := (aN b k Ks nk c)) (v := vL (aL b k Ks nk c)) (B := bL (aL b k Ks nk c)) hF yl.1 (fun i j h1 h2 => all_dsc nk i j h1 h2) ((aN b k Ks nk c) + 1) (aN b k Ks nk c) (Nat.lt_succ_self _) V_9 0 0 0 (Nat.zero_add _) hBV_9 cl.1 (by decide) cOk0 lstA0 st0 chJ0
                refine T_al d_X11_lays_79 rfl ?_
                refine T_k d_X11_lays_80 ?_
                refine T_k d_X11_lays_81 ?_
                refine T_k d_X11_lays_82 ?_
                refine T_jk d_X11_lays_83 ?_
                refine C_v4 d_X11_lays_84 rfl (hdF (by omega)) (hcF _) chz (fun r_10 V_11 R_12 qV_11 => ?_)
                obtain ⟨rfl, hBV_11, cV_11, rfl, pV_11⟩ := qV_11
                have fV_11 := chg_t (A := [(128, 160)]) (F := [(99, 1, 1), (99, 45, 49), (99, 57, 57), (99, 72, 87), (99, 97, 97)]) fV_9 cV_11 rfl
                have bMV_11 := bM_c bMV fV_11 rfl
                have cc := cV_11
                obtain ⟨_, ch, sm, sb⟩ := pV_11
                have hch := isCh_0 sb
                refine T_k d_X11_lays_87 ?_
                refine T_is d_X11_lays_88 (ls' := [(0, vr 99), (1, vi k), (2, vi 0)]) rfl ?_
                -- to 89 53t@89
                have L89 : ∀ (fu : Nat) (Z : VV) (t : Nat), (aC b k Ks nk c ch) - t < fu → (Bd Z) → (chg [(128, 160)] [(99, 1, 1), (99, 45, 49), (99, 57, 57), (99, 72, 87), (99, 97, 97)] V Z) → (t ≤ (aC b k Ks nk c ch)) → (Z 99 1 = k) → (spM b k c Z) → (lsM b k (spS b k c) Ks (aN b k Ks nk c) (aL b k Ks nk c) Z) → (stM (aN b k Ks nk c) (vL (aL b k Ks nk c)) ch Z) → (∀ j, j < 25 → Z 147 j = bi (exI (Z 150) t j)) → TT G M_X11_lays (rmd 40 162 162) 162 (Zm G 162 162 (PQ [(128, 160)] [(99, 1, 1), (99, 45, 49), (99, 57, 57), (99, 72, 87), (99, 97, 97)] V R (fun o X => o = none ∧ X 99 1 = k ∧ ∃ c ch, laidM b Ks nk k c ch X))) 162 89 [(0, vr 99), (1, vi k), (2, vi (t : Int))] [] Z R := by
                  intro fu
                  induction fu with
                  | zero => intro Z t hm; exact absurd hm (Nat.not_lt_zero _)
                  | succ fu ih89 =>
                    intro Z t hm89 hBZ fZ ht z1 zs zl zm z147
                    have bMZ := bM_c bMV fZ rfl
                    have z80 : Z 99 80 = (aC b k Ks nk c ch : Int) := zm.2.1
                    have zc : aC b k Ks nk c ch ≤ 24 := Nat.le_trans cntB_le zl.1
                    refine T_il d_X11_lays_89 rfl ?_
                    refine T_al d_X11_lays_90 rfl ?_
                    refine F_gi d_X11_lays_91 rfl hBZ rfl (fun b_13 => ?_)
                    rw [z80]
                    refine T_ige d_X11_lays_94 ⟨by omega, by omega⟩ ⟨by omega, by omega⟩ (fun h94 => ?_) (fun h94 => ?_)
                    · skip
                      have et : t = (aC b k Ks nk c ch) := by omega
                      rw [et] at z147
                      have hO : cOk (vL (aL b k Ks nk c)) (bL (aL b k Ks nk c)) (aN b k Ks nk c) ch := hch.1
                      have h13 := a_13 (ch := ch) ho ko hO
                      have lv := lstV_of zl
                      have cl := chL_of lv hBZ
                      have z47 : ∀ i, i < (aN b k Ks nk c) → Z 147 i = bi (ch.testBit i) := fun i hi => by rw [z147 i (by have := zl.1; omega), exI_f zm.2.2]
                      refine T_al d_X11_lays_115 rfl ?_
                      refine T_il d_X11_lays_116 rfl ?_
                      refine C_v1 d_X11_lays_117 rfl (hdF (by omega)) (hcF _) (R_X11_orders (b := b) (k := k) (c := c) (S := (spS b k c)) (Ks := Ks) (nk := nk) (N := (aN b k Ks nk c)) (ch := ch) (l := (aL b k Ks nk c)) hBZ hF bMZ hw hk (spS_O ho) (sM_of zs) lv zl.1 a_row (fun i hi => ⟨kM_c (hKs i hi) fZ rfl, ko i hi⟩) hn5 z47 h13 zs.2.2.2.1 cl.2) (fun r_14 V_15 R_16 qV_15 => ?_)
                      obtain ⟨rfl, hBV_15, cV_15, rfl, pV_15⟩ := qV_15
                      have fV_15 := chg_t (A := [(128, 160)]) (F := [(99, 1, 1), (99, 45, 49), (99, 57, 57), (99, 72, 87), (99, 97, 97)]) fZ cV_15 rfl
                      have bMV_15 := bM_c bMV fV_15 rfl
                      have co := cV_15
                      obtain ⟨o83, o151, orl, oph⟩ := pV_15
                      have lo := lsM_c zl cV_15 rfl
                      have so_ := spM_c zs cV_15 rfl
                      have oph2 := phS_M oph
                      obtain ⟨m5, f5, h11, hph⟩ := ph_f oph2 mtM_cm
                      have o1 : V_15 99 1 = k := (cV_15 99 1 rfl rfl).trans z1
                      have om : V_15 99 80 = ((aC b k Ks nk c ch) : Int) ∧ V_15 99 81 = chV (vL (aL b k Ks nk c)) ch (aN b k Ks nk c) := ⟨(cV_15 99 80 rfl rfl).trans zm.2.1, (cV_15 99 81 rfl rfl).trans zm.1⟩
                      have o47 := chg_k (c := 147) cV_15 rfl
                      refine T_al d_X11_lays_120 rfl ?_
                      refine T_il d_X11_lays_121 rfl ?_
                      refine C_v1 d_X11_lays_122 rfl (hdF (by omega)) (hcF _) (R_X11_starts (b := b) (k := k) (c := c) (S := (spS b k c)) (Ks := Ks) (nk := nk) (N := (aN b k Ks nk c)) (ch := ch) (l := (aL b k Ks nk c)) (mt := (aMt b k Ks nk c ch)) (lt := (aLt b k Ks nk c ch)) (f := f5) (v := vL (aL b k Ks nk c)) hBV_15 hF bMV_15 hw hk (lstV_of lo) lo.1 a_row (fun i hi => ⟨kM_c (hKs i hi) fV_15 rfl, ko i hi⟩) hn5 hO h13 so_.2.2.2.1 cl.2 o83 o151 orl mtM_cm (h11.elim Or.inl (fun z => Or.inr ⟨z.1, fun i hi => ⟨(z.2.2.2 i hi).1, by have := (z.2.2.2 i hi).2; have := z.2.2.1; omega⟩⟩))) (fun r_17 V_18 R_19 qV_18 => ?_)
                      obtain ⟨rfl, hBV_18, cV_18, rfl, pV_18⟩ := qV_18
                      have fV_18 := chg_t (A := [(128, 160)]) (F := [(99, 1, 1), (99, 45, 49), (99, 57, 57), (99, 72, 87), (99, 97, 97)]) fV_15 cV_18 rfl
                      have bMV_18 := bM_c bMV fV_18 rfl
                      have cs := cV_18
                      have ps := pV_18
                      have ls_ := lsM_c lo cV_18 rfl
                      have ss_ := spM_c so_ cV_18 rfl
                      have s47 := (chg_k (c := 147) cV_18 rfl).trans o47
                      have sst := stS_M (cn := 0) (rv := 0) (ro := fun _ => 0) hph ps.1 ps.2
                      refine T_al d_X11_lays_125 rfl ?_
                      refine C_v0 d_X11_lays_126 rfl (hdF (by omega)) (hcF _) (R_X11_lines (S := (spS b k c)) (l := (aL b k Ks nk c)) (N := (aN b k Ks nk c)) (ch := ch) hBV_18 hF (spS_O ho) (sM_of ss_) (lstV_of ls_) ls_.1 (fun i hi => by rw [s47]; exact z47 i hi) cl.2) (fun r_20 V_21 R_22 qV_21 => ?_)
                      obtain ⟨rfl, hBV_21, cV_21, rfl, pV_21⟩ := qV_21
                      have fV_21 := chg_t (A := [(128, 160)]) (F := [(99, 1, 1), (99, 45, 49), (99, 57, 57), (99, 72, 87), (99, 97, 97)]) fV_18 cV_21 rfl
                      have bMV_21 := bM_c bMV fV_21 rfl
                      -- leaf 94t@129
                      refine T_vret d_X11_lays_129 rfl ?_
                      exact ⟨rfl, hBV_21, fV_21, rfl, (cV_21 99 1 rfl rfl).trans ((cs 99 1 rfl rfl).trans o1), c, ch, ic, spM_c ss_ cV_21 rfl, lsM_c ls_ cV_21 rfl, hch, fun i hi => by rw [chg_k (c := 147) cV_21 rfl, s47]; exact z47 i hi, ⟨(cV_21 99 80 rfl rfl).trans ((cs 99 80 rfl rfl).trans om.1), (cV_21 99 81 rfl rfl).trans ((cs 99 81 rfl rfl).trans om.2)⟩, ⟨(cV_21 99 83 rfl rfl).trans ((cs 99 83 rfl rfl).trans o83), fun t ht => by rw [chg_k (c := 151) cV_21 rfl, chg_k (c := 151) cs rfl]; exact o151 t ht⟩, relM_x orl ((chg_k (c := 152) cV_21 rfl).trans (chg_k (c := 152) cs rfl)) ((chg_k (c := 153) cV_21 rfl).trans (chg_k (c := 153) cs rfl)), phS_x oph2 ((cV_21 99 86 rfl rfl).trans (cs 99 86 rfl rfl)) ((cV_21 99 84 rfl rfl).trans (cs 99 84 rfl rfl)) ((cV_21 99 85 rfl rfl).trans (cs 99 85 rfl rfl)) ((chg_k (c := 155) cV_21 rfl).trans (chg_k (c := 155) cs rfl)), by rw [cV_21 99 86 rfl rfl, cs 99 86 rfl rfl, cV_21 99 87 rfl rfl, chg_k (c := 156) cV_21 rfl, chg_k (c := 157) cV_21 rfl]; exact sst, pV_21⟩
                    · skip
                      have b150 := hBZ.1 150 0 24 rfl t
                      refine T_al d_X11_lays_97 rfl ?_
                      refine F_gr (b := 147) d_X11_lays_98 rfl hF rfl ?_
                      refine T_al d_X11_lays_101 rfl ?_
                      refine F_gr (b := 150) d_X11_lays_102 rfl hF rfl ?_
                      refine T_il d_X11_lays_105 rfl ?_
                      refine F_ia d_X11_lays_106 rfl hBZ rfl ⟨by omega, by omega⟩ (fun b_23 => ?_)
                      try simp only [Int.toNat_natCast]
                      try simp only [Int.toNat_natCast] at b_23
                      refine T_k d_X11_lays_107 ?_
                      refine F_zs d_X11_lays_108 rfl hBZ rfl ⟨by omega, by omega⟩ ⟨by omega, by omega⟩ (fun V_24 eV_24 hBV_24 => ?_)
                      have fV_24 := chg_u eV_24 rfl fZ
                      have bMV_24 := bM_c bMV fV_24 rfl
                      refine F_incg d_X11_lays_109 rfl (f := fun x_25 => [(0, vr 99), (1, vi k), (2, vi x_25)]) (fun _ => rfl) (fun x_25 ex_25 => ?_)
                      refine T_go d_X11_lays_112 ?_
                      -- to 89 94f@89
                      have fz := chg_u (A := [(147, 147)]) (F := []) eV_24 rfl (chg_r (V := Z))
                      have e150 := chg_k (c := 150) fz rfl
                      obtain rfl : x_25 = ((t + 1) : Int) := by omega
                      exact ih89 V_24 (t + 1) (by omega) hBV_24 fV_24 (by first | assumption | omega) (by rw [eV_24]; exact z1) (spM_c zs fz rfl) (lsM_c zl fz rfl) (by unfold stM at zm ⊢; rw [fz 99 81 rfl rfl, fz 99 80 rfl rfl, e150]; exact zm) (fun j hj => by rw [e150, exI_s, eV_24, uV_at]; by_cases q : j = (Z 150 t).toNat; (rw [if_pos q, decide_eq_true (show Z 150 t = (j : Int) by omega), Bool.or_true]; rfl); (rw [if_neg q, decide_eq_false (show ¬ Z 150 t = (j : Int) by omega), Bool.or_false]; exact z147 j hj))
                exact L89 _ V_11 (0) (Nat.lt_succ_self _) hBV_11 fV_11 (by first | assumption | omega) ((cc 99 1 rfl rfl).trans ((fc 99 1 rfl rfl).trans y1)) (spM_c (spM_c ys fc rfl) cc rfl) (lsM_c (lsM_c yl fc rfl) cc rfl) sm (fun j hj => by rw [chg_k (c := 147) cc rfl, chg_k (c := 147) fc rfl]; exact y147 j hj)
              · skip
                refine T_al d_X11_lays_56 rfl ?_
                refine F_gr (b := 147) d_X11_lays_57 rfl hF rfl ?_
                refine T_il d_X11_lays_60 rfl ?_
                refine T_k d_X11_lays_61 ?_
                refine F_zs d_X11_lays_62 rfl hBY rfl ⟨by omega, by omega⟩ ⟨by omega, by omega⟩ (fun V_26 eV_26 hBV_26 => ?_)
                have fV_26 := chg_u eV_26 rfl fY
                have bMV_26 := bM_c bMV fV_26 rfl
                refine F_incg d_X11_lays_63 rfl (f := fun x_27 => [(0, vr 99), (1, vi k), (2, vi x_27)]) (fun _ => rfl) (fun x_27 ex_27 => ?_)
                refine T_go d_X11_lays_66 ?_
                -- to 50 53f@50
                obtain rfl : x_27 = ((h + 1) : Int) := by omega
                exact ih50 V_26 (h + 1) (by omega) hBV_26 fV_26 (by first | assumption | omega) (by rw [eV_26]; exact y1) (spM_c ys (chg_u (A := [(147, 147)]) (F := []) eV_26 rfl chg_r) rfl) (lsM_c yl (chg_u (A := [(147, 147)]) (F := []) eV_26 rfl chg_r) rfl) (fun j hj => by rw [eV_26, Int.toNat_natCast, uV_at]; by_cases q : j = h; (rw [if_pos q]); (rw [if_neg q]; exact y147 j (by omega)))
          exact L50 _ X (0) (Nat.lt_succ_self _) hBX fX (by first | assumption | omega) x1 xs xl (fun j hj => absurd hj (Nat.not_lt_zero _))
        · skip
          refine T_al d_X11_lays_34 rfl ?_
          refine T_il d_X11_lays_35 rfl ?_
          refine T_il d_X11_lays_36 rfl ?_
          refine T_k d_X11_lays_37 ?_
          refine C_v3 d_X11_lays_38 rfl (hdF (by omega)) (hcF _) (R_X11_goes (b := b) (k := k) (S := (spS b k c)) (Ks := Ks) (kd := i) (N := (allK b k (spS b k c) Ks i).1) (l := (allK b k (spS b k c) Ks i).2) (kz := true) hBX hF bMX (sM_of xs) (spS_O ho) (by omega) (kM_c (hKs i (by omega)) fX rfl) (ko i (by omega)) hk rfl (fun _ => xl)) (fun r_28 V_29 R_30 qV_29 => ?_)
          obtain ⟨rfl, hBV_29, cV_29, rfl, pV_29⟩ := qV_29
          have fV_29 := chg_t (A := [(128, 160)]) (F := [(99, 1, 1), (99, 45, 49), (99, 57, 57), (99, 72, 87), (99, 97, 97)]) fX cV_29 rfl
          have bMV_29 := bM_c bMV fV_29 rfl
          have cg := cV_29
          have pg := pV_29
          refine T_pop d_X11_lays_41 rfl ?_
          refine F_incg d_X11_lays_42 rfl (f := fun x_31 => [(0, vr 99), (1, vi k), (2, vi x_31)]) (fun _ => rfl) (fun x_31 ex_31 => ?_)
          refine T_go d_X11_lays_45 ?_
          -- to 26 31f@26
          obtain rfl : x_31 = ((i + 1) : Int) := by omega
          exact ih26 V_29 (i + 1) (by omega) hBV_29 fV_29 (by first | assumption | omega) ((cg 99 1 rfl rfl).trans x1) (spM_c xs cg rfl) (pg.2 rfl)
    exact L26 _ V_6 (0) (Nat.lt_succ_self _) hBV_6 fV_6 (by first | assumption | omega) (by rw [eV_6]; exact b1) (spM_x sp (fun j h1 h2 => by rw [eV_6, uV_ne (fun z => by omega)]) (fun a h1 h2 => by rw [eV_6, uV_cell (by omega)])) (lsM_0 (by rw [eV_6]; exact uV_self))
  · skip
    -- leaf 5f@8
    refine T_vret d_X11_lays_8 rfl ?_
    exact ⟨rfl, hB, fV, rfl, by omega, hl (by omega)⟩
