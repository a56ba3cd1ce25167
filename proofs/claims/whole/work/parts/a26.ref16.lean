set_option maxHeartbeats 1000000 in
set_option maxRecDepth 100000 in
theorem R_X11_strength {G : GG} {V : VV} {R : RR} {k : Int} {b : Bk} {Ks : Nat → Kd} {nk kd : Nat} (hB : Bd V) (hF : FinR R) (bMV : bM b V) (hkn : kd < nk) (hkw : 0 ≤ k ∧ k ≤ 400) (hnk : V 99 36 = (nk : Int)) (hn5 : nk ≤ 5) (hK : ∀ i, i < nk → kM (Ks i) i V ∧ kO (Ks i)) : Runs G M_X11_strength 7 162 162 [vr 99, vi (kd:Int), vi k] V R (PQ [(128, 134), (135, 146), (148, 148), (161, 161)] [(99, 1, 1), (99, 45, 49), (99, 57, 57), (99, 72, 77)] V R (fun o X => X 99 1 = -1 ∧ ∃ c, isB (KK b k) 6724 c ∧ o = some (vi (weak b k (spS b k c) Ks kd 7 : Int)))) := by
  refine Runs.of pn_X11 (Nat.le_of_ble_eq_true rfl) rfl ?_
  show TT G M_X11_strength (rmd 7 162 162) 162 (Zm G 162 162 (PQ [(128, 134), (135, 146), (148, 148), (161, 161)] [(99, 1, 1), (99, 45, 49), (99, 57, 57), (99, 72, 77)] V R (fun o X => X 99 1 = -1 ∧ ∃ c, isB (KK b k) 6724 c ∧ o = some (vi (weak b k (spS b k c) Ks kd 7 : Int))))) 162 0 [(0, vr 99), (1, vi (kd:Int)), (2, vi k)] [] V R
  have fV : chg [(128, 134), (135, 146), (148, 148), (161, 161)] [(99, 1, 1), (99, 45, 49), (99, 57, 57), (99, 72, 77)] V V := chg_r
  have ho := bO_of bMV hB
  refine T_il d_X11_strength_0 rfl ?_
  refine T_k d_X11_strength_1 ?_
  refine T_al d_X11_strength_2 rfl ?_
  refine F_gi d_X11_strength_3 rfl hB rfl (fun b_1 => ?_)
  refine T_k d_X11_strength_6 ?_
  refine T_isub d_X11_strength_7 ?_
  refine C_ps3 d_X11_strength_8 (hdF (by decide)) (hcF _) (R_X11_in ⟨by omega, by omega⟩ ⟨by omega, by omega⟩ ⟨by omega, by omega⟩) ?_
  refine T_pz0 d_X11_strength_11 (fun h11 => ?_) (fun h11 => ?_)
  · exact absurd (by omega) h11
  · skip
    refine T_il d_X11_strength_14 rfl ?_
    refine C_ps1 d_X11_strength_15 (hdF (by decide)) (hcF _) (R_X11_isWeek ⟨by omega, by omega⟩) ?_
    refine T_pz1 d_X11_strength_18 (fun h18 => ?_) (fun h18 => ?_)
    · skip
      have hKk := hK kd hkn
      refine T_al d_X11_strength_23 rfl ?_
      refine T_il d_X11_strength_24 rfl ?_
      refine C_v1 d_X11_strength_25 rfl (hdF (by decide)) (hcF _) (R_X11_finds hB hF bMV hkw) (fun r_2 V_3 R_4 qV_3 => ?_)
      obtain ⟨rfl, hBV_3, cV_3, rfl, pV_3⟩ := qV_3
      have fV_3 := chg_t (A := [(128, 134), (135, 146), (148, 148), (161, 161)]) (F := [(99, 1, 1), (99, 45, 49), (99, 57, 57), (99, 72, 77)]) fV cV_3 rfl
      have bMV_3 := bM_c bMV fV_3 rfl
      obtain ⟨c, hcB, hsp⟩ := pV_3
      have m28 := sM_of hsp
      have so := spS_O (k := k) (c := c) ho
      have hm4 := so.1
      refine T_al d_X11_strength_28 rfl ?_
      refine T_k d_X11_strength_29 ?_
      refine F_pi d_X11_strength_30 rfl hBV_3 rfl ⟨by omega, by omega⟩ (fun V_5 eV_5 hBV_5 => ?_)
      have fV_5 := chg_u eV_5 rfl fV_3
      have bMV_5 := bM_c bMV fV_5 rfl
      have g33 : V_5 99 1 = -1 := by rw [eV_5]; rfl
      have m33 : sM (spS b k c) V_5 := by unfold sM; rw [eV_5]; exact m28
      refine T_al d_X11_strength_33 rfl ?_
      refine T_il d_X11_strength_34 rfl ?_
      refine T_il d_X11_strength_35 rfl ?_
      refine T_k d_X11_strength_36 ?_
      refine C_v3 d_X11_strength_37 rfl (hdF (by decide)) (hcF _) (R_X11_goes (b := b) (S := (spS b k c)) (Ks := Ks) (N := 0) (l := fun _ _ => 0) (kz := false) hBV_5 hF bMV_5 m33 so (by omega) (kM_c hKk.1 fV_5 rfl) hKk.2 hkw rfl (fun z => by cases z)) (fun r_6 V_7 R_8 qV_7 => ?_)
      obtain ⟨rfl, hBV_7, cV_7, rfl, pV_7⟩ := qV_7
      have fV_7 := chg_t (A := [(128, 134), (135, 146), (148, 148), (161, 161)]) (F := [(99, 1, 1), (99, 45, 49), (99, 57, 57), (99, 72, 77)]) fV_5 cV_7 rfl
      have bMV_7 := bM_c bMV fV_7 rfl
      have p40 := pV_7.1
      have c40 := cV_7
      rw [bg_is] at p40
      have e30 : V_7 99 1 = -1 := (chg_j (c := 99) (j := 1) c40 rfl).trans g33
      have m41 := sM_c m33 c40 rfl
      refine F_isg d_X11_strength_40 (f := fun x_9 => [(0, vr 99), (1, vi (kd:Int)), (2, vi k), (3, vi x_9)]) (fun _ => rfl) (fun x_9 ex_9 => ?_)
      have e3 : x_9 = bgK b k (spS b k c) Ks kd := by rw [ex_9]; exact bg_is
      refine T_k d_X11_strength_41 ?_
      refine T_is d_X11_strength_42 (ls' := [(0, vr 99), (1, vi (kd:Int)), (2, vi k), (3, vi x_9), (4, vi 0)]) rfl ?_
      -- to 44 11f.18t@44
      have L44 : ∀ (fu : Nat) (X : VV) (i : Nat), (spS b k c).m - i < fu → (Bd X) → (chg [(128, 134), (135, 146), (148, 148), (161, 161)] [(99, 1, 1), (99, 45, 49), (99, 57, 57), (99, 72, 77)] V X) → (i ≤ (spS b k c).m) → (sM (spS b k c) X) → (X 99 1 = -1) → (∀ j, j < i → X 161 j = (spS b k c).y j) → TT G M_X11_strength (rmd 7 162 162) 162 (Zm G 162 162 (PQ [(128, 134), (135, 146), (148, 148), (161, 161)] [(99, 1, 1), (99, 45, 49), (99, 57, 57), (99, 72, 77)] V R (fun o X => X 99 1 = -1 ∧ ∃ c, isB (KK b k) 6724 c ∧ o = some (vi (weak b k (spS b k c) Ks kd 7 : Int))))) 162 44 [(0, vr 99), (1, vi (kd:Int)), (2, vi k), (3, vi x_9), (4, vi (i : Int))] [] X R := by
        intro fu
        induction fu with
        | zero => intro X i hm; exact absurd hm (Nat.not_lt_zero _)
        | succ fu ih44 =>
          intro X i hm44 hBX fX hi mx x1 hX
          have bMX := bM_c bMV fX rfl
          have x49 := mx.1
          refine T_il d_X11_strength_44 rfl ?_
          refine T_al d_X11_strength_46 rfl ?_
          refine F_gi d_X11_strength_47 rfl hBX rfl (fun b_10 => ?_)
          refine T_ige d_X11_strength_50 ⟨by omega, by omega⟩ ⟨by omega, by omega⟩ (fun h50 => ?_) (fun h50 => ?_)
          · skip
            refine T_k d_X11_strength_73 ?_
            refine T_is d_X11_strength_74 (ls' := [(0, vr 99), (1, vi (kd:Int)), (2, vi k), (3, vi x_9), (4, vi 0)]) rfl ?_
            refine T_k d_X11_strength_76 ?_
            refine T_is d_X11_strength_77 (ls' := [(0, vr 99), (1, vi (kd:Int)), (2, vi k), (3, vi x_9), (4, vi 0), (5, vi 1)]) rfl ?_
            -- to 79 50t@79
            have L79 : ∀ (fu : Nat) (Y : VV) (w t : Nat), 7 - t < fu → (Bd Y) → (chg [(128, 134), (135, 146), (148, 148), (161, 161)] [(99, 1, 1), (99, 45, 49), (99, 57, 57), (99, 72, 77)] V Y) → (t ≤ 7) → (w = (weak b k (spS b k c) Ks kd t)) → (sMx (spS b k c) Y) → (Y 99 1 = -1) → (∀ j, j < (spS b k c).m → Y 161 j = (spS b k c).y j) → TT G M_X11_strength (rmd 7 162 162) 162 (Zm G 162 162 (PQ [(128, 134), (135, 146), (148, 148), (161, 161)] [(99, 1, 1), (99, 45, 49), (99, 57, 57), (99, 72, 77)] V R (fun o X => X 99 1 = -1 ∧ ∃ c, isB (KK b k) 6724 c ∧ o = some (vi (weak b k (spS b k c) Ks kd 7 : Int))))) 162 79 [(0, vr 99), (1, vi (kd:Int)), (2, vi k), (3, vi x_9), (4, vi (w : Int)), (5, vi ((t + 1 : Nat) : Int))] [] Y R := by
              intro fu
              induction fu with
              | zero => intro Y w t hm; exact absurd hm (Nat.not_lt_zero _)
              | succ fu ih79 =>
                intro Y w t hm79 hBY fY ht hw my y1 y61
                have bMY := bM_c bMV fY rfl
                refine T_il d_X11_strength_79 rfl ?_
                refine T_k d_X11_strength_81 ?_
                refine T_igt d_X11_strength_83 ⟨by omega, by omega⟩ ⟨by omega, by omega⟩ (fun h83 => ?_) (fun h83 => ?_)
                · skip
                  refine T_il d_X11_strength_153 rfl ?_
                  -- leaf 83t@155
                  refine T_iret d_X11_strength_155 rfl ?_
                  exact ⟨rfl, hBY, fY, y1, c, hcB, by rw [hw, show t = 7 by omega]⟩
                · skip
                  refine T_k d_X11_strength_86 ?_
                  refine T_is d_X11_strength_87 (ls' := [(0, vr 99), (1, vi (kd:Int)), (2, vi k), (3, vi x_9), (4, vi (w : Int)), (5, vi ((t + 1 : Nat) : Int)), (6, vi 0)]) rfl ?_
                  -- to 89 83f@89
                  have L89 : ∀ (fu : Nat) (Z : VV) (s : Nat), (spS b k c).m - s < fu → (Bd Z) → (chg [(128, 134), (135, 146), (148, 148), (161, 161)] [(99, 1, 1), (99, 45, 49), (99, 57, 57), (99, 72, 77)] V Z) → (s ≤ (spS b k c).m) → (sMx (spS b k c) Z) → (Z 99 1 = -1) → (∀ j, j < (spS b k c).m → Z 161 j = (spS b k c).y j) → (∀ j, j < s → Z 133 j = (spS b k c).y ((j + (t + 1)) % (spS b k c).m)) → TT G M_X11_strength (rmd 7 162 162) 162 (Zm G 162 162 (PQ [(128, 134), (135, 146), (148, 148), (161, 161)] [(99, 1, 1), (99, 45, 49), (99, 57, 57), (99, 72, 77)] V R (fun o X => X 99 1 = -1 ∧ ∃ c, isB (KK b k) 6724 c ∧ o = some (vi (weak b k (spS b k c) Ks kd 7 : Int))))) 162 89 [(0, vr 99), (1, vi (kd:Int)), (2, vi k), (3, vi x_9), (4, vi (w : Int)), (5, vi ((t + 1 : Nat) : Int)), (6, vi (s : Int))] [] Z R := by
                    intro fu
                    induction fu with
                    | zero => intro Z s hm; exact absurd hm (Nat.not_lt_zero _)
                    | succ fu ih89 =>
                      intro Z s hm89 hBZ fZ hs mz z1 z61 z33
                      have bMZ := bM_c bMV fZ rfl
                      have z49 := mz.1
                      refine T_il d_X11_strength_89 rfl ?_
                      refine T_al d_X11_strength_91 rfl ?_
                      refine F_gi d_X11_strength_92 rfl hBZ rfl (fun b_11 => ?_)
                      refine T_ige d_X11_strength_95 ⟨by omega, by omega⟩ ⟨by omega, by omega⟩ (fun h95 => ?_) (fun h95 => ?_)
                      · skip
                        have hsm : s = (spS b k c).m := by omega
                        rw [hsm] at z33
                        have sr := sM_rot (t := t + 1) mz rfl rfl rfl rfl z33
                        have sro := srot_O (t := t + 1) so
                        refine T_il d_X11_strength_126 rfl ?_
                        refine T_al d_X11_strength_128 rfl ?_
                        refine T_il d_X11_strength_129 rfl ?_
                        refine T_il d_X11_strength_130 rfl ?_
                        refine T_k d_X11_strength_131 ?_
                        refine C_v3 d_X11_strength_132 rfl (hdF (by decide)) (hcF _) (R_X11_goes (b := b) (S := srot (spS b k c) (t + 1)) (Ks := Ks) (N := 0) (l := fun _ _ => 0) (kz := false) hBZ hF bMZ sr sro (by omega) (kM_c hKk.1 fZ rfl) hKk.2 hkw rfl (fun z => by cases z)) (fun r_12 V_13 R_14 qV_13 => ?_)
                        obtain ⟨rfl, hBV_13, cV_13, rfl, pV_13⟩ := qV_13
                        have fV_13 := chg_t (A := [(128, 134), (135, 146), (148, 148), (161, 161)]) (F := [(99, 1, 1), (99, 45, 49), (99, 57, 57), (99, 72, 77)]) fZ cV_13 rfl
                        have bMV_13 := bM_c bMV fV_13 rfl
                        have p35 := pV_13.1
                        have c35 := cV_13
                        rw [bg_is] at p35
                        rw [bg_is]
                        have x35 : sMx (spS b k c) V_13 := sMx_x mz (chg_j (c := 99) (j := 49) c35 rfl) (chg_k (c := 131) c35 rfl) (chg_k (c := 132) c35 rfl) (chg_k (c := 134) c35 rfl)
                        have g35 : V_13 99 1 = -1 := (chg_j (c := 99) (j := 1) c35 rfl).trans z1
                        have k35 : ∀ j, j < (spS b k c).m → V_13 161 j = (spS b k c).y j := by rw [chg_k (c := 161) c35 rfl]; exact z61
                        refine T_il d_X11_strength_135 rfl ?_
                        refine T_ige d_X11_strength_136 ⟨by omega, by omega⟩ ⟨by omega, by omega⟩ (fun h136 => ?_) (fun h136 => ?_)
                        · skip
                          refine T_k d_X11_strength_143 ?_
                          refine T_iadd d_X11_strength_144 ?_
                          refine F_isg d_X11_strength_145 (f := fun x_15 => [(0, vr 99), (1, vi (kd:Int)), (2, vi k), (3, vi x_9), (4, vi x_15), (5, vi ((t + 1 : Nat) : Int)), (6, vi (s : Int))]) (fun _ => rfl) (fun x_15 ex_15 => ?_)
                          refine F_incg d_X11_strength_147 rfl (f := fun x_16 => [(0, vr 99), (1, vi (kd:Int)), (2, vi k), (3, vi x_9), (4, vi x_15), (5, vi x_16), (6, vi (s : Int))]) (fun _ => rfl) (fun x_16 ex_16 => ?_)
                          refine T_go d_X11_strength_150 ?_
                          -- to 79 95t.136t@79
                          refine T_subp (ks := [0, 1, 2, 3, 4, 5]) (ls' := [(0, vr 99), (1, vi (kd:Int)), (2, vi k), (3, vi x_9), (4, vi x_15), (5, vi x_16)]) rfl ?_
                          obtain rfl : x_15 = (w : Int) := by omega
                          obtain rfl : x_16 = (((t + 1) + 1 : Nat) : Int) := by omega
                          exact ih79 V_13 (w) (t + 1) (by omega) hBV_13 fV_13 (by first | assumption | omega) (by unfold weak; rw [cntB_f (fun z => by have := of_decide_eq_true z; omega)]; exact hw) x35 g35 k35
                        · skip
                          refine T_k d_X11_strength_139 ?_
                          refine T_go d_X11_strength_140 ?_
                          refine T_iadd d_X11_strength_144 ?_
                          refine F_isg d_X11_strength_145 (f := fun x_17 => [(0, vr 99), (1, vi (kd:Int)), (2, vi k), (3, vi x_9), (4, vi x_17), (5, vi ((t + 1 : Nat) : Int)), (6, vi (s : Int))]) (fun _ => rfl) (fun x_17 ex_17 => ?_)
                          refine F_incg d_X11_strength_147 rfl (f := fun x_18 => [(0, vr 99), (1, vi (kd:Int)), (2, vi k), (3, vi x_9), (4, vi x_17), (5, vi x_18), (6, vi (s : Int))]) (fun _ => rfl) (fun x_18 ex_18 => ?_)
                          refine T_go d_X11_strength_150 ?_
                          -- to 79 95t.136f@79
                          refine T_subp (ks := [0, 1, 2, 3, 4, 5]) (ls' := [(0, vr 99), (1, vi (kd:Int)), (2, vi k), (3, vi x_9), (4, vi x_17), (5, vi x_18)]) rfl ?_
                          obtain rfl : x_17 = ((w + 1) : Int) := by omega
                          obtain rfl : x_18 = (((t + 1) + 1 : Nat) : Int) := by omega
                          exact ih79 V_13 (w + 1) (t + 1) (by omega) hBV_13 fV_13 (by first | assumption | omega) (by unfold weak; rw [cntB_t (decide_eq_true (by omega))]; rw [hw]; rfl) x35 g35 k35
                      · skip
                        have r0 : (((s : Int) + ((t + 1 : Nat) : Int)) % Z 99 49) = (((s + (t + 1)) % (spS b k c).m : Nat) : Int) := by rw [z49]; push_cast; rfl
                        have r1 : (s + (t + 1)) % (spS b k c).m < (spS b k c).m := Nat.mod_lt _ (by omega)
                        have w61 := z61 _ r1
                        refine T_al d_X11_strength_98 rfl ?_
                        refine F_gr (b := 133) d_X11_strength_99 rfl hF rfl ?_
                        refine T_il d_X11_strength_102 rfl ?_
                        refine T_al d_X11_strength_104 rfl ?_
                        refine F_gr (b := 161) d_X11_strength_105 rfl hF rfl ?_
                        refine T_il d_X11_strength_108 rfl ?_
                        refine T_il d_X11_strength_110 rfl ?_
                        refine T_iadd d_X11_strength_112 ?_
                        refine T_al d_X11_strength_113 rfl ?_
                        refine F_gi d_X11_strength_114 rfl hBZ rfl (fun b_19 => ?_)
                        refine T_irem d_X11_strength_117 ⟨by omega, by omega⟩ (by rw [z49]; omega) ?_
                        rw [r0]
                        refine F_ia d_X11_strength_118 rfl hBZ rfl ⟨by omega, by omega⟩ (fun b_20 => ?_)
                        try simp only [Int.toNat_natCast, w61]
                        try simp only [Int.toNat_natCast, w61] at b_20
                        refine F_is d_X11_strength_119 rfl hBZ rfl ⟨by omega, by omega⟩ ⟨by omega, by omega⟩ (fun V_21 eV_21 hBV_21 => ?_)
                        have fV_21 := chg_u eV_21 rfl fZ
                        have bMV_21 := bM_c bMV fV_21 rfl
                        refine F_incg d_X11_strength_120 rfl (f := fun x_22 => [(0, vr 99), (1, vi (kd:Int)), (2, vi k), (3, vi x_9), (4, vi (w : Int)), (5, vi ((t + 1 : Nat) : Int)), (6, vi x_22)]) (fun _ => rfl) (fun x_22 ex_22 => ?_)
                        refine T_go d_X11_strength_123 ?_
                        -- to 89 95f@89
                        obtain rfl : x_22 = ((s + 1) : Int) := by omega
                        exact ih89 V_21 (s + 1) (by omega) hBV_21 fV_21 (by first | assumption | omega) (sMx_x mz (by rw [eV_21]; rfl) (by rw [eV_21]; rfl) (by rw [eV_21]; rfl) (by rw [eV_21]; rfl)) (by rw [eV_21]; exact z1) (by rw [eV_21]; exact z61) (row_s (f := fun j => (spS b k c).y ((j + (t + 1)) % (spS b k c).m)) eV_21 rfl z33)
                  exact L89 _ Y (0) (Nat.lt_succ_self _) hBY fY (by first | assumption | omega) my y1 y61 (fun j hj => absurd hj (Nat.not_lt_zero _))
            exact L79 _ X (0) (0) (Nat.lt_succ_self _) hBX fX (by first | assumption | omega) rfl (sMx_of mx) x1 (fun j hj => hX j (by omega))
          · skip
            have wy := (mx.2 i (by omega)).2.2.1
            refine T_al d_X11_strength_53 rfl ?_
            refine F_gr (b := 161) d_X11_strength_54 rfl hF rfl ?_
            refine T_il d_X11_strength_57 rfl ?_
            refine T_al d_X11_strength_59 rfl ?_
            refine F_gr (b := 133) d_X11_strength_60 rfl hF rfl ?_
            refine T_il d_X11_strength_63 rfl ?_
            refine F_ia d_X11_strength_65 rfl hBX rfl ⟨by omega, by omega⟩ (fun b_23 => ?_)
            try simp only [Int.toNat_natCast, wy]
            try simp only [Int.toNat_natCast, wy] at b_23
            refine F_is d_X11_strength_66 rfl hBX rfl ⟨by omega, by omega⟩ ⟨by omega, by omega⟩ (fun V_24 eV_24 hBV_24 => ?_)
            have fV_24 := chg_u eV_24 rfl fX
            have bMV_24 := bM_c bMV fV_24 rfl
            refine F_incg d_X11_strength_67 rfl (f := fun x_25 => [(0, vr 99), (1, vi (kd:Int)), (2, vi k), (3, vi x_9), (4, vi x_25)]) (fun _ => rfl) (fun x_25 ex_25 => ?_)
            refine T_go d_X11_strength_70 ?_
            -- to 44 50f@44
            obtain rfl : x_25 = ((i + 1) : Int) := by omega
            exact ih44 V_24 (i + 1) (by omega) hBV_24 fV_24 (by first | assumption | omega) (by unfold sM; rw [eV_24]; exact mx) (by rw [eV_24]; exact x1) (row_s (f := (spS b k c).y) eV_24 rfl hX)
      exact L44 _ V_7 (0) (Nat.lt_succ_self _) hBV_7 fV_7 (by first | assumption | omega) m41 e30 (fun j hj => absurd hj (Nat.not_lt_zero _))
    · exact absurd hkw h18
