set_option maxHeartbeats 1000000 in
set_option maxRecDepth 100000 in
theorem R_X7_isNear {G : GG} {V : VV} {R : RR}  {b : Bk} {h g : Nat} (hB : Bd V) (hF : FinR R) (bCV : bC b V) (ho : bO b) (hh : h < 40) (hg : g < 40) : RunsP G M_X7_isNear 2 [vr 34, vi (h:Int), vi (g:Int)] V R (vi (bi (decide (nr b (V 36 h) (V 37 h) (V 36 g) (V 37 g))))) := by
  unfold RunsP
  refine Runs.of pn_X7 (Nat.le_of_ble_eq_true rfl) rfl ?_
  show TT G M_X7_isNear (rmd 2 162 162) 162 (Zm G 162 162 (QP V R (vi (bi (decide (nr b (V 36 h) (V 37 h) (V 36 g) (V 37 g))))))) 162 0 [(0, vr 34), (1, vi (h:Int)), (2, vi (g:Int))] [] V R
  have hn4 := ho.n
  refine T_al d_X7_isNear_0 rfl ?_
  refine F_gr (b := 36) d_X7_isNear_1 rfl hF rfl ?_
  refine T_il d_X7_isNear_4 rfl ?_
  refine F_ia d_X7_isNear_5 rfl hB rfl ⟨by omega, by omega⟩ (fun b_1 => ?_)
  try simp only [Int.toNat_natCast]
  try simp only [Int.toNat_natCast] at b_1
  refine T_al d_X7_isNear_6 rfl ?_
  refine F_gr (b := 36) d_X7_isNear_7 rfl hF rfl ?_
  refine T_il d_X7_isNear_10 rfl ?_
  refine F_ia d_X7_isNear_11 rfl hB rfl ⟨by omega, by omega⟩ (fun b_2 => ?_)
  try simp only [Int.toNat_natCast]
  try simp only [Int.toNat_natCast] at b_2
  refine T_isub d_X7_isNear_12 ?_
  refine T_mabs d_X7_isNear_13 ⟨by omega, by omega⟩ (Nat.le_of_ble_eq_true rfl) (hmF _) ?_
  refine T_al d_X7_isNear_16 rfl ?_
  refine F_gr (b := 1) d_X7_isNear_17 rfl hF rfl ?_
  refine F_gi d_X7_isNear_20 rfl hB rfl (fun b_3 => ?_)
  rw [bCV.e]
  rw [bCV.e] at b_3
  refine T_igt d_X7_isNear_23 ⟨by omega, by omega⟩ ⟨by omega, by omega⟩ (fun h23 => ?_) (fun h23 => ?_)
  · skip
    refine T_k d_X7_isNear_56 ?_
    -- leaf 23t@57
    exact P_F d_X7_isNear_57 (by intro z; simp only [nr, abI] at z; omega)
  · skip
    refine T_al d_X7_isNear_26 rfl ?_
    refine F_gr (b := 37) d_X7_isNear_27 rfl hF rfl ?_
    refine T_il d_X7_isNear_30 rfl ?_
    refine F_ia d_X7_isNear_31 rfl hB rfl ⟨by omega, by omega⟩ (fun b_4 => ?_)
    try simp only [Int.toNat_natCast]
    try simp only [Int.toNat_natCast] at b_4
    refine T_al d_X7_isNear_32 rfl ?_
    refine F_gr (b := 37) d_X7_isNear_33 rfl hF rfl ?_
    refine T_il d_X7_isNear_36 rfl ?_
    refine F_ia d_X7_isNear_37 rfl hB rfl ⟨by omega, by omega⟩ (fun b_5 => ?_)
    try simp only [Int.toNat_natCast]
    try simp only [Int.toNat_natCast] at b_5
    refine T_isub d_X7_isNear_38 ?_
    refine T_mabs d_X7_isNear_39 ⟨by omega, by omega⟩ (Nat.le_of_ble_eq_true rfl) (hmF _) ?_
    refine T_al d_X7_isNear_42 rfl ?_
    refine F_gr (b := 1) d_X7_isNear_43 rfl hF rfl ?_
    refine F_gi d_X7_isNear_46 rfl hB rfl (fun b_6 => ?_)
    rw [bCV.e]
    rw [bCV.e] at b_6
    refine T_igt d_X7_isNear_49 ⟨by omega, by omega⟩ ⟨by omega, by omega⟩ (fun h49 => ?_) (fun h49 => ?_)
    · skip
      refine T_k d_X7_isNear_56 ?_
      -- leaf 23f.49t@57
      exact P_F d_X7_isNear_57 (by intro z; simp only [nr, abI] at z; omega)
    · skip
      refine T_k d_X7_isNear_52 ?_
      refine T_go d_X7_isNear_53 ?_
      -- leaf 23f.49f@57
      exact P_T d_X7_isNear_57 (by simp only [nr, abI]; omega)
set_option maxHeartbeats 1000000 in
set_option maxRecDepth 100000 in
theorem R_X7_spotFor {G : GG} {V : VV} {R : RR}  {b : Bk} {h c : Nat} {k : Int} (hB : Bd V) (hF : FinR R) (bCV : bC b V) (ho : bO b) (hh : h < b.n) (hs : snC b k V) (hfd : ∀ i, i < b.n → V 36 i = fdX b c i ∧ V 37 i = fdY b c i) (hth : thr b k h) : RunsP G M_X7_spotFor 3 [vr 34, vi (h:Int)] V R (vi (owO b k c h)) := by
  unfold RunsP
  refine Runs.of pn_X7 (Nat.le_of_ble_eq_true rfl) rfl ?_
  show TT G M_X7_spotFor (rmd 3 162 162) 162 (Zm G 162 162 (QP V R (vi (owO b k c h)))) 162 0 [(0, vr 34), (1, vi (h:Int))] [] V R
  have hn4 := ho.n
  have hx1 := (hfd h hh).1
  have hy1 := (hfd h hh).2
  have hth2 := hth
  refine T_al d_X7_spotFor_0 rfl ?_
  refine F_gr (b := 36) d_X7_spotFor_1 rfl hF rfl ?_
  refine T_il d_X7_spotFor_4 rfl ?_
  refine F_ia d_X7_spotFor_5 rfl hB rfl ⟨by omega, by omega⟩ (fun b_1 => ?_)
  try simp only [Int.toNat_natCast]
  try simp only [Int.toNat_natCast] at b_1
  refine T_al d_X7_spotFor_6 rfl ?_
  refine F_gr (b := 37) d_X7_spotFor_7 rfl hF rfl ?_
  refine T_il d_X7_spotFor_10 rfl ?_
  refine F_ia d_X7_spotFor_11 rfl hB rfl ⟨by omega, by omega⟩ (fun b_2 => ?_)
  try simp only [Int.toNat_natCast]
  try simp only [Int.toNat_natCast] at b_2
  refine C_ps2 d_X7_spotFor_12 (hdF (by decide)) (hcF _) (R_X10_isInField (by first | assumption | omega | exact ⟨by omega, by omega⟩ | (subst_vars; simp_all [uV]; done) | grind [uV]) (by first | assumption | omega | exact ⟨by omega, by omega⟩ | (subst_vars; simp_all [uV]; done) | grind [uV])) ?_
  refine F_isg d_X7_spotFor_15 (f := fun x_3 => [(0, vr 34), (1, vi (h:Int)), (2, vi x_3)]) (fun _ => rfl) (fun x_3 ex_3 => ?_)
  have hb2 : x_3 = if fieldP (fdX b c h) (fdY b c h) then 1 else 0 := by rw [ex_3, bi_if, hx1, hy1]
  have hb3 : 0 ≤ x_3 ∧ x_3 ≤ 1 := by rw [hb2]; split <;> omega
  refine T_al d_X7_spotFor_16 rfl ?_
  refine T_il d_X7_spotFor_17 rfl ?_
  refine C_pv1 d_X7_spotFor_18 rfl (hdF (by decide)) (hcF _) (R_X7_isOfSecond hB hF bCV ho hh) ?_
  refine T_pz1 d_X7_spotFor_21 (fun h21 => ?_) (fun h21 => ?_)
  · skip
    refine T_k d_X7_spotFor_34 ?_
    refine T_is d_X7_spotFor_35 (ls' := [(0, vr 34), (1, vi (h:Int)), (2, vi x_3), (3, vi 0)]) rfl ?_
    refine T_k d_X7_spotFor_36 ?_
    refine T_is d_X7_spotFor_37 (ls' := [(0, vr 34), (1, vi (h:Int)), (2, vi x_3), (3, vi 0), (4, vi 0)]) rfl ?_
    -- to 39 21t@39
    have L39 : ∀ (fu : Nat) (v : Int) (g : Nat), b.n - g < fu → (g ≤ b.n) → (∀ i, i < g → nrF b k c h i = false) → (v = if anyB (stk b k (fdX b c h) (fdY b c h)) g = true then 1 else 0) → TT G M_X7_spotFor (rmd 3 162 162) 162 (Zm G 162 162 (QP V R (vi (owO b k c h)))) 162 39 [(0, vr 34), (1, vi (h:Int)), (2, vi x_3), (3, vi v), (4, vi (g : Int))] [] V R := by
      intro fu
      induction fu with
      | zero => intro v g hm; exact absurd hm (Nat.not_lt_zero _)
      | succ fu ih39 =>
        intro v g hm39 hg hno hv
        have hv1 : 0 ≤ v ∧ v ≤ 1 := by rw [hv]; split <;> omega
        refine T_il d_X7_spotFor_39 rfl ?_
        refine T_al d_X7_spotFor_41 rfl ?_
        refine F_gr (b := 1) d_X7_spotFor_42 rfl hF rfl ?_
        refine F_gr (b := 2) d_X7_spotFor_45 rfl hF rfl ?_
        refine F_gi d_X7_spotFor_48 rfl hB rfl (fun b_4 => ?_)
        rw [bCV.n]
        rw [bCV.n] at b_4
        refine T_ige d_X7_spotFor_51 ⟨by omega, by omega⟩ ⟨by omega, by omega⟩ (fun h51 => ?_) (fun h51 => ?_)
        · skip
          refine T_il d_X7_spotFor_117 rfl ?_
          refine T_zeq d_X7_spotFor_118 ⟨by omega, by omega⟩ (fun h118 => ?_) (fun h118 => ?_)
          · skip
            refine T_k d_X7_spotFor_129 ?_
            -- leaf 51t.118t@130
            exact P_I d_X7_spotFor_130 (by rw [show g = b.n by omega] at hno; rw [ow_end hth h21 hno, if_neg (fun z => by rw [if_pos z.1] at hb2; omega)])
          · skip
            refine T_il d_X7_spotFor_121 rfl ?_
            refine T_zne d_X7_spotFor_122 ⟨by omega, by omega⟩ (fun h122 => ?_) (fun h122 => ?_)
            · skip
              refine T_k d_X7_spotFor_129 ?_
              -- leaf 51t.118f.122t@130
              exact P_I d_X7_spotFor_130 (by rw [show g = b.n by omega] at hno hv; rw [ow_end hth h21 hno, if_neg (fun z => by have z2 : ¬ anyB (stk b k (fdX b c h) (fdY b c h)) b.n = true := z.2; rw [if_neg z2] at hv; omega)])
            · skip
              refine T_il d_X7_spotFor_125 rfl ?_
              refine T_go d_X7_spotFor_126 ?_
              -- leaf 51t.118f.122f@130
              exact P_I d_X7_spotFor_130 (by rw [show g = b.n by omega] at hno hv; rw [ow_end hth h21 hno, if_pos ⟨Classical.byContradiction fun z => by rw [if_neg z] at hb2; omega, fun z => by have z : anyB (stk b k (fdX b c h) (fdY b c h)) b.n = true := z; rw [if_pos z] at hv; omega⟩])
        · skip
          have gx := (hfd g (by omega)).1
          have gy := (hfd g (by omega)).2
          refine T_al d_X7_spotFor_54 rfl ?_
          refine F_gr (b := 35) d_X7_spotFor_55 rfl hF rfl ?_
          refine T_il d_X7_spotFor_58 rfl ?_
          refine F_za d_X7_spotFor_60 rfl hB rfl ⟨by omega, by omega⟩ (fun b_5 => ?_)
          try simp only [Int.toNat_natCast]
          try simp only [Int.toNat_natCast] at b_5
          refine T_zeq d_X7_spotFor_61 ⟨by omega, by omega⟩ (fun h61 => ?_) (fun h61 => ?_)
          · skip
            refine F_incg d_X7_spotFor_111 rfl (f := fun x_6 => [(0, vr 34), (1, vi (h:Int)), (2, vi x_3), (3, vi v), (4, vi x_6)]) (fun _ => rfl) (fun x_6 ex_6 => ?_)
            refine T_go d_X7_spotFor_114 ?_
            -- to 39 51f.61t@39
            obtain rfl : x_6 = ((g + 1) : Int) := by omega
            exact ih39 v (g + 1) (by omega) (by first | assumption | omega) (up_all hno (decide_eq_false (fun z => sn_f hs (by omega) h61 z.2.1))) (by rw [hv]; show _ = if (_ || stk b k (fdX b c h) (fdY b c h) g) = true then _ else _; rw [show stk b k (fdX b c h) (fdY b c h) g = false from decide_eq_false (fun z => sn_f hs (by omega) h61 z.2.1), Bool.or_false])
          · skip
            refine T_al d_X7_spotFor_64 rfl ?_
            refine T_il d_X7_spotFor_65 rfl ?_
            refine C_pv1 d_X7_spotFor_67 rfl (hdF (by decide)) (hcF _) (R_X7_isOfSecond hB hF bCV ho (by omega)) ?_
            refine T_pz1 d_X7_spotFor_70 (fun h70 => ?_) (fun h70 => ?_)
            · skip
              refine F_incg d_X7_spotFor_111 rfl (f := fun x_7 => [(0, vr 34), (1, vi (h:Int)), (2, vi x_3), (3, vi v), (4, vi x_7)]) (fun _ => rfl) (fun x_7 ex_7 => ?_)
              refine T_go d_X7_spotFor_114 ?_
              -- to 39 51f.61f.70t@39
              obtain rfl : x_7 = ((g + 1) : Int) := by omega
              exact ih39 v (g + 1) (by omega) (by first | assumption | omega) (up_all hno (decide_eq_false (fun z => by have := z.1; omega))) (by rw [hv]; show _ = if (_ || stk b k (fdX b c h) (fdY b c h) g) = true then _ else _; rw [show stk b k (fdX b c h) (fdY b c h) g = false from decide_eq_false (fun z => by have := z.1; omega), Bool.or_false])
            · skip
              refine T_al d_X7_spotFor_73 rfl ?_
              refine T_il d_X7_spotFor_74 rfl ?_
              refine T_il d_X7_spotFor_75 rfl ?_
              refine C_pv2 d_X7_spotFor_77 rfl (hdF (by decide)) (hcF _) (R_X7_isNear hB hF bCV ho (by omega) (by omega)) ?_
              refine T_pz1 d_X7_spotFor_80 (fun h80 => ?_) (fun h80 => ?_)
              · skip
                have hd0 : b.dg g = 0 := by have := ho.dg g; omega
                have hst : stk b k (fdX b c h) (fdY b c h) g = true := by rw [hx1, hy1, gx, gy, (fd0 hd0).1, (fd0 hd0).2] at h80; exact decide_eq_true ⟨hd0, sn_t hs (by omega) h61, h80⟩
                refine T_al d_X7_spotFor_86 rfl ?_
                refine F_gr (b := 36) d_X7_spotFor_87 rfl hF rfl ?_
                refine T_il d_X7_spotFor_90 rfl ?_
                refine F_ia d_X7_spotFor_92 rfl hB rfl ⟨by omega, by omega⟩ (fun b_8 => ?_)
                try simp only [Int.toNat_natCast]
                try simp only [Int.toNat_natCast] at b_8
                refine T_al d_X7_spotFor_93 rfl ?_
                refine F_gr (b := 37) d_X7_spotFor_94 rfl hF rfl ?_
                refine T_il d_X7_spotFor_97 rfl ?_
                refine F_ia d_X7_spotFor_99 rfl hB rfl ⟨by omega, by omega⟩ (fun b_9 => ?_)
                try simp only [Int.toNat_natCast]
                try simp only [Int.toNat_natCast] at b_9
                refine C_ps2 d_X7_spotFor_100 (hdF (by decide)) (hcF _) (R_X10_isInField (by first | assumption | omega | exact ⟨by omega, by omega⟩ | (subst_vars; simp_all [uV]; done) | grind [uV]) (by first | assumption | omega | exact ⟨by omega, by omega⟩ | (subst_vars; simp_all [uV]; done) | grind [uV])) ?_
                refine T_pz0 d_X7_spotFor_103 (fun h103 => ?_) (fun h103 => ?_)
                · skip
                  refine T_k d_X7_spotFor_109 ?_
                  refine T_is d_X7_spotFor_110 (ls' := [(0, vr 34), (1, vi (h:Int)), (2, vi x_3), (3, vi 1), (4, vi (g : Int))]) rfl ?_
                  refine F_incg d_X7_spotFor_111 rfl (f := fun x_10 => [(0, vr 34), (1, vi (h:Int)), (2, vi x_3), (3, vi 1), (4, vi x_10)]) (fun _ => rfl) (fun x_10 ex_10 => ?_)
                  refine T_go d_X7_spotFor_114 ?_
                  -- to 39 51f.61f.70f.80t.103t@39
                  rw [gx, gy] at h103
                  obtain rfl : x_10 = ((g + 1) : Int) := by omega
                  exact ih39 1 (g + 1) (by omega) (by first | assumption | omega) (up_all hno (sp_nf h103)) (by show _ = if (_ || stk b k (fdX b c h) (fdY b c h) g) = true then _ else _; rw [hst, Bool.or_true, if_pos rfl])
                · skip
                  refine T_il d_X7_spotFor_106 rfl ?_
                  -- leaf 51f.61f.70f.80t.103f@108
                  exact P_I d_X7_spotFor_108 (by rw [gx, gy] at h103; exact (ow_hit hth h21 (by omega) (sp_f hd0 hst h103) hno).symm)
              · skip
                refine T_go d_X7_spotFor_83 ?_
                refine F_incg d_X7_spotFor_111 rfl (f := fun x_11 => [(0, vr 34), (1, vi (h:Int)), (2, vi x_3), (3, vi v), (4, vi x_11)]) (fun _ => rfl) (fun x_11 ex_11 => ?_)
                refine T_go d_X7_spotFor_114 ?_
                -- to 39 51f.61f.70f.80f@39
                have hd0 : b.dg g = 0 := by have := ho.dg g; omega
                rw [hx1, hy1, gx, gy, (fd0 hd0).1, (fd0 hd0).2] at h80
                obtain rfl : x_11 = ((g + 1) : Int) := by omega
                exact ih39 v (g + 1) (by omega) (by first | assumption | omega) (up_all hno (decide_eq_false (fun z => h80 z.2.2.2))) (by rw [hv]; show _ = if (_ || stk b k (fdX b c h) (fdY b c h) g) = true then _ else _; rw [show stk b k (fdX b c h) (fdY b c h) g = false from decide_eq_false (fun z => h80 z.2.2), Bool.or_false])
    exact L39 _ 0 (0) (Nat.lt_succ_self _) (by first | assumption | omega) (fun i hi => absurd hi (Nat.not_lt_zero _)) rfl
  · skip
    refine T_il d_X7_spotFor_24 rfl ?_
    refine T_zeq d_X7_spotFor_25 ⟨by omega, by omega⟩ (fun h25 => ?_) (fun h25 => ?_)
    · skip
      refine T_k d_X7_spotFor_32 ?_
      -- leaf 21f.25t@33
      exact P_I d_X7_spotFor_33 (by rw [ow_first hth h21, if_neg (fun z => by rw [if_pos z] at hb2; omega)])
    · skip
      refine T_il d_X7_spotFor_28 rfl ?_
      refine T_go d_X7_spotFor_29 ?_
      -- leaf 21f.25f@33
      exact P_I d_X7_spotFor_33 (by rw [ow_first hth h21, if_pos (Classical.byContradiction fun z => by rw [if_neg z] at hb2; omega)])
set_option maxHeartbeats 1000000 in
set_option maxRecDepth 100000 in
theorem R_X7_nameSpots {G : GG} {V : VV} {R : RR}  {b : Bk} {c : Nat} {k : Int} (hB : Bd V) (hF : FinR R) (bCV : bC b V) (ho : bO b) (hs : snC b k V) (hfd : ∀ i, i < b.n → V 36 i = fdX b c i ∧ V 37 i = fdY b c i) : Runs G M_X7_nameSpots 4 162 162 [vr 34] V R (PQ [(39, 39), (41, 41)] [(34, 8, 8)] V R (fun r X => r = none ∧ nmC b k c b.n X)) := by
  refine Runs.of pn_X7 (Nat.le_of_ble_eq_true rfl) rfl ?_
  show TT G M_X7_nameSpots (rmd 4 162 162) 162 (Zm G 162 162 (PQ [(39, 39), (41, 41)] [(34, 8, 8)] V R (fun r X => r = none ∧ nmC b k c b.n X))) 162 0 [(0, vr 34)] [] V R
  have fV : chg [(39, 39), (41, 41)] [(34, 8, 8)] V V := chg_r
  have hn4 := ho.n
  refine T_al d_X7_nameSpots_0 rfl ?_
  refine T_k d_X7_nameSpots_1 ?_
  refine F_pi d_X7_nameSpots_2 rfl hB rfl ⟨by omega, by omega⟩ (fun V_1 eV_1 hBV_1 => ?_)
  have fV_1 := chg_u eV_1 rfl fV
  have bCV_1 := bC_c bCV fV_1 rfl
  refine T_k d_X7_nameSpots_5 ?_
  refine T_is d_X7_nameSpots_6 (ls' := [(0, vr 34), (1, vi 0)]) rfl ?_
  -- to 7 @7
  have L7 : ∀ (fu : Nat) (X : VV) (h : Nat), b.n - h < fu → (Bd X) → (chg [(39, 39), (41, 41)] [(34, 8, 8)] V X) → (h ≤ b.n) → (nmC b k c h X) → TT G M_X7_nameSpots (rmd 4 162 162) 162 (Zm G 162 162 (PQ [(39, 39), (41, 41)] [(34, 8, 8)] V R (fun r X => r = none ∧ nmC b k c b.n X))) 162 7 [(0, vr 34), (1, vi (h : Int))] [] X R := by
    intro fu
    induction fu with
    | zero => intro X h hm; exact absurd hm (Nat.not_lt_zero _)
    | succ fu ih7 =>
      intro X h hm7 hBX fX hh hL
      have bCX := bC_c bCV fX rfl
      have sX : snC b k X := by unfold snC; rw [chg_k (c := 35) fX rfl]; exact hs
      have xX : ∀ i, i < b.n → X 36 i = fdX b c i ∧ X 37 i = fdY b c i := by rw [chg_k (c := 36) fX rfl, chg_k (c := 37) fX rfl]; exact hfd
      have hsn := cntB_le (p := isSp b k c) (n := h)
      have h8 := hL.1
      refine T_il d_X7_nameSpots_7 rfl ?_
      refine T_al d_X7_nameSpots_8 rfl ?_
      refine F_gr (b := 1) d_X7_nameSpots_9 rfl hF rfl ?_
      refine F_gr (b := 2) d_X7_nameSpots_12 rfl hF rfl ?_
      refine F_gi d_X7_nameSpots_15 rfl hBX rfl (fun b_2 => ?_)
      rw [bCX.n]
      rw [bCX.n] at b_2
      refine T_ige d_X7_nameSpots_18 ⟨by omega, by omega⟩ ⟨by omega, by omega⟩ (fun h18 => ?_) (fun h18 => ?_)
      · skip
        -- leaf 18t@81
        refine T_vret d_X7_nameSpots_81 rfl ?_
        rw [show h = b.n by omega] at hL
        exact ⟨rfl, hBX, fX, rfl, hL⟩
      · skip
        refine T_al d_X7_nameSpots_21 rfl ?_
        refine F_gr (b := 39) d_X7_nameSpots_22 rfl hF rfl ?_
        refine T_il d_X7_nameSpots_25 rfl ?_
        refine T_al d_X7_nameSpots_26 rfl ?_
        refine F_gr (b := 35) d_X7_nameSpots_27 rfl hF rfl ?_
        refine T_il d_X7_nameSpots_30 rfl ?_
        refine F_za d_X7_nameSpots_31 rfl hBX rfl ⟨by omega, by omega⟩ (fun b_3 => ?_)
        try simp only [Int.toNat_natCast]
        try simp only [Int.toNat_natCast] at b_3
        refine T_zeq d_X7_nameSpots_32 ⟨by omega, by omega⟩ (fun h32 => ?_) (fun h32 => ?_)
        · skip
          have hnt := ow_nt (c := c) (sn_f sX (by omega) h32)
          refine T_k d_X7_nameSpots_43 ?_
          refine F_is d_X7_nameSpots_44 rfl hBX rfl ⟨by omega, by omega⟩ ⟨by omega, by omega⟩ (fun V_4 eV_4 hBV_4 => ?_)
          have fV_4 := chg_u eV_4 rfl fX
          have bCV_4 := bC_c bCV fV_4 rfl
          refine T_al d_X7_nameSpots_45 rfl ?_
          refine F_gr (b := 39) d_X7_nameSpots_46 rfl hF rfl ?_
          refine T_il d_X7_nameSpots_49 rfl ?_
          refine F_ia d_X7_nameSpots_50 rfl hBV_4 rfl ⟨by omega, by omega⟩ (fun b_5 => ?_)
          try simp only [Int.toNat_natCast]
          try simp only [Int.toNat_natCast] at b_5
          refine T_il d_X7_nameSpots_51 rfl ?_
          refine T_ine d_X7_nameSpots_52 ⟨by omega, by omega⟩ ⟨by omega, by omega⟩ (fun h52 => ?_) (fun h52 => ?_)
          · skip
            refine F_incg d_X7_nameSpots_75 rfl (f := fun x_6 => [(0, vr 34), (1, vi x_6)]) (fun _ => rfl) (fun x_6 ex_6 => ?_)
            refine T_go d_X7_nameSpots_78 ?_
            -- to 7 18f.32t.52t@7
            obtain rfl : x_6 = ((h + 1) : Int) := by omega
            exact ih7 V_4 (h + 1) (by omega) hBV_4 fV_4 (by first | assumption | omega) (nm_s hL hnt.2 hnt.1.symm eV_4)
          · exact absurd h52 (by rw [show V_4 39 h = -1 by rw [eV_4]; exact uV_self]; omega)
        · skip
          have hth := sn_t sX (by omega) h32
          have how : -1 ≤ owO b k c h ∧ owO b k c h ≤ 39 := by rcases ow_is (k := k) (c := c) (show h < b.n by omega) with w | ⟨g, h1, h2, _⟩ <;> omega
          refine T_al d_X7_nameSpots_35 rfl ?_
          refine T_il d_X7_nameSpots_36 rfl ?_
          refine C_pv1 d_X7_nameSpots_37 rfl (hdF (by decide)) (hcF _) (R_X7_spotFor (k := k) (c := c) hBX hF bCX ho (by omega) sX xX hth) ?_
          refine T_go d_X7_nameSpots_40 ?_
          refine F_is d_X7_nameSpots_44 rfl hBX rfl ⟨by omega, by omega⟩ ⟨by omega, by omega⟩ (fun V_7 eV_7 hBV_7 => ?_)
          have fV_7 := chg_u eV_7 rfl fX
          have bCV_7 := bC_c bCV fV_7 rfl
          refine T_al d_X7_nameSpots_45 rfl ?_
          refine F_gr (b := 39) d_X7_nameSpots_46 rfl hF rfl ?_
          refine T_il d_X7_nameSpots_49 rfl ?_
          refine F_ia d_X7_nameSpots_50 rfl hBV_7 rfl ⟨by omega, by omega⟩ (fun b_8 => ?_)
          try simp only [Int.toNat_natCast]
          try simp only [Int.toNat_natCast] at b_8
          refine T_il d_X7_nameSpots_51 rfl ?_
          refine T_ine d_X7_nameSpots_52 ⟨by omega, by omega⟩ ⟨by omega, by omega⟩ (fun h52 => ?_) (fun h52 => ?_)
          · skip
            refine F_incg d_X7_nameSpots_75 rfl (f := fun x_9 => [(0, vr 34), (1, vi x_9)]) (fun _ => rfl) (fun x_9 ex_9 => ?_)
            refine T_go d_X7_nameSpots_78 ?_
            -- to 7 18f.32f.52t@7
            rw [show V_7 39 h = owO b k c h by rw [eV_7]; exact uV_self] at h52
            obtain rfl : x_9 = ((h + 1) : Int) := by omega
            exact ih7 V_7 (h + 1) (by omega) hBV_7 fV_7 (by first | assumption | omega) (nm_s hL (fun z => h52 (ow_sp z)) rfl eV_7)
          · skip
            refine T_al d_X7_nameSpots_55 rfl ?_
            refine F_gr (b := 41) d_X7_nameSpots_56 rfl hF rfl ?_
            refine T_al d_X7_nameSpots_59 rfl ?_
            refine F_gi d_X7_nameSpots_60 rfl hBV_7 rfl (fun b_10 => ?_)
            have fV_7_34_8 : V_7 34 8 = X 34 8 := by rw [eV_7]; rfl
            rw [fV_7_34_8]
            rw [fV_7_34_8] at b_10
            refine T_il d_X7_nameSpots_63 rfl ?_
            refine F_is d_X7_nameSpots_64 rfl hBV_7 rfl ⟨by omega, by omega⟩ ⟨by omega, by omega⟩ (fun V_11 eV_11 hBV_11 => ?_)
            have fV_11 := chg_u eV_11 rfl fV_7
            have bCV_11 := bC_c bCV fV_11 rfl
            refine T_al d_X7_nameSpots_65 rfl ?_
            refine T_dup d_X7_nameSpots_66 rfl ?_
            refine F_gi d_X7_nameSpots_67 rfl hBV_11 rfl (fun b_12 => ?_)
            have fV_11_34_8 : V_11 34 8 = X 34 8 := by rw [eV_11, eV_7]; rfl
            rw [fV_11_34_8]
            rw [fV_11_34_8] at b_12
            refine T_k d_X7_nameSpots_70 ?_
            refine T_iadd d_X7_nameSpots_71 ?_
            refine F_pi d_X7_nameSpots_72 rfl hBV_11 rfl ⟨by omega, by omega⟩ (fun V_13 eV_13 hBV_13 => ?_)
            have fV_13 := chg_u eV_13 rfl fV_11
            have bCV_13 := bC_c bCV fV_13 rfl
            refine F_incg d_X7_nameSpots_75 rfl (f := fun x_14 => [(0, vr 34), (1, vi x_14)]) (fun _ => rfl) (fun x_14 ex_14 => ?_)
            refine T_go d_X7_nameSpots_78 ?_
            -- to 7 18f.32f.52f@7
            rw [show V_7 39 h = owO b k c h by rw [eV_7]; exact uV_self] at h52
            obtain rfl : x_14 = ((h + 1) : Int) := by omega
            exact ih7 V_13 (h + 1) (by omega) hBV_13 fV_13 (by first | assumption | omega) (nm_a (by omega) hL ((ow_self (by omega)).mp h52) rfl rfl (by rw [eV_13, eV_11, eV_7, Int.toNat_natCast]))
  exact L7 _ V_1 (0) (Nat.lt_succ_self _) hBV_1 fV_1 (by first | assumption | omega) ⟨by rw [eV_1]; rfl, fun i hi => absurd hi (Nat.not_lt_zero _), fun i hi => absurd hi (Nat.not_lt_zero _)⟩
set_option maxHeartbeats 1000000 in
set_option maxRecDepth 100000 in
theorem R_X7_deepenSpots {G : GG} {V : VV} {R : RR}  {b : Bk} {c : Nat} {k : Int} (hB : Bd V) (hF : FinR R) (bCV : bC b V) (ho : bO b) (hfd : ∀ i, i < b.n → V 36 i = fdX b c i ∧ V 37 i = fdY b c i) (hnm : nmC b k c b.n V) (hdp : ∀ i, i < b.n → V 38 i = depO b k i) : Runs G M_X7_deepenSpots 4 162 162 [vr 34] V R (PQ [(40, 40)] [] V R (fun r X => r = none ∧ ∀ i, i < nSp b k c → X 40 (shO b k c i) = fulO b k c (shO b k c i))) := by
  refine Runs.of pn_X7 (Nat.le_of_ble_eq_true rfl) rfl ?_
  show TT G M_X7_deepenSpots (rmd 4 162 162) 162 (Zm G 162 162 (PQ [(40, 40)] [] V R (fun r X => r = none ∧ ∀ i, i < nSp b k c → X 40 (shO b k c i) = fulO b k c (shO b k c i)))) 162 0 [(0, vr 34)] [] V R
  have fV : chg [(40, 40)] [] V V := chg_r
  have hn4 := ho.n
  have hsn := nSp_le (b := b) (k := k) (c := c)
  refine T_al d_X7_deepenSpots_0 rfl ?_
  refine F_gr (b := 40) d_X7_deepenSpots_1 rfl hF rfl ?_
  refine T_k d_X7_deepenSpots_4 ?_
  refine C_s2 d_X7_deepenSpots_5 (hdF (by decide)) (hcF _) (R_fill_40 hB hF ⟨by omega, by omega⟩) (fun r_1 V_2 R_3 qV_2 => ?_)
  obtain ⟨rfl, hBV_2, cV_2, rfl, pV_2⟩ := qV_2
  have fV_2 := chg_t (A := [(40, 40)]) (F := []) fV cV_2 rfl
  have bCV_2 := bC_c bCV fV_2 rfl
  refine T_k d_X7_deepenSpots_8 ?_
  refine T_is d_X7_deepenSpots_9 (ls' := [(0, vr 34), (1, vi 0)]) rfl ?_
  -- to 10 @10
  have L10 : ∀ (fu : Nat) (X : VV) (h : Nat), b.n - h < fu → (Bd X) → (chg [(40, 40)] [] V X) → (h ≤ b.n) → (∀ g, g < 40 → X 40 g = mxD b k c g h) → TT G M_X7_deepenSpots (rmd 4 162 162) 162 (Zm G 162 162 (PQ [(40, 40)] [] V R (fun r X => r = none ∧ ∀ i, i < nSp b k c → X 40 (shO b k c i) = fulO b k c (shO b k c i)))) 162 10 [(0, vr 34), (1, vi (h : Int))] [] X R := by
    intro fu
    induction fu with
    | zero => intro X h hm; exact absurd hm (Nat.not_lt_zero _)
    | succ fu ih10 =>
      intro X h hm10 hBX fX hh hL
      have bCX := bC_c bCV fX rfl
      refine T_il d_X7_deepenSpots_10 rfl ?_
      refine T_al d_X7_deepenSpots_11 rfl ?_
      refine F_gr (b := 1) d_X7_deepenSpots_12 rfl hF rfl ?_
      refine F_gr (b := 2) d_X7_deepenSpots_15 rfl hF rfl ?_
      refine F_gi d_X7_deepenSpots_18 rfl hBX rfl (fun b_4 => ?_)
      rw [bCX.n]
      rw [bCX.n] at b_4
      refine T_ige d_X7_deepenSpots_21 ⟨by omega, by omega⟩ ⟨by omega, by omega⟩ (fun h21 => ?_) (fun h21 => ?_)
      · skip
        refine T_k d_X7_deepenSpots_68 ?_
        refine T_is d_X7_deepenSpots_69 (ls' := [(0, vr 34), (1, vi 0)]) rfl ?_
        -- to 70 21t@70
        have L70 : ∀ (fu : Nat) (Y : VV) (i : Nat), nSp b k c - i < fu → (Bd Y) → (chg [(40, 40)] [] V Y) → (i ≤ nSp b k c) → (∀ j, j < nSp b k c → Y 40 (shO b k c j) = if j < i then fulO b k c (shO b k c j) else mxD b k c (shO b k c j) b.n) → TT G M_X7_deepenSpots (rmd 4 162 162) 162 (Zm G 162 162 (PQ [(40, 40)] [] V R (fun r X => r = none ∧ ∀ i, i < nSp b k c → X 40 (shO b k c i) = fulO b k c (shO b k c i)))) 162 70 [(0, vr 34), (1, vi (i : Int))] [] Y R := by
          intro fu
          induction fu with
          | zero => intro Y i hm; exact absurd hm (Nat.not_lt_zero _)
          | succ fu ih70 =>
            intro Y i hm70 hBY fY hi hL
            have bCY := bC_c bCV fY rfl
            have h8 : Y 34 8 = (nSp b k c : Int) := by rw [chg_k (c := 34) fY rfl]; exact hnm.1
            refine T_il d_X7_deepenSpots_70 rfl ?_
            refine T_al d_X7_deepenSpots_71 rfl ?_
            refine F_gi d_X7_deepenSpots_72 rfl hBY rfl (fun b_5 => ?_)
            refine T_ige d_X7_deepenSpots_75 ⟨by omega, by omega⟩ ⟨by omega, by omega⟩ (fun h75 => ?_) (fun h75 => ?_)
            · skip
              -- leaf 75t@119
              refine T_vret d_X7_deepenSpots_119 rfl ?_
              exact ⟨rfl, hBY, fY, rfl, fun j hj => by rw [hL j hj, if_pos (by omega)]⟩
            · skip
              have o41 : Y 41 i = (shO b k c i : Int) := by rw [chg_k (c := 41) fY rfl]; exact hnm.2.2 i (show i < nSp b k c by omega)
              have hsh : shO b k c i < b.n := (nth_ok (p := isSp b k c) (n := b.n) (i := i) (show i < nSp b k c by omega)).1
              have x0 : Y 36 (shO b k c i) = fdX b c (shO b k c i) := by rw [chg_k (c := 36) fY rfl]; exact (hfd _ hsh).1
              have y0 : Y 37 (shO b k c i) = fdY b c (shO b k c i) := by rw [chg_k (c := 37) fY rfl]; exact (hfd _ hsh).2
              refine T_al d_X7_deepenSpots_78 rfl ?_
              refine F_gr (b := 41) d_X7_deepenSpots_79 rfl hF rfl ?_
              refine T_il d_X7_deepenSpots_82 rfl ?_
              refine F_ia d_X7_deepenSpots_83 rfl hBY rfl ⟨by omega, by omega⟩ (fun b_6 => ?_)
              try simp only [Int.toNat_natCast, o41]
              try simp only [Int.toNat_natCast, o41] at b_6
              refine F_isg d_X7_deepenSpots_84 (f := fun x_7 => [(0, vr 34), (1, vi (i : Int)), (2, vi x_7)]) (fun _ => rfl) (fun x_7 ex_7 => ?_)
              have i1 : (x_7).toNat = shO b k c i := by omega
              have hm1 : 0 ≤ Y 40 (shO b k c i) ∧ Y 40 (shO b k c i) ≤ 200 := by rw [hL i (by omega), if_neg (by omega)]; exact mxD_b ho _
              have hp1 : 0 ≤ plgO b (fdX b c (shO b k c i)) (fdY b c (shO b k c i)) ∧ plgO b (fdX b c (shO b k c i)) (fdY b c (shO b k c i)) ≤ 100 := plg_b ho b.pn
              refine T_al d_X7_deepenSpots_85 rfl ?_
              refine F_gr (b := 40) d_X7_deepenSpots_86 rfl hF rfl ?_
              refine T_il d_X7_deepenSpots_89 rfl ?_
              refine T_dup2 d_X7_deepenSpots_90 rfl rfl ?_
              refine F_ia d_X7_deepenSpots_91 rfl hBY rfl ⟨by omega, by omega⟩ (fun b_8 => ?_)
              try simp only [Int.toNat_natCast, i1]
              try simp only [Int.toNat_natCast, i1] at b_8
              refine T_al d_X7_deepenSpots_92 rfl ?_
              refine F_gr (b := 1) d_X7_deepenSpots_93 rfl hF rfl ?_
              refine T_al d_X7_deepenSpots_96 rfl ?_
              refine F_gr (b := 36) d_X7_deepenSpots_97 rfl hF rfl ?_
              refine T_il d_X7_deepenSpots_100 rfl ?_
              refine F_ia d_X7_deepenSpots_101 rfl hBY rfl ⟨by omega, by omega⟩ (fun b_9 => ?_)
              try simp only [Int.toNat_natCast, i1, x0]
              try simp only [Int.toNat_natCast, i1, x0] at b_9
              refine T_al d_X7_deepenSpots_102 rfl ?_
              refine F_gr (b := 37) d_X7_deepenSpots_103 rfl hF rfl ?_
              refine T_il d_X7_deepenSpots_106 rfl ?_
              refine F_ia d_X7_deepenSpots_107 rfl hBY rfl ⟨by omega, by omega⟩ (fun b_10 => ?_)
              try simp only [Int.toNat_natCast, i1, y0]
              try simp only [Int.toNat_natCast, i1, y0] at b_10
              refine C_pv2 d_X7_deepenSpots_108 rfl (hdF (by decide)) (hcF _) (R_X0_ploughedAt hBY hF bCY ho ⟨by omega, by omega⟩ ⟨by omega, by omega⟩) ?_
              refine T_iadd d_X7_deepenSpots_111 ?_
              refine F_is d_X7_deepenSpots_112 rfl hBY rfl ⟨by omega, by omega⟩ ⟨by omega, by omega⟩ (fun V_11 eV_11 hBV_11 => ?_)
              have fV_11 := chg_u eV_11 rfl fY
              have bCV_11 := bC_c bCV fV_11 rfl
              refine F_incg d_X7_deepenSpots_113 rfl (f := fun x_12 => [(0, vr 34), (1, vi x_12), (2, vi x_7)]) (fun _ => rfl) (fun x_12 ex_12 => ?_)
              refine T_go d_X7_deepenSpots_116 ?_
              -- to 70 75f@70
              refine T_subp (ks := [0, 1]) (ls' := [(0, vr 34), (1, vi x_12)]) rfl ?_
              obtain rfl : x_12 = ((i + 1) : Int) := by omega
              exact ih70 V_11 (i + 1) (by omega) hBV_11 fV_11 (by first | assumption | omega) (fl_s hL (by omega) rfl (by rw [eV_11, i1]))
        exact L70 _ X (0) (Nat.lt_succ_self _) hBX fX (by first | assumption | omega) (fun j hj => by rw [if_neg (Nat.not_lt_zero _), hL _ (by have := (nth_ok (p := isSp b k c) (n := b.n) (i := j) hj).1; unfold shO; omega), show h = b.n by omega])
      · skip
        have o39 : X 39 h = owO b k c h := by rw [chg_k (c := 39) fX rfl]; exact hnm.2.1 h (by omega)
        have o38 : X 38 h = depO b k h := by rw [chg_k (c := 38) fX rfl]; exact hdp h (by omega)
        have hd2 : 0 ≤ depO b k h ∧ depO b k h ≤ 200 := dep_b ho b.rn
        refine T_al d_X7_deepenSpots_24 rfl ?_
        refine F_gr (b := 39) d_X7_deepenSpots_25 rfl hF rfl ?_
        refine T_il d_X7_deepenSpots_28 rfl ?_
        refine F_ia d_X7_deepenSpots_29 rfl hBX rfl ⟨by omega, by omega⟩ (fun b_13 => ?_)
        try simp only [Int.toNat_natCast, o39]
        try simp only [Int.toNat_natCast, o39] at b_13
        refine F_isg d_X7_deepenSpots_30 (f := fun x_14 => [(0, vr 34), (1, vi (h : Int)), (2, vi x_14)]) (fun _ => rfl) (fun x_14 ex_14 => ?_)
        have how := ow_is (k := k) (c := c) (show h < b.n by omega)
        refine T_il d_X7_deepenSpots_31 rfl ?_
        refine T_k d_X7_deepenSpots_32 ?_
        refine T_k d_X7_deepenSpots_33 ?_
        refine C_ps3 d_X7_deepenSpots_35 (hdF (by decide)) (hcF _) (R_X10_isIn (by first | assumption | omega | exact ⟨by omega, by omega⟩ | (subst_vars; simp_all [uV]; done) | grind [uV]) (by first | assumption | omega | exact ⟨by omega, by omega⟩ | (subst_vars; simp_all [uV]; done) | grind [uV]) (by first | assumption | omega | exact ⟨by omega, by omega⟩ | (subst_vars; simp_all [uV]; done) | grind [uV])) ?_
        refine T_pz0 d_X7_deepenSpots_38 (fun h38 => ?_) (fun h38 => ?_)
        · skip
          refine F_incg d_X7_deepenSpots_62 rfl (f := fun x_15 => [(0, vr 34), (1, vi x_15), (2, vi x_14)]) (fun _ => rfl) (fun x_15 ex_15 => ?_)
          refine T_go d_X7_deepenSpots_65 ?_
          -- to 10 21f.38t@10
          refine T_subp (ks := [0, 1]) (ls' := [(0, vr 34), (1, vi x_15)]) rfl ?_
          obtain rfl : x_15 = ((h + 1) : Int) := by omega
          exact ih10 X (h + 1) (by omega) hBX fX (by first | assumption | omega) (fun g hg => by rw [mx_n (by omega)]; exact hL g hg)
        · skip
          obtain ⟨g0, hg0, eg0, _⟩ := how.resolve_left (fun w => by omega)
          clear how
          have i0 : (x_14).toNat = g0 := by omega
          refine T_al d_X7_deepenSpots_41 rfl ?_
          refine F_gr (b := 40) d_X7_deepenSpots_42 rfl hF rfl ?_
          refine T_il d_X7_deepenSpots_45 rfl ?_
          refine T_al d_X7_deepenSpots_46 rfl ?_
          refine F_gr (b := 40) d_X7_deepenSpots_47 rfl hF rfl ?_
          refine T_il d_X7_deepenSpots_50 rfl ?_
          refine F_ia d_X7_deepenSpots_51 rfl hBX rfl ⟨by omega, by omega⟩ (fun b_16 => ?_)
          try simp only [Int.toNat_natCast, i0]
          try simp only [Int.toNat_natCast, i0] at b_16
          refine T_al d_X7_deepenSpots_52 rfl ?_
          refine F_gr (b := 38) d_X7_deepenSpots_53 rfl hF rfl ?_
          refine T_il d_X7_deepenSpots_56 rfl ?_
          refine F_ia d_X7_deepenSpots_57 rfl hBX rfl ⟨by omega, by omega⟩ (fun b_17 => ?_)
          try simp only [Int.toNat_natCast, o38]
          try simp only [Int.toNat_natCast, o38] at b_17
          refine T_mmax d_X7_deepenSpots_58 ⟨by omega, by omega⟩ ⟨by omega, by omega⟩ (Nat.le_of_ble_eq_true rfl) (hmF _) ?_
          refine F_is d_X7_deepenSpots_61 rfl hBX rfl ⟨by omega, by omega⟩ ⟨by omega, by omega⟩ (fun V_18 eV_18 hBV_18 => ?_)
          have fV_18 := chg_u eV_18 rfl fX
          have bCV_18 := bC_c bCV fV_18 rfl
          refine F_incg d_X7_deepenSpots_62 rfl (f := fun x_19 => [(0, vr 34), (1, vi x_19), (2, vi x_14)]) (fun _ => rfl) (fun x_19 ex_19 => ?_)
          refine T_go d_X7_deepenSpots_65 ?_
          -- to 10 21f.38f@10
          refine T_subp (ks := [0, 1]) (ls' := [(0, vr 34), (1, vi x_19)]) rfl ?_
          obtain rfl : x_19 = ((h + 1) : Int) := by omega
          exact ih10 V_18 (h + 1) (by omega) hBV_18 fV_18 (by first | assumption | omega) (dp_s hL eg0 (by first | rfl | (split <;> split <;> omega)) (by omega) eV_18 i0)
  exact L10 _ V_2 (0) (Nat.lt_succ_self _) hBV_2 fV_2 (by first | assumption | omega) (fun g hg => pV_2 g hg)
