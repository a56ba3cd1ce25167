set_option maxHeartbeats 1000000 in
set_option maxRecDepth 100000 in
theorem R_X11_parts {G : GG} {V : VV} {R : RR}  {a b : Nat} (hB : Bd V) (hF : FinR R) (ha : a ≤ 8) (hb : b ≤ 8) : RunsP G M_X11_parts 1 [vr 99, vi (a:Int), vi (b:Int)] V R (vi (bi (decide (anyB (prB V a b) 4 = true)))) := by
  unfold RunsP
  refine Runs.of pn_X11 (Nat.le_of_ble_eq_true rfl) rfl ?_
  show TT G M_X11_parts (rmd 1 162 162) 162 (Zm G 162 162 (QP V R (vi (bi (decide (anyB (prB V a b) 4 = true)))))) 162 0 [(0, vr 99), (1, vi (a:Int)), (2, vi (b:Int))] [] V R
  have hcb : ∀ {i t : Nat} (o : Nat), (-9000000000000 ≤ crs V a o i t ∧ crs V a o i t ≤ 9000000000000) ∧ -9000000000000 ≤ dts V a o i t ∧ dts V a o i t ≤ 9000000000000 := fun o => crs_b hB
  refine T_k d_X11_parts_0 ?_
  refine T_is d_X11_parts_1 (ls' := [(0, vr 99), (1, vi (a:Int)), (2, vi (b:Int)), (3, vi 0)]) rfl ?_
  -- to 2 @2
  have L2 : ∀ (fu : Nat) (i : Nat), 4 - i < fu → (i ≤ 4) → (∀ t, t < i → prB V a b t = false) → TT G M_X11_parts (rmd 1 162 162) 162 (Zm G 162 162 (QP V R (vi (bi (decide (anyB (prB V a b) 4 = true)))))) 162 2 [(0, vr 99), (1, vi (a:Int)), (2, vi (b:Int)), (3, vi (i : Int))] [] V R := by
    intro fu
    induction fu with
    | zero => intro i hm; exact absurd hm (Nat.not_lt_zero _)
    | succ fu ih2 =>
      intro i hm2 hi hno
      refine T_il d_X11_parts_2 rfl ?_
      refine T_k d_X11_parts_3 ?_
      refine T_ige d_X11_parts_4 ⟨by omega, by omega⟩ ⟨by omega, by omega⟩ (fun h4 => ?_) (fun h4 => ?_)
      · skip
        refine T_k d_X11_parts_452 ?_
        -- leaf 4t@453
        exact P_F d_X11_parts_453 (by intro z; obtain ⟨t, t1, t2⟩ := anyB_iff.mp z; rw [hno t (by omega)] at t2; cases t2)
      · skip
        refine T_al d_X11_parts_7 rfl ?_
        refine F_gr (b := 158) d_X11_parts_8 rfl hF rfl ?_
        refine T_il d_X11_parts_11 rfl ?_
        refine T_k d_X11_parts_12 ?_
        refine T_il d_X11_parts_13 rfl ?_
        refine T_imul d_X11_parts_14 ?_
        refine T_iadd d_X11_parts_15 ?_
        refine F_la d_X11_parts_16 rfl hB rfl ⟨by omega, by omega⟩ (fun b_1 => ?_)
        try simp only [Int.toNat_natCast, show ((a : Int) + 2 * (i : Int)).toNat = a + 2 * i from by omega]
        try simp only [Int.toNat_natCast, show ((a : Int) + 2 * (i : Int)).toNat = a + 2 * i from by omega] at b_1
        refine F_lsg d_X11_parts_17 (f := fun y_2 => [(0, vr 99), (1, vi (a:Int)), (2, vi (b:Int)), (3, vi (i : Int)), (4, vj y_2)]) (fun _ => rfl) (fun y_2 ey_2 => ?_)
        refine T_al d_X11_parts_19 rfl ?_
        refine F_gr (b := 158) d_X11_parts_20 rfl hF rfl ?_
        refine T_il d_X11_parts_23 rfl ?_
        refine T_k d_X11_parts_24 ?_
        refine T_il d_X11_parts_25 rfl ?_
        refine T_imul d_X11_parts_26 ?_
        refine T_iadd d_X11_parts_27 ?_
        refine T_k d_X11_parts_28 ?_
        refine T_iadd d_X11_parts_29 ?_
        refine F_la d_X11_parts_30 rfl hB rfl ⟨by omega, by omega⟩ (fun b_3 => ?_)
        try simp only [Int.toNat_natCast, show ((a : Int) + 2 * (i : Int) + 1).toNat = a + 2 * i + 1 from by omega]
        try simp only [Int.toNat_natCast, show ((a : Int) + 2 * (i : Int) + 1).toNat = a + 2 * i + 1 from by omega] at b_3
        refine F_lsg d_X11_parts_31 (f := fun y_4 => [(0, vr 99), (1, vi (a:Int)), (2, vi (b:Int)), (3, vi (i : Int)), (4, vj y_2), (6, vj y_4)]) (fun _ => rfl) (fun y_4 ey_4 => ?_)
        refine T_al d_X11_parts_33 rfl ?_
        refine F_gr (b := 158) d_X11_parts_34 rfl hF rfl ?_
        refine T_il d_X11_parts_37 rfl ?_
        refine T_k d_X11_parts_38 ?_
        refine T_il d_X11_parts_39 rfl ?_
        refine T_k d_X11_parts_40 ?_
        refine T_iadd d_X11_parts_41 ?_
        refine T_k d_X11_parts_42 ?_
        refine T_irem d_X11_parts_43 ⟨by omega, by omega⟩ ⟨by omega, by omega⟩ ?_
        refine T_imul d_X11_parts_44 ?_
        refine T_iadd d_X11_parts_45 ?_
        refine F_la d_X11_parts_46 rfl hB rfl ⟨by omega, by omega⟩ (fun b_5 => ?_)
        try simp only [Int.toNat_natCast, show ((a : Int) + 2 * (((i : Int) + 1) % 4)).toNat = a + 2 * ((i + 1) % 4) from by omega]
        try simp only [Int.toNat_natCast, show ((a : Int) + 2 * (((i : Int) + 1) % 4)).toNat = a + 2 * ((i + 1) % 4) from by omega] at b_5
        refine T_ll d_X11_parts_47 rfl ?_
        refine T_lsub d_X11_parts_49 ?_
        refine F_lsg d_X11_parts_50 (f := fun y_6 => [(0, vr 99), (1, vi (a:Int)), (2, vi (b:Int)), (3, vi (i : Int)), (4, vj y_2), (6, vj y_4), (8, vj y_6)]) (fun _ => rfl) (fun y_6 ey_6 => ?_)
        refine T_al d_X11_parts_52 rfl ?_
        refine F_gr (b := 158) d_X11_parts_53 rfl hF rfl ?_
        refine T_il d_X11_parts_56 rfl ?_
        refine T_k d_X11_parts_57 ?_
        refine T_il d_X11_parts_58 rfl ?_
        refine T_k d_X11_parts_59 ?_
        refine T_iadd d_X11_parts_60 ?_
        refine T_k d_X11_parts_61 ?_
        refine T_irem d_X11_parts_62 ⟨by omega, by omega⟩ ⟨by omega, by omega⟩ ?_
        refine T_imul d_X11_parts_63 ?_
        refine T_iadd d_X11_parts_64 ?_
        refine T_k d_X11_parts_65 ?_
        refine T_iadd d_X11_parts_66 ?_
        refine F_la d_X11_parts_67 rfl hB rfl ⟨by omega, by omega⟩ (fun b_7 => ?_)
        try simp only [Int.toNat_natCast, show ((a : Int) + 2 * (((i : Int) + 1) % 4) + 1).toNat = a + 2 * ((i + 1) % 4) + 1 from by omega]
        try simp only [Int.toNat_natCast, show ((a : Int) + 2 * (((i : Int) + 1) % 4) + 1).toNat = a + 2 * ((i + 1) % 4) + 1 from by omega] at b_7
        refine T_ll d_X11_parts_68 rfl ?_
        refine T_lsub d_X11_parts_70 ?_
        refine F_lsg d_X11_parts_71 (f := fun y_8 => [(0, vr 99), (1, vi (a:Int)), (2, vi (b:Int)), (3, vi (i : Int)), (4, vj y_2), (6, vj y_4), (8, vj y_6), (10, vj y_8)]) (fun _ => rfl) (fun y_8 ey_8 => ?_)
        have e4 := ey_2
        have e6 := ey_4
        have e8 := ey_6
        have e10 := ey_8
        refine T_jk d_X11_parts_73 ?_
        refine T_ls d_X11_parts_74 (ls' := [(0, vr 99), (1, vi (a:Int)), (2, vi (b:Int)), (3, vi (i : Int)), (4, vj y_2), (6, vj y_4), (8, vj y_6), (10, vj y_8), (12, vj 0)]) rfl ?_
        refine T_jk d_X11_parts_76 ?_
        refine T_ls d_X11_parts_77 (ls' := [(0, vr 99), (1, vi (a:Int)), (2, vi (b:Int)), (3, vi (i : Int)), (4, vj y_2), (6, vj y_4), (8, vj y_6), (10, vj y_8), (12, vj 0), (14, vj 0)]) rfl ?_
        refine T_jk d_X11_parts_79 ?_
        refine T_ls d_X11_parts_82 (ls' := [(0, vr 99), (1, vi (a:Int)), (2, vi (b:Int)), (3, vi (i : Int)), (4, vj y_2), (6, vj y_4), (8, vj y_6), (10, vj y_8), (12, vj 0), (14, vj 0), (16, vj 9223372036854775807)]) rfl ?_
        refine T_jk d_X11_parts_84 ?_
        refine T_ls d_X11_parts_87 (ls' := [(0, vr 99), (1, vi (a:Int)), (2, vi (b:Int)), (3, vi (i : Int)), (4, vj y_2), (6, vj y_4), (8, vj y_6), (10, vj y_8), (12, vj 0), (14, vj 0), (16, vj 9223372036854775807), (18, vj (-9223372036854775808))]) rfl ?_
        refine T_jk d_X11_parts_89 ?_
        refine T_ls d_X11_parts_90 (ls' := [(0, vr 99), (1, vi (a:Int)), (2, vi (b:Int)), (3, vi (i : Int)), (4, vj y_2), (6, vj y_4), (8, vj y_6), (10, vj y_8), (12, vj 0), (14, vj 0), (16, vj 9223372036854775807), (18, vj (-9223372036854775808)), (20, vj 0)]) rfl ?_
        refine T_jk d_X11_parts_92 ?_
        refine T_ls d_X11_parts_93 (ls' := [(0, vr 99), (1, vi (a:Int)), (2, vi (b:Int)), (3, vi (i : Int)), (4, vj y_2), (6, vj y_4), (8, vj y_6), (10, vj y_8), (12, vj 0), (14, vj 0), (16, vj 9223372036854775807), (18, vj (-9223372036854775808)), (20, vj 0), (22, vj 0)]) rfl ?_
        refine T_jk d_X11_parts_95 ?_
        refine T_ls d_X11_parts_98 (ls' := [(0, vr 99), (1, vi (a:Int)), (2, vi (b:Int)), (3, vi (i : Int)), (4, vj y_2), (6, vj y_4), (8, vj y_6), (10, vj y_8), (12, vj 0), (14, vj 0), (16, vj 9223372036854775807), (18, vj (-9223372036854775808)), (20, vj 0), (22, vj 0), (24, vj 9223372036854775807)]) rfl ?_
        refine T_jk d_X11_parts_100 ?_
        refine T_ls d_X11_parts_103 (ls' := [(0, vr 99), (1, vi (a:Int)), (2, vi (b:Int)), (3, vi (i : Int)), (4, vj y_2), (6, vj y_4), (8, vj y_6), (10, vj y_8), (12, vj 0), (14, vj 0), (16, vj 9223372036854775807), (18, vj (-9223372036854775808)), (20, vj 0), (22, vj 0), (24, vj 9223372036854775807), (26, vj (-9223372036854775808))]) rfl ?_
        refine T_k d_X11_parts_105 ?_
        refine T_is d_X11_parts_106 (ls' := [(0, vr 99), (1, vi (a:Int)), (2, vi (b:Int)), (3, vi (i : Int)), (4, vj y_2), (6, vj y_4), (8, vj y_6), (10, vj y_8), (12, vj 0), (14, vj 0), (16, vj 9223372036854775807), (18, vj (-9223372036854775808)), (20, vj 0), (22, vj 0), (24, vj 9223372036854775807), (26, vj (-9223372036854775808)), (28, vi 0)]) rfl ?_
        -- to 108 4f@108
        have L108 : ∀ (fu : Nat) (n1 n2 n3 n4 n5 n6 n7 n8 : Int) (c : Nat), 4 - c < fu → (c ≤ 4) → (mnX (crs V a a i) 0 c n1) → (mxR (crs V a a i) 0 c n2) → (mnX (crs V a b i) 9223372036854775807 c n3) → (mxR (crs V a b i) (-9223372036854775808) c n4) → (mnX (dts V a a i) 0 c n5) → (mxR (dts V a a i) 0 c n6) → (mnX (dts V a b i) 9223372036854775807 c n7) → (mxR (dts V a b i) (-9223372036854775808) c n8) → TT G M_X11_parts (rmd 1 162 162) 162 (Zm G 162 162 (QP V R (vi (bi (decide (anyB (prB V a b) 4 = true)))))) 162 108 [(0, vr 99), (1, vi (a:Int)), (2, vi (b:Int)), (3, vi (i : Int)), (4, vj y_2), (6, vj y_4), (8, vj y_6), (10, vj y_8), (12, vj n1), (14, vj n2), (16, vj n3), (18, vj n4), (20, vj n5), (22, vj n6), (24, vj n7), (26, vj n8), (28, vi (c : Int))] [] V R := by
          intro fu
          induction fu with
          | zero => intro n1 n2 n3 n4 n5 n6 n7 n8 c hm; exact absurd hm (Nat.not_lt_zero _)
          | succ fu ih108 =>
            intro n1 n2 n3 n4 n5 n6 n7 n8 c hm108 hc h01 h02 h03 h04 h05 h06 h07 h08
            have rr1 := h01.1
            have rr2 := h02.1
            have rr3 := h03.1
            have rr4 := h04.1
            have rr5 := h05.1
            have rr6 := h06.1
            have rr7 := h07.1
            have rr8 := h08.1
            unfold r6 at rr1 rr2 rr3 rr4 rr5 rr6 rr7 rr8
            refine T_il d_X11_parts_108 rfl ?_
            refine T_k d_X11_parts_110 ?_
            refine T_ige d_X11_parts_111 ⟨by omega, by omega⟩ ⟨by omega, by omega⟩ (fun h111 => ?_) (fun h111 => ?_)
            · skip
              have ec : c = 4 := by omega
              rw [ec] at h01 h02 h03 h04 h05 h06 h07 h08
              have z0 := crs_0 (V := V) (a := a) (i := i)
              have q1 := mnX_4 h01 ⟨i, by omega, by rw [z0.1]; omega⟩
              have q2 := mxR_4 h02 ⟨i, by omega, by rw [z0.1]; omega⟩
              have q3 := mnX_4 h03 ⟨0, by omega, by have := (hcb (i := i) (t := 0) b).1; omega⟩
              have q4 := mxR_4 h04 ⟨0, by omega, by have := (hcb (i := i) (t := 0) b).1; omega⟩
              have q5 := mnX_4 h05 ⟨i, by omega, by rw [z0.2]; omega⟩
              have q6 := mxR_4 h06 ⟨i, by omega, by rw [z0.2]; omega⟩
              have q7 := mnX_4 h07 ⟨0, by omega, by have := (hcb (i := i) (t := 0) b).2; omega⟩
              have q8 := mxR_4 h08 ⟨0, by omega, by have := (hcb (i := i) (t := 0) b).2; omega⟩
              refine T_ll d_X11_parts_412 rfl ?_
              refine T_ll d_X11_parts_414 rfl ?_
              refine T_llt d_X11_parts_416 d_X11_parts_417 ⟨by omega, by omega⟩ ⟨by omega, by omega⟩ (fun h416 => ?_) (fun h416 => ?_)
              · skip
                refine T_k d_X11_parts_444 ?_
                -- leaf 111t.416t@445
                exact P_T d_X11_parts_445 (by exact anyB_iff.mpr ⟨i, by omega, prB_t (by omega)⟩)
              · skip
                refine T_ll d_X11_parts_420 rfl ?_
                refine T_ll d_X11_parts_422 rfl ?_
                refine T_lgt d_X11_parts_424 d_X11_parts_425 ⟨by omega, by omega⟩ ⟨by omega, by omega⟩ (fun h424 => ?_) (fun h424 => ?_)
                · skip
                  refine T_k d_X11_parts_444 ?_
                  -- leaf 111t.416f.424t@445
                  exact P_T d_X11_parts_445 (by exact anyB_iff.mpr ⟨i, by omega, prB_t (by omega)⟩)
                · skip
                  refine T_ll d_X11_parts_428 rfl ?_
                  refine T_ll d_X11_parts_430 rfl ?_
                  refine T_llt d_X11_parts_432 d_X11_parts_433 ⟨by omega, by omega⟩ ⟨by omega, by omega⟩ (fun h432 => ?_) (fun h432 => ?_)
                  · skip
                    refine T_k d_X11_parts_444 ?_
                    -- leaf 111t.416f.424f.432t@445
                    exact P_T d_X11_parts_445 (by exact anyB_iff.mpr ⟨i, by omega, prB_t (by omega)⟩)
                  · skip
                    refine T_ll d_X11_parts_436 rfl ?_
                    refine T_ll d_X11_parts_438 rfl ?_
                    refine T_lle d_X11_parts_440 d_X11_parts_441 ⟨by omega, by omega⟩ ⟨by omega, by omega⟩ (fun h440 => ?_) (fun h440 => ?_)
                    · skip
                      refine F_incg d_X11_parts_446 rfl (f := fun x_9 => [(0, vr 99), (1, vi (a:Int)), (2, vi (b:Int)), (3, vi x_9), (4, vj y_2), (6, vj y_4), (8, vj y_6), (10, vj y_8), (12, vj n1), (14, vj n2), (16, vj n3), (18, vj n4), (20, vj n5), (22, vj n6), (24, vj n7), (26, vj n8), (28, vi (c : Int))]) (fun _ => rfl) (fun x_9 ex_9 => ?_)
                      refine T_go d_X11_parts_449 ?_
                      -- to 2 111t.416f.424f.432f.440t@2
                      refine T_subp (ks := [0, 1, 2, 3]) (ls' := [(0, vr 99), (1, vi (a:Int)), (2, vi (b:Int)), (3, vi x_9)]) rfl ?_
                      obtain rfl : x_9 = ((i + 1) : Int) := by omega
                      exact ih2 (i + 1) (by omega) (by first | assumption | omega) (up_all hno (prB_f (by omega)))
                    · skip
                      refine T_k d_X11_parts_444 ?_
                      -- leaf 111t.416f.424f.432f.440f@445
                      exact P_T d_X11_parts_445 (by exact anyB_iff.mpr ⟨i, by omega, prB_t (by omega)⟩)
            · skip
              refine T_ll d_X11_parts_114 rfl ?_
              refine T_al d_X11_parts_116 rfl ?_
              refine F_gr (b := 158) d_X11_parts_117 rfl hF rfl ?_
              refine T_il d_X11_parts_120 rfl ?_
              refine T_k d_X11_parts_121 ?_
              refine T_il d_X11_parts_122 rfl ?_
              refine T_imul d_X11_parts_124 ?_
              refine T_iadd d_X11_parts_125 ?_
              refine T_k d_X11_parts_126 ?_
              refine T_iadd d_X11_parts_127 ?_
              refine F_la d_X11_parts_128 rfl hB rfl ⟨by omega, by omega⟩ (fun b_10 => ?_)
              try simp only [Int.toNat_natCast, show ((a : Int) + 2 * (c : Int) + 1).toNat = a + 2 * c + 1 from by omega]
              try simp only [Int.toNat_natCast, show ((a : Int) + 2 * (c : Int) + 1).toNat = a + 2 * c + 1 from by omega] at b_10
              refine T_ll d_X11_parts_129 rfl ?_
              refine T_lsub d_X11_parts_131 ?_
              refine T_lmul d_X11_parts_132 ?_
              refine T_ll d_X11_parts_133 rfl ?_
              refine T_al d_X11_parts_135 rfl ?_
              refine F_gr (b := 158) d_X11_parts_136 rfl hF rfl ?_
              refine T_il d_X11_parts_139 rfl ?_
              refine T_k d_X11_parts_140 ?_
              refine T_il d_X11_parts_141 rfl ?_
              refine T_imul d_X11_parts_143 ?_
              refine T_iadd d_X11_parts_144 ?_
              refine F_la d_X11_parts_145 rfl hB rfl ⟨by omega, by omega⟩ (fun b_11 => ?_)
              try simp only [Int.toNat_natCast, show ((a : Int) + 2 * (c : Int)).toNat = a + 2 * c from by omega]
              try simp only [Int.toNat_natCast, show ((a : Int) + 2 * (c : Int)).toNat = a + 2 * c from by omega] at b_11
              refine T_ll d_X11_parts_146 rfl ?_
              refine T_lsub d_X11_parts_148 ?_
              refine T_lmul d_X11_parts_149 ?_
              refine T_lsub d_X11_parts_150 ?_
              refine F_lsg d_X11_parts_151 (f := fun y_12 => [(0, vr 99), (1, vi (a:Int)), (2, vi (b:Int)), (3, vi (i : Int)), (4, vj y_2), (6, vj y_4), (8, vj y_6), (10, vj y_8), (12, vj n1), (14, vj n2), (16, vj n3), (18, vj n4), (20, vj n5), (22, vj n6), (24, vj n7), (26, vj n8), (28, vi (c : Int)), (29, vj y_12)]) (fun _ => rfl) (fun y_12 ey_12 => ?_)
              refine T_ll d_X11_parts_153 rfl ?_
              refine T_al d_X11_parts_155 rfl ?_
              refine F_gr (b := 158) d_X11_parts_156 rfl hF rfl ?_
              refine T_il d_X11_parts_159 rfl ?_
              refine T_k d_X11_parts_160 ?_
              refine T_il d_X11_parts_161 rfl ?_
              refine T_imul d_X11_parts_163 ?_
              refine T_iadd d_X11_parts_164 ?_
              refine T_k d_X11_parts_165 ?_
              refine T_iadd d_X11_parts_166 ?_
              refine F_la d_X11_parts_167 rfl hB rfl ⟨by omega, by omega⟩ (fun b_13 => ?_)
              try simp only [Int.toNat_natCast, show ((b : Int) + 2 * (c : Int) + 1).toNat = b + 2 * c + 1 from by omega]
              try simp only [Int.toNat_natCast, show ((b : Int) + 2 * (c : Int) + 1).toNat = b + 2 * c + 1 from by omega] at b_13
              refine T_ll d_X11_parts_168 rfl ?_
              refine T_lsub d_X11_parts_170 ?_
              refine T_lmul d_X11_parts_171 ?_
              refine T_ll d_X11_parts_172 rfl ?_
              refine T_al d_X11_parts_174 rfl ?_
              refine F_gr (b := 158) d_X11_parts_175 rfl hF rfl ?_
              refine T_il d_X11_parts_178 rfl ?_
              refine T_k d_X11_parts_179 ?_
              refine T_il d_X11_parts_180 rfl ?_
              refine T_imul d_X11_parts_182 ?_
              refine T_iadd d_X11_parts_183 ?_
              refine F_la d_X11_parts_184 rfl hB rfl ⟨by omega, by omega⟩ (fun b_14 => ?_)
              try simp only [Int.toNat_natCast, show ((b : Int) + 2 * (c : Int)).toNat = b + 2 * c from by omega]
              try simp only [Int.toNat_natCast, show ((b : Int) + 2 * (c : Int)).toNat = b + 2 * c from by omega] at b_14
              refine T_ll d_X11_parts_185 rfl ?_
              refine T_lsub d_X11_parts_187 ?_
              refine T_lmul d_X11_parts_188 ?_
              refine T_lsub d_X11_parts_189 ?_
              refine F_lsg d_X11_parts_190 (f := fun y_15 => [(0, vr 99), (1, vi (a:Int)), (2, vi (b:Int)), (3, vi (i : Int)), (4, vj y_2), (6, vj y_4), (8, vj y_6), (10, vj y_8), (12, vj n1), (14, vj n2), (16, vj n3), (18, vj n4), (20, vj n5), (22, vj n6), (24, vj n7), (26, vj n8), (28, vi (c : Int)), (29, vj y_12), (31, vj y_15)]) (fun _ => rfl) (fun y_15 ey_15 => ?_)
              have e29 : y_12 = crs V a a i c := by rw [ey_12, e8, e10, e4, e6]; rfl
              have e31 : y_15 = crs V a b i c := by rw [ey_15, e8, e10, e4, e6]; rfl
              have s1 := hcb (i := i) (t := c) a
              have s2 := hcb (i := i) (t := c) b
              have L209 : ∀ (w1 : Int), (mnX (crs V a a i) 0 (c + 1) w1) → TT G M_X11_parts (rmd 1 162 162) 162 (Zm G 162 162 (QP V R (vi (bi (decide (anyB (prB V a b) 4 = true)))))) 162 209 [(0, vr 99), (1, vi (a:Int)), (2, vi (b:Int)), (3, vi (i : Int)), (4, vj y_2), (6, vj y_4), (8, vj y_6), (10, vj y_8), (12, vj w1), (14, vj n2), (16, vj n3), (18, vj n4), (20, vj n5), (22, vj n6), (24, vj n7), (26, vj n8), (28, vi (c : Int)), (29, vj y_12), (31, vj y_15)] [] V R := by
                intro w1 k1
                have w1r := k1.1
                unfold r6 at w1r
                have L226 : ∀ (w2 : Int), (mxR (crs V a a i) 0 (c + 1) w2) → TT G M_X11_parts (rmd 1 162 162) 162 (Zm G 162 162 (QP V R (vi (bi (decide (anyB (prB V a b) 4 = true)))))) 162 226 [(0, vr 99), (1, vi (a:Int)), (2, vi (b:Int)), (3, vi (i : Int)), (4, vj y_2), (6, vj y_4), (8, vj y_6), (10, vj y_8), (12, vj w1), (14, vj w2), (16, vj n3), (18, vj n4), (20, vj n5), (22, vj n6), (24, vj n7), (26, vj n8), (28, vi (c : Int)), (29, vj y_12), (31, vj y_15)] [] V R := by
                  intro w2 k2
                  have w2r := k2.1
                  unfold r6 at w2r
                  have L243 : ∀ (w3 : Int), (mnX (crs V a b i) 9223372036854775807 (c + 1) w3) → TT G M_X11_parts (rmd 1 162 162) 162 (Zm G 162 162 (QP V R (vi (bi (decide (anyB (prB V a b) 4 = true)))))) 162 243 [(0, vr 99), (1, vi (a:Int)), (2, vi (b:Int)), (3, vi (i : Int)), (4, vj y_2), (6, vj y_4), (8, vj y_6), (10, vj y_8), (12, vj w1), (14, vj w2), (16, vj w3), (18, vj n4), (20, vj n5), (22, vj n6), (24, vj n7), (26, vj n8), (28, vi (c : Int)), (29, vj y_12), (31, vj y_15)] [] V R := by
                    intro w3 k3
                    have w3r := k3.1
                    unfold r6 at w3r
                    have L260 : ∀ (w4 : Int), (mxR (crs V a b i) (-9223372036854775808) (c + 1) w4) → TT G M_X11_parts (rmd 1 162 162) 162 (Zm G 162 162 (QP V R (vi (bi (decide (anyB (prB V a b) 4 = true)))))) 162 260 [(0, vr 99), (1, vi (a:Int)), (2, vi (b:Int)), (3, vi (i : Int)), (4, vj y_2), (6, vj y_4), (8, vj y_6), (10, vj y_8), (12, vj w1), (14, vj w2), (16, vj w3), (18, vj w4), (20, vj n5), (22, vj n6), (24, vj n7), (26, vj n8), (28, vi (c : Int)), (29, vj y_12), (31, vj y_15)] [] V R := by
                      intro w4 k4
                      have w4r := k4.1
                      unfold r6 at w4r
                      refine T_ll d_X11_parts_260 rfl ?_
                      refine T_al d_X11_parts_262 rfl ?_
                      refine F_gr (b := 158) d_X11_parts_263 rfl hF rfl ?_
                      refine T_il d_X11_parts_266 rfl ?_
                      refine T_k d_X11_parts_267 ?_
                      refine T_il d_X11_parts_268 rfl ?_
                      refine T_imul d_X11_parts_270 ?_
                      refine T_iadd d_X11_parts_271 ?_
                      refine F_la d_X11_parts_272 rfl hB rfl ⟨by omega, by omega⟩ (fun b_16 => ?_)
                      try simp only [Int.toNat_natCast, show ((a : Int) + 2 * (c : Int)).toNat = a + 2 * c from by omega]
                      try simp only [Int.toNat_natCast, show ((a : Int) + 2 * (c : Int)).toNat = a + 2 * c from by omega] at b_16
                      refine T_ll d_X11_parts_273 rfl ?_
                      refine T_lsub d_X11_parts_275 ?_
                      refine T_lmul d_X11_parts_276 ?_
                      refine T_ll d_X11_parts_277 rfl ?_
                      refine T_al d_X11_parts_279 rfl ?_
                      refine F_gr (b := 158) d_X11_parts_280 rfl hF rfl ?_
                      refine T_il d_X11_parts_283 rfl ?_
                      refine T_k d_X11_parts_284 ?_
                      refine T_il d_X11_parts_285 rfl ?_
                      refine T_imul d_X11_parts_287 ?_
                      refine T_iadd d_X11_parts_288 ?_
                      refine T_k d_X11_parts_289 ?_
                      refine T_iadd d_X11_parts_290 ?_
                      refine F_la d_X11_parts_291 rfl hB rfl ⟨by omega, by omega⟩ (fun b_17 => ?_)
                      try simp only [Int.toNat_natCast, show ((a : Int) + 2 * (c : Int) + 1).toNat = a + 2 * c + 1 from by omega]
                      try simp only [Int.toNat_natCast, show ((a : Int) + 2 * (c : Int) + 1).toNat = a + 2 * c + 1 from by omega] at b_17
                      refine T_ll d_X11_parts_292 rfl ?_
                      refine T_lsub d_X11_parts_294 ?_
                      refine T_lmul d_X11_parts_295 ?_
                      refine T_ladd d_X11_parts_296 ?_
                      refine F_lsg d_X11_parts_297 (f := fun y_18 => [(0, vr 99), (1, vi (a:Int)), (2, vi (b:Int)), (3, vi (i : Int)), (4, vj y_2), (6, vj y_4), (8, vj y_6), (10, vj y_8), (12, vj w1), (14, vj w2), (16, vj w3), (18, vj w4), (20, vj n5), (22, vj n6), (24, vj n7), (26, vj n8), (28, vi (c : Int)), (29, vj y_12), (31, vj y_15), (33, vj y_18)]) (fun _ => rfl) (fun y_18 ey_18 => ?_)
                      refine T_ll d_X11_parts_299 rfl ?_
                      refine T_al d_X11_parts_301 rfl ?_
                      refine F_gr (b := 158) d_X11_parts_302 rfl hF rfl ?_
                      refine T_il d_X11_parts_305 rfl ?_
                      refine T_k d_X11_parts_306 ?_
                      refine T_il d_X11_parts_307 rfl ?_
                      refine T_imul d_X11_parts_309 ?_
                      refine T_iadd d_X11_parts_310 ?_
                      refine F_la d_X11_parts_311 rfl hB rfl ⟨by omega, by omega⟩ (fun b_19 => ?_)
                      try simp only [Int.toNat_natCast, show ((b : Int) + 2 * (c : Int)).toNat = b + 2 * c from by omega]
                      try simp only [Int.toNat_natCast, show ((b : Int) + 2 * (c : Int)).toNat = b + 2 * c from by omega] at b_19
                      refine T_ll d_X11_parts_312 rfl ?_
                      refine T_lsub d_X11_parts_314 ?_
                      refine T_lmul d_X11_parts_315 ?_
                      refine T_ll d_X11_parts_316 rfl ?_
                      refine T_al d_X11_parts_318 rfl ?_
                      refine F_gr (b := 158) d_X11_parts_319 rfl hF rfl ?_
                      refine T_il d_X11_parts_322 rfl ?_
                      refine T_k d_X11_parts_323 ?_
                      refine T_il d_X11_parts_324 rfl ?_
                      refine T_imul d_X11_parts_326 ?_
                      refine T_iadd d_X11_parts_327 ?_
                      refine T_k d_X11_parts_328 ?_
                      refine T_iadd d_X11_parts_329 ?_
                      refine F_la d_X11_parts_330 rfl hB rfl ⟨by omega, by omega⟩ (fun b_20 => ?_)
                      try simp only [Int.toNat_natCast, show ((b : Int) + 2 * (c : Int) + 1).toNat = b + 2 * c + 1 from by omega]
                      try simp only [Int.toNat_natCast, show ((b : Int) + 2 * (c : Int) + 1).toNat = b + 2 * c + 1 from by omega] at b_20
                      refine T_ll d_X11_parts_331 rfl ?_
                      refine T_lsub d_X11_parts_333 ?_
                      refine T_lmul d_X11_parts_334 ?_
                      refine T_ladd d_X11_parts_335 ?_
                      refine F_lsg d_X11_parts_336 (f := fun y_21 => [(0, vr 99), (1, vi (a:Int)), (2, vi (b:Int)), (3, vi (i : Int)), (4, vj y_2), (6, vj y_4), (8, vj y_6), (10, vj y_8), (12, vj w1), (14, vj w2), (16, vj w3), (18, vj w4), (20, vj n5), (22, vj n6), (24, vj n7), (26, vj n8), (28, vi (c : Int)), (29, vj y_12), (31, vj y_15), (33, vj y_18), (35, vj y_21)]) (fun _ => rfl) (fun y_21 ey_21 => ?_)
                      have e33 : y_18 = dts V a a i c := by rw [ey_18, e8, e10, e4, e6]; rfl
                      have e35 : y_21 = dts V a b i c := by rw [ey_21, e8, e10, e4, e6]; rfl
                      have L355 : ∀ (w5 : Int), (mnX (dts V a a i) 0 (c + 1) w5) → TT G M_X11_parts (rmd 1 162 162) 162 (Zm G 162 162 (QP V R (vi (bi (decide (anyB (prB V a b) 4 = true)))))) 162 355 [(0, vr 99), (1, vi (a:Int)), (2, vi (b:Int)), (3, vi (i : Int)), (4, vj y_2), (6, vj y_4), (8, vj y_6), (10, vj y_8), (12, vj w1), (14, vj w2), (16, vj w3), (18, vj w4), (20, vj w5), (22, vj n6), (24, vj n7), (26, vj n8), (28, vi (c : Int)), (29, vj y_12), (31, vj y_15), (33, vj y_18), (35, vj y_21)] [] V R := by
                        intro w5 k5
                        have w5r := k5.1
                        unfold r6 at w5r
                        have L372 : ∀ (w6 : Int), (mxR (dts V a a i) 0 (c + 1) w6) → TT G M_X11_parts (rmd 1 162 162) 162 (Zm G 162 162 (QP V R (vi (bi (decide (anyB (prB V a b) 4 = true)))))) 162 372 [(0, vr 99), (1, vi (a:Int)), (2, vi (b:Int)), (3, vi (i : Int)), (4, vj y_2), (6, vj y_4), (8, vj y_6), (10, vj y_8), (12, vj w1), (14, vj w2), (16, vj w3), (18, vj w4), (20, vj w5), (22, vj w6), (24, vj n7), (26, vj n8), (28, vi (c : Int)), (29, vj y_12), (31, vj y_15), (33, vj y_18), (35, vj y_21)] [] V R := by
                          intro w6 k6
                          have w6r := k6.1
                          unfold r6 at w6r
                          have L389 : ∀ (w7 : Int), (mnX (dts V a b i) 9223372036854775807 (c + 1) w7) → TT G M_X11_parts (rmd 1 162 162) 162 (Zm G 162 162 (QP V R (vi (bi (decide (anyB (prB V a b) 4 = true)))))) 162 389 [(0, vr 99), (1, vi (a:Int)), (2, vi (b:Int)), (3, vi (i : Int)), (4, vj y_2), (6, vj y_4), (8, vj y_6), (10, vj y_8), (12, vj w1), (14, vj w2), (16, vj w3), (18, vj w4), (20, vj w5), (22, vj w6), (24, vj w7), (26, vj n8), (28, vi (c : Int)), (29, vj y_12), (31, vj y_15), (33, vj y_18), (35, vj y_21)] [] V R := by
                            intro w7 k7
                            have w7r := k7.1
                            unfold r6 at w7r
                            have L406 : ∀ (w8 : Int), (mxR (dts V a b i) (-9223372036854775808) (c + 1) w8) → TT G M_X11_parts (rmd 1 162 162) 162 (Zm G 162 162 (QP V R (vi (bi (decide (anyB (prB V a b) 4 = true)))))) 162 406 [(0, vr 99), (1, vi (a:Int)), (2, vi (b:Int)), (3, vi (i : Int)), (4, vj y_2), (6, vj y_4), (8, vj y_6), (10, vj y_8), (12, vj w1), (14, vj w2), (16, vj w3), (18, vj w4), (20, vj w5), (22, vj w6), (24, vj w7), (26, vj w8), (28, vi (c : Int)), (29, vj y_12), (31, vj y_15), (33, vj y_18), (35, vj y_21)] [] V R := by
                              intro w8 k8
                              have w8r := k8.1
                              unfold r6 at w8r
                              refine F_incg d_X11_parts_406 rfl (f := fun x_22 => [(0, vr 99), (1, vi (a:Int)), (2, vi (b:Int)), (3, vi (i : Int)), (4, vj y_2), (6, vj y_4), (8, vj y_6), (10, vj y_8), (12, vj w1), (14, vj w2), (16, vj w3), (18, vj w4), (20, vj w5), (22, vj w6), (24, vj w7), (26, vj w8), (28, vi x_22), (29, vj y_12), (31, vj y_15), (33, vj y_18), (35, vj y_21)]) (fun _ => rfl) (fun x_22 ex_22 => ?_)
                              refine T_go d_X11_parts_409 ?_
                              -- to 108 @108
                              refine T_subp (ks := [0, 1, 2, 3, 4, 5, 6, 7, 8, 9, 10, 11, 12, 13, 14, 15, 16]) (ls' := [(0, vr 99), (1, vi (a:Int)), (2, vi (b:Int)), (3, vi (i : Int)), (4, vj y_2), (6, vj y_4), (8, vj y_6), (10, vj y_8), (12, vj w1), (14, vj w2), (16, vj w3), (18, vj w4), (20, vj w5), (22, vj w6), (24, vj w7), (26, vj w8), (28, vi x_22)]) rfl ?_
                              obtain rfl : x_22 = ((c + 1) : Int) := by omega
                              exact ih108 w1 w2 w3 w4 w5 w6 w7 w8 (c + 1) (by omega) (by first | assumption | omega) k1 k2 k3 k4 k5 k6 k7 k8
                            refine T_ll d_X11_parts_389 rfl ?_
                            refine T_ll d_X11_parts_391 rfl ?_
                            refine T_lle d_X11_parts_393 d_X11_parts_394 ⟨by omega, by omega⟩ ⟨by omega, by omega⟩ (fun h393 => ?_) (fun h393 => ?_)
                            · skip
                              refine T_ll d_X11_parts_402 rfl ?_
                              refine T_ls d_X11_parts_404 (ls' := [(0, vr 99), (1, vi (a:Int)), (2, vi (b:Int)), (3, vi (i : Int)), (4, vj y_2), (6, vj y_4), (8, vj y_6), (10, vj y_8), (12, vj w1), (14, vj w2), (16, vj w3), (18, vj w4), (20, vj w5), (22, vj w6), (24, vj w7), (26, vj n8), (28, vi (c : Int)), (29, vj y_12), (31, vj y_15), (33, vj y_18), (35, vj y_21)]) rfl ?_
                              -- to 406 393t@406
                              exact L406 n8 (mxR_k h08 (by rw [← e35]; omega))
                            · skip
                              refine T_ll d_X11_parts_397 rfl ?_
                              refine T_go d_X11_parts_399 ?_
                              refine T_ls d_X11_parts_404 (ls' := [(0, vr 99), (1, vi (a:Int)), (2, vi (b:Int)), (3, vi (i : Int)), (4, vj y_2), (6, vj y_4), (8, vj y_6), (10, vj y_8), (12, vj w1), (14, vj w2), (16, vj w3), (18, vj w4), (20, vj w5), (22, vj w6), (24, vj w7), (26, vj y_21), (28, vi (c : Int)), (29, vj y_12), (31, vj y_15), (33, vj y_18), (35, vj y_21)]) rfl ?_
                              -- to 406 393f@406
                              exact L406 y_21 (by rw [e35]; exact mxR_n h08 ⟨by have := (hcb (i := i) (t := c) b).2; omega, by have := (hcb (i := i) (t := c) b).2; omega⟩ (by rw [← e35]; omega))
                          refine T_ll d_X11_parts_372 rfl ?_
                          refine T_ll d_X11_parts_374 rfl ?_
                          refine T_lge d_X11_parts_376 d_X11_parts_377 ⟨by omega, by omega⟩ ⟨by omega, by omega⟩ (fun h376 => ?_) (fun h376 => ?_)
                          · skip
                            refine T_ll d_X11_parts_385 rfl ?_
                            refine T_ls d_X11_parts_387 (ls' := [(0, vr 99), (1, vi (a:Int)), (2, vi (b:Int)), (3, vi (i : Int)), (4, vj y_2), (6, vj y_4), (8, vj y_6), (10, vj y_8), (12, vj w1), (14, vj w2), (16, vj w3), (18, vj w4), (20, vj w5), (22, vj w6), (24, vj n7), (26, vj n8), (28, vi (c : Int)), (29, vj y_12), (31, vj y_15), (33, vj y_18), (35, vj y_21)]) rfl ?_
                            -- to 389 376t@389
                            exact L389 n7 (mnX_k h07 (by rw [← e35]; omega))
                          · skip
                            refine T_ll d_X11_parts_380 rfl ?_
                            refine T_go d_X11_parts_382 ?_
                            refine T_ls d_X11_parts_387 (ls' := [(0, vr 99), (1, vi (a:Int)), (2, vi (b:Int)), (3, vi (i : Int)), (4, vj y_2), (6, vj y_4), (8, vj y_6), (10, vj y_8), (12, vj w1), (14, vj w2), (16, vj w3), (18, vj w4), (20, vj w5), (22, vj w6), (24, vj y_21), (26, vj n8), (28, vi (c : Int)), (29, vj y_12), (31, vj y_15), (33, vj y_18), (35, vj y_21)]) rfl ?_
                            -- to 389 376f@389
                            exact L389 y_21 (by rw [e35]; exact mnX_n h07 ⟨by have := (hcb (i := i) (t := c) b).2; omega, by have := (hcb (i := i) (t := c) b).2; omega⟩ (by rw [← e35]; omega))
                        refine T_ll d_X11_parts_355 rfl ?_
                        refine T_ll d_X11_parts_357 rfl ?_
                        refine T_lle d_X11_parts_359 d_X11_parts_360 ⟨by omega, by omega⟩ ⟨by omega, by omega⟩ (fun h359 => ?_) (fun h359 => ?_)
                        · skip
                          refine T_ll d_X11_parts_368 rfl ?_
                          refine T_ls d_X11_parts_370 (ls' := [(0, vr 99), (1, vi (a:Int)), (2, vi (b:Int)), (3, vi (i : Int)), (4, vj y_2), (6, vj y_4), (8, vj y_6), (10, vj y_8), (12, vj w1), (14, vj w2), (16, vj w3), (18, vj w4), (20, vj w5), (22, vj n6), (24, vj n7), (26, vj n8), (28, vi (c : Int)), (29, vj y_12), (31, vj y_15), (33, vj y_18), (35, vj y_21)]) rfl ?_
                          -- to 372 359t@372
                          exact L372 n6 (mxR_k h06 (by rw [← e33]; omega))
                        · skip
                          refine T_ll d_X11_parts_363 rfl ?_
                          refine T_go d_X11_parts_365 ?_
                          refine T_ls d_X11_parts_370 (ls' := [(0, vr 99), (1, vi (a:Int)), (2, vi (b:Int)), (3, vi (i : Int)), (4, vj y_2), (6, vj y_4), (8, vj y_6), (10, vj y_8), (12, vj w1), (14, vj w2), (16, vj w3), (18, vj w4), (20, vj w5), (22, vj y_18), (24, vj n7), (26, vj n8), (28, vi (c : Int)), (29, vj y_12), (31, vj y_15), (33, vj y_18), (35, vj y_21)]) rfl ?_
                          -- to 372 359f@372
                          exact L372 y_18 (by rw [e33]; exact mxR_n h06 ⟨by have := (hcb (i := i) (t := c) a).2; omega, by have := (hcb (i := i) (t := c) a).2; omega⟩ (by rw [← e33]; omega))
                      refine T_ll d_X11_parts_338 rfl ?_
                      refine T_ll d_X11_parts_340 rfl ?_
                      refine T_lge d_X11_parts_342 d_X11_parts_343 ⟨by omega, by omega⟩ ⟨by omega, by omega⟩ (fun h342 => ?_) (fun h342 => ?_)
                      · skip
                        refine T_ll d_X11_parts_351 rfl ?_
                        refine T_ls d_X11_parts_353 (ls' := [(0, vr 99), (1, vi (a:Int)), (2, vi (b:Int)), (3, vi (i : Int)), (4, vj y_2), (6, vj y_4), (8, vj y_6), (10, vj y_8), (12, vj w1), (14, vj w2), (16, vj w3), (18, vj w4), (20, vj n5), (22, vj n6), (24, vj n7), (26, vj n8), (28, vi (c : Int)), (29, vj y_12), (31, vj y_15), (33, vj y_18), (35, vj y_21)]) rfl ?_
                        -- to 355 342t@355
                        exact L355 n5 (mnX_k h05 (by rw [← e33]; omega))
                      · skip
                        refine T_ll d_X11_parts_346 rfl ?_
                        refine T_go d_X11_parts_348 ?_
                        refine T_ls d_X11_parts_353 (ls' := [(0, vr 99), (1, vi (a:Int)), (2, vi (b:Int)), (3, vi (i : Int)), (4, vj y_2), (6, vj y_4), (8, vj y_6), (10, vj y_8), (12, vj w1), (14, vj w2), (16, vj w3), (18, vj w4), (20, vj y_18), (22, vj n6), (24, vj n7), (26, vj n8), (28, vi (c : Int)), (29, vj y_12), (31, vj y_15), (33, vj y_18), (35, vj y_21)]) rfl ?_
                        -- to 355 342f@355
                        exact L355 y_18 (by rw [e33]; exact mnX_n h05 ⟨by have := (hcb (i := i) (t := c) a).2; omega, by have := (hcb (i := i) (t := c) a).2; omega⟩ (by rw [← e33]; omega))
                    refine T_ll d_X11_parts_243 rfl ?_
                    refine T_ll d_X11_parts_245 rfl ?_
                    refine T_lle d_X11_parts_247 d_X11_parts_248 ⟨by omega, by omega⟩ ⟨by omega, by omega⟩ (fun h247 => ?_) (fun h247 => ?_)
                    · skip
                      refine T_ll d_X11_parts_256 rfl ?_
                      refine T_ls d_X11_parts_258 (ls' := [(0, vr 99), (1, vi (a:Int)), (2, vi (b:Int)), (3, vi (i : Int)), (4, vj y_2), (6, vj y_4), (8, vj y_6), (10, vj y_8), (12, vj w1), (14, vj w2), (16, vj w3), (18, vj n4), (20, vj n5), (22, vj n6), (24, vj n7), (26, vj n8), (28, vi (c : Int)), (29, vj y_12), (31, vj y_15)]) rfl ?_
                      -- to 260 247t@260
                      exact L260 n4 (mxR_k h04 (by rw [← e31]; omega))
                    · skip
                      refine T_ll d_X11_parts_251 rfl ?_
                      refine T_go d_X11_parts_253 ?_
                      refine T_ls d_X11_parts_258 (ls' := [(0, vr 99), (1, vi (a:Int)), (2, vi (b:Int)), (3, vi (i : Int)), (4, vj y_2), (6, vj y_4), (8, vj y_6), (10, vj y_8), (12, vj w1), (14, vj w2), (16, vj w3), (18, vj y_15), (20, vj n5), (22, vj n6), (24, vj n7), (26, vj n8), (28, vi (c : Int)), (29, vj y_12), (31, vj y_15)]) rfl ?_
                      -- to 260 247f@260
                      exact L260 y_15 (by rw [e31]; exact mxR_n h04 ⟨by have := (hcb (i := i) (t := c) b).1; omega, by have := (hcb (i := i) (t := c) b).1; omega⟩ (by rw [← e31]; omega))
                  refine T_ll d_X11_parts_226 rfl ?_
                  refine T_ll d_X11_parts_228 rfl ?_
                  refine T_lge d_X11_parts_230 d_X11_parts_231 ⟨by omega, by omega⟩ ⟨by omega, by omega⟩ (fun h230 => ?_) (fun h230 => ?_)
                  · skip
                    refine T_ll d_X11_parts_239 rfl ?_
                    refine T_ls d_X11_parts_241 (ls' := [(0, vr 99), (1, vi (a:Int)), (2, vi (b:Int)), (3, vi (i : Int)), (4, vj y_2), (6, vj y_4), (8, vj y_6), (10, vj y_8), (12, vj w1), (14, vj w2), (16, vj n3), (18, vj n4), (20, vj n5), (22, vj n6), (24, vj n7), (26, vj n8), (28, vi (c : Int)), (29, vj y_12), (31, vj y_15)]) rfl ?_
                    -- to 243 230t@243
                    exact L243 n3 (mnX_k h03 (by rw [← e31]; omega))
                  · skip
                    refine T_ll d_X11_parts_234 rfl ?_
                    refine T_go d_X11_parts_236 ?_
                    refine T_ls d_X11_parts_241 (ls' := [(0, vr 99), (1, vi (a:Int)), (2, vi (b:Int)), (3, vi (i : Int)), (4, vj y_2), (6, vj y_4), (8, vj y_6), (10, vj y_8), (12, vj w1), (14, vj w2), (16, vj y_15), (18, vj n4), (20, vj n5), (22, vj n6), (24, vj n7), (26, vj n8), (28, vi (c : Int)), (29, vj y_12), (31, vj y_15)]) rfl ?_
                    -- to 243 230f@243
                    exact L243 y_15 (by rw [e31]; exact mnX_n h03 ⟨by have := (hcb (i := i) (t := c) b).1; omega, by have := (hcb (i := i) (t := c) b).1; omega⟩ (by rw [← e31]; omega))
                refine T_ll d_X11_parts_209 rfl ?_
                refine T_ll d_X11_parts_211 rfl ?_
                refine T_lle d_X11_parts_213 d_X11_parts_214 ⟨by omega, by omega⟩ ⟨by omega, by omega⟩ (fun h213 => ?_) (fun h213 => ?_)
                · skip
                  refine T_ll d_X11_parts_222 rfl ?_
                  refine T_ls d_X11_parts_224 (ls' := [(0, vr 99), (1, vi (a:Int)), (2, vi (b:Int)), (3, vi (i : Int)), (4, vj y_2), (6, vj y_4), (8, vj y_6), (10, vj y_8), (12, vj w1), (14, vj n2), (16, vj n3), (18, vj n4), (20, vj n5), (22, vj n6), (24, vj n7), (26, vj n8), (28, vi (c : Int)), (29, vj y_12), (31, vj y_15)]) rfl ?_
                  -- to 226 213t@226
                  exact L226 n2 (mxR_k h02 (by rw [← e29]; omega))
                · skip
                  refine T_ll d_X11_parts_217 rfl ?_
                  refine T_go d_X11_parts_219 ?_
                  refine T_ls d_X11_parts_224 (ls' := [(0, vr 99), (1, vi (a:Int)), (2, vi (b:Int)), (3, vi (i : Int)), (4, vj y_2), (6, vj y_4), (8, vj y_6), (10, vj y_8), (12, vj w1), (14, vj y_12), (16, vj n3), (18, vj n4), (20, vj n5), (22, vj n6), (24, vj n7), (26, vj n8), (28, vi (c : Int)), (29, vj y_12), (31, vj y_15)]) rfl ?_
                  -- to 226 213f@226
                  exact L226 y_12 (by rw [e29]; exact mxR_n h02 ⟨by have := (hcb (i := i) (t := c) a).1; omega, by have := (hcb (i := i) (t := c) a).1; omega⟩ (by rw [← e29]; omega))
              refine T_ll d_X11_parts_192 rfl ?_
              refine T_ll d_X11_parts_194 rfl ?_
              refine T_lge d_X11_parts_196 d_X11_parts_197 ⟨by omega, by omega⟩ ⟨by omega, by omega⟩ (fun h196 => ?_) (fun h196 => ?_)
              · skip
                refine T_ll d_X11_parts_205 rfl ?_
                refine T_ls d_X11_parts_207 (ls' := [(0, vr 99), (1, vi (a:Int)), (2, vi (b:Int)), (3, vi (i : Int)), (4, vj y_2), (6, vj y_4), (8, vj y_6), (10, vj y_8), (12, vj n1), (14, vj n2), (16, vj n3), (18, vj n4), (20, vj n5), (22, vj n6), (24, vj n7), (26, vj n8), (28, vi (c : Int)), (29, vj y_12), (31, vj y_15)]) rfl ?_
                -- to 209 111f.196t@209
                exact L209 n1 (mnX_k h01 (by rw [← e29]; omega))
              · skip
                refine T_ll d_X11_parts_200 rfl ?_
                refine T_go d_X11_parts_202 ?_
                refine T_ls d_X11_parts_207 (ls' := [(0, vr 99), (1, vi (a:Int)), (2, vi (b:Int)), (3, vi (i : Int)), (4, vj y_2), (6, vj y_4), (8, vj y_6), (10, vj y_8), (12, vj y_12), (14, vj n2), (16, vj n3), (18, vj n4), (20, vj n5), (22, vj n6), (24, vj n7), (26, vj n8), (28, vi (c : Int)), (29, vj y_12), (31, vj y_15)]) rfl ?_
                -- to 209 111f.196f@209
                exact L209 y_12 (by rw [e29]; exact mnX_n h01 ⟨by have := (hcb (i := i) (t := c) a).1; omega, by have := (hcb (i := i) (t := c) a).1; omega⟩ (by rw [← e29]; omega))
        exact L108 _ 0 0 9223372036854775807 (-9223372036854775808) 0 0 9223372036854775807 (-9223372036854775808) (0) (Nat.lt_succ_self _) (by first | assumption | omega) (mnX_0 ⟨by omega, by omega⟩) (mxR_0 ⟨by omega, by omega⟩) (mnX_0 ⟨by omega, by omega⟩) (mxR_0 ⟨by omega, by omega⟩) (mnX_0 ⟨by omega, by omega⟩) (mxR_0 ⟨by omega, by omega⟩) (mnX_0 ⟨by omega, by omega⟩) (mxR_0 ⟨by omega, by omega⟩)
  exact L2 _ (0) (Nat.lt_succ_self _) (by first | assumption | omega) (fun t ht => absurd ht (Nat.not_lt_zero _))
