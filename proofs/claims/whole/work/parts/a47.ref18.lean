set_option maxHeartbeats 1000000 in
set_option maxRecDepth 100000 in
theorem R_X11_corners {G : GG} {V : VV} {R : RR}  {h a p q r kd : Nat} (hB : Bd V) (hF : FinR R) (hh : h < 24) (ha : a = 0 ∨ a = 8) (hkd : V 135 h = (kd : Int)) (hp : V 136 h = (p : Int)) (hq : V 137 h = (q : Int)) (hr : V 138 h = (r : Int)) (hk5 : kd < 5) (hp4 : p < 40) (hq4 : q < 40) (hr4 : r < 40) : Runs G M_X11_corners 1 162 162 [vr 99, vi (h:Int), vi (a:Int)] V R (PQ [(158, 158)] [] V R (fun o X => o = none ∧ corI V X a (V 132 p) (vxM V 132 h p q) (wxM V 132 kd p r) (V 133 p) (vxM V 133 h p q) (wxM V 133 kd p r) 4)) := by
  refine Runs.of pn_X11 (Nat.le_of_ble_eq_true rfl) rfl ?_
  show TT G M_X11_corners (rmd 1 162 162) 162 (Zm G 162 162 (PQ [(158, 158)] [] V R (fun o X => o = none ∧ corI V X a (V 132 p) (vxM V 132 h p q) (wxM V 132 kd p r) (V 133 p) (vxM V 133 h p q) (wxM V 133 kd p r) 4))) 162 0 [(0, vr 99), (1, vi (h:Int)), (2, vi (a:Int))] [] V R
  have fV : chg [(158, 158)] [] V V := chg_r
  have bvx := vx_b (a := 132) (h := h) (p := p) (q := q) hB (Or.inl rfl)
  have bvy := vx_b (a := 133) (h := h) (p := p) (q := q) hB (Or.inr rfl)
  have bwx := wx_b (a := 132) (kd := kd) (p := p) (r := r) hB (Or.inl rfl)
  have bwy := wx_b (a := 133) (kd := kd) (p := p) (r := r) hB (Or.inr rfl)
  have bx := hB.1 132 (-620) 1119 rfl p
  have by0 := hB.1 133 (-620) 1119 rfl p
  refine T_al d_X11_corners_0 rfl ?_
  refine F_gr (b := 136) d_X11_corners_1 rfl hF rfl ?_
  refine T_il d_X11_corners_4 rfl ?_
  refine F_ia d_X11_corners_5 rfl hB rfl ⟨by omega, by omega⟩ (fun b_1 => ?_)
  try simp only [Int.toNat_natCast]
  try simp only [Int.toNat_natCast] at b_1
  refine F_isg d_X11_corners_6 (f := fun x_2 => [(0, vr 99), (1, vi (h:Int)), (2, vi (a:Int)), (3, vi x_2)]) (fun _ => rfl) (fun x_2 ex_2 => ?_)
  obtain rfl : x_2 = (p : Int) := by rw [ex_2]; exact hp
  refine T_al d_X11_corners_7 rfl ?_
  refine F_gr (b := 139) d_X11_corners_8 rfl hF rfl ?_
  refine T_il d_X11_corners_11 rfl ?_
  refine F_ia d_X11_corners_12 rfl hB rfl ⟨by omega, by omega⟩ (fun b_3 => ?_)
  try simp only [Int.toNat_natCast]
  try simp only [Int.toNat_natCast] at b_3
  refine T_k d_X11_corners_13 ?_
  refine T_isub d_X11_corners_14 ?_
  refine T_i2l d_X11_corners_15 ⟨by omega, by omega⟩ ?_
  refine T_al d_X11_corners_16 rfl ?_
  refine F_gr (b := 132) d_X11_corners_17 rfl hF rfl ?_
  refine T_al d_X11_corners_20 rfl ?_
  refine F_gr (b := 137) d_X11_corners_21 rfl hF rfl ?_
  refine T_il d_X11_corners_24 rfl ?_
  refine F_ia d_X11_corners_25 rfl hB rfl ⟨by omega, by omega⟩ (fun b_4 => ?_)
  try simp only [Int.toNat_natCast]
  try simp only [Int.toNat_natCast] at b_4
  rw [hq]
  refine F_ia d_X11_corners_26 rfl hB rfl ⟨by omega, by omega⟩ (fun b_5 => ?_)
  try simp only [Int.toNat_natCast]
  try simp only [Int.toNat_natCast] at b_5
  refine T_al d_X11_corners_27 rfl ?_
  refine F_gr (b := 132) d_X11_corners_28 rfl hF rfl ?_
  refine T_il d_X11_corners_31 rfl ?_
  refine F_ia d_X11_corners_32 rfl hB rfl ⟨by omega, by omega⟩ (fun b_6 => ?_)
  try simp only [Int.toNat_natCast]
  try simp only [Int.toNat_natCast] at b_6
  refine T_isub d_X11_corners_33 ?_
  refine T_i2l d_X11_corners_34 ⟨by omega, by omega⟩ ?_
  refine T_lmul d_X11_corners_35 ?_
  refine F_lsg d_X11_corners_36 (f := fun y_7 => [(0, vr 99), (1, vi (h:Int)), (2, vi (a:Int)), (3, vi (p : Int)), (4, vj y_7)]) (fun _ => rfl) (fun y_7 ey_7 => ?_)
  obtain rfl : y_7 = (vxM V 132 h p q) := ey_7
  refine T_al d_X11_corners_38 rfl ?_
  refine F_gr (b := 139) d_X11_corners_39 rfl hF rfl ?_
  refine T_il d_X11_corners_42 rfl ?_
  refine F_ia d_X11_corners_43 rfl hB rfl ⟨by omega, by omega⟩ (fun b_8 => ?_)
  try simp only [Int.toNat_natCast]
  try simp only [Int.toNat_natCast] at b_8
  refine T_k d_X11_corners_44 ?_
  refine T_isub d_X11_corners_45 ?_
  refine T_i2l d_X11_corners_46 ⟨by omega, by omega⟩ ?_
  refine T_al d_X11_corners_47 rfl ?_
  refine F_gr (b := 133) d_X11_corners_48 rfl hF rfl ?_
  refine T_al d_X11_corners_51 rfl ?_
  refine F_gr (b := 137) d_X11_corners_52 rfl hF rfl ?_
  refine T_il d_X11_corners_55 rfl ?_
  refine F_ia d_X11_corners_56 rfl hB rfl ⟨by omega, by omega⟩ (fun b_9 => ?_)
  try simp only [Int.toNat_natCast]
  try simp only [Int.toNat_natCast] at b_9
  rw [hq]
  refine F_ia d_X11_corners_57 rfl hB rfl ⟨by omega, by omega⟩ (fun b_10 => ?_)
  try simp only [Int.toNat_natCast]
  try simp only [Int.toNat_natCast] at b_10
  refine T_al d_X11_corners_58 rfl ?_
  refine F_gr (b := 133) d_X11_corners_59 rfl hF rfl ?_
  refine T_il d_X11_corners_62 rfl ?_
  refine F_ia d_X11_corners_63 rfl hB rfl ⟨by omega, by omega⟩ (fun b_11 => ?_)
  try simp only [Int.toNat_natCast]
  try simp only [Int.toNat_natCast] at b_11
  refine T_isub d_X11_corners_64 ?_
  refine T_i2l d_X11_corners_65 ⟨by omega, by omega⟩ ?_
  refine T_lmul d_X11_corners_66 ?_
  refine F_lsg d_X11_corners_67 (f := fun y_12 => [(0, vr 99), (1, vi (h:Int)), (2, vi (a:Int)), (3, vi (p : Int)), (4, vj (vxM V 132 h p q)), (6, vj y_12)]) (fun _ => rfl) (fun y_12 ey_12 => ?_)
  obtain rfl : y_12 = (vxM V 133 h p q) := ey_12
  refine T_al d_X11_corners_69 rfl ?_
  refine F_gr (b := 122) d_X11_corners_70 rfl hF rfl ?_
  refine T_k d_X11_corners_73 ?_
  refine T_al d_X11_corners_75 rfl ?_
  refine F_gr (b := 135) d_X11_corners_76 rfl hF rfl ?_
  refine T_il d_X11_corners_79 rfl ?_
  refine F_ia d_X11_corners_80 rfl hB rfl ⟨by omega, by omega⟩ (fun b_13 => ?_)
  try simp only [Int.toNat_natCast]
  try simp only [Int.toNat_natCast] at b_13
  refine T_imul d_X11_corners_81 ?_
  rw [hkd]
  refine F_ia d_X11_corners_82 rfl hB rfl ⟨by omega, by omega⟩ (fun b_14 => ?_)
  try simp only [Int.toNat_natCast, show (10 * (kd : Int)).toNat = 10 * kd from by omega]
  try simp only [Int.toNat_natCast, show (10 * (kd : Int)).toNat = 10 * kd from by omega] at b_14
  refine T_k d_X11_corners_83 ?_
  refine T_isub d_X11_corners_84 ?_
  refine T_i2l d_X11_corners_85 ⟨by omega, by omega⟩ ?_
  refine T_al d_X11_corners_86 rfl ?_
  refine F_gr (b := 132) d_X11_corners_87 rfl hF rfl ?_
  refine T_al d_X11_corners_90 rfl ?_
  refine F_gr (b := 138) d_X11_corners_91 rfl hF rfl ?_
  refine T_il d_X11_corners_94 rfl ?_
  refine F_ia d_X11_corners_95 rfl hB rfl ⟨by omega, by omega⟩ (fun b_15 => ?_)
  try simp only [Int.toNat_natCast]
  try simp only [Int.toNat_natCast] at b_15
  rw [hr]
  refine F_ia d_X11_corners_96 rfl hB rfl ⟨by omega, by omega⟩ (fun b_16 => ?_)
  try simp only [Int.toNat_natCast]
  try simp only [Int.toNat_natCast] at b_16
  refine T_al d_X11_corners_97 rfl ?_
  refine F_gr (b := 132) d_X11_corners_98 rfl hF rfl ?_
  refine T_il d_X11_corners_101 rfl ?_
  refine F_ia d_X11_corners_102 rfl hB rfl ⟨by omega, by omega⟩ (fun b_17 => ?_)
  try simp only [Int.toNat_natCast]
  try simp only [Int.toNat_natCast] at b_17
  refine T_isub d_X11_corners_103 ?_
  refine T_i2l d_X11_corners_104 ⟨by omega, by omega⟩ ?_
  refine T_lmul d_X11_corners_105 ?_
  refine F_lsg d_X11_corners_106 (f := fun y_18 => [(0, vr 99), (1, vi (h:Int)), (2, vi (a:Int)), (3, vi (p : Int)), (4, vj (vxM V 132 h p q)), (6, vj (vxM V 133 h p q)), (8, vj y_18)]) (fun _ => rfl) (fun y_18 ey_18 => ?_)
  obtain rfl : y_18 = (wxM V 132 kd p r) := ey_18
  refine T_al d_X11_corners_108 rfl ?_
  refine F_gr (b := 122) d_X11_corners_109 rfl hF rfl ?_
  refine T_k d_X11_corners_112 ?_
  refine T_al d_X11_corners_114 rfl ?_
  refine F_gr (b := 135) d_X11_corners_115 rfl hF rfl ?_
  refine T_il d_X11_corners_118 rfl ?_
  refine F_ia d_X11_corners_119 rfl hB rfl ⟨by omega, by omega⟩ (fun b_19 => ?_)
  try simp only [Int.toNat_natCast]
  try simp only [Int.toNat_natCast] at b_19
  refine T_imul d_X11_corners_120 ?_
  rw [hkd]
  refine F_ia d_X11_corners_121 rfl hB rfl ⟨by omega, by omega⟩ (fun b_20 => ?_)
  try simp only [Int.toNat_natCast, show (10 * (kd : Int)).toNat = 10 * kd from by omega]
  try simp only [Int.toNat_natCast, show (10 * (kd : Int)).toNat = 10 * kd from by omega] at b_20
  refine T_k d_X11_corners_122 ?_
  refine T_isub d_X11_corners_123 ?_
  refine T_i2l d_X11_corners_124 ⟨by omega, by omega⟩ ?_
  refine T_al d_X11_corners_125 rfl ?_
  refine F_gr (b := 133) d_X11_corners_126 rfl hF rfl ?_
  refine T_al d_X11_corners_129 rfl ?_
  refine F_gr (b := 138) d_X11_corners_130 rfl hF rfl ?_
  refine T_il d_X11_corners_133 rfl ?_
  refine F_ia d_X11_corners_134 rfl hB rfl ⟨by omega, by omega⟩ (fun b_21 => ?_)
  try simp only [Int.toNat_natCast]
  try simp only [Int.toNat_natCast] at b_21
  rw [hr]
  refine F_ia d_X11_corners_135 rfl hB rfl ⟨by omega, by omega⟩ (fun b_22 => ?_)
  try simp only [Int.toNat_natCast]
  try simp only [Int.toNat_natCast] at b_22
  refine T_al d_X11_corners_136 rfl ?_
  refine F_gr (b := 133) d_X11_corners_137 rfl hF rfl ?_
  refine T_il d_X11_corners_140 rfl ?_
  refine F_ia d_X11_corners_141 rfl hB rfl ⟨by omega, by omega⟩ (fun b_23 => ?_)
  try simp only [Int.toNat_natCast]
  try simp only [Int.toNat_natCast] at b_23
  refine T_isub d_X11_corners_142 ?_
  refine T_i2l d_X11_corners_143 ⟨by omega, by omega⟩ ?_
  refine T_lmul d_X11_corners_144 ?_
  refine F_lsg d_X11_corners_145 (f := fun y_24 => [(0, vr 99), (1, vi (h:Int)), (2, vi (a:Int)), (3, vi (p : Int)), (4, vj (vxM V 132 h p q)), (6, vj (vxM V 133 h p q)), (8, vj (wxM V 132 kd p r)), (10, vj y_24)]) (fun _ => rfl) (fun y_24 ey_24 => ?_)
  obtain rfl : y_24 = (wxM V 133 kd p r) := ey_24
  refine T_k d_X11_corners_147 ?_
  refine T_is d_X11_corners_148 (ls' := [(0, vr 99), (1, vi (h:Int)), (2, vi (a:Int)), (3, vi (p : Int)), (4, vj (vxM V 132 h p q)), (6, vj (vxM V 133 h p q)), (8, vj (wxM V 132 kd p r)), (10, vj (wxM V 133 kd p r)), (12, vi 0)]) rfl ?_
  -- to 150 @150
  have L150 : ∀ (fu : Nat) (X : VV) (i : Nat), 4 - i < fu → (Bd X) → (chg [(158, 158)] [] V X) → (i ≤ 4) → (corI V X a (V 132 p) (vxM V 132 h p q) (wxM V 132 kd p r) (V 133 p) (vxM V 133 h p q) (wxM V 133 kd p r) i) → TT G M_X11_corners (rmd 1 162 162) 162 (Zm G 162 162 (PQ [(158, 158)] [] V R (fun o X => o = none ∧ corI V X a (V 132 p) (vxM V 132 h p q) (wxM V 132 kd p r) (V 133 p) (vxM V 133 h p q) (wxM V 133 kd p r) 4))) 162 150 [(0, vr 99), (1, vi (h:Int)), (2, vi (a:Int)), (3, vi (p : Int)), (4, vj (vxM V 132 h p q)), (6, vj (vxM V 133 h p q)), (8, vj (wxM V 132 kd p r)), (10, vj (wxM V 133 kd p r)), (12, vi (i : Int))] [] X R := by
    intro fu
    induction fu with
    | zero => intro X i hm; exact absurd hm (Nat.not_lt_zero _)
    | succ fu ih150 =>
      intro X i hm150 hBX fX hi hc
      have x132 := chg_k (c := 132) fX rfl
      have x133 := chg_k (c := 133) fX rfl
      refine T_il d_X11_corners_150 rfl ?_
      refine T_k d_X11_corners_152 ?_
      refine T_ige d_X11_corners_153 ⟨by omega, by omega⟩ ⟨by omega, by omega⟩ (fun h153 => ?_) (fun h153 => ?_)
      · skip
        -- leaf 153t@280
        refine T_vret d_X11_corners_280 rfl ?_
        have ei : i = 4 := by omega
        rw [ei] at hc
        exact ⟨rfl, hBX, fX, rfl, hc⟩
      · skip
        have L175 : ∀ (bv : Int), (bv = if i = 1 ∨ i = 2 then 1 else 0) → (0 ≤ bv ∧ bv ≤ 1) → TT G M_X11_corners (rmd 1 162 162) 162 (Zm G 162 162 (PQ [(158, 158)] [] V R (fun o X => o = none ∧ corI V X a (V 132 p) (vxM V 132 h p q) (wxM V 132 kd p r) (V 133 p) (vxM V 133 h p q) (wxM V 133 kd p r) 4))) 162 175 [(0, vr 99), (1, vi (h:Int)), (2, vi (a:Int)), (3, vi (p : Int)), (4, vj (vxM V 132 h p q)), (6, vj (vxM V 133 h p q)), (8, vj (wxM V 132 kd p r)), (10, vj (wxM V 133 kd p r)), (12, vi (i : Int)), (13, vi bv)] [] X R := by
          intro bv hbv hbv2
          refine T_il d_X11_corners_175 rfl ?_
          have L188 : ∀ (bw : Int), (bw = if 1 < i then 1 else 0) → (0 ≤ bw ∧ bw ≤ 1) → TT G M_X11_corners (rmd 1 162 162) 162 (Zm G 162 162 (PQ [(158, 158)] [] V R (fun o X => o = none ∧ corI V X a (V 132 p) (vxM V 132 h p q) (wxM V 132 kd p r) (V 133 p) (vxM V 133 h p q) (wxM V 133 kd p r) 4))) 162 188 [(0, vr 99), (1, vi (h:Int)), (2, vi (a:Int)), (3, vi (p : Int)), (4, vj (vxM V 132 h p q)), (6, vj (vxM V 133 h p q)), (8, vj (wxM V 132 kd p r)), (10, vj (wxM V 133 kd p r)), (12, vi (i : Int)), (13, vi bv), (14, vi bw)] [] X R := by
            intro bw hbw hbw2
            refine T_al d_X11_corners_188 rfl ?_
            have L230 : ∀ (Y : VV), (Bd Y) → (chg [(158, 158)] [] V Y) → (Y = uV X 158 (a + 2 * i) (cNR (V 132 p) (vxM V 132 h p q) (wxM V 132 kd p r) i)) → TT G M_X11_corners (rmd 1 162 162) 162 (Zm G 162 162 (PQ [(158, 158)] [] V R (fun o X => o = none ∧ corI V X a (V 132 p) (vxM V 132 h p q) (wxM V 132 kd p r) (V 133 p) (vxM V 133 h p q) (wxM V 133 kd p r) 4))) 162 230 [(0, vr 99), (1, vi (h:Int)), (2, vi (a:Int)), (3, vi (p : Int)), (4, vj (vxM V 132 h p q)), (6, vj (vxM V 133 h p q)), (8, vj (wxM V 132 kd p r)), (10, vj (wxM V 133 kd p r)), (12, vi (i : Int)), (13, vi bv), (14, vi bw)] [] Y R := by
              intro Y hBY fY ey
              have y133 := chg_k (c := 133) fY rfl
              refine T_al d_X11_corners_230 rfl ?_
              refine F_gr (b := 158) d_X11_corners_231 rfl hF rfl ?_
              refine T_il d_X11_corners_234 rfl ?_
              refine T_k d_X11_corners_235 ?_
              refine T_il d_X11_corners_236 rfl ?_
              refine T_imul d_X11_corners_238 ?_
              refine T_iadd d_X11_corners_239 ?_
              refine T_k d_X11_corners_240 ?_
              refine T_iadd d_X11_corners_241 ?_
              refine T_al d_X11_corners_242 rfl ?_
              refine F_gr (b := 133) d_X11_corners_243 rfl hF rfl ?_
              refine T_il d_X11_corners_246 rfl ?_
              refine F_ia d_X11_corners_247 rfl hBY rfl ⟨by omega, by omega⟩ (fun b_25 => ?_)
              try simp only [Int.toNat_natCast]
              try simp only [Int.toNat_natCast] at b_25
              rw [y133]
              refine T_i2l d_X11_corners_248 ⟨by omega, by omega⟩ ?_
              refine T_il d_X11_corners_249 rfl ?_
              refine T_zeq d_X11_corners_251 ⟨by omega, by omega⟩ (fun h251 => ?_) (fun h251 => ?_)
              · skip
                refine T_jk d_X11_corners_259 ?_
                refine T_ladd d_X11_corners_260 ?_
                refine T_il d_X11_corners_261 rfl ?_
                refine T_zeq d_X11_corners_263 ⟨by omega, by omega⟩ (fun h263 => ?_) (fun h263 => ?_)
                · skip
                  refine T_jk d_X11_corners_271 ?_
                  refine T_ladd d_X11_corners_272 ?_
                  refine F_ls d_X11_corners_273 rfl hBY rfl ⟨by omega, by omega⟩ ⟨by omega, by omega⟩ (fun V_26 eV_26 hBV_26 => ?_)
                  have fV_26 := chg_u eV_26 rfl fY
                  refine F_incg d_X11_corners_274 rfl (f := fun x_27 => [(0, vr 99), (1, vi (h:Int)), (2, vi (a:Int)), (3, vi (p : Int)), (4, vj (vxM V 132 h p q)), (6, vj (vxM V 133 h p q)), (8, vj (wxM V 132 kd p r)), (10, vj (wxM V 133 kd p r)), (12, vi x_27), (13, vi bv), (14, vi bw)]) (fun _ => rfl) (fun x_27 ex_27 => ?_)
                  refine T_go d_X11_corners_277 ?_
                  -- to 150 251t.263t@150
                  refine T_subp (ks := [0, 1, 2, 3, 4, 5, 6, 7, 8]) (ls' := [(0, vr 99), (1, vi (h:Int)), (2, vi (a:Int)), (3, vi (p : Int)), (4, vj (vxM V 132 h p q)), (6, vj (vxM V 133 h p q)), (8, vj (wxM V 132 kd p r)), (10, vj (wxM V 133 kd p r)), (12, vi x_27)]) rfl ?_
                  have nv : ¬ (i = 1 ∨ i = 2) := fun z => by rw [if_pos z] at hbv; omega
                  have nw : ¬ 1 < i := fun z => by rw [if_pos z] at hbw; omega
                  obtain rfl : x_27 = ((i + 1) : Int) := by omega
                  exact ih150 V_26 (i + 1) (by omega) hBV_26 fV_26 (by first | assumption | omega) (cor_s hc (by omega) ey (by rw [eV_26, show ((a : Int) + 2 * (i : Int) + 1).toNat = a + 2 * i + 1 by omega]; unfold cNR; rw [if_neg nv, if_neg nw]))
                · skip
                  refine T_ll d_X11_corners_266 rfl ?_
                  refine T_go d_X11_corners_268 ?_
                  refine T_ladd d_X11_corners_272 ?_
                  refine F_ls d_X11_corners_273 rfl hBY rfl ⟨by omega, by omega⟩ ⟨by omega, by omega⟩ (fun V_28 eV_28 hBV_28 => ?_)
                  have fV_28 := chg_u eV_28 rfl fY
                  refine F_incg d_X11_corners_274 rfl (f := fun x_29 => [(0, vr 99), (1, vi (h:Int)), (2, vi (a:Int)), (3, vi (p : Int)), (4, vj (vxM V 132 h p q)), (6, vj (vxM V 133 h p q)), (8, vj (wxM V 132 kd p r)), (10, vj (wxM V 133 kd p r)), (12, vi x_29), (13, vi bv), (14, vi bw)]) (fun _ => rfl) (fun x_29 ex_29 => ?_)
                  refine T_go d_X11_corners_277 ?_
                  -- to 150 251t.263f@150
                  refine T_subp (ks := [0, 1, 2, 3, 4, 5, 6, 7, 8]) (ls' := [(0, vr 99), (1, vi (h:Int)), (2, vi (a:Int)), (3, vi (p : Int)), (4, vj (vxM V 132 h p q)), (6, vj (vxM V 133 h p q)), (8, vj (wxM V 132 kd p r)), (10, vj (wxM V 133 kd p r)), (12, vi x_29)]) rfl ?_
                  have nv : ¬ (i = 1 ∨ i = 2) := fun z => by rw [if_pos z] at hbv; omega
                  have nw : 1 < i := Classical.byContradiction fun z => by rw [if_neg z] at hbw; omega
                  obtain rfl : x_29 = ((i + 1) : Int) := by omega
                  exact ih150 V_28 (i + 1) (by omega) hBV_28 fV_28 (by first | assumption | omega) (cor_s hc (by omega) ey (by rw [eV_28, show ((a : Int) + 2 * (i : Int) + 1).toNat = a + 2 * i + 1 by omega]; unfold cNR; rw [if_neg nv, if_pos nw]))
              · skip
                refine T_ll d_X11_corners_254 rfl ?_
                refine T_go d_X11_corners_256 ?_
                refine T_ladd d_X11_corners_260 ?_
                refine T_il d_X11_corners_261 rfl ?_
                refine T_zeq d_X11_corners_263 ⟨by omega, by omega⟩ (fun h263 => ?_) (fun h263 => ?_)
                · skip
                  refine T_jk d_X11_corners_271 ?_
                  refine T_ladd d_X11_corners_272 ?_
                  refine F_ls d_X11_corners_273 rfl hBY rfl ⟨by omega, by omega⟩ ⟨by omega, by omega⟩ (fun V_30 eV_30 hBV_30 => ?_)
                  have fV_30 := chg_u eV_30 rfl fY
                  refine F_incg d_X11_corners_274 rfl (f := fun x_31 => [(0, vr 99), (1, vi (h:Int)), (2, vi (a:Int)), (3, vi (p : Int)), (4, vj (vxM V 132 h p q)), (6, vj (vxM V 133 h p q)), (8, vj (wxM V 132 kd p r)), (10, vj (wxM V 133 kd p r)), (12, vi x_31), (13, vi bv), (14, vi bw)]) (fun _ => rfl) (fun x_31 ex_31 => ?_)
                  refine T_go d_X11_corners_277 ?_
                  -- to 150 251f.263t@150
                  refine T_subp (ks := [0, 1, 2, 3, 4, 5, 6, 7, 8]) (ls' := [(0, vr 99), (1, vi (h:Int)), (2, vi (a:Int)), (3, vi (p : Int)), (4, vj (vxM V 132 h p q)), (6, vj (vxM V 133 h p q)), (8, vj (wxM V 132 kd p r)), (10, vj (wxM V 133 kd p r)), (12, vi x_31)]) rfl ?_
                  have nv : i = 1 ∨ i = 2 := Classical.byContradiction fun z => by rw [if_neg z] at hbv; omega
                  have nw : ¬ 1 < i := fun z => by rw [if_pos z] at hbw; omega
                  obtain rfl : x_31 = ((i + 1) : Int) := by omega
                  exact ih150 V_30 (i + 1) (by omega) hBV_30 fV_30 (by first | assumption | omega) (cor_s hc (by omega) ey (by rw [eV_30, show ((a : Int) + 2 * (i : Int) + 1).toNat = a + 2 * i + 1 by omega]; unfold cNR; rw [if_pos nv, if_neg nw]))
                · skip
                  refine T_ll d_X11_corners_266 rfl ?_
                  refine T_go d_X11_corners_268 ?_
                  refine T_ladd d_X11_corners_272 ?_
                  refine F_ls d_X11_corners_273 rfl hBY rfl ⟨by omega, by omega⟩ ⟨by omega, by omega⟩ (fun V_32 eV_32 hBV_32 => ?_)
                  have fV_32 := chg_u eV_32 rfl fY
                  refine F_incg d_X11_corners_274 rfl (f := fun x_33 => [(0, vr 99), (1, vi (h:Int)), (2, vi (a:Int)), (3, vi (p : Int)), (4, vj (vxM V 132 h p q)), (6, vj (vxM V 133 h p q)), (8, vj (wxM V 132 kd p r)), (10, vj (wxM V 133 kd p r)), (12, vi x_33), (13, vi bv), (14, vi bw)]) (fun _ => rfl) (fun x_33 ex_33 => ?_)
                  refine T_go d_X11_corners_277 ?_
                  -- to 150 251f.263f@150
                  refine T_subp (ks := [0, 1, 2, 3, 4, 5, 6, 7, 8]) (ls' := [(0, vr 99), (1, vi (h:Int)), (2, vi (a:Int)), (3, vi (p : Int)), (4, vj (vxM V 132 h p q)), (6, vj (vxM V 133 h p q)), (8, vj (wxM V 132 kd p r)), (10, vj (wxM V 133 kd p r)), (12, vi x_33)]) rfl ?_
                  have nv : i = 1 ∨ i = 2 := Classical.byContradiction fun z => by rw [if_neg z] at hbv; omega
                  have nw : 1 < i := Classical.byContradiction fun z => by rw [if_neg z] at hbw; omega
                  obtain rfl : x_33 = ((i + 1) : Int) := by omega
                  exact ih150 V_32 (i + 1) (by omega) hBV_32 fV_32 (by first | assumption | omega) (cor_s hc (by omega) ey (by rw [eV_32, show ((a : Int) + 2 * (i : Int) + 1).toNat = a + 2 * i + 1 by omega]; unfold cNR; rw [if_pos nv, if_pos nw]))
            refine F_gr (b := 158) d_X11_corners_189 rfl hF rfl ?_
            refine T_il d_X11_corners_192 rfl ?_
            refine T_k d_X11_corners_193 ?_
            refine T_il d_X11_corners_194 rfl ?_
            refine T_imul d_X11_corners_196 ?_
            refine T_iadd d_X11_corners_197 ?_
            refine T_al d_X11_corners_198 rfl ?_
            refine F_gr (b := 132) d_X11_corners_199 rfl hF rfl ?_
            refine T_il d_X11_corners_202 rfl ?_
            refine F_ia d_X11_corners_203 rfl hBX rfl ⟨by omega, by omega⟩ (fun b_34 => ?_)
            try simp only [Int.toNat_natCast]
            try simp only [Int.toNat_natCast] at b_34
            rw [x132]
            refine T_i2l d_X11_corners_204 ⟨by omega, by omega⟩ ?_
            refine T_il d_X11_corners_205 rfl ?_
            refine T_zeq d_X11_corners_207 ⟨by omega, by omega⟩ (fun h207 => ?_) (fun h207 => ?_)
            · skip
              refine T_jk d_X11_corners_215 ?_
              refine T_ladd d_X11_corners_216 ?_
              refine T_il d_X11_corners_217 rfl ?_
              refine T_zeq d_X11_corners_219 ⟨by omega, by omega⟩ (fun h219 => ?_) (fun h219 => ?_)
              · skip
                refine T_jk d_X11_corners_227 ?_
                refine T_ladd d_X11_corners_228 ?_
                refine F_ls d_X11_corners_229 rfl hBX rfl ⟨by omega, by omega⟩ ⟨by omega, by omega⟩ (fun V_35 eV_35 hBV_35 => ?_)
                have fV_35 := chg_u eV_35 rfl fX
                -- to 230 207t.219t@230
                have nv : ¬ (i = 1 ∨ i = 2) := fun z => by rw [if_pos z] at hbv; omega
                have nw : ¬ 1 < i := fun z => by rw [if_pos z] at hbw; omega
                exact L230 V_35 hBV_35 fV_35 (by rw [eV_35, show ((a : Int) + 2 * (i : Int)).toNat = a + 2 * i by omega]; unfold cNR; rw [if_neg nv, if_neg nw])
              · skip
                refine T_ll d_X11_corners_222 rfl ?_
                refine T_go d_X11_corners_224 ?_
                refine T_ladd d_X11_corners_228 ?_
                refine F_ls d_X11_corners_229 rfl hBX rfl ⟨by omega, by omega⟩ ⟨by omega, by omega⟩ (fun V_36 eV_36 hBV_36 => ?_)
                have fV_36 := chg_u eV_36 rfl fX
                -- to 230 207t.219f@230
                have nv : ¬ (i = 1 ∨ i = 2) := fun z => by rw [if_pos z] at hbv; omega
                have nw : 1 < i := Classical.byContradiction fun z => by rw [if_neg z] at hbw; omega
                exact L230 V_36 hBV_36 fV_36 (by rw [eV_36, show ((a : Int) + 2 * (i : Int)).toNat = a + 2 * i by omega]; unfold cNR; rw [if_neg nv, if_pos nw])
            · skip
              refine T_ll d_X11_corners_210 rfl ?_
              refine T_go d_X11_corners_212 ?_
              refine T_ladd d_X11_corners_216 ?_
              refine T_il d_X11_corners_217 rfl ?_
              refine T_zeq d_X11_corners_219 ⟨by omega, by omega⟩ (fun h219 => ?_) (fun h219 => ?_)
              · skip
                refine T_jk d_X11_corners_227 ?_
                refine T_ladd d_X11_corners_228 ?_
                refine F_ls d_X11_corners_229 rfl hBX rfl ⟨by omega, by omega⟩ ⟨by omega, by omega⟩ (fun V_37 eV_37 hBV_37 => ?_)
                have fV_37 := chg_u eV_37 rfl fX
                -- to 230 207f.219t@230
                have nv : i = 1 ∨ i = 2 := Classical.byContradiction fun z => by rw [if_neg z] at hbv; omega
                have nw : ¬ 1 < i := fun z => by rw [if_pos z] at hbw; omega
                exact L230 V_37 hBV_37 fV_37 (by rw [eV_37, show ((a : Int) + 2 * (i : Int)).toNat = a + 2 * i by omega]; unfold cNR; rw [if_pos nv, if_neg nw])
              · skip
                refine T_ll d_X11_corners_222 rfl ?_
                refine T_go d_X11_corners_224 ?_
                refine T_ladd d_X11_corners_228 ?_
                refine F_ls d_X11_corners_229 rfl hBX rfl ⟨by omega, by omega⟩ ⟨by omega, by omega⟩ (fun V_38 eV_38 hBV_38 => ?_)
                have fV_38 := chg_u eV_38 rfl fX
                -- to 230 207f.219f@230
                have nv : i = 1 ∨ i = 2 := Classical.byContradiction fun z => by rw [if_neg z] at hbv; omega
                have nw : 1 < i := Classical.byContradiction fun z => by rw [if_neg z] at hbw; omega
                exact L230 V_38 hBV_38 fV_38 (by rw [eV_38, show ((a : Int) + 2 * (i : Int)).toNat = a + 2 * i by omega]; unfold cNR; rw [if_pos nv, if_pos nw])
          refine T_k d_X11_corners_177 ?_
          refine T_ile d_X11_corners_178 ⟨by omega, by omega⟩ ⟨by omega, by omega⟩ (fun h178 => ?_) (fun h178 => ?_)
          · skip
            refine T_k d_X11_corners_185 ?_
            refine T_is d_X11_corners_186 (ls' := [(0, vr 99), (1, vi (h:Int)), (2, vi (a:Int)), (3, vi (p : Int)), (4, vj (vxM V 132 h p q)), (6, vj (vxM V 133 h p q)), (8, vj (wxM V 132 kd p r)), (10, vj (wxM V 133 kd p r)), (12, vi (i : Int)), (13, vi bv), (14, vi 0)]) rfl ?_
            -- to 188 178t@188
            exact L188 0 (by rw [if_neg (by omega)]) (by omega)
          · skip
            refine T_k d_X11_corners_181 ?_
            refine T_go d_X11_corners_182 ?_
            refine T_is d_X11_corners_186 (ls' := [(0, vr 99), (1, vi (h:Int)), (2, vi (a:Int)), (3, vi (p : Int)), (4, vj (vxM V 132 h p q)), (6, vj (vxM V 133 h p q)), (8, vj (wxM V 132 kd p r)), (10, vj (wxM V 133 kd p r)), (12, vi (i : Int)), (13, vi bv), (14, vi 1)]) rfl ?_
            -- to 188 178f@188
            exact L188 1 (by rw [if_pos (by omega)]) (by omega)
        refine T_il d_X11_corners_156 rfl ?_
        refine T_k d_X11_corners_158 ?_
        refine T_ieq d_X11_corners_159 ⟨by omega, by omega⟩ ⟨by omega, by omega⟩ (fun h159 => ?_) (fun h159 => ?_)
        · skip
          refine T_k d_X11_corners_168 ?_
          refine T_go d_X11_corners_169 ?_
          refine T_is d_X11_corners_173 (ls' := [(0, vr 99), (1, vi (h:Int)), (2, vi (a:Int)), (3, vi (p : Int)), (4, vj (vxM V 132 h p q)), (6, vj (vxM V 133 h p q)), (8, vj (wxM V 132 kd p r)), (10, vj (wxM V 133 kd p r)), (12, vi (i : Int)), (13, vi 1)]) rfl ?_
          -- to 175 153f.159t@175
          exact L175 1 (by rw [if_pos (by omega)]) (by omega)
        · skip
          refine T_il d_X11_corners_162 rfl ?_
          refine T_k d_X11_corners_164 ?_
          refine T_ine d_X11_corners_165 ⟨by omega, by omega⟩ ⟨by omega, by omega⟩ (fun h165 => ?_) (fun h165 => ?_)
          · skip
            refine T_k d_X11_corners_172 ?_
            refine T_is d_X11_corners_173 (ls' := [(0, vr 99), (1, vi (h:Int)), (2, vi (a:Int)), (3, vi (p : Int)), (4, vj (vxM V 132 h p q)), (6, vj (vxM V 133 h p q)), (8, vj (wxM V 132 kd p r)), (10, vj (wxM V 133 kd p r)), (12, vi (i : Int)), (13, vi 0)]) rfl ?_
            -- to 175 153f.159f.165t@175
            exact L175 0 (by rw [if_neg (by omega)]) (by omega)
          · skip
            refine T_k d_X11_corners_168 ?_
            refine T_go d_X11_corners_169 ?_
            refine T_is d_X11_corners_173 (ls' := [(0, vr 99), (1, vi (h:Int)), (2, vi (a:Int)), (3, vi (p : Int)), (4, vj (vxM V 132 h p q)), (6, vj (vxM V 133 h p q)), (8, vj (wxM V 132 kd p r)), (10, vj (wxM V 133 kd p r)), (12, vi (i : Int)), (13, vi 1)]) rfl ?_
            -- to 175 153f.159f.165f@175
            exact L175 1 (by rw [if_pos (by omega)]) (by omega)
  exact L150 _ V (0) (Nat.lt_succ_self _) hB fV (by first | assumption | omega) ⟨fun t ht => absurd ht (Nat.not_lt_zero _), fun j _ => rfl⟩
