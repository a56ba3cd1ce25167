set_option maxHeartbeats 1000000 in
set_option maxRecDepth 100000 in
theorem R_X11_copies {G : GG} {V : VV} {R : RR}  {a c : Nat} (hB : Bd V) (hF : FinR R) (ha : a < 25) (hc : c < 25) (hac : a ≠ c) : Runs G M_X11_copies 1 162 162 [vr 99, vi (a:Int), vi (c:Int)] V R (PQ [(135, 146)] [] V R (fun o X => o = none ∧ ∀ i f, f < 43 → rowO X i f = if i = c then rowO V a f else rowO V i f)) := by
  refine Runs.of pn_X11 (Nat.le_of_ble_eq_true rfl) rfl ?_
  show TT G M_X11_copies (rmd 1 162 162) 162 (Zm G 162 162 (PQ [(135, 146)] [] V R (fun o X => o = none ∧ ∀ i f, f < 43 → rowO X i f = if i = c then rowO V a f else rowO V i f))) 162 0 [(0, vr 99), (1, vi (a:Int)), (2, vi (c:Int))] [] V R
  have fV : chg [(135, 146)] [] V V := chg_r
  refine T_al d_X11_copies_0 rfl ?_
  refine F_gr (b := 135) d_X11_copies_1 rfl hF rfl ?_
  refine T_il d_X11_copies_4 rfl ?_
  refine T_al d_X11_copies_5 rfl ?_
  refine F_gr (b := 135) d_X11_copies_6 rfl hF rfl ?_
  refine T_il d_X11_copies_9 rfl ?_
  refine F_ia d_X11_copies_10 rfl hB rfl ⟨by omega, by omega⟩ (fun b_1 => ?_)
  try simp only [Int.toNat_natCast]
  try simp only [Int.toNat_natCast] at b_1
  refine F_is d_X11_copies_11 rfl hB rfl ⟨by omega, by omega⟩ ⟨by omega, by omega⟩ (fun V_2 eV_2 hBV_2 => ?_)
  have fV_2 := chg_u eV_2 rfl fV
  refine T_al d_X11_copies_12 rfl ?_
  refine F_gr (b := 136) d_X11_copies_13 rfl hF rfl ?_
  refine T_il d_X11_copies_16 rfl ?_
  refine T_al d_X11_copies_17 rfl ?_
  refine F_gr (b := 136) d_X11_copies_18 rfl hF rfl ?_
  refine T_il d_X11_copies_21 rfl ?_
  refine F_ia d_X11_copies_22 rfl hBV_2 rfl ⟨by omega, by omega⟩ (fun b_3 => ?_)
  have faV_2_136 : V_2 136 = V 136 := by rw [eV_2]; rfl
  rw [faV_2_136]
  rw [faV_2_136] at b_3
  try simp only [Int.toNat_natCast]
  try simp only [Int.toNat_natCast] at b_3
  refine F_is d_X11_copies_23 rfl hBV_2 rfl ⟨by omega, by omega⟩ ⟨by omega, by omega⟩ (fun V_4 eV_4 hBV_4 => ?_)
  have fV_4 := chg_u eV_4 rfl fV_2
  refine T_al d_X11_copies_24 rfl ?_
  refine F_gr (b := 137) d_X11_copies_25 rfl hF rfl ?_
  refine T_il d_X11_copies_28 rfl ?_
  refine T_al d_X11_copies_29 rfl ?_
  refine F_gr (b := 137) d_X11_copies_30 rfl hF rfl ?_
  refine T_il d_X11_copies_33 rfl ?_
  refine F_ia d_X11_copies_34 rfl hBV_4 rfl ⟨by omega, by omega⟩ (fun b_5 => ?_)
  have faV_4_137 : V_4 137 = V 137 := by rw [eV_4, eV_2]; rfl
  rw [faV_4_137]
  rw [faV_4_137] at b_5
  try simp only [Int.toNat_natCast]
  try simp only [Int.toNat_natCast] at b_5
  refine F_is d_X11_copies_35 rfl hBV_4 rfl ⟨by omega, by omega⟩ ⟨by omega, by omega⟩ (fun V_6 eV_6 hBV_6 => ?_)
  have fV_6 := chg_u eV_6 rfl fV_4
  refine T_al d_X11_copies_36 rfl ?_
  refine F_gr (b := 138) d_X11_copies_37 rfl hF rfl ?_
  refine T_il d_X11_copies_40 rfl ?_
  refine T_al d_X11_copies_41 rfl ?_
  refine F_gr (b := 138) d_X11_copies_42 rfl hF rfl ?_
  refine T_il d_X11_copies_45 rfl ?_
  refine F_ia d_X11_copies_46 rfl hBV_6 rfl ⟨by omega, by omega⟩ (fun b_7 => ?_)
  have faV_6_138 : V_6 138 = V 138 := by rw [eV_6, eV_4, eV_2]; rfl
  rw [faV_6_138]
  rw [faV_6_138] at b_7
  try simp only [Int.toNat_natCast]
  try simp only [Int.toNat_natCast] at b_7
  refine F_is d_X11_copies_47 rfl hBV_6 rfl ⟨by omega, by omega⟩ ⟨by omega, by omega⟩ (fun V_8 eV_8 hBV_8 => ?_)
  have fV_8 := chg_u eV_8 rfl fV_6
  refine T_al d_X11_copies_48 rfl ?_
  refine F_gr (b := 139) d_X11_copies_49 rfl hF rfl ?_
  refine T_il d_X11_copies_52 rfl ?_
  refine T_al d_X11_copies_53 rfl ?_
  refine F_gr (b := 139) d_X11_copies_54 rfl hF rfl ?_
  refine T_il d_X11_copies_57 rfl ?_
  refine F_ia d_X11_copies_58 rfl hBV_8 rfl ⟨by omega, by omega⟩ (fun b_9 => ?_)
  have faV_8_139 : V_8 139 = V 139 := by rw [eV_8, eV_6, eV_4, eV_2]; rfl
  rw [faV_8_139]
  rw [faV_8_139] at b_9
  try simp only [Int.toNat_natCast]
  try simp only [Int.toNat_natCast] at b_9
  refine F_is d_X11_copies_59 rfl hBV_8 rfl ⟨by omega, by omega⟩ ⟨by omega, by omega⟩ (fun V_10 eV_10 hBV_10 => ?_)
  have fV_10 := chg_u eV_10 rfl fV_8
  refine T_al d_X11_copies_60 rfl ?_
  refine F_gr (b := 140) d_X11_copies_61 rfl hF rfl ?_
  refine T_il d_X11_copies_64 rfl ?_
  refine T_al d_X11_copies_65 rfl ?_
  refine F_gr (b := 140) d_X11_copies_66 rfl hF rfl ?_
  refine T_il d_X11_copies_69 rfl ?_
  refine F_ia d_X11_copies_70 rfl hBV_10 rfl ⟨by omega, by omega⟩ (fun b_11 => ?_)
  have faV_10_140 : V_10 140 = V 140 := by rw [eV_10, eV_8, eV_6, eV_4, eV_2]; rfl
  rw [faV_10_140]
  rw [faV_10_140] at b_11
  try simp only [Int.toNat_natCast]
  try simp only [Int.toNat_natCast] at b_11
  refine F_is d_X11_copies_71 rfl hBV_10 rfl ⟨by omega, by omega⟩ ⟨by omega, by omega⟩ (fun V_12 eV_12 hBV_12 => ?_)
  have fV_12 := chg_u eV_12 rfl fV_10
  refine T_al d_X11_copies_72 rfl ?_
  refine F_gr (b := 141) d_X11_copies_73 rfl hF rfl ?_
  refine T_il d_X11_copies_76 rfl ?_
  refine T_al d_X11_copies_77 rfl ?_
  refine F_gr (b := 141) d_X11_copies_78 rfl hF rfl ?_
  refine T_il d_X11_copies_81 rfl ?_
  refine F_ia d_X11_copies_82 rfl hBV_12 rfl ⟨by omega, by omega⟩ (fun b_13 => ?_)
  have faV_12_141 : V_12 141 = V 141 := by rw [eV_12, eV_10, eV_8, eV_6, eV_4, eV_2]; rfl
  rw [faV_12_141]
  rw [faV_12_141] at b_13
  try simp only [Int.toNat_natCast]
  try simp only [Int.toNat_natCast] at b_13
  refine F_is d_X11_copies_83 rfl hBV_12 rfl ⟨by omega, by omega⟩ ⟨by omega, by omega⟩ (fun V_14 eV_14 hBV_14 => ?_)
  have fV_14 := chg_u eV_14 rfl fV_12
  refine T_al d_X11_copies_84 rfl ?_
  refine F_gr (b := 142) d_X11_copies_85 rfl hF rfl ?_
  refine T_il d_X11_copies_88 rfl ?_
  refine T_al d_X11_copies_89 rfl ?_
  refine F_gr (b := 142) d_X11_copies_90 rfl hF rfl ?_
  refine T_il d_X11_copies_93 rfl ?_
  refine F_ia d_X11_copies_94 rfl hBV_14 rfl ⟨by omega, by omega⟩ (fun b_15 => ?_)
  have faV_14_142 : V_14 142 = V 142 := by rw [eV_14, eV_12, eV_10, eV_8, eV_6, eV_4, eV_2]; rfl
  rw [faV_14_142]
  rw [faV_14_142] at b_15
  try simp only [Int.toNat_natCast]
  try simp only [Int.toNat_natCast] at b_15
  refine F_is d_X11_copies_95 rfl hBV_14 rfl ⟨by omega, by omega⟩ ⟨by omega, by omega⟩ (fun V_16 eV_16 hBV_16 => ?_)
  have fV_16 := chg_u eV_16 rfl fV_14
  refine T_al d_X11_copies_96 rfl ?_
  refine F_gr (b := 143) d_X11_copies_97 rfl hF rfl ?_
  refine T_il d_X11_copies_100 rfl ?_
  refine T_al d_X11_copies_101 rfl ?_
  refine F_gr (b := 143) d_X11_copies_102 rfl hF rfl ?_
  refine T_il d_X11_copies_105 rfl ?_
  refine F_ia d_X11_copies_106 rfl hBV_16 rfl ⟨by omega, by omega⟩ (fun b_17 => ?_)
  have faV_16_143 : V_16 143 = V 143 := by rw [eV_16, eV_14, eV_12, eV_10, eV_8, eV_6, eV_4, eV_2]; rfl
  rw [faV_16_143]
  rw [faV_16_143] at b_17
  try simp only [Int.toNat_natCast]
  try simp only [Int.toNat_natCast] at b_17
  refine F_is d_X11_copies_107 rfl hBV_16 rfl ⟨by omega, by omega⟩ ⟨by omega, by omega⟩ (fun V_18 eV_18 hBV_18 => ?_)
  have fV_18 := chg_u eV_18 rfl fV_16
  refine T_al d_X11_copies_108 rfl ?_
  refine F_gr (b := 144) d_X11_copies_109 rfl hF rfl ?_
  refine T_il d_X11_copies_112 rfl ?_
  refine T_al d_X11_copies_113 rfl ?_
  refine F_gr (b := 144) d_X11_copies_114 rfl hF rfl ?_
  refine T_il d_X11_copies_117 rfl ?_
  refine F_ia d_X11_copies_118 rfl hBV_18 rfl ⟨by omega, by omega⟩ (fun b_19 => ?_)
  have faV_18_144 : V_18 144 = V 144 := by rw [eV_18, eV_16, eV_14, eV_12, eV_10, eV_8, eV_6, eV_4, eV_2]; rfl
  rw [faV_18_144]
  rw [faV_18_144] at b_19
  try simp only [Int.toNat_natCast]
  try simp only [Int.toNat_natCast] at b_19
  refine F_is d_X11_copies_119 rfl hBV_18 rfl ⟨by omega, by omega⟩ ⟨by omega, by omega⟩ (fun V_20 eV_20 hBV_20 => ?_)
  have fV_20 := chg_u eV_20 rfl fV_18
  refine T_al d_X11_copies_120 rfl ?_
  refine F_gr (b := 145) d_X11_copies_121 rfl hF rfl ?_
  refine T_il d_X11_copies_124 rfl ?_
  refine T_al d_X11_copies_125 rfl ?_
  refine F_gr (b := 145) d_X11_copies_126 rfl hF rfl ?_
  refine T_il d_X11_copies_129 rfl ?_
  refine F_la d_X11_copies_130 rfl hBV_20 rfl ⟨by omega, by omega⟩ (fun b_21 => ?_)
  have faV_20_145 : V_20 145 = V 145 := by rw [eV_20, eV_18, eV_16, eV_14, eV_12, eV_10, eV_8, eV_6, eV_4, eV_2]; rfl
  rw [faV_20_145]
  rw [faV_20_145] at b_21
  try simp only [Int.toNat_natCast]
  try simp only [Int.toNat_natCast] at b_21
  refine F_ls d_X11_copies_131 rfl hBV_20 rfl ⟨by omega, by omega⟩ ⟨by omega, by omega⟩ (fun V_22 eV_22 hBV_22 => ?_)
  have fV_22 := chg_u eV_22 rfl fV_20
  refine T_k d_X11_copies_132 ?_
  refine T_is d_X11_copies_133 (ls' := [(0, vr 99), (1, vi (a:Int)), (2, vi (c:Int)), (3, vi 0)]) rfl ?_
  -- to 134 @134
  have L134 : ∀ (fu : Nat) (X : VV) (t : Nat), 32 - t < fu → (Bd X) → (chg [(135, 146)] [] V X) → (t ≤ 32) → (cpA V X a c) → (cpP V X a c t) → TT G M_X11_copies (rmd 1 162 162) 162 (Zm G 162 162 (PQ [(135, 146)] [] V R (fun o X => o = none ∧ ∀ i f, f < 43 → rowO X i f = if i = c then rowO V a f else rowO V i f))) 162 134 [(0, vr 99), (1, vi (a:Int)), (2, vi (c:Int)), (3, vi (t : Int))] [] X R := by
    intro fu
    induction fu with
    | zero => intro X t hm; exact absurd hm (Nat.not_lt_zero _)
    | succ fu ih134 =>
      intro X t hm134 hBX fX ht hA hP
      refine T_il d_X11_copies_134 rfl ?_
      refine T_k d_X11_copies_135 ?_
      refine T_ige d_X11_copies_137 ⟨by omega, by omega⟩ ⟨by omega, by omega⟩ (fun h137 => ?_) (fun h137 => ?_)
      · skip
        -- leaf 137t@168
        refine T_vret d_X11_copies_168 rfl ?_
        rw [show t = 32 by omega] at hP
        exact ⟨rfl, hBX, fX, rfl, cpy_e hP hA⟩
      · skip
        have ta : (32 * (a : Int) + (t : Int)).toNat = 32 * a + t := by omega
        have tc : (32 * (c : Int) + (t : Int)).toNat = 32 * c + t := by omega
        have tv : X 146 (32 * a + t) = V 146 (32 * a + t) := by rw [hP, if_neg (by omega)]
        refine T_al d_X11_copies_140 rfl ?_
        refine F_gr (b := 146) d_X11_copies_141 rfl hF rfl ?_
        refine T_k d_X11_copies_144 ?_
        refine T_il d_X11_copies_146 rfl ?_
        refine T_imul d_X11_copies_147 ?_
        refine T_il d_X11_copies_148 rfl ?_
        refine T_iadd d_X11_copies_149 ?_
        refine T_al d_X11_copies_150 rfl ?_
        refine F_gr (b := 146) d_X11_copies_151 rfl hF rfl ?_
        refine T_k d_X11_copies_154 ?_
        refine T_il d_X11_copies_156 rfl ?_
        refine T_imul d_X11_copies_157 ?_
        refine T_il d_X11_copies_158 rfl ?_
        refine T_iadd d_X11_copies_159 ?_
        refine F_ia d_X11_copies_160 rfl hBX rfl ⟨by omega, by omega⟩ (fun b_23 => ?_)
        try simp only [Int.toNat_natCast, ta, tv]
        try simp only [Int.toNat_natCast, ta, tv] at b_23
        refine F_is d_X11_copies_161 rfl hBX rfl ⟨by omega, by omega⟩ ⟨by omega, by omega⟩ (fun V_24 eV_24 hBV_24 => ?_)
        have fV_24 := chg_u eV_24 rfl fX
        refine F_incg d_X11_copies_162 rfl (f := fun x_25 => [(0, vr 99), (1, vi (a:Int)), (2, vi (c:Int)), (3, vi x_25)]) (fun _ => rfl) (fun x_25 ex_25 => ?_)
        refine T_go d_X11_copies_165 ?_
        -- to 134 137f@134
        have cs := cpy_s hP hA eV_24 tc rfl
        obtain rfl : x_25 = ((t + 1) : Int) := by omega
        exact ih134 V_24 (t + 1) (by omega) hBV_24 fV_24 (by first | assumption | omega) cs.2 cs.1
  exact L134 _ V_22 (0) (Nat.lt_succ_self _) hBV_22 fV_22 (by first | assumption | omega) (f11 (by rw [eV_22, eV_20, eV_18, eV_16, eV_14, eV_12, eV_10, eV_8, eV_6, eV_4, eV_2]; rfl) (by rw [eV_22, eV_20, eV_18, eV_16, eV_14, eV_12, eV_10, eV_8, eV_6, eV_4, eV_2]; rfl) (by rw [eV_22, eV_20, eV_18, eV_16, eV_14, eV_12, eV_10, eV_8, eV_6, eV_4, eV_2]; rfl) (by rw [eV_22, eV_20, eV_18, eV_16, eV_14, eV_12, eV_10, eV_8, eV_6, eV_4, eV_2]; rfl) (by rw [eV_22, eV_20, eV_18, eV_16, eV_14, eV_12, eV_10, eV_8, eV_6, eV_4, eV_2]; rfl) (by rw [eV_22, eV_20, eV_18, eV_16, eV_14, eV_12, eV_10, eV_8, eV_6, eV_4, eV_2]; rfl) (by rw [eV_22, eV_20, eV_18, eV_16, eV_14, eV_12, eV_10, eV_8, eV_6, eV_4, eV_2]; rfl) (by rw [eV_22, eV_20, eV_18, eV_16, eV_14, eV_12, eV_10, eV_8, eV_6, eV_4, eV_2]; rfl) (by rw [eV_22, eV_20, eV_18, eV_16, eV_14, eV_12, eV_10, eV_8, eV_6, eV_4, eV_2]; rfl) (by rw [eV_22, eV_20, eV_18, eV_16, eV_14, eV_12, eV_10, eV_8, eV_6, eV_4, eV_2]; rfl) (by rw [eV_22, eV_20, eV_18, eV_16, eV_14, eV_12, eV_10, eV_8, eV_6, eV_4, eV_2]; rfl)) (fun j => by rw [if_neg (by omega)]; exact congrFun (by rw [eV_22, eV_20, eV_18, eV_16, eV_14, eV_12, eV_10, eV_8, eV_6, eV_4, eV_2]; rfl) j)
set_option maxHeartbeats 1000000 in
set_option maxRecDepth 100000 in
theorem R_X11_keeps {G : GG} {V : VV} {R : RR}  {kd p q r n N : Nat} {l : Nat → Nat → Int} (hB : Bd V) (hF : FinR R) (hL : hsL N l V) (hN : N ≤ 24) (hkd : kd < 5) (hpq : p < 40 ∧ q < 40 ∧ r < 40 ∧ n ≤ 8) (hb2 : (0 ≤ V 99 72 ∧ V 99 72 ≤ 32) ∧ (0 ≤ V 99 73 ∧ V 99 73 ≤ 32) ∧ (0 ≤ V 99 74 ∧ V 99 74 ≤ 32) ∧ (0 ≤ V 99 75 ∧ V 99 75 ≤ 32) ∧ 0 ≤ V 99 77 ∧ V 99 77 < 1099511627776) : Runs G M_X11_keeps 2 162 162 [vr 99, vi (kd:Int), vi (p:Int), vi (q:Int), vi (r:Int), vi (n:Int)] V R (PQ [(135, 146)] [(99, 57, 57)] V R (fun o X => o = none ∧ hsL (kpN N l (newE V kd p q r n)) (kpL N l (newE V kd p q r n)) X)) := by
  refine Runs.of pn_X11 (Nat.le_of_ble_eq_true rfl) rfl ?_
  show TT G M_X11_keeps (rmd 2 162 162) 162 (Zm G 162 162 (PQ [(135, 146)] [(99, 57, 57)] V R (fun o X => o = none ∧ hsL (kpN N l (newE V kd p q r n)) (kpL N l (newE V kd p q r n)) X))) 162 0 [(0, vr 99), (1, vi (kd:Int)), (2, vi (p:Int)), (3, vi (q:Int)), (4, vi (r:Int)), (5, vi (n:Int))] [] V R
  have fV : chg [(135, 146)] [(99, 57, 57)] V V := chg_r
  have hLN := hL.1
  have he0 : (newE V kd p q r n) 0 = (kd : Int) := rfl
  have he9 : (newE V kd p q r n) 9 = V 99 76 := rfl
  have he10 : (newE V kd p q r n) 10 = V 99 77 := rfl
  have L119 : ∀ (Y : VV), (Bd Y) → (chg [(135, 146)] [(99, 57, 57)] V Y) → (hsL (k1N N l (newE V kd p q r n)) (k1L N l (newE V kd p q r n)) Y) → (¬ kpS N l (newE V kd p q r n)) → TT G M_X11_keeps (rmd 2 162 162) 162 (Zm G 162 162 (PQ [(135, 146)] [(99, 57, 57)] V R (fun o X => o = none ∧ hsL (kpN N l (newE V kd p q r n)) (kpL N l (newE V kd p q r n)) X))) 162 119 [(0, vr 99), (1, vi (kd:Int)), (2, vi (p:Int)), (3, vi (q:Int)), (4, vi (r:Int)), (5, vi (n:Int))] [] Y R := by
    intro Y hBY fY hY hns
    have hYN := hY.1
    have y76 : Y 99 76 = V 99 76 := chg_j fY rfl
    have hk24 := k1N_le (N := N) (l := l) (e := (newE V kd p q r n))
    have L152 : ∀ (y : Int) (a : Nat), (y = (a : Int)) → (a ≤ (k1N N l (newE V kd p q r n))) → (a = atF (k1L N l (newE V kd p q r n)) (V 99 76) (k1N N l (newE V kd p q r n))) → TT G M_X11_keeps (rmd 2 162 162) 162 (Zm G 162 162 (PQ [(135, 146)] [(99, 57, 57)] V R (fun o X => o = none ∧ hsL (kpN N l (newE V kd p q r n)) (kpL N l (newE V kd p q r n)) X))) 162 152 [(0, vr 99), (1, vi (kd:Int)), (2, vi (p:Int)), (3, vi (q:Int)), (4, vi (r:Int)), (5, vi (n:Int)), (7, vi y)] [] Y R := by
      intro y a ey ha hat
      have L179 : ∀ (Z : VV) (N2 : Nat), (Bd Z) → (chg [(135, 146)] [(99, 57, 57)] V Z) → (a ≠ 24) → (N2 = if (k1N N l (newE V kd p q r n)) = 24 then 23 else (k1N N l (newE V kd p q r n))) → (Z 99 57 = (N2 : Int)) → (∀ i, i < (k1N N l (newE V kd p q r n)) → ∀ f, f < 43 → rowO Z i f = (k1L N l (newE V kd p q r n)) i f) → TT G M_X11_keeps (rmd 2 162 162) 162 (Zm G 162 162 (PQ [(135, 146)] [(99, 57, 57)] V R (fun o X => o = none ∧ hsL (kpN N l (newE V kd p q r n)) (kpL N l (newE V kd p q r n)) X))) 162 179 [(0, vr 99), (1, vi (kd:Int)), (2, vi (p:Int)), (3, vi (q:Int)), (4, vi (r:Int)), (5, vi (n:Int)), (7, vi y)] [] Z R := by
        intro Z N2 hBZ fZ ha24 hN2 zN zR
        have hN3 : N2 ≤ 23 ∧ a ≤ N2 ∧ N2 ≤ (k1N N l (newE V kd p q r n)) := by rw [hN2]; split <;> omega
        refine T_al d_X11_keeps_179 rfl ?_
        refine F_gi d_X11_keeps_180 rfl hBZ rfl (fun b_1 => ?_)
        refine F_isg d_X11_keeps_183 (f := fun x_2 => [(0, vr 99), (1, vi (kd:Int)), (2, vi (p:Int)), (3, vi (q:Int)), (4, vi (r:Int)), (5, vi (n:Int)), (7, vi y), (8, vi x_2)]) (fun _ => rfl) (fun x_2 ex_2 => ?_)
        -- to 185 @185
        have L185 : ∀ (fu : Nat) (U : VV) (z : Int) (h : Nat), h < fu → (Bd U) → (chg [(135, 146)] [(99, 57, 57)] V U) → (z = (h : Int)) → (a ≤ h ∧ h ≤ N2) → (U 99 57 = (N2 : Int)) → (upI N2 (k1L N l (newE V kd p q r n)) h U) → TT G M_X11_keeps (rmd 2 162 162) 162 (Zm G 162 162 (PQ [(135, 146)] [(99, 57, 57)] V R (fun o X => o = none ∧ hsL (kpN N l (newE V kd p q r n)) (kpL N l (newE V kd p q r n)) X))) 162 185 [(0, vr 99), (1, vi (kd:Int)), (2, vi (p:Int)), (3, vi (q:Int)), (4, vi (r:Int)), (5, vi (n:Int)), (7, vi y), (8, vi z)] [] U R := by
          intro fu
          induction fu with
          | zero => intro U z h hm; exact absurd hm (Nat.not_lt_zero _)
          | succ fu ih185 =>
            intro U z h hm185 hBU fU ez hh3 uN hU
            refine T_il d_X11_keeps_185 rfl ?_
            refine T_il d_X11_keeps_187 rfl ?_
            refine T_ile d_X11_keeps_189 ⟨by omega, by omega⟩ ⟨by omega, by omega⟩ (fun h189 => ?_) (fun h189 => ?_)
            · skip
              have hha : h = a := by omega
              rw [hha] at hU
              have u72 : U 99 72 = V 99 72 := chg_j fU rfl
              have u73 : U 99 73 = V 99 73 := chg_j fU rfl
              have u74 : U 99 74 = V 99 74 := chg_j fU rfl
              have u75 : U 99 75 = V 99 75 := chg_j fU rfl
              have u76 : U 99 76 = V 99 76 := chg_j fU rfl
              have u77 : U 99 77 = V 99 77 := chg_j fU rfl
              refine T_al d_X11_keeps_208 rfl ?_
              refine T_dup d_X11_keeps_209 rfl ?_
              refine F_gi d_X11_keeps_210 rfl hBU rfl (fun b_3 => ?_)
              refine T_k d_X11_keeps_213 ?_
              refine T_iadd d_X11_keeps_214 ?_
              refine F_pi d_X11_keeps_215 rfl hBU rfl ⟨by omega, by omega⟩ (fun V_4 eV_4 hBV_4 => ?_)
              have fV_4 := chg_u eV_4 rfl fU
              refine T_al d_X11_keeps_218 rfl ?_
              refine F_gr (b := 135) d_X11_keeps_219 rfl hF rfl ?_
              refine T_il d_X11_keeps_222 rfl ?_
              refine T_il d_X11_keeps_224 rfl ?_
              refine F_is d_X11_keeps_225 rfl hBV_4 rfl ⟨by omega, by omega⟩ ⟨by omega, by omega⟩ (fun V_5 eV_5 hBV_5 => ?_)
              have fV_5 := chg_u eV_5 rfl fV_4
              refine T_al d_X11_keeps_226 rfl ?_
              refine F_gr (b := 136) d_X11_keeps_227 rfl hF rfl ?_
              refine T_il d_X11_keeps_230 rfl ?_
              refine T_il d_X11_keeps_232 rfl ?_
              refine F_is d_X11_keeps_233 rfl hBV_5 rfl ⟨by omega, by omega⟩ ⟨by omega, by omega⟩ (fun V_6 eV_6 hBV_6 => ?_)
              have fV_6 := chg_u eV_6 rfl fV_5
              refine T_al d_X11_keeps_234 rfl ?_
              refine F_gr (b := 137) d_X11_keeps_235 rfl hF rfl ?_
              refine T_il d_X11_keeps_238 rfl ?_
              refine T_il d_X11_keeps_240 rfl ?_
              refine F_is d_X11_keeps_241 rfl hBV_6 rfl ⟨by omega, by omega⟩ ⟨by omega, by omega⟩ (fun V_7 eV_7 hBV_7 => ?_)
              have fV_7 := chg_u eV_7 rfl fV_6
              refine T_al d_X11_keeps_242 rfl ?_
              refine F_gr (b := 138) d_X11_keeps_243 rfl hF rfl ?_
              refine T_il d_X11_keeps_246 rfl ?_
              refine T_il d_X11_keeps_248 rfl ?_
              refine F_is d_X11_keeps_250 rfl hBV_7 rfl ⟨by omega, by omega⟩ ⟨by omega, by omega⟩ (fun V_8 eV_8 hBV_8 => ?_)
              have fV_8 := chg_u eV_8 rfl fV_7
              refine T_al d_X11_keeps_251 rfl ?_
              refine F_gr (b := 139) d_X11_keeps_252 rfl hF rfl ?_
              refine T_il d_X11_keeps_255 rfl ?_
              refine T_il d_X11_keeps_257 rfl ?_
              refine F_is d_X11_keeps_259 rfl hBV_8 rfl ⟨by omega, by omega⟩ ⟨by omega, by omega⟩ (fun V_9 eV_9 hBV_9 => ?_)
              have fV_9 := chg_u eV_9 rfl fV_8
              refine T_al d_X11_keeps_260 rfl ?_
              refine F_gr (b := 140) d_X11_keeps_261 rfl hF rfl ?_
              refine T_il d_X11_keeps_264 rfl ?_
              refine T_al d_X11_keeps_266 rfl ?_
              refine F_gin d_X11_keeps_267 rfl ?_
              have fV_9_99_72 : V_9 99 72 = U 99 72 := by rw [eV_9, eV_8, eV_7, eV_6, eV_5, eV_4]; rfl
              rw [fV_9_99_72]
              refine F_is d_X11_keeps_270 rfl hBV_9 rfl ⟨by omega, by omega⟩ ⟨by omega, by omega⟩ (fun V_10 eV_10 hBV_10 => ?_)
              have fV_10 := chg_u eV_10 rfl fV_9
              refine T_al d_X11_keeps_271 rfl ?_
              refine F_gr (b := 141) d_X11_keeps_272 rfl hF rfl ?_
              refine T_il d_X11_keeps_275 rfl ?_
              refine T_al d_X11_keeps_277 rfl ?_
              refine F_gin d_X11_keeps_278 rfl ?_
              have fV_10_99_73 : V_10 99 73 = U 99 73 := by rw [eV_10, eV_9, eV_8, eV_7, eV_6, eV_5, eV_4]; rfl
              rw [fV_10_99_73]
              refine F_is d_X11_keeps_281 rfl hBV_10 rfl ⟨by omega, by omega⟩ ⟨by omega, by omega⟩ (fun V_11 eV_11 hBV_11 => ?_)
              have fV_11 := chg_u eV_11 rfl fV_10
              refine T_al d_X11_keeps_282 rfl ?_
              refine F_gr (b := 142) d_X11_keeps_283 rfl hF rfl ?_
              refine T_il d_X11_keeps_286 rfl ?_
              refine T_al d_X11_keeps_288 rfl ?_
              refine F_gin d_X11_keeps_289 rfl ?_
              have fV_11_99_74 : V_11 99 74 = U 99 74 := by rw [eV_11, eV_10, eV_9, eV_8, eV_7, eV_6, eV_5, eV_4]; rfl
              rw [fV_11_99_74]
              refine F_is d_X11_keeps_292 rfl hBV_11 rfl ⟨by omega, by omega⟩ ⟨by omega, by omega⟩ (fun V_12 eV_12 hBV_12 => ?_)
              have fV_12 := chg_u eV_12 rfl fV_11
              refine T_al d_X11_keeps_293 rfl ?_
              refine F_gr (b := 143) d_X11_keeps_294 rfl hF rfl ?_
              refine T_il d_X11_keeps_297 rfl ?_
              refine T_al d_X11_keeps_299 rfl ?_
              refine F_gin d_X11_keeps_300 rfl ?_
              have fV_12_99_75 : V_12 99 75 = U 99 75 := by rw [eV_12, eV_11, eV_10, eV_9, eV_8, eV_7, eV_6, eV_5, eV_4]; rfl
              rw [fV_12_99_75]
              refine F_is d_X11_keeps_303 rfl hBV_12 rfl ⟨by omega, by omega⟩ ⟨by omega, by omega⟩ (fun V_13 eV_13 hBV_13 => ?_)
              have fV_13 := chg_u eV_13 rfl fV_12
              refine T_al d_X11_keeps_304 rfl ?_
              refine F_gr (b := 144) d_X11_keeps_305 rfl hF rfl ?_
              refine T_il d_X11_keeps_308 rfl ?_
              refine T_al d_X11_keeps_310 rfl ?_
              refine F_gi d_X11_keeps_311 rfl hBV_13 rfl (fun b_14 => ?_)
              have fV_13_99_76 : V_13 99 76 = U 99 76 := by rw [eV_13, eV_12, eV_11, eV_10, eV_9, eV_8, eV_7, eV_6, eV_5, eV_4]; rfl
              rw [fV_13_99_76]
              rw [fV_13_99_76] at b_14
              refine F_is d_X11_keeps_314 rfl hBV_13 rfl ⟨by omega, by omega⟩ ⟨by omega, by omega⟩ (fun V_15 eV_15 hBV_15 => ?_)
              have fV_15 := chg_u eV_15 rfl fV_13
              refine T_al d_X11_keeps_315 rfl ?_
              refine F_gr (b := 145) d_X11_keeps_316 rfl hF rfl ?_
              refine T_il d_X11_keeps_319 rfl ?_
              refine T_al d_X11_keeps_321 rfl ?_
              refine F_gjn d_X11_keeps_322 rfl ?_
              have fV_15_99_77 : V_15 99 77 = U 99 77 := by rw [eV_15, eV_13, eV_12, eV_11, eV_10, eV_9, eV_8, eV_7, eV_6, eV_5, eV_4]; rfl
              rw [fV_15_99_77]
              refine F_ls d_X11_keeps_325 rfl hBV_15 rfl ⟨by omega, by omega⟩ ⟨by omega, by omega⟩ (fun V_16 eV_16 hBV_16 => ?_)
              have fV_16 := chg_u eV_16 rfl fV_15
              refine T_k d_X11_keeps_326 ?_
              refine T_is d_X11_keeps_327 (ls' := [(0, vr 99), (1, vi (kd:Int)), (2, vi (p:Int)), (3, vi (q:Int)), (4, vi (r:Int)), (5, vi (n:Int)), (7, vi y), (8, vi 0)]) rfl ?_
              -- to 329 189t@329
              have L329 : ∀ (fu : Nat) (T : VV) (t : Nat), 32 - t < fu → (Bd T) → (chg [(135, 146)] [(99, 57, 57)] V T) → (t ≤ 32) → (T 99 57 = (N2 : Int) + 1) → (nwA U T a (newE V kd p q r n)) → (nwP U T a (newE V kd p q r n) t) → TT G M_X11_keeps (rmd 2 162 162) 162 (Zm G 162 162 (PQ [(135, 146)] [(99, 57, 57)] V R (fun o X => o = none ∧ hsL (kpN N l (newE V kd p q r n)) (kpL N l (newE V kd p q r n)) X))) 162 329 [(0, vr 99), (1, vi (kd:Int)), (2, vi (p:Int)), (3, vi (q:Int)), (4, vi (r:Int)), (5, vi (n:Int)), (7, vi y), (8, vi (t : Int))] [] T R := by
                intro fu
                induction fu with
                | zero => intro T t hm; exact absurd hm (Nat.not_lt_zero _)
                | succ fu ih329 =>
                  intro T t hm329 hBT fT ht tN hA hP
                  refine T_il d_X11_keeps_329 rfl ?_
                  refine T_k d_X11_keeps_331 ?_
                  refine T_ige d_X11_keeps_333 ⟨by omega, by omega⟩ ⟨by omega, by omega⟩ (fun h333 => ?_) (fun h333 => ?_)
                  · skip
                    -- leaf 333t@362
                    refine T_vret d_X11_keeps_362 rfl ?_
                    have kp := kp_3 (a := a) hns (by rw [he9]; exact hat) (by omega) hN2
                    rw [show t = 32 by omega] at hP
                    exact ⟨rfl, hBT, fT, rfl, by rw [kp.1, kp.2]; exact nw_e hP hA hU (by omega) tN⟩
                  · skip
                    have t48 : T 148 = V 148 := chg_k fT rfl
                    have tc : (32 * y + (t : Int)).toNat = 32 * a + t := by omega
                    refine T_al d_X11_keeps_336 rfl ?_
                    refine F_gr (b := 146) d_X11_keeps_337 rfl hF rfl ?_
                    refine T_k d_X11_keeps_340 ?_
                    refine T_il d_X11_keeps_342 rfl ?_
                    refine T_imul d_X11_keeps_344 ?_
                    refine T_il d_X11_keeps_345 rfl ?_
                    refine T_iadd d_X11_keeps_347 ?_
                    refine T_al d_X11_keeps_348 rfl ?_
                    refine F_gr (b := 148) d_X11_keeps_349 rfl hF rfl ?_
                    refine T_il d_X11_keeps_352 rfl ?_
                    refine F_ia d_X11_keeps_354 rfl hBT rfl ⟨by omega, by omega⟩ (fun b_17 => ?_)
                    try simp only [Int.toNat_natCast, t48]
                    try simp only [Int.toNat_natCast, t48] at b_17
                    refine F_is d_X11_keeps_355 rfl hBT rfl ⟨by omega, by omega⟩ ⟨by omega, by omega⟩ (fun V_18 eV_18 hBV_18 => ?_)
                    have fV_18 := chg_u eV_18 rfl fT
                    refine F_incg d_X11_keeps_356 rfl (f := fun x_19 => [(0, vr 99), (1, vi (kd:Int)), (2, vi (p:Int)), (3, vi (q:Int)), (4, vi (r:Int)), (5, vi (n:Int)), (7, vi y), (8, vi x_19)]) (fun _ => rfl) (fun x_19 ex_19 => ?_)
                    refine T_go d_X11_keeps_359 ?_
                    -- to 329 333f@329
                    have cs := nw_s hP hA eV_18 tc newE_p.symm
                    obtain rfl : x_19 = ((t + 1) : Int) := by omega
                    exact ih329 V_18 (t + 1) (by omega) hBV_18 fV_18 (by first | assumption | omega) (by rw [eV_18]; exact tN) cs.2 cs.1
              exact L329 _ V_16 (0) (Nat.lt_succ_self _) hBV_16 fV_16 (by first | assumption | omega) (by rw [eV_16, eV_15, eV_13, eV_12, eV_11, eV_10, eV_9, eV_8, eV_7, eV_6, eV_5, eV_4]; show U 99 57 + 1 = _; rw [uN]) (f11 (by rw [eV_16, eV_15, eV_13, eV_12, eV_11, eV_10, eV_9, eV_8, eV_7, eV_6, eV_5, eV_4]; simp only [ey, Int.toNat_natCast, u72, u73, u74, u75, u76, u77]; rfl) (by rw [eV_16, eV_15, eV_13, eV_12, eV_11, eV_10, eV_9, eV_8, eV_7, eV_6, eV_5, eV_4]; simp only [ey, Int.toNat_natCast, u72, u73, u74, u75, u76, u77]; rfl) (by rw [eV_16, eV_15, eV_13, eV_12, eV_11, eV_10, eV_9, eV_8, eV_7, eV_6, eV_5, eV_4]; simp only [ey, Int.toNat_natCast, u72, u73, u74, u75, u76, u77]; rfl) (by rw [eV_16, eV_15, eV_13, eV_12, eV_11, eV_10, eV_9, eV_8, eV_7, eV_6, eV_5, eV_4]; simp only [ey, Int.toNat_natCast, u72, u73, u74, u75, u76, u77]; rfl) (by rw [eV_16, eV_15, eV_13, eV_12, eV_11, eV_10, eV_9, eV_8, eV_7, eV_6, eV_5, eV_4]; simp only [ey, Int.toNat_natCast, u72, u73, u74, u75, u76, u77]; rfl) (by rw [eV_16, eV_15, eV_13, eV_12, eV_11, eV_10, eV_9, eV_8, eV_7, eV_6, eV_5, eV_4]; simp only [ey, Int.toNat_natCast, u72, u73, u74, u75, u76, u77]; rfl) (by rw [eV_16, eV_15, eV_13, eV_12, eV_11, eV_10, eV_9, eV_8, eV_7, eV_6, eV_5, eV_4]; simp only [ey, Int.toNat_natCast, u72, u73, u74, u75, u76, u77]; rfl) (by rw [eV_16, eV_15, eV_13, eV_12, eV_11, eV_10, eV_9, eV_8, eV_7, eV_6, eV_5, eV_4]; simp only [ey, Int.toNat_natCast, u72, u73, u74, u75, u76, u77]; rfl) (by rw [eV_16, eV_15, eV_13, eV_12, eV_11, eV_10, eV_9, eV_8, eV_7, eV_6, eV_5, eV_4]; simp only [ey, Int.toNat_natCast, u72, u73, u74, u75, u76, u77]; rfl) (by rw [eV_16, eV_15, eV_13, eV_12, eV_11, eV_10, eV_9, eV_8, eV_7, eV_6, eV_5, eV_4]; simp only [ey, Int.toNat_natCast, u72, u73, u74, u75, u76, u77]; rfl) (by rw [eV_16, eV_15, eV_13, eV_12, eV_11, eV_10, eV_9, eV_8, eV_7, eV_6, eV_5, eV_4]; simp only [ey, Int.toNat_natCast, u72, u73, u74, u75, u76, u77]; rfl)) (fun j => by rw [if_neg (by omega), eV_16, eV_15, eV_13, eV_12, eV_11, eV_10, eV_9, eV_8, eV_7, eV_6, eV_5, eV_4]; rfl)
            · skip
              obtain ⟨w, ew⟩ : ∃ w, h = w + 1 := ⟨h - 1, by omega⟩
              refine T_al d_X11_keeps_192 rfl ?_
              refine T_il d_X11_keeps_193 rfl ?_
              refine T_k d_X11_keeps_195 ?_
              refine T_isub d_X11_keeps_196 ?_
              refine T_il d_X11_keeps_197 rfl ?_
              rw [show z - 1 = (w : Int) by omega, show z = ((w + 1 : Nat) : Int) by omega]
              refine C_v2 d_X11_keeps_199 rfl (hdF (by decide)) (hcF _) (R_X11_copies (a := w) (c := w + 1) hBU hF (by omega) (by omega) (by omega)) (fun r_20 V_21 R_22 qV_21 => ?_)
              obtain ⟨rfl, hBV_21, cV_21, rfl, pV_21⟩ := qV_21
              have fV_21 := chg_t (A := [(135, 146)]) (F := [(99, 57, 57)]) fU cV_21 rfl
              refine F_incg d_X11_keeps_202 rfl (f := fun x_23 => [(0, vr 99), (1, vi (kd:Int)), (2, vi (p:Int)), (3, vi (q:Int)), (4, vi (r:Int)), (5, vi (n:Int)), (7, vi y), (8, vi x_23)]) (fun _ => rfl) (fun x_23 ex_23 => ?_)
              refine T_go d_X11_keeps_205 ?_
              -- to 185 189f@185
              exact ih185 V_21 x_23 (w) (by omega) hBV_21 fV_21 (by omega) (by first | assumption | omega) (by rw [chg_j (c := 99) (j := 57) cV_21 rfl]; exact uN) (up_s (by rw [← ew]; exact hU) pV_21)
        exact L185 _ Z x_2 (N2) (Nat.lt_succ_self _) hBZ fZ (by omega) (by first | assumption | omega) zN (fun i f hf => ⟨fun w => zR i (by omega) f hf, fun w w2 => by omega⟩)
      refine T_il d_X11_keeps_152 rfl ?_
      refine T_k d_X11_keeps_154 ?_
      refine T_ine d_X11_keeps_156 ⟨by omega, by omega⟩ ⟨by omega, by omega⟩ (fun h156 => ?_) (fun h156 => ?_)
      · skip
        refine T_al d_X11_keeps_160 rfl ?_
        refine F_gi d_X11_keeps_161 rfl hBY rfl (fun b_24 => ?_)
        refine T_k d_X11_keeps_164 ?_
        refine T_ine d_X11_keeps_166 ⟨by omega, by omega⟩ ⟨by omega, by omega⟩ (fun h166 => ?_) (fun h166 => ?_)
        · skip
          -- to 179 156t.166t@179
          exact L179 Y (k1N N l (newE V kd p q r n)) hBY fY (by first | assumption | omega) (by rw [if_neg (by omega)]) hYN hY.2
        · skip
          refine T_al d_X11_keeps_169 rfl ?_
          refine T_dup d_X11_keeps_170 rfl ?_
          refine F_gi d_X11_keeps_171 rfl hBY rfl (fun b_25 => ?_)
          refine T_k d_X11_keeps_174 ?_
          refine T_isub d_X11_keeps_175 ?_
          refine F_pi d_X11_keeps_176 rfl hBY rfl ⟨by omega, by omega⟩ (fun V_26 eV_26 hBV_26 => ?_)
          have fV_26 := chg_u eV_26 rfl fY
          -- to 179 156t.166f@179
          exact L179 V_26 (23) hBV_26 fV_26 (by first | assumption | omega) (by rw [if_pos (by omega)]) (by rw [eV_26]; exact uV_self.trans (by omega)) (fun i hi f hf => by have w := hY.2 i hi f hf; rw [← w]; unfold rowO; rw [eV_26, uV_cell (by omega), uV_cell (by omega)])
      · skip
        -- leaf 156f@159
        refine T_vret d_X11_keeps_159 rfl ?_
        have kp := kp_2 hns (by rw [he9, ← hat]; omega)
        exact ⟨rfl, hBY, fY, rfl, by rw [kp.1, kp.2]; exact hY⟩
    refine T_al d_X11_keeps_119 rfl ?_
    refine F_gi d_X11_keeps_120 rfl hBY rfl (fun b_27 => ?_)
    refine F_isg d_X11_keeps_123 (f := fun x_28 => [(0, vr 99), (1, vi (kd:Int)), (2, vi (p:Int)), (3, vi (q:Int)), (4, vi (r:Int)), (5, vi (n:Int)), (7, vi x_28)]) (fun _ => rfl) (fun x_28 ex_28 => ?_)
    -- to 125 @125
    have L125 : ∀ (fu : Nat) (y : Int) (a : Nat), a < fu → (y = (a : Int)) → (a ≤ (k1N N l (newE V kd p q r n))) → (atF (k1L N l (newE V kd p q r n)) (V 99 76) a = atF (k1L N l (newE V kd p q r n)) (V 99 76) (k1N N l (newE V kd p q r n))) → TT G M_X11_keeps (rmd 2 162 162) 162 (Zm G 162 162 (PQ [(135, 146)] [(99, 57, 57)] V R (fun o X => o = none ∧ hsL (kpN N l (newE V kd p q r n)) (kpL N l (newE V kd p q r n)) X))) 162 125 [(0, vr 99), (1, vi (kd:Int)), (2, vi (p:Int)), (3, vi (q:Int)), (4, vi (r:Int)), (5, vi (n:Int)), (7, vi y)] [] Y R := by
      intro fu
      induction fu with
      | zero => intro y a hm; exact absurd hm (Nat.not_lt_zero _)
      | succ fu ih125 =>
        intro y a hm125 ey ha hat
        refine T_il d_X11_keeps_125 rfl ?_
        refine T_zle d_X11_keeps_127 ⟨by omega, by omega⟩ (fun h127 => ?_) (fun h127 => ?_)
        · skip
          -- to 152 127t@152
          exact L152 y (a) ey ha (by rw [← hat, show a = 0 by omega]; rfl)
        · skip
          obtain ⟨w, ew⟩ : ∃ w, a = w + 1 := ⟨a - 1, by omega⟩
          have tw : (y - 1).toNat = w := by omega
          have k9 := (row_9 hY (show w < (k1N N l (newE V kd p q r n)) by omega)).2.1
          refine T_al d_X11_keeps_130 rfl ?_
          refine F_gr (b := 144) d_X11_keeps_131 rfl hF rfl ?_
          refine T_il d_X11_keeps_134 rfl ?_
          refine T_k d_X11_keeps_136 ?_
          refine T_isub d_X11_keeps_137 ?_
          refine F_ia d_X11_keeps_138 rfl hBY rfl ⟨by omega, by omega⟩ (fun b_29 => ?_)
          try simp only [Int.toNat_natCast, tw, k9]
          try simp only [Int.toNat_natCast, tw, k9] at b_29
          refine T_al d_X11_keeps_139 rfl ?_
          refine F_gi d_X11_keeps_140 rfl hBY rfl (fun b_30 => ?_)
          refine T_ige d_X11_keeps_143 ⟨by omega, by omega⟩ ⟨by omega, by omega⟩ (fun h143 => ?_) (fun h143 => ?_)
          · skip
            -- to 152 127f.143t@152
            exact L152 y (a) ey ha (by rw [← hat, ew, at_f (by omega)])
          · skip
            refine F_incg d_X11_keeps_146 rfl (f := fun x_31 => [(0, vr 99), (1, vi (kd:Int)), (2, vi (p:Int)), (3, vi (q:Int)), (4, vi (r:Int)), (5, vi (n:Int)), (7, vi x_31)]) (fun _ => rfl) (fun x_31 ex_31 => ?_)
            refine T_go d_X11_keeps_149 ?_
            -- to 125 127f.143f@125
            exact ih125 x_31 (w) (by omega) (by omega) (by first | assumption | omega) (by rw [← hat, ew]; exact (at_t (by omega)).symm)
    exact L125 _ x_28 (k1N N l (newE V kd p q r n)) (Nat.lt_succ_self _) (by omega) (by first | assumption | omega) rfl
  refine T_k d_X11_keeps_0 ?_
  refine T_is d_X11_keeps_1 (ls' := [(0, vr 99), (1, vi (kd:Int)), (2, vi (p:Int)), (3, vi (q:Int)), (4, vi (r:Int)), (5, vi (n:Int)), (6, vi (-1))]) rfl ?_
  refine T_k d_X11_keeps_3 ?_
  refine T_is d_X11_keeps_4 (ls' := [(0, vr 99), (1, vi (kd:Int)), (2, vi (p:Int)), (3, vi (q:Int)), (4, vi (r:Int)), (5, vi (n:Int)), (6, vi (-1)), (7, vi 0)]) rfl ?_
  -- to 6 @6
  have L6 : ∀ (fu : Nat) (v : Int) (h : Nat), N - h < fu → (h ≤ N) → (v = smF l (newE V kd p q r n) h) → TT G M_X11_keeps (rmd 2 162 162) 162 (Zm G 162 162 (PQ [(135, 146)] [(99, 57, 57)] V R (fun o X => o = none ∧ hsL (kpN N l (newE V kd p q r n)) (kpL N l (newE V kd p q r n)) X))) 162 6 [(0, vr 99), (1, vi (kd:Int)), (2, vi (p:Int)), (3, vi (q:Int)), (4, vi (r:Int)), (5, vi (n:Int)), (6, vi v), (7, vi (h : Int))] [] V R := by
    intro fu
    induction fu with
    | zero => intro v h hm; exact absurd hm (Nat.not_lt_zero _)
    | succ fu ih6 =>
      intro v h hm6 hh hv
      have hvr := sm_r (l := l) (e := (newE V kd p q r n)) h
      rw [← hv] at hvr
      refine T_il d_X11_keeps_6 rfl ?_
      refine T_al d_X11_keeps_8 rfl ?_
      refine F_gi d_X11_keeps_9 rfl hB rfl (fun b_32 => ?_)
      refine T_ige d_X11_keeps_12 ⟨by omega, by omega⟩ ⟨by omega, by omega⟩ (fun h12 => ?_) (fun h12 => ?_)
      · skip
        have hhN : h = N := by omega
        rw [hhN] at hv
        refine T_il d_X11_keeps_51 rfl ?_
        refine T_k d_X11_keeps_53 ?_
        refine T_ieq d_X11_keeps_54 ⟨by omega, by omega⟩ ⟨by omega, by omega⟩ (fun h54 => ?_) (fun h54 => ?_)
        · skip
          refine T_il d_X11_keeps_72 rfl ?_
          refine T_k d_X11_keeps_74 ?_
          refine T_ieq d_X11_keeps_75 ⟨by omega, by omega⟩ ⟨by omega, by omega⟩ (fun h75 => ?_) (fun h75 => ?_)
          · skip
            -- to 119 12t.54t.75t@119
            refine T_subp (ks := [0, 1, 2, 3, 4, 5]) (ls' := [(0, vr 99), (1, vi (kd:Int)), (2, vi (p:Int)), (3, vi (q:Int)), (4, vi (r:Int)), (5, vi (n:Int))]) rfl ?_
            exact L119 V hB fV (by unfold k1N k1L; rw [← hv, if_pos h54, if_pos h54]; exact hL) (fun z => z.1 (by rw [← hv]; exact h54))
          · exact absurd h54 h75
        · skip
          have k9 := (row_9 hL (show v.toNat < N by omega)).2.1
          refine T_al d_X11_keeps_57 rfl ?_
          refine F_gr (b := 144) d_X11_keeps_58 rfl hF rfl ?_
          refine T_il d_X11_keeps_61 rfl ?_
          refine F_ia d_X11_keeps_63 rfl hB rfl ⟨by omega, by omega⟩ (fun b_33 => ?_)
          try simp only [Int.toNat_natCast, k9]
          try simp only [Int.toNat_natCast, k9] at b_33
          refine T_al d_X11_keeps_64 rfl ?_
          refine F_gi d_X11_keeps_65 rfl hB rfl (fun b_34 => ?_)
          refine T_ilt d_X11_keeps_68 ⟨by omega, by omega⟩ ⟨by omega, by omega⟩ (fun h68 => ?_) (fun h68 => ?_)
          · skip
            refine T_il d_X11_keeps_72 rfl ?_
            refine T_k d_X11_keeps_74 ?_
            refine T_ieq d_X11_keeps_75 ⟨by omega, by omega⟩ ⟨by omega, by omega⟩ (fun h75 => ?_) (fun h75 => ?_)
            · exact absurd h75 h54
            · skip
              refine T_il d_X11_keeps_78 rfl ?_
              refine T_is d_X11_keeps_80 (ls' := [(0, vr 99), (1, vi (kd:Int)), (2, vi (p:Int)), (3, vi (q:Int)), (4, vi (r:Int)), (5, vi (n:Int)), (6, vi v), (7, vi v)]) rfl ?_
              -- to 82 12t.54f.68t.75f@82
              have L82 : ∀ (fu : Nat) (X : VV) (y : Int) (h : Nat), N - h < fu → (Bd X) → (chg [(135, 146)] [(99, 57, 57)] V X) → (y = (h : Int)) → (v.toNat ≤ h ∧ h < N) → (X 99 57 = (N : Int)) → (dnI N l v.toNat h X) → TT G M_X11_keeps (rmd 2 162 162) 162 (Zm G 162 162 (PQ [(135, 146)] [(99, 57, 57)] V R (fun o X => o = none ∧ hsL (kpN N l (newE V kd p q r n)) (kpL N l (newE V kd p q r n)) X))) 162 82 [(0, vr 99), (1, vi (kd:Int)), (2, vi (p:Int)), (3, vi (q:Int)), (4, vi (r:Int)), (5, vi (n:Int)), (6, vi v), (7, vi y)] [] X R := by
                intro fu
                induction fu with
                | zero => intro X y h hm; exact absurd hm (Nat.not_lt_zero _)
                | succ fu ih82 =>
                  intro X y h hm82 hBX fX ey hh2 xN hX
                  refine T_il d_X11_keeps_82 rfl ?_
                  refine T_k d_X11_keeps_84 ?_
                  refine T_iadd d_X11_keeps_85 ?_
                  refine T_al d_X11_keeps_86 rfl ?_
                  refine F_gi d_X11_keeps_87 rfl hBX rfl (fun b_35 => ?_)
                  refine T_ige d_X11_keeps_90 ⟨by omega, by omega⟩ ⟨by omega, by omega⟩ (fun h90 => ?_) (fun h90 => ?_)
                  · skip
                    refine T_al d_X11_keeps_109 rfl ?_
                    refine T_dup d_X11_keeps_110 rfl ?_
                    refine F_gi d_X11_keeps_111 rfl hBX rfl (fun b_36 => ?_)
                    refine T_k d_X11_keeps_114 ?_
                    refine T_isub d_X11_keeps_115 ?_
                    refine F_pi d_X11_keeps_116 rfl hBX rfl ⟨by omega, by omega⟩ (fun V_37 eV_37 hBV_37 => ?_)
                    have fV_37 := chg_u eV_37 rfl fX
                    -- to 119 90t@119
                    refine T_subp (ks := [0, 1, 2, 3, 4, 5]) (ls' := [(0, vr 99), (1, vi (kd:Int)), (2, vi (p:Int)), (3, vi (q:Int)), (4, vi (r:Int)), (5, vi (n:Int))]) rfl ?_
                    exact L119 V_37 hBV_37 fV_37 (dn_e hX (by omega) (by omega) (by rw [← hv]; omega) (by rw [eV_37, xN])) (fun z => by have z2 := z.2; rw [← hv, he9] at z2; omega)
                  · skip
                    rw [ey]
                    refine T_al d_X11_keeps_93 rfl ?_
                    refine T_il d_X11_keeps_94 rfl ?_
                    refine T_k d_X11_keeps_96 ?_
                    refine T_iadd d_X11_keeps_97 ?_
                    refine T_il d_X11_keeps_98 rfl ?_
                    refine C_v2 d_X11_keeps_100 rfl (hdF (by decide)) (hcF _) (R_X11_copies (a := h + 1) (c := h) hBX hF (by omega) (by omega) (by omega)) (fun r_38 V_39 R_40 qV_39 => ?_)
                    obtain ⟨rfl, hBV_39, cV_39, rfl, pV_39⟩ := qV_39
                    have fV_39 := chg_t (A := [(135, 146)]) (F := [(99, 57, 57)]) fX cV_39 rfl
                    refine F_incg d_X11_keeps_103 rfl (f := fun x_41 => [(0, vr 99), (1, vi (kd:Int)), (2, vi (p:Int)), (3, vi (q:Int)), (4, vi (r:Int)), (5, vi (n:Int)), (6, vi v), (7, vi x_41)]) (fun _ => rfl) (fun x_41 ex_41 => ?_)
                    refine T_go d_X11_keeps_106 ?_
                    -- to 82 90f@82
                    exact ih82 V_39 x_41 (h + 1) (by omega) hBV_39 fV_39 (by omega) (by first | assumption | omega) (by rw [chg_j (c := 99) (j := 57) cV_39 rfl]; exact xN) (dn_s hX (by omega) (by omega) pV_39)
              exact L82 _ V v (v.toNat) (Nat.lt_succ_self _) hB fV (by omega) (by first | assumption | omega) hL.1 (fun i hi f hf => by rw [if_neg (by omega)]; exact hL.2 i hi f hf)
          · skip
            -- leaf 12t.54f.68f@71
            refine T_vret d_X11_keeps_71 rfl ?_
            have kp := kp_1 (N := N) (l := l) (e := (newE V kd p q r n)) ⟨by rw [← hv]; exact h54, by rw [← hv, he9]; omega⟩
            exact ⟨rfl, hB, fV, rfl, by rw [kp.1, kp.2]; exact hL⟩
      · skip
        have k0 := (row_9 hL (show h < N by omega)).1
        have k10 := (row_9 hL (show h < N by omega)).2.2
        refine T_al d_X11_keeps_15 rfl ?_
        refine F_gr (b := 135) d_X11_keeps_16 rfl hF rfl ?_
        refine T_il d_X11_keeps_19 rfl ?_
        refine F_ia d_X11_keeps_21 rfl hB rfl ⟨by omega, by omega⟩ (fun b_42 => ?_)
        try simp only [Int.toNat_natCast, k0]
        try simp only [Int.toNat_natCast, k0] at b_42
        refine T_il d_X11_keeps_22 rfl ?_
        refine T_ine d_X11_keeps_23 ⟨by omega, by omega⟩ ⟨by omega, by omega⟩ (fun h23 => ?_) (fun h23 => ?_)
        · skip
          refine F_incg d_X11_keeps_45 rfl (f := fun x_43 => [(0, vr 99), (1, vi (kd:Int)), (2, vi (p:Int)), (3, vi (q:Int)), (4, vi (r:Int)), (5, vi (n:Int)), (6, vi v), (7, vi x_43)]) (fun _ => rfl) (fun x_43 ex_43 => ?_)
          refine T_go d_X11_keeps_48 ?_
          -- to 6 12f.23t@6
          obtain rfl : x_43 = ((h + 1) : Int) := by omega
          exact ih6 v (h + 1) (by omega) (by first | assumption | omega) (by unfold smF; rw [if_neg (fun z => h23 (z.1.trans he0))]; exact hv)
        · skip
          refine T_al d_X11_keeps_26 rfl ?_
          refine F_gr (b := 145) d_X11_keeps_27 rfl hF rfl ?_
          refine T_il d_X11_keeps_30 rfl ?_
          refine F_la d_X11_keeps_32 rfl hB rfl ⟨by omega, by omega⟩ (fun b_44 => ?_)
          try simp only [Int.toNat_natCast, k10]
          try simp only [Int.toNat_natCast, k10] at b_44
          refine T_al d_X11_keeps_33 rfl ?_
          refine F_gjn d_X11_keeps_34 rfl ?_
          refine T_lne d_X11_keeps_37 d_X11_keeps_38 ⟨by omega, by omega⟩ ⟨by omega, by omega⟩ (fun h37 => ?_) (fun h37 => ?_)
          · skip
            refine F_incg d_X11_keeps_45 rfl (f := fun x_45 => [(0, vr 99), (1, vi (kd:Int)), (2, vi (p:Int)), (3, vi (q:Int)), (4, vi (r:Int)), (5, vi (n:Int)), (6, vi v), (7, vi x_45)]) (fun _ => rfl) (fun x_45 ex_45 => ?_)
            refine T_go d_X11_keeps_48 ?_
            -- to 6 12f.23f.37t@6
            obtain rfl : x_45 = ((h + 1) : Int) := by omega
            exact ih6 v (h + 1) (by omega) (by first | assumption | omega) (by unfold smF; rw [if_neg (fun z => h37 (z.2.trans he10))]; exact hv)
          · skip
            refine T_il d_X11_keeps_41 rfl ?_
            refine F_isg d_X11_keeps_43 (f := fun x_46 => [(0, vr 99), (1, vi (kd:Int)), (2, vi (p:Int)), (3, vi (q:Int)), (4, vi (r:Int)), (5, vi (n:Int)), (6, vi x_46), (7, vi (h : Int))]) (fun _ => rfl) (fun x_46 ex_46 => ?_)
            refine F_incg d_X11_keeps_45 rfl (f := fun x_47 => [(0, vr 99), (1, vi (kd:Int)), (2, vi (p:Int)), (3, vi (q:Int)), (4, vi (r:Int)), (5, vi (n:Int)), (6, vi x_46), (7, vi x_47)]) (fun _ => rfl) (fun x_47 ex_47 => ?_)
            refine T_go d_X11_keeps_48 ?_
            -- to 6 12f.23f.37f@6
            obtain rfl : x_47 = ((h + 1) : Int) := by omega
            exact ih6 x_46 (h + 1) (by omega) (by first | assumption | omega) (by unfold smF; rw [if_pos ⟨h23.trans he0.symm, h37.trans he10.symm⟩]; exact ex_46)
  exact L6 _ (-1) (0) (Nat.lt_succ_self _) (by first | assumption | omega) rfl
