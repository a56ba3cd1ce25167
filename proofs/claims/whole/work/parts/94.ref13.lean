set_option maxHeartbeats 1000000 in
set_option maxRecDepth 100000 in
theorem R_X11_framed {G : GG} {V : VV} {R : RR} {k : Int} {b : Bk} {S : Sp} {K : Kd} {kd p q r : Nat} (hB : Bd V) (hF : FinR R) (bMV : bM b V) (sMV : sM S V) (so : sO S) (hkd : kd < 5) (kMV : kM K kd V) (ko : kO K) (hk : 0 ≤ k ∧ k ≤ 400) (hp : p < S.m) (hq : q < S.m) (hr : r < S.m) : Runs G M_X11_framed 5 162 162 [vr 99, vi (kd:Int), vi (p:Int), vi (q:Int), vi (r:Int), vi k] V R (PQ [(148, 148)] [(99, 72, 77)] V R (fun o X => o = some (vi ((frO b k S K p q r : Nat) : Int)) ∧ frS b k S K p q r (frO b k S K p q r) X)) := by
  refine Runs.of pn_X11 (Nat.le_of_ble_eq_true rfl) rfl ?_
  show TT G M_X11_framed (rmd 5 162 162) 162 (Zm G 162 162 (PQ [(148, 148)] [(99, 72, 77)] V R (fun o X => o = some (vi ((frO b k S K p q r : Nat) : Int)) ∧ frS b k S K p q r (frO b k S K p q r) X))) 162 0 [(0, vr 99), (1, vi (kd:Int)), (2, vi (p:Int)), (3, vi (q:Int)), (4, vi (r:Int)), (5, vi k)] [] V R
  have fV : chg [(148, 148)] [(99, 72, 77)] V V := chg_r
  have hm4 := so.1
  have ko1 := ko
  obtain ⟨ko0, kb1, kb2, kb3, kb4, _⟩ := ko1
  have sp := so.2 p hp
  have sq := so.2 q hq
  have sr := so.2 r hr
  have hlv := len2_b so hp hq
  have hlw := len2_b so hp hr
  have hdt := dot_b so hp hq hr
  have q2 := sq_b (a := K.l 2) (M := 100) (by omega) (by omega)
  have q3 := sq_b (a := K.l 3) (M := 200) (by omega) (by omega)
  have q22 := sq_b (a := K.h 2) (M := 100) (by omega) (by omega)
  have q33 := sq_b (a := K.h 3) (M := 200) (by omega) (by omega)
  have q4 := sq_b (a := K.l 4) (M := 9) (by omega) (by omega)
  have qd := sq_b (a := dotO S p q r) (M := 498002) (by omega) (by omega)
  have qv := mulb (i := K.l 4 * K.l 4) (v := len2 S p q) (M := 498002) (N := 81) (by omega) (by omega) (by omega) (by omega)
  have t1 : (10 * (kd : Int) + 1).toNat = 10 * kd + 1 := by omega
  have t2 : (10 * (kd : Int) + 2).toNat = 10 * kd + 2 := by omega
  have t3 : (10 * (kd : Int) + 3).toNat = 10 * kd + 3 := by omega
  have t4 : (10 * (kd : Int) + 4).toNat = 10 * kd + 4 := by omega
  refine T_al d_X11_framed_0 rfl ?_
  refine F_gr (b := 132) d_X11_framed_1 rfl hF rfl ?_
  refine T_il d_X11_framed_4 rfl ?_
  refine F_ia d_X11_framed_5 rfl hB rfl ⟨by omega, by omega⟩ (fun b_1 => ?_)
  try simp only [Int.toNat_natCast, (sMV.2 q hq).2.1]
  try simp only [Int.toNat_natCast, (sMV.2 q hq).2.1] at b_1
  refine T_al d_X11_framed_6 rfl ?_
  refine F_gr (b := 132) d_X11_framed_7 rfl hF rfl ?_
  refine T_il d_X11_framed_10 rfl ?_
  refine F_ia d_X11_framed_11 rfl hB rfl ⟨by omega, by omega⟩ (fun b_2 => ?_)
  try simp only [Int.toNat_natCast, (sMV.2 p hp).2.1]
  try simp only [Int.toNat_natCast, (sMV.2 p hp).2.1] at b_2
  refine T_isub d_X11_framed_12 ?_
  refine F_isg d_X11_framed_13 (f := fun x_3 => [(0, vr 99), (1, vi (kd:Int)), (2, vi (p:Int)), (3, vi (q:Int)), (4, vi (r:Int)), (5, vi k), (6, vi x_3)]) (fun _ => rfl) (fun x_3 ex_3 => ?_)
  refine T_al d_X11_framed_15 rfl ?_
  refine F_gr (b := 133) d_X11_framed_16 rfl hF rfl ?_
  refine T_il d_X11_framed_19 rfl ?_
  refine F_ia d_X11_framed_20 rfl hB rfl ⟨by omega, by omega⟩ (fun b_4 => ?_)
  try simp only [Int.toNat_natCast, (sMV.2 q hq).2.2.1]
  try simp only [Int.toNat_natCast, (sMV.2 q hq).2.2.1] at b_4
  refine T_al d_X11_framed_21 rfl ?_
  refine F_gr (b := 133) d_X11_framed_22 rfl hF rfl ?_
  refine T_il d_X11_framed_25 rfl ?_
  refine F_ia d_X11_framed_26 rfl hB rfl ⟨by omega, by omega⟩ (fun b_5 => ?_)
  try simp only [Int.toNat_natCast, (sMV.2 p hp).2.2.1]
  try simp only [Int.toNat_natCast, (sMV.2 p hp).2.2.1] at b_5
  refine T_isub d_X11_framed_27 ?_
  refine F_isg d_X11_framed_28 (f := fun x_6 => [(0, vr 99), (1, vi (kd:Int)), (2, vi (p:Int)), (3, vi (q:Int)), (4, vi (r:Int)), (5, vi k), (6, vi x_3), (7, vi x_6)]) (fun _ => rfl) (fun x_6 ex_6 => ?_)
  refine T_al d_X11_framed_30 rfl ?_
  refine F_gr (b := 132) d_X11_framed_31 rfl hF rfl ?_
  refine T_il d_X11_framed_34 rfl ?_
  refine F_ia d_X11_framed_36 rfl hB rfl ⟨by omega, by omega⟩ (fun b_7 => ?_)
  try simp only [Int.toNat_natCast, (sMV.2 r hr).2.1]
  try simp only [Int.toNat_natCast, (sMV.2 r hr).2.1] at b_7
  refine T_al d_X11_framed_37 rfl ?_
  refine F_gr (b := 132) d_X11_framed_38 rfl hF rfl ?_
  refine T_il d_X11_framed_41 rfl ?_
  refine F_ia d_X11_framed_42 rfl hB rfl ⟨by omega, by omega⟩ (fun b_8 => ?_)
  try simp only [Int.toNat_natCast, (sMV.2 p hp).2.1]
  try simp only [Int.toNat_natCast, (sMV.2 p hp).2.1] at b_8
  refine T_isub d_X11_framed_43 ?_
  refine F_isg d_X11_framed_44 (f := fun x_9 => [(0, vr 99), (1, vi (kd:Int)), (2, vi (p:Int)), (3, vi (q:Int)), (4, vi (r:Int)), (5, vi k), (6, vi x_3), (7, vi x_6), (8, vi x_9)]) (fun _ => rfl) (fun x_9 ex_9 => ?_)
  refine T_al d_X11_framed_46 rfl ?_
  refine F_gr (b := 133) d_X11_framed_47 rfl hF rfl ?_
  refine T_il d_X11_framed_50 rfl ?_
  refine F_ia d_X11_framed_52 rfl hB rfl ⟨by omega, by omega⟩ (fun b_10 => ?_)
  try simp only [Int.toNat_natCast, (sMV.2 r hr).2.2.1]
  try simp only [Int.toNat_natCast, (sMV.2 r hr).2.2.1] at b_10
  refine T_al d_X11_framed_53 rfl ?_
  refine F_gr (b := 133) d_X11_framed_54 rfl hF rfl ?_
  refine T_il d_X11_framed_57 rfl ?_
  refine F_ia d_X11_framed_58 rfl hB rfl ⟨by omega, by omega⟩ (fun b_11 => ?_)
  try simp only [Int.toNat_natCast, (sMV.2 p hp).2.2.1]
  try simp only [Int.toNat_natCast, (sMV.2 p hp).2.2.1] at b_11
  refine T_isub d_X11_framed_59 ?_
  refine F_isg d_X11_framed_60 (f := fun x_12 => [(0, vr 99), (1, vi (kd:Int)), (2, vi (p:Int)), (3, vi (q:Int)), (4, vi (r:Int)), (5, vi k), (6, vi x_3), (7, vi x_6), (8, vi x_9), (9, vi x_12)]) (fun _ => rfl) (fun x_12 ex_12 => ?_)
  refine T_il d_X11_framed_62 rfl ?_
  refine T_il d_X11_framed_64 rfl ?_
  refine T_imul d_X11_framed_66 ?_
  refine T_il d_X11_framed_67 rfl ?_
  refine T_il d_X11_framed_69 rfl ?_
  refine T_imul d_X11_framed_71 ?_
  refine T_iadd d_X11_framed_72 ?_
  refine F_isg d_X11_framed_73 (f := fun x_13 => [(0, vr 99), (1, vi (kd:Int)), (2, vi (p:Int)), (3, vi (q:Int)), (4, vi (r:Int)), (5, vi k), (6, vi x_3), (7, vi x_6), (8, vi x_9), (9, vi x_12), (10, vi x_13)]) (fun _ => rfl) (fun x_13 ex_13 => ?_)
  have e10 : x_13 = len2 S p q := by rw [ex_13, ex_3, ex_6]; rfl
  refine T_il d_X11_framed_75 rfl ?_
  refine T_il d_X11_framed_77 rfl ?_
  refine T_imul d_X11_framed_79 ?_
  refine T_il d_X11_framed_80 rfl ?_
  refine T_il d_X11_framed_82 rfl ?_
  refine T_imul d_X11_framed_84 ?_
  refine T_iadd d_X11_framed_85 ?_
  refine F_isg d_X11_framed_86 (f := fun x_14 => [(0, vr 99), (1, vi (kd:Int)), (2, vi (p:Int)), (3, vi (q:Int)), (4, vi (r:Int)), (5, vi k), (6, vi x_3), (7, vi x_6), (8, vi x_9), (9, vi x_12), (10, vi x_13), (11, vi x_14)]) (fun _ => rfl) (fun x_14 ex_14 => ?_)
  have e11 : x_14 = len2 S p r := by rw [ex_14, ex_9, ex_12]; rfl
  refine T_il d_X11_framed_88 rfl ?_
  refine T_al d_X11_framed_90 rfl ?_
  refine F_gr (b := 122) d_X11_framed_91 rfl hF rfl ?_
  refine T_k d_X11_framed_94 ?_
  refine T_il d_X11_framed_96 rfl ?_
  refine T_imul d_X11_framed_97 ?_
  refine T_k d_X11_framed_98 ?_
  refine T_iadd d_X11_framed_99 ?_
  refine F_ia d_X11_framed_100 rfl hB rfl ⟨by omega, by omega⟩ (fun b_15 => ?_)
  try simp only [Int.toNat_natCast, t2, (kMV 2 (by omega)).1]
  try simp only [Int.toNat_natCast, t2, (kMV 2 (by omega)).1] at b_15
  refine T_al d_X11_framed_101 rfl ?_
  refine F_gr (b := 122) d_X11_framed_102 rfl hF rfl ?_
  refine T_k d_X11_framed_105 ?_
  refine T_il d_X11_framed_107 rfl ?_
  refine T_imul d_X11_framed_108 ?_
  refine T_k d_X11_framed_109 ?_
  refine T_iadd d_X11_framed_110 ?_
  refine F_ia d_X11_framed_111 rfl hB rfl ⟨by omega, by omega⟩ (fun b_16 => ?_)
  try simp only [Int.toNat_natCast, t2, (kMV 2 (by omega)).1]
  try simp only [Int.toNat_natCast, t2, (kMV 2 (by omega)).1] at b_16
  refine T_imul d_X11_framed_112 ?_
  refine T_al d_X11_framed_113 rfl ?_
  refine F_gr (b := 123) d_X11_framed_114 rfl hF rfl ?_
  refine T_k d_X11_framed_117 ?_
  refine T_il d_X11_framed_119 rfl ?_
  refine T_imul d_X11_framed_120 ?_
  refine T_k d_X11_framed_121 ?_
  refine T_iadd d_X11_framed_122 ?_
  refine F_ia d_X11_framed_123 rfl hB rfl ⟨by omega, by omega⟩ (fun b_17 => ?_)
  try simp only [Int.toNat_natCast, t2, (kMV 2 (by omega)).2]
  try simp only [Int.toNat_natCast, t2, (kMV 2 (by omega)).2] at b_17
  refine T_al d_X11_framed_124 rfl ?_
  refine F_gr (b := 123) d_X11_framed_125 rfl hF rfl ?_
  refine T_k d_X11_framed_128 ?_
  refine T_il d_X11_framed_130 rfl ?_
  refine T_imul d_X11_framed_131 ?_
  refine T_k d_X11_framed_132 ?_
  refine T_iadd d_X11_framed_133 ?_
  refine F_ia d_X11_framed_134 rfl hB rfl ⟨by omega, by omega⟩ (fun b_18 => ?_)
  try simp only [Int.toNat_natCast, t2, (kMV 2 (by omega)).2]
  try simp only [Int.toNat_natCast, t2, (kMV 2 (by omega)).2] at b_18
  refine T_imul d_X11_framed_135 ?_
  refine C_ps3 d_X11_framed_136 (hdF (by decide)) (hcF _) (R_X11_in ⟨by omega, by omega⟩ ⟨by omega, by omega⟩ ⟨by omega, by omega⟩) ?_
  refine T_pz1 d_X11_framed_139 (fun h139 => ?_) (fun h139 => ?_)
  · skip
    refine T_il d_X11_framed_144 rfl ?_
    refine T_al d_X11_framed_146 rfl ?_
    refine F_gr (b := 122) d_X11_framed_147 rfl hF rfl ?_
    refine T_k d_X11_framed_150 ?_
    refine T_il d_X11_framed_152 rfl ?_
    refine T_imul d_X11_framed_153 ?_
    refine T_k d_X11_framed_154 ?_
    refine T_iadd d_X11_framed_155 ?_
    refine F_ia d_X11_framed_156 rfl hB rfl ⟨by omega, by omega⟩ (fun b_19 => ?_)
    try simp only [Int.toNat_natCast, t3, (kMV 3 (by omega)).1]
    try simp only [Int.toNat_natCast, t3, (kMV 3 (by omega)).1] at b_19
    refine T_al d_X11_framed_157 rfl ?_
    refine F_gr (b := 122) d_X11_framed_158 rfl hF rfl ?_
    refine T_k d_X11_framed_161 ?_
    refine T_il d_X11_framed_163 rfl ?_
    refine T_imul d_X11_framed_164 ?_
    refine T_k d_X11_framed_165 ?_
    refine T_iadd d_X11_framed_166 ?_
    refine F_ia d_X11_framed_167 rfl hB rfl ⟨by omega, by omega⟩ (fun b_20 => ?_)
    try simp only [Int.toNat_natCast, t3, (kMV 3 (by omega)).1]
    try simp only [Int.toNat_natCast, t3, (kMV 3 (by omega)).1] at b_20
    refine T_imul d_X11_framed_168 ?_
    refine T_al d_X11_framed_169 rfl ?_
    refine F_gr (b := 123) d_X11_framed_170 rfl hF rfl ?_
    refine T_k d_X11_framed_173 ?_
    refine T_il d_X11_framed_175 rfl ?_
    refine T_imul d_X11_framed_176 ?_
    refine T_k d_X11_framed_177 ?_
    refine T_iadd d_X11_framed_178 ?_
    refine F_ia d_X11_framed_179 rfl hB rfl ⟨by omega, by omega⟩ (fun b_21 => ?_)
    try simp only [Int.toNat_natCast, t3, (kMV 3 (by omega)).2]
    try simp only [Int.toNat_natCast, t3, (kMV 3 (by omega)).2] at b_21
    refine T_al d_X11_framed_180 rfl ?_
    refine F_gr (b := 123) d_X11_framed_181 rfl hF rfl ?_
    refine T_k d_X11_framed_184 ?_
    refine T_il d_X11_framed_186 rfl ?_
    refine T_imul d_X11_framed_187 ?_
    refine T_k d_X11_framed_188 ?_
    refine T_iadd d_X11_framed_189 ?_
    refine F_ia d_X11_framed_190 rfl hB rfl ⟨by omega, by omega⟩ (fun b_22 => ?_)
    try simp only [Int.toNat_natCast, t3, (kMV 3 (by omega)).2]
    try simp only [Int.toNat_natCast, t3, (kMV 3 (by omega)).2] at b_22
    refine T_imul d_X11_framed_191 ?_
    refine C_ps3 d_X11_framed_192 (hdF (by decide)) (hcF _) (R_X11_in ⟨by omega, by omega⟩ ⟨by omega, by omega⟩ ⟨by omega, by omega⟩) ?_
    refine T_pz1 d_X11_framed_195 (fun h195 => ?_) (fun h195 => ?_)
    · skip
      refine T_il d_X11_framed_200 rfl ?_
      refine T_i2l d_X11_framed_202 ⟨by omega, by omega⟩ ?_
      refine T_il d_X11_framed_203 rfl ?_
      refine T_i2l d_X11_framed_205 ⟨by omega, by omega⟩ ?_
      refine T_lmul d_X11_framed_206 ?_
      refine T_il d_X11_framed_207 rfl ?_
      refine T_i2l d_X11_framed_209 ⟨by omega, by omega⟩ ?_
      refine T_il d_X11_framed_210 rfl ?_
      refine T_i2l d_X11_framed_212 ⟨by omega, by omega⟩ ?_
      refine T_lmul d_X11_framed_213 ?_
      refine T_ladd d_X11_framed_214 ?_
      refine F_lsg d_X11_framed_215 (f := fun y_23 => [(0, vr 99), (1, vi (kd:Int)), (2, vi (p:Int)), (3, vi (q:Int)), (4, vi (r:Int)), (5, vi k), (6, vi x_3), (7, vi x_6), (8, vi x_9), (9, vi x_12), (10, vi x_13), (11, vi x_14), (12, vj y_23)]) (fun _ => rfl) (fun y_23 ey_23 => ?_)
      have e12 : y_23 = dotO S p q r := by rw [ey_23, ex_3, ex_6, ex_9, ex_12]; rfl
      refine T_al d_X11_framed_217 rfl ?_
      refine F_gr (b := 122) d_X11_framed_218 rfl hF rfl ?_
      refine T_k d_X11_framed_221 ?_
      refine T_il d_X11_framed_223 rfl ?_
      refine T_imul d_X11_framed_224 ?_
      refine T_k d_X11_framed_225 ?_
      refine T_iadd d_X11_framed_226 ?_
      refine F_ia d_X11_framed_227 rfl hB rfl ⟨by omega, by omega⟩ (fun b_24 => ?_)
      try simp only [Int.toNat_natCast, t4, (kMV 4 (by omega)).1]
      try simp only [Int.toNat_natCast, t4, (kMV 4 (by omega)).1] at b_24
      refine F_isg d_X11_framed_228 (f := fun x_25 => [(0, vr 99), (1, vi (kd:Int)), (2, vi (p:Int)), (3, vi (q:Int)), (4, vi (r:Int)), (5, vi k), (6, vi x_3), (7, vi x_6), (8, vi x_9), (9, vi x_12), (10, vi x_13), (11, vi x_14), (12, vj y_23), (14, vi x_25)]) (fun _ => rfl) (fun x_25 ex_25 => ?_)
      have e14 := ex_25
      have e141 : x_25 * x_25 * x_13 = K.l 4 * K.l 4 * len2 S p q := by rw [e14, e10]
      have e121 : y_23 * y_23 = dotO S p q r * dotO S p q r := by rw [e12]
      refine T_ll d_X11_framed_230 rfl ?_
      refine T_ll d_X11_framed_232 rfl ?_
      refine T_lmul d_X11_framed_234 ?_
      refine T_il d_X11_framed_235 rfl ?_
      refine T_i2l d_X11_framed_237 ⟨by omega, by omega⟩ ?_
      refine T_il d_X11_framed_238 rfl ?_
      refine T_i2l d_X11_framed_240 ⟨by omega, by omega⟩ ?_
      refine T_lmul d_X11_framed_241 ?_
      refine T_il d_X11_framed_242 rfl ?_
      refine T_i2l d_X11_framed_244 ⟨by omega, by omega⟩ ?_
      refine T_lmul d_X11_framed_245 ?_
      refine T_lle d_X11_framed_246 d_X11_framed_247 ⟨by omega, by omega⟩ ⟨by omega, by omega⟩ (fun h246 => ?_) (fun h246 => ?_)
      · skip
        refine T_al d_X11_framed_252 rfl ?_
        refine F_gr (b := 123) d_X11_framed_253 rfl hF rfl ?_
        refine T_k d_X11_framed_256 ?_
        refine T_il d_X11_framed_258 rfl ?_
        refine T_imul d_X11_framed_259 ?_
        refine T_k d_X11_framed_260 ?_
        refine T_iadd d_X11_framed_261 ?_
        refine F_ia d_X11_framed_262 rfl hB rfl ⟨by omega, by omega⟩ (fun b_26 => ?_)
        try simp only [Int.toNat_natCast, t1, (kMV 1 (by omega)).2]
        try simp only [Int.toNat_natCast, t1, (kMV 1 (by omega)).2] at b_26
        refine F_isg d_X11_framed_263 (f := fun x_27 => [(0, vr 99), (1, vi (kd:Int)), (2, vi (p:Int)), (3, vi (q:Int)), (4, vi (r:Int)), (5, vi k), (6, vi x_3), (7, vi x_6), (8, vi x_9), (9, vi x_12), (10, vi x_13), (11, vi x_14), (12, vj y_23), (14, vi x_25), (15, vi x_27)]) (fun _ => rfl) (fun x_27 ex_27 => ?_)
        -- to 265 139t.195t.246t@265
        have L265 : ∀ (fu : Nat) (X : VV) (n : Nat), n < fu → (Bd X) → (chg [(148, 148)] [(99, 72, 77)] V X) → (n ≤ 8) → (topF b k S K p q r (K.l 1).toNat n = frO b k S K p q r) → TT G M_X11_framed (rmd 5 162 162) 162 (Zm G 162 162 (PQ [(148, 148)] [(99, 72, 77)] V R (fun o X => o = some (vi ((frO b k S K p q r : Nat) : Int)) ∧ frS b k S K p q r (frO b k S K p q r) X))) 162 265 [(0, vr 99), (1, vi (kd:Int)), (2, vi (p:Int)), (3, vi (q:Int)), (4, vi (r:Int)), (5, vi k), (15, vi (n : Int))] [] X R := by
          intro fu
          induction fu with
          | zero => intro X n hm; exact absurd hm (Nat.not_lt_zero _)
          | succ fu ih265 =>
            intro X n hm265 hBX fX hn ht
            have bMX := bM_c bMV fX rfl
            have sMX := sM_c sMV fX rfl
            have kMX := kM_c kMV fX rfl
            refine T_il d_X11_framed_265 rfl ?_
            refine T_al d_X11_framed_267 rfl ?_
            refine F_gr (b := 122) d_X11_framed_268 rfl hF rfl ?_
            refine T_k d_X11_framed_271 ?_
            refine T_il d_X11_framed_273 rfl ?_
            refine T_imul d_X11_framed_274 ?_
            refine T_k d_X11_framed_275 ?_
            refine T_iadd d_X11_framed_276 ?_
            refine F_ia d_X11_framed_277 rfl hBX rfl ⟨by omega, by omega⟩ (fun b_28 => ?_)
            try simp only [Int.toNat_natCast, t1, (kMX 1 (by omega)).1]
            try simp only [Int.toNat_natCast, t1, (kMX 1 (by omega)).1] at b_28
            refine T_ilt d_X11_framed_278 ⟨by omega, by omega⟩ ⟨by omega, by omega⟩ (fun h278 => ?_) (fun h278 => ?_)
            · skip
              refine T_k d_X11_framed_306 ?_
              -- leaf 278t@307
              refine T_iret d_X11_framed_307 rfl ?_
              have h0 : frO b k S K p q r = 0 := by rw [← ht]; exact top_0 (by omega)
              exact ⟨rfl, hBX, fX, by rw [h0]; rfl, fun z => absurd h0 z⟩
            · skip
              obtain ⟨w, ew⟩ : ∃ w, n = w + 1 := ⟨n - 1, by omega⟩
              refine T_al d_X11_framed_281 rfl ?_
              refine T_il d_X11_framed_282 rfl ?_
              refine T_il d_X11_framed_283 rfl ?_
              refine T_il d_X11_framed_284 rfl ?_
              refine T_il d_X11_framed_285 rfl ?_
              refine T_il d_X11_framed_287 rfl ?_
              refine T_il d_X11_framed_289 rfl ?_
              refine C_v6 d_X11_framed_291 rfl (hdF (by decide)) (hcF _) (R_X11_isHouseWith (K := K) (ro := (K.l 0).toNat) hBX hF bMX sMX so hkd kMX ko hk hp hq hr (by omega) (by omega)) (fun r_29 V_30 R_31 qV_30 => ?_)
              obtain ⟨rfl, hBV_30, cV_30, rfl, pV_30⟩ := qV_30
              have fV_30 := chg_t (A := [(148, 148)]) (F := [(99, 72, 77)]) fX cV_30 rfl
              have bMV_30 := bM_c bMV fV_30 rfl
              have sMV_30 := sM_c sMV fV_30 rfl
              have kMV_30 := kM_c kMV fV_30 rfl
              refine T_pz0 d_X11_framed_294 (fun h294 => ?_) (fun h294 => ?_)
              · skip
                refine F_incg d_X11_framed_300 rfl (f := fun x_32 => [(0, vr 99), (1, vi (kd:Int)), (2, vi (p:Int)), (3, vi (q:Int)), (4, vi (r:Int)), (5, vi k), (15, vi x_32)]) (fun _ => rfl) (fun x_32 ex_32 => ?_)
                refine T_go d_X11_framed_303 ?_
                -- to 265 278f.294t@265
                obtain rfl : x_32 = (w : Int) := by omega
                exact ih265 V_30 (w) (by omega) hBV_30 fV_30 (by first | assumption | omega) (by rw [← ht, ew]; exact (top_f (by omega) (by rw [← ew]; exact h294)).symm)
              · skip
                refine T_il d_X11_framed_297 rfl ?_
                -- leaf 278f.294f@299
                refine T_iret d_X11_framed_299 rfl ?_
                have h0 : frO b k S K p q r = n := by rw [← ht]; exact top_t (by omega) h294 (by omega)
                exact ⟨rfl, hBV_30, fV_30, by rw [h0], by rw [h0]; exact fun _ => pV_30 h294⟩
        refine T_subp (ks := [0, 1, 2, 3, 4, 5, 14]) (ls' := [(0, vr 99), (1, vi (kd:Int)), (2, vi (p:Int)), (3, vi (q:Int)), (4, vi (r:Int)), (5, vi k), (15, vi x_27)]) rfl ?_
        obtain rfl : x_27 = (((K.h 1).toNat) : Int) := by omega
        exact L265 _ V ((K.h 1).toNat) (Nat.lt_succ_self _) hB fV (by first | assumption | omega) (by unfold frO; rw [if_pos ⟨by rw [e10] at h139; exact h139, by rw [e11] at h195; exact h195, by show _ ≤ _; omega⟩])
      · skip
        refine T_k d_X11_framed_250 ?_
        -- leaf 139t.195t.246f@251
        refine T_iret d_X11_framed_251 rfl ?_
        have h0 : frO b k S K p q r = 0 := by unfold frO; rw [if_neg (fun z => by have := z.2.2; omega)]
        exact ⟨rfl, hB, fV, by rw [h0]; rfl, fun z => absurd h0 z⟩
    · skip
      refine T_k d_X11_framed_198 ?_
      -- leaf 139t.195f@199
      refine T_iret d_X11_framed_199 rfl ?_
      have h0 : frO b k S K p q r = 0 := by unfold frO; rw [if_neg (fun z => h195 (by rw [e11]; exact z.2.1))]
      exact ⟨rfl, hB, fV, by rw [h0]; rfl, fun z => absurd h0 z⟩
  · skip
    refine T_k d_X11_framed_142 ?_
    -- leaf 139f@143
    refine T_iret d_X11_framed_143 rfl ?_
    have h0 : frO b k S K p q r = 0 := by unfold frO; rw [if_neg (fun z => h139 (by rw [e10]; exact z.1))]
    exact ⟨rfl, hB, fV, by rw [h0]; rfl, fun z => absurd h0 z⟩
