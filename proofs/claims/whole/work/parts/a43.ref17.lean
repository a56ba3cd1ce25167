set_option maxHeartbeats 1000000 in
set_option maxRecDepth 100000 in
theorem chs_step {G : GG} {V : VV} {R : RR} {sm : Int} {N f T c u cn us : Nat} {v : Nat → Int} {B : Nat → Nat} (hB : Bd V) (hF : FinR R) (ih : ∀ u2, u2 < u → chsP G R N v B u2) (hN : N ≤ 24) (hds : ∀ i j, i < j → j < N → v j ≤ v i) (hf : f + u = N) (hL : chL N v B V) (hT : T < 2 ^ f) (hO : cOk v B N T) (hcn : cn = chN T f) (hsm : sm = chV v T f) (hus : us = chU B T f) (hA : lstA (V 149) cn T) (hst : stM N v c V) (hJ : chJ v B N T f c) : Runs G M_X11_chooses (u + 3) 162 162 [vr 99, vi (f:Int), vi (cn:Int), vi sm, vj (us:Int)] V R (PQ [(149, 150)] [(99, 80, 81)] V R (fun o X => o = none ∧ (∀ j, j < cn → X 149 j = V 149 j) ∧ ∃ c2, stM N v c2 X ∧ bSt v N (fun s => s = c ∨ (cOk v B N s ∧ agB T f s)) c2)) := by
  refine Runs.of pn_X11 (Nat.le_of_ble_eq_true rfl) rfl ?_
  show TT G M_X11_chooses (rmd (u + 3) 162 162) 162 (Zm G 162 162 (PQ [(149, 150)] [(99, 80, 81)] V R (fun o X => o = none ∧ (∀ j, j < cn → X 149 j = V 149 j) ∧ ∃ c2, stM N v c2 X ∧ bSt v N (fun s => s = c ∨ (cOk v B N s ∧ agB T f s)) c2))) 162 0 [(0, vr 99), (1, vi (f:Int)), (2, vi (cn:Int)), (3, vi sm), (4, vj (us:Int))] [] V R
  have fV : chg [(149, 150)] [(99, 80, 81)] V V := chg_r
  have hvb := chL_b hB hL
  have hps := ps_b (v := v) N hvb
  have hwb := chV_b hO f
  have hpf := ps_m (v := v) (n := f) N (by omega)
  have hcl : cn ≤ f := by rw [hcn]; exact cntB_le
  have hcN : chN T N = cn := by rw [hcn]; exact lo_N hT N (by omega)
  have hvN : chV v T N = sm := by rw [hsm]; exact lo_V hT N (by omega)
  have hul : us < 2 ^ 40 := by rw [hus]; exact chU_lt (N := N) (fun i hi => (hL.2 i hi).2.2) f (by omega)
  obtain ⟨s1, s0, sA⟩ := hst
  have hcc : chN c N ≤ N := cntB_le
  have L63 : ∀ (Y : VV) (d : Nat), (Bd Y) → (chg [(149, 150)] [(99, 80, 81)] V Y) → (stM N v d Y) → (bSt v N (fun s => s = c ∨ s = T) d) → (∀ j, j < cn → Y 149 j = V 149 j) → TT G M_X11_chooses (rmd (u + 3) 162 162) 162 (Zm G 162 162 (PQ [(149, 150)] [(99, 80, 81)] V R (fun o X => o = none ∧ (∀ j, j < cn → X 149 j = V 149 j) ∧ ∃ c2, stM N v c2 X ∧ bSt v N (fun s => s = c ∨ (cOk v B N s ∧ agB T f s)) c2))) 162 63 [(0, vr 99), (1, vi (f:Int)), (2, vi (cn:Int)), (3, vi sm), (4, vj (us:Int))] [] Y R := by
    intro Y d hBY fY yst yb y149
    refine T_il d_X11_chooses_63 rfl ?_
    refine F_isg d_X11_chooses_64 (f := fun x_1 => [(0, vr 99), (1, vi (f:Int)), (2, vi (cn:Int)), (3, vi sm), (4, vj (us:Int)), (6, vi x_1)]) (fun _ => rfl) (fun x_1 ex_1 => ?_)
    -- to 66 @66
    have L66 : ∀ (fu : Nat) (Z : VV) (h e : Nat), N - h < fu → (Bd Z) → (chg [(149, 150)] [(99, 80, 81)] V Z) → (f ≤ h ∧ h ≤ N) → (stM N v e Z) → (bSt v N (chR v B N T f h c) e) → (∀ j, j < cn → Z 149 j = V 149 j) → TT G M_X11_chooses (rmd (u + 3) 162 162) 162 (Zm G 162 162 (PQ [(149, 150)] [(99, 80, 81)] V R (fun o X => o = none ∧ (∀ j, j < cn → X 149 j = V 149 j) ∧ ∃ c2, stM N v c2 X ∧ bSt v N (fun s => s = c ∨ (cOk v B N s ∧ agB T f s)) c2))) 162 66 [(0, vr 99), (1, vi (f:Int)), (2, vi (cn:Int)), (3, vi sm), (4, vj (us:Int)), (6, vi (h : Int))] [] Z R := by
      intro fu
      induction fu with
      | zero => intro Z h e hm; exact absurd hm (Nat.not_lt_zero _)
      | succ fu ih66 =>
        intro Z h e hm66 hBZ fZ hh zst zb z149
        have zL := chL_c hL fZ
        have z57 := zL.1
        obtain ⟨z1, z0, zA⟩ := zst
        refine T_il d_X11_chooses_66 rfl ?_
        refine T_al d_X11_chooses_68 rfl ?_
        refine F_gi d_X11_chooses_69 rfl hBZ rfl (fun b_2 => ?_)
        refine T_ige d_X11_chooses_72 ⟨by omega, by omega⟩ ⟨by omega, by omega⟩ (fun h72 => ?_) (fun h72 => ?_)
        · skip
          -- leaf 72t@208
          refine T_vret d_X11_chooses_208 rfl ?_
          exact ⟨rfl, hBZ, fZ, rfl, z149, e, ⟨z1, z0, zA⟩, chR_e zb (fun s h1 _ h3 => Or.inl (end_0 hT hh.1 (fun g hg hg2 => by omega) h1 h3))⟩
        · skip
          have zh := zL.2 h (by omega)
          refine T_al d_X11_chooses_75 rfl ?_
          refine F_gr (b := 144) d_X11_chooses_76 rfl hF rfl ?_
          refine T_il d_X11_chooses_79 rfl ?_
          refine F_ia d_X11_chooses_81 rfl hBZ rfl ⟨by omega, by omega⟩ (fun b_3 => ?_)
          try simp only [Int.toNat_natCast]
          try simp only [Int.toNat_natCast] at b_3
          refine T_zgt d_X11_chooses_82 ⟨by omega, by omega⟩ (fun h82 => ?_) (fun h82 => ?_)
          · skip
            refine T_k d_X11_chooses_86 ?_
            refine T_is d_X11_chooses_87 (ls' := [(0, vr 99), (1, vi (f:Int)), (2, vi (cn:Int)), (3, vi sm), (4, vj (us:Int)), (6, vi (h : Int)), (7, vi 0)]) rfl ?_
            refine T_il d_X11_chooses_89 rfl ?_
            refine F_isg d_X11_chooses_91 (f := fun x_4 => [(0, vr 99), (1, vi (f:Int)), (2, vi (cn:Int)), (3, vi sm), (4, vj (us:Int)), (6, vi (h : Int)), (7, vi 0), (8, vi x_4)]) (fun _ => rfl) (fun x_4 ex_4 => ?_)
            -- to 93 72f.82t@93
            have L93 : ∀ (fu : Nat) (x : Int) (g : Nat), N - g < fu → (h ≤ g ∧ g ≤ N) → (x = pvS v g - pvS v h) → TT G M_X11_chooses (rmd (u + 3) 162 162) 162 (Zm G 162 162 (PQ [(149, 150)] [(99, 80, 81)] V R (fun o X => o = none ∧ (∀ j, j < cn → X 149 j = V 149 j) ∧ ∃ c2, stM N v c2 X ∧ bSt v N (fun s => s = c ∨ (cOk v B N s ∧ agB T f s)) c2))) 162 93 [(0, vr 99), (1, vi (f:Int)), (2, vi (cn:Int)), (3, vi sm), (4, vj (us:Int)), (6, vi (h : Int)), (7, vi x), (8, vi (g : Int))] [] Z R := by
              intro fu
              induction fu with
              | zero => intro x g hm; exact absurd hm (Nat.not_lt_zero _)
              | succ fu ih93 =>
                intro x g hm93 hg hx
                have pg := ps_b (v := v) g (fun i hi => hvb i (by omega))
                have ph := ps_b (v := v) h (fun i hi => hvb i (by omega))
                have pgh := ps_m (v := v) (n := h) g (by omega)
                refine T_il d_X11_chooses_93 rfl ?_
                refine T_al d_X11_chooses_95 rfl ?_
                refine F_gi d_X11_chooses_96 rfl hBZ rfl (fun b_5 => ?_)
                refine T_ige d_X11_chooses_99 ⟨by omega, by omega⟩ ⟨by omega, by omega⟩ (fun h99 => ?_) (fun h99 => ?_)
                · skip
                  have eg : g = N := by omega
                  have pNh := ps_m (v := v) (n := h) N (by omega)
                  refine T_il d_X11_chooses_134 rfl ?_
                  refine T_il d_X11_chooses_135 rfl ?_
                  refine T_iadd d_X11_chooses_137 ?_
                  refine T_al d_X11_chooses_138 rfl ?_
                  refine F_gi d_X11_chooses_139 rfl hBZ rfl (fun b_6 => ?_)
                  refine T_ige d_X11_chooses_142 ⟨by omega, by omega⟩ ⟨by omega, by omega⟩ (fun h142 => ?_) (fun h142 => ?_)
                  · skip
                    refine T_al d_X11_chooses_146 rfl ?_
                    refine F_gr (b := 145) d_X11_chooses_147 rfl hF rfl ?_
                    refine T_il d_X11_chooses_150 rfl ?_
                    refine F_la d_X11_chooses_152 rfl hBZ rfl ⟨by omega, by omega⟩ (fun b_7 => ?_)
                    try simp only [Int.toNat_natCast]
                    try simp only [Int.toNat_natCast] at b_7
                    refine T_ll d_X11_chooses_153 rfl ?_
                    refine T_land d_X11_chooses_155 ?_
                    rw [zh.2.1, land_n (Nat.lt_trans zh.2.2 (by decide)) (Nat.lt_trans hul (by decide))]
                    have hal : B h &&& us ≤ B h := Nat.and_le_left
                    have hbl := zh.2.2
                    refine T_jk d_X11_chooses_156 ?_
                    refine T_leq d_X11_chooses_157 d_X11_chooses_158 ⟨by omega, by omega⟩ ⟨by omega, by omega⟩ (fun h157 => ?_) (fun h157 => ?_)
                    · skip
                      refine T_al d_X11_chooses_164 rfl ?_
                      refine F_gr (b := 149) d_X11_chooses_165 rfl hF rfl ?_
                      refine T_il d_X11_chooses_168 rfl ?_
                      refine T_il d_X11_chooses_169 rfl ?_
                      refine F_is d_X11_chooses_171 rfl hBZ rfl ⟨by omega, by omega⟩ ⟨by omega, by omega⟩ (fun V_8 eV_8 hBV_8 => ?_)
                      have fV_8 := chg_u eV_8 rfl fZ
                      refine T_al d_X11_chooses_172 rfl ?_
                      refine T_il d_X11_chooses_173 rfl ?_
                      refine T_k d_X11_chooses_175 ?_
                      refine T_iadd d_X11_chooses_176 ?_
                      refine T_il d_X11_chooses_177 rfl ?_
                      refine T_k d_X11_chooses_178 ?_
                      refine T_iadd d_X11_chooses_179 ?_
                      refine T_il d_X11_chooses_180 rfl ?_
                      refine T_al d_X11_chooses_181 rfl ?_
                      refine F_gr (b := 144) d_X11_chooses_182 rfl hF rfl ?_
                      refine T_il d_X11_chooses_185 rfl ?_
                      refine F_ia d_X11_chooses_187 rfl hBV_8 rfl ⟨by omega, by omega⟩ (fun b_9 => ?_)
                      have faV_8_144 : V_8 144 = Z 144 := by rw [eV_8]; rfl
                      rw [faV_8_144]
                      rw [faV_8_144] at b_9
                      try simp only [Int.toNat_natCast]
                      try simp only [Int.toNat_natCast] at b_9
                      refine T_iadd d_X11_chooses_188 ?_
                      refine T_ll d_X11_chooses_189 rfl ?_
                      refine T_al d_X11_chooses_191 rfl ?_
                      refine F_gr (b := 145) d_X11_chooses_192 rfl hF rfl ?_
                      refine T_il d_X11_chooses_195 rfl ?_
                      refine F_la d_X11_chooses_197 rfl hBV_8 rfl ⟨by omega, by omega⟩ (fun b_10 => ?_)
                      have faV_8_145 : V_8 145 = Z 145 := by rw [eV_8]; rfl
                      rw [faV_8_145]
                      rw [faV_8_145] at b_10
                      try simp only [Int.toNat_natCast]
                      try simp only [Int.toNat_natCast] at b_10
                      refine T_lor d_X11_chooses_198 ?_
                      have e8 := eV_8
                      have hd0 : chU B T h &&& B h = 0 := by rw [lo_U hT h (by omega), ← hus, Nat.and_comm]; omega
                      rw [zh.1, zh.2.1, lor_n (Nat.lt_trans hul (by decide)) (Nat.lt_trans zh.2.2 (by decide)), show us ||| B h = chU B (T ||| 2 ^ h) (h + 1) from by rw [or_U, lo_U hT h (by omega), hus], show sm + v h = chV v (T ||| 2 ^ h) (h + 1) from by rw [or_V, lo_V hT h (by omega), hsm], show (cn : Int) + 1 = ((chN (T ||| 2 ^ h) (h + 1) : Nat) : Int) from by rw [or_N, lo_N hT h (by omega), ← hcn]; rfl, show (h : Int) + 1 = ((h + 1 : Nat) : Int) from rfl]
                      refine C_v4 d_X11_chooses_199 rfl (hdF (by omega)) (hcF _) (ih (N - (h + 1)) (by omega) V_8 (h + 1) (T ||| 2 ^ h) e (by omega) hBV_8 (chL_c hL fV_8) (or_lt (lt_mono hT (by omega))) (cOk_or hO (lt_mono hT (by omega)) (by omega) (by omega) hd0) (by rw [or_N, lo_N hT h (by omega), ← hcn]; exact lst_o hA (fun j hj => by rw [eV_8, Int.toNat_natCast, uV_at, if_neg (by omega)]; exact z149 j hj) (by rw [eV_8, Int.toNat_natCast]; exact uV_self)) ⟨by rw [eV_8]; exact z1, by rw [eV_8]; exact z0, by rw [eV_8]; exact zA⟩ (J_in hT (by omega) (by omega) hJ zb.1)) (fun r_11 V_12 R_13 qV_12 => ?_)
                      obtain ⟨rfl, hBV_12, cV_12, rfl, pV_12⟩ := qV_12
                      have fV_12 := chg_t (A := [(149, 150)]) (F := [(99, 80, 81)]) fV_8 cV_12 rfl
                      refine F_incg d_X11_chooses_202 rfl (f := fun x_14 => [(0, vr 99), (1, vi (f:Int)), (2, vi (cn:Int)), (3, vi sm), (4, vj (us:Int)), (6, vi x_14), (7, vi x), (8, vi (g : Int))]) (fun _ => rfl) (fun x_14 ex_14 => ?_)
                      refine T_go d_X11_chooses_205 ?_
                      -- to 66 99t.142t.157t@66
                      refine T_subp (ks := [0, 1, 2, 3, 4, 5]) (ls' := [(0, vr 99), (1, vi (f:Int)), (2, vi (cn:Int)), (3, vi sm), (4, vj (us:Int)), (6, vi x_14)]) rfl ?_
                      obtain ⟨k149, e2, st2, b2⟩ := pV_12
                      obtain rfl : x_14 = ((h + 1) : Int) := by omega
                      exact ih66 V_12 (h + 1) (e2) (by omega) hBV_12 fV_12 (by omega) st2 (chR_s hT hh.1 zb b2) (fun j hj => by rw [k149 j (by rw [or_N, lo_N hT h (by omega), ← hcn]; omega), e8, Int.toNat_natCast, uV_at, if_neg (by omega)]; exact z149 j hj)
                    · skip
                      refine T_go d_X11_chooses_161 ?_
                      refine F_incg d_X11_chooses_202 rfl (f := fun x_15 => [(0, vr 99), (1, vi (f:Int)), (2, vi (cn:Int)), (3, vi sm), (4, vj (us:Int)), (6, vi x_15), (7, vi x), (8, vi (g : Int))]) (fun _ => rfl) (fun x_15 ex_15 => ?_)
                      refine T_go d_X11_chooses_205 ?_
                      -- to 66 99t.142t.157f@66
                      refine T_subp (ks := [0, 1, 2, 3, 4, 5]) (ls' := [(0, vr 99), (1, vi (f:Int)), (2, vi (cn:Int)), (3, vi sm), (4, vj (us:Int)), (6, vi x_15)]) rfl ?_
                      obtain rfl : x_15 = ((h + 1) : Int) := by omega
                      exact ih66 Z (h + 1) (e) (by omega) hBZ fZ (by omega) ⟨z1, z0, zA⟩ (chR_s hT hh.1 zb (one_ok (fun z => h157 (by have z2 := z.2; rw [lo_U hT h (by omega), ← hus, Nat.and_comm] at z2; rw [z2]; rfl)))) z149
                  · skip
                    -- leaf 99t.142f@145
                    refine T_vret d_X11_chooses_145 rfl ?_
                    exact ⟨rfl, hBZ, fZ, rfl, z149, e, ⟨z1, z0, zA⟩, chR_e zb (fun s h1 _ h3 => Or.inr (end_1 hT hh.1 (by omega) (by rw [← hsm]; subst eg; omega) h3))⟩
                · skip
                  have zg := zL.2 g (by omega)
                  have psg : pvS v (g + 1) = pvS v g + if 0 < v g then v g else 0 := rfl
                  refine T_il d_X11_chooses_102 rfl ?_
                  refine T_al d_X11_chooses_104 rfl ?_
                  refine F_gr (b := 144) d_X11_chooses_105 rfl hF rfl ?_
                  refine T_il d_X11_chooses_108 rfl ?_
                  refine F_ia d_X11_chooses_110 rfl hBZ rfl ⟨by omega, by omega⟩ (fun b_16 => ?_)
                  try simp only [Int.toNat_natCast]
                  try simp only [Int.toNat_natCast] at b_16
                  refine T_zle d_X11_chooses_111 ⟨by omega, by omega⟩ (fun h111 => ?_) (fun h111 => ?_)
                  · skip
                    refine T_k d_X11_chooses_124 ?_
                    refine T_iadd d_X11_chooses_125 ?_
                    refine F_isg d_X11_chooses_126 (f := fun x_17 => [(0, vr 99), (1, vi (f:Int)), (2, vi (cn:Int)), (3, vi sm), (4, vj (us:Int)), (6, vi (h : Int)), (7, vi x_17), (8, vi (g : Int))]) (fun _ => rfl) (fun x_17 ex_17 => ?_)
                    refine F_incg d_X11_chooses_128 rfl (f := fun x_18 => [(0, vr 99), (1, vi (f:Int)), (2, vi (cn:Int)), (3, vi sm), (4, vj (us:Int)), (6, vi (h : Int)), (7, vi x_17), (8, vi x_18)]) (fun _ => rfl) (fun x_18 ex_18 => ?_)
                    refine T_go d_X11_chooses_131 ?_
                    -- to 93 99f.111t@93
                    obtain rfl : x_18 = ((g + 1) : Int) := by omega
                    exact ih93 x_17 (g + 1) (by omega) (by omega) (by rw [psg, if_neg (by omega)]; omega)
                  · skip
                    refine T_al d_X11_chooses_114 rfl ?_
                    refine F_gr (b := 144) d_X11_chooses_115 rfl hF rfl ?_
                    refine T_il d_X11_chooses_118 rfl ?_
                    refine F_ia d_X11_chooses_120 rfl hBZ rfl ⟨by omega, by omega⟩ (fun b_19 => ?_)
                    try simp only [Int.toNat_natCast]
                    try simp only [Int.toNat_natCast] at b_19
                    refine T_go d_X11_chooses_121 ?_
                    refine T_iadd d_X11_chooses_125 ?_
                    refine F_isg d_X11_chooses_126 (f := fun x_20 => [(0, vr 99), (1, vi (f:Int)), (2, vi (cn:Int)), (3, vi sm), (4, vj (us:Int)), (6, vi (h : Int)), (7, vi x_20), (8, vi (g : Int))]) (fun _ => rfl) (fun x_20 ex_20 => ?_)
                    refine F_incg d_X11_chooses_128 rfl (f := fun x_21 => [(0, vr 99), (1, vi (f:Int)), (2, vi (cn:Int)), (3, vi sm), (4, vj (us:Int)), (6, vi (h : Int)), (7, vi x_20), (8, vi x_21)]) (fun _ => rfl) (fun x_21 ex_21 => ?_)
                    refine T_go d_X11_chooses_131 ?_
                    -- to 93 99f.111f@93
                    obtain rfl : x_21 = ((g + 1) : Int) := by omega
                    exact ih93 x_20 (g + 1) (by omega) (by omega) (by rw [psg, if_pos (by omega)]; omega)
            obtain rfl : x_4 = (h : Int) := by omega
            exact L93 _ 0 (h) (Nat.lt_succ_self _) (by omega) (by omega)
          · skip
            -- leaf 72f.82f@85
            refine T_vret d_X11_chooses_85 rfl ?_
            exact ⟨rfl, hBZ, fZ, rfl, z149, e, ⟨z1, z0, zA⟩, chR_e zb (fun s h1 _ h3 => Or.inl (end_0 hT hh.1 (fun g hg hg2 => (Nat.lt_or_ge h g).elim (fun q => by have := hds h g q hg2; omega) (fun q => by rw [show g = h by omega]; omega)) h1 h3))⟩
    obtain rfl : x_1 = (f : Int) := by omega
    exact L66 _ Y (f) (d) (Nat.lt_succ_self _) hBY fY (by omega) yst (chR_0 yb hO) y149
  have L24 : (chV v c N < chV v T N ∨ (chV v T N = chV v c N ∧ chN T N < chN c N)) → TT G M_X11_chooses (rmd (u + 3) 162 162) 162 (Zm G 162 162 (PQ [(149, 150)] [(99, 80, 81)] V R (fun o X => o = none ∧ (∀ j, j < cn → X 149 j = V 149 j) ∧ ∃ c2, stM N v c2 X ∧ bSt v N (fun s => s = c ∨ (cOk v B N s ∧ agB T f s)) c2))) 162 24 [(0, vr 99), (1, vi (f:Int)), (2, vi (cn:Int)), (3, vi sm), (4, vj (us:Int))] [] V R := by
    intro  hbt
    refine T_al d_X11_chooses_24 rfl ?_
    refine T_il d_X11_chooses_25 rfl ?_
    refine F_pi d_X11_chooses_26 rfl hB rfl ⟨by omega, by omega⟩ (fun V_22 eV_22 hBV_22 => ?_)
    have fV_22 := chg_u eV_22 rfl fV
    refine T_al d_X11_chooses_29 rfl ?_
    refine T_il d_X11_chooses_30 rfl ?_
    refine F_pi d_X11_chooses_31 rfl hBV_22 rfl ⟨by omega, by omega⟩ (fun V_23 eV_23 hBV_23 => ?_)
    have fV_23 := chg_u eV_23 rfl fV_22
    refine T_k d_X11_chooses_34 ?_
    refine T_is d_X11_chooses_35 (ls' := [(0, vr 99), (1, vi (f:Int)), (2, vi (cn:Int)), (3, vi sm), (4, vj (us:Int)), (6, vi 0)]) rfl ?_
    -- to 37 @37
    have L37 : ∀ (fu : Nat) (X : VV) (i : Nat), cn - i < fu → (Bd X) → (chg [(149, 150)] [(99, 80, 81)] V X) → (i ≤ cn) → (X 99 81 = sm ∧ X 99 80 = (cn : Int)) → (X 149 = V 149) → (∀ j, j < i → X 150 j = V 149 j) → TT G M_X11_chooses (rmd (u + 3) 162 162) 162 (Zm G 162 162 (PQ [(149, 150)] [(99, 80, 81)] V R (fun o X => o = none ∧ (∀ j, j < cn → X 149 j = V 149 j) ∧ ∃ c2, stM N v c2 X ∧ bSt v N (fun s => s = c ∨ (cOk v B N s ∧ agB T f s)) c2))) 162 37 [(0, vr 99), (1, vi (f:Int)), (2, vi (cn:Int)), (3, vi sm), (4, vj (us:Int)), (6, vi (i : Int))] [] X R := by
      intro fu
      induction fu with
      | zero => intro X i hm; exact absurd hm (Nat.not_lt_zero _)
      | succ fu ih37 =>
        intro X i hm37 hBX fX hi x81 x149 x150
        refine T_il d_X11_chooses_37 rfl ?_
        refine T_il d_X11_chooses_39 rfl ?_
        refine T_ige d_X11_chooses_40 ⟨by omega, by omega⟩ ⟨by omega, by omega⟩ (fun h40 => ?_) (fun h40 => ?_)
        · skip
          -- to 63 40t@63
          refine T_subp (ks := [0, 1, 2, 3, 4]) (ls' := [(0, vr 99), (1, vi (f:Int)), (2, vi (cn:Int)), (3, vi sm), (4, vj (us:Int))]) rfl ?_
          exact L63 X (T) hBX fX ⟨by rw [x81.1, hvN], by rw [x81.2, hcN], by rw [hcN]; exact lst_x hA (fun j hj => x150 j (by omega))⟩ (fst_t hbt) (fun j _ => by rw [x149])
        · skip
          refine T_al d_X11_chooses_43 rfl ?_
          refine F_gr (b := 150) d_X11_chooses_44 rfl hF rfl ?_
          refine T_il d_X11_chooses_47 rfl ?_
          refine T_al d_X11_chooses_49 rfl ?_
          refine F_gr (b := 149) d_X11_chooses_50 rfl hF rfl ?_
          refine T_il d_X11_chooses_53 rfl ?_
          refine F_ia d_X11_chooses_55 rfl hBX rfl ⟨by omega, by omega⟩ (fun b_24 => ?_)
          try simp only [Int.toNat_natCast]
          try simp only [Int.toNat_natCast] at b_24
          refine F_is d_X11_chooses_56 rfl hBX rfl ⟨by omega, by omega⟩ ⟨by omega, by omega⟩ (fun V_25 eV_25 hBV_25 => ?_)
          have fV_25 := chg_u eV_25 rfl fX
          refine F_incg d_X11_chooses_57 rfl (f := fun x_26 => [(0, vr 99), (1, vi (f:Int)), (2, vi (cn:Int)), (3, vi sm), (4, vj (us:Int)), (6, vi x_26)]) (fun _ => rfl) (fun x_26 ex_26 => ?_)
          refine T_go d_X11_chooses_60 ?_
          -- to 37 40f@37
          obtain rfl : x_26 = ((i + 1) : Int) := by omega
          exact ih37 V_25 (i + 1) (by omega) hBV_25 fV_25 (by first | assumption | omega) (by rw [eV_25]; exact x81) (by rw [eV_25]; exact x149) (row_s (f := V 149) eV_25 (by rw [x149]) x150)
    exact L37 _ V_23 (0) (Nat.lt_succ_self _) hBV_23 fV_23 (by omega) ⟨by rw [eV_23, eV_22]; rfl, by rw [eV_23]; exact uV_self⟩ (by rw [eV_23, eV_22]; rfl) (fun j hj => absurd hj (Nat.not_lt_zero _))
  refine T_il d_X11_chooses_0 rfl ?_
  refine T_al d_X11_chooses_1 rfl ?_
  refine F_gi d_X11_chooses_2 rfl hB rfl (fun b_27 => ?_)
  refine T_igt d_X11_chooses_5 ⟨by omega, by omega⟩ ⟨by omega, by omega⟩ (fun h5 => ?_) (fun h5 => ?_)
  · skip
    -- to 24 5t@24
    exact L24  (by omega)
  · skip
    refine T_il d_X11_chooses_8 rfl ?_
    refine T_al d_X11_chooses_9 rfl ?_
    refine F_gi d_X11_chooses_10 rfl hB rfl (fun b_28 => ?_)
    refine T_ine d_X11_chooses_13 ⟨by omega, by omega⟩ ⟨by omega, by omega⟩ (fun h13 => ?_) (fun h13 => ?_)
    · skip
      -- to 63 5f.13t@63
      exact L63 V (c) hB fV ⟨s1, s0, sA⟩ (fst_f hO hJ (by omega)) (fun j _ => rfl)
    · skip
      refine T_il d_X11_chooses_16 rfl ?_
      refine T_al d_X11_chooses_17 rfl ?_
      refine F_gi d_X11_chooses_18 rfl hB rfl (fun b_29 => ?_)
      refine T_ige d_X11_chooses_21 ⟨by omega, by omega⟩ ⟨by omega, by omega⟩ (fun h21 => ?_) (fun h21 => ?_)
      · skip
        -- to 63 5f.13f.21t@63
        exact L63 V (c) hB fV ⟨s1, s0, sA⟩ (fst_f hO hJ (by omega)) (fun j _ => rfl)
      · skip
        -- to 24 5f.13f.21f@24
        exact L24  (by omega)
theorem chs_all {G : GG} {R : RR} {N : Nat} {v : Nat → Int} {B : Nat → Nat} (hF : FinR R) (hN : N ≤ 24) (hds : ∀ i j, i < j → j < N → v j ≤ v i) : ∀ m u, u < m → chsP G R N v B u
  | 0, u, h => absurd h (Nat.not_lt_zero _)
  | m + 1, u, h => fun V f T c hf hB hL hT hO hA hst hJ => chs_step hB hF (fun u2 h2 => chs_all hF hN hds m u2 (by omega)) hN hds hf hL hT hO rfl rfl rfl hA hst hJ
