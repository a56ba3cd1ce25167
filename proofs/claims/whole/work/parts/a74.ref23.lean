set_option maxHeartbeats 1000000 in
set_option maxRecDepth 100000 in
theorem R_X11_areBound {G : GG} {V : VV} {R : RR}  {mt lt : Nat → Nat → Bool} {n i j : Nat} (hB : Bd V) (hF : FinR R) (hr : relM mt lt n V) (hn : n ≤ 13) (hi : i < n) (hj : j < n) : RunsP G M_X11_areBound 1 [vr 99, vi (i:Int), vi (j:Int)] V R (vi (bi (decide (rlB mt lt i j = true)))) := by
  unfold RunsP
  refine Runs.of pn_X11 (Nat.le_of_ble_eq_true rfl) rfl ?_
  show TT G M_X11_areBound (rmd 1 162 162) 162 (Zm G 162 162 (QP V R (vi (bi (decide (rlB mt lt i j = true)))))) 162 0 [(0, vr 99), (1, vi (i:Int)), (2, vi (j:Int))] [] V R
  have m1 := hr.1 i j hi hj
  have m2 := hr.2 i j hi hj
  have m3 := hr.2 j i hj hi
  refine T_al d_X11_areBound_0 rfl ?_
  refine F_gr (b := 153) d_X11_areBound_1 rfl hF rfl ?_
  refine T_k d_X11_areBound_4 ?_
  refine T_il d_X11_areBound_6 rfl ?_
  refine T_imul d_X11_areBound_7 ?_
  refine T_il d_X11_areBound_8 rfl ?_
  refine T_iadd d_X11_areBound_9 ?_
  refine F_za d_X11_areBound_10 rfl hB rfl ⟨by omega, by omega⟩ (fun b_1 => ?_)
  try simp only [Int.toNat_natCast, show (24 * (i : Int) + (j : Int)).toNat = 24 * i + j from by omega]
  try simp only [Int.toNat_natCast, show (24 * (i : Int) + (j : Int)).toNat = 24 * i + j from by omega] at b_1
  rw [m1]
  refine T_zne d_X11_areBound_11 (bi_r _) (fun h11 => ?_) (fun h11 => ?_)
  · skip
    refine T_k d_X11_areBound_42 ?_
    refine T_go d_X11_areBound_43 ?_
    -- leaf 11t@47
    exact P_T d_X11_areBound_47 (by unfold rlB; rw [bi_n.mp h11]; rfl)
  · skip
    refine T_al d_X11_areBound_14 rfl ?_
    refine F_gr (b := 152) d_X11_areBound_15 rfl hF rfl ?_
    refine T_k d_X11_areBound_18 ?_
    refine T_il d_X11_areBound_20 rfl ?_
    refine T_imul d_X11_areBound_21 ?_
    refine T_il d_X11_areBound_22 rfl ?_
    refine T_iadd d_X11_areBound_23 ?_
    refine F_za d_X11_areBound_24 rfl hB rfl ⟨by omega, by omega⟩ (fun b_2 => ?_)
    try simp only [Int.toNat_natCast, show (24 * (i : Int) + (j : Int)).toNat = 24 * i + j from by omega]
    try simp only [Int.toNat_natCast, show (24 * (i : Int) + (j : Int)).toNat = 24 * i + j from by omega] at b_2
    rw [m2]
    refine T_zne d_X11_areBound_25 (bi_r _) (fun h25 => ?_) (fun h25 => ?_)
    · skip
      refine T_k d_X11_areBound_42 ?_
      refine T_go d_X11_areBound_43 ?_
      -- leaf 11f.25t@47
      exact P_T d_X11_areBound_47 (by unfold rlB; rw [bi_n.mp h25, Bool.true_or, Bool.or_true])
    · skip
      refine T_al d_X11_areBound_28 rfl ?_
      refine F_gr (b := 152) d_X11_areBound_29 rfl hF rfl ?_
      refine T_k d_X11_areBound_32 ?_
      refine T_il d_X11_areBound_34 rfl ?_
      refine T_imul d_X11_areBound_35 ?_
      refine T_il d_X11_areBound_36 rfl ?_
      refine T_iadd d_X11_areBound_37 ?_
      refine F_za d_X11_areBound_38 rfl hB rfl ⟨by omega, by omega⟩ (fun b_3 => ?_)
      try simp only [Int.toNat_natCast, show (24 * (j : Int) + (i : Int)).toNat = 24 * j + i from by omega]
      try simp only [Int.toNat_natCast, show (24 * (j : Int) + (i : Int)).toNat = 24 * j + i from by omega] at b_3
      rw [m3]
      refine T_zeq d_X11_areBound_39 (bi_r _) (fun h39 => ?_) (fun h39 => ?_)
      · skip
        refine T_k d_X11_areBound_46 ?_
        -- leaf 11f.25f.39t@47
        exact P_F d_X11_areBound_47 (by unfold rlB; rw [bi_0.mp (show bi (mt i j) = 0 by omega), bi_0.mp (show bi (lt i j) = 0 by omega), bi_0.mp h39]; decide)
      · skip
        refine T_k d_X11_areBound_42 ?_
        refine T_go d_X11_areBound_43 ?_
        -- leaf 11f.25f.39f@47
        exact P_T d_X11_areBound_47 (by unfold rlB; rw [bi_n.mp h39, Bool.or_true, Bool.or_true])
set_option maxHeartbeats 1000000 in
set_option maxRecDepth 100000 in
theorem R_X11_lifeOf {G : GG} {V : VV} {R : RR}  {Ks : Nat → Kd} {l : Nat → Nat → Int} {N ch i kd : Nat} (hB : Bd V) (hF : FinR R) (hi : i < 24) (h151 : V 151 i = (mbr ch N i : Int)) (hm : mbr ch N i < 24) (h135 : V 135 (mbr ch N i) = (kd : Int)) (hkd : kd < 5) (h122 : V 122 (10 * kd + 8) = (Ks kd).l 8) : RunsP G M_X11_lifeOf 1 [vr 99, vi (i:Int)] V R (vi ((Ks kd).l 8)) := by
  unfold RunsP
  refine Runs.of pn_X11 (Nat.le_of_ble_eq_true rfl) rfl ?_
  show TT G M_X11_lifeOf (rmd 1 162 162) 162 (Zm G 162 162 (QP V R (vi ((Ks kd).l 8)))) 162 0 [(0, vr 99), (1, vi (i:Int))] [] V R
  refine T_al d_X11_lifeOf_0 rfl ?_
  refine F_gr (b := 122) d_X11_lifeOf_1 rfl hF rfl ?_
  refine T_k d_X11_lifeOf_4 ?_
  refine T_al d_X11_lifeOf_6 rfl ?_
  refine F_gr (b := 135) d_X11_lifeOf_7 rfl hF rfl ?_
  refine T_al d_X11_lifeOf_10 rfl ?_
  refine F_gr (b := 151) d_X11_lifeOf_11 rfl hF rfl ?_
  refine T_il d_X11_lifeOf_14 rfl ?_
  refine F_ia d_X11_lifeOf_15 rfl hB rfl ⟨by omega, by omega⟩ (fun b_1 => ?_)
  try simp only [Int.toNat_natCast]
  try simp only [Int.toNat_natCast] at b_1
  rw [h151]
  refine F_ia d_X11_lifeOf_16 rfl hB rfl ⟨by omega, by omega⟩ (fun b_2 => ?_)
  try simp only [Int.toNat_natCast]
  try simp only [Int.toNat_natCast] at b_2
  rw [h135]
  refine T_imul d_X11_lifeOf_17 ?_
  refine T_k d_X11_lifeOf_18 ?_
  refine T_iadd d_X11_lifeOf_20 ?_
  refine F_ia d_X11_lifeOf_21 rfl hB rfl ⟨by omega, by omega⟩ (fun b_3 => ?_)
  try simp only [Int.toNat_natCast, show (10 * (kd : Int) + 8).toNat = 10 * kd + 8 from by omega]
  try simp only [Int.toNat_natCast, show (10 * (kd : Int) + 8).toNat = 10 * kd + 8 from by omega] at b_3
  rw [h122]
  -- leaf @22
  exact P_I d_X11_lifeOf_22 (by rfl)
