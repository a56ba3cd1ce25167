set_option maxHeartbeats 1000000 in
set_option maxRecDepth 100000 in
theorem R_X11_isThere {G : GG} {V : VV} {R : RR} {k : Int} {b : Bk} {h : Nat} (hB : Bd V) (hF : FinR R) (bMV : bM b V) (hh : h < 40) (hk : r32 k) : RunsP G M_X11_isThere 1 [vr 99, vi (h:Int), vi k] V R (vi (bi (decide (thr b k h)))) := by
  unfold RunsP
  refine Runs.of pn_X11 (Nat.le_of_ble_eq_true rfl) rfl ?_
  show TT G M_X11_isThere (rmd 1 162 162) 162 (Zm G 162 162 (QP V R (vi (bi (decide (thr b k h)))))) 162 0 [(0, vr 99), (1, vi (h:Int)), (2, vi k)] [] V R
  obtain ⟨hk1, hk2⟩ := hk
  refine T_al d_X11_isThere_0 rfl ?_
  refine F_gr (b := 104) d_X11_isThere_1 rfl hF rfl ?_
  refine T_il d_X11_isThere_4 rfl ?_
  refine F_ia d_X11_isThere_5 rfl hB rfl ⟨by omega, by omega⟩ (fun b_1 => ?_)
  rw [bMV.kn]
  rw [bMV.kn] at b_1
  try simp only [Int.toNat_natCast]
  try simp only [Int.toNat_natCast] at b_1
  refine T_il d_X11_isThere_6 rfl ?_
  refine T_igt d_X11_isThere_7 ⟨by omega, by omega⟩ ⟨by omega, by omega⟩ (fun h7 => ?_) (fun h7 => ?_)
  · skip
    refine T_k d_X11_isThere_24 ?_
    -- leaf 7t@25
    exact P_F d_X11_isThere_25 (by intro z; have := z.1; omega)
  · skip
    refine T_il d_X11_isThere_10 rfl ?_
    refine T_al d_X11_isThere_11 rfl ?_
    refine F_gr (b := 105) d_X11_isThere_12 rfl hF rfl ?_
    refine T_il d_X11_isThere_15 rfl ?_
    refine F_ia d_X11_isThere_16 rfl hB rfl ⟨by omega, by omega⟩ (fun b_2 => ?_)
    rw [bMV.st]
    rw [bMV.st] at b_2
    try simp only [Int.toNat_natCast]
    try simp only [Int.toNat_natCast] at b_2
    refine T_ige d_X11_isThere_17 ⟨by omega, by omega⟩ ⟨by omega, by omega⟩ (fun h17 => ?_) (fun h17 => ?_)
    · skip
      refine T_k d_X11_isThere_24 ?_
      -- leaf 7f.17t@25
      exact P_F d_X11_isThere_25 (by intro z; have := z.2; omega)
    · skip
      refine T_k d_X11_isThere_20 ?_
      refine T_go d_X11_isThere_21 ?_
      -- leaf 7f.17f@25
      exact P_T d_X11_isThere_25 (by exact ⟨by omega, by omega⟩)
set_option maxHeartbeats 1000000 in
set_option maxRecDepth 100000 in
theorem R_X11_turnedX {G : GG} {V : VV} {R : RR} {t : Int} {b : Bk} {h : Nat} (hB : Bd V) (hF : FinR R) (bMV : bM b V) (hh : h < 40) (ht : 0 ≤ t ∧ t ≤ 3) : RunsP G M_X11_turnedX 1 [vr 99, vi (h:Int), vi t] V R (vi (tX b h t)) := by
  unfold RunsP
  refine Runs.of pn_X11 (Nat.le_of_ble_eq_true rfl) rfl ?_
  show TT G M_X11_turnedX (rmd 1 162 162) 162 (Zm G 162 162 (QP V R (vi (tX b h t)))) 162 0 [(0, vr 99), (1, vi (h:Int)), (2, vi t)] [] V R
  refine T_il d_X11_turnedX_0 rfl ?_
  refine T_zne d_X11_turnedX_1 ⟨by omega, by omega⟩ (fun h1 => ?_) (fun h1 => ?_)
  · skip
    refine T_il d_X11_turnedX_13 rfl ?_
    refine T_k d_X11_turnedX_14 ?_
    refine T_ine d_X11_turnedX_15 ⟨by omega, by omega⟩ ⟨by omega, by omega⟩ (fun h15 => ?_) (fun h15 => ?_)
    · skip
      refine T_il d_X11_turnedX_31 rfl ?_
      refine T_k d_X11_turnedX_32 ?_
      refine T_ine d_X11_turnedX_33 ⟨by omega, by omega⟩ ⟨by omega, by omega⟩ (fun h33 => ?_) (fun h33 => ?_)
      · skip
        refine T_al d_X11_turnedX_49 rfl ?_
        refine F_gr (b := 102) d_X11_turnedX_50 rfl hF rfl ?_
        refine T_il d_X11_turnedX_53 rfl ?_
        refine F_ia d_X11_turnedX_54 rfl hB rfl ⟨by omega, by omega⟩ (fun b_1 => ?_)
        rw [bMV.hy]
        rw [bMV.hy] at b_1
        try simp only [Int.toNat_natCast]
        try simp only [Int.toNat_natCast] at b_1
        -- leaf 1t.15t.33t@55
        exact P_I d_X11_turnedX_55 (by unfold tX; simp only [*, if_true, if_false]; try omega)
      · skip
        refine T_k d_X11_turnedX_36 ?_
        refine T_al d_X11_turnedX_39 rfl ?_
        refine F_gr (b := 101) d_X11_turnedX_40 rfl hF rfl ?_
        refine T_il d_X11_turnedX_43 rfl ?_
        refine F_ia d_X11_turnedX_44 rfl hB rfl ⟨by omega, by omega⟩ (fun b_2 => ?_)
        rw [bMV.hx]
        rw [bMV.hx] at b_2
        try simp only [Int.toNat_natCast]
        try simp only [Int.toNat_natCast] at b_2
        refine T_isub d_X11_turnedX_45 ?_
        refine T_go d_X11_turnedX_46 ?_
        -- leaf 1t.15t.33f@55
        exact P_I d_X11_turnedX_55 (by unfold tX; simp only [*, if_true, if_false]; try omega)
    · skip
      refine T_k d_X11_turnedX_18 ?_
      refine T_al d_X11_turnedX_21 rfl ?_
      refine F_gr (b := 102) d_X11_turnedX_22 rfl hF rfl ?_
      refine T_il d_X11_turnedX_25 rfl ?_
      refine F_ia d_X11_turnedX_26 rfl hB rfl ⟨by omega, by omega⟩ (fun b_3 => ?_)
      rw [bMV.hy]
      rw [bMV.hy] at b_3
      try simp only [Int.toNat_natCast]
      try simp only [Int.toNat_natCast] at b_3
      refine T_isub d_X11_turnedX_27 ?_
      refine T_go d_X11_turnedX_28 ?_
      -- leaf 1t.15f@55
      exact P_I d_X11_turnedX_55 (by unfold tX; simp only [*, if_true, if_false]; try omega)
  · skip
    refine T_al d_X11_turnedX_4 rfl ?_
    refine F_gr (b := 101) d_X11_turnedX_5 rfl hF rfl ?_
    refine T_il d_X11_turnedX_8 rfl ?_
    refine F_ia d_X11_turnedX_9 rfl hB rfl ⟨by omega, by omega⟩ (fun b_4 => ?_)
    rw [bMV.hx]
    rw [bMV.hx] at b_4
    try simp only [Int.toNat_natCast]
    try simp only [Int.toNat_natCast] at b_4
    refine T_go d_X11_turnedX_10 ?_
    -- leaf 1f@55
    exact P_I d_X11_turnedX_55 (by unfold tX; simp only [*, if_true, if_false]; try omega)
set_option maxHeartbeats 1000000 in
set_option maxRecDepth 100000 in
theorem R_X11_turnedY {G : GG} {V : VV} {R : RR} {t : Int} {b : Bk} {h : Nat} (hB : Bd V) (hF : FinR R) (bMV : bM b V) (hh : h < 40) (ht : 0 ≤ t ∧ t ≤ 3) : RunsP G M_X11_turnedY 1 [vr 99, vi (h:Int), vi t] V R (vi (tY b h t)) := by
  unfold RunsP
  refine Runs.of pn_X11 (Nat.le_of_ble_eq_true rfl) rfl ?_
  show TT G M_X11_turnedY (rmd 1 162 162) 162 (Zm G 162 162 (QP V R (vi (tY b h t)))) 162 0 [(0, vr 99), (1, vi (h:Int)), (2, vi t)] [] V R
  refine T_il d_X11_turnedY_0 rfl ?_
  refine T_zne d_X11_turnedY_1 ⟨by omega, by omega⟩ (fun h1 => ?_) (fun h1 => ?_)
  · skip
    refine T_il d_X11_turnedY_13 rfl ?_
    refine T_k d_X11_turnedY_14 ?_
    refine T_ine d_X11_turnedY_15 ⟨by omega, by omega⟩ ⟨by omega, by omega⟩ (fun h15 => ?_) (fun h15 => ?_)
    · skip
      refine T_il d_X11_turnedY_27 rfl ?_
      refine T_k d_X11_turnedY_28 ?_
      refine T_ine d_X11_turnedY_29 ⟨by omega, by omega⟩ ⟨by omega, by omega⟩ (fun h29 => ?_) (fun h29 => ?_)
      · skip
        refine T_k d_X11_turnedY_45 ?_
        refine T_al d_X11_turnedY_48 rfl ?_
        refine F_gr (b := 101) d_X11_turnedY_49 rfl hF rfl ?_
        refine T_il d_X11_turnedY_52 rfl ?_
        refine F_ia d_X11_turnedY_53 rfl hB rfl ⟨by omega, by omega⟩ (fun b_1 => ?_)
        rw [bMV.hx]
        rw [bMV.hx] at b_1
        try simp only [Int.toNat_natCast]
        try simp only [Int.toNat_natCast] at b_1
        refine T_isub d_X11_turnedY_54 ?_
        -- leaf 1t.15t.29t@55
        exact P_I d_X11_turnedY_55 (by unfold tY; simp only [*, if_true, if_false]; try omega)
      · skip
        refine T_k d_X11_turnedY_32 ?_
        refine T_al d_X11_turnedY_35 rfl ?_
        refine F_gr (b := 102) d_X11_turnedY_36 rfl hF rfl ?_
        refine T_il d_X11_turnedY_39 rfl ?_
        refine F_ia d_X11_turnedY_40 rfl hB rfl ⟨by omega, by omega⟩ (fun b_2 => ?_)
        rw [bMV.hy]
        rw [bMV.hy] at b_2
        try simp only [Int.toNat_natCast]
        try simp only [Int.toNat_natCast] at b_2
        refine T_isub d_X11_turnedY_41 ?_
        refine T_go d_X11_turnedY_42 ?_
        -- leaf 1t.15t.29f@55
        exact P_I d_X11_turnedY_55 (by unfold tY; simp only [*, if_true, if_false]; try omega)
    · skip
      refine T_al d_X11_turnedY_18 rfl ?_
      refine F_gr (b := 101) d_X11_turnedY_19 rfl hF rfl ?_
      refine T_il d_X11_turnedY_22 rfl ?_
      refine F_ia d_X11_turnedY_23 rfl hB rfl ⟨by omega, by omega⟩ (fun b_3 => ?_)
      rw [bMV.hx]
      rw [bMV.hx] at b_3
      try simp only [Int.toNat_natCast]
      try simp only [Int.toNat_natCast] at b_3
      refine T_go d_X11_turnedY_24 ?_
      -- leaf 1t.15f@55
      exact P_I d_X11_turnedY_55 (by unfold tY; simp only [*, if_true, if_false]; try omega)
  · skip
    refine T_al d_X11_turnedY_4 rfl ?_
    refine F_gr (b := 102) d_X11_turnedY_5 rfl hF rfl ?_
    refine T_il d_X11_turnedY_8 rfl ?_
    refine F_ia d_X11_turnedY_9 rfl hB rfl ⟨by omega, by omega⟩ (fun b_4 => ?_)
    rw [bMV.hy]
    rw [bMV.hy] at b_4
    try simp only [Int.toNat_natCast]
    try simp only [Int.toNat_natCast] at b_4
    refine T_go d_X11_turnedY_10 ?_
    -- leaf 1f@55
    exact P_I d_X11_turnedY_55 (by unfold tY; simp only [*, if_true, if_false]; try omega)
set_option maxHeartbeats 1000000 in
set_option maxRecDepth 100000 in
theorem R_X11_isNear {G : GG} {V : VV} {R : RR} {x : Int} {y : Int} {b : Bk} {h : Nat} (hB : Bd V) (hF : FinR R) (bMV : bM b V) (hh : h < 40) (hx : -2000 ≤ x ∧ x ≤ 2000) (hy : -2000 ≤ y ∧ y ≤ 2000) : RunsP G M_X11_isNear 2 [vr 99, vi x, vi y, vi (h:Int)] V R (vi (bi (decide (nr b x y (V 128 h) (V 129 h))))) := by
  unfold RunsP
  refine Runs.of pn_X11 (Nat.le_of_ble_eq_true rfl) rfl ?_
  show TT G M_X11_isNear (rmd 2 162 162) 162 (Zm G 162 162 (QP V R (vi (bi (decide (nr b x y (V 128 h) (V 129 h))))))) 162 0 [(0, vr 99), (1, vi x), (2, vi y), (3, vi (h:Int))] [] V R
  refine T_il d_X11_isNear_0 rfl ?_
  refine T_al d_X11_isNear_1 rfl ?_
  refine F_gr (b := 128) d_X11_isNear_2 rfl hF rfl ?_
  refine T_il d_X11_isNear_5 rfl ?_
  refine F_ia d_X11_isNear_6 rfl hB rfl ⟨by omega, by omega⟩ (fun b_1 => ?_)
  try simp only [Int.toNat_natCast]
  try simp only [Int.toNat_natCast] at b_1
  refine T_isub d_X11_isNear_7 ?_
  refine C_ps1 d_X11_isNear_8 (hdF (by decide)) (hcF _) (R_X11_size (by first | assumption | omega | exact ⟨by omega, by omega⟩ | (subst_vars; simp_all [uV]; done) | grind [uV])) ?_
  refine T_al d_X11_isNear_11 rfl ?_
  refine F_gi d_X11_isNear_12 rfl hB rfl (fun b_2 => ?_)
  rw [bMV.e]
  rw [bMV.e] at b_2
  refine T_igt d_X11_isNear_15 ⟨by omega, by omega⟩ ⟨by omega, by omega⟩ (fun h15 => ?_) (fun h15 => ?_)
  · skip
    refine T_k d_X11_isNear_40 ?_
    -- leaf 15t@41
    exact P_F d_X11_isNear_41 (by intro z; simp only [nr, abI] at z; omega)
  · skip
    refine T_il d_X11_isNear_18 rfl ?_
    refine T_al d_X11_isNear_19 rfl ?_
    refine F_gr (b := 129) d_X11_isNear_20 rfl hF rfl ?_
    refine T_il d_X11_isNear_23 rfl ?_
    refine F_ia d_X11_isNear_24 rfl hB rfl ⟨by omega, by omega⟩ (fun b_3 => ?_)
    try simp only [Int.toNat_natCast]
    try simp only [Int.toNat_natCast] at b_3
    refine T_isub d_X11_isNear_25 ?_
    refine C_ps1 d_X11_isNear_26 (hdF (by decide)) (hcF _) (R_X11_size (by first | assumption | omega | exact ⟨by omega, by omega⟩ | (subst_vars; simp_all [uV]; done) | grind [uV])) ?_
    refine T_al d_X11_isNear_29 rfl ?_
    refine F_gi d_X11_isNear_30 rfl hB rfl (fun b_4 => ?_)
    rw [bMV.e]
    rw [bMV.e] at b_4
    refine T_igt d_X11_isNear_33 ⟨by omega, by omega⟩ ⟨by omega, by omega⟩ (fun h33 => ?_) (fun h33 => ?_)
    · skip
      refine T_k d_X11_isNear_40 ?_
      -- leaf 15f.33t@41
      exact P_F d_X11_isNear_41 (by intro z; simp only [nr, abI] at z; omega)
    · skip
      refine T_k d_X11_isNear_36 ?_
      refine T_go d_X11_isNear_37 ?_
      -- leaf 15f.33f@41
      exact P_T d_X11_isNear_41 (by simp only [nr, abI]; omega)
set_option maxHeartbeats 1000000 in
set_option maxRecDepth 100000 in
theorem R_X11_strikesOne {G : GG} {V : VV} {R : RR} {x : Int} {y : Int} {k : Int} {b : Bk} (hB : Bd V) (hF : FinR R) (bMV : bM b V) (hx : -2000 ≤ x ∧ x ≤ 2000) (hy : -2000 ≤ y ∧ y ≤ 2000) (hk : r32 k) (hf : ∀ g, g < b.n → b.dg g = 0 → V 128 g = b.hx g ∧ V 129 g = b.hy g) : RunsP G M_X11_strikesOne 3 [vr 99, vi x, vi y, vi k] V R (vi (bi (decide (stks b k x y = true)))) := by
  unfold RunsP
  refine Runs.of pn_X11 (Nat.le_of_ble_eq_true rfl) rfl ?_
  show TT G M_X11_strikesOne (rmd 3 162 162) 162 (Zm G 162 162 (QP V R (vi (bi (decide (stks b k x y = true)))))) 162 0 [(0, vr 99), (1, vi x), (2, vi y), (3, vi k)] [] V R
  obtain ⟨hk1, hk2⟩ := hk
  have ho := bO_of bMV hB
  have hn4 := ho.n
  refine T_k d_X11_strikesOne_0 ?_
  refine T_is d_X11_strikesOne_1 (ls' := [(0, vr 99), (1, vi x), (2, vi y), (3, vi k), (4, vi 0)]) rfl ?_
  -- to 3 @3
  have L3 : ∀ (fu : Nat) (g : Nat), b.n - g < fu → (g ≤ b.n) → (∀ i, i < g → stk b k x y i = false) → TT G M_X11_strikesOne (rmd 3 162 162) 162 (Zm G 162 162 (QP V R (vi (bi (decide (stks b k x y = true)))))) 162 3 [(0, vr 99), (1, vi x), (2, vi y), (3, vi k), (4, vi (g : Int))] [] V R := by
    intro fu
    induction fu with
    | zero => intro g hm; exact absurd hm (Nat.not_lt_zero _)
    | succ fu ih3 =>
      intro g hm3 hg hno
      refine T_il d_X11_strikesOne_3 rfl ?_
      refine T_al d_X11_strikesOne_5 rfl ?_
      refine F_gi d_X11_strikesOne_6 rfl hB rfl (fun b_1 => ?_)
      rw [bMV.n]
      rw [bMV.n] at b_1
      refine T_ige d_X11_strikesOne_9 ⟨by omega, by omega⟩ ⟨by omega, by omega⟩ (fun h9 => ?_) (fun h9 => ?_)
      · skip
        refine T_k d_X11_strikesOne_51 ?_
        -- leaf 9t@52
        exact P_F d_X11_strikesOne_52 (by rw [show stks b k x y = false from anyB_f.mpr (fun i hi => hno i (by omega))]; decide)
      · skip
        refine T_al d_X11_strikesOne_12 rfl ?_
        refine F_gr (b := 100) d_X11_strikesOne_13 rfl hF rfl ?_
        refine T_il d_X11_strikesOne_16 rfl ?_
        refine F_ia d_X11_strikesOne_18 rfl hB rfl ⟨by omega, by omega⟩ (fun b_2 => ?_)
        rw [bMV.dg]
        rw [bMV.dg] at b_2
        try simp only [Int.toNat_natCast]
        try simp only [Int.toNat_natCast] at b_2
        refine T_zne d_X11_strikesOne_19 ⟨by omega, by omega⟩ (fun h19 => ?_) (fun h19 => ?_)
        · skip
          refine F_incg d_X11_strikesOne_45 rfl (f := fun x_3 => [(0, vr 99), (1, vi x), (2, vi y), (3, vi k), (4, vi x_3)]) (fun _ => rfl) (fun x_3 ex_3 => ?_)
          refine T_go d_X11_strikesOne_48 ?_
          -- to 3 9f.19t@3
          obtain rfl : x_3 = ((g + 1) : Int) := by omega
          exact ih3 (g + 1) (by omega) (by first | assumption | omega) (up_all hno (decide_eq_false (fun z => h19 z.1)))
        · skip
          refine T_al d_X11_strikesOne_22 rfl ?_
          refine T_il d_X11_strikesOne_23 rfl ?_
          refine T_il d_X11_strikesOne_25 rfl ?_
          refine C_pv2 d_X11_strikesOne_26 rfl (hdF (by decide)) (hcF _) (R_X11_isThere (by first | assumption | omega | exact ⟨by omega, by omega⟩ | (subst_vars; simp_all [uV]; done) | grind [uV]) (by first | assumption | omega | exact ⟨by omega, by omega⟩ | (subst_vars; simp_all [uV]; done) | grind [uV]) (by first | assumption | omega | exact ⟨by omega, by omega⟩ | (subst_vars; simp_all [uV]; done) | grind [uV]) (by first | assumption | omega | exact ⟨by omega, by omega⟩ | (subst_vars; simp_all [uV]; done) | grind [uV]) (by first | assumption | omega | exact ⟨by omega, by omega⟩ | (subst_vars; simp_all [uV]; done) | grind [uV])) ?_
          refine T_pz0 d_X11_strikesOne_29 (fun h29 => ?_) (fun h29 => ?_)
          · skip
            refine F_incg d_X11_strikesOne_45 rfl (f := fun x_4 => [(0, vr 99), (1, vi x), (2, vi y), (3, vi k), (4, vi x_4)]) (fun _ => rfl) (fun x_4 ex_4 => ?_)
            refine T_go d_X11_strikesOne_48 ?_
            -- to 3 9f.19f.29t@3
            obtain rfl : x_4 = ((g + 1) : Int) := by omega
            exact ih3 (g + 1) (by omega) (by first | assumption | omega) (up_all hno (decide_eq_false (fun z => h29 z.2.1)))
          · skip
            refine T_al d_X11_strikesOne_32 rfl ?_
            refine T_il d_X11_strikesOne_33 rfl ?_
            refine T_il d_X11_strikesOne_34 rfl ?_
            refine T_il d_X11_strikesOne_35 rfl ?_
            refine C_pv3 d_X11_strikesOne_37 rfl (hdF (by decide)) (hcF _) (R_X11_isNear (by first | assumption | omega | exact ⟨by omega, by omega⟩ | (subst_vars; simp_all [uV]; done) | grind [uV]) (by first | assumption | omega | exact ⟨by omega, by omega⟩ | (subst_vars; simp_all [uV]; done) | grind [uV]) (by first | assumption | omega | exact ⟨by omega, by omega⟩ | (subst_vars; simp_all [uV]; done) | grind [uV]) (by first | assumption | omega | exact ⟨by omega, by omega⟩ | (subst_vars; simp_all [uV]; done) | grind [uV]) (by first | assumption | omega | exact ⟨by omega, by omega⟩ | (subst_vars; simp_all [uV]; done) | grind [uV]) (by first | assumption | omega | exact ⟨by omega, by omega⟩ | (subst_vars; simp_all [uV]; done) | grind [uV])) ?_
            refine T_pz0 d_X11_strikesOne_40 (fun h40 => ?_) (fun h40 => ?_)
            · skip
              refine F_incg d_X11_strikesOne_45 rfl (f := fun x_5 => [(0, vr 99), (1, vi x), (2, vi y), (3, vi k), (4, vi x_5)]) (fun _ => rfl) (fun x_5 ex_5 => ?_)
              refine T_go d_X11_strikesOne_48 ?_
              -- to 3 9f.19f.29f.40t@3
              obtain rfl : x_5 = ((g + 1) : Int) := by omega
              exact ih3 (g + 1) (by omega) (by first | assumption | omega) (up_all hno (decide_eq_false (fun z => h40 (by rw [(hf g (by omega) h19).1, (hf g (by omega) h19).2]; exact z.2.2))))
            · skip
              refine T_k d_X11_strikesOne_43 ?_
              -- leaf 9f.19f.29f.40f@44
              exact P_T d_X11_strikesOne_44 (by exact anyB_iff.mpr ⟨g, by omega, decide_eq_true ⟨h19, h29, by have z := h40; rw [(hf g (by omega) h19).1, (hf g (by omega) h19).2] at z; exact z⟩⟩)
  exact L3 _ (0) (Nat.lt_succ_self _) (by first | assumption | omega) (by first | assumption | omega)
set_option maxHeartbeats 1000000 in
set_option maxRecDepth 100000 in
theorem R_X11_frames {G : GG} {V : VV} {R : RR} {k : Int} {b : Bk} (hB : Bd V) (hF : FinR R) (bMV : bM b V) (hk : r32 k) : Runs G M_X11_frames 4 162 162 [vr 99, vi k] V R (PQ [(128, 129)] [(99, 45, 48)] V R (fun r X => r = none ∧ (∀ i, i < b.n → X 128 i = b.hx i ∧ X 129 i = b.hy i) ∧ ∃ c, isB (KK b k) 6724 c ∧ frV b k X c)) := by
  refine Runs.of pn_X11 (Nat.le_of_ble_eq_true rfl) rfl ?_
  show TT G M_X11_frames (rmd 4 162 162) 162 (Zm G 162 162 (PQ [(128, 129)] [(99, 45, 48)] V R (fun r X => r = none ∧ (∀ i, i < b.n → X 128 i = b.hx i ∧ X 129 i = b.hy i) ∧ ∃ c, isB (KK b k) 6724 c ∧ frV b k X c))) 162 0 [(0, vr 99), (1, vi k)] [] V R
  obtain ⟨hk1, hk2⟩ := hk
  have fV : chg [(128, 129)] [(99, 45, 48)] V V := chg_r
  have ho := bO_of bMV hB
  have hn4 := ho.n
  refine T_k d_X11_frames_0 ?_
  refine T_is d_X11_frames_1 (ls' := [(0, vr 99), (1, vi k), (2, vi 0)]) rfl ?_
  -- to 2 @2
  have L2 : ∀ (fu : Nat) (W : VV) (h : Nat), b.n - h < fu → (Bd W) → (chg [(128, 129)] [(99, 45, 48)] V W) → (h ≤ b.n) → (∀ i, i < h → W 128 i = b.hx i) → (∀ i, i < h → W 129 i = b.hy i) → TT G M_X11_frames (rmd 4 162 162) 162 (Zm G 162 162 (PQ [(128, 129)] [(99, 45, 48)] V R (fun r X => r = none ∧ (∀ i, i < b.n → X 128 i = b.hx i ∧ X 129 i = b.hy i) ∧ ∃ c, isB (KK b k) 6724 c ∧ frV b k X c))) 162 2 [(0, vr 99), (1, vi k), (2, vi (h : Int))] [] W R := by
    intro fu
    induction fu with
    | zero => intro W h hm; exact absurd hm (Nat.not_lt_zero _)
    | succ fu ih2 =>
      intro W h hm2 hBW fW hh hWx hWy
      have bMW := bM_c bMV fW rfl
      refine T_il d_X11_frames_2 rfl ?_
      refine T_al d_X11_frames_3 rfl ?_
      refine F_gi d_X11_frames_4 rfl hBW rfl (fun b_1 => ?_)
      rw [bMW.n]
      rw [bMW.n] at b_1
      refine T_ige d_X11_frames_7 ⟨by omega, by omega⟩ ⟨by omega, by omega⟩ (fun h7 => ?_) (fun h7 => ?_)
      · skip
        refine T_al d_X11_frames_40 rfl ?_
        refine T_k d_X11_frames_41 ?_
        refine F_pi d_X11_frames_42 rfl hBW rfl ⟨by omega, by omega⟩ (fun V_2 eV_2 hBV_2 => ?_)
        have fV_2 := chg_u eV_2 rfl fW
        have bMV_2 := bM_c bMV fV_2 rfl
        refine T_k d_X11_frames_45 ?_
        refine T_is d_X11_frames_46 (ls' := [(0, vr 99), (1, vi k), (2, vi 0)]) rfl ?_
        -- to 47 7t@47
        have L47 : ∀ (fu : Nat) (X : VV) (t : Nat), 4 - t < fu → (Bd X) → (chg [(128, 129)] [(99, 45, 48)] V X) → (t ≤ 4) → (∀ i, i < b.n → X 128 i = b.hx i ∧ X 129 i = b.hy i) → (bst b k X (t * 1681)) → TT G M_X11_frames (rmd 4 162 162) 162 (Zm G 162 162 (PQ [(128, 129)] [(99, 45, 48)] V R (fun r X => r = none ∧ (∀ i, i < b.n → X 128 i = b.hx i ∧ X 129 i = b.hy i) ∧ ∃ c, isB (KK b k) 6724 c ∧ frV b k X c))) 162 47 [(0, vr 99), (1, vi k), (2, vi (t : Int))] [] X R := by
          intro fu
          induction fu with
          | zero => intro X t hm; exact absurd hm (Nat.not_lt_zero _)
          | succ fu ih47 =>
            intro X t hm47 hBX fX ht hX sX
            have bMX := bM_c bMV fX rfl
            refine T_il d_X11_frames_47 rfl ?_
            refine T_k d_X11_frames_48 ?_
            refine T_ige d_X11_frames_49 ⟨by omega, by omega⟩ ⟨by omega, by omega⟩ (fun h49 => ?_) (fun h49 => ?_)
            · skip
              -- leaf 49t@233
              refine T_vret d_X11_frames_233 rfl ?_
              obtain rfl : t = 4 := by omega
              refine ⟨rfl, hBX, fX, rfl, hX, ?_⟩
              rcases sX with z | z
              · omega
              · exact z
            · skip
              refine T_k d_X11_frames_52 ?_
              refine T_is d_X11_frames_54 (ls' := [(0, vr 99), (1, vi k), (2, vi (t : Int)), (3, vi (-20))]) rfl ?_
              -- to 55 49f@55
              have L55 : ∀ (fu : Nat) (Y : VV) (x : Nat), 41 - x < fu → (Bd Y) → (chg [(128, 129)] [(99, 45, 48)] V Y) → (x ≤ 41) → (∀ i, i < b.n → Y 128 i = b.hx i ∧ Y 129 i = b.hy i) → (bst b k Y (t * 1681 + x * 41)) → TT G M_X11_frames (rmd 4 162 162) 162 (Zm G 162 162 (PQ [(128, 129)] [(99, 45, 48)] V R (fun r X => r = none ∧ (∀ i, i < b.n → X 128 i = b.hx i ∧ X 129 i = b.hy i) ∧ ∃ c, isB (KK b k) 6724 c ∧ frV b k X c))) 162 55 [(0, vr 99), (1, vi k), (2, vi (t : Int)), (3, vi ((x : Int) - 20))] [] Y R := by
                intro fu
                induction fu with
                | zero => intro Y x hm; exact absurd hm (Nat.not_lt_zero _)
                | succ fu ih55 =>
                  intro Y x hm55 hBY fY hx hY sY
                  have bMY := bM_c bMV fY rfl
                  refine T_il d_X11_frames_55 rfl ?_
                  refine T_k d_X11_frames_56 ?_
                  refine T_igt d_X11_frames_58 ⟨by omega, by omega⟩ ⟨by omega, by omega⟩ (fun h58 => ?_) (fun h58 => ?_)
                  · skip
                    refine F_incg d_X11_frames_227 rfl (f := fun x_3 => [(0, vr 99), (1, vi k), (2, vi x_3), (3, vi ((x : Int) - 20))]) (fun _ => rfl) (fun x_3 ex_3 => ?_)
                    refine T_go d_X11_frames_230 ?_
                    -- to 47 58t@47
                    refine T_subp (ks := [0, 1, 2]) (ls' := [(0, vr 99), (1, vi k), (2, vi x_3)]) rfl ?_
                    obtain rfl : x_3 = ((t + 1) : Int) := by omega
                    exact ih47 Y (t + 1) (by omega) hBY fY (by first | assumption | omega) (by first | assumption | omega) (by have e41 : x = 41 := (by omega); subst e41; rw [show (t + 1) * 1681 = t * 1681 + 41 * 41 by omega]; exact sY)
                  · skip
                    refine T_k d_X11_frames_61 ?_
                    refine T_is d_X11_frames_63 (ls' := [(0, vr 99), (1, vi k), (2, vi (t : Int)), (3, vi ((x : Int) - 20)), (4, vi (-20))]) rfl ?_
                    -- to 65 58f@65
                    have L65 : ∀ (fu : Nat) (Z : VV) (y : Nat), 41 - y < fu → (Bd Z) → (chg [(128, 129)] [(99, 45, 48)] V Z) → (y ≤ 41) → (∀ i, i < b.n → Z 128 i = b.hx i ∧ Z 129 i = b.hy i) → (bst b k Z (t * 1681 + x * 41 + y)) → TT G M_X11_frames (rmd 4 162 162) 162 (Zm G 162 162 (PQ [(128, 129)] [(99, 45, 48)] V R (fun r X => r = none ∧ (∀ i, i < b.n → X 128 i = b.hx i ∧ X 129 i = b.hy i) ∧ ∃ c, isB (KK b k) 6724 c ∧ frV b k X c))) 162 65 [(0, vr 99), (1, vi k), (2, vi (t : Int)), (3, vi ((x : Int) - 20)), (4, vi ((y : Int) - 20))] [] Z R := by
                      intro fu
                      induction fu with
                      | zero => intro Z y hm; exact absurd hm (Nat.not_lt_zero _)
                      | succ fu ih65 =>
                        intro Z y hm65 hBZ fZ hy hZ sZ
                        have bMZ := bM_c bMV fZ rfl
                        refine T_il d_X11_frames_65 rfl ?_
                        refine T_k d_X11_frames_67 ?_
                        refine T_igt d_X11_frames_69 ⟨by omega, by omega⟩ ⟨by omega, by omega⟩ (fun h69 => ?_) (fun h69 => ?_)
                        · skip
                          refine F_incg d_X11_frames_221 rfl (f := fun x_4 => [(0, vr 99), (1, vi k), (2, vi (t : Int)), (3, vi x_4), (4, vi ((y : Int) - 20))]) (fun _ => rfl) (fun x_4 ex_4 => ?_)
                          refine T_go d_X11_frames_224 ?_
                          -- to 55 69t@55
                          refine T_subp (ks := [0, 1, 2, 3]) (ls' := [(0, vr 99), (1, vi k), (2, vi (t : Int)), (3, vi x_4)]) rfl ?_
                          obtain rfl : x_4 = (((x + 1) : Int) - 20) := by omega
                          exact ih55 Z (x + 1) (by omega) hBZ fZ (by first | assumption | omega) (by first | assumption | omega) (by have e41 : y = 41 := (by omega); subst e41; rw [show t * 1681 + (x + 1) * 41 = t * 1681 + x * 41 + 41 by omega]; exact sZ)
                        · skip
                          refine T_k d_X11_frames_72 ?_
                          refine T_is d_X11_frames_73 (ls' := [(0, vr 99), (1, vi k), (2, vi (t : Int)), (3, vi ((x : Int) - 20)), (4, vi ((y : Int) - 20)), (5, vi 0)]) rfl ?_
                          refine T_k d_X11_frames_75 ?_
                          refine T_is d_X11_frames_76 (ls' := [(0, vr 99), (1, vi k), (2, vi (t : Int)), (3, vi ((x : Int) - 20)), (4, vi ((y : Int) - 20)), (5, vi 0), (6, vi 0)]) rfl ?_
                          -- to 78 69f@78
                          have L78 : ∀ (fu : Nat) (m h : Nat), b.n - h < fu → (h ≤ b.n) → (m = cntB (hitP b k (t : Int) ((x : Int) - 20) ((y : Int) - 20)) h) → TT G M_X11_frames (rmd 4 162 162) 162 (Zm G 162 162 (PQ [(128, 129)] [(99, 45, 48)] V R (fun r X => r = none ∧ (∀ i, i < b.n → X 128 i = b.hx i ∧ X 129 i = b.hy i) ∧ ∃ c, isB (KK b k) 6724 c ∧ frV b k X c))) 162 78 [(0, vr 99), (1, vi k), (2, vi (t : Int)), (3, vi ((x : Int) - 20)), (4, vi ((y : Int) - 20)), (5, vi (m : Int)), (6, vi (h : Int))] [] Z R := by
                            intro fu
                            induction fu with
                            | zero => intro m h hm; exact absurd hm (Nat.not_lt_zero _)
                            | succ fu ih78 =>
                              intro m h hm78 hh hm
                              refine T_il d_X11_frames_78 rfl ?_
                              refine T_al d_X11_frames_80 rfl ?_
                              refine F_gi d_X11_frames_81 rfl hBZ rfl (fun b_5 => ?_)
                              rw [bMZ.n]
                              rw [bMZ.n] at b_5
                              refine T_ige d_X11_frames_84 ⟨by omega, by omega⟩ ⟨by omega, by omega⟩ (fun h84 => ?_) (fun h84 => ?_)
                              · skip
                                have hmh : m ≤ h := by rw [hm]; exact cntB_le
                                refine T_il d_X11_frames_144 rfl ?_
                                refine T_al d_X11_frames_146 rfl ?_
                                refine F_gi d_X11_frames_147 rfl hBZ rfl (fun b_6 => ?_)
                                refine T_ilt d_X11_frames_150 ⟨by omega, by omega⟩ ⟨by omega, by omega⟩ (fun h150 => ?_) (fun h150 => ?_)
                                · skip
                                  refine F_incg d_X11_frames_215 rfl (f := fun x_7 => [(0, vr 99), (1, vi k), (2, vi (t : Int)), (3, vi ((x : Int) - 20)), (4, vi x_7), (5, vi (m : Int)), (6, vi (h : Int))]) (fun _ => rfl) (fun x_7 ex_7 => ?_)
                                  refine T_go d_X11_frames_218 ?_
                                  -- to 65 84t.150t@65
                                  refine T_subp (ks := [0, 1, 2, 3, 4]) (ls' := [(0, vr 99), (1, vi k), (2, vi (t : Int)), (3, vi ((x : Int) - 20)), (4, vi x_7)]) rfl ?_
                                  have hmn : (m : Int) = (hitN b k (t : Int) ((x : Int) - 20) ((y : Int) - 20) : Int) := by rw [hm, show h = b.n by omega]; rfl
                                  obtain rfl : x_7 = (((y + 1) : Int) - 20) := by omega
                                  exact ih65 Z (y + 1) (by omega) hBZ fZ (by first | assumption | omega) (by first | assumption | omega) (bst_s (by omega) (by omega) sZ hmn (Or.inl h150))
                                · skip
                                  refine T_il d_X11_frames_153 rfl ?_
                                  refine T_al d_X11_frames_155 rfl ?_
                                  refine F_gi d_X11_frames_156 rfl hBZ rfl (fun b_8 => ?_)
                                  refine T_ine d_X11_frames_159 ⟨by omega, by omega⟩ ⟨by omega, by omega⟩ (fun h159 => ?_) (fun h159 => ?_)
                                  · skip
                                    refine T_al d_X11_frames_193 rfl ?_
                                    refine T_il d_X11_frames_194 rfl ?_
                                    refine F_pi d_X11_frames_196 rfl hBZ rfl ⟨by omega, by omega⟩ (fun V_9 eV_9 hBV_9 => ?_)
                                    have fV_9 := chg_u eV_9 rfl fZ
                                    have bMV_9 := bM_c bMV fV_9 rfl
                                    refine T_al d_X11_frames_199 rfl ?_
                                    refine T_il d_X11_frames_200 rfl ?_
                                    refine F_pi d_X11_frames_201 rfl hBV_9 rfl ⟨by omega, by omega⟩ (fun V_10 eV_10 hBV_10 => ?_)
                                    have fV_10 := chg_u eV_10 rfl fV_9
                                    have bMV_10 := bM_c bMV fV_10 rfl
                                    refine T_al d_X11_frames_204 rfl ?_
                                    refine T_il d_X11_frames_205 rfl ?_
                                    refine F_pi d_X11_frames_206 rfl hBV_10 rfl ⟨by omega, by omega⟩ (fun V_11 eV_11 hBV_11 => ?_)
                                    have fV_11 := chg_u eV_11 rfl fV_10
                                    have bMV_11 := bM_c bMV fV_11 rfl
                                    refine T_al d_X11_frames_209 rfl ?_
                                    refine T_il d_X11_frames_210 rfl ?_
                                    refine F_pi d_X11_frames_212 rfl hBV_11 rfl ⟨by omega, by omega⟩ (fun V_12 eV_12 hBV_12 => ?_)
                                    have fV_12 := chg_u eV_12 rfl fV_11
                                    have bMV_12 := bM_c bMV fV_12 rfl
                                    refine F_incg d_X11_frames_215 rfl (f := fun x_13 => [(0, vr 99), (1, vi k), (2, vi (t : Int)), (3, vi ((x : Int) - 20)), (4, vi x_13), (5, vi (m : Int)), (6, vi (h : Int))]) (fun _ => rfl) (fun x_13 ex_13 => ?_)
                                    refine T_go d_X11_frames_218 ?_
                                    -- to 65 84t.150f.159t@65
                                    refine T_subp (ks := [0, 1, 2, 3, 4]) (ls' := [(0, vr 99), (1, vi k), (2, vi (t : Int)), (3, vi ((x : Int) - 20)), (4, vi x_13)]) rfl ?_
                                    have hmn : (m : Int) = (hitN b k (t : Int) ((x : Int) - 20) ((y : Int) - 20) : Int) := by rw [hm, show h = b.n by omega]; rfl
                                    obtain rfl : x_13 = (((y + 1) : Int) - 20) := by omega
                                    exact ih65 V_12 (y + 1) (by omega) hBV_12 fV_12 (by first | assumption | omega) (fun i hi => by rw [eV_12, eV_11, eV_10, eV_9]; exact hZ i hi) (bst_t (by omega) (by omega) sZ hmn (by omega) (fun z => absurd z h159) (by rw [eV_12, eV_11, eV_10]; rfl) (by rw [eV_12, eV_11]; rfl) (by rw [eV_12]; rfl) (by rw [eV_12, eV_11, eV_10, eV_9]; rfl))
                                  · skip
                                    refine T_il d_X11_frames_162 rfl ?_
                                    refine C_ps1 d_X11_frames_163 (hdF (by decide)) (hcF _) (R_X11_size (by first | assumption | omega | exact ⟨by omega, by omega⟩ | (subst_vars; simp_all [uV]; done) | grind [uV])) ?_
                                    refine T_il d_X11_frames_166 rfl ?_
                                    refine C_ps1 d_X11_frames_168 (hdF (by decide)) (hcF _) (R_X11_size (by first | assumption | omega | exact ⟨by omega, by omega⟩ | (subst_vars; simp_all [uV]; done) | grind [uV])) ?_
                                    refine T_iadd d_X11_frames_171 ?_
                                    refine T_al d_X11_frames_172 rfl ?_
                                    refine F_gi d_X11_frames_173 rfl hBZ rfl (fun b_14 => ?_)
                                    refine C_ps1 d_X11_frames_176 (hdF (by decide)) (hcF _) (R_X11_size (by first | assumption | omega | exact ⟨by omega, by omega⟩ | (subst_vars; simp_all [uV]; done) | grind [uV])) ?_
                                    refine T_al d_X11_frames_179 rfl ?_
                                    refine F_gi d_X11_frames_180 rfl hBZ rfl (fun b_15 => ?_)
                                    refine C_ps1 d_X11_frames_183 (hdF (by decide)) (hcF _) (R_X11_size (by first | assumption | omega | exact ⟨by omega, by omega⟩ | (subst_vars; simp_all [uV]; done) | grind [uV])) ?_
                                    refine T_iadd d_X11_frames_186 ?_
                                    refine T_ilt d_X11_frames_187 ⟨by omega, by omega⟩ ⟨by omega, by omega⟩ (fun h187 => ?_) (fun h187 => ?_)
                                    · skip
                                      refine T_al d_X11_frames_193 rfl ?_
                                      refine T_il d_X11_frames_194 rfl ?_
                                      refine F_pi d_X11_frames_196 rfl hBZ rfl ⟨by omega, by omega⟩ (fun V_16 eV_16 hBV_16 => ?_)
                                      have fV_16 := chg_u eV_16 rfl fZ
                                      have bMV_16 := bM_c bMV fV_16 rfl
                                      refine T_al d_X11_frames_199 rfl ?_
                                      refine T_il d_X11_frames_200 rfl ?_
                                      refine F_pi d_X11_frames_201 rfl hBV_16 rfl ⟨by omega, by omega⟩ (fun V_17 eV_17 hBV_17 => ?_)
                                      have fV_17 := chg_u eV_17 rfl fV_16
                                      have bMV_17 := bM_c bMV fV_17 rfl
                                      refine T_al d_X11_frames_204 rfl ?_
                                      refine T_il d_X11_frames_205 rfl ?_
                                      refine F_pi d_X11_frames_206 rfl hBV_17 rfl ⟨by omega, by omega⟩ (fun V_18 eV_18 hBV_18 => ?_)
                                      have fV_18 := chg_u eV_18 rfl fV_17
                                      have bMV_18 := bM_c bMV fV_18 rfl
                                      refine T_al d_X11_frames_209 rfl ?_
                                      refine T_il d_X11_frames_210 rfl ?_
                                      refine F_pi d_X11_frames_212 rfl hBV_18 rfl ⟨by omega, by omega⟩ (fun V_19 eV_19 hBV_19 => ?_)
                                      have fV_19 := chg_u eV_19 rfl fV_18
                                      have bMV_19 := bM_c bMV fV_19 rfl
                                      refine F_incg d_X11_frames_215 rfl (f := fun x_20 => [(0, vr 99), (1, vi k), (2, vi (t : Int)), (3, vi ((x : Int) - 20)), (4, vi x_20), (5, vi (m : Int)), (6, vi (h : Int))]) (fun _ => rfl) (fun x_20 ex_20 => ?_)
                                      refine T_go d_X11_frames_218 ?_
                                      -- to 65 84t.150f.159f.187t@65
                                      refine T_subp (ks := [0, 1, 2, 3, 4]) (ls' := [(0, vr 99), (1, vi k), (2, vi (t : Int)), (3, vi ((x : Int) - 20)), (4, vi x_20)]) rfl ?_
                                      have hmn : (m : Int) = (hitN b k (t : Int) ((x : Int) - 20) ((y : Int) - 20) : Int) := by rw [hm, show h = b.n by omega]; rfl
                                      obtain rfl : x_20 = (((y + 1) : Int) - 20) := by omega
                                      exact ih65 V_19 (y + 1) (by omega) hBV_19 fV_19 (by first | assumption | omega) (fun i hi => by rw [eV_19, eV_18, eV_17, eV_16]; exact hZ i hi) (bst_t (by omega) (by omega) sZ hmn (by omega) (fun _ => h187) (by rw [eV_19, eV_18, eV_17]; rfl) (by rw [eV_19, eV_18]; rfl) (by rw [eV_19]; rfl) (by rw [eV_19, eV_18, eV_17, eV_16]; rfl))
                                    · skip
                                      refine T_go d_X11_frames_190 ?_
                                      refine F_incg d_X11_frames_215 rfl (f := fun x_21 => [(0, vr 99), (1, vi k), (2, vi (t : Int)), (3, vi ((x : Int) - 20)), (4, vi x_21), (5, vi (m : Int)), (6, vi (h : Int))]) (fun _ => rfl) (fun x_21 ex_21 => ?_)
                                      refine T_go d_X11_frames_218 ?_
                                      -- to 65 84t.150f.159f.187f@65
                                      refine T_subp (ks := [0, 1, 2, 3, 4]) (ls' := [(0, vr 99), (1, vi k), (2, vi (t : Int)), (3, vi ((x : Int) - 20)), (4, vi x_21)]) rfl ?_
                                      have hmn : (m : Int) = (hitN b k (t : Int) ((x : Int) - 20) ((y : Int) - 20) : Int) := by rw [hm, show h = b.n by omega]; rfl
                                      obtain rfl : x_21 = (((y + 1) : Int) - 20) := by omega
                                      exact ih65 Z (y + 1) (by omega) hBZ fZ (by first | assumption | omega) (by first | assumption | omega) (bst_s (by omega) (by omega) sZ hmn (Or.inr ⟨by omega, by simp only [abI]; omega⟩))
                              · skip
                                refine T_al d_X11_frames_87 rfl ?_
                                refine F_gr (b := 100) d_X11_frames_88 rfl hF rfl ?_
                                refine T_il d_X11_frames_91 rfl ?_
                                refine F_ia d_X11_frames_93 rfl hBZ rfl ⟨by omega, by omega⟩ (fun b_22 => ?_)
                                rw [bMZ.dg]
                                rw [bMZ.dg] at b_22
                                try simp only [Int.toNat_natCast]
                                try simp only [Int.toNat_natCast] at b_22
                                refine T_k d_X11_frames_94 ?_
                                refine T_ine d_X11_frames_95 ⟨by omega, by omega⟩ ⟨by omega, by omega⟩ (fun h95 => ?_) (fun h95 => ?_)
                                · skip
                                  refine F_incg d_X11_frames_138 rfl (f := fun x_23 => [(0, vr 99), (1, vi k), (2, vi (t : Int)), (3, vi ((x : Int) - 20)), (4, vi ((y : Int) - 20)), (5, vi (m : Int)), (6, vi x_23)]) (fun _ => rfl) (fun x_23 ex_23 => ?_)
                                  refine T_go d_X11_frames_141 ?_
                                  -- to 78 84f.95t@78
                                  obtain rfl : x_23 = ((h + 1) : Int) := by omega
                                  exact ih78 (m) (h + 1) (by omega) (by first | assumption | omega) (by rw [cntB_f (fun z => h95 (hitP_iff.mp z).1.1)]; exact hm)
                                · skip
                                  refine T_al d_X11_frames_98 rfl ?_
                                  refine T_il d_X11_frames_99 rfl ?_
                                  refine T_il d_X11_frames_101 rfl ?_
                                  refine C_pv2 d_X11_frames_102 rfl (hdF (by decide)) (hcF _) (R_X11_isThere (by first | assumption | omega | exact ⟨by omega, by omega⟩ | (subst_vars; simp_all [uV]; done) | grind [uV]) (by first | assumption | omega | exact ⟨by omega, by omega⟩ | (subst_vars; simp_all [uV]; done) | grind [uV]) (by first | assumption | omega | exact ⟨by omega, by omega⟩ | (subst_vars; simp_all [uV]; done) | grind [uV]) (by first | assumption | omega | exact ⟨by omega, by omega⟩ | (subst_vars; simp_all [uV]; done) | grind [uV]) (by first | assumption | omega | exact ⟨by omega, by omega⟩ | (subst_vars; simp_all [uV]; done) | grind [uV])) ?_
                                  refine T_pz0 d_X11_frames_105 (fun h105 => ?_) (fun h105 => ?_)
                                  · skip
                                    refine F_incg d_X11_frames_138 rfl (f := fun x_24 => [(0, vr 99), (1, vi k), (2, vi (t : Int)), (3, vi ((x : Int) - 20)), (4, vi ((y : Int) - 20)), (5, vi (m : Int)), (6, vi x_24)]) (fun _ => rfl) (fun x_24 ex_24 => ?_)
                                    refine T_go d_X11_frames_141 ?_
                                    -- to 78 84f.95f.105t@78
                                    obtain rfl : x_24 = ((h + 1) : Int) := by omega
                                    exact ih78 (m) (h + 1) (by omega) (by first | assumption | omega) (by rw [cntB_f (fun z => h105 (hitP_iff.mp z).1.2)]; exact hm)
                                  · skip
                                    refine T_al d_X11_frames_108 rfl ?_
                                    refine T_al d_X11_frames_109 rfl ?_
                                    refine T_il d_X11_frames_110 rfl ?_
                                    refine T_il d_X11_frames_112 rfl ?_
                                    refine C_pv2 d_X11_frames_113 rfl (hdF (by decide)) (hcF _) (R_X11_turnedX hBZ hF bMZ (by omega) (by omega)) ?_
                                    refine T_il d_X11_frames_116 rfl ?_
                                    refine T_iadd d_X11_frames_117 ?_
                                    refine T_al d_X11_frames_118 rfl ?_
                                    refine T_il d_X11_frames_119 rfl ?_
                                    refine T_il d_X11_frames_121 rfl ?_
                                    refine C_pv2 d_X11_frames_122 rfl (hdF (by decide)) (hcF _) (R_X11_turnedY hBZ hF bMZ (by omega) (by omega)) ?_
                                    refine T_il d_X11_frames_125 rfl ?_
                                    refine T_iadd d_X11_frames_127 ?_
                                    refine T_il d_X11_frames_128 rfl ?_
                                    refine C_pv3 d_X11_frames_129 rfl (hdF (by decide)) (hcF _) (R_X11_strikesOne hBZ hF bMZ (by have := tX_b (h := h) (t := (t : Int)) ho; omega) (by have := tY_b (h := h) (t := (t : Int)) ho; omega) ⟨hk1, hk2⟩ (fun g hg _ => hZ g hg)) ?_
                                    refine T_pz0 d_X11_frames_132 (fun h132 => ?_) (fun h132 => ?_)
                                    · skip
                                      refine F_incg d_X11_frames_138 rfl (f := fun x_25 => [(0, vr 99), (1, vi k), (2, vi (t : Int)), (3, vi ((x : Int) - 20)), (4, vi ((y : Int) - 20)), (5, vi (m : Int)), (6, vi x_25)]) (fun _ => rfl) (fun x_25 ex_25 => ?_)
                                      refine T_go d_X11_frames_141 ?_
                                      -- to 78 84f.95f.105f.132t@78
                                      obtain rfl : x_25 = ((h + 1) : Int) := by omega
                                      exact ih78 (m) (h + 1) (by omega) (by first | assumption | omega) (by rw [cntB_f (fun z => h132 (hitP_iff.mp z).2)]; exact hm)
                                    · skip
                                      refine F_incg d_X11_frames_135 rfl (f := fun x_26 => [(0, vr 99), (1, vi k), (2, vi (t : Int)), (3, vi ((x : Int) - 20)), (4, vi ((y : Int) - 20)), (5, vi x_26), (6, vi (h : Int))]) (fun _ => rfl) (fun x_26 ex_26 => ?_)
                                      refine F_incg d_X11_frames_138 rfl (f := fun x_27 => [(0, vr 99), (1, vi k), (2, vi (t : Int)), (3, vi ((x : Int) - 20)), (4, vi ((y : Int) - 20)), (5, vi x_26), (6, vi x_27)]) (fun _ => rfl) (fun x_27 ex_27 => ?_)
                                      refine T_go d_X11_frames_141 ?_
                                      -- to 78 84f.95f.105f.132f@78
                                      obtain rfl : x_26 = ((m + 1) : Int) := by omega
                                      obtain rfl : x_27 = ((h + 1) : Int) := by omega
                                      exact ih78 (m + 1) (h + 1) (by omega) (by first | assumption | omega) (by rw [cntB_t (hitP_iff.mpr ⟨⟨h95, h105⟩, h132⟩), ← hm])
                          exact L78 _ (0) (0) (Nat.lt_succ_self _) (by first | assumption | omega) rfl
                    exact L65 _ Y (0) (Nat.lt_succ_self _) hBY fY (by first | assumption | omega) (by first | assumption | omega) (by simpa using sY)
              exact L55 _ X (0) (Nat.lt_succ_self _) hBX fX (by first | assumption | omega) (by first | assumption | omega) (by simpa using sX)
        exact L47 _ V_2 (0) (Nat.lt_succ_self _) hBV_2 fV_2 (by first | assumption | omega) (fun i hi => by rw [eV_2]; exact ⟨hWx i (by omega), hWy i (by omega)⟩) (Or.inl ⟨rfl, by rw [eV_2]; rfl⟩)
      · skip
        refine T_al d_X11_frames_10 rfl ?_
        refine F_gr (b := 128) d_X11_frames_11 rfl hF rfl ?_
        refine T_il d_X11_frames_14 rfl ?_
        refine T_al d_X11_frames_15 rfl ?_
        refine F_gr (b := 101) d_X11_frames_16 rfl hF rfl ?_
        refine T_il d_X11_frames_19 rfl ?_
        refine F_ia d_X11_frames_20 rfl hBW rfl ⟨by omega, by omega⟩ (fun b_28 => ?_)
        rw [bMW.hx]
        rw [bMW.hx] at b_28
        try simp only [Int.toNat_natCast]
        try simp only [Int.toNat_natCast] at b_28
        refine F_is d_X11_frames_21 rfl hBW rfl ⟨by omega, by omega⟩ ⟨by omega, by omega⟩ (fun V_29 eV_29 hBV_29 => ?_)
        have fV_29 := chg_u eV_29 rfl fW
        have bMV_29 := bM_c bMV fV_29 rfl
        refine T_al d_X11_frames_22 rfl ?_
        refine F_gr (b := 129) d_X11_frames_23 rfl hF rfl ?_
        refine T_il d_X11_frames_26 rfl ?_
        refine T_al d_X11_frames_27 rfl ?_
        refine F_gr (b := 102) d_X11_frames_28 rfl hF rfl ?_
        refine T_il d_X11_frames_31 rfl ?_
        refine F_ia d_X11_frames_32 rfl hBV_29 rfl ⟨by omega, by omega⟩ (fun b_30 => ?_)
        rw [bMV_29.hy]
        rw [bMV_29.hy] at b_30
        try simp only [Int.toNat_natCast]
        try simp only [Int.toNat_natCast] at b_30
        refine F_is d_X11_frames_33 rfl hBV_29 rfl ⟨by omega, by omega⟩ ⟨by omega, by omega⟩ (fun V_31 eV_31 hBV_31 => ?_)
        have fV_31 := chg_u eV_31 rfl fV_29
        have bMV_31 := bM_c bMV fV_31 rfl
        refine F_incg d_X11_frames_34 rfl (f := fun x_32 => [(0, vr 99), (1, vi k), (2, vi x_32)]) (fun _ => rfl) (fun x_32 ex_32 => ?_)
        refine T_go d_X11_frames_37 ?_
        -- to 2 7f@2
        obtain rfl : x_32 = ((h + 1) : Int) := by omega
        exact ih2 V_31 (h + 1) (by omega) hBV_31 fV_31 (by first | assumption | omega) (fun i hi => by rw [eV_31]; exact row_s eV_29 rfl hWx i hi) (row_s eV_31 rfl (fun i hi => by rw [eV_29]; exact hWy i hi))
  exact L2 _ V (0) (Nat.lt_succ_self _) hB fV (by first | assumption | omega) (fun i hi => absurd hi (Nat.not_lt_zero _)) (fun i hi => absurd hi (Nat.not_lt_zero _))
