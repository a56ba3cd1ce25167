/-! what the class makes of what is told -/
def LR (V : VV) : Prop := V 2 1 = 40 ∧ V 4 1 = 60 ∧ V 6 1 = 20 ∧ V 8 1 = 20 ∧ V 10 1 = 60 ∧ V 12 1 = 60 ∧ V 2 2 ≤ 40 ∧ V 6 2 ≤ 20 ∧ V 8 2 ≤ 20
def QU (R : RR) (W : VV) : Option AV → VV → RR → Prop := fun r V' R' => r = none ∧ V' = W ∧ R = R' ∧ Bd V'
def addV (V : VV) (t c : Nat) (x1 x2 x3 x4 x5 : Int) : VV := uV (uV (uV (uV (uV (uV V c (V t 2 * 5).toNat x1) c (V t 2 * 5 + 1).toNat x2) c (V t 2 * 5 + 2).toNat x3) c (V t 2 * 5 + 3).toNat x4) c (V t 2 * 5 + 4).toNat x5) t 2 (V t 2 + 1)
def markV (V : VV) (k : Int) : VV := uV V 15 k.toNat 1
def forgV (V : VV) (b : Int) : VV := uV V 30 8 (if b < V 30 8 then b else V 30 8)
abbrev hasC (V : VV) (h : Int) : Prop := 0 ≤ h ∧ h < V 2 2
set_option maxHeartbeats 1000000 in
set_option maxRecDepth 100000 in
theorem R_X10_isIn {G : GG} {V : VV} {R : RR} {n : Int} {low : Int} {high : Int}  (hn : r32 n) (hlow : r32 low) (hhigh : r32 high) : RunsP G M_X10_isIn 1 [vi n, vi low, vi high] V R (vi (bi (decide (low ≤ n ∧ n ≤ high)))) := by
  unfold RunsP
  refine Runs.of pn_X10 (Nat.le_of_ble_eq_true rfl) rfl ?_
  show TT G M_X10_isIn (rmd 1 162 162) 162 (Zm G 162 162 (QP V R (vi (bi (decide (low ≤ n ∧ n ≤ high)))))) 162 0 [(0, vi n), (1, vi low), (2, vi high)] [] V R
  obtain ⟨hn1, hn2⟩ := hn
  obtain ⟨hlow1, hlow2⟩ := hlow
  obtain ⟨hhigh1, hhigh2⟩ := hhigh
  refine T_il d_X10_isIn_0 rfl ?_
  refine T_il d_X10_isIn_1 rfl ?_
  refine T_ilt d_X10_isIn_2 ⟨by omega, by omega⟩ ⟨by omega, by omega⟩ (fun h2 => ?_) (fun h2 => ?_)
  · skip
    refine T_k d_X10_isIn_14 ?_
    -- leaf 2t@15
    exact P_F d_X10_isIn_15 (by first | omega | grind)
  · skip
    refine T_il d_X10_isIn_5 rfl ?_
    refine T_il d_X10_isIn_6 rfl ?_
    refine T_igt d_X10_isIn_7 ⟨by omega, by omega⟩ ⟨by omega, by omega⟩ (fun h7 => ?_) (fun h7 => ?_)
    · skip
      refine T_k d_X10_isIn_14 ?_
      -- leaf 2f.7t@15
      exact P_F d_X10_isIn_15 (by first | omega | grind)
    · skip
      refine T_k d_X10_isIn_10 ?_
      refine T_go d_X10_isIn_11 ?_
      -- leaf 2f.7f@15
      exact P_T d_X10_isIn_15 (by first | omega | grind)
set_option maxHeartbeats 1000000 in
set_option maxRecDepth 100000 in
theorem R_X10_isWeek {G : GG} {V : VV} {R : RR} {n : Int}  (hn : r32 n) : RunsP G M_X10_isWeek 2 [vi n] V R (vi (bi (decide (0 ≤ n ∧ n ≤ 400)))) := by
  unfold RunsP
  refine Runs.of pn_X10 (Nat.le_of_ble_eq_true rfl) rfl ?_
  show TT G M_X10_isWeek (rmd 2 162 162) 162 (Zm G 162 162 (QP V R (vi (bi (decide (0 ≤ n ∧ n ≤ 400)))))) 162 0 [(0, vi n)] [] V R
  obtain ⟨hn1, hn2⟩ := hn
  refine T_il d_X10_isWeek_0 rfl ?_
  refine T_k d_X10_isWeek_1 ?_
  refine T_k d_X10_isWeek_2 ?_
  refine C_ps3 d_X10_isWeek_5 (hdF (by decide)) (hcF _) (R_X10_isIn (by first | assumption | omega | exact ⟨by omega, by omega⟩ | (subst_vars; simp_all [uV]; done) | grind [uV]) (by first | assumption | omega | exact ⟨by omega, by omega⟩ | (subst_vars; simp_all [uV]; done) | grind [uV]) (by first | assumption | omega | exact ⟨by omega, by omega⟩ | (subst_vars; simp_all [uV]; done) | grind [uV])) ?_
  -- leaf @8
  exact P_B d_X10_isWeek_8 (by first | omega | grind)
set_option maxHeartbeats 1000000 in
set_option maxRecDepth 100000 in
theorem R_X10_isInField {G : GG} {V : VV} {R : RR} {x : Int} {y : Int}  (hx : r32 x) (hy : r32 y) : RunsP G M_X10_isInField 2 [vi x, vi y] V R (vi (bi (decide ((0 ≤ x ∧ x ≤ 499) ∧ 0 ≤ y ∧ y ≤ 499)))) := by
  unfold RunsP
  refine Runs.of pn_X10 (Nat.le_of_ble_eq_true rfl) rfl ?_
  show TT G M_X10_isInField (rmd 2 162 162) 162 (Zm G 162 162 (QP V R (vi (bi (decide ((0 ≤ x ∧ x ≤ 499) ∧ 0 ≤ y ∧ y ≤ 499)))))) 162 0 [(0, vi x), (1, vi y)] [] V R
  obtain ⟨hx1, hx2⟩ := hx
  obtain ⟨hy1, hy2⟩ := hy
  refine T_il d_X10_isInField_0 rfl ?_
  refine T_k d_X10_isInField_1 ?_
  refine T_k d_X10_isInField_2 ?_
  refine C_ps3 d_X10_isInField_5 (hdF (by decide)) (hcF _) (R_X10_isIn (by first | assumption | omega | exact ⟨by omega, by omega⟩ | (subst_vars; simp_all [uV]; done) | grind [uV]) (by first | assumption | omega | exact ⟨by omega, by omega⟩ | (subst_vars; simp_all [uV]; done) | grind [uV]) (by first | assumption | omega | exact ⟨by omega, by omega⟩ | (subst_vars; simp_all [uV]; done) | grind [uV])) ?_
  refine T_pz0 d_X10_isInField_8 (fun h8 => ?_) (fun h8 => ?_)
  · skip
    refine T_k d_X10_isInField_26 ?_
    -- leaf 8t@27
    exact P_F d_X10_isInField_27 (by first | omega | grind)
  · skip
    refine T_il d_X10_isInField_11 rfl ?_
    refine T_k d_X10_isInField_12 ?_
    refine T_k d_X10_isInField_13 ?_
    refine C_ps3 d_X10_isInField_16 (hdF (by decide)) (hcF _) (R_X10_isIn (by first | assumption | omega | exact ⟨by omega, by omega⟩ | (subst_vars; simp_all [uV]; done) | grind [uV]) (by first | assumption | omega | exact ⟨by omega, by omega⟩ | (subst_vars; simp_all [uV]; done) | grind [uV]) (by first | assumption | omega | exact ⟨by omega, by omega⟩ | (subst_vars; simp_all [uV]; done) | grind [uV])) ?_
    refine T_pz0 d_X10_isInField_19 (fun h19 => ?_) (fun h19 => ?_)
    · skip
      refine T_k d_X10_isInField_26 ?_
      -- leaf 8f.19t@27
      exact P_F d_X10_isInField_27 (by first | omega | grind)
    · skip
      refine T_k d_X10_isInField_22 ?_
      refine T_go d_X10_isInField_23 ?_
      -- leaf 8f.19f@27
      exact P_T d_X10_isInField_27 (by first | omega | grind)
set_option maxHeartbeats 1000000 in
set_option maxRecDepth 100000 in
theorem R_X10_isPlot {G : GG} {V : VV} {R : RR} {x : Int} {y : Int} {u : Int} {v : Int}  (hx : r32 x) (hy : r32 y) (hu : r32 u) (hv : r32 v) : RunsP G M_X10_isPlot 3 [vi x, vi y, vi u, vi v] V R (vi (bi (decide (boxP x y u v)))) := by
  unfold RunsP
  refine Runs.of pn_X10 (Nat.le_of_ble_eq_true rfl) rfl ?_
  show TT G M_X10_isPlot (rmd 3 162 162) 162 (Zm G 162 162 (QP V R (vi (bi (decide (boxP x y u v)))))) 162 0 [(0, vi x), (1, vi y), (2, vi u), (3, vi v)] [] V R
  obtain ⟨hx1, hx2⟩ := hx
  obtain ⟨hy1, hy2⟩ := hy
  obtain ⟨hu1, hu2⟩ := hu
  obtain ⟨hv1, hv2⟩ := hv
  refine T_il d_X10_isPlot_0 rfl ?_
  refine T_il d_X10_isPlot_1 rfl ?_
  refine C_ps2 d_X10_isPlot_2 (hdF (by decide)) (hcF _) (R_X10_isInField (by first | assumption | omega | exact ⟨by omega, by omega⟩ | (subst_vars; simp_all [uV]; done) | grind [uV]) (by first | assumption | omega | exact ⟨by omega, by omega⟩ | (subst_vars; simp_all [uV]; done) | grind [uV])) ?_
  refine T_pz0 d_X10_isPlot_5 (fun h5 => ?_) (fun h5 => ?_)
  · skip
    refine T_k d_X10_isPlot_30 ?_
    -- leaf 5t@31
    exact P_F d_X10_isPlot_31 (by first | omega | grind)
  · skip
    refine T_il d_X10_isPlot_8 rfl ?_
    refine T_il d_X10_isPlot_9 rfl ?_
    refine C_ps2 d_X10_isPlot_10 (hdF (by decide)) (hcF _) (R_X10_isInField (by first | assumption | omega | exact ⟨by omega, by omega⟩ | (subst_vars; simp_all [uV]; done) | grind [uV]) (by first | assumption | omega | exact ⟨by omega, by omega⟩ | (subst_vars; simp_all [uV]; done) | grind [uV])) ?_
    refine T_pz0 d_X10_isPlot_13 (fun h13 => ?_) (fun h13 => ?_)
    · skip
      refine T_k d_X10_isPlot_30 ?_
      -- leaf 5f.13t@31
      exact P_F d_X10_isPlot_31 (by first | omega | grind)
    · skip
      refine T_il d_X10_isPlot_16 rfl ?_
      refine T_il d_X10_isPlot_17 rfl ?_
      refine T_igt d_X10_isPlot_18 ⟨by omega, by omega⟩ ⟨by omega, by omega⟩ (fun h18 => ?_) (fun h18 => ?_)
      · skip
        refine T_k d_X10_isPlot_30 ?_
        -- leaf 5f.13f.18t@31
        exact P_F d_X10_isPlot_31 (by first | omega | grind)
      · skip
        refine T_il d_X10_isPlot_21 rfl ?_
        refine T_il d_X10_isPlot_22 rfl ?_
        refine T_igt d_X10_isPlot_23 ⟨by omega, by omega⟩ ⟨by omega, by omega⟩ (fun h23 => ?_) (fun h23 => ?_)
        · skip
          refine T_k d_X10_isPlot_30 ?_
          -- leaf 5f.13f.18f.23t@31
          exact P_F d_X10_isPlot_31 (by first | omega | grind)
        · skip
          refine T_k d_X10_isPlot_26 ?_
          refine T_go d_X10_isPlot_27 ?_
          -- leaf 5f.13f.18f.23f@31
          exact P_T d_X10_isPlot_31 (by first | omega | grind)
set_option maxHeartbeats 1000000 in
set_option maxRecDepth 100000 in
theorem R_X10_refuse {G : GG} {V : VV} {R : RR} {w : Int}  (hB : Bd V) (hF : FinR R) (hw : r32 w) (hw6 : -6 ≤ w ∧ w ≤ 0) : Runs G M_X10_refuse 1 162 162 [vr 0, vi w] V R (QV R (w) (uV V 0 3 w)) := by
  refine Runs.of pn_X10 (Nat.le_of_ble_eq_true rfl) rfl ?_
  show TT G M_X10_refuse (rmd 1 162 162) 162 (Zm G 162 162 (QV R (w) (uV V 0 3 w))) 162 0 [(0, vr 0), (1, vi w)] [] V R
  obtain ⟨hw1, hw2⟩ := hw
  refine T_al d_X10_refuse_0 rfl ?_
  refine T_il d_X10_refuse_1 rfl ?_
  refine F_pi d_X10_refuse_2 rfl hB rfl ⟨by omega, by omega⟩ (fun V_1 eV_1 hBV_1 => ?_)
  refine T_il d_X10_refuse_5 rfl ?_
  -- leaf @6
  refine T_iret d_X10_refuse_6 rfl ?_
  refine ⟨?_, ?_, rfl, hBV_1⟩
  · first | grind | (subst_vars; simp_all [addV, markV, forgV, uV]; done) | (subst_vars; simp_all [addV, markV, forgV, uV]; omega)
  · subst_vars
    first | grind | (simp_all [addV, markV, forgV, uV]; done) | (funext a i; simp_all [addV, markV, forgV, uV]; done)
set_option maxHeartbeats 1000000 in
set_option maxRecDepth 100000 in
theorem R_X10_accept {G : GG} {V : VV} {R : RR} {x : Int}  (hB : Bd V) (hF : FinR R) (hx : r32 x) : Runs G M_X10_accept 1 162 162 [vr 0, vi x] V R (QV R (x) (uV V 0 3 0)) := by
  refine Runs.of pn_X10 (Nat.le_of_ble_eq_true rfl) rfl ?_
  show TT G M_X10_accept (rmd 1 162 162) 162 (Zm G 162 162 (QV R (x) (uV V 0 3 0))) 162 0 [(0, vr 0), (1, vi x)] [] V R
  obtain ⟨hx1, hx2⟩ := hx
  refine T_al d_X10_accept_0 rfl ?_
  refine T_k d_X10_accept_1 ?_
  refine F_pi d_X10_accept_2 rfl hB rfl ⟨by omega, by omega⟩ (fun V_1 eV_1 hBV_1 => ?_)
  refine T_il d_X10_accept_5 rfl ?_
  -- leaf @6
  refine T_iret d_X10_accept_6 rfl ?_
  refine ⟨?_, ?_, rfl, hBV_1⟩
  · first | grind | (subst_vars; simp_all [addV, markV, forgV, uV]; done) | (subst_vars; simp_all [addV, markV, forgV, uV]; omega)
  · subst_vars
    first | grind | (simp_all [addV, markV, forgV, uV]; done) | (funext a i; simp_all [addV, markV, forgV, uV]; done)
set_option maxHeartbeats 1000000 in
set_option maxRecDepth 100000 in
theorem R_X9_forget {G : GG} {V : VV} {R : RR} {b : Int}  (hB : Bd V) (hF : FinR R) (hb : 0 ≤ b ∧ b ≤ 5) : Runs G M_X9_forget 1 162 162 [vr 30, vi b] V R (QU R (forgV V b)) := by
  refine Runs.of pn_X9 (Nat.le_of_ble_eq_true rfl) rfl ?_
  show TT G M_X9_forget (rmd 1 162 162) 162 (Zm G 162 162 (QU R (forgV V b))) 162 0 [(0, vr 30), (1, vi b)] [] V R
  refine T_al d_X9_forget_0 rfl ?_
  refine T_al d_X9_forget_1 rfl ?_
  refine F_gi d_X9_forget_2 rfl hB rfl (fun b_1 => ?_)
  refine T_il d_X9_forget_5 rfl ?_
  refine T_mmin d_X9_forget_6 ⟨by omega, by omega⟩ ⟨by omega, by omega⟩ (Nat.le_of_ble_eq_true rfl) (hmF _) ?_
  refine F_pi d_X9_forget_9 rfl hB rfl ⟨by omega, by omega⟩ (fun V_2 eV_2 hBV_2 => ?_)
  -- leaf @12
  refine T_vret d_X9_forget_12 rfl ?_
  refine ⟨rfl, ?_, rfl, hBV_2⟩
  subst_vars
  first | grind | (simp_all [addV, markV, forgV, uV]; done) | (funext a i; simp_all [addV, markV, forgV, uV]; done)
set_option maxHeartbeats 1000000 in
set_option maxRecDepth 100000 in
theorem R_X5_isFull_2 {G : GG} {V : VV} {R : RR}   (hB : Bd V) (hF : FinR R) : RunsP G M_X5_isFull 1 [vr 2] V R (vi (bi (decide (V 2 1 ≤ V 2 2)))) := by
  unfold RunsP
  refine Runs.of pn_X5 (Nat.le_of_ble_eq_true rfl) rfl ?_
  show TT G M_X5_isFull (rmd 1 162 162) 162 (Zm G 162 162 (QP V R (vi (bi (decide (V 2 1 ≤ V 2 2)))))) 162 0 [(0, vr 2)] [] V R
  refine T_al d_X5_isFull_0 rfl ?_
  refine F_gi d_X5_isFull_1 rfl hB rfl (fun b_1 => ?_)
  refine T_al d_X5_isFull_4 rfl ?_
  refine F_gi d_X5_isFull_5 rfl hB rfl (fun b_2 => ?_)
  refine T_ilt d_X5_isFull_8 ⟨by omega, by omega⟩ ⟨by omega, by omega⟩ (fun h8 => ?_) (fun h8 => ?_)
  · skip
    refine T_k d_X5_isFull_15 ?_
    -- leaf 8t@16
    exact P_F d_X5_isFull_16 (by first | omega | grind)
  · skip
    refine T_k d_X5_isFull_11 ?_
    refine T_go d_X5_isFull_12 ?_
    -- leaf 8f@16
    exact P_T d_X5_isFull_16 (by first | omega | grind)
set_option maxHeartbeats 1000000 in
set_option maxRecDepth 100000 in
theorem R_X5_add_2 {G : GG} {V : VV} {R : RR} {x1 : Int} {x2 : Int} {x3 : Int} {x4 : Int} {x5 : Int}  (hB : Bd V) (hF : FinR R) (hrm : V 2 1 = 40) (hsz : V 2 2 < 40) (hx : (-600 ≤ x1 ∧ x1 ≤ 1099) ∧ (-600 ≤ x2 ∧ x2 ≤ 1099) ∧ (-600 ≤ x3 ∧ x3 ≤ 1099) ∧ (-600 ≤ x4 ∧ x4 ≤ 1099) ∧ (-600 ≤ x5 ∧ x5 ≤ 1099)) : Runs G M_X5_add 2 162 162 [vr 2, vi x1, vi x2, vi x3, vi x4, vi x5] V R (QU R (addV V 2 3 x1 x2 x3 x4 x5)) := by
  refine Runs.of pn_X5 (Nat.le_of_ble_eq_true rfl) rfl ?_
  show TT G M_X5_add (rmd 2 162 162) 162 (Zm G 162 162 (QU R (addV V 2 3 x1 x2 x3 x4 x5))) 162 0 [(0, vr 2), (1, vi x1), (2, vi x2), (3, vi x3), (4, vi x4), (5, vi x5)] [] V R
  refine T_al d_X5_add_0 rfl ?_
  refine C_pv0 d_X5_add_1 rfl (hdF (by decide)) (hcF _) (R_X5_isFull_2 (by first | assumption | omega | exact ⟨by omega, by omega⟩ | (subst_vars; simp_all [uV]; done) | grind [uV]) (by first | assumption | omega | exact ⟨by omega, by omega⟩ | (subst_vars; simp_all [uV]; done) | grind [uV])) ?_
  refine T_pz0 d_X5_add_4 (fun h4 => ?_) (fun h4 => ?_)
  · skip
    refine T_al d_X5_add_8 rfl ?_
    refine F_gi d_X5_add_9 rfl hB rfl (fun b_1 => ?_)
    refine T_k d_X5_add_12 ?_
    refine T_imul d_X5_add_13 ?_
    refine F_isg d_X5_add_14 (f := fun x_2 => [(0, vr 2), (1, vi x1), (2, vi x2), (3, vi x3), (4, vi x4), (5, vi x5), (6, vi x_2)]) (fun _ => rfl) (fun x_2 ex_2 => ?_)
    refine T_al d_X5_add_16 rfl ?_
    refine F_gr (b := 3) d_X5_add_17 rfl hF rfl ?_
    refine T_il d_X5_add_20 rfl ?_
    refine T_il d_X5_add_22 rfl ?_
    refine F_is d_X5_add_23 rfl hB rfl ⟨by omega, by omega⟩ ⟨by omega, by omega⟩ (fun V_3 eV_3 hBV_3 => ?_)
    refine T_al d_X5_add_24 rfl ?_
    refine F_gr (b := 3) d_X5_add_25 rfl hF rfl ?_
    refine T_il d_X5_add_28 rfl ?_
    refine T_k d_X5_add_30 ?_
    refine T_iadd d_X5_add_31 ?_
    refine T_il d_X5_add_32 rfl ?_
    refine F_is d_X5_add_33 rfl hBV_3 rfl ⟨by omega, by omega⟩ ⟨by omega, by omega⟩ (fun V_4 eV_4 hBV_4 => ?_)
    refine T_al d_X5_add_34 rfl ?_
    refine F_gr (b := 3) d_X5_add_35 rfl hF rfl ?_
    refine T_il d_X5_add_38 rfl ?_
    refine T_k d_X5_add_40 ?_
    refine T_iadd d_X5_add_41 ?_
    refine T_il d_X5_add_42 rfl ?_
    refine F_is d_X5_add_43 rfl hBV_4 rfl ⟨by omega, by omega⟩ ⟨by omega, by omega⟩ (fun V_5 eV_5 hBV_5 => ?_)
    refine T_al d_X5_add_44 rfl ?_
    refine F_gr (b := 3) d_X5_add_45 rfl hF rfl ?_
    refine T_il d_X5_add_48 rfl ?_
    refine T_k d_X5_add_50 ?_
    refine T_iadd d_X5_add_51 ?_
    refine T_il d_X5_add_52 rfl ?_
    refine F_is d_X5_add_54 rfl hBV_5 rfl ⟨by omega, by omega⟩ ⟨by omega, by omega⟩ (fun V_6 eV_6 hBV_6 => ?_)
    refine T_al d_X5_add_55 rfl ?_
    refine F_gr (b := 3) d_X5_add_56 rfl hF rfl ?_
    refine T_il d_X5_add_59 rfl ?_
    refine T_k d_X5_add_61 ?_
    refine T_iadd d_X5_add_62 ?_
    refine T_il d_X5_add_63 rfl ?_
    refine F_is d_X5_add_65 rfl hBV_6 rfl ⟨by omega, by omega⟩ ⟨by omega, by omega⟩ (fun V_7 eV_7 hBV_7 => ?_)
    refine T_al d_X5_add_66 rfl ?_
    refine T_dup d_X5_add_67 rfl ?_
    refine F_gi d_X5_add_68 rfl hBV_7 rfl (fun b_8 => ?_)
    have fV_7_2_2 : V_7 2 2 = V 2 2 := by rw [eV_7, eV_6, eV_5, eV_4, eV_3]; rfl
    refine T_k d_X5_add_71 ?_
    refine T_iadd d_X5_add_72 ?_
    refine F_pi d_X5_add_73 rfl hBV_7 rfl ⟨by omega, by omega⟩ (fun V_9 eV_9 hBV_9 => ?_)
    -- leaf 4t@76
    refine T_vret d_X5_add_76 rfl ?_
    refine ⟨rfl, ?_, rfl, hBV_9⟩
    subst_vars
    first | grind | (simp_all [addV, markV, forgV, uV]; done) | (funext a i; simp_all [addV, markV, forgV, uV]; done)
  · skip
    -- leaf 4f@7
    refine T_vret d_X5_add_7 rfl ?_
    exfalso; omega
set_option maxHeartbeats 1000000 in
set_option maxRecDepth 100000 in
theorem R_X5_get_2 {G : GG} {V : VV} {R : RR} {r : Int} {c : Int}  (hB : Bd V) (hF : FinR R) (hr : r32 r) (hc : r32 c) (hrm : V 2 2 ≤ 40) : RunsP G M_X5_get 1 [vr 2, vi r, vi c] V R (vi (if 0 ≤ r ∧ r < V 2 2 ∧ 0 ≤ c ∧ c < 5 then V 3 (r * 5 + c).toNat else 0)) := by
  unfold RunsP
  refine Runs.of pn_X5 (Nat.le_of_ble_eq_true rfl) rfl ?_
  show TT G M_X5_get (rmd 1 162 162) 162 (Zm G 162 162 (QP V R (vi (if 0 ≤ r ∧ r < V 2 2 ∧ 0 ≤ c ∧ c < 5 then V 3 (r * 5 + c).toNat else 0)))) 162 0 [(0, vr 2), (1, vi r), (2, vi c)] [] V R
  obtain ⟨hr1, hr2⟩ := hr
  obtain ⟨hc1, hc2⟩ := hc
  refine T_il d_X5_get_0 rfl ?_
  refine T_zlt d_X5_get_1 ⟨by omega, by omega⟩ (fun h1 => ?_) (fun h1 => ?_)
  · skip
    refine T_k d_X5_get_25 ?_
    refine T_is d_X5_get_26 (ls' := [(0, vr 2), (1, vi r), (2, vi c), (3, vi 0)]) rfl ?_
    refine T_il d_X5_get_27 rfl ?_
    refine T_zeq d_X5_get_28 ⟨by omega, by omega⟩ (fun h28 => ?_) (fun h28 => ?_)
    · skip
      refine T_k d_X5_get_44 ?_
      -- leaf 1t.28t@45
      exact P_I d_X5_get_45 (by grind)
    · skip
      refine T_al d_X5_get_31 rfl ?_
      refine F_gr (b := 3) d_X5_get_32 rfl hF rfl ?_
      refine T_il d_X5_get_35 rfl ?_
      refine T_k d_X5_get_36 ?_
      refine T_imul d_X5_get_37 ?_
      refine T_il d_X5_get_38 rfl ?_
      refine T_iadd d_X5_get_39 ?_
      refine F_ia d_X5_get_40 rfl hB rfl ⟨by omega, by omega⟩ (fun b_1 => ?_)
      refine T_go d_X5_get_41 ?_
      -- leaf 1t.28f@45
      exact P_I d_X5_get_45 (by grind)
  · skip
    refine T_il d_X5_get_4 rfl ?_
    refine T_al d_X5_get_5 rfl ?_
    refine F_gi d_X5_get_6 rfl hB rfl (fun b_2 => ?_)
    refine T_ige d_X5_get_9 ⟨by omega, by omega⟩ ⟨by omega, by omega⟩ (fun h9 => ?_) (fun h9 => ?_)
    · skip
      refine T_k d_X5_get_25 ?_
      refine T_is d_X5_get_26 (ls' := [(0, vr 2), (1, vi r), (2, vi c), (3, vi 0)]) rfl ?_
      refine T_il d_X5_get_27 rfl ?_
      refine T_zeq d_X5_get_28 ⟨by omega, by omega⟩ (fun h28 => ?_) (fun h28 => ?_)
      · skip
        refine T_k d_X5_get_44 ?_
        -- leaf 1f.9t.28t@45
        exact P_I d_X5_get_45 (by grind)
      · skip
        refine T_al d_X5_get_31 rfl ?_
        refine F_gr (b := 3) d_X5_get_32 rfl hF rfl ?_
        refine T_il d_X5_get_35 rfl ?_
        refine T_k d_X5_get_36 ?_
        refine T_imul d_X5_get_37 ?_
        refine T_il d_X5_get_38 rfl ?_
        refine T_iadd d_X5_get_39 ?_
        refine F_ia d_X5_get_40 rfl hB rfl ⟨by omega, by omega⟩ (fun b_3 => ?_)
        refine T_go d_X5_get_41 ?_
        -- leaf 1f.9t.28f@45
        exact P_I d_X5_get_45 (by grind)
    · skip
      refine T_il d_X5_get_12 rfl ?_
      refine T_zlt d_X5_get_13 ⟨by omega, by omega⟩ (fun h13 => ?_) (fun h13 => ?_)
      · skip
        refine T_k d_X5_get_25 ?_
        refine T_is d_X5_get_26 (ls' := [(0, vr 2), (1, vi r), (2, vi c), (3, vi 0)]) rfl ?_
        refine T_il d_X5_get_27 rfl ?_
        refine T_zeq d_X5_get_28 ⟨by omega, by omega⟩ (fun h28 => ?_) (fun h28 => ?_)
        · skip
          refine T_k d_X5_get_44 ?_
          -- leaf 1f.9f.13t.28t@45
          exact P_I d_X5_get_45 (by grind)
        · skip
          refine T_al d_X5_get_31 rfl ?_
          refine F_gr (b := 3) d_X5_get_32 rfl hF rfl ?_
          refine T_il d_X5_get_35 rfl ?_
          refine T_k d_X5_get_36 ?_
          refine T_imul d_X5_get_37 ?_
          refine T_il d_X5_get_38 rfl ?_
          refine T_iadd d_X5_get_39 ?_
          refine F_ia d_X5_get_40 rfl hB rfl ⟨by omega, by omega⟩ (fun b_4 => ?_)
          refine T_go d_X5_get_41 ?_
          -- leaf 1f.9f.13t.28f@45
          exact P_I d_X5_get_45 (by grind)
      · skip
        refine T_il d_X5_get_16 rfl ?_
        refine T_k d_X5_get_17 ?_
        refine T_ige d_X5_get_18 ⟨by omega, by omega⟩ ⟨by omega, by omega⟩ (fun h18 => ?_) (fun h18 => ?_)
        · skip
          refine T_k d_X5_get_25 ?_
          refine T_is d_X5_get_26 (ls' := [(0, vr 2), (1, vi r), (2, vi c), (3, vi 0)]) rfl ?_
          refine T_il d_X5_get_27 rfl ?_
          refine T_zeq d_X5_get_28 ⟨by omega, by omega⟩ (fun h28 => ?_) (fun h28 => ?_)
          · skip
            refine T_k d_X5_get_44 ?_
            -- leaf 1f.9f.13f.18t.28t@45
            exact P_I d_X5_get_45 (by grind)
          · skip
            refine T_al d_X5_get_31 rfl ?_
            refine F_gr (b := 3) d_X5_get_32 rfl hF rfl ?_
            refine T_il d_X5_get_35 rfl ?_
            refine T_k d_X5_get_36 ?_
            refine T_imul d_X5_get_37 ?_
            refine T_il d_X5_get_38 rfl ?_
            refine T_iadd d_X5_get_39 ?_
            refine F_ia d_X5_get_40 rfl hB rfl ⟨by omega, by omega⟩ (fun b_5 => ?_)
            refine T_go d_X5_get_41 ?_
            -- leaf 1f.9f.13f.18t.28f@45
            exact P_I d_X5_get_45 (by grind)
        · skip
          refine T_k d_X5_get_21 ?_
          refine T_go d_X5_get_22 ?_
          refine T_is d_X5_get_26 (ls' := [(0, vr 2), (1, vi r), (2, vi c), (3, vi 1)]) rfl ?_
          refine T_il d_X5_get_27 rfl ?_
          refine T_zeq d_X5_get_28 ⟨by omega, by omega⟩ (fun h28 => ?_) (fun h28 => ?_)
          · skip
            refine T_k d_X5_get_44 ?_
            -- leaf 1f.9f.13f.18f.28t@45
            exact P_I d_X5_get_45 (by grind)
          · skip
            refine T_al d_X5_get_31 rfl ?_
            refine F_gr (b := 3) d_X5_get_32 rfl hF rfl ?_
            refine T_il d_X5_get_35 rfl ?_
            refine T_k d_X5_get_36 ?_
            refine T_imul d_X5_get_37 ?_
            refine T_il d_X5_get_38 rfl ?_
            refine T_iadd d_X5_get_39 ?_
            refine F_ia d_X5_get_40 rfl hB rfl ⟨by omega, by omega⟩ (fun b_6 => ?_)
            refine T_go d_X5_get_41 ?_
            -- leaf 1f.9f.13f.18f.28f@45
            exact P_I d_X5_get_45 (by grind)
set_option maxHeartbeats 1000000 in
set_option maxRecDepth 100000 in
theorem R_X5_isFull_4 {G : GG} {V : VV} {R : RR}   (hB : Bd V) (hF : FinR R) : RunsP G M_X5_isFull 1 [vr 4] V R (vi (bi (decide (V 4 1 ≤ V 4 2)))) := by
  unfold RunsP
  refine Runs.of pn_X5 (Nat.le_of_ble_eq_true rfl) rfl ?_
  show TT G M_X5_isFull (rmd 1 162 162) 162 (Zm G 162 162 (QP V R (vi (bi (decide (V 4 1 ≤ V 4 2)))))) 162 0 [(0, vr 4)] [] V R
  refine T_al d_X5_isFull_0 rfl ?_
  refine F_gi d_X5_isFull_1 rfl hB rfl (fun b_1 => ?_)
  refine T_al d_X5_isFull_4 rfl ?_
  refine F_gi d_X5_isFull_5 rfl hB rfl (fun b_2 => ?_)
  refine T_ilt d_X5_isFull_8 ⟨by omega, by omega⟩ ⟨by omega, by omega⟩ (fun h8 => ?_) (fun h8 => ?_)
  · skip
    refine T_k d_X5_isFull_15 ?_
    -- leaf 8t@16
    exact P_F d_X5_isFull_16 (by first | omega | grind)
  · skip
    refine T_k d_X5_isFull_11 ?_
    refine T_go d_X5_isFull_12 ?_
    -- leaf 8f@16
    exact P_T d_X5_isFull_16 (by first | omega | grind)
set_option maxHeartbeats 1000000 in
set_option maxRecDepth 100000 in
theorem R_X5_add_4 {G : GG} {V : VV} {R : RR} {x1 : Int} {x2 : Int} {x3 : Int} {x4 : Int} {x5 : Int}  (hB : Bd V) (hF : FinR R) (hrm : V 4 1 = 60) (hsz : V 4 2 < 60) (hx : (0 ≤ x1 ∧ x1 ≤ 400) ∧ (0 ≤ x2 ∧ x2 ≤ 400) ∧ (0 ≤ x3 ∧ x3 ≤ 400) ∧ (0 ≤ x4 ∧ x4 ≤ 400) ∧ (0 ≤ x5 ∧ x5 ≤ 400)) : Runs G M_X5_add 2 162 162 [vr 4, vi x1, vi x2, vi x3, vi x4, vi x5] V R (QU R (addV V 4 5 x1 x2 x3 x4 x5)) := by
  refine Runs.of pn_X5 (Nat.le_of_ble_eq_true rfl) rfl ?_
  show TT G M_X5_add (rmd 2 162 162) 162 (Zm G 162 162 (QU R (addV V 4 5 x1 x2 x3 x4 x5))) 162 0 [(0, vr 4), (1, vi x1), (2, vi x2), (3, vi x3), (4, vi x4), (5, vi x5)] [] V R
  refine T_al d_X5_add_0 rfl ?_
  refine C_pv0 d_X5_add_1 rfl (hdF (by decide)) (hcF _) (R_X5_isFull_4 (by first | assumption | omega | exact ⟨by omega, by omega⟩ | (subst_vars; simp_all [uV]; done) | grind [uV]) (by first | assumption | omega | exact ⟨by omega, by omega⟩ | (subst_vars; simp_all [uV]; done) | grind [uV])) ?_
  refine T_pz0 d_X5_add_4 (fun h4 => ?_) (fun h4 => ?_)
  · skip
    refine T_al d_X5_add_8 rfl ?_
    refine F_gi d_X5_add_9 rfl hB rfl (fun b_1 => ?_)
    refine T_k d_X5_add_12 ?_
    refine T_imul d_X5_add_13 ?_
    refine F_isg d_X5_add_14 (f := fun x_2 => [(0, vr 4), (1, vi x1), (2, vi x2), (3, vi x3), (4, vi x4), (5, vi x5), (6, vi x_2)]) (fun _ => rfl) (fun x_2 ex_2 => ?_)
    refine T_al d_X5_add_16 rfl ?_
    refine F_gr (b := 5) d_X5_add_17 rfl hF rfl ?_
    refine T_il d_X5_add_20 rfl ?_
    refine T_il d_X5_add_22 rfl ?_
    refine F_is d_X5_add_23 rfl hB rfl ⟨by omega, by omega⟩ ⟨by omega, by omega⟩ (fun V_3 eV_3 hBV_3 => ?_)
    refine T_al d_X5_add_24 rfl ?_
    refine F_gr (b := 5) d_X5_add_25 rfl hF rfl ?_
    refine T_il d_X5_add_28 rfl ?_
    refine T_k d_X5_add_30 ?_
    refine T_iadd d_X5_add_31 ?_
    refine T_il d_X5_add_32 rfl ?_
    refine F_is d_X5_add_33 rfl hBV_3 rfl ⟨by omega, by omega⟩ ⟨by omega, by omega⟩ (fun V_4 eV_4 hBV_4 => ?_)
    refine T_al d_X5_add_34 rfl ?_
    refine F_gr (b := 5) d_X5_add_35 rfl hF rfl ?_
    refine T_il d_X5_add_38 rfl ?_
    refine T_k d_X5_add_40 ?_
    refine T_iadd d_X5_add_41 ?_
    refine T_il d_X5_add_42 rfl ?_
    refine F_is d_X5_add_43 rfl hBV_4 rfl ⟨by omega, by omega⟩ ⟨by omega, by omega⟩ (fun V_5 eV_5 hBV_5 => ?_)
    refine T_al d_X5_add_44 rfl ?_
    refine F_gr (b := 5) d_X5_add_45 rfl hF rfl ?_
    refine T_il d_X5_add_48 rfl ?_
    refine T_k d_X5_add_50 ?_
    refine T_iadd d_X5_add_51 ?_
    refine T_il d_X5_add_52 rfl ?_
    refine F_is d_X5_add_54 rfl hBV_5 rfl ⟨by omega, by omega⟩ ⟨by omega, by omega⟩ (fun V_6 eV_6 hBV_6 => ?_)
    refine T_al d_X5_add_55 rfl ?_
    refine F_gr (b := 5) d_X5_add_56 rfl hF rfl ?_
    refine T_il d_X5_add_59 rfl ?_
    refine T_k d_X5_add_61 ?_
    refine T_iadd d_X5_add_62 ?_
    refine T_il d_X5_add_63 rfl ?_
    refine F_is d_X5_add_65 rfl hBV_6 rfl ⟨by omega, by omega⟩ ⟨by omega, by omega⟩ (fun V_7 eV_7 hBV_7 => ?_)
    refine T_al d_X5_add_66 rfl ?_
    refine T_dup d_X5_add_67 rfl ?_
    refine F_gi d_X5_add_68 rfl hBV_7 rfl (fun b_8 => ?_)
    have fV_7_4_2 : V_7 4 2 = V 4 2 := by rw [eV_7, eV_6, eV_5, eV_4, eV_3]; rfl
    refine T_k d_X5_add_71 ?_
    refine T_iadd d_X5_add_72 ?_
    refine F_pi d_X5_add_73 rfl hBV_7 rfl ⟨by omega, by omega⟩ (fun V_9 eV_9 hBV_9 => ?_)
    -- leaf 4t@76
    refine T_vret d_X5_add_76 rfl ?_
    refine ⟨rfl, ?_, rfl, hBV_9⟩
    subst_vars
    first | grind | (simp_all [addV, markV, forgV, uV]; done) | (funext a i; simp_all [addV, markV, forgV, uV]; done)
  · skip
    -- leaf 4f@7
    refine T_vret d_X5_add_7 rfl ?_
    exfalso; omega
set_option maxHeartbeats 1000000 in
set_option maxRecDepth 100000 in
theorem R_X5_get_4 {G : GG} {V : VV} {R : RR} {r : Int} {c : Int}  (hB : Bd V) (hF : FinR R) (hr : r32 r) (hc : r32 c) (hrm : V 4 2 ≤ 60) : RunsP G M_X5_get 1 [vr 4, vi r, vi c] V R (vi (if 0 ≤ r ∧ r < V 4 2 ∧ 0 ≤ c ∧ c < 5 then V 5 (r * 5 + c).toNat else 0)) := by
  unfold RunsP
  refine Runs.of pn_X5 (Nat.le_of_ble_eq_true rfl) rfl ?_
  show TT G M_X5_get (rmd 1 162 162) 162 (Zm G 162 162 (QP V R (vi (if 0 ≤ r ∧ r < V 4 2 ∧ 0 ≤ c ∧ c < 5 then V 5 (r * 5 + c).toNat else 0)))) 162 0 [(0, vr 4), (1, vi r), (2, vi c)] [] V R
  obtain ⟨hr1, hr2⟩ := hr
  obtain ⟨hc1, hc2⟩ := hc
  refine T_il d_X5_get_0 rfl ?_
  refine T_zlt d_X5_get_1 ⟨by omega, by omega⟩ (fun h1 => ?_) (fun h1 => ?_)
  · skip
    refine T_k d_X5_get_25 ?_
    refine T_is d_X5_get_26 (ls' := [(0, vr 4), (1, vi r), (2, vi c), (3, vi 0)]) rfl ?_
    refine T_il d_X5_get_27 rfl ?_
    refine T_zeq d_X5_get_28 ⟨by omega, by omega⟩ (fun h28 => ?_) (fun h28 => ?_)
    · skip
      refine T_k d_X5_get_44 ?_
      -- leaf 1t.28t@45
      exact P_I d_X5_get_45 (by grind)
    · skip
      refine T_al d_X5_get_31 rfl ?_
      refine F_gr (b := 5) d_X5_get_32 rfl hF rfl ?_
      refine T_il d_X5_get_35 rfl ?_
      refine T_k d_X5_get_36 ?_
      refine T_imul d_X5_get_37 ?_
      refine T_il d_X5_get_38 rfl ?_
      refine T_iadd d_X5_get_39 ?_
      refine F_ia d_X5_get_40 rfl hB rfl ⟨by omega, by omega⟩ (fun b_1 => ?_)
      refine T_go d_X5_get_41 ?_
      -- leaf 1t.28f@45
      exact P_I d_X5_get_45 (by grind)
  · skip
    refine T_il d_X5_get_4 rfl ?_
    refine T_al d_X5_get_5 rfl ?_
    refine F_gi d_X5_get_6 rfl hB rfl (fun b_2 => ?_)
    refine T_ige d_X5_get_9 ⟨by omega, by omega⟩ ⟨by omega, by omega⟩ (fun h9 => ?_) (fun h9 => ?_)
    · skip
      refine T_k d_X5_get_25 ?_
      refine T_is d_X5_get_26 (ls' := [(0, vr 4), (1, vi r), (2, vi c), (3, vi 0)]) rfl ?_
      refine T_il d_X5_get_27 rfl ?_
      refine T_zeq d_X5_get_28 ⟨by omega, by omega⟩ (fun h28 => ?_) (fun h28 => ?_)
      · skip
        refine T_k d_X5_get_44 ?_
        -- leaf 1f.9t.28t@45
        exact P_I d_X5_get_45 (by grind)
      · skip
        refine T_al d_X5_get_31 rfl ?_
        refine F_gr (b := 5) d_X5_get_32 rfl hF rfl ?_
        refine T_il d_X5_get_35 rfl ?_
        refine T_k d_X5_get_36 ?_
        refine T_imul d_X5_get_37 ?_
        refine T_il d_X5_get_38 rfl ?_
        refine T_iadd d_X5_get_39 ?_
        refine F_ia d_X5_get_40 rfl hB rfl ⟨by omega, by omega⟩ (fun b_3 => ?_)
        refine T_go d_X5_get_41 ?_
        -- leaf 1f.9t.28f@45
        exact P_I d_X5_get_45 (by grind)
    · skip
      refine T_il d_X5_get_12 rfl ?_
      refine T_zlt d_X5_get_13 ⟨by omega, by omega⟩ (fun h13 => ?_) (fun h13 => ?_)
      · skip
        refine T_k d_X5_get_25 ?_
        refine T_is d_X5_get_26 (ls' := [(0, vr 4), (1, vi r), (2, vi c), (3, vi 0)]) rfl ?_
        refine T_il d_X5_get_27 rfl ?_
        refine T_zeq d_X5_get_28 ⟨by omega, by omega⟩ (fun h28 => ?_) (fun h28 => ?_)
        · skip
          refine T_k d_X5_get_44 ?_
          -- leaf 1f.9f.13t.28t@45
          exact P_I d_X5_get_45 (by grind)
        · skip
          refine T_al d_X5_get_31 rfl ?_
          refine F_gr (b := 5) d_X5_get_32 rfl hF rfl ?_
          refine T_il d_X5_get_35 rfl ?_
          refine T_k d_X5_get_36 ?_
          refine T_imul d_X5_get_37 ?_
          refine T_il d_X5_get_38 rfl ?_
          refine T_iadd d_X5_get_39 ?_
          refine F_ia d_X5_get_40 rfl hB rfl ⟨by omega, by omega⟩ (fun b_4 => ?_)
          refine T_go d_X5_get_41 ?_
          -- leaf 1f.9f.13t.28f@45
          exact P_I d_X5_get_45 (by grind)
      · skip
        refine T_il d_X5_get_16 rfl ?_
        refine T_k d_X5_get_17 ?_
        refine T_ige d_X5_get_18 ⟨by omega, by omega⟩ ⟨by omega, by omega⟩ (fun h18 => ?_) (fun h18 => ?_)
        · skip
          refine T_k d_X5_get_25 ?_
          refine T_is d_X5_get_26 (ls' := [(0, vr 4), (1, vi r), (2, vi c), (3, vi 0)]) rfl ?_
          refine T_il d_X5_get_27 rfl ?_
          refine T_zeq d_X5_get_28 ⟨by omega, by omega⟩ (fun h28 => ?_) (fun h28 => ?_)
          · skip
            refine T_k d_X5_get_44 ?_
            -- leaf 1f.9f.13f.18t.28t@45
            exact P_I d_X5_get_45 (by grind)
          · skip
            refine T_al d_X5_get_31 rfl ?_
            refine F_gr (b := 5) d_X5_get_32 rfl hF rfl ?_
            refine T_il d_X5_get_35 rfl ?_
            refine T_k d_X5_get_36 ?_
            refine T_imul d_X5_get_37 ?_
            refine T_il d_X5_get_38 rfl ?_
            refine T_iadd d_X5_get_39 ?_
            refine F_ia d_X5_get_40 rfl hB rfl ⟨by omega, by omega⟩ (fun b_5 => ?_)
            refine T_go d_X5_get_41 ?_
            -- leaf 1f.9f.13f.18t.28f@45
            exact P_I d_X5_get_45 (by grind)
        · skip
          refine T_k d_X5_get_21 ?_
          refine T_go d_X5_get_22 ?_
          refine T_is d_X5_get_26 (ls' := [(0, vr 4), (1, vi r), (2, vi c), (3, vi 1)]) rfl ?_
          refine T_il d_X5_get_27 rfl ?_
          refine T_zeq d_X5_get_28 ⟨by omega, by omega⟩ (fun h28 => ?_) (fun h28 => ?_)
          · skip
            refine T_k d_X5_get_44 ?_
            -- leaf 1f.9f.13f.18f.28t@45
            exact P_I d_X5_get_45 (by grind)
          · skip
            refine T_al d_X5_get_31 rfl ?_
            refine F_gr (b := 5) d_X5_get_32 rfl hF rfl ?_
            refine T_il d_X5_get_35 rfl ?_
            refine T_k d_X5_get_36 ?_
            refine T_imul d_X5_get_37 ?_
            refine T_il d_X5_get_38 rfl ?_
            refine T_iadd d_X5_get_39 ?_
            refine F_ia d_X5_get_40 rfl hB rfl ⟨by omega, by omega⟩ (fun b_6 => ?_)
            refine T_go d_X5_get_41 ?_
            -- leaf 1f.9f.13f.18f.28f@45
            exact P_I d_X5_get_45 (by grind)
set_option maxHeartbeats 1000000 in
set_option maxRecDepth 100000 in
theorem R_X5_isFull_6 {G : GG} {V : VV} {R : RR}   (hB : Bd V) (hF : FinR R) : RunsP G M_X5_isFull 1 [vr 6] V R (vi (bi (decide (V 6 1 ≤ V 6 2)))) := by
  unfold RunsP
  refine Runs.of pn_X5 (Nat.le_of_ble_eq_true rfl) rfl ?_
  show TT G M_X5_isFull (rmd 1 162 162) 162 (Zm G 162 162 (QP V R (vi (bi (decide (V 6 1 ≤ V 6 2)))))) 162 0 [(0, vr 6)] [] V R
  refine T_al d_X5_isFull_0 rfl ?_
  refine F_gi d_X5_isFull_1 rfl hB rfl (fun b_1 => ?_)
  refine T_al d_X5_isFull_4 rfl ?_
  refine F_gi d_X5_isFull_5 rfl hB rfl (fun b_2 => ?_)
  refine T_ilt d_X5_isFull_8 ⟨by omega, by omega⟩ ⟨by omega, by omega⟩ (fun h8 => ?_) (fun h8 => ?_)
  · skip
    refine T_k d_X5_isFull_15 ?_
    -- leaf 8t@16
    exact P_F d_X5_isFull_16 (by first | omega | grind)
  · skip
    refine T_k d_X5_isFull_11 ?_
    refine T_go d_X5_isFull_12 ?_
    -- leaf 8f@16
    exact P_T d_X5_isFull_16 (by first | omega | grind)
set_option maxHeartbeats 1000000 in
set_option maxRecDepth 100000 in
theorem R_X5_add_6 {G : GG} {V : VV} {R : RR} {x1 : Int} {x2 : Int} {x3 : Int} {x4 : Int} {x5 : Int}  (hB : Bd V) (hF : FinR R) (hrm : V 6 1 = 20) (hsz : V 6 2 < 20) (hx : (0 ≤ x1 ∧ x1 ≤ 499) ∧ (0 ≤ x2 ∧ x2 ≤ 499) ∧ (0 ≤ x3 ∧ x3 ≤ 499) ∧ (0 ≤ x4 ∧ x4 ≤ 499) ∧ (0 ≤ x5 ∧ x5 ≤ 499)) : Runs G M_X5_add 2 162 162 [vr 6, vi x1, vi x2, vi x3, vi x4, vi x5] V R (QU R (addV V 6 7 x1 x2 x3 x4 x5)) := by
  refine Runs.of pn_X5 (Nat.le_of_ble_eq_true rfl) rfl ?_
  show TT G M_X5_add (rmd 2 162 162) 162 (Zm G 162 162 (QU R (addV V 6 7 x1 x2 x3 x4 x5))) 162 0 [(0, vr 6), (1, vi x1), (2, vi x2), (3, vi x3), (4, vi x4), (5, vi x5)] [] V R
  refine T_al d_X5_add_0 rfl ?_
  refine C_pv0 d_X5_add_1 rfl (hdF (by decide)) (hcF _) (R_X5_isFull_6 (by first | assumption | omega | exact ⟨by omega, by omega⟩ | (subst_vars; simp_all [uV]; done) | grind [uV]) (by first | assumption | omega | exact ⟨by omega, by omega⟩ | (subst_vars; simp_all [uV]; done) | grind [uV])) ?_
  refine T_pz0 d_X5_add_4 (fun h4 => ?_) (fun h4 => ?_)
  · skip
    refine T_al d_X5_add_8 rfl ?_
    refine F_gi d_X5_add_9 rfl hB rfl (fun b_1 => ?_)
    refine T_k d_X5_add_12 ?_
    refine T_imul d_X5_add_13 ?_
    refine F_isg d_X5_add_14 (f := fun x_2 => [(0, vr 6), (1, vi x1), (2, vi x2), (3, vi x3), (4, vi x4), (5, vi x5), (6, vi x_2)]) (fun _ => rfl) (fun x_2 ex_2 => ?_)
    refine T_al d_X5_add_16 rfl ?_
    refine F_gr (b := 7) d_X5_add_17 rfl hF rfl ?_
    refine T_il d_X5_add_20 rfl ?_
    refine T_il d_X5_add_22 rfl ?_
    refine F_is d_X5_add_23 rfl hB rfl ⟨by omega, by omega⟩ ⟨by omega, by omega⟩ (fun V_3 eV_3 hBV_3 => ?_)
    refine T_al d_X5_add_24 rfl ?_
    refine F_gr (b := 7) d_X5_add_25 rfl hF rfl ?_
    refine T_il d_X5_add_28 rfl ?_
    refine T_k d_X5_add_30 ?_
    refine T_iadd d_X5_add_31 ?_
    refine T_il d_X5_add_32 rfl ?_
    refine F_is d_X5_add_33 rfl hBV_3 rfl ⟨by omega, by omega⟩ ⟨by omega, by omega⟩ (fun V_4 eV_4 hBV_4 => ?_)
    refine T_al d_X5_add_34 rfl ?_
    refine F_gr (b := 7) d_X5_add_35 rfl hF rfl ?_
    refine T_il d_X5_add_38 rfl ?_
    refine T_k d_X5_add_40 ?_
    refine T_iadd d_X5_add_41 ?_
    refine T_il d_X5_add_42 rfl ?_
    refine F_is d_X5_add_43 rfl hBV_4 rfl ⟨by omega, by omega⟩ ⟨by omega, by omega⟩ (fun V_5 eV_5 hBV_5 => ?_)
    refine T_al d_X5_add_44 rfl ?_
    refine F_gr (b := 7) d_X5_add_45 rfl hF rfl ?_
    refine T_il d_X5_add_48 rfl ?_
    refine T_k d_X5_add_50 ?_
    refine T_iadd d_X5_add_51 ?_
    refine T_il d_X5_add_52 rfl ?_
    refine F_is d_X5_add_54 rfl hBV_5 rfl ⟨by omega, by omega⟩ ⟨by omega, by omega⟩ (fun V_6 eV_6 hBV_6 => ?_)
    refine T_al d_X5_add_55 rfl ?_
    refine F_gr (b := 7) d_X5_add_56 rfl hF rfl ?_
    refine T_il d_X5_add_59 rfl ?_
    refine T_k d_X5_add_61 ?_
    refine T_iadd d_X5_add_62 ?_
    refine T_il d_X5_add_63 rfl ?_
    refine F_is d_X5_add_65 rfl hBV_6 rfl ⟨by omega, by omega⟩ ⟨by omega, by omega⟩ (fun V_7 eV_7 hBV_7 => ?_)
    refine T_al d_X5_add_66 rfl ?_
    refine T_dup d_X5_add_67 rfl ?_
    refine F_gi d_X5_add_68 rfl hBV_7 rfl (fun b_8 => ?_)
    have fV_7_6_2 : V_7 6 2 = V 6 2 := by rw [eV_7, eV_6, eV_5, eV_4, eV_3]; rfl
    refine T_k d_X5_add_71 ?_
    refine T_iadd d_X5_add_72 ?_
    refine F_pi d_X5_add_73 rfl hBV_7 rfl ⟨by omega, by omega⟩ (fun V_9 eV_9 hBV_9 => ?_)
    -- leaf 4t@76
    refine T_vret d_X5_add_76 rfl ?_
    refine ⟨rfl, ?_, rfl, hBV_9⟩
    subst_vars
    first | grind | (simp_all [addV, markV, forgV, uV]; done) | (funext a i; simp_all [addV, markV, forgV, uV]; done)
  · skip
    -- leaf 4f@7
    refine T_vret d_X5_add_7 rfl ?_
    exfalso; omega
set_option maxHeartbeats 1000000 in
set_option maxRecDepth 100000 in
theorem R_X5_get_6 {G : GG} {V : VV} {R : RR} {r : Int} {c : Int}  (hB : Bd V) (hF : FinR R) (hr : r32 r) (hc : r32 c) (hrm : V 6 2 ≤ 20) : RunsP G M_X5_get 1 [vr 6, vi r, vi c] V R (vi (if 0 ≤ r ∧ r < V 6 2 ∧ 0 ≤ c ∧ c < 5 then V 7 (r * 5 + c).toNat else 0)) := by
  unfold RunsP
  refine Runs.of pn_X5 (Nat.le_of_ble_eq_true rfl) rfl ?_
  show TT G M_X5_get (rmd 1 162 162) 162 (Zm G 162 162 (QP V R (vi (if 0 ≤ r ∧ r < V 6 2 ∧ 0 ≤ c ∧ c < 5 then V 7 (r * 5 + c).toNat else 0)))) 162 0 [(0, vr 6), (1, vi r), (2, vi c)] [] V R
  obtain ⟨hr1, hr2⟩ := hr
  obtain ⟨hc1, hc2⟩ := hc
  refine T_il d_X5_get_0 rfl ?_
  refine T_zlt d_X5_get_1 ⟨by omega, by omega⟩ (fun h1 => ?_) (fun h1 => ?_)
  · skip
    refine T_k d_X5_get_25 ?_
    refine T_is d_X5_get_26 (ls' := [(0, vr 6), (1, vi r), (2, vi c), (3, vi 0)]) rfl ?_
    refine T_il d_X5_get_27 rfl ?_
    refine T_zeq d_X5_get_28 ⟨by omega, by omega⟩ (fun h28 => ?_) (fun h28 => ?_)
    · skip
      refine T_k d_X5_get_44 ?_
      -- leaf 1t.28t@45
      exact P_I d_X5_get_45 (by grind)
    · skip
      refine T_al d_X5_get_31 rfl ?_
      refine F_gr (b := 7) d_X5_get_32 rfl hF rfl ?_
      refine T_il d_X5_get_35 rfl ?_
      refine T_k d_X5_get_36 ?_
      refine T_imul d_X5_get_37 ?_
      refine T_il d_X5_get_38 rfl ?_
      refine T_iadd d_X5_get_39 ?_
      refine F_ia d_X5_get_40 rfl hB rfl ⟨by omega, by omega⟩ (fun b_1 => ?_)
      refine T_go d_X5_get_41 ?_
      -- leaf 1t.28f@45
      exact P_I d_X5_get_45 (by grind)
  · skip
    refine T_il d_X5_get_4 rfl ?_
    refine T_al d_X5_get_5 rfl ?_
    refine F_gi d_X5_get_6 rfl hB rfl (fun b_2 => ?_)
    refine T_ige d_X5_get_9 ⟨by omega, by omega⟩ ⟨by omega, by omega⟩ (fun h9 => ?_) (fun h9 => ?_)
    · skip
      refine T_k d_X5_get_25 ?_
      refine T_is d_X5_get_26 (ls' := [(0, vr 6), (1, vi r), (2, vi c), (3, vi 0)]) rfl ?_
      refine T_il d_X5_get_27 rfl ?_
      refine T_zeq d_X5_get_28 ⟨by omega, by omega⟩ (fun h28 => ?_) (fun h28 => ?_)
      · skip
        refine T_k d_X5_get_44 ?_
        -- leaf 1f.9t.28t@45
        exact P_I d_X5_get_45 (by grind)
      · skip
        refine T_al d_X5_get_31 rfl ?_
        refine F_gr (b := 7) d_X5_get_32 rfl hF rfl ?_
        refine T_il d_X5_get_35 rfl ?_
        refine T_k d_X5_get_36 ?_
        refine T_imul d_X5_get_37 ?_
        refine T_il d_X5_get_38 rfl ?_
        refine T_iadd d_X5_get_39 ?_
        refine F_ia d_X5_get_40 rfl hB rfl ⟨by omega, by omega⟩ (fun b_3 => ?_)
        refine T_go d_X5_get_41 ?_
        -- leaf 1f.9t.28f@45
        exact P_I d_X5_get_45 (by grind)
    · skip
      refine T_il d_X5_get_12 rfl ?_
      refine T_zlt d_X5_get_13 ⟨by omega, by omega⟩ (fun h13 => ?_) (fun h13 => ?_)
      · skip
        refine T_k d_X5_get_25 ?_
        refine T_is d_X5_get_26 (ls' := [(0, vr 6), (1, vi r), (2, vi c), (3, vi 0)]) rfl ?_
        refine T_il d_X5_get_27 rfl ?_
        refine T_zeq d_X5_get_28 ⟨by omega, by omega⟩ (fun h28 => ?_) (fun h28 => ?_)
        · skip
          refine T_k d_X5_get_44 ?_
          -- leaf 1f.9f.13t.28t@45
          exact P_I d_X5_get_45 (by grind)
        · skip
          refine T_al d_X5_get_31 rfl ?_
          refine F_gr (b := 7) d_X5_get_32 rfl hF rfl ?_
          refine T_il d_X5_get_35 rfl ?_
          refine T_k d_X5_get_36 ?_
          refine T_imul d_X5_get_37 ?_
          refine T_il d_X5_get_38 rfl ?_
          refine T_iadd d_X5_get_39 ?_
          refine F_ia d_X5_get_40 rfl hB rfl ⟨by omega, by omega⟩ (fun b_4 => ?_)
          refine T_go d_X5_get_41 ?_
          -- leaf 1f.9f.13t.28f@45
          exact P_I d_X5_get_45 (by grind)
      · skip
        refine T_il d_X5_get_16 rfl ?_
        refine T_k d_X5_get_17 ?_
        refine T_ige d_X5_get_18 ⟨by omega, by omega⟩ ⟨by omega, by omega⟩ (fun h18 => ?_) (fun h18 => ?_)
        · skip
          refine T_k d_X5_get_25 ?_
          refine T_is d_X5_get_26 (ls' := [(0, vr 6), (1, vi r), (2, vi c), (3, vi 0)]) rfl ?_
          refine T_il d_X5_get_27 rfl ?_
          refine T_zeq d_X5_get_28 ⟨by omega, by omega⟩ (fun h28 => ?_) (fun h28 => ?_)
          · skip
            refine T_k d_X5_get_44 ?_
            -- leaf 1f.9f.13f.18t.28t@45
            exact P_I d_X5_get_45 (by grind)
          · skip
            refine T_al d_X5_get_31 rfl ?_
            refine F_gr (b := 7) d_X5_get_32 rfl hF rfl ?_
            refine T_il d_X5_get_35 rfl ?_
            refine T_k d_X5_get_36 ?_
            refine T_imul d_X5_get_37 ?_
            refine T_il d_X5_get_38 rfl ?_
            refine T_iadd d_X5_get_39 ?_
            refine F_ia d_X5_get_40 rfl hB rfl ⟨by omega, by omega⟩ (fun b_5 => ?_)
            refine T_go d_X5_get_41 ?_
            -- leaf 1f.9f.13f.18t.28f@45
            exact P_I d_X5_get_45 (by grind)
        · skip
          refine T_k d_X5_get_21 ?_
          refine T_go d_X5_get_22 ?_
          refine T_is d_X5_get_26 (ls' := [(0, vr 6), (1, vi r), (2, vi c), (3, vi 1)]) rfl ?_
          refine T_il d_X5_get_27 rfl ?_
          refine T_zeq d_X5_get_28 ⟨by omega, by omega⟩ (fun h28 => ?_) (fun h28 => ?_)
          · skip
            refine T_k d_X5_get_44 ?_
            -- leaf 1f.9f.13f.18f.28t@45
            exact P_I d_X5_get_45 (by grind)
          · skip
            refine T_al d_X5_get_31 rfl ?_
            refine F_gr (b := 7) d_X5_get_32 rfl hF rfl ?_
            refine T_il d_X5_get_35 rfl ?_
            refine T_k d_X5_get_36 ?_
            refine T_imul d_X5_get_37 ?_
            refine T_il d_X5_get_38 rfl ?_
            refine T_iadd d_X5_get_39 ?_
            refine F_ia d_X5_get_40 rfl hB rfl ⟨by omega, by omega⟩ (fun b_6 => ?_)
            refine T_go d_X5_get_41 ?_
            -- leaf 1f.9f.13f.18f.28f@45
            exact P_I d_X5_get_45 (by grind)
set_option maxHeartbeats 1000000 in
set_option maxRecDepth 100000 in
theorem R_X5_isFull_8 {G : GG} {V : VV} {R : RR}   (hB : Bd V) (hF : FinR R) : RunsP G M_X5_isFull 1 [vr 8] V R (vi (bi (decide (V 8 1 ≤ V 8 2)))) := by
  unfold RunsP
  refine Runs.of pn_X5 (Nat.le_of_ble_eq_true rfl) rfl ?_
  show TT G M_X5_isFull (rmd 1 162 162) 162 (Zm G 162 162 (QP V R (vi (bi (decide (V 8 1 ≤ V 8 2)))))) 162 0 [(0, vr 8)] [] V R
  refine T_al d_X5_isFull_0 rfl ?_
  refine F_gi d_X5_isFull_1 rfl hB rfl (fun b_1 => ?_)
  refine T_al d_X5_isFull_4 rfl ?_
  refine F_gi d_X5_isFull_5 rfl hB rfl (fun b_2 => ?_)
  refine T_ilt d_X5_isFull_8 ⟨by omega, by omega⟩ ⟨by omega, by omega⟩ (fun h8 => ?_) (fun h8 => ?_)
  · skip
    refine T_k d_X5_isFull_15 ?_
    -- leaf 8t@16
    exact P_F d_X5_isFull_16 (by first | omega | grind)
  · skip
    refine T_k d_X5_isFull_11 ?_
    refine T_go d_X5_isFull_12 ?_
    -- leaf 8f@16
    exact P_T d_X5_isFull_16 (by first | omega | grind)
set_option maxHeartbeats 1000000 in
set_option maxRecDepth 100000 in
theorem R_X5_add_8 {G : GG} {V : VV} {R : RR} {x1 : Int} {x2 : Int} {x3 : Int} {x4 : Int} {x5 : Int}  (hB : Bd V) (hF : FinR R) (hrm : V 8 1 = 20) (hsz : V 8 2 < 20) (hx : (0 ≤ x1 ∧ x1 ≤ 499) ∧ (0 ≤ x2 ∧ x2 ≤ 499) ∧ (0 ≤ x3 ∧ x3 ≤ 499) ∧ (0 ≤ x4 ∧ x4 ≤ 499) ∧ (0 ≤ x5 ∧ x5 ≤ 499)) : Runs G M_X5_add 2 162 162 [vr 8, vi x1, vi x2, vi x3, vi x4, vi x5] V R (QU R (addV V 8 9 x1 x2 x3 x4 x5)) := by
  refine Runs.of pn_X5 (Nat.le_of_ble_eq_true rfl) rfl ?_
  show TT G M_X5_add (rmd 2 162 162) 162 (Zm G 162 162 (QU R (addV V 8 9 x1 x2 x3 x4 x5))) 162 0 [(0, vr 8), (1, vi x1), (2, vi x2), (3, vi x3), (4, vi x4), (5, vi x5)] [] V R
  refine T_al d_X5_add_0 rfl ?_
  refine C_pv0 d_X5_add_1 rfl (hdF (by decide)) (hcF _) (R_X5_isFull_8 (by first | assumption | omega | exact ⟨by omega, by omega⟩ | (subst_vars; simp_all [uV]; done) | grind [uV]) (by first | assumption | omega | exact ⟨by omega, by omega⟩ | (subst_vars; simp_all [uV]; done) | grind [uV])) ?_
  refine T_pz0 d_X5_add_4 (fun h4 => ?_) (fun h4 => ?_)
  · skip
    refine T_al d_X5_add_8 rfl ?_
    refine F_gi d_X5_add_9 rfl hB rfl (fun b_1 => ?_)
    refine T_k d_X5_add_12 ?_
    refine T_imul d_X5_add_13 ?_
    refine F_isg d_X5_add_14 (f := fun x_2 => [(0, vr 8), (1, vi x1), (2, vi x2), (3, vi x3), (4, vi x4), (5, vi x5), (6, vi x_2)]) (fun _ => rfl) (fun x_2 ex_2 => ?_)
    refine T_al d_X5_add_16 rfl ?_
    refine F_gr (b := 9) d_X5_add_17 rfl hF rfl ?_
    refine T_il d_X5_add_20 rfl ?_
    refine T_il d_X5_add_22 rfl ?_
    refine F_is d_X5_add_23 rfl hB rfl ⟨by omega, by omega⟩ ⟨by omega, by omega⟩ (fun V_3 eV_3 hBV_3 => ?_)
    refine T_al d_X5_add_24 rfl ?_
    refine F_gr (b := 9) d_X5_add_25 rfl hF rfl ?_
    refine T_il d_X5_add_28 rfl ?_
    refine T_k d_X5_add_30 ?_
    refine T_iadd d_X5_add_31 ?_
    refine T_il d_X5_add_32 rfl ?_
    refine F_is d_X5_add_33 rfl hBV_3 rfl ⟨by omega, by omega⟩ ⟨by omega, by omega⟩ (fun V_4 eV_4 hBV_4 => ?_)
    refine T_al d_X5_add_34 rfl ?_
    refine F_gr (b := 9) d_X5_add_35 rfl hF rfl ?_
    refine T_il d_X5_add_38 rfl ?_
    refine T_k d_X5_add_40 ?_
    refine T_iadd d_X5_add_41 ?_
    refine T_il d_X5_add_42 rfl ?_
    refine F_is d_X5_add_43 rfl hBV_4 rfl ⟨by omega, by omega⟩ ⟨by omega, by omega⟩ (fun V_5 eV_5 hBV_5 => ?_)
    refine T_al d_X5_add_44 rfl ?_
    refine F_gr (b := 9) d_X5_add_45 rfl hF rfl ?_
    refine T_il d_X5_add_48 rfl ?_
    refine T_k d_X5_add_50 ?_
    refine T_iadd d_X5_add_51 ?_
    refine T_il d_X5_add_52 rfl ?_
    refine F_is d_X5_add_54 rfl hBV_5 rfl ⟨by omega, by omega⟩ ⟨by omega, by omega⟩ (fun V_6 eV_6 hBV_6 => ?_)
    refine T_al d_X5_add_55 rfl ?_
    refine F_gr (b := 9) d_X5_add_56 rfl hF rfl ?_
    refine T_il d_X5_add_59 rfl ?_
    refine T_k d_X5_add_61 ?_
    refine T_iadd d_X5_add_62 ?_
    refine T_il d_X5_add_63 rfl ?_
    refine F_is d_X5_add_65 rfl hBV_6 rfl ⟨by omega, by omega⟩ ⟨by omega, by omega⟩ (fun V_7 eV_7 hBV_7 => ?_)
    refine T_al d_X5_add_66 rfl ?_
    refine T_dup d_X5_add_67 rfl ?_
    refine F_gi d_X5_add_68 rfl hBV_7 rfl (fun b_8 => ?_)
    have fV_7_8_2 : V_7 8 2 = V 8 2 := by rw [eV_7, eV_6, eV_5, eV_4, eV_3]; rfl
    refine T_k d_X5_add_71 ?_
    refine T_iadd d_X5_add_72 ?_
    refine F_pi d_X5_add_73 rfl hBV_7 rfl ⟨by omega, by omega⟩ (fun V_9 eV_9 hBV_9 => ?_)
    -- leaf 4t@76
    refine T_vret d_X5_add_76 rfl ?_
    refine ⟨rfl, ?_, rfl, hBV_9⟩
    subst_vars
    first | grind | (simp_all [addV, markV, forgV, uV]; done) | (funext a i; simp_all [addV, markV, forgV, uV]; done)
  · skip
    -- leaf 4f@7
    refine T_vret d_X5_add_7 rfl ?_
    exfalso; omega
set_option maxHeartbeats 1000000 in
set_option maxRecDepth 100000 in
theorem R_X5_get_8 {G : GG} {V : VV} {R : RR} {r : Int} {c : Int}  (hB : Bd V) (hF : FinR R) (hr : r32 r) (hc : r32 c) (hrm : V 8 2 ≤ 20) : RunsP G M_X5_get 1 [vr 8, vi r, vi c] V R (vi (if 0 ≤ r ∧ r < V 8 2 ∧ 0 ≤ c ∧ c < 5 then V 9 (r * 5 + c).toNat else 0)) := by
  unfold RunsP
  refine Runs.of pn_X5 (Nat.le_of_ble_eq_true rfl) rfl ?_
  show TT G M_X5_get (rmd 1 162 162) 162 (Zm G 162 162 (QP V R (vi (if 0 ≤ r ∧ r < V 8 2 ∧ 0 ≤ c ∧ c < 5 then V 9 (r * 5 + c).toNat else 0)))) 162 0 [(0, vr 8), (1, vi r), (2, vi c)] [] V R
  obtain ⟨hr1, hr2⟩ := hr
  obtain ⟨hc1, hc2⟩ := hc
  refine T_il d_X5_get_0 rfl ?_
  refine T_zlt d_X5_get_1 ⟨by omega, by omega⟩ (fun h1 => ?_) (fun h1 => ?_)
  · skip
    refine T_k d_X5_get_25 ?_
    refine T_is d_X5_get_26 (ls' := [(0, vr 8), (1, vi r), (2, vi c), (3, vi 0)]) rfl ?_
    refine T_il d_X5_get_27 rfl ?_
    refine T_zeq d_X5_get_28 ⟨by omega, by omega⟩ (fun h28 => ?_) (fun h28 => ?_)
    · skip
      refine T_k d_X5_get_44 ?_
      -- leaf 1t.28t@45
      exact P_I d_X5_get_45 (by grind)
    · skip
      refine T_al d_X5_get_31 rfl ?_
      refine F_gr (b := 9) d_X5_get_32 rfl hF rfl ?_
      refine T_il d_X5_get_35 rfl ?_
      refine T_k d_X5_get_36 ?_
      refine T_imul d_X5_get_37 ?_
      refine T_il d_X5_get_38 rfl ?_
      refine T_iadd d_X5_get_39 ?_
      refine F_ia d_X5_get_40 rfl hB rfl ⟨by omega, by omega⟩ (fun b_1 => ?_)
      refine T_go d_X5_get_41 ?_
      -- leaf 1t.28f@45
      exact P_I d_X5_get_45 (by grind)
  · skip
    refine T_il d_X5_get_4 rfl ?_
    refine T_al d_X5_get_5 rfl ?_
    refine F_gi d_X5_get_6 rfl hB rfl (fun b_2 => ?_)
    refine T_ige d_X5_get_9 ⟨by omega, by omega⟩ ⟨by omega, by omega⟩ (fun h9 => ?_) (fun h9 => ?_)
    · skip
      refine T_k d_X5_get_25 ?_
      refine T_is d_X5_get_26 (ls' := [(0, vr 8), (1, vi r), (2, vi c), (3, vi 0)]) rfl ?_
      refine T_il d_X5_get_27 rfl ?_
      refine T_zeq d_X5_get_28 ⟨by omega, by omega⟩ (fun h28 => ?_) (fun h28 => ?_)
      · skip
        refine T_k d_X5_get_44 ?_
        -- leaf 1f.9t.28t@45
        exact P_I d_X5_get_45 (by grind)
      · skip
        refine T_al d_X5_get_31 rfl ?_
        refine F_gr (b := 9) d_X5_get_32 rfl hF rfl ?_
        refine T_il d_X5_get_35 rfl ?_
        refine T_k d_X5_get_36 ?_
        refine T_imul d_X5_get_37 ?_
        refine T_il d_X5_get_38 rfl ?_
        refine T_iadd d_X5_get_39 ?_
        refine F_ia d_X5_get_40 rfl hB rfl ⟨by omega, by omega⟩ (fun b_3 => ?_)
        refine T_go d_X5_get_41 ?_
        -- leaf 1f.9t.28f@45
        exact P_I d_X5_get_45 (by grind)
    · skip
      refine T_il d_X5_get_12 rfl ?_
      refine T_zlt d_X5_get_13 ⟨by omega, by omega⟩ (fun h13 => ?_) (fun h13 => ?_)
      · skip
        refine T_k d_X5_get_25 ?_
        refine T_is d_X5_get_26 (ls' := [(0, vr 8), (1, vi r), (2, vi c), (3, vi 0)]) rfl ?_
        refine T_il d_X5_get_27 rfl ?_
        refine T_zeq d_X5_get_28 ⟨by omega, by omega⟩ (fun h28 => ?_) (fun h28 => ?_)
        · skip
          refine T_k d_X5_get_44 ?_
          -- leaf 1f.9f.13t.28t@45
          exact P_I d_X5_get_45 (by grind)
        · skip
          refine T_al d_X5_get_31 rfl ?_
          refine F_gr (b := 9) d_X5_get_32 rfl hF rfl ?_
          refine T_il d_X5_get_35 rfl ?_
          refine T_k d_X5_get_36 ?_
          refine T_imul d_X5_get_37 ?_
          refine T_il d_X5_get_38 rfl ?_
          refine T_iadd d_X5_get_39 ?_
          refine F_ia d_X5_get_40 rfl hB rfl ⟨by omega, by omega⟩ (fun b_4 => ?_)
          refine T_go d_X5_get_41 ?_
          -- leaf 1f.9f.13t.28f@45
          exact P_I d_X5_get_45 (by grind)
      · skip
        refine T_il d_X5_get_16 rfl ?_
        refine T_k d_X5_get_17 ?_
        refine T_ige d_X5_get_18 ⟨by omega, by omega⟩ ⟨by omega, by omega⟩ (fun h18 => ?_) (fun h18 => ?_)
        · skip
          refine T_k d_X5_get_25 ?_
          refine T_is d_X5_get_26 (ls' := [(0, vr 8), (1, vi r), (2, vi c), (3, vi 0)]) rfl ?_
          refine T_il d_X5_get_27 rfl ?_
          refine T_zeq d_X5_get_28 ⟨by omega, by omega⟩ (fun h28 => ?_) (fun h28 => ?_)
          · skip
            refine T_k d_X5_get_44 ?_
            -- leaf 1f.9f.13f.18t.28t@45
            exact P_I d_X5_get_45 (by grind)
          · skip
            refine T_al d_X5_get_31 rfl ?_
            refine F_gr (b := 9) d_X5_get_32 rfl hF rfl ?_
            refine T_il d_X5_get_35 rfl ?_
            refine T_k d_X5_get_36 ?_
            refine T_imul d_X5_get_37 ?_
            refine T_il d_X5_get_38 rfl ?_
            refine T_iadd d_X5_get_39 ?_
            refine F_ia d_X5_get_40 rfl hB rfl ⟨by omega, by omega⟩ (fun b_5 => ?_)
            refine T_go d_X5_get_41 ?_
            -- leaf 1f.9f.13f.18t.28f@45
            exact P_I d_X5_get_45 (by grind)
        · skip
          refine T_k d_X5_get_21 ?_
          refine T_go d_X5_get_22 ?_
          refine T_is d_X5_get_26 (ls' := [(0, vr 8), (1, vi r), (2, vi c), (3, vi 1)]) rfl ?_
          refine T_il d_X5_get_27 rfl ?_
          refine T_zeq d_X5_get_28 ⟨by omega, by omega⟩ (fun h28 => ?_) (fun h28 => ?_)
          · skip
            refine T_k d_X5_get_44 ?_
            -- leaf 1f.9f.13f.18f.28t@45
            exact P_I d_X5_get_45 (by grind)
          · skip
            refine T_al d_X5_get_31 rfl ?_
            refine F_gr (b := 9) d_X5_get_32 rfl hF rfl ?_
            refine T_il d_X5_get_35 rfl ?_
            refine T_k d_X5_get_36 ?_
            refine T_imul d_X5_get_37 ?_
            refine T_il d_X5_get_38 rfl ?_
            refine T_iadd d_X5_get_39 ?_
            refine F_ia d_X5_get_40 rfl hB rfl ⟨by omega, by omega⟩ (fun b_6 => ?_)
            refine T_go d_X5_get_41 ?_
            -- leaf 1f.9f.13f.18f.28f@45
            exact P_I d_X5_get_45 (by grind)
set_option maxHeartbeats 1000000 in
set_option maxRecDepth 100000 in
theorem R_X5_isFull_10 {G : GG} {V : VV} {R : RR}   (hB : Bd V) (hF : FinR R) : RunsP G M_X5_isFull 1 [vr 10] V R (vi (bi (decide (V 10 1 ≤ V 10 2)))) := by
  unfold RunsP
  refine Runs.of pn_X5 (Nat.le_of_ble_eq_true rfl) rfl ?_
  show TT G M_X5_isFull (rmd 1 162 162) 162 (Zm G 162 162 (QP V R (vi (bi (decide (V 10 1 ≤ V 10 2)))))) 162 0 [(0, vr 10)] [] V R
  refine T_al d_X5_isFull_0 rfl ?_
  refine F_gi d_X5_isFull_1 rfl hB rfl (fun b_1 => ?_)
  refine T_al d_X5_isFull_4 rfl ?_
  refine F_gi d_X5_isFull_5 rfl hB rfl (fun b_2 => ?_)
  refine T_ilt d_X5_isFull_8 ⟨by omega, by omega⟩ ⟨by omega, by omega⟩ (fun h8 => ?_) (fun h8 => ?_)
  · skip
    refine T_k d_X5_isFull_15 ?_
    -- leaf 8t@16
    exact P_F d_X5_isFull_16 (by first | omega | grind)
  · skip
    refine T_k d_X5_isFull_11 ?_
    refine T_go d_X5_isFull_12 ?_
    -- leaf 8f@16
    exact P_T d_X5_isFull_16 (by first | omega | grind)
set_option maxHeartbeats 1000000 in
set_option maxRecDepth 100000 in
theorem R_X5_add_10 {G : GG} {V : VV} {R : RR} {x1 : Int} {x2 : Int} {x3 : Int} {x4 : Int} {x5 : Int}  (hB : Bd V) (hF : FinR R) (hrm : V 10 1 = 60) (hsz : V 10 2 < 60) (hx : (0 ≤ x1 ∧ x1 ≤ 400) ∧ (0 ≤ x2 ∧ x2 ≤ 400) ∧ (0 ≤ x3 ∧ x3 ≤ 400) ∧ (0 ≤ x4 ∧ x4 ≤ 400) ∧ (0 ≤ x5 ∧ x5 ≤ 400)) : Runs G M_X5_add 2 162 162 [vr 10, vi x1, vi x2, vi x3, vi x4, vi x5] V R (QU R (addV V 10 11 x1 x2 x3 x4 x5)) := by
  refine Runs.of pn_X5 (Nat.le_of_ble_eq_true rfl) rfl ?_
  show TT G M_X5_add (rmd 2 162 162) 162 (Zm G 162 162 (QU R (addV V 10 11 x1 x2 x3 x4 x5))) 162 0 [(0, vr 10), (1, vi x1), (2, vi x2), (3, vi x3), (4, vi x4), (5, vi x5)] [] V R
  refine T_al d_X5_add_0 rfl ?_
  refine C_pv0 d_X5_add_1 rfl (hdF (by decide)) (hcF _) (R_X5_isFull_10 (by first | assumption | omega | exact ⟨by omega, by omega⟩ | (subst_vars; simp_all [uV]; done) | grind [uV]) (by first | assumption | omega | exact ⟨by omega, by omega⟩ | (subst_vars; simp_all [uV]; done) | grind [uV])) ?_
  refine T_pz0 d_X5_add_4 (fun h4 => ?_) (fun h4 => ?_)
  · skip
    refine T_al d_X5_add_8 rfl ?_
    refine F_gi d_X5_add_9 rfl hB rfl (fun b_1 => ?_)
    refine T_k d_X5_add_12 ?_
    refine T_imul d_X5_add_13 ?_
    refine F_isg d_X5_add_14 (f := fun x_2 => [(0, vr 10), (1, vi x1), (2, vi x2), (3, vi x3), (4, vi x4), (5, vi x5), (6, vi x_2)]) (fun _ => rfl) (fun x_2 ex_2 => ?_)
    refine T_al d_X5_add_16 rfl ?_
    refine F_gr (b := 11) d_X5_add_17 rfl hF rfl ?_
    refine T_il d_X5_add_20 rfl ?_
    refine T_il d_X5_add_22 rfl ?_
    refine F_is d_X5_add_23 rfl hB rfl ⟨by omega, by omega⟩ ⟨by omega, by omega⟩ (fun V_3 eV_3 hBV_3 => ?_)
    refine T_al d_X5_add_24 rfl ?_
    refine F_gr (b := 11) d_X5_add_25 rfl hF rfl ?_
    refine T_il d_X5_add_28 rfl ?_
    refine T_k d_X5_add_30 ?_
    refine T_iadd d_X5_add_31 ?_
    refine T_il d_X5_add_32 rfl ?_
    refine F_is d_X5_add_33 rfl hBV_3 rfl ⟨by omega, by omega⟩ ⟨by omega, by omega⟩ (fun V_4 eV_4 hBV_4 => ?_)
    refine T_al d_X5_add_34 rfl ?_
    refine F_gr (b := 11) d_X5_add_35 rfl hF rfl ?_
    refine T_il d_X5_add_38 rfl ?_
    refine T_k d_X5_add_40 ?_
    refine T_iadd d_X5_add_41 ?_
    refine T_il d_X5_add_42 rfl ?_
    refine F_is d_X5_add_43 rfl hBV_4 rfl ⟨by omega, by omega⟩ ⟨by omega, by omega⟩ (fun V_5 eV_5 hBV_5 => ?_)
    refine T_al d_X5_add_44 rfl ?_
    refine F_gr (b := 11) d_X5_add_45 rfl hF rfl ?_
    refine T_il d_X5_add_48 rfl ?_
    refine T_k d_X5_add_50 ?_
    refine T_iadd d_X5_add_51 ?_
    refine T_il d_X5_add_52 rfl ?_
    refine F_is d_X5_add_54 rfl hBV_5 rfl ⟨by omega, by omega⟩ ⟨by omega, by omega⟩ (fun V_6 eV_6 hBV_6 => ?_)
    refine T_al d_X5_add_55 rfl ?_
    refine F_gr (b := 11) d_X5_add_56 rfl hF rfl ?_
    refine T_il d_X5_add_59 rfl ?_
    refine T_k d_X5_add_61 ?_
    refine T_iadd d_X5_add_62 ?_
    refine T_il d_X5_add_63 rfl ?_
    refine F_is d_X5_add_65 rfl hBV_6 rfl ⟨by omega, by omega⟩ ⟨by omega, by omega⟩ (fun V_7 eV_7 hBV_7 => ?_)
    refine T_al d_X5_add_66 rfl ?_
    refine T_dup d_X5_add_67 rfl ?_
    refine F_gi d_X5_add_68 rfl hBV_7 rfl (fun b_8 => ?_)
    have fV_7_10_2 : V_7 10 2 = V 10 2 := by rw [eV_7, eV_6, eV_5, eV_4, eV_3]; rfl
    refine T_k d_X5_add_71 ?_
    refine T_iadd d_X5_add_72 ?_
    refine F_pi d_X5_add_73 rfl hBV_7 rfl ⟨by omega, by omega⟩ (fun V_9 eV_9 hBV_9 => ?_)
    -- leaf 4t@76
    refine T_vret d_X5_add_76 rfl ?_
    refine ⟨rfl, ?_, rfl, hBV_9⟩
    subst_vars
    first | grind | (simp_all [addV, markV, forgV, uV]; done) | (funext a i; simp_all [addV, markV, forgV, uV]; done)
  · skip
    -- leaf 4f@7
    refine T_vret d_X5_add_7 rfl ?_
    exfalso; omega
set_option maxHeartbeats 1000000 in
set_option maxRecDepth 100000 in
theorem R_X5_get_10 {G : GG} {V : VV} {R : RR} {r : Int} {c : Int}  (hB : Bd V) (hF : FinR R) (hr : r32 r) (hc : r32 c) (hrm : V 10 2 ≤ 60) : RunsP G M_X5_get 1 [vr 10, vi r, vi c] V R (vi (if 0 ≤ r ∧ r < V 10 2 ∧ 0 ≤ c ∧ c < 5 then V 11 (r * 5 + c).toNat else 0)) := by
  unfold RunsP
  refine Runs.of pn_X5 (Nat.le_of_ble_eq_true rfl) rfl ?_
  show TT G M_X5_get (rmd 1 162 162) 162 (Zm G 162 162 (QP V R (vi (if 0 ≤ r ∧ r < V 10 2 ∧ 0 ≤ c ∧ c < 5 then V 11 (r * 5 + c).toNat else 0)))) 162 0 [(0, vr 10), (1, vi r), (2, vi c)] [] V R
  obtain ⟨hr1, hr2⟩ := hr
  obtain ⟨hc1, hc2⟩ := hc
  refine T_il d_X5_get_0 rfl ?_
  refine T_zlt d_X5_get_1 ⟨by omega, by omega⟩ (fun h1 => ?_) (fun h1 => ?_)
  · skip
    refine T_k d_X5_get_25 ?_
    refine T_is d_X5_get_26 (ls' := [(0, vr 10), (1, vi r), (2, vi c), (3, vi 0)]) rfl ?_
    refine T_il d_X5_get_27 rfl ?_
    refine T_zeq d_X5_get_28 ⟨by omega, by omega⟩ (fun h28 => ?_) (fun h28 => ?_)
    · skip
      refine T_k d_X5_get_44 ?_
      -- leaf 1t.28t@45
      exact P_I d_X5_get_45 (by grind)
    · skip
      refine T_al d_X5_get_31 rfl ?_
      refine F_gr (b := 11) d_X5_get_32 rfl hF rfl ?_
      refine T_il d_X5_get_35 rfl ?_
      refine T_k d_X5_get_36 ?_
      refine T_imul d_X5_get_37 ?_
      refine T_il d_X5_get_38 rfl ?_
      refine T_iadd d_X5_get_39 ?_
      refine F_ia d_X5_get_40 rfl hB rfl ⟨by omega, by omega⟩ (fun b_1 => ?_)
      refine T_go d_X5_get_41 ?_
      -- leaf 1t.28f@45
      exact P_I d_X5_get_45 (by grind)
  · skip
    refine T_il d_X5_get_4 rfl ?_
    refine T_al d_X5_get_5 rfl ?_
    refine F_gi d_X5_get_6 rfl hB rfl (fun b_2 => ?_)
    refine T_ige d_X5_get_9 ⟨by omega, by omega⟩ ⟨by omega, by omega⟩ (fun h9 => ?_) (fun h9 => ?_)
    · skip
      refine T_k d_X5_get_25 ?_
      refine T_is d_X5_get_26 (ls' := [(0, vr 10), (1, vi r), (2, vi c), (3, vi 0)]) rfl ?_
      refine T_il d_X5_get_27 rfl ?_
      refine T_zeq d_X5_get_28 ⟨by omega, by omega⟩ (fun h28 => ?_) (fun h28 => ?_)
      · skip
        refine T_k d_X5_get_44 ?_
        -- leaf 1f.9t.28t@45
        exact P_I d_X5_get_45 (by grind)
      · skip
        refine T_al d_X5_get_31 rfl ?_
        refine F_gr (b := 11) d_X5_get_32 rfl hF rfl ?_
        refine T_il d_X5_get_35 rfl ?_
        refine T_k d_X5_get_36 ?_
        refine T_imul d_X5_get_37 ?_
        refine T_il d_X5_get_38 rfl ?_
        refine T_iadd d_X5_get_39 ?_
        refine F_ia d_X5_get_40 rfl hB rfl ⟨by omega, by omega⟩ (fun b_3 => ?_)
        refine T_go d_X5_get_41 ?_
        -- leaf 1f.9t.28f@45
        exact P_I d_X5_get_45 (by grind)
    · skip
      refine T_il d_X5_get_12 rfl ?_
      refine T_zlt d_X5_get_13 ⟨by omega, by omega⟩ (fun h13 => ?_) (fun h13 => ?_)
      · skip
        refine T_k d_X5_get_25 ?_
        refine T_is d_X5_get_26 (ls' := [(0, vr 10), (1, vi r), (2, vi c), (3, vi 0)]) rfl ?_
        refine T_il d_X5_get_27 rfl ?_
        refine T_zeq d_X5_get_28 ⟨by omega, by omega⟩ (fun h28 => ?_) (fun h28 => ?_)
        · skip
          refine T_k d_X5_get_44 ?_
          -- leaf 1f.9f.13t.28t@45
          exact P_I d_X5_get_45 (by grind)
        · skip
          refine T_al d_X5_get_31 rfl ?_
          refine F_gr (b := 11) d_X5_get_32 rfl hF rfl ?_
          refine T_il d_X5_get_35 rfl ?_
          refine T_k d_X5_get_36 ?_
          refine T_imul d_X5_get_37 ?_
          refine T_il d_X5_get_38 rfl ?_
          refine T_iadd d_X5_get_39 ?_
          refine F_ia d_X5_get_40 rfl hB rfl ⟨by omega, by omega⟩ (fun b_4 => ?_)
          refine T_go d_X5_get_41 ?_
          -- leaf 1f.9f.13t.28f@45
          exact P_I d_X5_get_45 (by grind)
      · skip
        refine T_il d_X5_get_16 rfl ?_
        refine T_k d_X5_get_17 ?_
        refine T_ige d_X5_get_18 ⟨by omega, by omega⟩ ⟨by omega, by omega⟩ (fun h18 => ?_) (fun h18 => ?_)
        · skip
          refine T_k d_X5_get_25 ?_
          refine T_is d_X5_get_26 (ls' := [(0, vr 10), (1, vi r), (2, vi c), (3, vi 0)]) rfl ?_
          refine T_il d_X5_get_27 rfl ?_
          refine T_zeq d_X5_get_28 ⟨by omega, by omega⟩ (fun h28 => ?_) (fun h28 => ?_)
          · skip
            refine T_k d_X5_get_44 ?_
            -- leaf 1f.9f.13f.18t.28t@45
            exact P_I d_X5_get_45 (by grind)
          · skip
            refine T_al d_X5_get_31 rfl ?_
            refine F_gr (b := 11) d_X5_get_32 rfl hF rfl ?_
            refine T_il d_X5_get_35 rfl ?_
            refine T_k d_X5_get_36 ?_
            refine T_imul d_X5_get_37 ?_
            refine T_il d_X5_get_38 rfl ?_
            refine T_iadd d_X5_get_39 ?_
            refine F_ia d_X5_get_40 rfl hB rfl ⟨by omega, by omega⟩ (fun b_5 => ?_)
            refine T_go d_X5_get_41 ?_
            -- leaf 1f.9f.13f.18t.28f@45
            exact P_I d_X5_get_45 (by grind)
        · skip
          refine T_k d_X5_get_21 ?_
          refine T_go d_X5_get_22 ?_
          refine T_is d_X5_get_26 (ls' := [(0, vr 10), (1, vi r), (2, vi c), (3, vi 1)]) rfl ?_
          refine T_il d_X5_get_27 rfl ?_
          refine T_zeq d_X5_get_28 ⟨by omega, by omega⟩ (fun h28 => ?_) (fun h28 => ?_)
          · skip
            refine T_k d_X5_get_44 ?_
            -- leaf 1f.9f.13f.18f.28t@45
            exact P_I d_X5_get_45 (by grind)
          · skip
            refine T_al d_X5_get_31 rfl ?_
            refine F_gr (b := 11) d_X5_get_32 rfl hF rfl ?_
            refine T_il d_X5_get_35 rfl ?_
            refine T_k d_X5_get_36 ?_
            refine T_imul d_X5_get_37 ?_
            refine T_il d_X5_get_38 rfl ?_
            refine T_iadd d_X5_get_39 ?_
            refine F_ia d_X5_get_40 rfl hB rfl ⟨by omega, by omega⟩ (fun b_6 => ?_)
            refine T_go d_X5_get_41 ?_
            -- leaf 1f.9f.13f.18f.28f@45
            exact P_I d_X5_get_45 (by grind)
set_option maxHeartbeats 1000000 in
set_option maxRecDepth 100000 in
theorem R_X5_isFull_12 {G : GG} {V : VV} {R : RR}   (hB : Bd V) (hF : FinR R) : RunsP G M_X5_isFull 1 [vr 12] V R (vi (bi (decide (V 12 1 ≤ V 12 2)))) := by
  unfold RunsP
  refine Runs.of pn_X5 (Nat.le_of_ble_eq_true rfl) rfl ?_
  show TT G M_X5_isFull (rmd 1 162 162) 162 (Zm G 162 162 (QP V R (vi (bi (decide (V 12 1 ≤ V 12 2)))))) 162 0 [(0, vr 12)] [] V R
  refine T_al d_X5_isFull_0 rfl ?_
  refine F_gi d_X5_isFull_1 rfl hB rfl (fun b_1 => ?_)
  refine T_al d_X5_isFull_4 rfl ?_
  refine F_gi d_X5_isFull_5 rfl hB rfl (fun b_2 => ?_)
  refine T_ilt d_X5_isFull_8 ⟨by omega, by omega⟩ ⟨by omega, by omega⟩ (fun h8 => ?_) (fun h8 => ?_)
  · skip
    refine T_k d_X5_isFull_15 ?_
    -- leaf 8t@16
    exact P_F d_X5_isFull_16 (by first | omega | grind)
  · skip
    refine T_k d_X5_isFull_11 ?_
    refine T_go d_X5_isFull_12 ?_
    -- leaf 8f@16
    exact P_T d_X5_isFull_16 (by first | omega | grind)
set_option maxHeartbeats 1000000 in
set_option maxRecDepth 100000 in
theorem R_X5_add_12 {G : GG} {V : VV} {R : RR} {x1 : Int} {x2 : Int} {x3 : Int} {x4 : Int} {x5 : Int}  (hB : Bd V) (hF : FinR R) (hrm : V 12 1 = 60) (hsz : V 12 2 < 60) (hx : (0 ≤ x1 ∧ x1 ≤ 2000) ∧ (0 ≤ x2 ∧ x2 ≤ 2000) ∧ (0 ≤ x3 ∧ x3 ≤ 2000) ∧ (0 ≤ x4 ∧ x4 ≤ 2000) ∧ (0 ≤ x5 ∧ x5 ≤ 2000)) : Runs G M_X5_add 2 162 162 [vr 12, vi x1, vi x2, vi x3, vi x4, vi x5] V R (QU R (addV V 12 13 x1 x2 x3 x4 x5)) := by
  refine Runs.of pn_X5 (Nat.le_of_ble_eq_true rfl) rfl ?_
  show TT G M_X5_add (rmd 2 162 162) 162 (Zm G 162 162 (QU R (addV V 12 13 x1 x2 x3 x4 x5))) 162 0 [(0, vr 12), (1, vi x1), (2, vi x2), (3, vi x3), (4, vi x4), (5, vi x5)] [] V R
  refine T_al d_X5_add_0 rfl ?_
  refine C_pv0 d_X5_add_1 rfl (hdF (by decide)) (hcF _) (R_X5_isFull_12 (by first | assumption | omega | exact ⟨by omega, by omega⟩ | (subst_vars; simp_all [uV]; done) | grind [uV]) (by first | assumption | omega | exact ⟨by omega, by omega⟩ | (subst_vars; simp_all [uV]; done) | grind [uV])) ?_
  refine T_pz0 d_X5_add_4 (fun h4 => ?_) (fun h4 => ?_)
  · skip
    refine T_al d_X5_add_8 rfl ?_
    refine F_gi d_X5_add_9 rfl hB rfl (fun b_1 => ?_)
    refine T_k d_X5_add_12 ?_
    refine T_imul d_X5_add_13 ?_
    refine F_isg d_X5_add_14 (f := fun x_2 => [(0, vr 12), (1, vi x1), (2, vi x2), (3, vi x3), (4, vi x4), (5, vi x5), (6, vi x_2)]) (fun _ => rfl) (fun x_2 ex_2 => ?_)
    refine T_al d_X5_add_16 rfl ?_
    refine F_gr (b := 13) d_X5_add_17 rfl hF rfl ?_
    refine T_il d_X5_add_20 rfl ?_
    refine T_il d_X5_add_22 rfl ?_
    refine F_is d_X5_add_23 rfl hB rfl ⟨by omega, by omega⟩ ⟨by omega, by omega⟩ (fun V_3 eV_3 hBV_3 => ?_)
    refine T_al d_X5_add_24 rfl ?_
    refine F_gr (b := 13) d_X5_add_25 rfl hF rfl ?_
    refine T_il d_X5_add_28 rfl ?_
    refine T_k d_X5_add_30 ?_
    refine T_iadd d_X5_add_31 ?_
    refine T_il d_X5_add_32 rfl ?_
    refine F_is d_X5_add_33 rfl hBV_3 rfl ⟨by omega, by omega⟩ ⟨by omega, by omega⟩ (fun V_4 eV_4 hBV_4 => ?_)
    refine T_al d_X5_add_34 rfl ?_
    refine F_gr (b := 13) d_X5_add_35 rfl hF rfl ?_
    refine T_il d_X5_add_38 rfl ?_
    refine T_k d_X5_add_40 ?_
    refine T_iadd d_X5_add_41 ?_
    refine T_il d_X5_add_42 rfl ?_
    refine F_is d_X5_add_43 rfl hBV_4 rfl ⟨by omega, by omega⟩ ⟨by omega, by omega⟩ (fun V_5 eV_5 hBV_5 => ?_)
    refine T_al d_X5_add_44 rfl ?_
    refine F_gr (b := 13) d_X5_add_45 rfl hF rfl ?_
    refine T_il d_X5_add_48 rfl ?_
    refine T_k d_X5_add_50 ?_
    refine T_iadd d_X5_add_51 ?_
    refine T_il d_X5_add_52 rfl ?_
    refine F_is d_X5_add_54 rfl hBV_5 rfl ⟨by omega, by omega⟩ ⟨by omega, by omega⟩ (fun V_6 eV_6 hBV_6 => ?_)
    refine T_al d_X5_add_55 rfl ?_
    refine F_gr (b := 13) d_X5_add_56 rfl hF rfl ?_
    refine T_il d_X5_add_59 rfl ?_
    refine T_k d_X5_add_61 ?_
    refine T_iadd d_X5_add_62 ?_
    refine T_il d_X5_add_63 rfl ?_
    refine F_is d_X5_add_65 rfl hBV_6 rfl ⟨by omega, by omega⟩ ⟨by omega, by omega⟩ (fun V_7 eV_7 hBV_7 => ?_)
    refine T_al d_X5_add_66 rfl ?_
    refine T_dup d_X5_add_67 rfl ?_
    refine F_gi d_X5_add_68 rfl hBV_7 rfl (fun b_8 => ?_)
    have fV_7_12_2 : V_7 12 2 = V 12 2 := by rw [eV_7, eV_6, eV_5, eV_4, eV_3]; rfl
    refine T_k d_X5_add_71 ?_
    refine T_iadd d_X5_add_72 ?_
    refine F_pi d_X5_add_73 rfl hBV_7 rfl ⟨by omega, by omega⟩ (fun V_9 eV_9 hBV_9 => ?_)
    -- leaf 4t@76
    refine T_vret d_X5_add_76 rfl ?_
    refine ⟨rfl, ?_, rfl, hBV_9⟩
    subst_vars
    first | grind | (simp_all [addV, markV, forgV, uV]; done) | (funext a i; simp_all [addV, markV, forgV, uV]; done)
  · skip
    -- leaf 4f@7
    refine T_vret d_X5_add_7 rfl ?_
    exfalso; omega
set_option maxHeartbeats 1000000 in
set_option maxRecDepth 100000 in
theorem R_X5_get_12 {G : GG} {V : VV} {R : RR} {r : Int} {c : Int}  (hB : Bd V) (hF : FinR R) (hr : r32 r) (hc : r32 c) (hrm : V 12 2 ≤ 60) : RunsP G M_X5_get 1 [vr 12, vi r, vi c] V R (vi (if 0 ≤ r ∧ r < V 12 2 ∧ 0 ≤ c ∧ c < 5 then V 13 (r * 5 + c).toNat else 0)) := by
  unfold RunsP
  refine Runs.of pn_X5 (Nat.le_of_ble_eq_true rfl) rfl ?_
  show TT G M_X5_get (rmd 1 162 162) 162 (Zm G 162 162 (QP V R (vi (if 0 ≤ r ∧ r < V 12 2 ∧ 0 ≤ c ∧ c < 5 then V 13 (r * 5 + c).toNat else 0)))) 162 0 [(0, vr 12), (1, vi r), (2, vi c)] [] V R
  obtain ⟨hr1, hr2⟩ := hr
  obtain ⟨hc1, hc2⟩ := hc
  refine T_il d_X5_get_0 rfl ?_
  refine T_zlt d_X5_get_1 ⟨by omega, by omega⟩ (fun h1 => ?_) (fun h1 => ?_)
  · skip
    refine T_k d_X5_get_25 ?_
    refine T_is d_X5_get_26 (ls' := [(0, vr 12), (1, vi r), (2, vi c), (3, vi 0)]) rfl ?_
    refine T_il d_X5_get_27 rfl ?_
    refine T_zeq d_X5_get_28 ⟨by omega, by omega⟩ (fun h28 => ?_) (fun h28 => ?_)
    · skip
      refine T_k d_X5_get_44 ?_
      -- leaf 1t.28t@45
      exact P_I d_X5_get_45 (by grind)
    · skip
      refine T_al d_X5_get_31 rfl ?_
      refine F_gr (b := 13) d_X5_get_32 rfl hF rfl ?_
      refine T_il d_X5_get_35 rfl ?_
      refine T_k d_X5_get_36 ?_
      refine T_imul d_X5_get_37 ?_
      refine T_il d_X5_get_38 rfl ?_
      refine T_iadd d_X5_get_39 ?_
      refine F_ia d_X5_get_40 rfl hB rfl ⟨by omega, by omega⟩ (fun b_1 => ?_)
      refine T_go d_X5_get_41 ?_
      -- leaf 1t.28f@45
      exact P_I d_X5_get_45 (by grind)
  · skip
    refine T_il d_X5_get_4 rfl ?_
    refine T_al d_X5_get_5 rfl ?_
    refine F_gi d_X5_get_6 rfl hB rfl (fun b_2 => ?_)
    refine T_ige d_X5_get_9 ⟨by omega, by omega⟩ ⟨by omega, by omega⟩ (fun h9 => ?_) (fun h9 => ?_)
    · skip
      refine T_k d_X5_get_25 ?_
      refine T_is d_X5_get_26 (ls' := [(0, vr 12), (1, vi r), (2, vi c), (3, vi 0)]) rfl ?_
      refine T_il d_X5_get_27 rfl ?_
      refine T_zeq d_X5_get_28 ⟨by omega, by omega⟩ (fun h28 => ?_) (fun h28 => ?_)
      · skip
        refine T_k d_X5_get_44 ?_
        -- leaf 1f.9t.28t@45
        exact P_I d_X5_get_45 (by grind)
      · skip
        refine T_al d_X5_get_31 rfl ?_
        refine F_gr (b := 13) d_X5_get_32 rfl hF rfl ?_
        refine T_il d_X5_get_35 rfl ?_
        refine T_k d_X5_get_36 ?_
        refine T_imul d_X5_get_37 ?_
        refine T_il d_X5_get_38 rfl ?_
        refine T_iadd d_X5_get_39 ?_
        refine F_ia d_X5_get_40 rfl hB rfl ⟨by omega, by omega⟩ (fun b_3 => ?_)
        refine T_go d_X5_get_41 ?_
        -- leaf 1f.9t.28f@45
        exact P_I d_X5_get_45 (by grind)
    · skip
      refine T_il d_X5_get_12 rfl ?_
      refine T_zlt d_X5_get_13 ⟨by omega, by omega⟩ (fun h13 => ?_) (fun h13 => ?_)
      · skip
        refine T_k d_X5_get_25 ?_
        refine T_is d_X5_get_26 (ls' := [(0, vr 12), (1, vi r), (2, vi c), (3, vi 0)]) rfl ?_
        refine T_il d_X5_get_27 rfl ?_
        refine T_zeq d_X5_get_28 ⟨by omega, by omega⟩ (fun h28 => ?_) (fun h28 => ?_)
        · skip
          refine T_k d_X5_get_44 ?_
          -- leaf 1f.9f.13t.28t@45
          exact P_I d_X5_get_45 (by grind)
        · skip
          refine T_al d_X5_get_31 rfl ?_
          refine F_gr (b := 13) d_X5_get_32 rfl hF rfl ?_
          refine T_il d_X5_get_35 rfl ?_
          refine T_k d_X5_get_36 ?_
          refine T_imul d_X5_get_37 ?_
          refine T_il d_X5_get_38 rfl ?_
          refine T_iadd d_X5_get_39 ?_
          refine F_ia d_X5_get_40 rfl hB rfl ⟨by omega, by omega⟩ (fun b_4 => ?_)
          refine T_go d_X5_get_41 ?_
          -- leaf 1f.9f.13t.28f@45
          exact P_I d_X5_get_45 (by grind)
      · skip
        refine T_il d_X5_get_16 rfl ?_
        refine T_k d_X5_get_17 ?_
        refine T_ige d_X5_get_18 ⟨by omega, by omega⟩ ⟨by omega, by omega⟩ (fun h18 => ?_) (fun h18 => ?_)
        · skip
          refine T_k d_X5_get_25 ?_
          refine T_is d_X5_get_26 (ls' := [(0, vr 12), (1, vi r), (2, vi c), (3, vi 0)]) rfl ?_
          refine T_il d_X5_get_27 rfl ?_
          refine T_zeq d_X5_get_28 ⟨by omega, by omega⟩ (fun h28 => ?_) (fun h28 => ?_)
          · skip
            refine T_k d_X5_get_44 ?_
            -- leaf 1f.9f.13f.18t.28t@45
            exact P_I d_X5_get_45 (by grind)
          · skip
            refine T_al d_X5_get_31 rfl ?_
            refine F_gr (b := 13) d_X5_get_32 rfl hF rfl ?_
            refine T_il d_X5_get_35 rfl ?_
            refine T_k d_X5_get_36 ?_
            refine T_imul d_X5_get_37 ?_
            refine T_il d_X5_get_38 rfl ?_
            refine T_iadd d_X5_get_39 ?_
            refine F_ia d_X5_get_40 rfl hB rfl ⟨by omega, by omega⟩ (fun b_5 => ?_)
            refine T_go d_X5_get_41 ?_
            -- leaf 1f.9f.13f.18t.28f@45
            exact P_I d_X5_get_45 (by grind)
        · skip
          refine T_k d_X5_get_21 ?_
          refine T_go d_X5_get_22 ?_
          refine T_is d_X5_get_26 (ls' := [(0, vr 12), (1, vi r), (2, vi c), (3, vi 1)]) rfl ?_
          refine T_il d_X5_get_27 rfl ?_
          refine T_zeq d_X5_get_28 ⟨by omega, by omega⟩ (fun h28 => ?_) (fun h28 => ?_)
          · skip
            refine T_k d_X5_get_44 ?_
            -- leaf 1f.9f.13f.18f.28t@45
            exact P_I d_X5_get_45 (by grind)
          · skip
            refine T_al d_X5_get_31 rfl ?_
            refine F_gr (b := 13) d_X5_get_32 rfl hF rfl ?_
            refine T_il d_X5_get_35 rfl ?_
            refine T_k d_X5_get_36 ?_
            refine T_imul d_X5_get_37 ?_
            refine T_il d_X5_get_38 rfl ?_
            refine T_iadd d_X5_get_39 ?_
            refine F_ia d_X5_get_40 rfl hB rfl ⟨by omega, by omega⟩ (fun b_6 => ?_)
            refine T_go d_X5_get_41 ?_
            -- leaf 1f.9f.13f.18f.28f@45
            exact P_I d_X5_get_45 (by grind)
set_option maxHeartbeats 1000000 in
set_option maxRecDepth 100000 in
theorem R_X0_hasHole {G : GG} {V : VV} {R : RR} {h : Int}  (hB : Bd V) (hF : FinR R) (hh : r32 h) : RunsP G M_X0_hasHole 2 [vr 1, vi h] V R (vi (bi (decide (hasC V h)))) := by
  unfold RunsP
  refine Runs.of pn_X0 (Nat.le_of_ble_eq_true rfl) rfl ?_
  show TT G M_X0_hasHole (rmd 2 162 162) 162 (Zm G 162 162 (QP V R (vi (bi (decide (hasC V h)))))) 162 0 [(0, vr 1), (1, vi h)] [] V R
  obtain ⟨hh1, hh2⟩ := hh
  refine T_il d_X0_hasHole_0 rfl ?_
  refine T_k d_X0_hasHole_1 ?_
  refine T_al d_X0_hasHole_2 rfl ?_
  refine F_gr (b := 2) d_X0_hasHole_3 rfl hF rfl ?_
  refine F_gi d_X0_hasHole_6 rfl hB rfl (fun b_1 => ?_)
  refine T_k d_X0_hasHole_9 ?_
  refine T_isub d_X0_hasHole_10 ?_
  refine C_ps3 d_X0_hasHole_11 (hdF (by decide)) (hcF _) (R_X10_isIn (by first | assumption | omega | exact ⟨by omega, by omega⟩ | (subst_vars; simp_all [uV]; done) | grind [uV]) (by first | assumption | omega | exact ⟨by omega, by omega⟩ | (subst_vars; simp_all [uV]; done) | grind [uV]) (by first | assumption | omega | exact ⟨by omega, by omega⟩ | (subst_vars; simp_all [uV]; done) | grind [uV])) ?_
  -- leaf @14
  exact P_B d_X0_hasHole_14 (by first | omega | grind)
set_option maxHeartbeats 1000000 in
set_option maxRecDepth 100000 in
theorem R_X0_mark {G : GG} {V : VV} {R : RR} {k : Int}  (hB : Bd V) (hF : FinR R) (hk : wkP k) : Runs G M_X0_mark 3 162 162 [vr 1, vi k] V R (QU R (markV V k)) := by
  refine Runs.of pn_X0 (Nat.le_of_ble_eq_true rfl) rfl ?_
  show TT G M_X0_mark (rmd 3 162 162) 162 (Zm G 162 162 (QU R (markV V k))) 162 0 [(0, vr 1), (1, vi k)] [] V R
  refine T_il d_X0_mark_0 rfl ?_
  refine C_ps1 d_X0_mark_1 (hdF (by decide)) (hcF _) (R_X10_isWeek (by first | assumption | omega | exact ⟨by omega, by omega⟩ | (subst_vars; simp_all [uV]; done) | grind [uV])) ?_
  refine T_pz0 d_X0_mark_4 (fun h4 => ?_) (fun h4 => ?_)
  · skip
    -- leaf 4t@14
    refine T_vret d_X0_mark_14 rfl ?_
    refine ⟨rfl, ?_, rfl, hB⟩
    subst_vars
    first | grind | (simp_all [addV, markV, forgV, uV]; done) | (funext a i; simp_all [addV, markV, forgV, uV]; done)
  · skip
    refine T_al d_X0_mark_7 rfl ?_
    refine F_gr (b := 15) d_X0_mark_8 rfl hF rfl ?_
    refine T_il d_X0_mark_11 rfl ?_
    refine T_k d_X0_mark_12 ?_
    refine F_zs d_X0_mark_13 rfl hB rfl ⟨by omega, by omega⟩ ⟨by omega, by omega⟩ (fun V_1 eV_1 hBV_1 => ?_)
    -- leaf 4f@14
    refine T_vret d_X0_mark_14 rfl ?_
    refine ⟨rfl, ?_, rfl, hBV_1⟩
    subst_vars
    first | grind | (simp_all [addV, markV, forgV, uV]; done) | (funext a i; simp_all [addV, markV, forgV, uV]; done)
set_option maxHeartbeats 1000000 in
set_option maxRecDepth 100000 in
theorem R_X0_addHole {G : GG} {V : VV} {R : RR} {o : Int} {x : Int} {y : Int} {d : Int} {k : Int}  (hB : Bd V) (hF : FinR R) (hL : LR V) (hsz : V 2 2 < 40) (hx : (0 ≤ o ∧ o ≤ 1) ∧ (-600 ≤ x ∧ x ≤ 1099) ∧ (-600 ≤ y ∧ y ≤ 1099) ∧ (0 ≤ d ∧ d ≤ 200)) (hk : wkP k) : Runs G M_X0_addHole 4 162 162 [vr 1, vi o, vi x, vi y, vi d, vi k] V R (QV R (V 2 2) (markV (addV (uV V 14 (V 2 2).toNat 401) 2 3 o x y d k) k)) := by
  refine Runs.of pn_X0 (Nat.le_of_ble_eq_true rfl) rfl ?_
  show TT G M_X0_addHole (rmd 4 162 162) 162 (Zm G 162 162 (QV R (V 2 2) (markV (addV (uV V 14 (V 2 2).toNat 401) 2 3 o x y d k) k))) 162 0 [(0, vr 1), (1, vi o), (2, vi x), (3, vi y), (4, vi d), (5, vi k)] [] V R
  obtain ⟨hL1, hL2, hL3, hL4, hL5, hL6, hL7, hL8, hL9⟩ := hL
  refine T_al d_X0_addHole_0 rfl ?_
  refine F_gr (b := 2) d_X0_addHole_1 rfl hF rfl ?_
  refine F_gi d_X0_addHole_4 rfl hB rfl (fun b_1 => ?_)
  refine F_isg d_X0_addHole_7 (f := fun x_2 => [(0, vr 1), (1, vi o), (2, vi x), (3, vi y), (4, vi d), (5, vi k), (6, vi x_2)]) (fun _ => rfl) (fun x_2 ex_2 => ?_)
  refine T_il d_X0_addHole_9 rfl ?_
  refine T_k d_X0_addHole_11 ?_
  refine T_ige d_X0_addHole_13 ⟨by omega, by omega⟩ ⟨by omega, by omega⟩ (fun h13 => ?_) (fun h13 => ?_)
  · skip
    refine T_al d_X0_addHole_26 rfl ?_
    refine F_gr (b := 2) d_X0_addHole_27 rfl hF rfl ?_
    refine T_il d_X0_addHole_30 rfl ?_
    refine T_il d_X0_addHole_31 rfl ?_
    refine T_il d_X0_addHole_32 rfl ?_
    refine T_il d_X0_addHole_33 rfl ?_
    refine T_il d_X0_addHole_35 rfl ?_
    refine C_v5 d_X0_addHole_37 rfl (hdF (by decide)) (hcF _) (R_X5_add_2 (by first | assumption | omega | exact ⟨by omega, by omega⟩ | (subst_vars; simp_all [uV]; done) | grind [uV]) (by first | assumption | omega | exact ⟨by omega, by omega⟩ | (subst_vars; simp_all [uV]; done) | grind [uV]) (by first | assumption | omega | exact ⟨by omega, by omega⟩ | (subst_vars; simp_all [uV]; done) | grind [uV]) (by first | assumption | omega | exact ⟨by omega, by omega⟩ | (subst_vars; simp_all [uV]; done) | grind [uV]) (by first | assumption | omega | exact ⟨by omega, by omega⟩ | (subst_vars; simp_all [uV]; done) | grind [uV])) (fun r_3 V_4 R_5 qV_4 => ?_)
    obtain ⟨rfl, eV_4, rfl, hBV_4⟩ := qV_4
    refine T_al d_X0_addHole_40 rfl ?_
    refine T_il d_X0_addHole_41 rfl ?_
    refine C_v1 d_X0_addHole_43 rfl (hdF (by decide)) (hcF _) (R_X0_mark (by first | assumption | omega | exact ⟨by omega, by omega⟩ | (subst_vars; simp_all [uV]; done) | grind [uV]) (by first | assumption | omega | exact ⟨by omega, by omega⟩ | (subst_vars; simp_all [uV]; done) | grind [uV]) (by first | assumption | omega | exact ⟨by omega, by omega⟩ | (subst_vars; simp_all [uV]; done) | grind [uV])) (fun r_6 V_7 R_8 qV_7 => ?_)
    obtain ⟨rfl, eV_7, rfl, hBV_7⟩ := qV_7
    refine T_il d_X0_addHole_46 rfl ?_
    -- leaf 13t@48
    refine T_iret d_X0_addHole_48 rfl ?_
    refine ⟨?_, ?_, rfl, hBV_7⟩
    · first | grind | (subst_vars; simp_all [addV, markV, forgV, uV]; done) | (subst_vars; simp_all [addV, markV, forgV, uV]; omega)
    · subst_vars
      first | grind | (simp_all [addV, markV, forgV, uV]; done) | (funext a i; simp_all [addV, markV, forgV, uV]; done)
  · skip
    refine T_al d_X0_addHole_16 rfl ?_
    refine F_gr (b := 14) d_X0_addHole_17 rfl hF rfl ?_
    refine T_il d_X0_addHole_20 rfl ?_
    refine T_k d_X0_addHole_22 ?_
    refine F_is d_X0_addHole_25 rfl hB rfl ⟨by omega, by omega⟩ ⟨by omega, by omega⟩ (fun V_9 eV_9 hBV_9 => ?_)
    refine T_al d_X0_addHole_26 rfl ?_
    refine F_gr (b := 2) d_X0_addHole_27 rfl hF rfl ?_
    refine T_il d_X0_addHole_30 rfl ?_
    refine T_il d_X0_addHole_31 rfl ?_
    refine T_il d_X0_addHole_32 rfl ?_
    refine T_il d_X0_addHole_33 rfl ?_
    refine T_il d_X0_addHole_35 rfl ?_
    refine C_v5 d_X0_addHole_37 rfl (hdF (by decide)) (hcF _) (R_X5_add_2 (by first | assumption | omega | exact ⟨by omega, by omega⟩ | (subst_vars; simp_all [uV]; done) | grind [uV]) (by first | assumption | omega | exact ⟨by omega, by omega⟩ | (subst_vars; simp_all [uV]; done) | grind [uV]) (by first | assumption | omega | exact ⟨by omega, by omega⟩ | (subst_vars; simp_all [uV]; done) | grind [uV]) (by first | assumption | omega | exact ⟨by omega, by omega⟩ | (subst_vars; simp_all [uV]; done) | grind [uV]) (by first | assumption | omega | exact ⟨by omega, by omega⟩ | (subst_vars; simp_all [uV]; done) | grind [uV])) (fun r_10 V_11 R_12 qV_11 => ?_)
    obtain ⟨rfl, eV_11, rfl, hBV_11⟩ := qV_11
    refine T_al d_X0_addHole_40 rfl ?_
    refine T_il d_X0_addHole_41 rfl ?_
    refine C_v1 d_X0_addHole_43 rfl (hdF (by decide)) (hcF _) (R_X0_mark (by first | assumption | omega | exact ⟨by omega, by omega⟩ | (subst_vars; simp_all [uV]; done) | grind [uV]) (by first | assumption | omega | exact ⟨by omega, by omega⟩ | (subst_vars; simp_all [uV]; done) | grind [uV]) (by first | assumption | omega | exact ⟨by omega, by omega⟩ | (subst_vars; simp_all [uV]; done) | grind [uV])) (fun r_13 V_14 R_15 qV_14 => ?_)
    obtain ⟨rfl, eV_14, rfl, hBV_14⟩ := qV_14
    refine T_il d_X0_addHole_46 rfl ?_
    -- leaf 13f@48
    refine T_iret d_X0_addHole_48 rfl ?_
    refine ⟨?_, ?_, rfl, hBV_14⟩
    · first | grind | (subst_vars; simp_all [addV, markV, forgV, uV]; done) | (subst_vars; simp_all [addV, markV, forgV, uV]; omega)
    · subst_vars
      first | grind | (simp_all [addV, markV, forgV, uV]; done) | (funext a i; simp_all [addV, markV, forgV, uV]; done)
set_option maxHeartbeats 1000000 in
set_option maxRecDepth 100000 in
theorem R_X0_strikeHole {G : GG} {V : VV} {R : RR} {h : Int} {k : Int}  (hB : Bd V) (hF : FinR R) (hL : LR V) (hh : hasC V h) (hk : wkP k) : Runs G M_X0_strikeHole 4 162 162 [vr 1, vi h, vi k] V R (QU R (markV (uV V 14 h.toNat (if k < V 14 h.toNat then k else V 14 h.toNat)) k)) := by
  refine Runs.of pn_X0 (Nat.le_of_ble_eq_true rfl) rfl ?_
  show TT G M_X0_strikeHole (rmd 4 162 162) 162 (Zm G 162 162 (QU R (markV (uV V 14 h.toNat (if k < V 14 h.toNat then k else V 14 h.toNat)) k))) 162 0 [(0, vr 1), (1, vi h), (2, vi k)] [] V R
  obtain ⟨hL1, hL2, hL3, hL4, hL5, hL6, hL7, hL8, hL9⟩ := hL
  refine T_al d_X0_strikeHole_0 rfl ?_
  refine T_il d_X0_strikeHole_1 rfl ?_
  refine C_pv1 d_X0_strikeHole_2 rfl (hdF (by decide)) (hcF _) (R_X0_hasHole (by first | assumption | omega | exact ⟨by omega, by omega⟩ | (subst_vars; simp_all [uV]; done) | grind [uV]) (by first | assumption | omega | exact ⟨by omega, by omega⟩ | (subst_vars; simp_all [uV]; done) | grind [uV]) (by first | assumption | omega | exact ⟨by omega, by omega⟩ | (subst_vars; simp_all [uV]; done) | grind [uV])) ?_
  refine T_pz0 d_X0_strikeHole_5 (fun h5 => ?_) (fun h5 => ?_)
  · skip
    -- leaf 5t@29
    refine T_vret d_X0_strikeHole_29 rfl ?_
    refine ⟨rfl, ?_, rfl, hB⟩
    subst_vars
    first | grind | (simp_all [addV, markV, forgV, uV]; done) | (funext a i; simp_all [addV, markV, forgV, uV]; done)
  · skip
    refine T_al d_X0_strikeHole_8 rfl ?_
    refine F_gr (b := 14) d_X0_strikeHole_9 rfl hF rfl ?_
    refine T_il d_X0_strikeHole_12 rfl ?_
    refine T_al d_X0_strikeHole_13 rfl ?_
    refine F_gr (b := 14) d_X0_strikeHole_14 rfl hF rfl ?_
    refine T_il d_X0_strikeHole_17 rfl ?_
    refine F_ia d_X0_strikeHole_18 rfl hB rfl ⟨by omega, by omega⟩ (fun b_1 => ?_)
    refine T_il d_X0_strikeHole_19 rfl ?_
    refine T_mmin d_X0_strikeHole_20 ⟨by omega, by omega⟩ ⟨by omega, by omega⟩ (Nat.le_of_ble_eq_true rfl) (hmF _) ?_
    refine F_is d_X0_strikeHole_23 rfl hB rfl ⟨by omega, by omega⟩ ⟨by omega, by omega⟩ (fun V_2 eV_2 hBV_2 => ?_)
    refine T_al d_X0_strikeHole_24 rfl ?_
    refine T_il d_X0_strikeHole_25 rfl ?_
    refine C_v1 d_X0_strikeHole_26 rfl (hdF (by decide)) (hcF _) (R_X0_mark (by first | assumption | omega | exact ⟨by omega, by omega⟩ | (subst_vars; simp_all [uV]; done) | grind [uV]) (by first | assumption | omega | exact ⟨by omega, by omega⟩ | (subst_vars; simp_all [uV]; done) | grind [uV]) (by first | assumption | omega | exact ⟨by omega, by omega⟩ | (subst_vars; simp_all [uV]; done) | grind [uV])) (fun r_3 V_4 R_5 qV_4 => ?_)
    obtain ⟨rfl, eV_4, rfl, hBV_4⟩ := qV_4
    -- leaf 5f@29
    refine T_vret d_X0_strikeHole_29 rfl ?_
    refine ⟨rfl, ?_, rfl, hBV_4⟩
    subst_vars
    first | grind | (simp_all [addV, markV, forgV, uV]; done) | (funext a i; simp_all [addV, markV, forgV, uV]; done)
set_option maxHeartbeats 1000000 in
set_option maxRecDepth 100000 in
theorem R_X10_hole {G : GG} {V : VV} {R : RR} {o : Int} {x : Int} {y : Int} {d : Int} {k : Int}  (hB : Bd V) (hF : FinR R) (hL : LR V) (ho : r32 o) (hx : r32 x) (hy : r32 y) (hd : r32 d) (hk : r32 k) : Runs G M_X10_hole 6 162 162 [vr 0, vi o, vi x, vi y, vi d, vi k] V R (QV R (if ¬ ((0 ≤ o ∧ o ≤ 1) ∧ (-600 ≤ x ∧ x ≤ 1099) ∧ (-600 ≤ y ∧ y ≤ 1099) ∧ (0 ≤ d ∧ d ≤ 200) ∧ wkP k) then -1 else (if V 2 2 = 40 then -5 else (V 2 2))) (if ¬ ((0 ≤ o ∧ o ≤ 1) ∧ (-600 ≤ x ∧ x ≤ 1099) ∧ (-600 ≤ y ∧ y ≤ 1099) ∧ (0 ≤ d ∧ d ≤ 200) ∧ wkP k) then uV V 0 3 (-1) else (if V 2 2 = 40 then uV V 0 3 (-5) else (uV (forgV (markV (addV (uV V 14 (V 2 2).toNat 401) 2 3 o x y d k) k) 0) 0 3 0)))) := by
  refine Runs.of pn_X10 (Nat.le_of_ble_eq_true rfl) rfl ?_
  show TT G M_X10_hole (rmd 6 162 162) 162 (Zm G 162 162 (QV R (if ¬ ((0 ≤ o ∧ o ≤ 1) ∧ (-600 ≤ x ∧ x ≤ 1099) ∧ (-600 ≤ y ∧ y ≤ 1099) ∧ (0 ≤ d ∧ d ≤ 200) ∧ wkP k) then -1 else (if V 2 2 = 40 then -5 else (V 2 2))) (if ¬ ((0 ≤ o ∧ o ≤ 1) ∧ (-600 ≤ x ∧ x ≤ 1099) ∧ (-600 ≤ y ∧ y ≤ 1099) ∧ (0 ≤ d ∧ d ≤ 200) ∧ wkP k) then uV V 0 3 (-1) else (if V 2 2 = 40 then uV V 0 3 (-5) else (uV (forgV (markV (addV (uV V 14 (V 2 2).toNat 401) 2 3 o x y d k) k) 0) 0 3 0))))) 162 0 [(0, vr 0), (1, vi o), (2, vi x), (3, vi y), (4, vi d), (5, vi k)] [] V R
  obtain ⟨ho1, ho2⟩ := ho
  obtain ⟨hx1, hx2⟩ := hx
  obtain ⟨hy1, hy2⟩ := hy
  obtain ⟨hd1, hd2⟩ := hd
  obtain ⟨hk1, hk2⟩ := hk
  obtain ⟨hL1, hL2, hL3, hL4, hL5, hL6, hL7, hL8, hL9⟩ := id hL
  have hs2 := hB.2 2 5 2 0 60 rfl rfl
  have hs4 := hB.2 4 5 2 0 60 rfl rfl
  have hs6 := hB.2 6 5 2 0 60 rfl rfl
  have hs8 := hB.2 8 5 2 0 60 rfl rfl
  have hs10 := hB.2 10 5 2 0 60 rfl rfl
  have hs12 := hB.2 12 5 2 0 60 rfl rfl
  refine T_il d_X10_hole_0 rfl ?_
  refine T_k d_X10_hole_1 ?_
  refine T_k d_X10_hole_2 ?_
  refine C_ps3 d_X10_hole_3 (hdF (by decide)) (hcF _) (R_X10_isIn (by first | assumption | omega | exact ⟨by omega, by omega⟩ | (subst_vars; simp_all [uV]; done) | grind [uV]) (by first | assumption | omega | exact ⟨by omega, by omega⟩ | (subst_vars; simp_all [uV]; done) | grind [uV]) (by first | assumption | omega | exact ⟨by omega, by omega⟩ | (subst_vars; simp_all [uV]; done) | grind [uV])) ?_
  refine T_pz0 d_X10_hole_6 (fun h6 => ?_) (fun h6 => ?_)
  · skip
    refine T_al d_X10_hole_55 rfl ?_
    refine T_k d_X10_hole_56 ?_
    refine C_v1 d_X10_hole_57 rfl (hdF (by decide)) (hcF _) (R_X10_refuse (by first | assumption | omega | exact ⟨by omega, by omega⟩ | (subst_vars; simp_all [uV]; done) | grind [uV]) (by first | assumption | omega | exact ⟨by omega, by omega⟩ | (subst_vars; simp_all [uV]; done) | grind [uV]) (by first | assumption | omega | exact ⟨by omega, by omega⟩ | (subst_vars; simp_all [uV]; done) | grind [uV]) (by first | assumption | omega | exact ⟨by omega, by omega⟩ | (subst_vars; simp_all [uV]; done) | grind [uV])) (fun r_1 V_2 R_3 qV_2 => ?_)
    obtain ⟨rfl, eV_2, rfl, hBV_2⟩ := qV_2
    -- leaf 6t@60
    refine T_iret d_X10_hole_60 rfl ?_
    refine ⟨?_, ?_, rfl, hBV_2⟩
    · first | grind | (subst_vars; simp_all [addV, markV, forgV, uV]; done) | (subst_vars; simp_all [addV, markV, forgV, uV]; omega)
    · subst_vars
      first | grind | (simp_all [addV, markV, forgV, uV]; done) | (funext a i; simp_all [addV, markV, forgV, uV]; done)
  · skip
    refine T_il d_X10_hole_9 rfl ?_
    refine T_k d_X10_hole_10 ?_
    refine T_k d_X10_hole_13 ?_
    refine C_ps3 d_X10_hole_16 (hdF (by decide)) (hcF _) (R_X10_isIn (by first | assumption | omega | exact ⟨by omega, by omega⟩ | (subst_vars; simp_all [uV]; done) | grind [uV]) (by first | assumption | omega | exact ⟨by omega, by omega⟩ | (subst_vars; simp_all [uV]; done) | grind [uV]) (by first | assumption | omega | exact ⟨by omega, by omega⟩ | (subst_vars; simp_all [uV]; done) | grind [uV])) ?_
    refine T_pz0 d_X10_hole_19 (fun h19 => ?_) (fun h19 => ?_)
    · skip
      refine T_al d_X10_hole_55 rfl ?_
      refine T_k d_X10_hole_56 ?_
      refine C_v1 d_X10_hole_57 rfl (hdF (by decide)) (hcF _) (R_X10_refuse (by first | assumption | omega | exact ⟨by omega, by omega⟩ | (subst_vars; simp_all [uV]; done) | grind [uV]) (by first | assumption | omega | exact ⟨by omega, by omega⟩ | (subst_vars; simp_all [uV]; done) | grind [uV]) (by first | assumption | omega | exact ⟨by omega, by omega⟩ | (subst_vars; simp_all [uV]; done) | grind [uV]) (by first | assumption | omega | exact ⟨by omega, by omega⟩ | (subst_vars; simp_all [uV]; done) | grind [uV])) (fun r_4 V_5 R_6 qV_5 => ?_)
      obtain ⟨rfl, eV_5, rfl, hBV_5⟩ := qV_5
      -- leaf 6f.19t@60
      refine T_iret d_X10_hole_60 rfl ?_
      refine ⟨?_, ?_, rfl, hBV_5⟩
      · first | grind | (subst_vars; simp_all [addV, markV, forgV, uV]; done) | (subst_vars; simp_all [addV, markV, forgV, uV]; omega)
      · subst_vars
        first | grind | (simp_all [addV, markV, forgV, uV]; done) | (funext a i; simp_all [addV, markV, forgV, uV]; done)
    · skip
      refine T_il d_X10_hole_22 rfl ?_
      refine T_k d_X10_hole_23 ?_
      refine T_k d_X10_hole_26 ?_
      refine C_ps3 d_X10_hole_29 (hdF (by decide)) (hcF _) (R_X10_isIn (by first | assumption | omega | exact ⟨by omega, by omega⟩ | (subst_vars; simp_all [uV]; done) | grind [uV]) (by first | assumption | omega | exact ⟨by omega, by omega⟩ | (subst_vars; simp_all [uV]; done) | grind [uV]) (by first | assumption | omega | exact ⟨by omega, by omega⟩ | (subst_vars; simp_all [uV]; done) | grind [uV])) ?_
      refine T_pz0 d_X10_hole_32 (fun h32 => ?_) (fun h32 => ?_)
      · skip
        refine T_al d_X10_hole_55 rfl ?_
        refine T_k d_X10_hole_56 ?_
        refine C_v1 d_X10_hole_57 rfl (hdF (by decide)) (hcF _) (R_X10_refuse (by first | assumption | omega | exact ⟨by omega, by omega⟩ | (subst_vars; simp_all [uV]; done) | grind [uV]) (by first | assumption | omega | exact ⟨by omega, by omega⟩ | (subst_vars; simp_all [uV]; done) | grind [uV]) (by first | assumption | omega | exact ⟨by omega, by omega⟩ | (subst_vars; simp_all [uV]; done) | grind [uV]) (by first | assumption | omega | exact ⟨by omega, by omega⟩ | (subst_vars; simp_all [uV]; done) | grind [uV])) (fun r_7 V_8 R_9 qV_8 => ?_)
        obtain ⟨rfl, eV_8, rfl, hBV_8⟩ := qV_8
        -- leaf 6f.19f.32t@60
        refine T_iret d_X10_hole_60 rfl ?_
        refine ⟨?_, ?_, rfl, hBV_8⟩
        · first | grind | (subst_vars; simp_all [addV, markV, forgV, uV]; done) | (subst_vars; simp_all [addV, markV, forgV, uV]; omega)
        · subst_vars
          first | grind | (simp_all [addV, markV, forgV, uV]; done) | (funext a i; simp_all [addV, markV, forgV, uV]; done)
      · skip
        refine T_il d_X10_hole_35 rfl ?_
        refine T_k d_X10_hole_37 ?_
        refine T_k d_X10_hole_38 ?_
        refine C_ps3 d_X10_hole_41 (hdF (by decide)) (hcF _) (R_X10_isIn (by first | assumption | omega | exact ⟨by omega, by omega⟩ | (subst_vars; simp_all [uV]; done) | grind [uV]) (by first | assumption | omega | exact ⟨by omega, by omega⟩ | (subst_vars; simp_all [uV]; done) | grind [uV]) (by first | assumption | omega | exact ⟨by omega, by omega⟩ | (subst_vars; simp_all [uV]; done) | grind [uV])) ?_
        refine T_pz0 d_X10_hole_44 (fun h44 => ?_) (fun h44 => ?_)
        · skip
          refine T_al d_X10_hole_55 rfl ?_
          refine T_k d_X10_hole_56 ?_
          refine C_v1 d_X10_hole_57 rfl (hdF (by decide)) (hcF _) (R_X10_refuse (by first | assumption | omega | exact ⟨by omega, by omega⟩ | (subst_vars; simp_all [uV]; done) | grind [uV]) (by first | assumption | omega | exact ⟨by omega, by omega⟩ | (subst_vars; simp_all [uV]; done) | grind [uV]) (by first | assumption | omega | exact ⟨by omega, by omega⟩ | (subst_vars; simp_all [uV]; done) | grind [uV]) (by first | assumption | omega | exact ⟨by omega, by omega⟩ | (subst_vars; simp_all [uV]; done) | grind [uV])) (fun r_10 V_11 R_12 qV_11 => ?_)
          obtain ⟨rfl, eV_11, rfl, hBV_11⟩ := qV_11
          -- leaf 6f.19f.32f.44t@60
          refine T_iret d_X10_hole_60 rfl ?_
          refine ⟨?_, ?_, rfl, hBV_11⟩
          · first | grind | (subst_vars; simp_all [addV, markV, forgV, uV]; done) | (subst_vars; simp_all [addV, markV, forgV, uV]; omega)
          · subst_vars
            first | grind | (simp_all [addV, markV, forgV, uV]; done) | (funext a i; simp_all [addV, markV, forgV, uV]; done)
        · skip
          refine T_il d_X10_hole_47 rfl ?_
          refine C_ps1 d_X10_hole_49 (hdF (by decide)) (hcF _) (R_X10_isWeek (by first | assumption | omega | exact ⟨by omega, by omega⟩ | (subst_vars; simp_all [uV]; done) | grind [uV])) ?_
          refine T_pz1 d_X10_hole_52 (fun h52 => ?_) (fun h52 => ?_)
          · skip
            refine T_al d_X10_hole_61 rfl ?_
            refine F_gr (b := 1) d_X10_hole_62 rfl hF rfl ?_
            refine F_gr (b := 2) d_X10_hole_65 rfl hF rfl ?_
            refine C_pv0 d_X10_hole_68 rfl (hdF (by decide)) (hcF _) (R_X5_isFull_2 (by first | assumption | omega | exact ⟨by omega, by omega⟩ | (subst_vars; simp_all [uV]; done) | grind [uV]) (by first | assumption | omega | exact ⟨by omega, by omega⟩ | (subst_vars; simp_all [uV]; done) | grind [uV])) ?_
            refine T_pz0 d_X10_hole_71 (fun h71 => ?_) (fun h71 => ?_)
            · skip
              refine T_al d_X10_hole_81 rfl ?_
              refine F_gr (b := 1) d_X10_hole_82 rfl hF rfl ?_
              refine T_il d_X10_hole_85 rfl ?_
              refine T_il d_X10_hole_86 rfl ?_
              refine T_il d_X10_hole_87 rfl ?_
              refine T_il d_X10_hole_88 rfl ?_
              refine T_il d_X10_hole_90 rfl ?_
              refine C_v5 d_X10_hole_92 rfl (hdF (by decide)) (hcF _) (R_X0_addHole (by first | assumption | omega | exact ⟨by omega, by omega⟩ | (subst_vars; simp_all [uV]; done) | grind [uV]) (by first | assumption | omega | exact ⟨by omega, by omega⟩ | (subst_vars; simp_all [uV]; done) | grind [uV]) (by first | assumption | omega | exact ⟨by omega, by omega⟩ | (subst_vars; simp_all [uV]; done) | grind [uV]) (by first | assumption | omega | exact ⟨by omega, by omega⟩ | (subst_vars; simp_all [uV]; done) | grind [uV]) (by first | assumption | omega | exact ⟨by omega, by omega⟩ | (subst_vars; simp_all [uV]; done) | grind [uV]) (by first | assumption | omega | exact ⟨by omega, by omega⟩ | (subst_vars; simp_all [uV]; done) | grind [uV])) (fun r_13 V_14 R_15 qV_14 => ?_)
              obtain ⟨rfl, eV_14, rfl, hBV_14⟩ := qV_14
              refine F_isg d_X10_hole_95 (f := fun x_16 => [(0, vr 0), (1, vi o), (2, vi x), (3, vi y), (4, vi d), (5, vi k), (6, vi x_16)]) (fun _ => rfl) (fun x_16 ex_16 => ?_)
              refine T_al d_X10_hole_97 rfl ?_
              refine F_gr (b := 30) d_X10_hole_98 rfl hF rfl ?_
              refine T_k d_X10_hole_101 ?_
              refine C_v1 d_X10_hole_102 rfl (hdF (by decide)) (hcF _) (R_X9_forget (by first | assumption | omega | exact ⟨by omega, by omega⟩ | (subst_vars; simp_all [uV]; done) | grind [uV]) (by first | assumption | omega | exact ⟨by omega, by omega⟩ | (subst_vars; simp_all [uV]; done) | grind [uV]) (by first | assumption | omega | exact ⟨by omega, by omega⟩ | (subst_vars; simp_all [uV]; done) | grind [uV])) (fun r_17 V_18 R_19 qV_18 => ?_)
              obtain ⟨rfl, eV_18, rfl, hBV_18⟩ := qV_18
              refine T_al d_X10_hole_105 rfl ?_
              refine T_il d_X10_hole_106 rfl ?_
              refine C_v1 d_X10_hole_108 rfl (hdF (by decide)) (hcF _) (R_X10_accept (by first | assumption | omega | exact ⟨by omega, by omega⟩ | (subst_vars; simp_all [uV]; done) | grind [uV]) (by first | assumption | omega | exact ⟨by omega, by omega⟩ | (subst_vars; simp_all [uV]; done) | grind [uV]) (by first | assumption | omega | exact ⟨by omega, by omega⟩ | (subst_vars; simp_all [uV]; done) | grind [uV])) (fun r_20 V_21 R_22 qV_21 => ?_)
              obtain ⟨rfl, eV_21, rfl, hBV_21⟩ := qV_21
              -- leaf 6f.19f.32f.44f.52t.71t@111
              refine T_iret d_X10_hole_111 rfl ?_
              refine ⟨?_, ?_, rfl, hBV_21⟩
              · first | grind | (subst_vars; simp_all [addV, markV, forgV, uV]; done) | (subst_vars; simp_all [addV, markV, forgV, uV]; omega)
              · subst_vars
                first | grind | (simp_all [addV, markV, forgV, uV]; done) | (funext a i; simp_all [addV, markV, forgV, uV]; done)
            · skip
              refine T_al d_X10_hole_74 rfl ?_
              refine T_k d_X10_hole_75 ?_
              refine C_v1 d_X10_hole_77 rfl (hdF (by decide)) (hcF _) (R_X10_refuse (by first | assumption | omega | exact ⟨by omega, by omega⟩ | (subst_vars; simp_all [uV]; done) | grind [uV]) (by first | assumption | omega | exact ⟨by omega, by omega⟩ | (subst_vars; simp_all [uV]; done) | grind [uV]) (by first | assumption | omega | exact ⟨by omega, by omega⟩ | (subst_vars; simp_all [uV]; done) | grind [uV]) (by first | assumption | omega | exact ⟨by omega, by omega⟩ | (subst_vars; simp_all [uV]; done) | grind [uV])) (fun r_23 V_24 R_25 qV_24 => ?_)
              obtain ⟨rfl, eV_24, rfl, hBV_24⟩ := qV_24
              -- leaf 6f.19f.32f.44f.52t.71f@80
              refine T_iret d_X10_hole_80 rfl ?_
              refine ⟨?_, ?_, rfl, hBV_24⟩
              · first | grind | (subst_vars; simp_all [addV, markV, forgV, uV]; done) | (subst_vars; simp_all [addV, markV, forgV, uV]; omega)
              · subst_vars
                first | grind | (simp_all [addV, markV, forgV, uV]; done) | (funext a i; simp_all [addV, markV, forgV, uV]; done)
          · skip
            refine T_al d_X10_hole_55 rfl ?_
            refine T_k d_X10_hole_56 ?_
            refine C_v1 d_X10_hole_57 rfl (hdF (by decide)) (hcF _) (R_X10_refuse (by first | assumption | omega | exact ⟨by omega, by omega⟩ | (subst_vars; simp_all [uV]; done) | grind [uV]) (by first | assumption | omega | exact ⟨by omega, by omega⟩ | (subst_vars; simp_all [uV]; done) | grind [uV]) (by first | assumption | omega | exact ⟨by omega, by omega⟩ | (subst_vars; simp_all [uV]; done) | grind [uV]) (by first | assumption | omega | exact ⟨by omega, by omega⟩ | (subst_vars; simp_all [uV]; done) | grind [uV])) (fun r_26 V_27 R_28 qV_27 => ?_)
            obtain ⟨rfl, eV_27, rfl, hBV_27⟩ := qV_27
            -- leaf 6f.19f.32f.44f.52f@60
            refine T_iret d_X10_hole_60 rfl ?_
            refine ⟨?_, ?_, rfl, hBV_27⟩
            · first | grind | (subst_vars; simp_all [addV, markV, forgV, uV]; done) | (subst_vars; simp_all [addV, markV, forgV, uV]; omega)
            · subst_vars
              first | grind | (simp_all [addV, markV, forgV, uV]; done) | (funext a i; simp_all [addV, markV, forgV, uV]; done)
set_option maxHeartbeats 1000000 in
set_option maxRecDepth 100000 in
theorem R_X10_retell {G : GG} {V : VV} {R : RR} {h : Int} {d : Int} {k : Int}  (hB : Bd V) (hF : FinR R) (hL : LR V) (hh : r32 h) (hd : r32 d) (hk : r32 k) : Runs G M_X10_retell 6 162 162 [vr 0, vi h, vi d, vi k] V R (QV R (if ¬ ((0 ≤ d ∧ d ≤ 200) ∧ wkP k) then -1 else (if ¬ hasC V h then -2 else (if V 4 2 = 60 then -5 else (V 4 2 + 1)))) (if ¬ ((0 ≤ d ∧ d ≤ 200) ∧ wkP k) then uV V 0 3 (-1) else (if ¬ hasC V h then uV V 0 3 (-2) else (if V 4 2 = 60 then uV V 0 3 (-5) else (uV (forgV (markV (addV V 4 5 h d 0 0 k) k) 0) 0 3 0))))) := by
  refine Runs.of pn_X10 (Nat.le_of_ble_eq_true rfl) rfl ?_
  show TT G M_X10_retell (rmd 6 162 162) 162 (Zm G 162 162 (QV R (if ¬ ((0 ≤ d ∧ d ≤ 200) ∧ wkP k) then -1 else (if ¬ hasC V h then -2 else (if V 4 2 = 60 then -5 else (V 4 2 + 1)))) (if ¬ ((0 ≤ d ∧ d ≤ 200) ∧ wkP k) then uV V 0 3 (-1) else (if ¬ hasC V h then uV V 0 3 (-2) else (if V 4 2 = 60 then uV V 0 3 (-5) else (uV (forgV (markV (addV V 4 5 h d 0 0 k) k) 0) 0 3 0)))))) 162 0 [(0, vr 0), (1, vi h), (2, vi d), (3, vi k)] [] V R
  obtain ⟨hh1, hh2⟩ := hh
  obtain ⟨hd1, hd2⟩ := hd
  obtain ⟨hk1, hk2⟩ := hk
  obtain ⟨hL1, hL2, hL3, hL4, hL5, hL6, hL7, hL8, hL9⟩ := id hL
  have hs2 := hB.2 2 5 2 0 60 rfl rfl
  have hs4 := hB.2 4 5 2 0 60 rfl rfl
  have hs6 := hB.2 6 5 2 0 60 rfl rfl
  have hs8 := hB.2 8 5 2 0 60 rfl rfl
  have hs10 := hB.2 10 5 2 0 60 rfl rfl
  have hs12 := hB.2 12 5 2 0 60 rfl rfl
  refine T_il d_X10_retell_0 rfl ?_
  refine T_k d_X10_retell_1 ?_
  refine T_k d_X10_retell_2 ?_
  refine C_ps3 d_X10_retell_5 (hdF (by decide)) (hcF _) (R_X10_isIn (by first | assumption | omega | exact ⟨by omega, by omega⟩ | (subst_vars; simp_all [uV]; done) | grind [uV]) (by first | assumption | omega | exact ⟨by omega, by omega⟩ | (subst_vars; simp_all [uV]; done) | grind [uV]) (by first | assumption | omega | exact ⟨by omega, by omega⟩ | (subst_vars; simp_all [uV]; done) | grind [uV])) ?_
  refine T_pz0 d_X10_retell_8 (fun h8 => ?_) (fun h8 => ?_)
  · skip
    refine T_al d_X10_retell_18 rfl ?_
    refine T_k d_X10_retell_19 ?_
    refine C_v1 d_X10_retell_20 rfl (hdF (by decide)) (hcF _) (R_X10_refuse (by first | assumption | omega | exact ⟨by omega, by omega⟩ | (subst_vars; simp_all [uV]; done) | grind [uV]) (by first | assumption | omega | exact ⟨by omega, by omega⟩ | (subst_vars; simp_all [uV]; done) | grind [uV]) (by first | assumption | omega | exact ⟨by omega, by omega⟩ | (subst_vars; simp_all [uV]; done) | grind [uV]) (by first | assumption | omega | exact ⟨by omega, by omega⟩ | (subst_vars; simp_all [uV]; done) | grind [uV])) (fun r_1 V_2 R_3 qV_2 => ?_)
    obtain ⟨rfl, eV_2, rfl, hBV_2⟩ := qV_2
    -- leaf 8t@23
    refine T_iret d_X10_retell_23 rfl ?_
    refine ⟨?_, ?_, rfl, hBV_2⟩
    · first | grind | (subst_vars; simp_all [addV, markV, forgV, uV]; done) | (subst_vars; simp_all [addV, markV, forgV, uV]; omega)
    · subst_vars
      first | grind | (simp_all [addV, markV, forgV, uV]; done) | (funext a i; simp_all [addV, markV, forgV, uV]; done)
  · skip
    refine T_il d_X10_retell_11 rfl ?_
    refine C_ps1 d_X10_retell_12 (hdF (by decide)) (hcF _) (R_X10_isWeek (by first | assumption | omega | exact ⟨by omega, by omega⟩ | (subst_vars; simp_all [uV]; done) | grind [uV])) ?_
    refine T_pz1 d_X10_retell_15 (fun h15 => ?_) (fun h15 => ?_)
    · skip
      refine T_al d_X10_retell_24 rfl ?_
      refine F_gr (b := 1) d_X10_retell_25 rfl hF rfl ?_
      refine T_il d_X10_retell_28 rfl ?_
      refine C_pv1 d_X10_retell_29 rfl (hdF (by decide)) (hcF _) (R_X0_hasHole (by first | assumption | omega | exact ⟨by omega, by omega⟩ | (subst_vars; simp_all [uV]; done) | grind [uV]) (by first | assumption | omega | exact ⟨by omega, by omega⟩ | (subst_vars; simp_all [uV]; done) | grind [uV]) (by first | assumption | omega | exact ⟨by omega, by omega⟩ | (subst_vars; simp_all [uV]; done) | grind [uV])) ?_
      refine T_pz1 d_X10_retell_32 (fun h32 => ?_) (fun h32 => ?_)
      · skip
        refine T_al d_X10_retell_42 rfl ?_
        refine F_gr (b := 1) d_X10_retell_43 rfl hF rfl ?_
        refine F_gr (b := 4) d_X10_retell_46 rfl hF rfl ?_
        refine C_pv0 d_X10_retell_49 rfl (hdF (by decide)) (hcF _) (R_X5_isFull_4 (by first | assumption | omega | exact ⟨by omega, by omega⟩ | (subst_vars; simp_all [uV]; done) | grind [uV]) (by first | assumption | omega | exact ⟨by omega, by omega⟩ | (subst_vars; simp_all [uV]; done) | grind [uV])) ?_
        refine T_pz0 d_X10_retell_52 (fun h52 => ?_) (fun h52 => ?_)
        · skip
          refine T_al d_X10_retell_62 rfl ?_
          refine F_gr (b := 1) d_X10_retell_63 rfl hF rfl ?_
          refine F_gr (b := 4) d_X10_retell_66 rfl hF rfl ?_
          refine T_il d_X10_retell_69 rfl ?_
          refine T_il d_X10_retell_70 rfl ?_
          refine T_k d_X10_retell_71 ?_
          refine T_k d_X10_retell_72 ?_
          refine T_il d_X10_retell_73 rfl ?_
          refine C_v5 d_X10_retell_74 rfl (hdF (by decide)) (hcF _) (R_X5_add_4 (by first | assumption | omega | exact ⟨by omega, by omega⟩ | (subst_vars; simp_all [uV]; done) | grind [uV]) (by first | assumption | omega | exact ⟨by omega, by omega⟩ | (subst_vars; simp_all [uV]; done) | grind [uV]) (by first | assumption | omega | exact ⟨by omega, by omega⟩ | (subst_vars; simp_all [uV]; done) | grind [uV]) (by first | assumption | omega | exact ⟨by omega, by omega⟩ | (subst_vars; simp_all [uV]; done) | grind [uV]) (by first | assumption | omega | exact ⟨by omega, by omega⟩ | (subst_vars; simp_all [uV]; done) | grind [uV])) (fun r_4 V_5 R_6 qV_5 => ?_)
          obtain ⟨rfl, eV_5, rfl, hBV_5⟩ := qV_5
          refine T_al d_X10_retell_77 rfl ?_
          refine F_gr (b := 1) d_X10_retell_78 rfl hF rfl ?_
          refine T_il d_X10_retell_81 rfl ?_
          refine C_v1 d_X10_retell_82 rfl (hdF (by decide)) (hcF _) (R_X0_mark (by first | assumption | omega | exact ⟨by omega, by omega⟩ | (subst_vars; simp_all [uV]; done) | grind [uV]) (by first | assumption | omega | exact ⟨by omega, by omega⟩ | (subst_vars; simp_all [uV]; done) | grind [uV]) (by first | assumption | omega | exact ⟨by omega, by omega⟩ | (subst_vars; simp_all [uV]; done) | grind [uV])) (fun r_7 V_8 R_9 qV_8 => ?_)
          obtain ⟨rfl, eV_8, rfl, hBV_8⟩ := qV_8
          refine T_al d_X10_retell_85 rfl ?_
          refine F_gr (b := 30) d_X10_retell_86 rfl hF rfl ?_
          refine T_k d_X10_retell_89 ?_
          refine C_v1 d_X10_retell_90 rfl (hdF (by decide)) (hcF _) (R_X9_forget (by first | assumption | omega | exact ⟨by omega, by omega⟩ | (subst_vars; simp_all [uV]; done) | grind [uV]) (by first | assumption | omega | exact ⟨by omega, by omega⟩ | (subst_vars; simp_all [uV]; done) | grind [uV]) (by first | assumption | omega | exact ⟨by omega, by omega⟩ | (subst_vars; simp_all [uV]; done) | grind [uV])) (fun r_10 V_11 R_12 qV_11 => ?_)
          obtain ⟨rfl, eV_11, rfl, hBV_11⟩ := qV_11
          refine T_al d_X10_retell_93 rfl ?_
          refine T_al d_X10_retell_94 rfl ?_
          refine F_gr (b := 1) d_X10_retell_95 rfl hF rfl ?_
          refine F_gr (b := 4) d_X10_retell_98 rfl hF rfl ?_
          refine F_gi d_X10_retell_101 rfl hBV_11 rfl (fun b_13 => ?_)
          refine C_v1 d_X10_retell_104 rfl (hdF (by decide)) (hcF _) (R_X10_accept (by first | assumption | omega | exact ⟨by omega, by omega⟩ | (subst_vars; simp_all [uV]; done) | grind [uV]) (by first | assumption | omega | exact ⟨by omega, by omega⟩ | (subst_vars; simp_all [uV]; done) | grind [uV]) (by first | assumption | omega | exact ⟨by omega, by omega⟩ | (subst_vars; simp_all [uV]; done) | grind [uV])) (fun r_14 V_15 R_16 qV_15 => ?_)
          obtain ⟨rfl, eV_15, rfl, hBV_15⟩ := qV_15
          -- leaf 8f.15t.32t.52t@107
          refine T_iret d_X10_retell_107 rfl ?_
          refine ⟨?_, ?_, rfl, hBV_15⟩
          · first | grind | (subst_vars; simp_all [addV, markV, forgV, uV]; done) | (subst_vars; simp_all [addV, markV, forgV, uV]; omega)
          · subst_vars
            first | grind | (simp_all [addV, markV, forgV, uV]; done) | (funext a i; simp_all [addV, markV, forgV, uV]; done)
        · skip
          refine T_al d_X10_retell_55 rfl ?_
          refine T_k d_X10_retell_56 ?_
          refine C_v1 d_X10_retell_58 rfl (hdF (by decide)) (hcF _) (R_X10_refuse (by first | assumption | omega | exact ⟨by omega, by omega⟩ | (subst_vars; simp_all [uV]; done) | grind [uV]) (by first | assumption | omega | exact ⟨by omega, by omega⟩ | (subst_vars; simp_all [uV]; done) | grind [uV]) (by first | assumption | omega | exact ⟨by omega, by omega⟩ | (subst_vars; simp_all [uV]; done) | grind [uV]) (by first | assumption | omega | exact ⟨by omega, by omega⟩ | (subst_vars; simp_all [uV]; done) | grind [uV])) (fun r_17 V_18 R_19 qV_18 => ?_)
          obtain ⟨rfl, eV_18, rfl, hBV_18⟩ := qV_18
          -- leaf 8f.15t.32t.52f@61
          refine T_iret d_X10_retell_61 rfl ?_
          refine ⟨?_, ?_, rfl, hBV_18⟩
          · first | grind | (subst_vars; simp_all [addV, markV, forgV, uV]; done) | (subst_vars; simp_all [addV, markV, forgV, uV]; omega)
          · subst_vars
            first | grind | (simp_all [addV, markV, forgV, uV]; done) | (funext a i; simp_all [addV, markV, forgV, uV]; done)
      · skip
        refine T_al d_X10_retell_35 rfl ?_
        refine T_k d_X10_retell_36 ?_
        refine C_v1 d_X10_retell_38 rfl (hdF (by decide)) (hcF _) (R_X10_refuse (by first | assumption | omega | exact ⟨by omega, by omega⟩ | (subst_vars; simp_all [uV]; done) | grind [uV]) (by first | assumption | omega | exact ⟨by omega, by omega⟩ | (subst_vars; simp_all [uV]; done) | grind [uV]) (by first | assumption | omega | exact ⟨by omega, by omega⟩ | (subst_vars; simp_all [uV]; done) | grind [uV]) (by first | assumption | omega | exact ⟨by omega, by omega⟩ | (subst_vars; simp_all [uV]; done) | grind [uV])) (fun r_20 V_21 R_22 qV_21 => ?_)
        obtain ⟨rfl, eV_21, rfl, hBV_21⟩ := qV_21
        -- leaf 8f.15t.32f@41
        refine T_iret d_X10_retell_41 rfl ?_
        refine ⟨?_, ?_, rfl, hBV_21⟩
        · first | grind | (subst_vars; simp_all [addV, markV, forgV, uV]; done) | (subst_vars; simp_all [addV, markV, forgV, uV]; omega)
        · subst_vars
          first | grind | (simp_all [addV, markV, forgV, uV]; done) | (funext a i; simp_all [addV, markV, forgV, uV]; done)
    · skip
      refine T_al d_X10_retell_18 rfl ?_
      refine T_k d_X10_retell_19 ?_
      refine C_v1 d_X10_retell_20 rfl (hdF (by decide)) (hcF _) (R_X10_refuse (by first | assumption | omega | exact ⟨by omega, by omega⟩ | (subst_vars; simp_all [uV]; done) | grind [uV]) (by first | assumption | omega | exact ⟨by omega, by omega⟩ | (subst_vars; simp_all [uV]; done) | grind [uV]) (by first | assumption | omega | exact ⟨by omega, by omega⟩ | (subst_vars; simp_all [uV]; done) | grind [uV]) (by first | assumption | omega | exact ⟨by omega, by omega⟩ | (subst_vars; simp_all [uV]; done) | grind [uV])) (fun r_23 V_24 R_25 qV_24 => ?_)
      obtain ⟨rfl, eV_24, rfl, hBV_24⟩ := qV_24
      -- leaf 8f.15f@23
      refine T_iret d_X10_retell_23 rfl ?_
      refine ⟨?_, ?_, rfl, hBV_24⟩
      · first | grind | (subst_vars; simp_all [addV, markV, forgV, uV]; done) | (subst_vars; simp_all [addV, markV, forgV, uV]; omega)
      · subst_vars
        first | grind | (simp_all [addV, markV, forgV, uV]; done) | (funext a i; simp_all [addV, markV, forgV, uV]; done)
set_option maxHeartbeats 1000000 in
set_option maxRecDepth 100000 in
theorem R_X10_strike {G : GG} {V : VV} {R : RR} {h : Int} {k : Int}  (hB : Bd V) (hF : FinR R) (hL : LR V) (hh : r32 h) (hk : r32 k) : Runs G M_X10_strike 6 162 162 [vr 0, vi h, vi k] V R (QV R (if ¬ wkP k then -1 else (if ¬ hasC V h then -2 else (0))) (if ¬ wkP k then uV V 0 3 (-1) else (if ¬ hasC V h then uV V 0 3 (-2) else (uV (forgV (markV (uV V 14 h.toNat (if k < V 14 h.toNat then k else V 14 h.toNat)) k) 0) 0 3 0)))) := by
  refine Runs.of pn_X10 (Nat.le_of_ble_eq_true rfl) rfl ?_
  show TT G M_X10_strike (rmd 6 162 162) 162 (Zm G 162 162 (QV R (if ¬ wkP k then -1 else (if ¬ hasC V h then -2 else (0))) (if ¬ wkP k then uV V 0 3 (-1) else (if ¬ hasC V h then uV V 0 3 (-2) else (uV (forgV (markV (uV V 14 h.toNat (if k < V 14 h.toNat then k else V 14 h.toNat)) k) 0) 0 3 0))))) 162 0 [(0, vr 0), (1, vi h), (2, vi k)] [] V R
  obtain ⟨hh1, hh2⟩ := hh
  obtain ⟨hk1, hk2⟩ := hk
  obtain ⟨hL1, hL2, hL3, hL4, hL5, hL6, hL7, hL8, hL9⟩ := id hL
  have hs2 := hB.2 2 5 2 0 60 rfl rfl
  have hs4 := hB.2 4 5 2 0 60 rfl rfl
  have hs6 := hB.2 6 5 2 0 60 rfl rfl
  have hs8 := hB.2 8 5 2 0 60 rfl rfl
  have hs10 := hB.2 10 5 2 0 60 rfl rfl
  have hs12 := hB.2 12 5 2 0 60 rfl rfl
  refine T_il d_X10_strike_0 rfl ?_
  refine C_ps1 d_X10_strike_1 (hdF (by decide)) (hcF _) (R_X10_isWeek (by first | assumption | omega | exact ⟨by omega, by omega⟩ | (subst_vars; simp_all [uV]; done) | grind [uV])) ?_
  refine T_pz1 d_X10_strike_4 (fun h4 => ?_) (fun h4 => ?_)
  · skip
    refine T_al d_X10_strike_13 rfl ?_
    refine F_gr (b := 1) d_X10_strike_14 rfl hF rfl ?_
    refine T_il d_X10_strike_17 rfl ?_
    refine C_pv1 d_X10_strike_18 rfl (hdF (by decide)) (hcF _) (R_X0_hasHole (by first | assumption | omega | exact ⟨by omega, by omega⟩ | (subst_vars; simp_all [uV]; done) | grind [uV]) (by first | assumption | omega | exact ⟨by omega, by omega⟩ | (subst_vars; simp_all [uV]; done) | grind [uV]) (by first | assumption | omega | exact ⟨by omega, by omega⟩ | (subst_vars; simp_all [uV]; done) | grind [uV])) ?_
    refine T_pz1 d_X10_strike_21 (fun h21 => ?_) (fun h21 => ?_)
    · skip
      refine T_al d_X10_strike_31 rfl ?_
      refine F_gr (b := 1) d_X10_strike_32 rfl hF rfl ?_
      refine T_il d_X10_strike_35 rfl ?_
      refine T_il d_X10_strike_36 rfl ?_
      refine C_v2 d_X10_strike_37 rfl (hdF (by decide)) (hcF _) (R_X0_strikeHole (by first | assumption | omega | exact ⟨by omega, by omega⟩ | (subst_vars; simp_all [uV]; done) | grind [uV]) (by first | assumption | omega | exact ⟨by omega, by omega⟩ | (subst_vars; simp_all [uV]; done) | grind [uV]) (by first | assumption | omega | exact ⟨by omega, by omega⟩ | (subst_vars; simp_all [uV]; done) | grind [uV]) (by first | assumption | omega | exact ⟨by omega, by omega⟩ | (subst_vars; simp_all [uV]; done) | grind [uV]) (by first | assumption | omega | exact ⟨by omega, by omega⟩ | (subst_vars; simp_all [uV]; done) | grind [uV])) (fun r_1 V_2 R_3 qV_2 => ?_)
      obtain ⟨rfl, eV_2, rfl, hBV_2⟩ := qV_2
      refine T_al d_X10_strike_40 rfl ?_
      refine F_gr (b := 30) d_X10_strike_41 rfl hF rfl ?_
      refine T_k d_X10_strike_44 ?_
      refine C_v1 d_X10_strike_45 rfl (hdF (by decide)) (hcF _) (R_X9_forget (by first | assumption | omega | exact ⟨by omega, by omega⟩ | (subst_vars; simp_all [uV]; done) | grind [uV]) (by first | assumption | omega | exact ⟨by omega, by omega⟩ | (subst_vars; simp_all [uV]; done) | grind [uV]) (by first | assumption | omega | exact ⟨by omega, by omega⟩ | (subst_vars; simp_all [uV]; done) | grind [uV])) (fun r_4 V_5 R_6 qV_5 => ?_)
      obtain ⟨rfl, eV_5, rfl, hBV_5⟩ := qV_5
      refine T_al d_X10_strike_48 rfl ?_
      refine T_k d_X10_strike_49 ?_
      refine C_v1 d_X10_strike_50 rfl (hdF (by decide)) (hcF _) (R_X10_accept (by first | assumption | omega | exact ⟨by omega, by omega⟩ | (subst_vars; simp_all [uV]; done) | grind [uV]) (by first | assumption | omega | exact ⟨by omega, by omega⟩ | (subst_vars; simp_all [uV]; done) | grind [uV]) (by first | assumption | omega | exact ⟨by omega, by omega⟩ | (subst_vars; simp_all [uV]; done) | grind [uV])) (fun r_7 V_8 R_9 qV_8 => ?_)
      obtain ⟨rfl, eV_8, rfl, hBV_8⟩ := qV_8
      -- leaf 4t.21t@53
      refine T_iret d_X10_strike_53 rfl ?_
      refine ⟨?_, ?_, rfl, hBV_8⟩
      · first | grind | (subst_vars; simp_all [addV, markV, forgV, uV]; done) | (subst_vars; simp_all [addV, markV, forgV, uV]; omega)
      · subst_vars
        first | grind | (simp_all [addV, markV, forgV, uV]; done) | (funext a i; simp_all [addV, markV, forgV, uV]; done)
    · skip
      refine T_al d_X10_strike_24 rfl ?_
      refine T_k d_X10_strike_25 ?_
      refine C_v1 d_X10_strike_27 rfl (hdF (by decide)) (hcF _) (R_X10_refuse (by first | assumption | omega | exact ⟨by omega, by omega⟩ | (subst_vars; simp_all [uV]; done) | grind [uV]) (by first | assumption | omega | exact ⟨by omega, by omega⟩ | (subst_vars; simp_all [uV]; done) | grind [uV]) (by first | assumption | omega | exact ⟨by omega, by omega⟩ | (subst_vars; simp_all [uV]; done) | grind [uV]) (by first | assumption | omega | exact ⟨by omega, by omega⟩ | (subst_vars; simp_all [uV]; done) | grind [uV])) (fun r_10 V_11 R_12 qV_11 => ?_)
      obtain ⟨rfl, eV_11, rfl, hBV_11⟩ := qV_11
      -- leaf 4t.21f@30
      refine T_iret d_X10_strike_30 rfl ?_
      refine ⟨?_, ?_, rfl, hBV_11⟩
      · first | grind | (subst_vars; simp_all [addV, markV, forgV, uV]; done) | (subst_vars; simp_all [addV, markV, forgV, uV]; omega)
      · subst_vars
        first | grind | (simp_all [addV, markV, forgV, uV]; done) | (funext a i; simp_all [addV, markV, forgV, uV]; done)
  · skip
    refine T_al d_X10_strike_7 rfl ?_
    refine T_k d_X10_strike_8 ?_
    refine C_v1 d_X10_strike_9 rfl (hdF (by decide)) (hcF _) (R_X10_refuse (by first | assumption | omega | exact ⟨by omega, by omega⟩ | (subst_vars; simp_all [uV]; done) | grind [uV]) (by first | assumption | omega | exact ⟨by omega, by omega⟩ | (subst_vars; simp_all [uV]; done) | grind [uV]) (by first | assumption | omega | exact ⟨by omega, by omega⟩ | (subst_vars; simp_all [uV]; done) | grind [uV]) (by first | assumption | omega | exact ⟨by omega, by omega⟩ | (subst_vars; simp_all [uV]; done) | grind [uV])) (fun r_13 V_14 R_15 qV_14 => ?_)
    obtain ⟨rfl, eV_14, rfl, hBV_14⟩ := qV_14
    -- leaf 4f@12
    refine T_iret d_X10_strike_12 rfl ?_
    refine ⟨?_, ?_, rfl, hBV_14⟩
    · first | grind | (subst_vars; simp_all [addV, markV, forgV, uV]; done) | (subst_vars; simp_all [addV, markV, forgV, uV]; omega)
    · subst_vars
      first | grind | (simp_all [addV, markV, forgV, uV]; done) | (funext a i; simp_all [addV, markV, forgV, uV]; done)
set_option maxHeartbeats 1000000 in
set_option maxRecDepth 100000 in
theorem R_X10_trench {G : GG} {V : VV} {R : RR} {x : Int} {y : Int} {u : Int} {v : Int} {k : Int}  (hB : Bd V) (hF : FinR R) (hL : LR V) (hx : r32 x) (hy : r32 y) (hu : r32 u) (hv : r32 v) (hk : r32 k) : Runs G M_X10_trench 6 162 162 [vr 0, vi x, vi y, vi u, vi v, vi k] V R (QV R (if ¬ (boxP x y u v ∧ wkP k) then -1 else (if V 6 2 = 20 then -5 else (V 6 2 + 1))) (if ¬ (boxP x y u v ∧ wkP k) then uV V 0 3 (-1) else (if V 6 2 = 20 then uV V 0 3 (-5) else (uV (forgV (markV (addV V 6 7 x y u v k) k) 1) 0 3 0)))) := by
  refine Runs.of pn_X10 (Nat.le_of_ble_eq_true rfl) rfl ?_
  show TT G M_X10_trench (rmd 6 162 162) 162 (Zm G 162 162 (QV R (if ¬ (boxP x y u v ∧ wkP k) then -1 else (if V 6 2 = 20 then -5 else (V 6 2 + 1))) (if ¬ (boxP x y u v ∧ wkP k) then uV V 0 3 (-1) else (if V 6 2 = 20 then uV V 0 3 (-5) else (uV (forgV (markV (addV V 6 7 x y u v k) k) 1) 0 3 0))))) 162 0 [(0, vr 0), (1, vi x), (2, vi y), (3, vi u), (4, vi v), (5, vi k)] [] V R
  obtain ⟨hx1, hx2⟩ := hx
  obtain ⟨hy1, hy2⟩ := hy
  obtain ⟨hu1, hu2⟩ := hu
  obtain ⟨hv1, hv2⟩ := hv
  obtain ⟨hk1, hk2⟩ := hk
  obtain ⟨hL1, hL2, hL3, hL4, hL5, hL6, hL7, hL8, hL9⟩ := id hL
  have hs2 := hB.2 2 5 2 0 60 rfl rfl
  have hs4 := hB.2 4 5 2 0 60 rfl rfl
  have hs6 := hB.2 6 5 2 0 60 rfl rfl
  have hs8 := hB.2 8 5 2 0 60 rfl rfl
  have hs10 := hB.2 10 5 2 0 60 rfl rfl
  have hs12 := hB.2 12 5 2 0 60 rfl rfl
  refine T_il d_X10_trench_0 rfl ?_
  refine T_il d_X10_trench_1 rfl ?_
  refine T_il d_X10_trench_2 rfl ?_
  refine T_il d_X10_trench_3 rfl ?_
  refine C_ps4 d_X10_trench_5 (hdF (by decide)) (hcF _) (R_X10_isPlot (by first | assumption | omega | exact ⟨by omega, by omega⟩ | (subst_vars; simp_all [uV]; done) | grind [uV]) (by first | assumption | omega | exact ⟨by omega, by omega⟩ | (subst_vars; simp_all [uV]; done) | grind [uV]) (by first | assumption | omega | exact ⟨by omega, by omega⟩ | (subst_vars; simp_all [uV]; done) | grind [uV]) (by first | assumption | omega | exact ⟨by omega, by omega⟩ | (subst_vars; simp_all [uV]; done) | grind [uV])) ?_
  refine T_pz0 d_X10_trench_8 (fun h8 => ?_) (fun h8 => ?_)
  · skip
    refine T_al d_X10_trench_19 rfl ?_
    refine T_k d_X10_trench_20 ?_
    refine C_v1 d_X10_trench_21 rfl (hdF (by decide)) (hcF _) (R_X10_refuse (by first | assumption | omega | exact ⟨by omega, by omega⟩ | (subst_vars; simp_all [uV]; done) | grind [uV]) (by first | assumption | omega | exact ⟨by omega, by omega⟩ | (subst_vars; simp_all [uV]; done) | grind [uV]) (by first | assumption | omega | exact ⟨by omega, by omega⟩ | (subst_vars; simp_all [uV]; done) | grind [uV]) (by first | assumption | omega | exact ⟨by omega, by omega⟩ | (subst_vars; simp_all [uV]; done) | grind [uV])) (fun r_1 V_2 R_3 qV_2 => ?_)
    obtain ⟨rfl, eV_2, rfl, hBV_2⟩ := qV_2
    -- leaf 8t@24
    refine T_iret d_X10_trench_24 rfl ?_
    refine ⟨?_, ?_, rfl, hBV_2⟩
    · first | grind | (subst_vars; simp_all [addV, markV, forgV, uV]; done) | (subst_vars; simp_all [addV, markV, forgV, uV]; omega)
    · subst_vars
      first | grind | (simp_all [addV, markV, forgV, uV]; done) | (funext a i; simp_all [addV, markV, forgV, uV]; done)
  · skip
    refine T_il d_X10_trench_11 rfl ?_
    refine C_ps1 d_X10_trench_13 (hdF (by decide)) (hcF _) (R_X10_isWeek (by first | assumption | omega | exact ⟨by omega, by omega⟩ | (subst_vars; simp_all [uV]; done) | grind [uV])) ?_
    refine T_pz1 d_X10_trench_16 (fun h16 => ?_) (fun h16 => ?_)
    · skip
      refine T_al d_X10_trench_25 rfl ?_
      refine F_gr (b := 1) d_X10_trench_26 rfl hF rfl ?_
      refine F_gr (b := 6) d_X10_trench_29 rfl hF rfl ?_
      refine C_pv0 d_X10_trench_32 rfl (hdF (by decide)) (hcF _) (R_X5_isFull_6 (by first | assumption | omega | exact ⟨by omega, by omega⟩ | (subst_vars; simp_all [uV]; done) | grind [uV]) (by first | assumption | omega | exact ⟨by omega, by omega⟩ | (subst_vars; simp_all [uV]; done) | grind [uV])) ?_
      refine T_pz0 d_X10_trench_35 (fun h35 => ?_) (fun h35 => ?_)
      · skip
        refine T_al d_X10_trench_45 rfl ?_
        refine F_gr (b := 1) d_X10_trench_46 rfl hF rfl ?_
        refine F_gr (b := 6) d_X10_trench_49 rfl hF rfl ?_
        refine T_il d_X10_trench_52 rfl ?_
        refine T_il d_X10_trench_53 rfl ?_
        refine T_il d_X10_trench_54 rfl ?_
        refine T_il d_X10_trench_55 rfl ?_
        refine T_il d_X10_trench_57 rfl ?_
        refine C_v5 d_X10_trench_59 rfl (hdF (by decide)) (hcF _) (R_X5_add_6 (by first | assumption | omega | exact ⟨by omega, by omega⟩ | (subst_vars; simp_all [uV]; done) | grind [uV]) (by first | assumption | omega | exact ⟨by omega, by omega⟩ | (subst_vars; simp_all [uV]; done) | grind [uV]) (by first | assumption | omega | exact ⟨by omega, by omega⟩ | (subst_vars; simp_all [uV]; done) | grind [uV]) (by first | assumption | omega | exact ⟨by omega, by omega⟩ | (subst_vars; simp_all [uV]; done) | grind [uV]) (by first | assumption | omega | exact ⟨by omega, by omega⟩ | (subst_vars; simp_all [uV]; done) | grind [uV])) (fun r_4 V_5 R_6 qV_5 => ?_)
        obtain ⟨rfl, eV_5, rfl, hBV_5⟩ := qV_5
        refine T_al d_X10_trench_62 rfl ?_
        refine F_gr (b := 1) d_X10_trench_63 rfl hF rfl ?_
        refine T_il d_X10_trench_66 rfl ?_
        refine C_v1 d_X10_trench_68 rfl (hdF (by decide)) (hcF _) (R_X0_mark (by first | assumption | omega | exact ⟨by omega, by omega⟩ | (subst_vars; simp_all [uV]; done) | grind [uV]) (by first | assumption | omega | exact ⟨by omega, by omega⟩ | (subst_vars; simp_all [uV]; done) | grind [uV]) (by first | assumption | omega | exact ⟨by omega, by omega⟩ | (subst_vars; simp_all [uV]; done) | grind [uV])) (fun r_7 V_8 R_9 qV_8 => ?_)
        obtain ⟨rfl, eV_8, rfl, hBV_8⟩ := qV_8
        refine T_al d_X10_trench_71 rfl ?_
        refine F_gr (b := 30) d_X10_trench_72 rfl hF rfl ?_
        refine T_k d_X10_trench_75 ?_
        refine C_v1 d_X10_trench_76 rfl (hdF (by decide)) (hcF _) (R_X9_forget (by first | assumption | omega | exact ⟨by omega, by omega⟩ | (subst_vars; simp_all [uV]; done) | grind [uV]) (by first | assumption | omega | exact ⟨by omega, by omega⟩ | (subst_vars; simp_all [uV]; done) | grind [uV]) (by first | assumption | omega | exact ⟨by omega, by omega⟩ | (subst_vars; simp_all [uV]; done) | grind [uV])) (fun r_10 V_11 R_12 qV_11 => ?_)
        obtain ⟨rfl, eV_11, rfl, hBV_11⟩ := qV_11
        refine T_al d_X10_trench_79 rfl ?_
        refine T_al d_X10_trench_80 rfl ?_
        refine F_gr (b := 1) d_X10_trench_81 rfl hF rfl ?_
        refine F_gr (b := 6) d_X10_trench_84 rfl hF rfl ?_
        refine F_gi d_X10_trench_87 rfl hBV_11 rfl (fun b_13 => ?_)
        refine C_v1 d_X10_trench_90 rfl (hdF (by decide)) (hcF _) (R_X10_accept (by first | assumption | omega | exact ⟨by omega, by omega⟩ | (subst_vars; simp_all [uV]; done) | grind [uV]) (by first | assumption | omega | exact ⟨by omega, by omega⟩ | (subst_vars; simp_all [uV]; done) | grind [uV]) (by first | assumption | omega | exact ⟨by omega, by omega⟩ | (subst_vars; simp_all [uV]; done) | grind [uV])) (fun r_14 V_15 R_16 qV_15 => ?_)
        obtain ⟨rfl, eV_15, rfl, hBV_15⟩ := qV_15
        -- leaf 8f.16t.35t@93
        refine T_iret d_X10_trench_93 rfl ?_
        refine ⟨?_, ?_, rfl, hBV_15⟩
        · first | grind | (subst_vars; simp_all [addV, markV, forgV, uV]; done) | (subst_vars; simp_all [addV, markV, forgV, uV]; omega)
        · subst_vars
          first | grind | (simp_all [addV, markV, forgV, uV]; done) | (funext a i; simp_all [addV, markV, forgV, uV]; done)
      · skip
        refine T_al d_X10_trench_38 rfl ?_
        refine T_k d_X10_trench_39 ?_
        refine C_v1 d_X10_trench_41 rfl (hdF (by decide)) (hcF _) (R_X10_refuse (by first | assumption | omega | exact ⟨by omega, by omega⟩ | (subst_vars; simp_all [uV]; done) | grind [uV]) (by first | assumption | omega | exact ⟨by omega, by omega⟩ | (subst_vars; simp_all [uV]; done) | grind [uV]) (by first | assumption | omega | exact ⟨by omega, by omega⟩ | (subst_vars; simp_all [uV]; done) | grind [uV]) (by first | assumption | omega | exact ⟨by omega, by omega⟩ | (subst_vars; simp_all [uV]; done) | grind [uV])) (fun r_17 V_18 R_19 qV_18 => ?_)
        obtain ⟨rfl, eV_18, rfl, hBV_18⟩ := qV_18
        -- leaf 8f.16t.35f@44
        refine T_iret d_X10_trench_44 rfl ?_
        refine ⟨?_, ?_, rfl, hBV_18⟩
        · first | grind | (subst_vars; simp_all [addV, markV, forgV, uV]; done) | (subst_vars; simp_all [addV, markV, forgV, uV]; omega)
        · subst_vars
          first | grind | (simp_all [addV, markV, forgV, uV]; done) | (funext a i; simp_all [addV, markV, forgV, uV]; done)
    · skip
      refine T_al d_X10_trench_19 rfl ?_
      refine T_k d_X10_trench_20 ?_
      refine C_v1 d_X10_trench_21 rfl (hdF (by decide)) (hcF _) (R_X10_refuse (by first | assumption | omega | exact ⟨by omega, by omega⟩ | (subst_vars; simp_all [uV]; done) | grind [uV]) (by first | assumption | omega | exact ⟨by omega, by omega⟩ | (subst_vars; simp_all [uV]; done) | grind [uV]) (by first | assumption | omega | exact ⟨by omega, by omega⟩ | (subst_vars; simp_all [uV]; done) | grind [uV]) (by first | assumption | omega | exact ⟨by omega, by omega⟩ | (subst_vars; simp_all [uV]; done) | grind [uV])) (fun r_20 V_21 R_22 qV_21 => ?_)
      obtain ⟨rfl, eV_21, rfl, hBV_21⟩ := qV_21
      -- leaf 8f.16f@24
      refine T_iret d_X10_trench_24 rfl ?_
      refine ⟨?_, ?_, rfl, hBV_21⟩
      · first | grind | (subst_vars; simp_all [addV, markV, forgV, uV]; done) | (subst_vars; simp_all [addV, markV, forgV, uV]; omega)
      · subst_vars
        first | grind | (simp_all [addV, markV, forgV, uV]; done) | (funext a i; simp_all [addV, markV, forgV, uV]; done)
set_option maxHeartbeats 1000000 in
set_option maxRecDepth 100000 in
theorem R_X10_plough {G : GG} {V : VV} {R : RR} {x : Int} {y : Int} {u : Int} {v : Int} {k : Int}  (hB : Bd V) (hF : FinR R) (hL : LR V) (hx : r32 x) (hy : r32 y) (hu : r32 u) (hv : r32 v) (hk : r32 k) : Runs G M_X10_plough 6 162 162 [vr 0, vi x, vi y, vi u, vi v, vi k] V R (QV R (if ¬ (boxP x y u v ∧ 0 ≤ k ∧ k ≤ 100) then -1 else (if V 8 2 = 20 then -5 else (V 8 2 + 1))) (if ¬ (boxP x y u v ∧ 0 ≤ k ∧ k ≤ 100) then uV V 0 3 (-1) else (if V 8 2 = 20 then uV V 0 3 (-5) else (uV (forgV (addV V 8 9 x y u v k) 0) 0 3 0)))) := by
  refine Runs.of pn_X10 (Nat.le_of_ble_eq_true rfl) rfl ?_
  show TT G M_X10_plough (rmd 6 162 162) 162 (Zm G 162 162 (QV R (if ¬ (boxP x y u v ∧ 0 ≤ k ∧ k ≤ 100) then -1 else (if V 8 2 = 20 then -5 else (V 8 2 + 1))) (if ¬ (boxP x y u v ∧ 0 ≤ k ∧ k ≤ 100) then uV V 0 3 (-1) else (if V 8 2 = 20 then uV V 0 3 (-5) else (uV (forgV (addV V 8 9 x y u v k) 0) 0 3 0))))) 162 0 [(0, vr 0), (1, vi x), (2, vi y), (3, vi u), (4, vi v), (5, vi k)] [] V R
  obtain ⟨hx1, hx2⟩ := hx
  obtain ⟨hy1, hy2⟩ := hy
  obtain ⟨hu1, hu2⟩ := hu
  obtain ⟨hv1, hv2⟩ := hv
  obtain ⟨hk1, hk2⟩ := hk
  obtain ⟨hL1, hL2, hL3, hL4, hL5, hL6, hL7, hL8, hL9⟩ := id hL
  have hs2 := hB.2 2 5 2 0 60 rfl rfl
  have hs4 := hB.2 4 5 2 0 60 rfl rfl
  have hs6 := hB.2 6 5 2 0 60 rfl rfl
  have hs8 := hB.2 8 5 2 0 60 rfl rfl
  have hs10 := hB.2 10 5 2 0 60 rfl rfl
  have hs12 := hB.2 12 5 2 0 60 rfl rfl
  refine T_il d_X10_plough_0 rfl ?_
  refine T_il d_X10_plough_1 rfl ?_
  refine T_il d_X10_plough_2 rfl ?_
  refine T_il d_X10_plough_3 rfl ?_
  refine C_ps4 d_X10_plough_5 (hdF (by decide)) (hcF _) (R_X10_isPlot (by first | assumption | omega | exact ⟨by omega, by omega⟩ | (subst_vars; simp_all [uV]; done) | grind [uV]) (by first | assumption | omega | exact ⟨by omega, by omega⟩ | (subst_vars; simp_all [uV]; done) | grind [uV]) (by first | assumption | omega | exact ⟨by omega, by omega⟩ | (subst_vars; simp_all [uV]; done) | grind [uV]) (by first | assumption | omega | exact ⟨by omega, by omega⟩ | (subst_vars; simp_all [uV]; done) | grind [uV])) ?_
  refine T_pz0 d_X10_plough_8 (fun h8 => ?_) (fun h8 => ?_)
  · skip
    refine T_al d_X10_plough_22 rfl ?_
    refine T_k d_X10_plough_23 ?_
    refine C_v1 d_X10_plough_24 rfl (hdF (by decide)) (hcF _) (R_X10_refuse (by first | assumption | omega | exact ⟨by omega, by omega⟩ | (subst_vars; simp_all [uV]; done) | grind [uV]) (by first | assumption | omega | exact ⟨by omega, by omega⟩ | (subst_vars; simp_all [uV]; done) | grind [uV]) (by first | assumption | omega | exact ⟨by omega, by omega⟩ | (subst_vars; simp_all [uV]; done) | grind [uV]) (by first | assumption | omega | exact ⟨by omega, by omega⟩ | (subst_vars; simp_all [uV]; done) | grind [uV])) (fun r_1 V_2 R_3 qV_2 => ?_)
    obtain ⟨rfl, eV_2, rfl, hBV_2⟩ := qV_2
    -- leaf 8t@27
    refine T_iret d_X10_plough_27 rfl ?_
    refine ⟨?_, ?_, rfl, hBV_2⟩
    · first | grind | (subst_vars; simp_all [addV, markV, forgV, uV]; done) | (subst_vars; simp_all [addV, markV, forgV, uV]; omega)
    · subst_vars
      first | grind | (simp_all [addV, markV, forgV, uV]; done) | (funext a i; simp_all [addV, markV, forgV, uV]; done)
  · skip
    refine T_il d_X10_plough_11 rfl ?_
    refine T_k d_X10_plough_13 ?_
    refine T_k d_X10_plough_14 ?_
    refine C_ps3 d_X10_plough_16 (hdF (by decide)) (hcF _) (R_X10_isIn (by first | assumption | omega | exact ⟨by omega, by omega⟩ | (subst_vars; simp_all [uV]; done) | grind [uV]) (by first | assumption | omega | exact ⟨by omega, by omega⟩ | (subst_vars; simp_all [uV]; done) | grind [uV]) (by first | assumption | omega | exact ⟨by omega, by omega⟩ | (subst_vars; simp_all [uV]; done) | grind [uV])) ?_
    refine T_pz1 d_X10_plough_19 (fun h19 => ?_) (fun h19 => ?_)
    · skip
      refine T_al d_X10_plough_28 rfl ?_
      refine F_gr (b := 1) d_X10_plough_29 rfl hF rfl ?_
      refine F_gr (b := 8) d_X10_plough_32 rfl hF rfl ?_
      refine C_pv0 d_X10_plough_35 rfl (hdF (by decide)) (hcF _) (R_X5_isFull_8 (by first | assumption | omega | exact ⟨by omega, by omega⟩ | (subst_vars; simp_all [uV]; done) | grind [uV]) (by first | assumption | omega | exact ⟨by omega, by omega⟩ | (subst_vars; simp_all [uV]; done) | grind [uV])) ?_
      refine T_pz0 d_X10_plough_38 (fun h38 => ?_) (fun h38 => ?_)
      · skip
        refine T_al d_X10_plough_48 rfl ?_
        refine F_gr (b := 1) d_X10_plough_49 rfl hF rfl ?_
        refine F_gr (b := 8) d_X10_plough_52 rfl hF rfl ?_
        refine T_il d_X10_plough_55 rfl ?_
        refine T_il d_X10_plough_56 rfl ?_
        refine T_il d_X10_plough_57 rfl ?_
        refine T_il d_X10_plough_58 rfl ?_
        refine T_il d_X10_plough_60 rfl ?_
        refine C_v5 d_X10_plough_62 rfl (hdF (by decide)) (hcF _) (R_X5_add_8 (by first | assumption | omega | exact ⟨by omega, by omega⟩ | (subst_vars; simp_all [uV]; done) | grind [uV]) (by first | assumption | omega | exact ⟨by omega, by omega⟩ | (subst_vars; simp_all [uV]; done) | grind [uV]) (by first | assumption | omega | exact ⟨by omega, by omega⟩ | (subst_vars; simp_all [uV]; done) | grind [uV]) (by first | assumption | omega | exact ⟨by omega, by omega⟩ | (subst_vars; simp_all [uV]; done) | grind [uV]) (by first | assumption | omega | exact ⟨by omega, by omega⟩ | (subst_vars; simp_all [uV]; done) | grind [uV])) (fun r_4 V_5 R_6 qV_5 => ?_)
        obtain ⟨rfl, eV_5, rfl, hBV_5⟩ := qV_5
        refine T_al d_X10_plough_65 rfl ?_
        refine F_gr (b := 30) d_X10_plough_66 rfl hF rfl ?_
        refine T_k d_X10_plough_69 ?_
        refine C_v1 d_X10_plough_70 rfl (hdF (by decide)) (hcF _) (R_X9_forget (by first | assumption | omega | exact ⟨by omega, by omega⟩ | (subst_vars; simp_all [uV]; done) | grind [uV]) (by first | assumption | omega | exact ⟨by omega, by omega⟩ | (subst_vars; simp_all [uV]; done) | grind [uV]) (by first | assumption | omega | exact ⟨by omega, by omega⟩ | (subst_vars; simp_all [uV]; done) | grind [uV])) (fun r_7 V_8 R_9 qV_8 => ?_)
        obtain ⟨rfl, eV_8, rfl, hBV_8⟩ := qV_8
        refine T_al d_X10_plough_73 rfl ?_
        refine T_al d_X10_plough_74 rfl ?_
        refine F_gr (b := 1) d_X10_plough_75 rfl hF rfl ?_
        refine F_gr (b := 8) d_X10_plough_78 rfl hF rfl ?_
        refine F_gi d_X10_plough_81 rfl hBV_8 rfl (fun b_10 => ?_)
        refine C_v1 d_X10_plough_84 rfl (hdF (by decide)) (hcF _) (R_X10_accept (by first | assumption | omega | exact ⟨by omega, by omega⟩ | (subst_vars; simp_all [uV]; done) | grind [uV]) (by first | assumption | omega | exact ⟨by omega, by omega⟩ | (subst_vars; simp_all [uV]; done) | grind [uV]) (by first | assumption | omega | exact ⟨by omega, by omega⟩ | (subst_vars; simp_all [uV]; done) | grind [uV])) (fun r_11 V_12 R_13 qV_12 => ?_)
        obtain ⟨rfl, eV_12, rfl, hBV_12⟩ := qV_12
        -- leaf 8f.19t.38t@87
        refine T_iret d_X10_plough_87 rfl ?_
        refine ⟨?_, ?_, rfl, hBV_12⟩
        · first | grind | (subst_vars; simp_all [addV, markV, forgV, uV]; done) | (subst_vars; simp_all [addV, markV, forgV, uV]; omega)
        · subst_vars
          first | grind | (simp_all [addV, markV, forgV, uV]; done) | (funext a i; simp_all [addV, markV, forgV, uV]; done)
      · skip
        refine T_al d_X10_plough_41 rfl ?_
        refine T_k d_X10_plough_42 ?_
        refine C_v1 d_X10_plough_44 rfl (hdF (by decide)) (hcF _) (R_X10_refuse (by first | assumption | omega | exact ⟨by omega, by omega⟩ | (subst_vars; simp_all [uV]; done) | grind [uV]) (by first | assumption | omega | exact ⟨by omega, by omega⟩ | (subst_vars; simp_all [uV]; done) | grind [uV]) (by first | assumption | omega | exact ⟨by omega, by omega⟩ | (subst_vars; simp_all [uV]; done) | grind [uV]) (by first | assumption | omega | exact ⟨by omega, by omega⟩ | (subst_vars; simp_all [uV]; done) | grind [uV])) (fun r_14 V_15 R_16 qV_15 => ?_)
        obtain ⟨rfl, eV_15, rfl, hBV_15⟩ := qV_15
        -- leaf 8f.19t.38f@47
        refine T_iret d_X10_plough_47 rfl ?_
        refine ⟨?_, ?_, rfl, hBV_15⟩
        · first | grind | (subst_vars; simp_all [addV, markV, forgV, uV]; done) | (subst_vars; simp_all [addV, markV, forgV, uV]; omega)
        · subst_vars
          first | grind | (simp_all [addV, markV, forgV, uV]; done) | (funext a i; simp_all [addV, markV, forgV, uV]; done)
    · skip
      refine T_al d_X10_plough_22 rfl ?_
      refine T_k d_X10_plough_23 ?_
      refine C_v1 d_X10_plough_24 rfl (hdF (by decide)) (hcF _) (R_X10_refuse (by first | assumption | omega | exact ⟨by omega, by omega⟩ | (subst_vars; simp_all [uV]; done) | grind [uV]) (by first | assumption | omega | exact ⟨by omega, by omega⟩ | (subst_vars; simp_all [uV]; done) | grind [uV]) (by first | assumption | omega | exact ⟨by omega, by omega⟩ | (subst_vars; simp_all [uV]; done) | grind [uV]) (by first | assumption | omega | exact ⟨by omega, by omega⟩ | (subst_vars; simp_all [uV]; done) | grind [uV])) (fun r_17 V_18 R_19 qV_18 => ?_)
      obtain ⟨rfl, eV_18, rfl, hBV_18⟩ := qV_18
      -- leaf 8f.19f@27
      refine T_iret d_X10_plough_27 rfl ?_
      refine ⟨?_, ?_, rfl, hBV_18⟩
      · first | grind | (subst_vars; simp_all [addV, markV, forgV, uV]; done) | (subst_vars; simp_all [addV, markV, forgV, uV]; omega)
      · subst_vars
        first | grind | (simp_all [addV, markV, forgV, uV]; done) | (funext a i; simp_all [addV, markV, forgV, uV]; done)
set_option maxHeartbeats 1000000 in
set_option maxRecDepth 100000 in
theorem R_X10_error {G : GG} {V : VV} {R : RR} {n : Int}  (hB : Bd V) (hF : FinR R) (hL : LR V) (hn : r32 n) : Runs G M_X10_error 6 162 162 [vr 0, vi n] V R (QV R (if ¬ (0 ≤ n ∧ n ≤ 5) then -1 else (V 1 8)) (if ¬ (0 ≤ n ∧ n ≤ 5) then uV V 0 3 (-1) else (uV (forgV (uV V 1 8 n) 0) 0 3 0))) := by
  refine Runs.of pn_X10 (Nat.le_of_ble_eq_true rfl) rfl ?_
  show TT G M_X10_error (rmd 6 162 162) 162 (Zm G 162 162 (QV R (if ¬ (0 ≤ n ∧ n ≤ 5) then -1 else (V 1 8)) (if ¬ (0 ≤ n ∧ n ≤ 5) then uV V 0 3 (-1) else (uV (forgV (uV V 1 8 n) 0) 0 3 0)))) 162 0 [(0, vr 0), (1, vi n)] [] V R
  obtain ⟨hn1, hn2⟩ := hn
  obtain ⟨hL1, hL2, hL3, hL4, hL5, hL6, hL7, hL8, hL9⟩ := id hL
  have hs2 := hB.2 2 5 2 0 60 rfl rfl
  have hs4 := hB.2 4 5 2 0 60 rfl rfl
  have hs6 := hB.2 6 5 2 0 60 rfl rfl
  have hs8 := hB.2 8 5 2 0 60 rfl rfl
  have hs10 := hB.2 10 5 2 0 60 rfl rfl
  have hs12 := hB.2 12 5 2 0 60 rfl rfl
  refine T_il d_X10_error_0 rfl ?_
  refine T_k d_X10_error_1 ?_
  refine T_k d_X10_error_2 ?_
  refine C_ps3 d_X10_error_3 (hdF (by decide)) (hcF _) (R_X10_isIn (by first | assumption | omega | exact ⟨by omega, by omega⟩ | (subst_vars; simp_all [uV]; done) | grind [uV]) (by first | assumption | omega | exact ⟨by omega, by omega⟩ | (subst_vars; simp_all [uV]; done) | grind [uV]) (by first | assumption | omega | exact ⟨by omega, by omega⟩ | (subst_vars; simp_all [uV]; done) | grind [uV])) ?_
  refine T_pz1 d_X10_error_6 (fun h6 => ?_) (fun h6 => ?_)
  · skip
    refine T_al d_X10_error_15 rfl ?_
    refine F_gr (b := 1) d_X10_error_16 rfl hF rfl ?_
    refine F_gi d_X10_error_19 rfl hB rfl (fun b_1 => ?_)
    refine F_isg d_X10_error_22 (f := fun x_2 => [(0, vr 0), (1, vi n), (2, vi x_2)]) (fun _ => rfl) (fun x_2 ex_2 => ?_)
    refine T_al d_X10_error_23 rfl ?_
    refine F_gr (b := 1) d_X10_error_24 rfl hF rfl ?_
    refine T_il d_X10_error_27 rfl ?_
    refine F_pi d_X10_error_28 rfl hB rfl ⟨by omega, by omega⟩ (fun V_3 eV_3 hBV_3 => ?_)
    refine T_al d_X10_error_31 rfl ?_
    refine F_gr (b := 30) d_X10_error_32 rfl hF rfl ?_
    refine T_k d_X10_error_35 ?_
    refine C_v1 d_X10_error_36 rfl (hdF (by decide)) (hcF _) (R_X9_forget (by first | assumption | omega | exact ⟨by omega, by omega⟩ | (subst_vars; simp_all [uV]; done) | grind [uV]) (by first | assumption | omega | exact ⟨by omega, by omega⟩ | (subst_vars; simp_all [uV]; done) | grind [uV]) (by first | assumption | omega | exact ⟨by omega, by omega⟩ | (subst_vars; simp_all [uV]; done) | grind [uV])) (fun r_4 V_5 R_6 qV_5 => ?_)
    obtain ⟨rfl, eV_5, rfl, hBV_5⟩ := qV_5
    refine T_al d_X10_error_39 rfl ?_
    refine T_il d_X10_error_40 rfl ?_
    refine C_v1 d_X10_error_41 rfl (hdF (by decide)) (hcF _) (R_X10_accept (by first | assumption | omega | exact ⟨by omega, by omega⟩ | (subst_vars; simp_all [uV]; done) | grind [uV]) (by first | assumption | omega | exact ⟨by omega, by omega⟩ | (subst_vars; simp_all [uV]; done) | grind [uV]) (by first | assumption | omega | exact ⟨by omega, by omega⟩ | (subst_vars; simp_all [uV]; done) | grind [uV])) (fun r_7 V_8 R_9 qV_8 => ?_)
    obtain ⟨rfl, eV_8, rfl, hBV_8⟩ := qV_8
    -- leaf 6t@44
    refine T_iret d_X10_error_44 rfl ?_
    refine ⟨?_, ?_, rfl, hBV_8⟩
    · first | grind | (subst_vars; simp_all [addV, markV, forgV, uV]; done) | (subst_vars; simp_all [addV, markV, forgV, uV]; omega)
    · subst_vars
      first | grind | (simp_all [addV, markV, forgV, uV]; done) | (funext a i; simp_all [addV, markV, forgV, uV]; done)
  · skip
    refine T_al d_X10_error_9 rfl ?_
    refine T_k d_X10_error_10 ?_
    refine C_v1 d_X10_error_11 rfl (hdF (by decide)) (hcF _) (R_X10_refuse (by first | assumption | omega | exact ⟨by omega, by omega⟩ | (subst_vars; simp_all [uV]; done) | grind [uV]) (by first | assumption | omega | exact ⟨by omega, by omega⟩ | (subst_vars; simp_all [uV]; done) | grind [uV]) (by first | assumption | omega | exact ⟨by omega, by omega⟩ | (subst_vars; simp_all [uV]; done) | grind [uV]) (by first | assumption | omega | exact ⟨by omega, by omega⟩ | (subst_vars; simp_all [uV]; done) | grind [uV])) (fun r_10 V_11 R_12 qV_11 => ?_)
    obtain ⟨rfl, eV_11, rfl, hBV_11⟩ := qV_11
    -- leaf 6f@14
    refine T_iret d_X10_error_14 rfl ?_
    refine ⟨?_, ?_, rfl, hBV_11⟩
    · first | grind | (subst_vars; simp_all [addV, markV, forgV, uV]; done) | (subst_vars; simp_all [addV, markV, forgV, uV]; omega)
    · subst_vars
      first | grind | (simp_all [addV, markV, forgV, uV]; done) | (funext a i; simp_all [addV, markV, forgV, uV]; done)
set_option maxHeartbeats 1000000 in
set_option maxRecDepth 100000 in
theorem R_X10_cut {G : GG} {V : VV} {R : RR} {l : Int} {e : Int} {k : Int}  (hB : Bd V) (hF : FinR R) (hL : LR V) (hl : r32 l) (he : r32 e) (hk : r32 k) : Runs G M_X10_cut 6 162 162 [vr 0, vi l, vi e, vi k] V R (QV R (if ¬ wkP k then -1 else (if ¬ (hasC V l ∧ hasC V e) then -2 else (if l = e then -4 else (if V 10 2 = 60 then -5 else (V 10 2 + 1))))) (if ¬ wkP k then uV V 0 3 (-1) else (if ¬ (hasC V l ∧ hasC V e) then uV V 0 3 (-2) else (if l = e then uV V 0 3 (-4) else (if V 10 2 = 60 then uV V 0 3 (-5) else (uV (forgV (markV (addV V 10 11 l e 0 0 k) k) 3) 0 3 0)))))) := by
  refine Runs.of pn_X10 (Nat.le_of_ble_eq_true rfl) rfl ?_
  show TT G M_X10_cut (rmd 6 162 162) 162 (Zm G 162 162 (QV R (if ¬ wkP k then -1 else (if ¬ (hasC V l ∧ hasC V e) then -2 else (if l = e then -4 else (if V 10 2 = 60 then -5 else (V 10 2 + 1))))) (if ¬ wkP k then uV V 0 3 (-1) else (if ¬ (hasC V l ∧ hasC V e) then uV V 0 3 (-2) else (if l = e then uV V 0 3 (-4) else (if V 10 2 = 60 then uV V 0 3 (-5) else (uV (forgV (markV (addV V 10 11 l e 0 0 k) k) 3) 0 3 0))))))) 162 0 [(0, vr 0), (1, vi l), (2, vi e), (3, vi k)] [] V R
  obtain ⟨hl1, hl2⟩ := hl
  obtain ⟨he1, he2⟩ := he
  obtain ⟨hk1, hk2⟩ := hk
  obtain ⟨hL1, hL2, hL3, hL4, hL5, hL6, hL7, hL8, hL9⟩ := id hL
  have hs2 := hB.2 2 5 2 0 60 rfl rfl
  have hs4 := hB.2 4 5 2 0 60 rfl rfl
  have hs6 := hB.2 6 5 2 0 60 rfl rfl
  have hs8 := hB.2 8 5 2 0 60 rfl rfl
  have hs10 := hB.2 10 5 2 0 60 rfl rfl
  have hs12 := hB.2 12 5 2 0 60 rfl rfl
  refine T_il d_X10_cut_0 rfl ?_
  refine C_ps1 d_X10_cut_1 (hdF (by decide)) (hcF _) (R_X10_isWeek (by first | assumption | omega | exact ⟨by omega, by omega⟩ | (subst_vars; simp_all [uV]; done) | grind [uV])) ?_
  refine T_pz1 d_X10_cut_4 (fun h4 => ?_) (fun h4 => ?_)
  · skip
    refine T_al d_X10_cut_13 rfl ?_
    refine F_gr (b := 1) d_X10_cut_14 rfl hF rfl ?_
    refine T_il d_X10_cut_17 rfl ?_
    refine C_pv1 d_X10_cut_18 rfl (hdF (by decide)) (hcF _) (R_X0_hasHole (by first | assumption | omega | exact ⟨by omega, by omega⟩ | (subst_vars; simp_all [uV]; done) | grind [uV]) (by first | assumption | omega | exact ⟨by omega, by omega⟩ | (subst_vars; simp_all [uV]; done) | grind [uV]) (by first | assumption | omega | exact ⟨by omega, by omega⟩ | (subst_vars; simp_all [uV]; done) | grind [uV])) ?_
    refine T_pz0 d_X10_cut_21 (fun h21 => ?_) (fun h21 => ?_)
    · skip
      refine T_al d_X10_cut_35 rfl ?_
      refine T_k d_X10_cut_36 ?_
      refine C_v1 d_X10_cut_38 rfl (hdF (by decide)) (hcF _) (R_X10_refuse (by first | assumption | omega | exact ⟨by omega, by omega⟩ | (subst_vars; simp_all [uV]; done) | grind [uV]) (by first | assumption | omega | exact ⟨by omega, by omega⟩ | (subst_vars; simp_all [uV]; done) | grind [uV]) (by first | assumption | omega | exact ⟨by omega, by omega⟩ | (subst_vars; simp_all [uV]; done) | grind [uV]) (by first | assumption | omega | exact ⟨by omega, by omega⟩ | (subst_vars; simp_all [uV]; done) | grind [uV])) (fun r_1 V_2 R_3 qV_2 => ?_)
      obtain ⟨rfl, eV_2, rfl, hBV_2⟩ := qV_2
      -- leaf 4t.21t@41
      refine T_iret d_X10_cut_41 rfl ?_
      refine ⟨?_, ?_, rfl, hBV_2⟩
      · first | grind | (subst_vars; simp_all [addV, markV, forgV, uV]; done) | (subst_vars; simp_all [addV, markV, forgV, uV]; omega)
      · subst_vars
        first | grind | (simp_all [addV, markV, forgV, uV]; done) | (funext a i; simp_all [addV, markV, forgV, uV]; done)
    · skip
      refine T_al d_X10_cut_24 rfl ?_
      refine F_gr (b := 1) d_X10_cut_25 rfl hF rfl ?_
      refine T_il d_X10_cut_28 rfl ?_
      refine C_pv1 d_X10_cut_29 rfl (hdF (by decide)) (hcF _) (R_X0_hasHole (by first | assumption | omega | exact ⟨by omega, by omega⟩ | (subst_vars; simp_all [uV]; done) | grind [uV]) (by first | assumption | omega | exact ⟨by omega, by omega⟩ | (subst_vars; simp_all [uV]; done) | grind [uV]) (by first | assumption | omega | exact ⟨by omega, by omega⟩ | (subst_vars; simp_all [uV]; done) | grind [uV])) ?_
      refine T_pz1 d_X10_cut_32 (fun h32 => ?_) (fun h32 => ?_)
      · skip
        refine T_il d_X10_cut_42 rfl ?_
        refine T_il d_X10_cut_43 rfl ?_
        refine T_ine d_X10_cut_44 ⟨by omega, by omega⟩ ⟨by omega, by omega⟩ (fun h44 => ?_) (fun h44 => ?_)
        · skip
          refine T_al d_X10_cut_54 rfl ?_
          refine F_gr (b := 1) d_X10_cut_55 rfl hF rfl ?_
          refine F_gr (b := 10) d_X10_cut_58 rfl hF rfl ?_
          refine C_pv0 d_X10_cut_61 rfl (hdF (by decide)) (hcF _) (R_X5_isFull_10 (by first | assumption | omega | exact ⟨by omega, by omega⟩ | (subst_vars; simp_all [uV]; done) | grind [uV]) (by first | assumption | omega | exact ⟨by omega, by omega⟩ | (subst_vars; simp_all [uV]; done) | grind [uV])) ?_
          refine T_pz0 d_X10_cut_64 (fun h64 => ?_) (fun h64 => ?_)
          · skip
            refine T_al d_X10_cut_74 rfl ?_
            refine F_gr (b := 1) d_X10_cut_75 rfl hF rfl ?_
            refine F_gr (b := 10) d_X10_cut_78 rfl hF rfl ?_
            refine T_il d_X10_cut_81 rfl ?_
            refine T_il d_X10_cut_82 rfl ?_
            refine T_k d_X10_cut_83 ?_
            refine T_k d_X10_cut_84 ?_
            refine T_il d_X10_cut_85 rfl ?_
            refine C_v5 d_X10_cut_86 rfl (hdF (by decide)) (hcF _) (R_X5_add_10 (by first | assumption | omega | exact ⟨by omega, by omega⟩ | (subst_vars; simp_all [uV]; done) | grind [uV]) (by first | assumption | omega | exact ⟨by omega, by omega⟩ | (subst_vars; simp_all [uV]; done) | grind [uV]) (by first | assumption | omega | exact ⟨by omega, by omega⟩ | (subst_vars; simp_all [uV]; done) | grind [uV]) (by first | assumption | omega | exact ⟨by omega, by omega⟩ | (subst_vars; simp_all [uV]; done) | grind [uV]) (by first | assumption | omega | exact ⟨by omega, by omega⟩ | (subst_vars; simp_all [uV]; done) | grind [uV])) (fun r_4 V_5 R_6 qV_5 => ?_)
            obtain ⟨rfl, eV_5, rfl, hBV_5⟩ := qV_5
            refine T_al d_X10_cut_89 rfl ?_
            refine F_gr (b := 1) d_X10_cut_90 rfl hF rfl ?_
            refine T_il d_X10_cut_93 rfl ?_
            refine C_v1 d_X10_cut_94 rfl (hdF (by decide)) (hcF _) (R_X0_mark (by first | assumption | omega | exact ⟨by omega, by omega⟩ | (subst_vars; simp_all [uV]; done) | grind [uV]) (by first | assumption | omega | exact ⟨by omega, by omega⟩ | (subst_vars; simp_all [uV]; done) | grind [uV]) (by first | assumption | omega | exact ⟨by omega, by omega⟩ | (subst_vars; simp_all [uV]; done) | grind [uV])) (fun r_7 V_8 R_9 qV_8 => ?_)
            obtain ⟨rfl, eV_8, rfl, hBV_8⟩ := qV_8
            refine T_al d_X10_cut_97 rfl ?_
            refine F_gr (b := 30) d_X10_cut_98 rfl hF rfl ?_
            refine T_k d_X10_cut_101 ?_
            refine C_v1 d_X10_cut_102 rfl (hdF (by decide)) (hcF _) (R_X9_forget (by first | assumption | omega | exact ⟨by omega, by omega⟩ | (subst_vars; simp_all [uV]; done) | grind [uV]) (by first | assumption | omega | exact ⟨by omega, by omega⟩ | (subst_vars; simp_all [uV]; done) | grind [uV]) (by first | assumption | omega | exact ⟨by omega, by omega⟩ | (subst_vars; simp_all [uV]; done) | grind [uV])) (fun r_10 V_11 R_12 qV_11 => ?_)
            obtain ⟨rfl, eV_11, rfl, hBV_11⟩ := qV_11
            refine T_al d_X10_cut_105 rfl ?_
            refine T_al d_X10_cut_106 rfl ?_
            refine F_gr (b := 1) d_X10_cut_107 rfl hF rfl ?_
            refine F_gr (b := 10) d_X10_cut_110 rfl hF rfl ?_
            refine F_gi d_X10_cut_113 rfl hBV_11 rfl (fun b_13 => ?_)
            refine C_v1 d_X10_cut_116 rfl (hdF (by decide)) (hcF _) (R_X10_accept (by first | assumption | omega | exact ⟨by omega, by omega⟩ | (subst_vars; simp_all [uV]; done) | grind [uV]) (by first | assumption | omega | exact ⟨by omega, by omega⟩ | (subst_vars; simp_all [uV]; done) | grind [uV]) (by first | assumption | omega | exact ⟨by omega, by omega⟩ | (subst_vars; simp_all [uV]; done) | grind [uV])) (fun r_14 V_15 R_16 qV_15 => ?_)
            obtain ⟨rfl, eV_15, rfl, hBV_15⟩ := qV_15
            -- leaf 4t.21f.32t.44t.64t@119
            refine T_iret d_X10_cut_119 rfl ?_
            refine ⟨?_, ?_, rfl, hBV_15⟩
            · first | grind | (subst_vars; simp_all [addV, markV, forgV, uV]; done) | (subst_vars; simp_all [addV, markV, forgV, uV]; omega)
            · subst_vars
              first | grind | (simp_all [addV, markV, forgV, uV]; done) | (funext a i; simp_all [addV, markV, forgV, uV]; done)
          · skip
            refine T_al d_X10_cut_67 rfl ?_
            refine T_k d_X10_cut_68 ?_
            refine C_v1 d_X10_cut_70 rfl (hdF (by decide)) (hcF _) (R_X10_refuse (by first | assumption | omega | exact ⟨by omega, by omega⟩ | (subst_vars; simp_all [uV]; done) | grind [uV]) (by first | assumption | omega | exact ⟨by omega, by omega⟩ | (subst_vars; simp_all [uV]; done) | grind [uV]) (by first | assumption | omega | exact ⟨by omega, by omega⟩ | (subst_vars; simp_all [uV]; done) | grind [uV]) (by first | assumption | omega | exact ⟨by omega, by omega⟩ | (subst_vars; simp_all [uV]; done) | grind [uV])) (fun r_17 V_18 R_19 qV_18 => ?_)
            obtain ⟨rfl, eV_18, rfl, hBV_18⟩ := qV_18
            -- leaf 4t.21f.32t.44t.64f@73
            refine T_iret d_X10_cut_73 rfl ?_
            refine ⟨?_, ?_, rfl, hBV_18⟩
            · first | grind | (subst_vars; simp_all [addV, markV, forgV, uV]; done) | (subst_vars; simp_all [addV, markV, forgV, uV]; omega)
            · subst_vars
              first | grind | (simp_all [addV, markV, forgV, uV]; done) | (funext a i; simp_all [addV, markV, forgV, uV]; done)
        · skip
          refine T_al d_X10_cut_47 rfl ?_
          refine T_k d_X10_cut_48 ?_
          refine C_v1 d_X10_cut_50 rfl (hdF (by decide)) (hcF _) (R_X10_refuse (by first | assumption | omega | exact ⟨by omega, by omega⟩ | (subst_vars; simp_all [uV]; done) | grind [uV]) (by first | assumption | omega | exact ⟨by omega, by omega⟩ | (subst_vars; simp_all [uV]; done) | grind [uV]) (by first | assumption | omega | exact ⟨by omega, by omega⟩ | (subst_vars; simp_all [uV]; done) | grind [uV]) (by first | assumption | omega | exact ⟨by omega, by omega⟩ | (subst_vars; simp_all [uV]; done) | grind [uV])) (fun r_20 V_21 R_22 qV_21 => ?_)
          obtain ⟨rfl, eV_21, rfl, hBV_21⟩ := qV_21
          -- leaf 4t.21f.32t.44f@53
          refine T_iret d_X10_cut_53 rfl ?_
          refine ⟨?_, ?_, rfl, hBV_21⟩
          · first | grind | (subst_vars; simp_all [addV, markV, forgV, uV]; done) | (subst_vars; simp_all [addV, markV, forgV, uV]; omega)
          · subst_vars
            first | grind | (simp_all [addV, markV, forgV, uV]; done) | (funext a i; simp_all [addV, markV, forgV, uV]; done)
      · skip
        refine T_al d_X10_cut_35 rfl ?_
        refine T_k d_X10_cut_36 ?_
        refine C_v1 d_X10_cut_38 rfl (hdF (by decide)) (hcF _) (R_X10_refuse (by first | assumption | omega | exact ⟨by omega, by omega⟩ | (subst_vars; simp_all [uV]; done) | grind [uV]) (by first | assumption | omega | exact ⟨by omega, by omega⟩ | (subst_vars; simp_all [uV]; done) | grind [uV]) (by first | assumption | omega | exact ⟨by omega, by omega⟩ | (subst_vars; simp_all [uV]; done) | grind [uV]) (by first | assumption | omega | exact ⟨by omega, by omega⟩ | (subst_vars; simp_all [uV]; done) | grind [uV])) (fun r_23 V_24 R_25 qV_24 => ?_)
        obtain ⟨rfl, eV_24, rfl, hBV_24⟩ := qV_24
        -- leaf 4t.21f.32f@41
        refine T_iret d_X10_cut_41 rfl ?_
        refine ⟨?_, ?_, rfl, hBV_24⟩
        · first | grind | (subst_vars; simp_all [addV, markV, forgV, uV]; done) | (subst_vars; simp_all [addV, markV, forgV, uV]; omega)
        · subst_vars
          first | grind | (simp_all [addV, markV, forgV, uV]; done) | (funext a i; simp_all [addV, markV, forgV, uV]; done)
  · skip
    refine T_al d_X10_cut_7 rfl ?_
    refine T_k d_X10_cut_8 ?_
    refine C_v1 d_X10_cut_9 rfl (hdF (by decide)) (hcF _) (R_X10_refuse (by first | assumption | omega | exact ⟨by omega, by omega⟩ | (subst_vars; simp_all [uV]; done) | grind [uV]) (by first | assumption | omega | exact ⟨by omega, by omega⟩ | (subst_vars; simp_all [uV]; done) | grind [uV]) (by first | assumption | omega | exact ⟨by omega, by omega⟩ | (subst_vars; simp_all [uV]; done) | grind [uV]) (by first | assumption | omega | exact ⟨by omega, by omega⟩ | (subst_vars; simp_all [uV]; done) | grind [uV])) (fun r_26 V_27 R_28 qV_27 => ?_)
    obtain ⟨rfl, eV_27, rfl, hBV_27⟩ := qV_27
    -- leaf 4f@12
    refine T_iret d_X10_cut_12 rfl ?_
    refine ⟨?_, ?_, rfl, hBV_27⟩
    · first | grind | (subst_vars; simp_all [addV, markV, forgV, uV]; done) | (subst_vars; simp_all [addV, markV, forgV, uV]; omega)
    · subst_vars
      first | grind | (simp_all [addV, markV, forgV, uV]; done) | (funext a i; simp_all [addV, markV, forgV, uV]; done)
set_option maxHeartbeats 1000000 in
set_option maxRecDepth 100000 in
theorem R_X10_date {G : GG} {V : VV} {R : RR} {h : Int} {f : Int} {l : Int} {k : Int}  (hB : Bd V) (hF : FinR R) (hL : LR V) (hh : r32 h) (hf : r32 f) (hl : r32 l) (hk : r32 k) : Runs G M_X10_date 6 162 162 [vr 0, vi h, vi f, vi l, vi k] V R (QV R (if ¬ ((0 ≤ f ∧ f ≤ l ∧ l ≤ 2000) ∧ wkP k) then -1 else (if ¬ hasC V h then -2 else (if V 12 2 = 60 then -5 else (V 12 2 + 1)))) (if ¬ ((0 ≤ f ∧ f ≤ l ∧ l ≤ 2000) ∧ wkP k) then uV V 0 3 (-1) else (if ¬ hasC V h then uV V 0 3 (-2) else (if V 12 2 = 60 then uV V 0 3 (-5) else (uV (forgV (markV (addV V 12 13 h f l 0 k) k) 4) 0 3 0))))) := by
  refine Runs.of pn_X10 (Nat.le_of_ble_eq_true rfl) rfl ?_
  show TT G M_X10_date (rmd 6 162 162) 162 (Zm G 162 162 (QV R (if ¬ ((0 ≤ f ∧ f ≤ l ∧ l ≤ 2000) ∧ wkP k) then -1 else (if ¬ hasC V h then -2 else (if V 12 2 = 60 then -5 else (V 12 2 + 1)))) (if ¬ ((0 ≤ f ∧ f ≤ l ∧ l ≤ 2000) ∧ wkP k) then uV V 0 3 (-1) else (if ¬ hasC V h then uV V 0 3 (-2) else (if V 12 2 = 60 then uV V 0 3 (-5) else (uV (forgV (markV (addV V 12 13 h f l 0 k) k) 4) 0 3 0)))))) 162 0 [(0, vr 0), (1, vi h), (2, vi f), (3, vi l), (4, vi k)] [] V R
  obtain ⟨hh1, hh2⟩ := hh
  obtain ⟨hf1, hf2⟩ := hf
  obtain ⟨hl1, hl2⟩ := hl
  obtain ⟨hk1, hk2⟩ := hk
  obtain ⟨hL1, hL2, hL3, hL4, hL5, hL6, hL7, hL8, hL9⟩ := id hL
  have hs2 := hB.2 2 5 2 0 60 rfl rfl
  have hs4 := hB.2 4 5 2 0 60 rfl rfl
  have hs6 := hB.2 6 5 2 0 60 rfl rfl
  have hs8 := hB.2 8 5 2 0 60 rfl rfl
  have hs10 := hB.2 10 5 2 0 60 rfl rfl
  have hs12 := hB.2 12 5 2 0 60 rfl rfl
  refine T_il d_X10_date_0 rfl ?_
  refine T_k d_X10_date_1 ?_
  refine T_k d_X10_date_2 ?_
  refine C_ps3 d_X10_date_5 (hdF (by decide)) (hcF _) (R_X10_isIn (by first | assumption | omega | exact ⟨by omega, by omega⟩ | (subst_vars; simp_all [uV]; done) | grind [uV]) (by first | assumption | omega | exact ⟨by omega, by omega⟩ | (subst_vars; simp_all [uV]; done) | grind [uV]) (by first | assumption | omega | exact ⟨by omega, by omega⟩ | (subst_vars; simp_all [uV]; done) | grind [uV])) ?_
  refine T_pz0 d_X10_date_8 (fun h8 => ?_) (fun h8 => ?_)
  · skip
    refine T_al d_X10_date_30 rfl ?_
    refine T_k d_X10_date_31 ?_
    refine C_v1 d_X10_date_32 rfl (hdF (by decide)) (hcF _) (R_X10_refuse (by first | assumption | omega | exact ⟨by omega, by omega⟩ | (subst_vars; simp_all [uV]; done) | grind [uV]) (by first | assumption | omega | exact ⟨by omega, by omega⟩ | (subst_vars; simp_all [uV]; done) | grind [uV]) (by first | assumption | omega | exact ⟨by omega, by omega⟩ | (subst_vars; simp_all [uV]; done) | grind [uV]) (by first | assumption | omega | exact ⟨by omega, by omega⟩ | (subst_vars; simp_all [uV]; done) | grind [uV])) (fun r_1 V_2 R_3 qV_2 => ?_)
    obtain ⟨rfl, eV_2, rfl, hBV_2⟩ := qV_2
    -- leaf 8t@35
    refine T_iret d_X10_date_35 rfl ?_
    refine ⟨?_, ?_, rfl, hBV_2⟩
    · first | grind | (subst_vars; simp_all [addV, markV, forgV, uV]; done) | (subst_vars; simp_all [addV, markV, forgV, uV]; omega)
    · subst_vars
      first | grind | (simp_all [addV, markV, forgV, uV]; done) | (funext a i; simp_all [addV, markV, forgV, uV]; done)
  · skip
    refine T_il d_X10_date_11 rfl ?_
    refine T_il d_X10_date_12 rfl ?_
    refine T_k d_X10_date_13 ?_
    refine C_ps3 d_X10_date_16 (hdF (by decide)) (hcF _) (R_X10_isIn (by first | assumption | omega | exact ⟨by omega, by omega⟩ | (subst_vars; simp_all [uV]; done) | grind [uV]) (by first | assumption | omega | exact ⟨by omega, by omega⟩ | (subst_vars; simp_all [uV]; done) | grind [uV]) (by first | assumption | omega | exact ⟨by omega, by omega⟩ | (subst_vars; simp_all [uV]; done) | grind [uV])) ?_
    refine T_pz0 d_X10_date_19 (fun h19 => ?_) (fun h19 => ?_)
    · skip
      refine T_al d_X10_date_30 rfl ?_
      refine T_k d_X10_date_31 ?_
      refine C_v1 d_X10_date_32 rfl (hdF (by decide)) (hcF _) (R_X10_refuse (by first | assumption | omega | exact ⟨by omega, by omega⟩ | (subst_vars; simp_all [uV]; done) | grind [uV]) (by first | assumption | omega | exact ⟨by omega, by omega⟩ | (subst_vars; simp_all [uV]; done) | grind [uV]) (by first | assumption | omega | exact ⟨by omega, by omega⟩ | (subst_vars; simp_all [uV]; done) | grind [uV]) (by first | assumption | omega | exact ⟨by omega, by omega⟩ | (subst_vars; simp_all [uV]; done) | grind [uV])) (fun r_4 V_5 R_6 qV_5 => ?_)
      obtain ⟨rfl, eV_5, rfl, hBV_5⟩ := qV_5
      -- leaf 8f.19t@35
      refine T_iret d_X10_date_35 rfl ?_
      refine ⟨?_, ?_, rfl, hBV_5⟩
      · first | grind | (subst_vars; simp_all [addV, markV, forgV, uV]; done) | (subst_vars; simp_all [addV, markV, forgV, uV]; omega)
      · subst_vars
        first | grind | (simp_all [addV, markV, forgV, uV]; done) | (funext a i; simp_all [addV, markV, forgV, uV]; done)
    · skip
      refine T_il d_X10_date_22 rfl ?_
      refine C_ps1 d_X10_date_24 (hdF (by decide)) (hcF _) (R_X10_isWeek (by first | assumption | omega | exact ⟨by omega, by omega⟩ | (subst_vars; simp_all [uV]; done) | grind [uV])) ?_
      refine T_pz1 d_X10_date_27 (fun h27 => ?_) (fun h27 => ?_)
      · skip
        refine T_al d_X10_date_36 rfl ?_
        refine F_gr (b := 1) d_X10_date_37 rfl hF rfl ?_
        refine T_il d_X10_date_40 rfl ?_
        refine C_pv1 d_X10_date_41 rfl (hdF (by decide)) (hcF _) (R_X0_hasHole (by first | assumption | omega | exact ⟨by omega, by omega⟩ | (subst_vars; simp_all [uV]; done) | grind [uV]) (by first | assumption | omega | exact ⟨by omega, by omega⟩ | (subst_vars; simp_all [uV]; done) | grind [uV]) (by first | assumption | omega | exact ⟨by omega, by omega⟩ | (subst_vars; simp_all [uV]; done) | grind [uV])) ?_
        refine T_pz1 d_X10_date_44 (fun h44 => ?_) (fun h44 => ?_)
        · skip
          refine T_al d_X10_date_54 rfl ?_
          refine F_gr (b := 1) d_X10_date_55 rfl hF rfl ?_
          refine F_gr (b := 12) d_X10_date_58 rfl hF rfl ?_
          refine C_pv0 d_X10_date_61 rfl (hdF (by decide)) (hcF _) (R_X5_isFull_12 (by first | assumption | omega | exact ⟨by omega, by omega⟩ | (subst_vars; simp_all [uV]; done) | grind [uV]) (by first | assumption | omega | exact ⟨by omega, by omega⟩ | (subst_vars; simp_all [uV]; done) | grind [uV])) ?_
          refine T_pz0 d_X10_date_64 (fun h64 => ?_) (fun h64 => ?_)
          · skip
            refine T_al d_X10_date_74 rfl ?_
            refine F_gr (b := 1) d_X10_date_75 rfl hF rfl ?_
            refine F_gr (b := 12) d_X10_date_78 rfl hF rfl ?_
            refine T_il d_X10_date_81 rfl ?_
            refine T_il d_X10_date_82 rfl ?_
            refine T_il d_X10_date_83 rfl ?_
            refine T_k d_X10_date_84 ?_
            refine T_il d_X10_date_85 rfl ?_
            refine C_v5 d_X10_date_87 rfl (hdF (by decide)) (hcF _) (R_X5_add_12 (by first | assumption | omega | exact ⟨by omega, by omega⟩ | (subst_vars; simp_all [uV]; done) | grind [uV]) (by first | assumption | omega | exact ⟨by omega, by omega⟩ | (subst_vars; simp_all [uV]; done) | grind [uV]) (by first | assumption | omega | exact ⟨by omega, by omega⟩ | (subst_vars; simp_all [uV]; done) | grind [uV]) (by first | assumption | omega | exact ⟨by omega, by omega⟩ | (subst_vars; simp_all [uV]; done) | grind [uV]) (by first | assumption | omega | exact ⟨by omega, by omega⟩ | (subst_vars; simp_all [uV]; done) | grind [uV])) (fun r_7 V_8 R_9 qV_8 => ?_)
            obtain ⟨rfl, eV_8, rfl, hBV_8⟩ := qV_8
            refine T_al d_X10_date_90 rfl ?_
            refine F_gr (b := 1) d_X10_date_91 rfl hF rfl ?_
            refine T_il d_X10_date_94 rfl ?_
            refine C_v1 d_X10_date_96 rfl (hdF (by decide)) (hcF _) (R_X0_mark (by first | assumption | omega | exact ⟨by omega, by omega⟩ | (subst_vars; simp_all [uV]; done) | grind [uV]) (by first | assumption | omega | exact ⟨by omega, by omega⟩ | (subst_vars; simp_all [uV]; done) | grind [uV]) (by first | assumption | omega | exact ⟨by omega, by omega⟩ | (subst_vars; simp_all [uV]; done) | grind [uV])) (fun r_10 V_11 R_12 qV_11 => ?_)
            obtain ⟨rfl, eV_11, rfl, hBV_11⟩ := qV_11
            refine T_al d_X10_date_99 rfl ?_
            refine F_gr (b := 30) d_X10_date_100 rfl hF rfl ?_
            refine T_k d_X10_date_103 ?_
            refine C_v1 d_X10_date_104 rfl (hdF (by decide)) (hcF _) (R_X9_forget (by first | assumption | omega | exact ⟨by omega, by omega⟩ | (subst_vars; simp_all [uV]; done) | grind [uV]) (by first | assumption | omega | exact ⟨by omega, by omega⟩ | (subst_vars; simp_all [uV]; done) | grind [uV]) (by first | assumption | omega | exact ⟨by omega, by omega⟩ | (subst_vars; simp_all [uV]; done) | grind [uV])) (fun r_13 V_14 R_15 qV_14 => ?_)
            obtain ⟨rfl, eV_14, rfl, hBV_14⟩ := qV_14
            refine T_al d_X10_date_107 rfl ?_
            refine T_al d_X10_date_108 rfl ?_
            refine F_gr (b := 1) d_X10_date_109 rfl hF rfl ?_
            refine F_gr (b := 12) d_X10_date_112 rfl hF rfl ?_
            refine F_gi d_X10_date_115 rfl hBV_14 rfl (fun b_16 => ?_)
            refine C_v1 d_X10_date_118 rfl (hdF (by decide)) (hcF _) (R_X10_accept (by first | assumption | omega | exact ⟨by omega, by omega⟩ | (subst_vars; simp_all [uV]; done) | grind [uV]) (by first | assumption | omega | exact ⟨by omega, by omega⟩ | (subst_vars; simp_all [uV]; done) | grind [uV]) (by first | assumption | omega | exact ⟨by omega, by omega⟩ | (subst_vars; simp_all [uV]; done) | grind [uV])) (fun r_17 V_18 R_19 qV_18 => ?_)
            obtain ⟨rfl, eV_18, rfl, hBV_18⟩ := qV_18
            -- leaf 8f.19f.27t.44t.64t@121
            refine T_iret d_X10_date_121 rfl ?_
            refine ⟨?_, ?_, rfl, hBV_18⟩
            · first | grind | (subst_vars; simp_all [addV, markV, forgV, uV]; done) | (subst_vars; simp_all [addV, markV, forgV, uV]; omega)
            · subst_vars
              first | grind | (simp_all [addV, markV, forgV, uV]; done) | (funext a i; simp_all [addV, markV, forgV, uV]; done)
          · skip
            refine T_al d_X10_date_67 rfl ?_
            refine T_k d_X10_date_68 ?_
            refine C_v1 d_X10_date_70 rfl (hdF (by decide)) (hcF _) (R_X10_refuse (by first | assumption | omega | exact ⟨by omega, by omega⟩ | (subst_vars; simp_all [uV]; done) | grind [uV]) (by first | assumption | omega | exact ⟨by omega, by omega⟩ | (subst_vars; simp_all [uV]; done) | grind [uV]) (by first | assumption | omega | exact ⟨by omega, by omega⟩ | (subst_vars; simp_all [uV]; done) | grind [uV]) (by first | assumption | omega | exact ⟨by omega, by omega⟩ | (subst_vars; simp_all [uV]; done) | grind [uV])) (fun r_20 V_21 R_22 qV_21 => ?_)
            obtain ⟨rfl, eV_21, rfl, hBV_21⟩ := qV_21
            -- leaf 8f.19f.27t.44t.64f@73
            refine T_iret d_X10_date_73 rfl ?_
            refine ⟨?_, ?_, rfl, hBV_21⟩
            · first | grind | (subst_vars; simp_all [addV, markV, forgV, uV]; done) | (subst_vars; simp_all [addV, markV, forgV, uV]; omega)
            · subst_vars
              first | grind | (simp_all [addV, markV, forgV, uV]; done) | (funext a i; simp_all [addV, markV, forgV, uV]; done)
        · skip
          refine T_al d_X10_date_47 rfl ?_
          refine T_k d_X10_date_48 ?_
          refine C_v1 d_X10_date_50 rfl (hdF (by decide)) (hcF _) (R_X10_refuse (by first | assumption | omega | exact ⟨by omega, by omega⟩ | (subst_vars; simp_all [uV]; done) | grind [uV]) (by first | assumption | omega | exact ⟨by omega, by omega⟩ | (subst_vars; simp_all [uV]; done) | grind [uV]) (by first | assumption | omega | exact ⟨by omega, by omega⟩ | (subst_vars; simp_all [uV]; done) | grind [uV]) (by first | assumption | omega | exact ⟨by omega, by omega⟩ | (subst_vars; simp_all [uV]; done) | grind [uV])) (fun r_23 V_24 R_25 qV_24 => ?_)
          obtain ⟨rfl, eV_24, rfl, hBV_24⟩ := qV_24
          -- leaf 8f.19f.27t.44f@53
          refine T_iret d_X10_date_53 rfl ?_
          refine ⟨?_, ?_, rfl, hBV_24⟩
          · first | grind | (subst_vars; simp_all [addV, markV, forgV, uV]; done) | (subst_vars; simp_all [addV, markV, forgV, uV]; omega)
          · subst_vars
            first | grind | (simp_all [addV, markV, forgV, uV]; done) | (funext a i; simp_all [addV, markV, forgV, uV]; done)
      · skip
        refine T_al d_X10_date_30 rfl ?_
        refine T_k d_X10_date_31 ?_
        refine C_v1 d_X10_date_32 rfl (hdF (by decide)) (hcF _) (R_X10_refuse (by first | assumption | omega | exact ⟨by omega, by omega⟩ | (subst_vars; simp_all [uV]; done) | grind [uV]) (by first | assumption | omega | exact ⟨by omega, by omega⟩ | (subst_vars; simp_all [uV]; done) | grind [uV]) (by first | assumption | omega | exact ⟨by omega, by omega⟩ | (subst_vars; simp_all [uV]; done) | grind [uV]) (by first | assumption | omega | exact ⟨by omega, by omega⟩ | (subst_vars; simp_all [uV]; done) | grind [uV])) (fun r_26 V_27 R_28 qV_27 => ?_)
        obtain ⟨rfl, eV_27, rfl, hBV_27⟩ := qV_27
        -- leaf 8f.19f.27f@35
        refine T_iret d_X10_date_35 rfl ?_
        refine ⟨?_, ?_, rfl, hBV_27⟩
        · first | grind | (subst_vars; simp_all [addV, markV, forgV, uV]; done) | (subst_vars; simp_all [addV, markV, forgV, uV]; omega)
        · subst_vars
          first | grind | (simp_all [addV, markV, forgV, uV]; done) | (funext a i; simp_all [addV, markV, forgV, uV]; done)
