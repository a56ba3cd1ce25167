set_option maxHeartbeats 1000000 in
set_option maxRecDepth 100000 in
theorem R_X11_in {G : GG} {V : VV} {R : RR} {v : Int} {low : Int} {high : Int}  (hv : r32 v) (hlow : r32 low) (hhigh : r32 high) : RunsP G M_X11_in 1 [vi v, vi low, vi high] V R (vi (bi (decide (low ≤ v ∧ v ≤ high)))) := by
  unfold RunsP
  refine Runs.of pn_X11 (Nat.le_of_ble_eq_true rfl) rfl ?_
  show TT G M_X11_in (rmd 1 162 162) 162 (Zm G 162 162 (QP V R (vi (bi (decide (low ≤ v ∧ v ≤ high)))))) 162 0 [(0, vi v), (1, vi low), (2, vi high)] [] V R
  obtain ⟨hv1, hv2⟩ := hv
  obtain ⟨hlow1, hlow2⟩ := hlow
  obtain ⟨hhigh1, hhigh2⟩ := hhigh
  refine T_il d_X11_in_0 rfl ?_
  refine T_il d_X11_in_1 rfl ?_
  refine T_ilt d_X11_in_2 ⟨by omega, by omega⟩ ⟨by omega, by omega⟩ (fun h2 => ?_) (fun h2 => ?_)
  · skip
    refine T_k d_X11_in_14 ?_
    -- leaf 2t@15
    exact P_F d_X11_in_15 (by first | omega | grind)
  · skip
    refine T_il d_X11_in_5 rfl ?_
    refine T_il d_X11_in_6 rfl ?_
    refine T_igt d_X11_in_7 ⟨by omega, by omega⟩ ⟨by omega, by omega⟩ (fun h7 => ?_) (fun h7 => ?_)
    · skip
      refine T_k d_X11_in_14 ?_
      -- leaf 2f.7t@15
      exact P_F d_X11_in_15 (by first | omega | grind)
    · skip
      refine T_k d_X11_in_10 ?_
      refine T_go d_X11_in_11 ?_
      -- leaf 2f.7f@15
      exact P_T d_X11_in_15 (by first | omega | grind)
set_option maxHeartbeats 1000000 in
set_option maxRecDepth 100000 in
theorem R_X11_isWeek {G : GG} {V : VV} {R : RR} {w : Int}  (hw : r32 w) : RunsP G M_X11_isWeek 2 [vi w] V R (vi (bi (decide (0 ≤ w ∧ w ≤ 400)))) := by
  unfold RunsP
  refine Runs.of pn_X11 (Nat.le_of_ble_eq_true rfl) rfl ?_
  show TT G M_X11_isWeek (rmd 2 162 162) 162 (Zm G 162 162 (QP V R (vi (bi (decide (0 ≤ w ∧ w ≤ 400)))))) 162 0 [(0, vi w)] [] V R
  obtain ⟨hw1, hw2⟩ := hw
  refine T_il d_X11_isWeek_0 rfl ?_
  refine T_k d_X11_isWeek_1 ?_
  refine T_k d_X11_isWeek_2 ?_
  refine C_ps3 d_X11_isWeek_5 (hdF (by decide)) (hcF _) (R_X11_in (by first | assumption | omega | exact ⟨by omega, by omega⟩ | (subst_vars; simp_all [uV]; done) | grind [uV]) (by first | assumption | omega | exact ⟨by omega, by omega⟩ | (subst_vars; simp_all [uV]; done) | grind [uV]) (by first | assumption | omega | exact ⟨by omega, by omega⟩ | (subst_vars; simp_all [uV]; done) | grind [uV])) ?_
  -- leaf @8
  exact P_B d_X11_isWeek_8 (by first | omega | grind)
set_option maxHeartbeats 1000000 in
set_option maxRecDepth 100000 in
theorem R_X11_isHole {G : GG} {V : VV} {R : RR} {h : Int}  (hB : Bd V) (hh : r32 h) : RunsP G M_X11_isHole 2 [vr 99, vi h] V R (vi (bi (decide (0 ≤ h ∧ h < V 99 2)))) := by
  unfold RunsP
  refine Runs.of pn_X11 (Nat.le_of_ble_eq_true rfl) rfl ?_
  show TT G M_X11_isHole (rmd 2 162 162) 162 (Zm G 162 162 (QP V R (vi (bi (decide (0 ≤ h ∧ h < V 99 2)))))) 162 0 [(0, vr 99), (1, vi h)] [] V R
  obtain ⟨hh1, hh2⟩ := hh
  refine T_il d_X11_isHole_0 rfl ?_
  refine T_k d_X11_isHole_1 ?_
  refine T_al d_X11_isHole_2 rfl ?_
  refine F_gi d_X11_isHole_3 rfl hB rfl (fun b_1 => ?_)
  refine T_k d_X11_isHole_6 ?_
  refine T_isub d_X11_isHole_7 ?_
  refine C_ps3 d_X11_isHole_8 (hdF (by decide)) (hcF _) (R_X11_in (by first | assumption | omega | exact ⟨by omega, by omega⟩ | (subst_vars; simp_all [uV]; done) | grind [uV]) (by first | assumption | omega | exact ⟨by omega, by omega⟩ | (subst_vars; simp_all [uV]; done) | grind [uV]) (by first | assumption | omega | exact ⟨by omega, by omega⟩ | (subst_vars; simp_all [uV]; done) | grind [uV])) ?_
  -- leaf @11
  exact P_B d_X11_isHole_11 (by first | omega | grind)
set_option maxHeartbeats 1000000 in
set_option maxRecDepth 100000 in
theorem R_X11_isBox {G : GG} {V : VV} {R : RR} {x : Int} {y : Int} {u : Int} {v : Int}  (hx : r32 x) (hy : r32 y) (hu : r32 u) (hv : r32 v) : RunsP G M_X11_isBox 2 [vi x, vi y, vi u, vi v] V R (vi (bi (decide ((0 ≤ x ∧ x ≤ u ∧ u ≤ 499) ∧ 0 ≤ y ∧ y ≤ v ∧ v ≤ 499)))) := by
  unfold RunsP
  refine Runs.of pn_X11 (Nat.le_of_ble_eq_true rfl) rfl ?_
  show TT G M_X11_isBox (rmd 2 162 162) 162 (Zm G 162 162 (QP V R (vi (bi (decide ((0 ≤ x ∧ x ≤ u ∧ u ≤ 499) ∧ 0 ≤ y ∧ y ≤ v ∧ v ≤ 499)))))) 162 0 [(0, vi x), (1, vi y), (2, vi u), (3, vi v)] [] V R
  obtain ⟨hx1, hx2⟩ := hx
  obtain ⟨hy1, hy2⟩ := hy
  obtain ⟨hu1, hu2⟩ := hu
  obtain ⟨hv1, hv2⟩ := hv
  refine T_il d_X11_isBox_0 rfl ?_
  refine T_k d_X11_isBox_1 ?_
  refine T_il d_X11_isBox_2 rfl ?_
  refine C_ps3 d_X11_isBox_3 (hdF (by decide)) (hcF _) (R_X11_in (by first | assumption | omega | exact ⟨by omega, by omega⟩ | (subst_vars; simp_all [uV]; done) | grind [uV]) (by first | assumption | omega | exact ⟨by omega, by omega⟩ | (subst_vars; simp_all [uV]; done) | grind [uV]) (by first | assumption | omega | exact ⟨by omega, by omega⟩ | (subst_vars; simp_all [uV]; done) | grind [uV])) ?_
  refine T_pz0 d_X11_isBox_6 (fun h6 => ?_) (fun h6 => ?_)
  · skip
    refine T_k d_X11_isBox_36 ?_
    -- leaf 6t@37
    exact P_F d_X11_isBox_37 (by first | omega | grind)
  · skip
    refine T_il d_X11_isBox_9 rfl ?_
    refine T_k d_X11_isBox_10 ?_
    refine T_igt d_X11_isBox_13 ⟨by omega, by omega⟩ ⟨by omega, by omega⟩ (fun h13 => ?_) (fun h13 => ?_)
    · skip
      refine T_k d_X11_isBox_36 ?_
      -- leaf 6f.13t@37
      exact P_F d_X11_isBox_37 (by first | omega | grind)
    · skip
      refine T_il d_X11_isBox_16 rfl ?_
      refine T_k d_X11_isBox_17 ?_
      refine T_il d_X11_isBox_18 rfl ?_
      refine C_ps3 d_X11_isBox_19 (hdF (by decide)) (hcF _) (R_X11_in (by first | assumption | omega | exact ⟨by omega, by omega⟩ | (subst_vars; simp_all [uV]; done) | grind [uV]) (by first | assumption | omega | exact ⟨by omega, by omega⟩ | (subst_vars; simp_all [uV]; done) | grind [uV]) (by first | assumption | omega | exact ⟨by omega, by omega⟩ | (subst_vars; simp_all [uV]; done) | grind [uV])) ?_
      refine T_pz0 d_X11_isBox_22 (fun h22 => ?_) (fun h22 => ?_)
      · skip
        refine T_k d_X11_isBox_36 ?_
        -- leaf 6f.13f.22t@37
        exact P_F d_X11_isBox_37 (by first | omega | grind)
      · skip
        refine T_il d_X11_isBox_25 rfl ?_
        refine T_k d_X11_isBox_26 ?_
        refine T_igt d_X11_isBox_29 ⟨by omega, by omega⟩ ⟨by omega, by omega⟩ (fun h29 => ?_) (fun h29 => ?_)
        · skip
          refine T_k d_X11_isBox_36 ?_
          -- leaf 6f.13f.22f.29t@37
          exact P_F d_X11_isBox_37 (by first | omega | grind)
        · skip
          refine T_k d_X11_isBox_32 ?_
          refine T_go d_X11_isBox_33 ?_
          -- leaf 6f.13f.22f.29f@37
          exact P_T d_X11_isBox_37 (by first | omega | grind)
set_option maxHeartbeats 1000000 in
set_option maxRecDepth 100000 in
theorem R_X11_size {G : GG} {V : VV} {R : RR} {v : Int}  (hv : r32 v) : RunsP G M_X11_size 1 [vi v] V R (vi (if v < 0 then -v else v)) := by
  unfold RunsP
  refine Runs.of pn_X11 (Nat.le_of_ble_eq_true rfl) rfl ?_
  show TT G M_X11_size (rmd 1 162 162) 162 (Zm G 162 162 (QP V R (vi (if v < 0 then -v else v)))) 162 0 [(0, vi v)] [] V R
  obtain ⟨hv1, hv2⟩ := hv
  refine T_il d_X11_size_0 rfl ?_
  refine T_zge d_X11_size_1 ⟨by omega, by omega⟩ (fun h1 => ?_) (fun h1 => ?_)
  · skip
    refine T_il d_X11_size_9 rfl ?_
    -- leaf 1t@10
    exact P_I d_X11_size_10 (by first | omega | grind)
  · skip
    refine T_il d_X11_size_4 rfl ?_
    refine T_ineg d_X11_size_5 ?_
    refine T_go d_X11_size_6 ?_
    -- leaf 1f@10
    exact P_I d_X11_size_10 (by first | omega | grind)
set_option maxHeartbeats 1000000 in
set_option maxRecDepth 100000 in
theorem R_X11_isField {G : GG} {V : VV} {R : RR} {x : Int} {y : Int}  (hx : r32 x) (hy : r32 y) : RunsP G M_X11_isField 2 [vi x, vi y] V R (vi (bi (decide ((0 ≤ x ∧ x ≤ 499) ∧ 0 ≤ y ∧ y ≤ 499)))) := by
  unfold RunsP
  refine Runs.of pn_X11 (Nat.le_of_ble_eq_true rfl) rfl ?_
  show TT G M_X11_isField (rmd 2 162 162) 162 (Zm G 162 162 (QP V R (vi (bi (decide ((0 ≤ x ∧ x ≤ 499) ∧ 0 ≤ y ∧ y ≤ 499)))))) 162 0 [(0, vi x), (1, vi y)] [] V R
  obtain ⟨hx1, hx2⟩ := hx
  obtain ⟨hy1, hy2⟩ := hy
  refine T_il d_X11_isField_0 rfl ?_
  refine T_k d_X11_isField_1 ?_
  refine T_k d_X11_isField_2 ?_
  refine C_ps3 d_X11_isField_5 (hdF (by decide)) (hcF _) (R_X11_in (by first | assumption | omega | exact ⟨by omega, by omega⟩ | (subst_vars; simp_all [uV]; done) | grind [uV]) (by first | assumption | omega | exact ⟨by omega, by omega⟩ | (subst_vars; simp_all [uV]; done) | grind [uV]) (by first | assumption | omega | exact ⟨by omega, by omega⟩ | (subst_vars; simp_all [uV]; done) | grind [uV])) ?_
  refine T_pz0 d_X11_isField_8 (fun h8 => ?_) (fun h8 => ?_)
  · skip
    refine T_k d_X11_isField_26 ?_
    -- leaf 8t@27
    exact P_F d_X11_isField_27 (by first | omega | grind)
  · skip
    refine T_il d_X11_isField_11 rfl ?_
    refine T_k d_X11_isField_12 ?_
    refine T_k d_X11_isField_13 ?_
    refine C_ps3 d_X11_isField_16 (hdF (by decide)) (hcF _) (R_X11_in (by first | assumption | omega | exact ⟨by omega, by omega⟩ | (subst_vars; simp_all [uV]; done) | grind [uV]) (by first | assumption | omega | exact ⟨by omega, by omega⟩ | (subst_vars; simp_all [uV]; done) | grind [uV]) (by first | assumption | omega | exact ⟨by omega, by omega⟩ | (subst_vars; simp_all [uV]; done) | grind [uV])) ?_
    refine T_pz0 d_X11_isField_19 (fun h19 => ?_) (fun h19 => ?_)
    · skip
      refine T_k d_X11_isField_26 ?_
      -- leaf 8f.19t@27
      exact P_F d_X11_isField_27 (by first | omega | grind)
    · skip
      refine T_k d_X11_isField_22 ?_
      refine T_go d_X11_isField_23 ?_
      -- leaf 8f.19f@27
      exact P_T d_X11_isField_27 (by first | omega | grind)
