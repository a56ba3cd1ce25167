set_option maxHeartbeats 1000000 in
set_option maxRecDepth 100000 in
theorem R_X3_canBeat {G : GG} {V : VV} {R : RR} {c : Int} {v : Int}  (hB : Bd V) (hF : FinR R) (hc : r32 c) (hv : r32 v) : RunsP G M_X3_canBeat 1 [vr 56, vi c, vi v] V R (vi (bi (decide (V 56 4 < v ∨ (v = V 56 4 ∧ c < V 56 3))))) := by
  unfold RunsP
  refine Runs.of pn_X3 (Nat.le_of_ble_eq_true rfl) rfl ?_
  show TT G M_X3_canBeat (rmd 1 162 162) 162 (Zm G 162 162 (QP V R (vi (bi (decide (V 56 4 < v ∨ (v = V 56 4 ∧ c < V 56 3))))))) 162 0 [(0, vr 56), (1, vi c), (2, vi v)] [] V R
  obtain ⟨hc1, hc2⟩ := hc
  obtain ⟨hv1, hv2⟩ := hv
  refine T_il d_X3_canBeat_0 rfl ?_
  refine T_al d_X3_canBeat_1 rfl ?_
  refine F_gi d_X3_canBeat_2 rfl hB rfl (fun b_1 => ?_)
  refine T_igt d_X3_canBeat_5 ⟨by omega, by omega⟩ ⟨by omega, by omega⟩ (fun h5 => ?_) (fun h5 => ?_)
  · skip
    refine T_k d_X3_canBeat_24 ?_
    refine T_go d_X3_canBeat_25 ?_
    -- leaf 5t@29
    exact P_T d_X3_canBeat_29 (by exact Or.inl h5)
  · skip
    refine T_il d_X3_canBeat_8 rfl ?_
    refine T_al d_X3_canBeat_9 rfl ?_
    refine F_gi d_X3_canBeat_10 rfl hB rfl (fun b_2 => ?_)
    refine T_ine d_X3_canBeat_13 ⟨by omega, by omega⟩ ⟨by omega, by omega⟩ (fun h13 => ?_) (fun h13 => ?_)
    · skip
      refine T_k d_X3_canBeat_28 ?_
      -- leaf 5f.13t@29
      exact P_F d_X3_canBeat_29 (by intro z; omega)
    · skip
      refine T_il d_X3_canBeat_16 rfl ?_
      refine T_al d_X3_canBeat_17 rfl ?_
      refine F_gi d_X3_canBeat_18 rfl hB rfl (fun b_3 => ?_)
      refine T_ige d_X3_canBeat_21 ⟨by omega, by omega⟩ ⟨by omega, by omega⟩ (fun h21 => ?_) (fun h21 => ?_)
      · skip
        refine T_k d_X3_canBeat_28 ?_
        -- leaf 5f.13f.21t@29
        exact P_F d_X3_canBeat_29 (by intro z; omega)
      · skip
        refine T_k d_X3_canBeat_24 ?_
        refine T_go d_X3_canBeat_25 ?_
        -- leaf 5f.13f.21f@29
        exact P_T d_X3_canBeat_29 (by exact Or.inr ⟨h13, by omega⟩)
