/-! the class's kinds() -/
def kinC (V : VV) (R : RR) (n : Nat) (lo hi : Nat → Int) : Option AV → VV → RR → Prop := fun r V' R' => R = R' ∧ Bd V' ∧ ∃ W, rdQ V R n lo hi (some (vi (bi (decide (kinF (V 17) n lo hi = -1))))) W R ∧ (if kinF (V 17) n lo hi = -1 then r = some (vi ((kinR (V 17) n lo hi).2.2.1 : Int)) ∧ V' = uV (forgV W 1) 0 3 0 else r = some (vi (-6)) ∧ V' = uV W 0 3 (-6))
set_option maxHeartbeats 1000000 in
set_option maxRecDepth 100000 in
theorem R_X10_kinds {G : GG} {V : VV} {R : RR}  {n : Nat} {lo hi : Nat → Int} (hB : Bd V) (hF : FinR R) (hn : V 16 1 = n) (hn4 : n ≤ 400) : Runs G M_X10_kinds 10 162 162 [vr 0] V R (kinC V R n lo hi) := by
  refine Runs.of pn_X10 (Nat.le_of_ble_eq_true rfl) rfl ?_
  show TT G M_X10_kinds (rmd 10 162 162) 162 (Zm G 162 162 (kinC V R n lo hi)) 162 0 [(0, vr 0)] [] V R
  refine T_al d_X10_kinds_0 rfl ?_
  refine F_gr (b := 16) d_X10_kinds_1 rfl hF rfl ?_
  refine C_v0 d_X10_kinds_4 rfl (hdF (by decide)) (hcF _) (R_X4_read (lo := lo) (hi := hi) hB hF hn hn4) (fun r_1 V_2 R_3 qV_2 => ?_)
  obtain ⟨rfl, hBV_2, kaV_2, kbV_2, kcV_2, rfl, kdV_2⟩ := qV_2
  have qq : rdQ V R n lo hi (some (vi (bi (decide (kinF (V 17) n lo hi = -1))))) V_2 R := ⟨rfl, hBV_2, kaV_2, kbV_2, kcV_2, rfl, kdV_2⟩
  have k7 := kdV_2
  refine T_pz1 d_X10_kinds_7 (fun h7 => ?_) (fun h7 => ?_)
  · skip
    rw [if_pos h7] at k7
    refine T_al d_X10_kinds_17 rfl ?_
    refine F_gr (b := 30) d_X10_kinds_18 rfl hF rfl ?_
    refine T_k d_X10_kinds_21 ?_
    refine C_v1 d_X10_kinds_22 rfl (hdF (by decide)) (hcF _) (R_X9_forget (by first | assumption | omega | exact ⟨by omega, by omega⟩ | (subst_vars; simp_all [uV]; done) | grind [uV]) (by first | assumption | omega | exact ⟨by omega, by omega⟩ | (subst_vars; simp_all [uV]; done) | grind [uV]) (by first | assumption | omega | exact ⟨by omega, by omega⟩ | (subst_vars; simp_all [uV]; done) | grind [uV])) (fun r_4 V_5 R_6 qV_5 => ?_)
    obtain ⟨rfl, eV_5, rfl, hBV_5⟩ := qV_5
    have e25 := eV_5
    have v25 : V_5 16 4 = ((kinR (V 17) n lo hi).2.2.1 : Int) := by rw [e25]; exact k7.1
    refine T_al d_X10_kinds_25 rfl ?_
    refine T_al d_X10_kinds_26 rfl ?_
    refine F_gr (b := 16) d_X10_kinds_27 rfl hF rfl ?_
    refine F_gi d_X10_kinds_30 rfl hBV_5 rfl (fun b_7 => ?_)
    refine C_v1 d_X10_kinds_33 rfl (hdF (by decide)) (hcF _) (R_X10_accept (by first | assumption | omega | exact ⟨by omega, by omega⟩ | (subst_vars; simp_all [uV]; done) | grind [uV]) (by first | assumption | omega | exact ⟨by omega, by omega⟩ | (subst_vars; simp_all [uV]; done) | grind [uV]) (by first | assumption | omega | exact ⟨by omega, by omega⟩ | (subst_vars; simp_all [uV]; done) | grind [uV])) (fun r_8 V_9 R_10 qV_9 => ?_)
    obtain ⟨rfl, eV_9, rfl, hBV_9⟩ := qV_9
    -- leaf 7t@36
    refine T_iret d_X10_kinds_36 rfl ?_
    exact ⟨rfl, hBV_9, _, qq, by rw [if_pos h7]; exact ⟨by rw [v25], by rw [eV_9, e25]⟩⟩
  · skip
    refine T_al d_X10_kinds_10 rfl ?_
    refine T_k d_X10_kinds_11 ?_
    refine C_v1 d_X10_kinds_13 rfl (hdF (by decide)) (hcF _) (R_X10_refuse (by first | assumption | omega | exact ⟨by omega, by omega⟩ | (subst_vars; simp_all [uV]; done) | grind [uV]) (by first | assumption | omega | exact ⟨by omega, by omega⟩ | (subst_vars; simp_all [uV]; done) | grind [uV]) (by first | assumption | omega | exact ⟨by omega, by omega⟩ | (subst_vars; simp_all [uV]; done) | grind [uV]) (by first | assumption | omega | exact ⟨by omega, by omega⟩ | (subst_vars; simp_all [uV]; done) | grind [uV])) (fun r_11 V_12 R_13 qV_12 => ?_)
    obtain ⟨rfl, eV_12, rfl, hBV_12⟩ := qV_12
    -- leaf 7f@16
    refine T_iret d_X10_kinds_16 rfl ?_
    exact ⟨rfl, hBV_12, _, qq, by rw [if_neg h7]; exact ⟨rfl, eV_12⟩⟩
