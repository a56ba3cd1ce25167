set_option maxHeartbeats 1000000 in
set_option maxRecDepth 100000 in
theorem R_X3_offer {G : GG} {V : VV} {R : RR}  {S : Sp} {Ks : Nat → Kd} {N : Nat} {l : Nat → Nat → Int} {ρ : Nat → Nat} {e : Nat → Int} (hB : Bd V) (hF : FinR R) (so : sO S) (hN : N ≤ 24) (hNz : V 56 1 = (N : Int)) (hrw : rwI R ρ) (hrl : rwL S Ks N l ρ V) (he : hoC S Ks e V 55) (reo : rOK S e) (hun : uniq N l) : Runs G M_X3_offer 3 162 162 [vr 56, vr 55] V R (PQR [(60, 84)] [(56, 1, 1)] V R (fun o X R2 => o = none ∧ ∃ σ, X 56 1 = ((kpN N l e : Nat) : Int) ∧ rwI R2 σ ∧ rwL S Ks (kpN N l e) (kpL N l e) σ X)) := by
  refine Runs.of pn_X3 (Nat.le_of_ble_eq_true rfl) rfl ?_
  show TT G M_X3_offer (rmd 3 162 162) 162 (Zm G 162 162 (PQR [(60, 84)] [(56, 1, 1)] V R (fun o X R2 => o = none ∧ ∃ σ, X 56 1 = ((kpN N l e : Nat) : Int) ∧ rwI R2 σ ∧ rwL S Ks (kpN N l e) (kpL N l e) σ X))) 162 0 [(0, vr 56), (1, vr 55)] [] V R
  have fV : chg [(60, 84)] [(56, 1, 1)] V V := chg_r
  have e17 := ho_17 he
  have hsr := sm_r (l := l) (e := e) N
  have hk1 := k1N_le (N := N) (l := l) (e := e)
  have L33 : ∀ (Y : VV) (Q : RR) (σ : Nat → Nat), (Bd Y) → (chg [(60, 84)] [(56, 1, 1)] V Y) → (FinR Q) → (frR R Q) → (¬ kpS N l e) → (Y 56 1 = ((k1N N l e) : Int)) → (rwI Q σ) → (rwL S Ks (k1N N l e) (k1L N l e) σ Y) → (hoC S Ks e Y 55) → TT G M_X3_offer (rmd 3 162 162) 162 (Zm G 162 162 (PQR [(60, 84)] [(56, 1, 1)] V R (fun o X R2 => o = none ∧ ∃ σ, X 56 1 = ((kpN N l e : Nat) : Int) ∧ rwI R2 σ ∧ rwL S Ks (kpN N l e) (kpL N l e) σ X))) 162 33 [(0, vr 56), (1, vr 55)] [] Y Q := by
    intro Y Q σ hBY fY hF hQo hns yN hr2 hl2 he2
    refine T_al d_X3_offer_33 rfl ?_
    refine F_gi d_X3_offer_34 rfl hBY rfl (fun b_1 => ?_)
    refine T_k d_X3_offer_37 ?_
    refine T_ine d_X3_offer_39 ⟨by omega, by omega⟩ ⟨by omega, by omega⟩ (fun h39 => ?_) (fun h39 => ?_)
    · skip
      refine T_al d_X3_offer_64 rfl ?_
      refine T_al d_X3_offer_65 rfl ?_
      refine C_v1 d_X3_offer_66 rfl (hdF (by decide)) (hcF _) (R_X3_insert (N := (k1N N l e)) (l := (k1L N l e)) (ρ := σ) (e := e) hBY hF so (by omega) yN hr2 hl2 he2 reo) (fun r_2 V_3 R_4 qV_3 => ?_)
      obtain ⟨hFV_3, oV_3, hBV_3, cV_3, rfl, pV_3⟩ := qV_3
      have hF := hFV_3
      have fV_3 := chg_t (A := [(60, 84)]) (F := [(56, 1, 1)]) fY cV_3 rfl
      -- leaf 39t@69
      refine T_vret d_X3_offer_69 rfl ?_
      have kp := kp_4 hns (by have w := at_le (l := (k1L N l e)) (v := e 9) (k1N N l e); omega)
      exact ⟨hF, frR_t hQo oV_3, hBV_3, fV_3, rfl, _, by rw [kp.1]; exact pV_3.1, pV_3.2.1, by rw [kp.1, kp.2]; exact pV_3.2.2⟩
    · skip
      obtain ⟨z0, ez0⟩ : ∃ d, σ 23 = d := ⟨_, rfl⟩
      have hz0 := hr2.1 23 (by omega)
      rw [ez0] at hz0
      have hl_z0 := lay_h hz0.2
      have hz1 : Q 57 (Y 56 1 - 1).toNat = some z0 := by rw [show (Y 56 1 - 1).toNat = 23 by omega]; exact hz0.1
      have z17 : Y z0 17 = (k1L N l e) 23 9 := by rw [← ez0]; exact ho_17 (hl2 23 (by omega)).1
      have y17 := ho_17 he2
      refine T_al d_X3_offer_42 rfl ?_
      refine F_gr (b := 57) d_X3_offer_43 rfl hF rfl ?_
      refine T_al d_X3_offer_46 rfl ?_
      refine F_gi d_X3_offer_47 rfl hBY rfl (fun b_5 => ?_)
      refine T_k d_X3_offer_50 ?_
      refine T_isub d_X3_offer_51 ?_
      refine F_aa d_X3_offer_52 rfl ⟨by omega, by omega⟩ ?_
      rw [hz1]
      refine F_gi d_X3_offer_53 hl_z0 hBY rfl (fun b_6 => ?_)
      refine T_al d_X3_offer_56 rfl ?_
      refine F_gi d_X3_offer_57 rfl hBY rfl (fun b_7 => ?_)
      refine T_ilt d_X3_offer_60 ⟨by omega, by omega⟩ ⟨by omega, by omega⟩ (fun h60 => ?_) (fun h60 => ?_)
      · skip
        refine T_al d_X3_offer_64 rfl ?_
        refine T_al d_X3_offer_65 rfl ?_
        refine C_v1 d_X3_offer_66 rfl (hdF (by decide)) (hcF _) (R_X3_insert (N := (k1N N l e)) (l := (k1L N l e)) (ρ := σ) (e := e) hBY hF so (by omega) yN hr2 hl2 he2 reo) (fun r_8 V_9 R_10 qV_9 => ?_)
        obtain ⟨hFV_9, oV_9, hBV_9, cV_9, rfl, pV_9⟩ := qV_9
        have hF := hFV_9
        have fV_9 := chg_t (A := [(60, 84)]) (F := [(56, 1, 1)]) fY cV_9 rfl
        -- leaf 39f.60t@69
        refine T_vret d_X3_offer_69 rfl ?_
        have kp := kp_4 hns (by rw [show (k1N N l e) = 23 + 1 by omega, at_t (by omega)]; have w := at_le (l := (k1L N l e)) (v := e 9) 23; omega)
        exact ⟨hF, frR_t hQo oV_9, hBV_9, fV_9, rfl, _, by rw [kp.1]; exact pV_9.1, pV_9.2.1, by rw [kp.1, kp.2]; exact pV_9.2.2⟩
      · skip
        -- leaf 39f.60f@63
        refine T_vret d_X3_offer_63 rfl ?_
        have kp := kp_2 hns (by rw [show (k1N N l e) = 23 + 1 by omega]; exact at_f (by omega))
        exact ⟨hF, hQo, hBY, fY, rfl, σ, by rw [kp.1]; exact yN, hr2, by rw [kp.1, kp.2]; exact hl2⟩
  refine T_al d_X3_offer_0 rfl ?_
  refine T_al d_X3_offer_1 rfl ?_
  refine C_pv1 d_X3_offer_2 rfl (hdF (by decide)) (hcF _) (R_X3_findAlike hB hF so hN hNz hrw hrl he reo hun) ?_
  refine F_isg d_X3_offer_5 (f := fun x_11 => [(0, vr 56), (1, vr 55), (2, vi x_11)]) (fun _ => rfl) (fun x_11 ex_11 => ?_)
  have e2 := ex_11
  refine T_il d_X3_offer_6 rfl ?_
  refine T_k d_X3_offer_7 ?_
  refine T_ieq d_X3_offer_8 ⟨by omega, by omega⟩ ⟨by omega, by omega⟩ (fun h8 => ?_) (fun h8 => ?_)
  · skip
    -- to 33 8t@33
    refine T_subp (ks := [0, 1]) (ls' := [(0, vr 56), (1, vr 55)]) rfl ?_
    exact L33 V R (ρ) hB fV hF frR_r (fun z => z.1 (by omega)) (by rw [(k1_no (by omega)).1]; exact hNz) hrw (by rw [(k1_no (by omega)).1, (k1_no (by omega)).2]; exact hrl) he
  · skip
    obtain ⟨s, es⟩ : ∃ s : Nat, x_11 = (s : Int) := ⟨(x_11).toNat, by omega⟩
    have hsm : smF l e N = (s : Int) := e2.symm.trans es
    have hs : s < N := by omega
    obtain ⟨d0, ed0⟩ : ∃ d, ρ s = d := ⟨_, rfl⟩
    have hd0 := hrw.1 s (by omega)
    rw [ed0] at hd0
    rw [show s = (x_11).toNat by omega] at hd0
    have hd1 := hd0.1
    have hl_d0 := lay_h hd0.2
    have d17 : V d0 17 = l s 9 := by rw [← ed0]; exact ho_17 (hrl s hs).1
    refine T_al d_X3_offer_11 rfl ?_
    refine F_gr (b := 57) d_X3_offer_12 rfl hF rfl ?_
    refine T_il d_X3_offer_15 rfl ?_
    refine F_aa d_X3_offer_16 rfl ⟨by omega, by omega⟩ ?_
    rw [hd1]
    refine F_gi d_X3_offer_17 hl_d0 hB rfl (fun b_12 => ?_)
    refine T_al d_X3_offer_20 rfl ?_
    refine F_gi d_X3_offer_21 rfl hB rfl (fun b_13 => ?_)
    refine T_ilt d_X3_offer_24 ⟨by omega, by omega⟩ ⟨by omega, by omega⟩ (fun h24 => ?_) (fun h24 => ?_)
    · skip
      refine T_al d_X3_offer_28 rfl ?_
      refine T_il d_X3_offer_29 rfl ?_
      rw [es]
      refine C_v1 d_X3_offer_30 rfl (hdF (by decide)) (hcF _) (R_X3_drop (s := s) hB hF hN hNz hrw hs) (fun r_14 V_15 R_16 qV_15 => ?_)
      obtain ⟨hFV_15, oV_15, hBV_15, cV_15, rfl, pV_15⟩ := qV_15
      have hF := hFV_15
      have fV_15 := chg_t (A := [(60, 84)]) (F := [(56, 1, 1)]) fV cV_15 rfl
      -- to 33 8f.24t@33
      refine T_subp (ks := [0, 1]) (ls' := [(0, vr 56), (1, vr 55)]) rfl ?_
      exact L33 V_15 R_16 (drp ρ s N) hBV_15 fV_15 hF oV_15 (fun z => by have z2 := z.2; rw [hsm, Int.toNat_natCast] at z2; omega) (by rw [pV_15.1]; unfold k1N; rw [hsm, if_neg (by omega)]; omega) pV_15.2 (dr_L hrl hs hsm (fun h h1 h2 => funext fun j => cV_15 h j rfl (by unfold inF; simp; omega)) (fun i hi => (hrw.1 i hi).2) hN) (hoC_x he (fun j _ => by rw [chg_k (c := 55) cV_15 rfl]))
    · skip
      -- leaf 8f.24f@27
      refine T_vret d_X3_offer_27 rfl ?_
      have kp := kp_1 (N := N) (l := l) (e := e) ⟨by omega, by rw [hsm, Int.toNat_natCast]; omega⟩
      exact ⟨hF, frR_r, hB, fV, rfl, ρ, by rw [kp.1]; exact hNz, hrw, by rw [kp.1, kp.2]; exact hrl⟩
