set_option maxHeartbeats 1000000 in
set_option maxRecDepth 100000 in
theorem R_X3_insert {G : GG} {V : VV} {R : RR}  {S : Sp} {Ks : Nat → Kd} {N : Nat} {l : Nat → Nat → Int} {ρ : Nat → Nat} {e : Nat → Int} (hB : Bd V) (hF : FinR R) (so : sO S) (hN : N ≤ 24) (hNz : V 56 1 = (N : Int)) (hrw : rwI R ρ) (hrl : rwL S Ks N l ρ V) (he : hoC S Ks e V 55) (reo : rOK S e) : Runs G M_X3_insert 2 162 162 [vr 56, vr 55] V R (PQR [(60, 84)] [(56, 1, 1)] V R (fun o X R2 => o = none ∧ X 56 1 = (((if N = 24 then 24 else N + 1) : Nat) : Int) ∧ rwI R2 (insR ρ N (atF l (e 9) N)) ∧ rwL S Ks (if N = 24 then 24 else N + 1) (insF l (atF l (e 9) N) e) (insR ρ N (atF l (e 9) N)) X)) := by
  refine Runs.of pn_X3 (Nat.le_of_ble_eq_true rfl) rfl ?_
  show TT G M_X3_insert (rmd 2 162 162) 162 (Zm G 162 162 (PQR [(60, 84)] [(56, 1, 1)] V R (fun o X R2 => o = none ∧ X 56 1 = (((if N = 24 then 24 else N + 1) : Nat) : Int) ∧ rwI R2 (insR ρ N (atF l (e 9) N)) ∧ rwL S Ks (if N = 24 then 24 else N + 1) (insF l (atF l (e 9) N) e) (insR ρ N (atF l (e 9) N)) X))) 162 0 [(0, vr 56), (1, vr 55)] [] V R
  have fV : chg [(60, 84)] [(56, 1, 1)] V V := chg_r
  obtain ⟨d0, ed0⟩ : ∃ d, ρ N = d := ⟨_, rfl⟩
  have hd0 := hrw.1 N (by omega)
  rw [ed0] at hd0
  have hl_d0 := lay_h hd0.2
  have e17 : V 55 17 = e 9 := by obtain ⟨_, _, _, _, _, _, _, _, _, _, _, _, _, _, _, _, _, z, _⟩ := he; exact z
  have hle := at_le (l := l) (v := e 9) N
  refine T_al d_X3_insert_0 rfl ?_
  refine F_gr (b := 57) d_X3_insert_1 rfl hF rfl ?_
  refine T_al d_X3_insert_4 rfl ?_
  refine F_gi d_X3_insert_5 rfl hB rfl (fun b_1 => ?_)
  refine F_aa d_X3_insert_8 rfl ⟨by omega, by omega⟩ ?_
  rw [show R 57 (V 56 1).toNat = some d0 from by rw [hNz, Int.toNat_natCast]; exact hd0.1]
  refine T_as d_X3_insert_9 (ls' := [(0, vr 56), (1, vr 55), (2, vr d0)]) rfl ?_
  have L57 : ∀ (Q : RR) (y : Int) (h : Nat), (FinR Q) → (frR R Q) → (y = (h : Int)) → (h ≤ N) → (h = (atF l (e 9) N)) → (rwE Q (upR ρ N h)) → TT G M_X3_insert (rmd 2 162 162) 162 (Zm G 162 162 (PQR [(60, 84)] [(56, 1, 1)] V R (fun o X R2 => o = none ∧ X 56 1 = (((if N = 24 then 24 else N + 1) : Nat) : Int) ∧ rwI R2 (insR ρ N (atF l (e 9) N)) ∧ rwL S Ks (if N = 24 then 24 else N + 1) (insF l (atF l (e 9) N) e) (insR ρ N (atF l (e 9) N)) X))) 162 57 [(0, vr 56), (1, vr 55), (2, vr d0), (3, vi y)] [] V Q := by
    intro Q y h hF hQo ey hh hat hQ
    refine T_al d_X3_insert_57 rfl ?_
    refine T_al d_X3_insert_58 rfl ?_
    refine C_v1 d_X3_insert_59 hl_d0 (hdF (by decide)) (hcF _) (R_X2_copy (h := d0) hB hF hd0.2) (fun r_2 V_3 R_4 qV_3 => ?_)
    obtain ⟨rfl, hBV_3, cV_3, rfl, pV_3⟩ := qV_3
    have fV_3 := chg_t (A := [(60, 84)]) (F := [(56, 1, 1)]) fV cV_3 rfl
    have p62 := pV_3
    have n62 : V_3 56 1 = (N : Int) := (chg_k (c := 56) cV_3 rfl) ▸ hNz
    refine T_al d_X3_insert_62 rfl ?_
    refine F_gr (b := 57) d_X3_insert_63 rfl hF rfl ?_
    refine T_il d_X3_insert_66 rfl ?_
    refine T_al d_X3_insert_67 rfl ?_
    refine F_aast d_X3_insert_68 hF ⟨by omega, by omega⟩ hd0.2 (fun R_5 eR_5 hF => ?_)
    refine T_al d_X3_insert_69 rfl ?_
    refine T_al d_X3_insert_70 rfl ?_
    refine F_gi d_X3_insert_71 rfl hBV_3 rfl (fun b_6 => ?_)
    refine T_k d_X3_insert_74 ?_
    refine T_iadd d_X3_insert_75 ?_
    refine T_k d_X3_insert_76 ?_
    refine T_mmin d_X3_insert_78 ⟨by omega, by omega⟩ ⟨by omega, by omega⟩ (Nat.le_of_ble_eq_true rfl) (hmF _) ?_
    refine F_pi d_X3_insert_81 rfl hBV_3 rfl ⟨by omega, by omega⟩ (fun V_7 eV_7 hBV_7 => ?_)
    have fV_7 := chg_u eV_7 rfl fV_3
    -- leaf @84
    refine T_vret d_X3_insert_84 rfl ?_
    have hI := insR_I hrw hh hN (rwE_x (rwE_u hQ eR_5) (τ := insR ρ N h) (fun j hj => by rw [show y.toNat = h by omega, ← ed0]; rfl))
    have hLn := insR_L (N' := (if N = 24 then 24 else N + 1)) hrw hrl hh hN (by split <;> omega) he reo (by rw [ed0]; exact p62.1) (by rw [ed0]; exact p62.2.2)
    rw [hat] at hI hLn
    refine ⟨hF, frR_u hQo eR_5, hBV_7, fV_7, rfl, ?_, hI, fun i hi => ?_⟩
    · rw [eV_7]
      refine uV_self.trans ?_
      rw [n62]
      split <;> split <;> omega
    · have g := hLn i hi
      refine ⟨hoC_x g.1 (fun j _ => ?_), g.2⟩
      rw [eV_7, uV_ne (fun z => ?_)]
      have z1 := (hI.1 i (by split at hi <;> omega)).2
      omega
  refine T_al d_X3_insert_10 rfl ?_
  refine F_gi d_X3_insert_11 rfl hB rfl (fun b_8 => ?_)
  refine F_isg d_X3_insert_14 (f := fun x_9 => [(0, vr 56), (1, vr 55), (2, vr d0), (3, vi x_9)]) (fun _ => rfl) (fun x_9 ex_9 => ?_)
  -- to 15 @15
  have L15 : ∀ (fu : Nat) (Q : RR) (y : Int) (h : Nat), h < fu → (FinR Q) → (frR R Q) → (y = (h : Int)) → (h ≤ N) → (atF l (e 9) h = (atF l (e 9) N)) → (rwE Q (upR ρ N h)) → TT G M_X3_insert (rmd 2 162 162) 162 (Zm G 162 162 (PQR [(60, 84)] [(56, 1, 1)] V R (fun o X R2 => o = none ∧ X 56 1 = (((if N = 24 then 24 else N + 1) : Nat) : Int) ∧ rwI R2 (insR ρ N (atF l (e 9) N)) ∧ rwL S Ks (if N = 24 then 24 else N + 1) (insF l (atF l (e 9) N) e) (insR ρ N (atF l (e 9) N)) X))) 162 15 [(0, vr 56), (1, vr 55), (2, vr d0), (3, vi y)] [] V Q := by
    intro fu
    induction fu with
    | zero => intro Q y h hm; exact absurd hm (Nat.not_lt_zero _)
    | succ fu ih15 =>
      intro Q y h hm15 hF hQo ey hh hat hQ
      refine T_il d_X3_insert_15 rfl ?_
      refine T_zle d_X3_insert_16 ⟨by omega, by omega⟩ (fun h16 => ?_) (fun h16 => ?_)
      · skip
        -- to 57 16t@57
        exact L57 Q y (h) hF hQo ey (by first | assumption | omega) (by rw [← hat, show h = 0 by omega]; rfl) hQ
      · skip
        obtain ⟨w, ew⟩ : ∃ w, h = w + 1 := ⟨h - 1, by omega⟩
        obtain ⟨z0, ez0⟩ : ∃ d, ρ w = d := ⟨_, rfl⟩
        have hz0 := hrw.1 w (by omega)
        rw [ez0] at hz0
        have hQz : Q 57 (y - 1).toNat = some z0 := by rw [show (y - 1).toNat = w by omega, hQ w (by omega), upR_l (by omega), ez0]
        have hlz := lay_h hz0.2
        have z17 : V z0 17 = l w 9 := by rw [← ez0]; obtain ⟨_, _, _, _, _, _, _, _, _, _, _, _, _, _, _, _, _, z, _⟩ := (hrl w (by omega)).1; exact z
        refine T_al d_X3_insert_19 rfl ?_
        refine F_gr (b := 57) d_X3_insert_20 rfl hF rfl ?_
        refine T_il d_X3_insert_23 rfl ?_
        refine T_k d_X3_insert_24 ?_
        refine T_isub d_X3_insert_25 ?_
        refine F_aa d_X3_insert_26 rfl ⟨by omega, by omega⟩ ?_
        rw [hQz]
        refine F_gi d_X3_insert_27 hlz hB rfl (fun b_10 => ?_)
        refine T_al d_X3_insert_30 rfl ?_
        refine F_gi d_X3_insert_31 rfl hB rfl (fun b_11 => ?_)
        refine T_ige d_X3_insert_34 ⟨by omega, by omega⟩ ⟨by omega, by omega⟩ (fun h34 => ?_) (fun h34 => ?_)
        · skip
          -- to 57 16f.34t@57
          exact L57 Q y (h) hF hQo ey (by first | assumption | omega) (by rw [← hat, ew, at_f (by omega)]) hQ
        · skip
          refine T_al d_X3_insert_37 rfl ?_
          refine F_gr (b := 57) d_X3_insert_38 rfl hF rfl ?_
          refine T_il d_X3_insert_41 rfl ?_
          refine T_al d_X3_insert_42 rfl ?_
          refine F_gr (b := 57) d_X3_insert_43 rfl hF rfl ?_
          refine T_il d_X3_insert_46 rfl ?_
          refine T_k d_X3_insert_47 ?_
          refine T_isub d_X3_insert_48 ?_
          refine F_aa d_X3_insert_49 rfl ⟨by omega, by omega⟩ ?_
          rw [hQz]
          refine F_aast d_X3_insert_50 hF ⟨by omega, by omega⟩ hz0.2 (fun R_12 eR_12 hF => ?_)
          refine F_incg d_X3_insert_51 rfl (f := fun x_13 => [(0, vr 56), (1, vr 55), (2, vr d0), (3, vi x_13)]) (fun _ => rfl) (fun x_13 ex_13 => ?_)
          refine T_go d_X3_insert_54 ?_
          -- to 15 16f.34f@15
          exact ih15 R_12 x_13 (w) (by omega) hF (frR_u hQo eR_12) (by omega) (by first | assumption | omega) (by rw [← hat, ew]; exact (at_t (by omega)).symm) (rwE_x (rwE_u hQ eR_12) (fun j hj => by rw [show y.toNat = w + 1 by omega, ew, ← ez0]; exact upR_s (by omega)))
  exact L15 _ R x_9 (N) (Nat.lt_succ_self _) hF frR_r (by omega) (by first | assumption | omega) rfl (fun j hj => by rw [upR_0]; exact (hrw.1 j hj).1)
