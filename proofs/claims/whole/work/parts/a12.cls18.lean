set_option maxHeartbeats 1000000 in
set_option maxRecDepth 100000 in
theorem R_X3_findAlike {G : GG} {V : VV} {R : RR}  {S : Sp} {Ks : Nat → Kd} {N : Nat} {l : Nat → Nat → Int} {ρ : Nat → Nat} {e : Nat → Int} (hB : Bd V) (hF : FinR R) (so : sO S) (hN : N ≤ 24) (hNz : V 56 1 = (N : Int)) (hrw : rwI R ρ) (hrl : rwL S Ks N l ρ V) (he : hoC S Ks e V 55) (reo : rOK S e) (hun : uniq N l) : RunsP G M_X3_findAlike 1 [vr 56, vr 55] V R (vi (smF l e N)) := by
  unfold RunsP
  refine Runs.of pn_X3 (Nat.le_of_ble_eq_true rfl) rfl ?_
  show TT G M_X3_findAlike (rmd 1 162 162) 162 (Zm G 162 162 (QP V R (vi (smF l e N)))) 162 0 [(0, vr 56), (1, vr 55)] [] V R
  refine T_k d_X3_findAlike_0 ?_
  refine T_is d_X3_findAlike_1 (ls' := [(0, vr 56), (1, vr 55), (2, vi 0)]) rfl ?_
  -- to 2 @2
  have L2 : ∀ (fu : Nat) (i : Nat), N - i < fu → (i ≤ N) → (∀ t, t < i → ¬ alk l e t) → TT G M_X3_findAlike (rmd 1 162 162) 162 (Zm G 162 162 (QP V R (vi (smF l e N)))) 162 2 [(0, vr 56), (1, vr 55), (2, vi (i : Int))] [] V R := by
    intro fu
    induction fu with
    | zero => intro i hm; exact absurd hm (Nat.not_lt_zero _)
    | succ fu ih2 =>
      intro i hm2 hi hno
      refine T_il d_X3_findAlike_2 rfl ?_
      refine T_al d_X3_findAlike_3 rfl ?_
      refine F_gi d_X3_findAlike_4 rfl hB rfl (fun b_1 => ?_)
      refine T_ige d_X3_findAlike_7 ⟨by omega, by omega⟩ ⟨by omega, by omega⟩ (fun h7 => ?_) (fun h7 => ?_)
      · skip
        refine T_k d_X3_findAlike_51 ?_
        -- leaf 7t@52
        exact P_I d_X3_findAlike_52 (by rw [sm_none N (fun i hi => hno i (by omega))])
      · skip
        have hr := hrw.1 i (by omega)
        have hlr := lay_h hr.2
        have hro := hrl i (by omega)
        have ek := hro.1.1
        have ek2 := he.1
        have eq8 := ho_eq so hro.1 he hro.2 reo
        refine T_al d_X3_findAlike_10 rfl ?_
        refine F_gr (b := 57) d_X3_findAlike_11 rfl hF rfl ?_
        refine T_il d_X3_findAlike_14 rfl ?_
        refine F_aa d_X3_findAlike_15 rfl ⟨by omega, by omega⟩ ?_
        rw [show R 57 ((i : Nat) : Int).toNat = some (ρ i) from hr.1]
        refine F_gi d_X3_findAlike_16 hlr hB rfl (fun b_2 => ?_)
        refine T_al d_X3_findAlike_19 rfl ?_
        refine F_gi d_X3_findAlike_20 rfl hB rfl (fun b_3 => ?_)
        refine T_ine d_X3_findAlike_23 ⟨by omega, by omega⟩ ⟨by omega, by omega⟩ (fun h23 => ?_) (fun h23 => ?_)
        · skip
          refine F_incg d_X3_findAlike_45 rfl (f := fun x_4 => [(0, vr 56), (1, vr 55), (2, vi x_4)]) (fun _ => rfl) (fun x_4 ex_4 => ?_)
          refine T_go d_X3_findAlike_48 ?_
          -- to 2 7f.23t@2
          obtain rfl : x_4 = ((i + 1) : Int) := by omega
          exact ih2 (i + 1) (by omega) (by first | assumption | omega) (up_all hno (fun z => h23 (by rw [ek, ek2]; exact z.1)))
        · skip
          refine T_al d_X3_findAlike_26 rfl ?_
          refine F_gr (b := 57) d_X3_findAlike_27 rfl hF rfl ?_
          refine T_il d_X3_findAlike_30 rfl ?_
          refine F_aa d_X3_findAlike_31 rfl ⟨by omega, by omega⟩ ?_
          rw [show R 57 ((i : Nat) : Int).toNat = some (ρ i) from hr.1]
          refine F_gj d_X3_findAlike_32 hlr hB rfl (fun b_5 => ?_)
          refine T_al d_X3_findAlike_35 rfl ?_
          refine F_gj d_X3_findAlike_36 rfl hB rfl (fun b_6 => ?_)
          refine T_lne d_X3_findAlike_39 d_X3_findAlike_40 ⟨by omega, by omega⟩ ⟨by omega, by omega⟩ (fun h39 => ?_) (fun h39 => ?_)
          · skip
            refine F_incg d_X3_findAlike_45 rfl (f := fun x_7 => [(0, vr 56), (1, vr 55), (2, vi x_7)]) (fun _ => rfl) (fun x_7 ex_7 => ?_)
            refine T_go d_X3_findAlike_48 ?_
            -- to 2 7f.23f.39t@2
            obtain rfl : x_7 = ((i + 1) : Int) := by omega
            exact ih2 (i + 1) (by omega) (by first | assumption | omega) (up_all hno (fun z => h39 (eq8.mpr z.2)))
          · skip
            refine T_il d_X3_findAlike_43 rfl ?_
            -- leaf 7f.23f.39f@44
            exact P_I d_X3_findAlike_44 (by rw [sm_at hun (show i < N by omega) ⟨by rw [← ek, ← ek2]; exact h23, eq8.mp h39⟩ N (by omega) (Nat.le_refl _)])
  exact L2 _ (0) (Nat.lt_succ_self _) (by first | assumption | omega) (fun t ht => absurd ht (Nat.not_lt_zero _))
set_option maxHeartbeats 1000000 in
set_option maxRecDepth 100000 in
theorem R_X3_drop {G : GG} {V : VV} {R : RR}  {N s : Nat} {ρ : Nat → Nat} (hB : Bd V) (hF : FinR R) (hN : N ≤ 24) (hNz : V 56 1 = (N : Int)) (hrw : rwI R ρ) (hs : s < N) : Runs G M_X3_drop 1 162 162 [vr 56, vi (s:Int)] V R (PQR [] [(56, 1, 1)] V R (fun o X R2 => o = none ∧ X 56 1 = (N : Int) - 1 ∧ rwI R2 (drp ρ s N))) := by
  refine Runs.of pn_X3 (Nat.le_of_ble_eq_true rfl) rfl ?_
  show TT G M_X3_drop (rmd 1 162 162) 162 (Zm G 162 162 (PQR [] [(56, 1, 1)] V R (fun o X R2 => o = none ∧ X 56 1 = (N : Int) - 1 ∧ rwI R2 (drp ρ s N)))) 162 0 [(0, vr 56), (1, vi (s:Int))] [] V R
  have fV : chg [] [(56, 1, 1)] V V := chg_r
  obtain ⟨d0, ed0⟩ : ∃ d, ρ s = d := ⟨_, rfl⟩
  have hd0 := hrw.1 s (by omega)
  rw [ed0] at hd0
  refine T_al d_X3_drop_0 rfl ?_
  refine F_gr (b := 57) d_X3_drop_1 rfl hF rfl ?_
  refine T_il d_X3_drop_4 rfl ?_
  refine F_aa d_X3_drop_5 rfl ⟨by omega, by omega⟩ ?_
  rw [show R 57 ((s : Nat) : Int).toNat = some d0 from hd0.1]
  refine T_as d_X3_drop_6 (ls' := [(0, vr 56), (1, vi (s:Int)), (2, vr d0)]) rfl ?_
  refine T_il d_X3_drop_7 rfl ?_
  refine F_isg d_X3_drop_8 (f := fun x_1 => [(0, vr 56), (1, vi (s:Int)), (2, vr d0), (3, vi x_1)]) (fun _ => rfl) (fun x_1 ex_1 => ?_)
  -- to 9 @9
  have L9 : ∀ (fu : Nat) (Q : RR) (y : Int) (h : Nat), N - h < fu → (FinR Q) → (frR R Q) → (y = (h : Int)) → (s ≤ h ∧ h < N) → (rwE Q (dnR ρ s h)) → TT G M_X3_drop (rmd 1 162 162) 162 (Zm G 162 162 (PQR [] [(56, 1, 1)] V R (fun o X R2 => o = none ∧ X 56 1 = (N : Int) - 1 ∧ rwI R2 (drp ρ s N)))) 162 9 [(0, vr 56), (1, vi (s:Int)), (2, vr d0), (3, vi y)] [] V Q := by
    intro fu
    induction fu with
    | zero => intro Q y h hm; exact absurd hm (Nat.not_lt_zero _)
    | succ fu ih9 =>
      intro Q y h hm9 hF hQo ey hh hQ
      refine T_il d_X3_drop_9 rfl ?_
      refine T_k d_X3_drop_10 ?_
      refine T_iadd d_X3_drop_11 ?_
      refine T_al d_X3_drop_12 rfl ?_
      refine F_gi d_X3_drop_13 rfl hB rfl (fun b_2 => ?_)
      refine T_ige d_X3_drop_16 ⟨by omega, by omega⟩ ⟨by omega, by omega⟩ (fun h16 => ?_) (fun h16 => ?_)
      · skip
        refine T_al d_X3_drop_39 rfl ?_
        refine T_dup d_X3_drop_40 rfl ?_
        refine F_gi d_X3_drop_41 rfl hB rfl (fun b_3 => ?_)
        refine T_k d_X3_drop_44 ?_
        refine T_isub d_X3_drop_45 ?_
        refine F_pi d_X3_drop_46 rfl hB rfl ⟨by omega, by omega⟩ (fun V_4 eV_4 hBV_4 => ?_)
        have fV_4 := chg_u eV_4 rfl fV
        refine T_al d_X3_drop_49 rfl ?_
        refine F_gr (b := 57) d_X3_drop_50 rfl hF rfl ?_
        refine T_al d_X3_drop_53 rfl ?_
        refine F_gi d_X3_drop_54 rfl hBV_4 rfl (fun b_5 => ?_)
        have gV_4_56_1 := (congrFun (congrFun eV_4 56) 1).trans uV_self
        rw [gV_4_56_1]
        rw [gV_4_56_1] at b_5
        refine T_al d_X3_drop_57 rfl ?_
        refine F_aast d_X3_drop_58 hF ⟨by omega, by omega⟩ hd0.2 (fun R_6 eR_6 hF => ?_)
        -- leaf 16t@59
        refine T_vret d_X3_drop_59 rfl ?_
        exact ⟨hF, frR_u hQo eR_6, hBV_4, fV_4, rfl, by rw [eV_4]; exact uV_self.trans (by rw [hNz]), drp_I hrw hs hN (rwE_x (rwE_u hQ eR_6) (fun j hj => by rw [show (V 56 1 - 1).toNat = N - 1 by omega, ← ed0]; exact drp_e (by omega) hh.1))⟩
      · skip
        obtain ⟨z0, ez0⟩ : ∃ d, ρ (h + 1) = d := ⟨_, rfl⟩
        have hz0 := hrw.1 (h + 1) (by omega)
        rw [ez0] at hz0
        have hQz : Q 57 (y + 1).toNat = some z0 := by rw [show (y + 1).toNat = h + 1 by omega, hQ (h + 1) (by omega), dnR_h, ez0]
        refine T_al d_X3_drop_19 rfl ?_
        refine F_gr (b := 57) d_X3_drop_20 rfl hF rfl ?_
        refine T_il d_X3_drop_23 rfl ?_
        refine T_al d_X3_drop_24 rfl ?_
        refine F_gr (b := 57) d_X3_drop_25 rfl hF rfl ?_
        refine T_il d_X3_drop_28 rfl ?_
        refine T_k d_X3_drop_29 ?_
        refine T_iadd d_X3_drop_30 ?_
        refine F_aa d_X3_drop_31 rfl ⟨by omega, by omega⟩ ?_
        rw [hQz]
        refine F_aast d_X3_drop_32 hF ⟨by omega, by omega⟩ hz0.2 (fun R_7 eR_7 hF => ?_)
        refine F_incg d_X3_drop_33 rfl (f := fun x_8 => [(0, vr 56), (1, vi (s:Int)), (2, vr d0), (3, vi x_8)]) (fun _ => rfl) (fun x_8 ex_8 => ?_)
        refine T_go d_X3_drop_36 ?_
        -- to 9 16f@9
        exact ih9 R_7 x_8 (h + 1) (by omega) hF (frR_u hQo eR_7) (by omega) (by omega) (rwE_x (rwE_u hQ eR_7) (fun j hj => by rw [show y.toNat = h by omega, ← ez0]; exact dnR_s hh.1))
  exact L9 _ R x_1 (s) (Nat.lt_succ_self _) hF frR_r (by omega) (by omega) (fun j hj => by rw [dnR_0]; exact (hrw.1 j hj).1)
