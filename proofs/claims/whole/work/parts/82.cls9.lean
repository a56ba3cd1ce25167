set_option maxHeartbeats 1000000 in
set_option maxRecDepth 100000 in
theorem R_X7_isOfSecond {G : GG} {V : VV} {R : RR}  {b : Bk} {h : Nat} (hB : Bd V) (hF : FinR R) (bCV : bC b V) (ho : bO b) (hh : h < b.n) : RunsP G M_X7_isOfSecond 2 [vr 34, vi (h:Int)] V R (vi (bi (decide (b.dg h = 1)))) := by
  unfold RunsP
  refine Runs.of pn_X7 (Nat.le_of_ble_eq_true rfl) rfl ?_
  show TT G M_X7_isOfSecond (rmd 2 162 162) 162 (Zm G 162 162 (QP V R (vi (bi (decide (b.dg h = 1)))))) 162 0 [(0, vr 34), (1, vi (h:Int))] [] V R
  have hn4 := ho.n
  have hd := ho.dg h
  refine T_al d_X7_isOfSecond_0 rfl ?_
  refine F_gr (b := 1) d_X7_isOfSecond_1 rfl hF rfl ?_
  refine F_gr (b := 2) d_X7_isOfSecond_4 rfl hF rfl ?_
  refine T_il d_X7_isOfSecond_7 rfl ?_
  refine T_k d_X7_isOfSecond_8 ?_
  refine C_pv2 d_X7_isOfSecond_9 rfl (hdF (by decide)) (hcF _) (Gt2_0 hB hF bCV ho hh) ?_
  refine T_k d_X7_isOfSecond_12 ?_
  refine T_ine d_X7_isOfSecond_13 ⟨by omega, by omega⟩ ⟨by omega, by omega⟩ (fun h13 => ?_) (fun h13 => ?_)
  · skip
    refine T_k d_X7_isOfSecond_20 ?_
    -- leaf 13t@21
    exact P_F d_X7_isOfSecond_21 (by exact h13)
  · skip
    refine T_k d_X7_isOfSecond_16 ?_
    refine T_go d_X7_isOfSecond_17 ?_
    -- leaf 13f@21
    exact P_T d_X7_isOfSecond_21 (by exact h13)
set_option maxHeartbeats 1000000 in
set_option maxRecDepth 100000 in
theorem R_X7_turnHole {G : GG} {V : VV} {R : RR}  {b : Bk} {h t : Nat} (hB : Bd V) (hF : FinR R) (bCV : bC b V) (ho : bO b) (hh : h < b.n) (ht : t ≤ 3) : Runs G M_X7_turnHole 3 162 162 [vr 34, vi (h:Int), vi (t:Int)] V R (PQ [(36, 37)] [] V R (fun r X => r = none ∧ X = uV (uV V 36 h (oX b h (t : Int))) 37 h (oY b h (t : Int)))) := by
  refine Runs.of pn_X7 (Nat.le_of_ble_eq_true rfl) rfl ?_
  show TT G M_X7_turnHole (rmd 3 162 162) 162 (Zm G 162 162 (PQ [(36, 37)] [] V R (fun r X => r = none ∧ X = uV (uV V 36 h (oX b h (t : Int))) 37 h (oY b h (t : Int))))) 162 0 [(0, vr 34), (1, vi (h:Int)), (2, vi (t:Int))] [] V R
  have fV : chg [(36, 37)] [] V V := chg_r
  have hn4 := ho.n
  refine T_al d_X7_turnHole_0 rfl ?_
  refine F_gr (b := 1) d_X7_turnHole_1 rfl hF rfl ?_
  refine F_gr (b := 2) d_X7_turnHole_4 rfl hF rfl ?_
  refine T_il d_X7_turnHole_7 rfl ?_
  refine T_k d_X7_turnHole_8 ?_
  refine C_pv2 d_X7_turnHole_9 rfl (hdF (by decide)) (hcF _) (Gt2_1 hB hF bCV ho hh) ?_
  refine F_isg d_X7_turnHole_12 (f := fun x_1 => [(0, vr 34), (1, vi (h:Int)), (2, vi (t:Int)), (3, vi x_1)]) (fun _ => rfl) (fun x_1 ex_1 => ?_)
  refine T_al d_X7_turnHole_13 rfl ?_
  refine F_gr (b := 1) d_X7_turnHole_14 rfl hF rfl ?_
  refine F_gr (b := 2) d_X7_turnHole_17 rfl hF rfl ?_
  refine T_il d_X7_turnHole_20 rfl ?_
  refine T_k d_X7_turnHole_21 ?_
  refine C_pv2 d_X7_turnHole_22 rfl (hdF (by decide)) (hcF _) (Gt2_2 hB hF bCV ho hh) ?_
  refine F_isg d_X7_turnHole_25 (f := fun x_2 => [(0, vr 34), (1, vi (h:Int)), (2, vi (t:Int)), (3, vi x_1), (4, vi x_2)]) (fun _ => rfl) (fun x_2 ex_2 => ?_)
  refine T_k d_X7_turnHole_27 ?_
  refine T_is d_X7_turnHole_28 (ls' := [(0, vr 34), (1, vi (h:Int)), (2, vi (t:Int)), (3, vi x_1), (4, vi x_2), (5, vi 0)]) rfl ?_
  -- to 30 @30
  have L30 : ∀ (fu : Nat) (v w : Int) (i : Nat), t - i < fu → (i ≤ t) → (v = tX b h (i : Int) ∧ w = tY b h (i : Int)) → (b.dg h = 1 ∨ i = 0) → TT G M_X7_turnHole (rmd 3 162 162) 162 (Zm G 162 162 (PQ [(36, 37)] [] V R (fun r X => r = none ∧ X = uV (uV V 36 h (oX b h (t : Int))) 37 h (oY b h (t : Int))))) 162 30 [(0, vr 34), (1, vi (h:Int)), (2, vi (t:Int)), (3, vi v), (4, vi w), (5, vi (i : Int))] [] V R := by
    intro fu
    induction fu with
    | zero => intro v w i hm; exact absurd hm (Nat.not_lt_zero _)
    | succ fu ih30 =>
      intro v w i hm30 hi hv hd
      have hb := t_b (h := h) (t := (i : Int)) ho
      refine T_il d_X7_turnHole_30 rfl ?_
      refine T_il d_X7_turnHole_32 rfl ?_
      refine T_ige d_X7_turnHole_33 ⟨by omega, by omega⟩ ⟨by omega, by omega⟩ (fun h33 => ?_) (fun h33 => ?_)
      · skip
        refine T_al d_X7_turnHole_64 rfl ?_
        refine F_gr (b := 36) d_X7_turnHole_65 rfl hF rfl ?_
        refine T_il d_X7_turnHole_68 rfl ?_
        refine T_il d_X7_turnHole_69 rfl ?_
        refine F_is d_X7_turnHole_70 rfl hB rfl ⟨by omega, by omega⟩ ⟨by omega, by omega⟩ (fun V_3 eV_3 hBV_3 => ?_)
        have fV_3 := chg_u eV_3 rfl fV
        have bCV_3 := bC_c bCV fV_3 rfl
        refine T_al d_X7_turnHole_71 rfl ?_
        refine F_gr (b := 37) d_X7_turnHole_72 rfl hF rfl ?_
        refine T_il d_X7_turnHole_75 rfl ?_
        refine T_il d_X7_turnHole_76 rfl ?_
        refine F_is d_X7_turnHole_78 rfl hBV_3 rfl ⟨by omega, by omega⟩ ⟨by omega, by omega⟩ (fun V_4 eV_4 hBV_4 => ?_)
        have fV_4 := chg_u eV_4 rfl fV_3
        have bCV_4 := bC_c bCV fV_4 rfl
        -- leaf 33t@79
        refine T_vret d_X7_turnHole_79 rfl ?_
        have o := o_e hd (show i = t by omega)
        exact ⟨rfl, hBV_4, fV_4, rfl, by rw [eV_4, eV_3, hv.1, hv.2, o.1, o.2, Int.toNat_natCast]⟩
      · skip
        refine T_al d_X7_turnHole_36 rfl ?_
        refine T_il d_X7_turnHole_37 rfl ?_
        refine C_pv1 d_X7_turnHole_38 rfl (hdF (by decide)) (hcF _) (R_X7_isOfSecond hB hF bCV ho hh) ?_
        refine T_pz0 d_X7_turnHole_41 (fun h41 => ?_) (fun h41 => ?_)
        · skip
          refine T_al d_X7_turnHole_64 rfl ?_
          refine F_gr (b := 36) d_X7_turnHole_65 rfl hF rfl ?_
          refine T_il d_X7_turnHole_68 rfl ?_
          refine T_il d_X7_turnHole_69 rfl ?_
          refine F_is d_X7_turnHole_70 rfl hB rfl ⟨by omega, by omega⟩ ⟨by omega, by omega⟩ (fun V_5 eV_5 hBV_5 => ?_)
          have fV_5 := chg_u eV_5 rfl fV
          have bCV_5 := bC_c bCV fV_5 rfl
          refine T_al d_X7_turnHole_71 rfl ?_
          refine F_gr (b := 37) d_X7_turnHole_72 rfl hF rfl ?_
          refine T_il d_X7_turnHole_75 rfl ?_
          refine T_il d_X7_turnHole_76 rfl ?_
          refine F_is d_X7_turnHole_78 rfl hBV_5 rfl ⟨by omega, by omega⟩ ⟨by omega, by omega⟩ (fun V_6 eV_6 hBV_6 => ?_)
          have fV_6 := chg_u eV_6 rfl fV_5
          have bCV_6 := bC_c bCV fV_6 rfl
          -- leaf 33f.41t@79
          refine T_vret d_X7_turnHole_79 rfl ?_
          have o := o_n (t := (t : Int)) hd h41
          exact ⟨rfl, hBV_6, fV_6, rfl, by rw [eV_6, eV_5, hv.1, hv.2, o.1, o.2, Int.toNat_natCast]⟩
        · skip
          refine T_k d_X7_turnHole_44 ?_
          refine T_il d_X7_turnHole_47 rfl ?_
          refine T_isub d_X7_turnHole_49 ?_
          refine F_isg d_X7_turnHole_50 (f := fun x_7 => [(0, vr 34), (1, vi (h:Int)), (2, vi (t:Int)), (3, vi v), (4, vi w), (5, vi (i : Int)), (6, vi x_7)]) (fun _ => rfl) (fun x_7 ex_7 => ?_)
          refine T_il d_X7_turnHole_52 rfl ?_
          refine T_is d_X7_turnHole_53 (ls' := [(0, vr 34), (1, vi (h:Int)), (2, vi (t:Int)), (3, vi v), (4, vi v), (5, vi (i : Int)), (6, vi x_7)]) rfl ?_
          refine T_il d_X7_turnHole_55 rfl ?_
          refine T_is d_X7_turnHole_57 (ls' := [(0, vr 34), (1, vi (h:Int)), (2, vi (t:Int)), (3, vi x_7), (4, vi v), (5, vi (i : Int)), (6, vi x_7)]) rfl ?_
          refine F_incg d_X7_turnHole_58 rfl (f := fun x_8 => [(0, vr 34), (1, vi (h:Int)), (2, vi (t:Int)), (3, vi x_7), (4, vi v), (5, vi x_8), (6, vi x_7)]) (fun _ => rfl) (fun x_8 ex_8 => ?_)
          refine T_go d_X7_turnHole_61 ?_
          -- to 30 33f.41f@30
          refine T_subp (ks := [0, 1, 2, 3, 4, 5]) (ls' := [(0, vr 34), (1, vi (h:Int)), (2, vi (t:Int)), (3, vi x_7), (4, vi v), (5, vi x_8)]) rfl ?_
          obtain rfl : x_8 = ((i + 1) : Int) := by omega
          exact ih30 x_7 v (i + 1) (by omega) (by first | assumption | omega) (by have s := turn_s (b := b) (h := h) (i := i) (by omega); exact ⟨by rw [s.1, ← hv.2]; exact ex_7, by rw [s.2]; exact hv.1⟩) (Or.inl h41)
  exact L30 _ x_1 x_2 (0) (Nat.lt_succ_self _) (by first | assumption | omega) ⟨ex_1, ex_2⟩ (Or.inr rfl)
set_option maxHeartbeats 1000000 in
set_option maxRecDepth 100000 in
theorem R_X7_countShifts {G : GG} {V : VV} {R : RR} {p : Int} {q : Int} {b : Bk} {h : Nat} (hB : Bd V) (hF : FinR R) (bCV : bC b V) (ho : bO b) (hh : h < 40) (hp : -2000 ≤ p ∧ p ≤ 2000) (hq : -2000 ≤ q ∧ q ≤ 2000) : Runs G M_X7_countShifts 2 162 162 [vr 34, vi (h:Int), vi p, vi q] V R (PQ [(42, 43)] [] V R (fun r X => r = none ∧ csI b V X h p q (fun _ _ => True))) := by
  refine Runs.of pn_X7 (Nat.le_of_ble_eq_true rfl) rfl ?_
  show TT G M_X7_countShifts (rmd 2 162 162) 162 (Zm G 162 162 (PQ [(42, 43)] [] V R (fun r X => r = none ∧ csI b V X h p q (fun _ _ => True)))) 162 0 [(0, vr 34), (1, vi (h:Int)), (2, vi p), (3, vi q)] [] V R
  have fV : chg [(42, 43)] [] V V := chg_r
  have he := ho.e
  refine T_k d_X7_countShifts_0 ?_
  refine T_il d_X7_countShifts_2 rfl ?_
  refine T_al d_X7_countShifts_3 rfl ?_
  refine F_gr (b := 1) d_X7_countShifts_4 rfl hF rfl ?_
  refine F_gi d_X7_countShifts_7 rfl hB rfl (fun b_1 => ?_)
  rw [bCV.e]
  rw [bCV.e] at b_1
  refine T_iadd d_X7_countShifts_10 ?_
  refine T_mmin d_X7_countShifts_11 ⟨by omega, by omega⟩ ⟨by omega, by omega⟩ (Nat.le_of_ble_eq_true rfl) (hmF _) ?_
  refine F_isg d_X7_countShifts_14 (f := fun x_2 => [(0, vr 34), (1, vi (h:Int)), (2, vi p), (3, vi q), (4, vi x_2)]) (fun _ => rfl) (fun x_2 ex_2 => ?_)
  refine T_k d_X7_countShifts_16 ?_
  refine T_il d_X7_countShifts_18 rfl ?_
  refine T_al d_X7_countShifts_19 rfl ?_
  refine F_gr (b := 1) d_X7_countShifts_20 rfl hF rfl ?_
  refine F_gi d_X7_countShifts_23 rfl hB rfl (fun b_3 => ?_)
  rw [bCV.e]
  rw [bCV.e] at b_3
  refine T_iadd d_X7_countShifts_26 ?_
  refine T_mmin d_X7_countShifts_27 ⟨by omega, by omega⟩ ⟨by omega, by omega⟩ (Nat.le_of_ble_eq_true rfl) (hmF _) ?_
  refine F_isg d_X7_countShifts_30 (f := fun x_4 => [(0, vr 34), (1, vi (h:Int)), (2, vi p), (3, vi q), (4, vi x_2), (5, vi x_4)]) (fun _ => rfl) (fun x_4 ex_4 => ?_)
  refine T_k d_X7_countShifts_32 ?_
  refine T_il d_X7_countShifts_34 rfl ?_
  refine T_al d_X7_countShifts_35 rfl ?_
  refine F_gr (b := 1) d_X7_countShifts_36 rfl hF rfl ?_
  refine F_gi d_X7_countShifts_39 rfl hB rfl (fun b_5 => ?_)
  rw [bCV.e]
  rw [bCV.e] at b_5
  refine T_isub d_X7_countShifts_42 ?_
  refine T_mmax d_X7_countShifts_43 ⟨by omega, by omega⟩ ⟨by omega, by omega⟩ (Nat.le_of_ble_eq_true rfl) (hmF _) ?_
  refine F_isg d_X7_countShifts_46 (f := fun x_6 => [(0, vr 34), (1, vi (h:Int)), (2, vi p), (3, vi q), (4, vi x_2), (5, vi x_4), (6, vi x_6)]) (fun _ => rfl) (fun x_6 ex_6 => ?_)
  -- to 48 @48
  have L48 : ∀ (fu : Nat) (X : VV) (u : Int), (22 - u).toNat < fu → (Bd X) → (chg [(42, 43)] [] V X) → (-20 ≤ u ∧ p - b.e ≤ u ∧ u ≤ 2000) → (csI b V X h p q (fun x _ => (x : Int) - 20 < u)) → TT G M_X7_countShifts (rmd 2 162 162) 162 (Zm G 162 162 (PQ [(42, 43)] [] V R (fun r X => r = none ∧ csI b V X h p q (fun _ _ => True)))) 162 48 [(0, vr 34), (1, vi (h:Int)), (2, vi p), (3, vi q), (4, vi x_2), (5, vi x_4), (6, vi u)] [] X R := by
    intro fu
    induction fu with
    | zero => intro X u hm; exact absurd hm (Nat.not_lt_zero _)
    | succ fu ih48 =>
      intro X u hm48 hBX fX hu hc
      have bCX := bC_c bCV fX rfl
      refine T_il d_X7_countShifts_48 rfl ?_
      refine T_il d_X7_countShifts_50 rfl ?_
      refine T_igt d_X7_countShifts_52 ⟨by omega, by omega⟩ ⟨by omega, by omega⟩ (fun h52 => ?_) (fun h52 => ?_)
      · skip
        -- leaf 52t@136
        refine T_vret d_X7_countShifts_136 rfl ?_
        exact ⟨rfl, hBX, fX, rfl, csI_w hc (fun x y _ _ n => ⟨fun _ => by unfold nrW at n; simp only [abI] at n; omega, fun _ => trivial⟩)⟩
      · skip
        refine T_k d_X7_countShifts_55 ?_
        refine T_il d_X7_countShifts_57 rfl ?_
        refine T_al d_X7_countShifts_58 rfl ?_
        refine F_gr (b := 1) d_X7_countShifts_59 rfl hF rfl ?_
        refine F_gi d_X7_countShifts_62 rfl hBX rfl (fun b_7 => ?_)
        rw [bCX.e]
        rw [bCX.e] at b_7
        refine T_isub d_X7_countShifts_65 ?_
        refine T_mmax d_X7_countShifts_66 ⟨by omega, by omega⟩ ⟨by omega, by omega⟩ (Nat.le_of_ble_eq_true rfl) (hmF _) ?_
        refine F_isg d_X7_countShifts_69 (f := fun x_8 => [(0, vr 34), (1, vi (h:Int)), (2, vi p), (3, vi q), (4, vi x_2), (5, vi x_4), (6, vi u), (7, vi x_8)]) (fun _ => rfl) (fun x_8 ex_8 => ?_)
        -- to 71 52f@71
        have L71 : ∀ (fu : Nat) (Y : VV) (v : Int), (22 - v).toNat < fu → (Bd Y) → (chg [(42, 43)] [] V Y) → (-20 ≤ v ∧ q - b.e ≤ v ∧ v ≤ 2000) → (csI b V Y h p q (fun x y => (x : Int) - 20 < u ∨ ((x : Int) - 20 = u ∧ (y : Int) - 20 < v))) → TT G M_X7_countShifts (rmd 2 162 162) 162 (Zm G 162 162 (PQ [(42, 43)] [] V R (fun r X => r = none ∧ csI b V X h p q (fun _ _ => True)))) 162 71 [(0, vr 34), (1, vi (h:Int)), (2, vi p), (3, vi q), (4, vi x_2), (5, vi x_4), (6, vi u), (7, vi v)] [] Y R := by
          intro fu
          induction fu with
          | zero => intro Y v hm; exact absurd hm (Nat.not_lt_zero _)
          | succ fu ih71 =>
            intro Y v hm71 hBY fY hv hd
            have bCY := bC_c bCV fY rfl
            refine T_il d_X7_countShifts_71 rfl ?_
            refine T_il d_X7_countShifts_73 rfl ?_
            refine T_igt d_X7_countShifts_75 ⟨by omega, by omega⟩ ⟨by omega, by omega⟩ (fun h75 => ?_) (fun h75 => ?_)
            · skip
              refine F_incg d_X7_countShifts_130 rfl (f := fun x_9 => [(0, vr 34), (1, vi (h:Int)), (2, vi p), (3, vi q), (4, vi x_2), (5, vi x_4), (6, vi x_9), (7, vi v)]) (fun _ => rfl) (fun x_9 ex_9 => ?_)
              refine T_go d_X7_countShifts_133 ?_
              -- to 48 75t@48
              refine T_subp (ks := [0, 1, 2, 3, 4, 5, 6]) (ls' := [(0, vr 34), (1, vi (h:Int)), (2, vi p), (3, vi q), (4, vi x_2), (5, vi x_4), (6, vi x_9)]) rfl ?_
              exact ih48 Y x_9 (by omega) hBY fY (by first | assumption | omega) (csI_w hd (fun x y _ _ n => by unfold nrW at n; simp only [abI] at n; omega))
            · skip
              refine T_il d_X7_countShifts_78 rfl ?_
              refine T_k d_X7_countShifts_80 ?_
              refine T_iadd d_X7_countShifts_82 ?_
              refine T_k d_X7_countShifts_83 ?_
              refine T_imul d_X7_countShifts_85 ?_
              refine T_il d_X7_countShifts_86 rfl ?_
              refine T_iadd d_X7_countShifts_88 ?_
              refine T_k d_X7_countShifts_89 ?_
              refine T_iadd d_X7_countShifts_91 ?_
              refine F_isg d_X7_countShifts_92 (f := fun x_10 => [(0, vr 34), (1, vi (h:Int)), (2, vi p), (3, vi q), (4, vi x_2), (5, vi x_4), (6, vi u), (7, vi v), (8, vi x_10)]) (fun _ => rfl) (fun x_10 ex_10 => ?_)
              obtain ⟨x0, ex0⟩ : ∃ x0 : Nat, u = (x0 : Int) - 20 := ⟨(u + 20).toNat, by omega⟩
              obtain ⟨y0, ey0⟩ : ∃ y0 : Nat, v = (y0 : Int) - 20 := ⟨(v + 20).toNat, by omega⟩
              have hx0 : x0 < 41 := by omega
              have hy0 : y0 < 41 := by omega
              have c0 : (x_10).toNat = x0 * 41 + y0 := by omega
              refine T_al d_X7_countShifts_94 rfl ?_
              refine F_gr (b := 43) d_X7_countShifts_95 rfl hF rfl ?_
              refine T_il d_X7_countShifts_98 rfl ?_
              refine F_ia d_X7_countShifts_100 rfl hBY rfl ⟨by omega, by omega⟩ (fun b_11 => ?_)
              try simp only [Int.toNat_natCast, c0]
              try simp only [Int.toNat_natCast, c0] at b_11
              refine T_il d_X7_countShifts_101 rfl ?_
              refine T_ieq d_X7_countShifts_102 ⟨by omega, by omega⟩ ⟨by omega, by omega⟩ (fun h102 => ?_) (fun h102 => ?_)
              · skip
                refine F_incg d_X7_countShifts_124 rfl (f := fun x_12 => [(0, vr 34), (1, vi (h:Int)), (2, vi p), (3, vi q), (4, vi x_2), (5, vi x_4), (6, vi u), (7, vi x_12), (8, vi x_10)]) (fun _ => rfl) (fun x_12 ex_12 => ?_)
                refine T_go d_X7_countShifts_127 ?_
                -- to 71 75f.102t@71
                refine T_subp (ks := [0, 1, 2, 3, 4, 5, 6, 7]) (ls' := [(0, vr 34), (1, vi (h:Int)), (2, vi p), (3, vi q), (4, vi x_2), (5, vi x_4), (6, vi u), (7, vi x_12)]) rfl ?_
                exact ih71 Y x_12 (by omega) hBY fY (by first | assumption | omega) (csI_k hx0 hy0 hd (by omega) h102 (fun x y _ _ => by omega))
              · skip
                refine T_al d_X7_countShifts_105 rfl ?_
                refine F_gr (b := 43) d_X7_countShifts_106 rfl hF rfl ?_
                refine T_il d_X7_countShifts_109 rfl ?_
                refine T_il d_X7_countShifts_111 rfl ?_
                refine F_is d_X7_countShifts_112 rfl hBY rfl ⟨by omega, by omega⟩ ⟨by omega, by omega⟩ (fun V_13 eV_13 hBV_13 => ?_)
                have fV_13 := chg_u eV_13 rfl fY
                have bCV_13 := bC_c bCV fV_13 rfl
                refine T_al d_X7_countShifts_113 rfl ?_
                refine F_gr (b := 42) d_X7_countShifts_114 rfl hF rfl ?_
                refine T_il d_X7_countShifts_117 rfl ?_
                refine T_dup2 d_X7_countShifts_119 rfl rfl ?_
                refine F_ian d_X7_countShifts_120 rfl ⟨by omega, by omega⟩ ?_
                have faV_13_42 : V_13 42 = Y 42 := by rw [eV_13]; rfl
                rw [faV_13_42]
                try simp only [Int.toNat_natCast, c0]
                refine T_k d_X7_countShifts_121 ?_
                refine T_iadd d_X7_countShifts_122 ?_
                refine F_isn d_X7_countShifts_123 rfl hBV_13 rfl ⟨by omega, by omega⟩ (fun V_14 eV_14 hBV_14 => ?_)
                have fV_14 := chg_u eV_14 rfl fV_13
                have bCV_14 := bC_c bCV fV_14 rfl
                refine F_incg d_X7_countShifts_124 rfl (f := fun x_15 => [(0, vr 34), (1, vi (h:Int)), (2, vi p), (3, vi q), (4, vi x_2), (5, vi x_4), (6, vi u), (7, vi x_15), (8, vi x_10)]) (fun _ => rfl) (fun x_15 ex_15 => ?_)
                refine T_go d_X7_countShifts_127 ?_
                -- to 71 75f.102f@71
                refine T_subp (ks := [0, 1, 2, 3, 4, 5, 6, 7]) (ls' := [(0, vr 34), (1, vi (h:Int)), (2, vi p), (3, vi q), (4, vi x_2), (5, vi x_4), (6, vi u), (7, vi x_15)]) rfl ?_
                exact ih71 V_14 x_15 (by omega) hBV_14 fV_14 (by first | assumption | omega) (csI_n hx0 hy0 hd (by omega) (by unfold nrW; simp only [abI]; omega) h102 rfl (by rw [eV_14, eV_13, c0]) (fun x y _ _ => by omega))
        exact L71 _ X x_8 (Nat.lt_succ_self _) hBX fX (by first | assumption | omega) (csI_w hc (fun x y _ _ n => by unfold nrW at n; simp only [abI] at n; omega))
  exact L48 _ V x_6 (Nat.lt_succ_self _) hB fV (by first | assumption | omega) (csI_0 (fun x y _ _ n z => by unfold nrW at n; simp only [abI] at n; omega))
set_option maxHeartbeats 1000000 in
set_option maxRecDepth 100000 in
theorem R_X7_countHits {G : GG} {V : VV} {R : RR}  {b : Bk} {t : Nat} {k : Int} (hB : Bd V) (hF : FinR R) (bCV : bC b V) (ho : bO b) (ht : t ≤ 3) (hs : snC b k V) : Runs G M_X7_countHits 4 162 162 [vr 34, vi (t:Int)] V R (PQ [(36, 37), (42, 43)] [] V R (fun r X => r = none ∧ ∀ x y, x < 41 → y < 41 → X 42 (x * 41 + y) = (hitN b k (t : Int) ((x : Int) - 20) ((y : Int) - 20) : Int))) := by
  refine Runs.of pn_X7 (Nat.le_of_ble_eq_true rfl) rfl ?_
  show TT G M_X7_countHits (rmd 4 162 162) 162 (Zm G 162 162 (PQ [(36, 37), (42, 43)] [] V R (fun r X => r = none ∧ ∀ x y, x < 41 → y < 41 → X 42 (x * 41 + y) = (hitN b k (t : Int) ((x : Int) - 20) ((y : Int) - 20) : Int)))) 162 0 [(0, vr 34), (1, vi (t:Int))] [] V R
  have fV : chg [(36, 37), (42, 43)] [] V V := chg_r
  have hn4 := ho.n
  refine T_al d_X7_countHits_0 rfl ?_
  refine F_gr (b := 42) d_X7_countHits_1 rfl hF rfl ?_
  refine T_k d_X7_countHits_4 ?_
  refine C_s2 d_X7_countHits_5 (hdF (by decide)) (hcF _) (R_fill_42 hB hF ⟨by omega, by omega⟩) (fun r_1 V_2 R_3 qV_2 => ?_)
  obtain ⟨rfl, hBV_2, cV_2, rfl, pV_2⟩ := qV_2
  have fV_2 := chg_t (A := [(36, 37), (42, 43)]) (F := []) fV cV_2 rfl
  have bCV_2 := bC_c bCV fV_2 rfl
  have p8 := pV_2
  refine T_al d_X7_countHits_8 rfl ?_
  refine F_gr (b := 43) d_X7_countHits_9 rfl hF rfl ?_
  refine T_k d_X7_countHits_12 ?_
  refine C_s2 d_X7_countHits_13 (hdF (by decide)) (hcF _) (R_fill_43 hBV_2 hF ⟨by omega, by omega⟩) (fun r_4 V_5 R_6 qV_5 => ?_)
  obtain ⟨rfl, hBV_5, cV_5, rfl, pV_5⟩ := qV_5
  have fV_5 := chg_t (A := [(36, 37), (42, 43)]) (F := []) fV_2 cV_5 rfl
  have bCV_5 := bC_c bCV fV_5 rfl
  have z42 : ∀ i, i < 1681 → V_5 42 i = 0 := by rw [chg_k (c := 42) cV_5 rfl]; exact p8
  have z43 := pV_5
  refine T_k d_X7_countHits_16 ?_
  refine T_is d_X7_countHits_17 (ls' := [(0, vr 34), (1, vi (t:Int)), (2, vi 0)]) rfl ?_
  -- to 18 @18
  have L18 : ∀ (fu : Nat) (X : VV) (h : Nat), b.n - h < fu → (Bd X) → (chg [(36, 37), (42, 43)] [] V X) → (h ≤ b.n) → (chO b k t h X) → TT G M_X7_countHits (rmd 4 162 162) 162 (Zm G 162 162 (PQ [(36, 37), (42, 43)] [] V R (fun r X => r = none ∧ ∀ x y, x < 41 → y < 41 → X 42 (x * 41 + y) = (hitN b k (t : Int) ((x : Int) - 20) ((y : Int) - 20) : Int)))) 162 18 [(0, vr 34), (1, vi (t:Int)), (2, vi (h : Int))] [] X R := by
    intro fu
    induction fu with
    | zero => intro X h hm; exact absurd hm (Nat.not_lt_zero _)
    | succ fu ih18 =>
      intro X h hm18 hBX fX hh hc
      have bCX := bC_c bCV fX rfl
      have sX : snC b k X := by unfold snC; rw [chg_k (c := 35) fX rfl]; exact hs
      refine T_il d_X7_countHits_18 rfl ?_
      refine T_al d_X7_countHits_19 rfl ?_
      refine F_gr (b := 1) d_X7_countHits_20 rfl hF rfl ?_
      refine F_gr (b := 2) d_X7_countHits_23 rfl hF rfl ?_
      refine F_gi d_X7_countHits_26 rfl hBX rfl (fun b_7 => ?_)
      rw [bCX.n]
      rw [bCX.n] at b_7
      refine T_ige d_X7_countHits_29 ⟨by omega, by omega⟩ ⟨by omega, by omega⟩ (fun h29 => ?_) (fun h29 => ?_)
      · skip
        -- leaf 29t@146
        refine T_vret d_X7_countHits_146 rfl ?_
        exact ⟨rfl, hBX, fX, rfl, fun x y hx hy => by rw [(hc x y hx hy).1, show h = b.n by omega]; rfl⟩
      · skip
        refine T_al d_X7_countHits_32 rfl ?_
        refine F_gr (b := 35) d_X7_countHits_33 rfl hF rfl ?_
        refine T_il d_X7_countHits_36 rfl ?_
        refine F_za d_X7_countHits_37 rfl hBX rfl ⟨by omega, by omega⟩ (fun b_8 => ?_)
        try simp only [Int.toNat_natCast]
        try simp only [Int.toNat_natCast] at b_8
        refine T_zeq d_X7_countHits_38 ⟨by omega, by omega⟩ (fun h38 => ?_) (fun h38 => ?_)
        · skip
          refine F_incg d_X7_countHits_140 rfl (f := fun x_9 => [(0, vr 34), (1, vi (t:Int)), (2, vi x_9)]) (fun _ => rfl) (fun x_9 ex_9 => ?_)
          refine T_go d_X7_countHits_143 ?_
          -- to 18 29f.38t@18
          obtain rfl : x_9 = ((h + 1) : Int) := by omega
          exact ih18 X (h + 1) (by omega) hBX fX (by first | assumption | omega) (chO_s hc (fun z => sn_f sX (by omega) h38 z.2))
        · skip
          refine T_al d_X7_countHits_41 rfl ?_
          refine T_il d_X7_countHits_42 rfl ?_
          refine C_pv1 d_X7_countHits_43 rfl (hdF (by decide)) (hcF _) (R_X7_isOfSecond hBX hF bCX ho (by omega)) ?_
          refine T_pz1 d_X7_countHits_46 (fun h46 => ?_) (fun h46 => ?_)
          · skip
            refine T_al d_X7_countHits_52 rfl ?_
            refine T_il d_X7_countHits_53 rfl ?_
            refine T_il d_X7_countHits_54 rfl ?_
            refine C_v2 d_X7_countHits_55 rfl (hdF (by decide)) (hcF _) (R_X7_turnHole hBX hF bCX ho (by omega) ht) (fun r_10 V_11 R_12 qV_11 => ?_)
            obtain ⟨rfl, hBV_11, cV_11, rfl, pV_11⟩ := qV_11
            have fV_11 := chg_t (A := [(36, 37), (42, 43)]) (F := []) fX cV_11 rfl
            have bCV_11 := bC_c bCV fV_11 rfl
            refine T_k d_X7_countHits_58 ?_
            refine T_is d_X7_countHits_59 (ls' := [(0, vr 34), (1, vi (t:Int)), (2, vi (h : Int)), (3, vi 0)]) rfl ?_
            -- to 60 29f.38f.46t@60
            have L60 : ∀ (fu : Nat) (Y : VV) (g : Nat), b.n - g < fu → (Bd Y) → (chg [(36, 37), (42, 43)] [] V Y) → (g ≤ b.n) → (chI b k t h g Y) → (Y 36 h = tX b h (t : Int) ∧ Y 37 h = tY b h (t : Int)) → TT G M_X7_countHits (rmd 4 162 162) 162 (Zm G 162 162 (PQ [(36, 37), (42, 43)] [] V R (fun r X => r = none ∧ ∀ x y, x < 41 → y < 41 → X 42 (x * 41 + y) = (hitN b k (t : Int) ((x : Int) - 20) ((y : Int) - 20) : Int)))) 162 60 [(0, vr 34), (1, vi (t:Int)), (2, vi (h : Int)), (3, vi (g : Int))] [] Y R := by
              intro fu
              induction fu with
              | zero => intro Y g hm; exact absurd hm (Nat.not_lt_zero _)
              | succ fu ih60 =>
                intro Y g hm60 hBY fY hg hi ex
                have bCY := bC_c bCV fY rfl
                have sY : snC b k Y := by unfold snC; rw [chg_k (c := 35) fY rfl]; exact hs
                refine T_il d_X7_countHits_60 rfl ?_
                refine T_al d_X7_countHits_61 rfl ?_
                refine F_gr (b := 1) d_X7_countHits_62 rfl hF rfl ?_
                refine F_gr (b := 2) d_X7_countHits_65 rfl hF rfl ?_
                refine F_gi d_X7_countHits_68 rfl hBY rfl (fun b_13 => ?_)
                rw [bCY.n]
                rw [bCY.n] at b_13
                refine T_ige d_X7_countHits_71 ⟨by omega, by omega⟩ ⟨by omega, by omega⟩ (fun h71 => ?_) (fun h71 => ?_)
                · skip
                  refine F_incg d_X7_countHits_140 rfl (f := fun x_14 => [(0, vr 34), (1, vi (t:Int)), (2, vi x_14), (3, vi (g : Int))]) (fun _ => rfl) (fun x_14 ex_14 => ?_)
                  refine T_go d_X7_countHits_143 ?_
                  -- to 18 71t@18
                  refine T_subp (ks := [0, 1, 2]) (ls' := [(0, vr 34), (1, vi (t:Int)), (2, vi x_14)]) rfl ?_
                  obtain rfl : x_14 = ((h + 1) : Int) := by omega
                  exact ih18 Y (h + 1) (by omega) hBY fY (by first | assumption | omega) (chI_e hi (by omega) ⟨h46, sn_t sX (by omega) h38⟩)
                · skip
                  refine T_al d_X7_countHits_74 rfl ?_
                  refine F_gr (b := 35) d_X7_countHits_75 rfl hF rfl ?_
                  refine T_il d_X7_countHits_78 rfl ?_
                  refine F_za d_X7_countHits_79 rfl hBY rfl ⟨by omega, by omega⟩ (fun b_15 => ?_)
                  try simp only [Int.toNat_natCast]
                  try simp only [Int.toNat_natCast] at b_15
                  refine T_zeq d_X7_countHits_80 ⟨by omega, by omega⟩ (fun h80 => ?_) (fun h80 => ?_)
                  · skip
                    refine F_incg d_X7_countHits_134 rfl (f := fun x_16 => [(0, vr 34), (1, vi (t:Int)), (2, vi (h : Int)), (3, vi x_16)]) (fun _ => rfl) (fun x_16 ex_16 => ?_)
                    refine T_go d_X7_countHits_137 ?_
                    -- to 60 71f.80t@60
                    obtain rfl : x_16 = ((g + 1) : Int) := by omega
                    exact ih60 Y (g + 1) (by omega) hBY fY (by first | assumption | omega) (chI_s hi (fun z => sn_f sY (by omega) h80 z.2)) (by first | assumption | omega)
                  · skip
                    refine T_al d_X7_countHits_83 rfl ?_
                    refine T_il d_X7_countHits_84 rfl ?_
                    refine C_pv1 d_X7_countHits_85 rfl (hdF (by decide)) (hcF _) (R_X7_isOfSecond hBY hF bCY ho (by omega)) ?_
                    refine T_pz1 d_X7_countHits_88 (fun h88 => ?_) (fun h88 => ?_)
                    · skip
                      refine F_incg d_X7_countHits_134 rfl (f := fun x_17 => [(0, vr 34), (1, vi (t:Int)), (2, vi (h : Int)), (3, vi x_17)]) (fun _ => rfl) (fun x_17 ex_17 => ?_)
                      refine T_go d_X7_countHits_137 ?_
                      -- to 60 71f.80f.88t@60
                      obtain rfl : x_17 = ((g + 1) : Int) := by omega
                      exact ih60 Y (g + 1) (by omega) hBY fY (by first | assumption | omega) (chI_s hi (fun z => by have := z.1; omega)) (by first | assumption | omega)
                    · skip
                      have hd0 : b.dg g = 0 := by have := ho.dg g; omega
                      have hbx := ho.hx g
                      have hby := ho.hy g
                      refine T_al d_X7_countHits_91 rfl ?_
                      refine T_il d_X7_countHits_92 rfl ?_
                      refine T_al d_X7_countHits_93 rfl ?_
                      refine F_gr (b := 1) d_X7_countHits_94 rfl hF rfl ?_
                      refine F_gr (b := 2) d_X7_countHits_97 rfl hF rfl ?_
                      refine T_il d_X7_countHits_100 rfl ?_
                      refine T_k d_X7_countHits_101 ?_
                      refine C_pv2 d_X7_countHits_102 rfl (hdF (by decide)) (hcF _) (Gt2_1 hBY hF bCY ho (by omega)) ?_
                      refine T_al d_X7_countHits_105 rfl ?_
                      refine F_gr (b := 36) d_X7_countHits_106 rfl hF rfl ?_
                      refine T_il d_X7_countHits_109 rfl ?_
                      refine F_ia d_X7_countHits_110 rfl hBY rfl ⟨by omega, by omega⟩ (fun b_18 => ?_)
                      try simp only [Int.toNat_natCast]
                      try simp only [Int.toNat_natCast] at b_18
                      refine T_isub d_X7_countHits_111 ?_
                      refine T_al d_X7_countHits_112 rfl ?_
                      refine F_gr (b := 1) d_X7_countHits_113 rfl hF rfl ?_
                      refine F_gr (b := 2) d_X7_countHits_116 rfl hF rfl ?_
                      refine T_il d_X7_countHits_119 rfl ?_
                      refine T_k d_X7_countHits_120 ?_
                      refine C_pv2 d_X7_countHits_121 rfl (hdF (by decide)) (hcF _) (Gt2_2 hBY hF bCY ho (by omega)) ?_
                      refine T_al d_X7_countHits_124 rfl ?_
                      refine F_gr (b := 37) d_X7_countHits_125 rfl hF rfl ?_
                      refine T_il d_X7_countHits_128 rfl ?_
                      refine F_ia d_X7_countHits_129 rfl hBY rfl ⟨by omega, by omega⟩ (fun b_19 => ?_)
                      try simp only [Int.toNat_natCast]
                      try simp only [Int.toNat_natCast] at b_19
                      refine T_isub d_X7_countHits_130 ?_
                      refine C_v3 d_X7_countHits_131 rfl (hdF (by decide)) (hcF _) (R_X7_countShifts hBY hF bCY ho (by omega) (by omega) (by omega)) (fun r_20 V_21 R_22 qV_21 => ?_)
                      obtain ⟨rfl, hBV_21, cV_21, rfl, pV_21⟩ := qV_21
                      have fV_21 := chg_t (A := [(36, 37), (42, 43)]) (F := []) fY cV_21 rfl
                      have bCV_21 := bC_c bCV fV_21 rfl
                      refine F_incg d_X7_countHits_134 rfl (f := fun x_23 => [(0, vr 34), (1, vi (t:Int)), (2, vi (h : Int)), (3, vi x_23)]) (fun _ => rfl) (fun x_23 ex_23 => ?_)
                      refine T_go d_X7_countHits_137 ?_
                      -- to 60 71f.80f.88f@60
                      obtain rfl : x_23 = ((g + 1) : Int) := by omega
                      exact ih60 V_21 (g + 1) (by omega) hBV_21 fV_21 (by first | assumption | omega) (chI_n hi ⟨hd0, sn_t sY (by omega) h80⟩ (by rw [ex.1]) (by rw [ex.2]) pV_21) (by rw [chg_k (c := 36) cV_21 rfl, chg_k (c := 37) cV_21 rfl]; exact ex)
            exact L60 _ V_11 (0) (Nat.lt_succ_self _) hBV_11 fV_11 (by first | assumption | omega) (chI_0 hc (by rw [pV_11]; rfl) (by rw [pV_11]; rfl)) (by rw [pV_11]; unfold oX oY; rw [if_pos h46, if_pos h46]; exact ⟨(uV_ne (fun z => absurd z.1 (by decide))).trans uV_self, uV_self⟩)
          · skip
            refine T_go d_X7_countHits_49 ?_
            refine F_incg d_X7_countHits_140 rfl (f := fun x_24 => [(0, vr 34), (1, vi (t:Int)), (2, vi x_24)]) (fun _ => rfl) (fun x_24 ex_24 => ?_)
            refine T_go d_X7_countHits_143 ?_
            -- to 18 29f.38f.46f@18
            obtain rfl : x_24 = ((h + 1) : Int) := by omega
            exact ih18 X (h + 1) (by omega) hBX fX (by first | assumption | omega) (chO_s hc (fun z => h46 z.1))
  exact L18 _ V_5 (0) (Nat.lt_succ_self _) hBV_5 fV_5 (by first | assumption | omega) (fun x y hx hy => ⟨z42 _ (by omega), by rw [z43 _ (by omega)]; decide⟩)
set_option maxHeartbeats 1000000 in
set_option maxRecDepth 100000 in
theorem R_X7_takeBestShift {G : GG} {V : VV} {R : RR}  {b : Bk} {t : Nat} {k : Int} (hB : Bd V) (hF : FinR R) (bCV : bC b V) (ho : bO b) (ht : t ≤ 3) (hh : ∀ x y, x < 41 → y < 41 → V 42 (x * 41 + y) = (hitN b k (t : Int) ((x : Int) - 20) ((y : Int) - 20) : Int)) (hb : bstC b k V (t * 1681)) : Runs G M_X7_takeBestShift 2 162 162 [vr 34, vi (t:Int)] V R (PQ [] [(34, 9, 12)] V R (fun r X => r = none ∧ bstC b k X ((t + 1) * 1681))) := by
  refine Runs.of pn_X7 (Nat.le_of_ble_eq_true rfl) rfl ?_
  show TT G M_X7_takeBestShift (rmd 2 162 162) 162 (Zm G 162 162 (PQ [] [(34, 9, 12)] V R (fun r X => r = none ∧ bstC b k X ((t + 1) * 1681)))) 162 0 [(0, vr 34), (1, vi (t:Int))] [] V R
  have fV : chg [] [(34, 9, 12)] V V := chg_r
  have hn4 := ho.n
  refine T_k d_X7_takeBestShift_0 ?_
  refine T_is d_X7_takeBestShift_2 (ls' := [(0, vr 34), (1, vi (t:Int)), (2, vi (-20))]) rfl ?_
  -- to 3 @3
  have L3 : ∀ (fu : Nat) (X : VV) (x : Nat), 41 - x < fu → (Bd X) → (chg [] [(34, 9, 12)] V X) → (x ≤ 41) → (bstC b k X (t * 1681 + x * 41)) → TT G M_X7_takeBestShift (rmd 2 162 162) 162 (Zm G 162 162 (PQ [] [(34, 9, 12)] V R (fun r X => r = none ∧ bstC b k X ((t + 1) * 1681)))) 162 3 [(0, vr 34), (1, vi (t:Int)), (2, vi ((x : Int) - 20))] [] X R := by
    intro fu
    induction fu with
    | zero => intro X x hm; exact absurd hm (Nat.not_lt_zero _)
    | succ fu ih3 =>
      intro X x hm3 hBX fX hx hX
      have bCX := bC_c bCV fX rfl
      refine T_il d_X7_takeBestShift_3 rfl ?_
      refine T_k d_X7_takeBestShift_4 ?_
      refine T_igt d_X7_takeBestShift_6 ⟨by omega, by omega⟩ ⟨by omega, by omega⟩ (fun h6 => ?_) (fun h6 => ?_)
      · skip
        -- leaf 6t@123
        refine T_vret d_X7_takeBestShift_123 rfl ?_
        have e41 : x = 41 := by omega
        subst e41
        exact ⟨rfl, hBX, fX, rfl, by rw [show (t + 1) * 1681 = t * 1681 + 41 * 41 by omega]; exact hX⟩
      · skip
        refine T_k d_X7_takeBestShift_9 ?_
        refine T_is d_X7_takeBestShift_11 (ls' := [(0, vr 34), (1, vi (t:Int)), (2, vi ((x : Int) - 20)), (3, vi (-20))]) rfl ?_
        -- to 12 6f@12
        have L12 : ∀ (fu : Nat) (Y : VV) (y : Nat), 41 - y < fu → (Bd Y) → (chg [] [(34, 9, 12)] V Y) → (y ≤ 41) → (bstC b k Y (t * 1681 + x * 41 + y)) → TT G M_X7_takeBestShift (rmd 2 162 162) 162 (Zm G 162 162 (PQ [] [(34, 9, 12)] V R (fun r X => r = none ∧ bstC b k X ((t + 1) * 1681)))) 162 12 [(0, vr 34), (1, vi (t:Int)), (2, vi ((x : Int) - 20)), (3, vi ((y : Int) - 20))] [] Y R := by
          intro fu
          induction fu with
          | zero => intro Y y hm; exact absurd hm (Nat.not_lt_zero _)
          | succ fu ih12 =>
            intro Y y hm12 hBY fY hy hY
            have bCY := bC_c bCV fY rfl
            refine T_il d_X7_takeBestShift_12 rfl ?_
            refine T_k d_X7_takeBestShift_13 ?_
            refine T_igt d_X7_takeBestShift_15 ⟨by omega, by omega⟩ ⟨by omega, by omega⟩ (fun h15 => ?_) (fun h15 => ?_)
            · skip
              refine F_incg d_X7_takeBestShift_117 rfl (f := fun x_1 => [(0, vr 34), (1, vi (t:Int)), (2, vi x_1), (3, vi ((y : Int) - 20))]) (fun _ => rfl) (fun x_1 ex_1 => ?_)
              refine T_go d_X7_takeBestShift_120 ?_
              -- to 3 15t@3
              refine T_subp (ks := [0, 1, 2]) (ls' := [(0, vr 34), (1, vi (t:Int)), (2, vi x_1)]) rfl ?_
              obtain rfl : x_1 = (((x + 1) : Int) - 20) := by omega
              exact ih3 Y (x + 1) (by omega) hBY fY (by first | assumption | omega) (by have e41 : y = 41 := (by omega); subst e41; rw [show t * 1681 + (x + 1) * 41 = t * 1681 + x * 41 + 41 by omega]; exact hY)
            · skip
              have h42 : Y 42 (x * 41 + y) = (hitN b k (t : Int) ((x : Int) - 20) ((y : Int) - 20) : Int) := by rw [chg_k (c := 42) fY rfl]; exact hh x y (by omega) (by omega)
              have c0 : (((x : Int) - 20 + 20) * 41 + ((y : Int) - 20) + 20).toNat = x * 41 + y := by omega
              have hle := hitN_le (b := b) (k := k) (t := (t : Int)) (dx := (x : Int) - 20) (dy := (y : Int) - 20)
              refine T_al d_X7_takeBestShift_18 rfl ?_
              refine F_gr (b := 42) d_X7_takeBestShift_19 rfl hF rfl ?_
              refine T_il d_X7_takeBestShift_22 rfl ?_
              refine T_k d_X7_takeBestShift_23 ?_
              refine T_iadd d_X7_takeBestShift_25 ?_
              refine T_k d_X7_takeBestShift_26 ?_
              refine T_imul d_X7_takeBestShift_28 ?_
              refine T_il d_X7_takeBestShift_29 rfl ?_
              refine T_iadd d_X7_takeBestShift_30 ?_
              refine T_k d_X7_takeBestShift_31 ?_
              refine T_iadd d_X7_takeBestShift_33 ?_
              refine F_ian d_X7_takeBestShift_34 rfl ⟨by omega, by omega⟩ ?_
              try simp only [Int.toNat_natCast, c0, h42]
              refine F_isg d_X7_takeBestShift_35 (f := fun x_2 => [(0, vr 34), (1, vi (t:Int)), (2, vi ((x : Int) - 20)), (3, vi ((y : Int) - 20)), (4, vi x_2)]) (fun _ => rfl) (fun x_2 ex_2 => ?_)
              refine T_il d_X7_takeBestShift_37 rfl ?_
              refine T_mabs d_X7_takeBestShift_38 ⟨by omega, by omega⟩ (Nat.le_of_ble_eq_true rfl) (hmF _) ?_
              refine T_il d_X7_takeBestShift_41 rfl ?_
              refine T_mabs d_X7_takeBestShift_42 ⟨by omega, by omega⟩ (Nat.le_of_ble_eq_true rfl) (hmF _) ?_
              refine T_iadd d_X7_takeBestShift_45 ?_
              refine F_isg d_X7_takeBestShift_46 (f := fun x_3 => [(0, vr 34), (1, vi (t:Int)), (2, vi ((x : Int) - 20)), (3, vi ((y : Int) - 20)), (4, vi x_2), (5, vi x_3)]) (fun _ => rfl) (fun x_3 ex_3 => ?_)
              refine T_al d_X7_takeBestShift_48 rfl ?_
              refine F_gi d_X7_takeBestShift_49 rfl hBY rfl (fun b_4 => ?_)
              refine T_mabs d_X7_takeBestShift_52 ⟨by omega, by omega⟩ (Nat.le_of_ble_eq_true rfl) (hmF _) ?_
              refine T_al d_X7_takeBestShift_55 rfl ?_
              refine F_gi d_X7_takeBestShift_56 rfl hBY rfl (fun b_5 => ?_)
              refine T_mabs d_X7_takeBestShift_59 ⟨by omega, by omega⟩ (Nat.le_of_ble_eq_true rfl) (hmF _) ?_
              refine T_iadd d_X7_takeBestShift_62 ?_
              refine F_isg d_X7_takeBestShift_63 (f := fun x_6 => [(0, vr 34), (1, vi (t:Int)), (2, vi ((x : Int) - 20)), (3, vi ((y : Int) - 20)), (4, vi x_2), (5, vi x_3), (6, vi x_6)]) (fun _ => rfl) (fun x_6 ex_6 => ?_)
              refine T_il d_X7_takeBestShift_65 rfl ?_
              refine T_al d_X7_takeBestShift_67 rfl ?_
              refine F_gi d_X7_takeBestShift_68 rfl hBY rfl (fun b_7 => ?_)
              refine T_igt d_X7_takeBestShift_71 ⟨by omega, by omega⟩ ⟨by omega, by omega⟩ (fun h71 => ?_) (fun h71 => ?_)
              · skip
                refine T_al d_X7_takeBestShift_90 rfl ?_
                refine T_il d_X7_takeBestShift_91 rfl ?_
                refine F_pi d_X7_takeBestShift_93 rfl hBY rfl ⟨by omega, by omega⟩ (fun V_8 eV_8 hBV_8 => ?_)
                have fV_8 := chg_u eV_8 rfl fY
                have bCV_8 := bC_c bCV fV_8 rfl
                refine T_al d_X7_takeBestShift_96 rfl ?_
                refine T_il d_X7_takeBestShift_97 rfl ?_
                refine F_pi d_X7_takeBestShift_98 rfl hBV_8 rfl ⟨by omega, by omega⟩ (fun V_9 eV_9 hBV_9 => ?_)
                have fV_9 := chg_u eV_9 rfl fV_8
                have bCV_9 := bC_c bCV fV_9 rfl
                refine T_al d_X7_takeBestShift_101 rfl ?_
                refine T_il d_X7_takeBestShift_102 rfl ?_
                refine F_pi d_X7_takeBestShift_103 rfl hBV_9 rfl ⟨by omega, by omega⟩ (fun V_10 eV_10 hBV_10 => ?_)
                have fV_10 := chg_u eV_10 rfl fV_9
                have bCV_10 := bC_c bCV fV_10 rfl
                refine T_al d_X7_takeBestShift_106 rfl ?_
                refine T_il d_X7_takeBestShift_107 rfl ?_
                refine F_pi d_X7_takeBestShift_108 rfl hBV_10 rfl ⟨by omega, by omega⟩ (fun V_11 eV_11 hBV_11 => ?_)
                have fV_11 := chg_u eV_11 rfl fV_10
                have bCV_11 := bC_c bCV fV_11 rfl
                refine F_incg d_X7_takeBestShift_111 rfl (f := fun x_12 => [(0, vr 34), (1, vi (t:Int)), (2, vi ((x : Int) - 20)), (3, vi x_12), (4, vi x_2), (5, vi x_3), (6, vi x_6)]) (fun _ => rfl) (fun x_12 ex_12 => ?_)
                refine T_go d_X7_takeBestShift_114 ?_
                -- to 12 15f.71t@12
                refine T_subp (ks := [0, 1, 2, 3]) (ls' := [(0, vr 34), (1, vi (t:Int)), (2, vi ((x : Int) - 20)), (3, vi x_12)]) rfl ?_
                obtain rfl : x_12 = (((y + 1) : Int) - 20) := by omega
                exact ih12 V_11 (y + 1) (by omega) hBV_11 fV_11 (by first | assumption | omega) (bstC_t rfl (by omega) (by omega) hY ex_2 (Or.inl h71) (by rw [eV_11, eV_10, eV_9]; rfl) (by rw [eV_11, eV_10]; rfl) (by rw [eV_11]; rfl) (by rw [eV_11, eV_10, eV_9, eV_8]; rfl))
              · skip
                refine T_il d_X7_takeBestShift_74 rfl ?_
                refine T_al d_X7_takeBestShift_76 rfl ?_
                refine F_gi d_X7_takeBestShift_77 rfl hBY rfl (fun b_13 => ?_)
                refine T_ine d_X7_takeBestShift_80 ⟨by omega, by omega⟩ ⟨by omega, by omega⟩ (fun h80 => ?_) (fun h80 => ?_)
                · skip
                  refine F_incg d_X7_takeBestShift_111 rfl (f := fun x_14 => [(0, vr 34), (1, vi (t:Int)), (2, vi ((x : Int) - 20)), (3, vi x_14), (4, vi x_2), (5, vi x_3), (6, vi x_6)]) (fun _ => rfl) (fun x_14 ex_14 => ?_)
                  refine T_go d_X7_takeBestShift_114 ?_
                  -- to 12 15f.71f.80t@12
                  refine T_subp (ks := [0, 1, 2, 3]) (ls' := [(0, vr 34), (1, vi (t:Int)), (2, vi ((x : Int) - 20)), (3, vi x_14)]) rfl ?_
                  obtain rfl : x_14 = (((y + 1) : Int) - 20) := by omega
                  exact ih12 Y (y + 1) (by omega) hBY fY (by first | assumption | omega) (bstC_s rfl (by omega) (by omega) hY ex_2 (Or.inl (by omega)))
                · skip
                  refine T_il d_X7_takeBestShift_83 rfl ?_
                  refine T_il d_X7_takeBestShift_85 rfl ?_
                  refine T_ige d_X7_takeBestShift_87 ⟨by omega, by omega⟩ ⟨by omega, by omega⟩ (fun h87 => ?_) (fun h87 => ?_)
                  · skip
                    refine F_incg d_X7_takeBestShift_111 rfl (f := fun x_15 => [(0, vr 34), (1, vi (t:Int)), (2, vi ((x : Int) - 20)), (3, vi x_15), (4, vi x_2), (5, vi x_3), (6, vi x_6)]) (fun _ => rfl) (fun x_15 ex_15 => ?_)
                    refine T_go d_X7_takeBestShift_114 ?_
                    -- to 12 15f.71f.80f.87t@12
                    refine T_subp (ks := [0, 1, 2, 3]) (ls' := [(0, vr 34), (1, vi (t:Int)), (2, vi ((x : Int) - 20)), (3, vi x_15)]) rfl ?_
                    obtain rfl : x_15 = (((y + 1) : Int) - 20) := by omega
                    exact ih12 Y (y + 1) (by omega) hBY fY (by first | assumption | omega) (bstC_s rfl (by omega) (by omega) hY ex_2 (Or.inr ⟨h80, by simp only [abI]; omega⟩))
                  · skip
                    refine T_al d_X7_takeBestShift_90 rfl ?_
                    refine T_il d_X7_takeBestShift_91 rfl ?_
                    refine F_pi d_X7_takeBestShift_93 rfl hBY rfl ⟨by omega, by omega⟩ (fun V_16 eV_16 hBV_16 => ?_)
                    have fV_16 := chg_u eV_16 rfl fY
                    have bCV_16 := bC_c bCV fV_16 rfl
                    refine T_al d_X7_takeBestShift_96 rfl ?_
                    refine T_il d_X7_takeBestShift_97 rfl ?_
                    refine F_pi d_X7_takeBestShift_98 rfl hBV_16 rfl ⟨by omega, by omega⟩ (fun V_17 eV_17 hBV_17 => ?_)
                    have fV_17 := chg_u eV_17 rfl fV_16
                    have bCV_17 := bC_c bCV fV_17 rfl
                    refine T_al d_X7_takeBestShift_101 rfl ?_
                    refine T_il d_X7_takeBestShift_102 rfl ?_
                    refine F_pi d_X7_takeBestShift_103 rfl hBV_17 rfl ⟨by omega, by omega⟩ (fun V_18 eV_18 hBV_18 => ?_)
                    have fV_18 := chg_u eV_18 rfl fV_17
                    have bCV_18 := bC_c bCV fV_18 rfl
                    refine T_al d_X7_takeBestShift_106 rfl ?_
                    refine T_il d_X7_takeBestShift_107 rfl ?_
                    refine F_pi d_X7_takeBestShift_108 rfl hBV_18 rfl ⟨by omega, by omega⟩ (fun V_19 eV_19 hBV_19 => ?_)
                    have fV_19 := chg_u eV_19 rfl fV_18
                    have bCV_19 := bC_c bCV fV_19 rfl
                    refine F_incg d_X7_takeBestShift_111 rfl (f := fun x_20 => [(0, vr 34), (1, vi (t:Int)), (2, vi ((x : Int) - 20)), (3, vi x_20), (4, vi x_2), (5, vi x_3), (6, vi x_6)]) (fun _ => rfl) (fun x_20 ex_20 => ?_)
                    refine T_go d_X7_takeBestShift_114 ?_
                    -- to 12 15f.71f.80f.87f@12
                    refine T_subp (ks := [0, 1, 2, 3]) (ls' := [(0, vr 34), (1, vi (t:Int)), (2, vi ((x : Int) - 20)), (3, vi x_20)]) rfl ?_
                    obtain rfl : x_20 = (((y + 1) : Int) - 20) := by omega
                    exact ih12 V_19 (y + 1) (by omega) hBV_19 fV_19 (by first | assumption | omega) (bstC_t rfl (by omega) (by omega) hY ex_2 (Or.inr ⟨h80, by simp only [abI]; omega⟩) (by rw [eV_19, eV_18, eV_17]; rfl) (by rw [eV_19, eV_18]; rfl) (by rw [eV_19]; rfl) (by rw [eV_19, eV_18, eV_17, eV_16]; rfl))
        exact L12 _ X (0) (Nat.lt_succ_self _) hBX fX (by first | assumption | omega) (by simpa using hX)
  exact L3 _ V (0) (Nat.lt_succ_self _) hB fV (by first | assumption | omega) (by simpa using hb)
set_option maxHeartbeats 1000000 in
set_option maxRecDepth 100000 in
theorem R_X7_joinFrames {G : GG} {V : VV} {R : RR}  {b : Bk} {k : Int} (hB : Bd V) (hF : FinR R) (bCV : bC b V) (ho : bO b) (hs : snC b k V) : Runs G M_X7_joinFrames 5 162 162 [vr 34] V R (PQ [(36, 37), (42, 43)] [(34, 9, 12)] V R (fun r X => r = none ∧ ∃ c, isB (KK b k) 6724 c ∧ frC b k X c)) := by
  refine Runs.of pn_X7 (Nat.le_of_ble_eq_true rfl) rfl ?_
  show TT G M_X7_joinFrames (rmd 5 162 162) 162 (Zm G 162 162 (PQ [(36, 37), (42, 43)] [(34, 9, 12)] V R (fun r X => r = none ∧ ∃ c, isB (KK b k) 6724 c ∧ frC b k X c))) 162 0 [(0, vr 34)] [] V R
  have fV : chg [(36, 37), (42, 43)] [(34, 9, 12)] V V := chg_r
  have hn4 := ho.n
  refine T_al d_X7_joinFrames_0 rfl ?_
  refine T_k d_X7_joinFrames_1 ?_
  refine F_pi d_X7_joinFrames_2 rfl hB rfl ⟨by omega, by omega⟩ (fun V_1 eV_1 hBV_1 => ?_)
  have fV_1 := chg_u eV_1 rfl fV
  have bCV_1 := bC_c bCV fV_1 rfl
  refine T_al d_X7_joinFrames_5 rfl ?_
  refine T_k d_X7_joinFrames_6 ?_
  refine F_pi d_X7_joinFrames_7 rfl hBV_1 rfl ⟨by omega, by omega⟩ (fun V_2 eV_2 hBV_2 => ?_)
  have fV_2 := chg_u eV_2 rfl fV_1
  have bCV_2 := bC_c bCV fV_2 rfl
  refine T_al d_X7_joinFrames_10 rfl ?_
  refine T_k d_X7_joinFrames_11 ?_
  refine F_pi d_X7_joinFrames_12 rfl hBV_2 rfl ⟨by omega, by omega⟩ (fun V_3 eV_3 hBV_3 => ?_)
  have fV_3 := chg_u eV_3 rfl fV_2
  have bCV_3 := bC_c bCV fV_3 rfl
  refine T_al d_X7_joinFrames_15 rfl ?_
  refine T_k d_X7_joinFrames_16 ?_
  refine F_pi d_X7_joinFrames_17 rfl hBV_3 rfl ⟨by omega, by omega⟩ (fun V_4 eV_4 hBV_4 => ?_)
  have fV_4 := chg_u eV_4 rfl fV_3
  have bCV_4 := bC_c bCV fV_4 rfl
  refine T_k d_X7_joinFrames_20 ?_
  refine T_is d_X7_joinFrames_21 (ls' := [(0, vr 34), (1, vi 0)]) rfl ?_
  -- to 22 @22
  have L22 : ∀ (fu : Nat) (X : VV) (t : Nat), 4 - t < fu → (Bd X) → (chg [(36, 37), (42, 43)] [(34, 9, 12)] V X) → (t ≤ 4) → (bstC b k X (t * 1681)) → TT G M_X7_joinFrames (rmd 5 162 162) 162 (Zm G 162 162 (PQ [(36, 37), (42, 43)] [(34, 9, 12)] V R (fun r X => r = none ∧ ∃ c, isB (KK b k) 6724 c ∧ frC b k X c))) 162 22 [(0, vr 34), (1, vi (t : Int))] [] X R := by
    intro fu
    induction fu with
    | zero => intro X t hm; exact absurd hm (Nat.not_lt_zero _)
    | succ fu ih22 =>
      intro X t hm22 hBX fX ht hX
      have bCX := bC_c bCV fX rfl
      have sX : snC b k X := by unfold snC; rw [chg_k (c := 35) fX rfl]; exact hs
      refine T_il d_X7_joinFrames_22 rfl ?_
      refine T_k d_X7_joinFrames_23 ?_
      refine T_ige d_X7_joinFrames_24 ⟨by omega, by omega⟩ ⟨by omega, by omega⟩ (fun h24 => ?_) (fun h24 => ?_)
      · skip
        -- leaf 24t@43
        refine T_vret d_X7_joinFrames_43 rfl ?_
        have e4 : t = 4 := by omega
        subst e4
        exact ⟨rfl, hBX, fX, rfl, bstC_e hX⟩
      · skip
        refine T_al d_X7_joinFrames_27 rfl ?_
        refine T_il d_X7_joinFrames_28 rfl ?_
        refine C_v1 d_X7_joinFrames_29 rfl (hdF (by decide)) (hcF _) (R_X7_countHits (k := k) hBX hF bCX ho (by omega) sX) (fun r_5 V_6 R_7 qV_6 => ?_)
        obtain ⟨rfl, hBV_6, cV_6, rfl, pV_6⟩ := qV_6
        have fV_6 := chg_t (A := [(36, 37), (42, 43)]) (F := [(34, 9, 12)]) fX cV_6 rfl
        have bCV_6 := bC_c bCV fV_6 rfl
        refine T_al d_X7_joinFrames_32 rfl ?_
        refine T_il d_X7_joinFrames_33 rfl ?_
        refine C_v1 d_X7_joinFrames_34 rfl (hdF (by decide)) (hcF _) (R_X7_takeBestShift (k := k) hBV_6 hF bCV_6 ho (by omega) pV_6 (bstC_x hX (chg_k (c := 34) cV_6 rfl))) (fun r_8 V_9 R_10 qV_9 => ?_)
        obtain ⟨rfl, hBV_9, cV_9, rfl, pV_9⟩ := qV_9
        have fV_9 := chg_t (A := [(36, 37), (42, 43)]) (F := [(34, 9, 12)]) fV_6 cV_9 rfl
        have bCV_9 := bC_c bCV fV_9 rfl
        refine F_incg d_X7_joinFrames_37 rfl (f := fun x_11 => [(0, vr 34), (1, vi x_11)]) (fun _ => rfl) (fun x_11 ex_11 => ?_)
        refine T_go d_X7_joinFrames_40 ?_
        -- to 22 24f@22
        obtain rfl : x_11 = ((t + 1) : Int) := by omega
        exact ih22 V_9 (t + 1) (by omega) hBV_9 fV_9 (by first | assumption | omega) pV_9
  exact L22 _ V_4 (0) (Nat.lt_succ_self _) hBV_4 fV_4 (by first | assumption | omega) (Or.inl ⟨by rw [eV_4, eV_3, eV_2, eV_1]; rfl, by rw [eV_4, eV_3, eV_2]; rfl, by rw [eV_4, eV_3]; rfl, by rw [eV_4]; rfl, fun i hi => by omega⟩)
