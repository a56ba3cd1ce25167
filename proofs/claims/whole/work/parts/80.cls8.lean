/-! the class's book -/
theorem Gt2_0 {G : GG} {V : VV} {R : RR} {b : Bk} {h : Nat} (hB : Bd V) (hF : FinR R) (hb : bC b V) (ho : bO b) (hh : h < b.n) : RunsP G M_X5_get 1 [vr 2, vi (h : Int), vi 0] V R (vi (b.dg h)) := by
  have hn := ho.n
  have w := R_X5_get_2 (G := G) (V := V) (R := R) (r := (h : Int)) (c := 0) hB hF ⟨by omega, by omega⟩ ⟨by omega, by omega⟩ (by rw [hb.n]; omega)
  rw [if_pos ⟨by omega, by rw [hb.n]; omega, by omega, by omega⟩, show ((h : Int) * 5 + 0).toNat = h * 5 by omega, (hb.h h hh).1] at w
  exact w
theorem Gt2_1 {G : GG} {V : VV} {R : RR} {b : Bk} {h : Nat} (hB : Bd V) (hF : FinR R) (hb : bC b V) (ho : bO b) (hh : h < b.n) : RunsP G M_X5_get 1 [vr 2, vi (h : Int), vi 1] V R (vi (b.hx h)) := by
  have hn := ho.n
  have w := R_X5_get_2 (G := G) (V := V) (R := R) (r := (h : Int)) (c := 1) hB hF ⟨by omega, by omega⟩ ⟨by omega, by omega⟩ (by rw [hb.n]; omega)
  rw [if_pos ⟨by omega, by rw [hb.n]; omega, by omega, by omega⟩, show ((h : Int) * 5 + 1).toNat = h * 5 + 1 by omega, (hb.h h hh).2.1] at w
  exact w
theorem Gt2_2 {G : GG} {V : VV} {R : RR} {b : Bk} {h : Nat} (hB : Bd V) (hF : FinR R) (hb : bC b V) (ho : bO b) (hh : h < b.n) : RunsP G M_X5_get 1 [vr 2, vi (h : Int), vi 2] V R (vi (b.hy h)) := by
  have hn := ho.n
  have w := R_X5_get_2 (G := G) (V := V) (R := R) (r := (h : Int)) (c := 2) hB hF ⟨by omega, by omega⟩ ⟨by omega, by omega⟩ (by rw [hb.n]; omega)
  rw [if_pos ⟨by omega, by rw [hb.n]; omega, by omega, by omega⟩, show ((h : Int) * 5 + 2).toNat = h * 5 + 2 by omega, (hb.h h hh).2.2.1] at w
  exact w
theorem Gt2_3 {G : GG} {V : VV} {R : RR} {b : Bk} {h : Nat} (hB : Bd V) (hF : FinR R) (hb : bC b V) (ho : bO b) (hh : h < b.n) : RunsP G M_X5_get 1 [vr 2, vi (h : Int), vi 3] V R (vi (b.dp h)) := by
  have hn := ho.n
  have w := R_X5_get_2 (G := G) (V := V) (R := R) (r := (h : Int)) (c := 3) hB hF ⟨by omega, by omega⟩ ⟨by omega, by omega⟩ (by rw [hb.n]; omega)
  rw [if_pos ⟨by omega, by rw [hb.n]; omega, by omega, by omega⟩, show ((h : Int) * 5 + 3).toNat = h * 5 + 3 by omega, (hb.h h hh).2.2.2.1] at w
  exact w
theorem Gt2_4 {G : GG} {V : VV} {R : RR} {b : Bk} {h : Nat} (hB : Bd V) (hF : FinR R) (hb : bC b V) (ho : bO b) (hh : h < b.n) : RunsP G M_X5_get 1 [vr 2, vi (h : Int), vi 4] V R (vi (b.kn h)) := by
  have hn := ho.n
  have w := R_X5_get_2 (G := G) (V := V) (R := R) (r := (h : Int)) (c := 4) hB hF ⟨by omega, by omega⟩ ⟨by omega, by omega⟩ (by rw [hb.n]; omega)
  rw [if_pos ⟨by omega, by rw [hb.n]; omega, by omega, by omega⟩, show ((h : Int) * 5 + 4).toNat = h * 5 + 4 by omega, (hb.h h hh).2.2.2.2.1] at w
  exact w
theorem Gt4_0 {G : GG} {V : VV} {R : RR} {b : Bk} {h : Nat} (hB : Bd V) (hF : FinR R) (hb : bC b V) (ho : bO b) (hh : h < b.rn) : RunsP G M_X5_get 1 [vr 4, vi (h : Int), vi 0] V R (vi (b.rO h)) := by
  have hn := ho.rn
  have w := R_X5_get_4 (G := G) (V := V) (R := R) (r := (h : Int)) (c := 0) hB hF ⟨by omega, by omega⟩ ⟨by omega, by omega⟩ (by rw [hb.rn]; omega)
  rw [if_pos ⟨by omega, by rw [hb.rn]; omega, by omega, by omega⟩, show ((h : Int) * 5 + 0).toNat = h * 5 by omega, (hb.r h hh).1] at w
  exact w
theorem Gt4_1 {G : GG} {V : VV} {R : RR} {b : Bk} {h : Nat} (hB : Bd V) (hF : FinR R) (hb : bC b V) (ho : bO b) (hh : h < b.rn) : RunsP G M_X5_get 1 [vr 4, vi (h : Int), vi 1] V R (vi (b.rD h)) := by
  have hn := ho.rn
  have w := R_X5_get_4 (G := G) (V := V) (R := R) (r := (h : Int)) (c := 1) hB hF ⟨by omega, by omega⟩ ⟨by omega, by omega⟩ (by rw [hb.rn]; omega)
  rw [if_pos ⟨by omega, by rw [hb.rn]; omega, by omega, by omega⟩, show ((h : Int) * 5 + 1).toNat = h * 5 + 1 by omega, (hb.r h hh).2.1] at w
  exact w
theorem Gt4_4 {G : GG} {V : VV} {R : RR} {b : Bk} {h : Nat} (hB : Bd V) (hF : FinR R) (hb : bC b V) (ho : bO b) (hh : h < b.rn) : RunsP G M_X5_get 1 [vr 4, vi (h : Int), vi 4] V R (vi (b.rK h)) := by
  have hn := ho.rn
  have w := R_X5_get_4 (G := G) (V := V) (R := R) (r := (h : Int)) (c := 4) hB hF ⟨by omega, by omega⟩ ⟨by omega, by omega⟩ (by rw [hb.rn]; omega)
  rw [if_pos ⟨by omega, by rw [hb.rn]; omega, by omega, by omega⟩, show ((h : Int) * 5 + 4).toNat = h * 5 + 4 by omega, (hb.r h hh).2.2] at w
  exact w
theorem Gt10_0 {G : GG} {V : VV} {R : RR} {b : Bk} {h : Nat} (hB : Bd V) (hF : FinR R) (hb : bC b V) (ho : bO b) (hh : h < b.cn) : RunsP G M_X5_get 1 [vr 10, vi (h : Int), vi 0] V R (vi (b.cL h)) := by
  have hn := ho.cn
  have w := R_X5_get_10 (G := G) (V := V) (R := R) (r := (h : Int)) (c := 0) hB hF ⟨by omega, by omega⟩ ⟨by omega, by omega⟩ (by rw [hb.cn]; omega)
  rw [if_pos ⟨by omega, by rw [hb.cn]; omega, by omega, by omega⟩, show ((h : Int) * 5 + 0).toNat = h * 5 by omega, (hb.c h hh).1] at w
  exact w
theorem Gt10_1 {G : GG} {V : VV} {R : RR} {b : Bk} {h : Nat} (hB : Bd V) (hF : FinR R) (hb : bC b V) (ho : bO b) (hh : h < b.cn) : RunsP G M_X5_get 1 [vr 10, vi (h : Int), vi 1] V R (vi (b.cE h)) := by
  have hn := ho.cn
  have w := R_X5_get_10 (G := G) (V := V) (R := R) (r := (h : Int)) (c := 1) hB hF ⟨by omega, by omega⟩ ⟨by omega, by omega⟩ (by rw [hb.cn]; omega)
  rw [if_pos ⟨by omega, by rw [hb.cn]; omega, by omega, by omega⟩, show ((h : Int) * 5 + 1).toNat = h * 5 + 1 by omega, (hb.c h hh).2.1] at w
  exact w
theorem Gt10_4 {G : GG} {V : VV} {R : RR} {b : Bk} {h : Nat} (hB : Bd V) (hF : FinR R) (hb : bC b V) (ho : bO b) (hh : h < b.cn) : RunsP G M_X5_get 1 [vr 10, vi (h : Int), vi 4] V R (vi (b.cK h)) := by
  have hn := ho.cn
  have w := R_X5_get_10 (G := G) (V := V) (R := R) (r := (h : Int)) (c := 4) hB hF ⟨by omega, by omega⟩ ⟨by omega, by omega⟩ (by rw [hb.cn]; omega)
  rw [if_pos ⟨by omega, by rw [hb.cn]; omega, by omega, by omega⟩, show ((h : Int) * 5 + 4).toNat = h * 5 + 4 by omega, (hb.c h hh).2.2] at w
  exact w
theorem Gt12_0 {G : GG} {V : VV} {R : RR} {b : Bk} {h : Nat} (hB : Bd V) (hF : FinR R) (hb : bC b V) (ho : bO b) (hh : h < b.dn) : RunsP G M_X5_get 1 [vr 12, vi (h : Int), vi 0] V R (vi (b.dO h)) := by
  have hn := ho.dn
  have w := R_X5_get_12 (G := G) (V := V) (R := R) (r := (h : Int)) (c := 0) hB hF ⟨by omega, by omega⟩ ⟨by omega, by omega⟩ (by rw [hb.dn]; omega)
  rw [if_pos ⟨by omega, by rw [hb.dn]; omega, by omega, by omega⟩, show ((h : Int) * 5 + 0).toNat = h * 5 by omega, (hb.d h hh).1] at w
  exact w
theorem Gt12_1 {G : GG} {V : VV} {R : RR} {b : Bk} {h : Nat} (hB : Bd V) (hF : FinR R) (hb : bC b V) (ho : bO b) (hh : h < b.dn) : RunsP G M_X5_get 1 [vr 12, vi (h : Int), vi 1] V R (vi (b.dF h)) := by
  have hn := ho.dn
  have w := R_X5_get_12 (G := G) (V := V) (R := R) (r := (h : Int)) (c := 1) hB hF ⟨by omega, by omega⟩ ⟨by omega, by omega⟩ (by rw [hb.dn]; omega)
  rw [if_pos ⟨by omega, by rw [hb.dn]; omega, by omega, by omega⟩, show ((h : Int) * 5 + 1).toNat = h * 5 + 1 by omega, (hb.d h hh).2.1] at w
  exact w
theorem Gt12_2 {G : GG} {V : VV} {R : RR} {b : Bk} {h : Nat} (hB : Bd V) (hF : FinR R) (hb : bC b V) (ho : bO b) (hh : h < b.dn) : RunsP G M_X5_get 1 [vr 12, vi (h : Int), vi 2] V R (vi (b.dT h)) := by
  have hn := ho.dn
  have w := R_X5_get_12 (G := G) (V := V) (R := R) (r := (h : Int)) (c := 2) hB hF ⟨by omega, by omega⟩ ⟨by omega, by omega⟩ (by rw [hb.dn]; omega)
  rw [if_pos ⟨by omega, by rw [hb.dn]; omega, by omega, by omega⟩, show ((h : Int) * 5 + 2).toNat = h * 5 + 2 by omega, (hb.d h hh).2.2.1] at w
  exact w
theorem Gt12_4 {G : GG} {V : VV} {R : RR} {b : Bk} {h : Nat} (hB : Bd V) (hF : FinR R) (hb : bC b V) (ho : bO b) (hh : h < b.dn) : RunsP G M_X5_get 1 [vr 12, vi (h : Int), vi 4] V R (vi (b.dK h)) := by
  have hn := ho.dn
  have w := R_X5_get_12 (G := G) (V := V) (R := R) (r := (h : Int)) (c := 4) hB hF ⟨by omega, by omega⟩ ⟨by omega, by omega⟩ (by rw [hb.dn]; omega)
  rw [if_pos ⟨by omega, by rw [hb.dn]; omega, by omega, by omega⟩, show ((h : Int) * 5 + 4).toNat = h * 5 + 4 by omega, (hb.d h hh).2.2.2] at w
  exact w
set_option maxHeartbeats 1000000 in
set_option maxRecDepth 100000 in
theorem R_fill_42 {G : GG} {V : VV} {R : RR} {v : Int}  (hB : Bd V) (hF : FinR R) (hv : -100000 ≤ v ∧ v ≤ 100000) : Runs G M_J7_fill_53178 1 162 162 [vr 42, vi v] V R (PQ [(42, 42)] [] V R (fun r X => r = none ∧ ∀ i, i < 1681 → X 42 i = v)) := by
  refine Runs.of pn_J7 (Nat.le_of_ble_eq_true rfl) rfl ?_
  show TT G M_J7_fill_53178 (rmd 1 162 162) 162 (Zm G 162 162 (PQ [(42, 42)] [] V R (fun r X => r = none ∧ ∀ i, i < 1681 → X 42 i = v))) 162 0 [(0, vr 42), (1, vi v)] [] V R
  have fV : chg [(42, 42)] [] V V := chg_r
  refine T_k d_J7_fill_53178_0 ?_
  refine T_is d_J7_fill_53178_1 (ls' := [(0, vr 42), (1, vi v), (2, vi 0)]) rfl ?_
  refine T_al d_J7_fill_53178_2 rfl ?_
  refine T_alen d_J7_fill_53178_3 rfl rfl (by decide) ?_
  refine T_is d_J7_fill_53178_4 (ls' := [(0, vr 42), (1, vi v), (2, vi 0), (3, vi 1681)]) rfl ?_
  -- to 5 @5
  have L5 : ∀ (fu : Nat) (X : VV) (i : Nat), 1681 - i < fu → (Bd X) → (chg [(42, 42)] [] V X) → (i ≤ 1681) → (∀ j, j < i → X 42 j = v) → TT G M_J7_fill_53178 (rmd 1 162 162) 162 (Zm G 162 162 (PQ [(42, 42)] [] V R (fun r X => r = none ∧ ∀ i, i < 1681 → X 42 i = v))) 162 5 [(0, vr 42), (1, vi v), (2, vi (i : Int)), (3, vi 1681)] [] X R := by
    intro fu
    induction fu with
    | zero => intro X i hm; exact absurd hm (Nat.not_lt_zero _)
    | succ fu ih5 =>
      intro X i hm5 hBX fX hi hX
      refine T_il d_J7_fill_53178_5 rfl ?_
      refine T_il d_J7_fill_53178_6 rfl ?_
      refine T_ige d_J7_fill_53178_7 ⟨by omega, by omega⟩ ⟨by omega, by omega⟩ (fun h7 => ?_) (fun h7 => ?_)
      · skip
        -- leaf 7t@20
        refine T_vret d_J7_fill_53178_20 rfl ?_
        exact ⟨rfl, hBX, fX, rfl, fun j hj => hX j (by omega)⟩
      · skip
        refine T_al d_J7_fill_53178_10 rfl ?_
        refine T_il d_J7_fill_53178_11 rfl ?_
        refine T_il d_J7_fill_53178_12 rfl ?_
        refine F_isn d_J7_fill_53178_13 rfl hBX rfl ⟨by omega, by omega⟩ (fun V_1 eV_1 hBV_1 => ?_)
        have fV_1 := chg_u eV_1 rfl fX
        refine F_incg d_J7_fill_53178_14 rfl (f := fun x_2 => [(0, vr 42), (1, vi v), (2, vi x_2), (3, vi 1681)]) (fun _ => rfl) (fun x_2 ex_2 => ?_)
        refine T_go d_J7_fill_53178_17 ?_
        -- to 5 7f@5
        obtain rfl : x_2 = ((i + 1) : Int) := by omega
        exact ih5 V_1 (i + 1) (by omega) hBV_1 fV_1 (by first | assumption | omega) (row_s (f := fun _ => v) eV_1 rfl hX)
  exact L5 _ V (0) (Nat.lt_succ_self _) hB fV (by first | assumption | omega) (fun j hj => absurd hj (Nat.not_lt_zero _))
set_option maxHeartbeats 1000000 in
set_option maxRecDepth 100000 in
theorem R_fill_43 {G : GG} {V : VV} {R : RR} {v : Int}  (hB : Bd V) (hF : FinR R) (hv : -1 ≤ v ∧ v ≤ 39) : Runs G M_J7_fill_53178 1 162 162 [vr 43, vi v] V R (PQ [(43, 43)] [] V R (fun r X => r = none ∧ ∀ i, i < 1681 → X 43 i = v)) := by
  refine Runs.of pn_J7 (Nat.le_of_ble_eq_true rfl) rfl ?_
  show TT G M_J7_fill_53178 (rmd 1 162 162) 162 (Zm G 162 162 (PQ [(43, 43)] [] V R (fun r X => r = none ∧ ∀ i, i < 1681 → X 43 i = v))) 162 0 [(0, vr 43), (1, vi v)] [] V R
  have fV : chg [(43, 43)] [] V V := chg_r
  refine T_k d_J7_fill_53178_0 ?_
  refine T_is d_J7_fill_53178_1 (ls' := [(0, vr 43), (1, vi v), (2, vi 0)]) rfl ?_
  refine T_al d_J7_fill_53178_2 rfl ?_
  refine T_alen d_J7_fill_53178_3 rfl rfl (by decide) ?_
  refine T_is d_J7_fill_53178_4 (ls' := [(0, vr 43), (1, vi v), (2, vi 0), (3, vi 1681)]) rfl ?_
  -- to 5 @5
  have L5 : ∀ (fu : Nat) (X : VV) (i : Nat), 1681 - i < fu → (Bd X) → (chg [(43, 43)] [] V X) → (i ≤ 1681) → (∀ j, j < i → X 43 j = v) → TT G M_J7_fill_53178 (rmd 1 162 162) 162 (Zm G 162 162 (PQ [(43, 43)] [] V R (fun r X => r = none ∧ ∀ i, i < 1681 → X 43 i = v))) 162 5 [(0, vr 43), (1, vi v), (2, vi (i : Int)), (3, vi 1681)] [] X R := by
    intro fu
    induction fu with
    | zero => intro X i hm; exact absurd hm (Nat.not_lt_zero _)
    | succ fu ih5 =>
      intro X i hm5 hBX fX hi hX
      refine T_il d_J7_fill_53178_5 rfl ?_
      refine T_il d_J7_fill_53178_6 rfl ?_
      refine T_ige d_J7_fill_53178_7 ⟨by omega, by omega⟩ ⟨by omega, by omega⟩ (fun h7 => ?_) (fun h7 => ?_)
      · skip
        -- leaf 7t@20
        refine T_vret d_J7_fill_53178_20 rfl ?_
        exact ⟨rfl, hBX, fX, rfl, fun j hj => hX j (by omega)⟩
      · skip
        refine T_al d_J7_fill_53178_10 rfl ?_
        refine T_il d_J7_fill_53178_11 rfl ?_
        refine T_il d_J7_fill_53178_12 rfl ?_
        refine F_is d_J7_fill_53178_13 rfl hBX rfl ⟨by omega, by omega⟩ ⟨by omega, by omega⟩ (fun V_1 eV_1 hBV_1 => ?_)
        have fV_1 := chg_u eV_1 rfl fX
        refine F_incg d_J7_fill_53178_14 rfl (f := fun x_2 => [(0, vr 43), (1, vi v), (2, vi x_2), (3, vi 1681)]) (fun _ => rfl) (fun x_2 ex_2 => ?_)
        refine T_go d_J7_fill_53178_17 ?_
        -- to 5 7f@5
        obtain rfl : x_2 = ((i + 1) : Int) := by omega
        exact ih5 V_1 (i + 1) (by omega) hBV_1 fV_1 (by first | assumption | omega) (row_s (f := fun _ => v) eV_1 rfl hX)
  exact L5 _ V (0) (Nat.lt_succ_self _) hB fV (by first | assumption | omega) (fun j hj => absurd hj (Nat.not_lt_zero _))
set_option maxHeartbeats 1000000 in
set_option maxRecDepth 100000 in
theorem R_fill_40 {G : GG} {V : VV} {R : RR} {v : Int}  (hB : Bd V) (hF : FinR R) (hv : 0 ≤ v ∧ v ≤ 300) : Runs G M_J7_fill_53178 1 162 162 [vr 40, vi v] V R (PQ [(40, 40)] [] V R (fun r X => r = none ∧ ∀ i, i < 40 → X 40 i = v)) := by
  refine Runs.of pn_J7 (Nat.le_of_ble_eq_true rfl) rfl ?_
  show TT G M_J7_fill_53178 (rmd 1 162 162) 162 (Zm G 162 162 (PQ [(40, 40)] [] V R (fun r X => r = none ∧ ∀ i, i < 40 → X 40 i = v))) 162 0 [(0, vr 40), (1, vi v)] [] V R
  have fV : chg [(40, 40)] [] V V := chg_r
  refine T_k d_J7_fill_53178_0 ?_
  refine T_is d_J7_fill_53178_1 (ls' := [(0, vr 40), (1, vi v), (2, vi 0)]) rfl ?_
  refine T_al d_J7_fill_53178_2 rfl ?_
  refine T_alen d_J7_fill_53178_3 rfl rfl (by decide) ?_
  refine T_is d_J7_fill_53178_4 (ls' := [(0, vr 40), (1, vi v), (2, vi 0), (3, vi 40)]) rfl ?_
  -- to 5 @5
  have L5 : ∀ (fu : Nat) (X : VV) (i : Nat), 40 - i < fu → (Bd X) → (chg [(40, 40)] [] V X) → (i ≤ 40) → (∀ j, j < i → X 40 j = v) → TT G M_J7_fill_53178 (rmd 1 162 162) 162 (Zm G 162 162 (PQ [(40, 40)] [] V R (fun r X => r = none ∧ ∀ i, i < 40 → X 40 i = v))) 162 5 [(0, vr 40), (1, vi v), (2, vi (i : Int)), (3, vi 40)] [] X R := by
    intro fu
    induction fu with
    | zero => intro X i hm; exact absurd hm (Nat.not_lt_zero _)
    | succ fu ih5 =>
      intro X i hm5 hBX fX hi hX
      refine T_il d_J7_fill_53178_5 rfl ?_
      refine T_il d_J7_fill_53178_6 rfl ?_
      refine T_ige d_J7_fill_53178_7 ⟨by omega, by omega⟩ ⟨by omega, by omega⟩ (fun h7 => ?_) (fun h7 => ?_)
      · skip
        -- leaf 7t@20
        refine T_vret d_J7_fill_53178_20 rfl ?_
        exact ⟨rfl, hBX, fX, rfl, fun j hj => hX j (by omega)⟩
      · skip
        refine T_al d_J7_fill_53178_10 rfl ?_
        refine T_il d_J7_fill_53178_11 rfl ?_
        refine T_il d_J7_fill_53178_12 rfl ?_
        refine F_is d_J7_fill_53178_13 rfl hBX rfl ⟨by omega, by omega⟩ ⟨by omega, by omega⟩ (fun V_1 eV_1 hBV_1 => ?_)
        have fV_1 := chg_u eV_1 rfl fX
        refine F_incg d_J7_fill_53178_14 rfl (f := fun x_2 => [(0, vr 40), (1, vi v), (2, vi x_2), (3, vi 40)]) (fun _ => rfl) (fun x_2 ex_2 => ?_)
        refine T_go d_J7_fill_53178_17 ?_
        -- to 5 7f@5
        obtain rfl : x_2 = ((i + 1) : Int) := by omega
        exact ih5 V_1 (i + 1) (by omega) hBV_1 fV_1 (by first | assumption | omega) (row_s (f := fun _ => v) eV_1 rfl hX)
  exact L5 _ V (0) (Nat.lt_succ_self _) hB fV (by first | assumption | omega) (fun j hj => absurd hj (Nat.not_lt_zero _))
set_option maxHeartbeats 1000000 in
set_option maxRecDepth 100000 in
theorem R_fill_58 {G : GG} {V : VV} {R : RR} {v : Int}  (hB : Bd V) (hF : FinR R) (hv : -1 ≤ v ∧ v ≤ 23) : Runs G M_J7_fill_53178 1 162 162 [vr 58, vi v] V R (PQ [(58, 58)] [] V R (fun r X => r = none ∧ ∀ i, i < 40 → X 58 i = v)) := by
  refine Runs.of pn_J7 (Nat.le_of_ble_eq_true rfl) rfl ?_
  show TT G M_J7_fill_53178 (rmd 1 162 162) 162 (Zm G 162 162 (PQ [(58, 58)] [] V R (fun r X => r = none ∧ ∀ i, i < 40 → X 58 i = v))) 162 0 [(0, vr 58), (1, vi v)] [] V R
  have fV : chg [(58, 58)] [] V V := chg_r
  refine T_k d_J7_fill_53178_0 ?_
  refine T_is d_J7_fill_53178_1 (ls' := [(0, vr 58), (1, vi v), (2, vi 0)]) rfl ?_
  refine T_al d_J7_fill_53178_2 rfl ?_
  refine T_alen d_J7_fill_53178_3 rfl rfl (by decide) ?_
  refine T_is d_J7_fill_53178_4 (ls' := [(0, vr 58), (1, vi v), (2, vi 0), (3, vi 40)]) rfl ?_
  -- to 5 @5
  have L5 : ∀ (fu : Nat) (X : VV) (i : Nat), 40 - i < fu → (Bd X) → (chg [(58, 58)] [] V X) → (i ≤ 40) → (∀ j, j < i → X 58 j = v) → TT G M_J7_fill_53178 (rmd 1 162 162) 162 (Zm G 162 162 (PQ [(58, 58)] [] V R (fun r X => r = none ∧ ∀ i, i < 40 → X 58 i = v))) 162 5 [(0, vr 58), (1, vi v), (2, vi (i : Int)), (3, vi 40)] [] X R := by
    intro fu
    induction fu with
    | zero => intro X i hm; exact absurd hm (Nat.not_lt_zero _)
    | succ fu ih5 =>
      intro X i hm5 hBX fX hi hX
      refine T_il d_J7_fill_53178_5 rfl ?_
      refine T_il d_J7_fill_53178_6 rfl ?_
      refine T_ige d_J7_fill_53178_7 ⟨by omega, by omega⟩ ⟨by omega, by omega⟩ (fun h7 => ?_) (fun h7 => ?_)
      · skip
        -- leaf 7t@20
        refine T_vret d_J7_fill_53178_20 rfl ?_
        exact ⟨rfl, hBX, fX, rfl, fun j hj => hX j (by omega)⟩
      · skip
        refine T_al d_J7_fill_53178_10 rfl ?_
        refine T_il d_J7_fill_53178_11 rfl ?_
        refine T_il d_J7_fill_53178_12 rfl ?_
        refine F_is d_J7_fill_53178_13 rfl hBX rfl ⟨by omega, by omega⟩ ⟨by omega, by omega⟩ (fun V_1 eV_1 hBV_1 => ?_)
        have fV_1 := chg_u eV_1 rfl fX
        refine F_incg d_J7_fill_53178_14 rfl (f := fun x_2 => [(0, vr 58), (1, vi v), (2, vi x_2), (3, vi 40)]) (fun _ => rfl) (fun x_2 ex_2 => ?_)
        refine T_go d_J7_fill_53178_17 ?_
        -- to 5 7f@5
        obtain rfl : x_2 = ((i + 1) : Int) := by omega
        exact ih5 V_1 (i + 1) (by omega) hBV_1 fV_1 (by first | assumption | omega) (row_s (f := fun _ => v) eV_1 rfl hX)
  exact L5 _ V (0) (Nat.lt_succ_self _) hB fV (by first | assumption | omega) (fun j hj => absurd hj (Nat.not_lt_zero _))
set_option maxHeartbeats 1000000 in
set_option maxRecDepth 100000 in
theorem R_fill_87 {G : GG} {V : VV} {R : RR} {v : Int}  (hB : Bd V) (hF : FinR R) (hv : -1 ≤ v ∧ v ≤ 12) : Runs G M_J7_fill_53178 1 162 162 [vr 87, vi v] V R (PQ [(87, 87)] [] V R (fun r X => r = none ∧ ∀ i, i < 24 → X 87 i = v)) := by
  refine Runs.of pn_J7 (Nat.le_of_ble_eq_true rfl) rfl ?_
  show TT G M_J7_fill_53178 (rmd 1 162 162) 162 (Zm G 162 162 (PQ [(87, 87)] [] V R (fun r X => r = none ∧ ∀ i, i < 24 → X 87 i = v))) 162 0 [(0, vr 87), (1, vi v)] [] V R
  have fV : chg [(87, 87)] [] V V := chg_r
  refine T_k d_J7_fill_53178_0 ?_
  refine T_is d_J7_fill_53178_1 (ls' := [(0, vr 87), (1, vi v), (2, vi 0)]) rfl ?_
  refine T_al d_J7_fill_53178_2 rfl ?_
  refine T_alen d_J7_fill_53178_3 rfl rfl (by decide) ?_
  refine T_is d_J7_fill_53178_4 (ls' := [(0, vr 87), (1, vi v), (2, vi 0), (3, vi 24)]) rfl ?_
  -- to 5 @5
  have L5 : ∀ (fu : Nat) (X : VV) (i : Nat), 24 - i < fu → (Bd X) → (chg [(87, 87)] [] V X) → (i ≤ 24) → (∀ j, j < i → X 87 j = v) → TT G M_J7_fill_53178 (rmd 1 162 162) 162 (Zm G 162 162 (PQ [(87, 87)] [] V R (fun r X => r = none ∧ ∀ i, i < 24 → X 87 i = v))) 162 5 [(0, vr 87), (1, vi v), (2, vi (i : Int)), (3, vi 24)] [] X R := by
    intro fu
    induction fu with
    | zero => intro X i hm; exact absurd hm (Nat.not_lt_zero _)
    | succ fu ih5 =>
      intro X i hm5 hBX fX hi hX
      refine T_il d_J7_fill_53178_5 rfl ?_
      refine T_il d_J7_fill_53178_6 rfl ?_
      refine T_ige d_J7_fill_53178_7 ⟨by omega, by omega⟩ ⟨by omega, by omega⟩ (fun h7 => ?_) (fun h7 => ?_)
      · skip
        -- leaf 7t@20
        refine T_vret d_J7_fill_53178_20 rfl ?_
        exact ⟨rfl, hBX, fX, rfl, fun j hj => hX j (by omega)⟩
      · skip
        refine T_al d_J7_fill_53178_10 rfl ?_
        refine T_il d_J7_fill_53178_11 rfl ?_
        refine T_il d_J7_fill_53178_12 rfl ?_
        refine F_is d_J7_fill_53178_13 rfl hBX rfl ⟨by omega, by omega⟩ ⟨by omega, by omega⟩ (fun V_1 eV_1 hBV_1 => ?_)
        have fV_1 := chg_u eV_1 rfl fX
        refine F_incg d_J7_fill_53178_14 rfl (f := fun x_2 => [(0, vr 87), (1, vi v), (2, vi x_2), (3, vi 24)]) (fun _ => rfl) (fun x_2 ex_2 => ?_)
        refine T_go d_J7_fill_53178_17 ?_
        -- to 5 7f@5
        obtain rfl : x_2 = ((i + 1) : Int) := by omega
        exact ih5 V_1 (i + 1) (by omega) hBV_1 fV_1 (by first | assumption | omega) (row_s (f := fun _ => v) eV_1 rfl hX)
  exact L5 _ V (0) (Nat.lt_succ_self _) hB fV (by first | assumption | omega) (fun j hj => absurd hj (Nat.not_lt_zero _))
set_option maxHeartbeats 1000000 in
set_option maxRecDepth 100000 in
theorem R_fill_89 {G : GG} {V : VV} {R : RR} {v : Int}  (hB : Bd V) (hF : FinR R) (hv : 0 ≤ v ∧ v ≤ 8191) : Runs G M_J7_fill_53178 1 162 162 [vr 89, vi v] V R (PQ [(89, 89)] [] V R (fun r X => r = none ∧ ∀ i, i < 13 → X 89 i = v)) := by
  refine Runs.of pn_J7 (Nat.le_of_ble_eq_true rfl) rfl ?_
  show TT G M_J7_fill_53178 (rmd 1 162 162) 162 (Zm G 162 162 (PQ [(89, 89)] [] V R (fun r X => r = none ∧ ∀ i, i < 13 → X 89 i = v))) 162 0 [(0, vr 89), (1, vi v)] [] V R
  have fV : chg [(89, 89)] [] V V := chg_r
  refine T_k d_J7_fill_53178_0 ?_
  refine T_is d_J7_fill_53178_1 (ls' := [(0, vr 89), (1, vi v), (2, vi 0)]) rfl ?_
  refine T_al d_J7_fill_53178_2 rfl ?_
  refine T_alen d_J7_fill_53178_3 rfl rfl (by decide) ?_
  refine T_is d_J7_fill_53178_4 (ls' := [(0, vr 89), (1, vi v), (2, vi 0), (3, vi 13)]) rfl ?_
  -- to 5 @5
  have L5 : ∀ (fu : Nat) (X : VV) (i : Nat), 13 - i < fu → (Bd X) → (chg [(89, 89)] [] V X) → (i ≤ 13) → (∀ j, j < i → X 89 j = v) → TT G M_J7_fill_53178 (rmd 1 162 162) 162 (Zm G 162 162 (PQ [(89, 89)] [] V R (fun r X => r = none ∧ ∀ i, i < 13 → X 89 i = v))) 162 5 [(0, vr 89), (1, vi v), (2, vi (i : Int)), (3, vi 13)] [] X R := by
    intro fu
    induction fu with
    | zero => intro X i hm; exact absurd hm (Nat.not_lt_zero _)
    | succ fu ih5 =>
      intro X i hm5 hBX fX hi hX
      refine T_il d_J7_fill_53178_5 rfl ?_
      refine T_il d_J7_fill_53178_6 rfl ?_
      refine T_ige d_J7_fill_53178_7 ⟨by omega, by omega⟩ ⟨by omega, by omega⟩ (fun h7 => ?_) (fun h7 => ?_)
      · skip
        -- leaf 7t@20
        refine T_vret d_J7_fill_53178_20 rfl ?_
        exact ⟨rfl, hBX, fX, rfl, fun j hj => hX j (by omega)⟩
      · skip
        refine T_al d_J7_fill_53178_10 rfl ?_
        refine T_il d_J7_fill_53178_11 rfl ?_
        refine T_il d_J7_fill_53178_12 rfl ?_
        refine F_is d_J7_fill_53178_13 rfl hBX rfl ⟨by omega, by omega⟩ ⟨by omega, by omega⟩ (fun V_1 eV_1 hBV_1 => ?_)
        have fV_1 := chg_u eV_1 rfl fX
        refine F_incg d_J7_fill_53178_14 rfl (f := fun x_2 => [(0, vr 89), (1, vi v), (2, vi x_2), (3, vi 13)]) (fun _ => rfl) (fun x_2 ex_2 => ?_)
        refine T_go d_J7_fill_53178_17 ?_
        -- to 5 7f@5
        obtain rfl : x_2 = ((i + 1) : Int) := by omega
        exact ih5 V_1 (i + 1) (by omega) hBV_1 fV_1 (by first | assumption | omega) (row_s (f := fun _ => v) eV_1 rfl hX)
  exact L5 _ V (0) (Nat.lt_succ_self _) hB fV (by first | assumption | omega) (fun j hj => absurd hj (Nat.not_lt_zero _))
set_option maxHeartbeats 1000000 in
set_option maxRecDepth 100000 in
theorem R_fill_97 {G : GG} {V : VV} {R : RR} {v : Int}  (hB : Bd V) (hF : FinR R) (hv : -100000 ≤ v ∧ v ≤ 100000) : Runs G M_J7_fill_53178 1 162 162 [vr 97, vi v] V R (PQ [(97, 97)] [] V R (fun r X => r = none ∧ ∀ i, i < 13 → X 97 i = v)) := by
  refine Runs.of pn_J7 (Nat.le_of_ble_eq_true rfl) rfl ?_
  show TT G M_J7_fill_53178 (rmd 1 162 162) 162 (Zm G 162 162 (PQ [(97, 97)] [] V R (fun r X => r = none ∧ ∀ i, i < 13 → X 97 i = v))) 162 0 [(0, vr 97), (1, vi v)] [] V R
  have fV : chg [(97, 97)] [] V V := chg_r
  refine T_k d_J7_fill_53178_0 ?_
  refine T_is d_J7_fill_53178_1 (ls' := [(0, vr 97), (1, vi v), (2, vi 0)]) rfl ?_
  refine T_al d_J7_fill_53178_2 rfl ?_
  refine T_alen d_J7_fill_53178_3 rfl rfl (by decide) ?_
  refine T_is d_J7_fill_53178_4 (ls' := [(0, vr 97), (1, vi v), (2, vi 0), (3, vi 13)]) rfl ?_
  -- to 5 @5
  have L5 : ∀ (fu : Nat) (X : VV) (i : Nat), 13 - i < fu → (Bd X) → (chg [(97, 97)] [] V X) → (i ≤ 13) → (∀ j, j < i → X 97 j = v) → TT G M_J7_fill_53178 (rmd 1 162 162) 162 (Zm G 162 162 (PQ [(97, 97)] [] V R (fun r X => r = none ∧ ∀ i, i < 13 → X 97 i = v))) 162 5 [(0, vr 97), (1, vi v), (2, vi (i : Int)), (3, vi 13)] [] X R := by
    intro fu
    induction fu with
    | zero => intro X i hm; exact absurd hm (Nat.not_lt_zero _)
    | succ fu ih5 =>
      intro X i hm5 hBX fX hi hX
      refine T_il d_J7_fill_53178_5 rfl ?_
      refine T_il d_J7_fill_53178_6 rfl ?_
      refine T_ige d_J7_fill_53178_7 ⟨by omega, by omega⟩ ⟨by omega, by omega⟩ (fun h7 => ?_) (fun h7 => ?_)
      · skip
        -- leaf 7t@20
        refine T_vret d_J7_fill_53178_20 rfl ?_
        exact ⟨rfl, hBX, fX, rfl, fun j hj => hX j (by omega)⟩
      · skip
        refine T_al d_J7_fill_53178_10 rfl ?_
        refine T_il d_J7_fill_53178_11 rfl ?_
        refine T_il d_J7_fill_53178_12 rfl ?_
        refine F_isn d_J7_fill_53178_13 rfl hBX rfl ⟨by omega, by omega⟩ (fun V_1 eV_1 hBV_1 => ?_)
        have fV_1 := chg_u eV_1 rfl fX
        refine F_incg d_J7_fill_53178_14 rfl (f := fun x_2 => [(0, vr 97), (1, vi v), (2, vi x_2), (3, vi 13)]) (fun _ => rfl) (fun x_2 ex_2 => ?_)
        refine T_go d_J7_fill_53178_17 ?_
        -- to 5 7f@5
        obtain rfl : x_2 = ((i + 1) : Int) := by omega
        exact ih5 V_1 (i + 1) (by omega) hBV_1 fV_1 (by first | assumption | omega) (row_s (f := fun _ => v) eV_1 rfl hX)
  exact L5 _ V (0) (Nat.lt_succ_self _) hB fV (by first | assumption | omega) (fun j hj => absurd hj (Nat.not_lt_zero _))
set_option maxHeartbeats 1000000 in
set_option maxRecDepth 100000 in
theorem R_fill_98 {G : GG} {V : VV} {R : RR} {v : Int}  (hB : Bd V) (hF : FinR R) (hv : -100000 ≤ v ∧ v ≤ 100000) : Runs G M_J7_fill_53178 1 162 162 [vr 98, vi v] V R (PQ [(98, 98)] [] V R (fun r X => r = none ∧ ∀ i, i < 13 → X 98 i = v)) := by
  refine Runs.of pn_J7 (Nat.le_of_ble_eq_true rfl) rfl ?_
  show TT G M_J7_fill_53178 (rmd 1 162 162) 162 (Zm G 162 162 (PQ [(98, 98)] [] V R (fun r X => r = none ∧ ∀ i, i < 13 → X 98 i = v))) 162 0 [(0, vr 98), (1, vi v)] [] V R
  have fV : chg [(98, 98)] [] V V := chg_r
  refine T_k d_J7_fill_53178_0 ?_
  refine T_is d_J7_fill_53178_1 (ls' := [(0, vr 98), (1, vi v), (2, vi 0)]) rfl ?_
  refine T_al d_J7_fill_53178_2 rfl ?_
  refine T_alen d_J7_fill_53178_3 rfl rfl (by decide) ?_
  refine T_is d_J7_fill_53178_4 (ls' := [(0, vr 98), (1, vi v), (2, vi 0), (3, vi 13)]) rfl ?_
  -- to 5 @5
  have L5 : ∀ (fu : Nat) (X : VV) (i : Nat), 13 - i < fu → (Bd X) → (chg [(98, 98)] [] V X) → (i ≤ 13) → (∀ j, j < i → X 98 j = v) → TT G M_J7_fill_53178 (rmd 1 162 162) 162 (Zm G 162 162 (PQ [(98, 98)] [] V R (fun r X => r = none ∧ ∀ i, i < 13 → X 98 i = v))) 162 5 [(0, vr 98), (1, vi v), (2, vi (i : Int)), (3, vi 13)] [] X R := by
    intro fu
    induction fu with
    | zero => intro X i hm; exact absurd hm (Nat.not_lt_zero _)
    | succ fu ih5 =>
      intro X i hm5 hBX fX hi hX
      refine T_il d_J7_fill_53178_5 rfl ?_
      refine T_il d_J7_fill_53178_6 rfl ?_
      refine T_ige d_J7_fill_53178_7 ⟨by omega, by omega⟩ ⟨by omega, by omega⟩ (fun h7 => ?_) (fun h7 => ?_)
      · skip
        -- leaf 7t@20
        refine T_vret d_J7_fill_53178_20 rfl ?_
        exact ⟨rfl, hBX, fX, rfl, fun j hj => hX j (by omega)⟩
      · skip
        refine T_al d_J7_fill_53178_10 rfl ?_
        refine T_il d_J7_fill_53178_11 rfl ?_
        refine T_il d_J7_fill_53178_12 rfl ?_
        refine F_isn d_J7_fill_53178_13 rfl hBX rfl ⟨by omega, by omega⟩ (fun V_1 eV_1 hBV_1 => ?_)
        have fV_1 := chg_u eV_1 rfl fX
        refine F_incg d_J7_fill_53178_14 rfl (f := fun x_2 => [(0, vr 98), (1, vi v), (2, vi x_2), (3, vi 13)]) (fun _ => rfl) (fun x_2 ex_2 => ?_)
        refine T_go d_J7_fill_53178_17 ?_
        -- to 5 7f@5
        obtain rfl : x_2 = ((i + 1) : Int) := by omega
        exact ih5 V_1 (i + 1) (by omega) hBV_1 fV_1 (by first | assumption | omega) (row_s (f := fun _ => v) eV_1 rfl hX)
  exact L5 _ V (0) (Nat.lt_succ_self _) hB fV (by first | assumption | omega) (fun j hj => absurd hj (Nat.not_lt_zero _))
set_option maxHeartbeats 1000000 in
set_option maxRecDepth 100000 in
theorem R_fill_33 {G : GG} {V : VV} {R : RR} {v : Int}  (hB : Bd V) (hF : FinR R) (hv : -1 ≤ v ∧ v ≤ 40) : Runs G M_J7_fill_53178 1 162 162 [vr 33, vi v] V R (PQ [(33, 33)] [] V R (fun r X => r = none ∧ ∀ i, i < 40 → X 33 i = v)) := by
  refine Runs.of pn_J7 (Nat.le_of_ble_eq_true rfl) rfl ?_
  show TT G M_J7_fill_53178 (rmd 1 162 162) 162 (Zm G 162 162 (PQ [(33, 33)] [] V R (fun r X => r = none ∧ ∀ i, i < 40 → X 33 i = v))) 162 0 [(0, vr 33), (1, vi v)] [] V R
  have fV : chg [(33, 33)] [] V V := chg_r
  refine T_k d_J7_fill_53178_0 ?_
  refine T_is d_J7_fill_53178_1 (ls' := [(0, vr 33), (1, vi v), (2, vi 0)]) rfl ?_
  refine T_al d_J7_fill_53178_2 rfl ?_
  refine T_alen d_J7_fill_53178_3 rfl rfl (by decide) ?_
  refine T_is d_J7_fill_53178_4 (ls' := [(0, vr 33), (1, vi v), (2, vi 0), (3, vi 40)]) rfl ?_
  -- to 5 @5
  have L5 : ∀ (fu : Nat) (X : VV) (i : Nat), 40 - i < fu → (Bd X) → (chg [(33, 33)] [] V X) → (i ≤ 40) → (∀ j, j < i → X 33 j = v) → TT G M_J7_fill_53178 (rmd 1 162 162) 162 (Zm G 162 162 (PQ [(33, 33)] [] V R (fun r X => r = none ∧ ∀ i, i < 40 → X 33 i = v))) 162 5 [(0, vr 33), (1, vi v), (2, vi (i : Int)), (3, vi 40)] [] X R := by
    intro fu
    induction fu with
    | zero => intro X i hm; exact absurd hm (Nat.not_lt_zero _)
    | succ fu ih5 =>
      intro X i hm5 hBX fX hi hX
      refine T_il d_J7_fill_53178_5 rfl ?_
      refine T_il d_J7_fill_53178_6 rfl ?_
      refine T_ige d_J7_fill_53178_7 ⟨by omega, by omega⟩ ⟨by omega, by omega⟩ (fun h7 => ?_) (fun h7 => ?_)
      · skip
        -- leaf 7t@20
        refine T_vret d_J7_fill_53178_20 rfl ?_
        exact ⟨rfl, hBX, fX, rfl, fun j hj => hX j (by omega)⟩
      · skip
        refine T_al d_J7_fill_53178_10 rfl ?_
        refine T_il d_J7_fill_53178_11 rfl ?_
        refine T_il d_J7_fill_53178_12 rfl ?_
        refine F_is d_J7_fill_53178_13 rfl hBX rfl ⟨by omega, by omega⟩ ⟨by omega, by omega⟩ (fun V_1 eV_1 hBV_1 => ?_)
        have fV_1 := chg_u eV_1 rfl fX
        refine F_incg d_J7_fill_53178_14 rfl (f := fun x_2 => [(0, vr 33), (1, vi v), (2, vi x_2), (3, vi 40)]) (fun _ => rfl) (fun x_2 ex_2 => ?_)
        refine T_go d_J7_fill_53178_17 ?_
        -- to 5 7f@5
        obtain rfl : x_2 = ((i + 1) : Int) := by omega
        exact ih5 V_1 (i + 1) (by omega) hBV_1 fV_1 (by first | assumption | omega) (row_s (f := fun _ => v) eV_1 rfl hX)
  exact L5 _ V (0) (Nat.lt_succ_self _) hB fV (by first | assumption | omega) (fun j hj => absurd hj (Nat.not_lt_zero _))
set_option maxHeartbeats 1000000 in
set_option maxRecDepth 100000 in
theorem R_X0_isSeen {G : GG} {V : VV} {R : RR} {k : Int} {b : Bk} {h : Nat} (hB : Bd V) (hF : FinR R) (bCV : bC b V) (ho : bO b) (hh : h < b.n) (hk : 0 ≤ k ∧ k ≤ 400) : RunsP G M_X0_isSeen 3 [vr 1, vi (h:Int), vi k] V R (vi (bi (decide (thr b k h)))) := by
  unfold RunsP
  refine Runs.of pn_X0 (Nat.le_of_ble_eq_true rfl) rfl ?_
  show TT G M_X0_isSeen (rmd 3 162 162) 162 (Zm G 162 162 (QP V R (vi (bi (decide (thr b k h)))))) 162 0 [(0, vr 1), (1, vi (h:Int)), (2, vi k)] [] V R
  have hn4 := ho.n
  have hk4 := ho.kn h
  have hs4 := ho.st h
  refine T_al d_X0_isSeen_0 rfl ?_
  refine T_il d_X0_isSeen_1 rfl ?_
  refine C_pv1 d_X0_isSeen_2 rfl (hdF (by decide)) (hcF _) (R_X0_hasHole (by first | assumption | omega | exact ⟨by omega, by omega⟩ | (subst_vars; simp_all [uV]; done) | grind [uV]) (by first | assumption | omega | exact ⟨by omega, by omega⟩ | (subst_vars; simp_all [uV]; done) | grind [uV]) (by first | assumption | omega | exact ⟨by omega, by omega⟩ | (subst_vars; simp_all [uV]; done) | grind [uV])) ?_
  refine T_pz0 d_X0_isSeen_5 (fun h5 => ?_) (fun h5 => ?_)
  · skip
    refine T_k d_X0_isSeen_35 ?_
    -- leaf 5t@36
    exact P_F d_X0_isSeen_36 (by exact absurd (show hasC V (h : Int) from ⟨by omega, by rw [bCV.n]; omega⟩) h5)
  · skip
    refine T_al d_X0_isSeen_8 rfl ?_
    refine F_gr (b := 2) d_X0_isSeen_9 rfl hF rfl ?_
    refine T_il d_X0_isSeen_12 rfl ?_
    refine T_k d_X0_isSeen_13 ?_
    refine C_pv2 d_X0_isSeen_14 rfl (hdF (by decide)) (hcF _) (Gt2_4 hB hF bCV ho hh) ?_
    refine T_il d_X0_isSeen_17 rfl ?_
    refine T_igt d_X0_isSeen_18 ⟨by omega, by omega⟩ ⟨by omega, by omega⟩ (fun h18 => ?_) (fun h18 => ?_)
    · skip
      refine T_k d_X0_isSeen_35 ?_
      -- leaf 5f.18t@36
      exact P_F d_X0_isSeen_36 (by intro z; have := z.1; omega)
    · skip
      refine T_al d_X0_isSeen_21 rfl ?_
      refine F_gr (b := 14) d_X0_isSeen_22 rfl hF rfl ?_
      refine T_il d_X0_isSeen_25 rfl ?_
      refine F_ia d_X0_isSeen_26 rfl hB rfl ⟨by omega, by omega⟩ (fun b_1 => ?_)
      try simp only [Int.toNat_natCast, (bCV.h h hh).2.2.2.2.2]
      try simp only [Int.toNat_natCast, (bCV.h h hh).2.2.2.2.2] at b_1
      refine T_il d_X0_isSeen_27 rfl ?_
      refine T_ile d_X0_isSeen_28 ⟨by omega, by omega⟩ ⟨by omega, by omega⟩ (fun h28 => ?_) (fun h28 => ?_)
      · skip
        refine T_k d_X0_isSeen_35 ?_
        -- leaf 5f.18f.28t@36
        exact P_F d_X0_isSeen_36 (by intro z; have := z.2; omega)
      · skip
        refine T_k d_X0_isSeen_31 ?_
        refine T_go d_X0_isSeen_32 ?_
        -- leaf 5f.18f.28f@36
        exact P_T d_X0_isSeen_36 (by exact ⟨by omega, by omega⟩)
set_option maxHeartbeats 1000000 in
set_option maxRecDepth 100000 in
theorem R_X0_isDug {G : GG} {V : VV} {R : RR} {x : Int} {y : Int} {k : Int} {b : Bk} (hB : Bd V) (hF : FinR R) (bCV : bC b V) (ho : bO b) (hx : r32 x) (hy : r32 y) (hk : r32 k) : RunsP G M_X0_isDug 1 [vr 1, vi x, vi y, vi k] V R (vi (bi (decide (dugO b k x y = true)))) := by
  unfold RunsP
  refine Runs.of pn_X0 (Nat.le_of_ble_eq_true rfl) rfl ?_
  show TT G M_X0_isDug (rmd 1 162 162) 162 (Zm G 162 162 (QP V R (vi (bi (decide (dugO b k x y = true)))))) 162 0 [(0, vr 1), (1, vi x), (2, vi y), (3, vi k)] [] V R
  obtain ⟨hx1, hx2⟩ := hx
  obtain ⟨hy1, hy2⟩ := hy
  obtain ⟨hk1, hk2⟩ := hk
  have hn4 := ho.tn
  refine T_al d_X0_isDug_0 rfl ?_
  refine F_gr (b := 6) d_X0_isDug_1 rfl hF rfl ?_
  refine F_gr (b := 7) d_X0_isDug_4 rfl hF rfl ?_
  refine T_as d_X0_isDug_7 (ls' := [(0, vr 1), (1, vi x), (2, vi y), (3, vi k), (4, vr 7)]) rfl ?_
  refine T_k d_X0_isDug_9 ?_
  refine T_is d_X0_isDug_10 (ls' := [(0, vr 1), (1, vi x), (2, vi y), (3, vi k), (4, vr 7), (5, vi 0)]) rfl ?_
  -- to 12 @12
  have L12 : ∀ (fu : Nat) (i : Nat), b.tn - i < fu → (i ≤ b.tn) → (∀ j, j < i → dug b k x y j = false) → TT G M_X0_isDug (rmd 1 162 162) 162 (Zm G 162 162 (QP V R (vi (bi (decide (dugO b k x y = true)))))) 162 12 [(0, vr 1), (1, vi x), (2, vi y), (3, vi k), (4, vr 7), (5, vi ((i * 5 : Nat) : Int))] [] V R := by
    intro fu
    induction fu with
    | zero => intro i hm; exact absurd hm (Nat.not_lt_zero _)
    | succ fu ih12 =>
      intro i hm12 hi hno
      refine T_il d_X0_isDug_12 rfl ?_
      refine T_al d_X0_isDug_14 rfl ?_
      refine F_gr (b := 6) d_X0_isDug_15 rfl hF rfl ?_
      refine F_gi d_X0_isDug_18 rfl hB rfl (fun b_1 => ?_)
      rw [bCV.tn]
      rw [bCV.tn] at b_1
      refine T_k d_X0_isDug_21 ?_
      refine T_imul d_X0_isDug_22 ?_
      refine T_ige d_X0_isDug_23 ⟨by omega, by omega⟩ ⟨by omega, by omega⟩ (fun h23 => ?_) (fun h23 => ?_)
      · skip
        refine T_k d_X0_isDug_87 ?_
        -- leaf 23t@88
        exact P_F d_X0_isDug_88 (by rw [show dugO b k x y = false from anyB_f.mpr (fun j hj => hno j (by omega))]; decide)
      · skip
        have tI := bCV.t i (by omega)
        have t0 : ((i * 5 : Nat) : Int).toNat = i * 5 := by omega
        have t1 : (((i * 5 : Nat) : Int) + 1).toNat = i * 5 + 1 := by omega
        have t2 : (((i * 5 : Nat) : Int) + 2).toNat = i * 5 + 2 := by omega
        have t3 : (((i * 5 : Nat) : Int) + 3).toNat = i * 5 + 3 := by omega
        have t4 : (((i * 5 : Nat) : Int) + 4).toNat = i * 5 + 4 := by omega
        refine T_il d_X0_isDug_26 rfl ?_
        refine T_al d_X0_isDug_27 rfl ?_
        refine T_il d_X0_isDug_29 rfl ?_
        refine F_ia d_X0_isDug_31 rfl hB rfl ⟨by omega, by omega⟩ (fun b_2 => ?_)
        try simp only [Int.toNat_natCast, t0, t1, t2, t3, t4, tI.1, tI.2.1, tI.2.2.1, tI.2.2.2.1, tI.2.2.2.2]
        try simp only [Int.toNat_natCast, t0, t1, t2, t3, t4, tI.1, tI.2.1, tI.2.2.1, tI.2.2.2.1, tI.2.2.2.2] at b_2
        refine T_ilt d_X0_isDug_32 ⟨by omega, by omega⟩ ⟨by omega, by omega⟩ (fun h32 => ?_) (fun h32 => ?_)
        · skip
          refine F_incg d_X0_isDug_81 rfl (f := fun x_3 => [(0, vr 1), (1, vi x), (2, vi y), (3, vi k), (4, vr 7), (5, vi x_3)]) (fun _ => rfl) (fun x_3 ex_3 => ?_)
          refine T_go d_X0_isDug_84 ?_
          -- to 12 23f.32t@12
          obtain rfl : x_3 = (((i + 1) * 5 : Nat) : Int) := by omega
          exact ih12 (i + 1) (by omega) (by first | assumption | omega) (up_all hno (decide_eq_false (fun z => by have := z; unfold inP at this; omega)))
        · skip
          refine T_il d_X0_isDug_35 rfl ?_
          refine T_al d_X0_isDug_36 rfl ?_
          refine T_il d_X0_isDug_38 rfl ?_
          refine T_k d_X0_isDug_40 ?_
          refine T_iadd d_X0_isDug_41 ?_
          refine F_ia d_X0_isDug_42 rfl hB rfl ⟨by omega, by omega⟩ (fun b_4 => ?_)
          try simp only [Int.toNat_natCast, t0, t1, t2, t3, t4, tI.1, tI.2.1, tI.2.2.1, tI.2.2.2.1, tI.2.2.2.2]
          try simp only [Int.toNat_natCast, t0, t1, t2, t3, t4, tI.1, tI.2.1, tI.2.2.1, tI.2.2.2.1, tI.2.2.2.2] at b_4
          refine T_ilt d_X0_isDug_43 ⟨by omega, by omega⟩ ⟨by omega, by omega⟩ (fun h43 => ?_) (fun h43 => ?_)
          · skip
            refine F_incg d_X0_isDug_81 rfl (f := fun x_5 => [(0, vr 1), (1, vi x), (2, vi y), (3, vi k), (4, vr 7), (5, vi x_5)]) (fun _ => rfl) (fun x_5 ex_5 => ?_)
            refine T_go d_X0_isDug_84 ?_
            -- to 12 23f.32f.43t@12
            obtain rfl : x_5 = (((i + 1) * 5 : Nat) : Int) := by omega
            exact ih12 (i + 1) (by omega) (by first | assumption | omega) (up_all hno (decide_eq_false (fun z => by have := z; unfold inP at this; omega)))
          · skip
            refine T_il d_X0_isDug_46 rfl ?_
            refine T_al d_X0_isDug_47 rfl ?_
            refine T_il d_X0_isDug_49 rfl ?_
            refine T_k d_X0_isDug_51 ?_
            refine T_iadd d_X0_isDug_52 ?_
            refine F_ia d_X0_isDug_53 rfl hB rfl ⟨by omega, by omega⟩ (fun b_6 => ?_)
            try simp only [Int.toNat_natCast, t0, t1, t2, t3, t4, tI.1, tI.2.1, tI.2.2.1, tI.2.2.2.1, tI.2.2.2.2]
            try simp only [Int.toNat_natCast, t0, t1, t2, t3, t4, tI.1, tI.2.1, tI.2.2.1, tI.2.2.2.1, tI.2.2.2.2] at b_6
            refine T_igt d_X0_isDug_54 ⟨by omega, by omega⟩ ⟨by omega, by omega⟩ (fun h54 => ?_) (fun h54 => ?_)
            · skip
              refine F_incg d_X0_isDug_81 rfl (f := fun x_7 => [(0, vr 1), (1, vi x), (2, vi y), (3, vi k), (4, vr 7), (5, vi x_7)]) (fun _ => rfl) (fun x_7 ex_7 => ?_)
              refine T_go d_X0_isDug_84 ?_
              -- to 12 23f.32f.43f.54t@12
              obtain rfl : x_7 = (((i + 1) * 5 : Nat) : Int) := by omega
              exact ih12 (i + 1) (by omega) (by first | assumption | omega) (up_all hno (decide_eq_false (fun z => by have := z; unfold inP at this; omega)))
            · skip
              refine T_il d_X0_isDug_57 rfl ?_
              refine T_al d_X0_isDug_58 rfl ?_
              refine T_il d_X0_isDug_60 rfl ?_
              refine T_k d_X0_isDug_62 ?_
              refine T_iadd d_X0_isDug_63 ?_
              refine F_ia d_X0_isDug_64 rfl hB rfl ⟨by omega, by omega⟩ (fun b_8 => ?_)
              try simp only [Int.toNat_natCast, t0, t1, t2, t3, t4, tI.1, tI.2.1, tI.2.2.1, tI.2.2.2.1, tI.2.2.2.2]
              try simp only [Int.toNat_natCast, t0, t1, t2, t3, t4, tI.1, tI.2.1, tI.2.2.1, tI.2.2.2.1, tI.2.2.2.2] at b_8
              refine T_igt d_X0_isDug_65 ⟨by omega, by omega⟩ ⟨by omega, by omega⟩ (fun h65 => ?_) (fun h65 => ?_)
              · skip
                refine F_incg d_X0_isDug_81 rfl (f := fun x_9 => [(0, vr 1), (1, vi x), (2, vi y), (3, vi k), (4, vr 7), (5, vi x_9)]) (fun _ => rfl) (fun x_9 ex_9 => ?_)
                refine T_go d_X0_isDug_84 ?_
                -- to 12 23f.32f.43f.54f.65t@12
                obtain rfl : x_9 = (((i + 1) * 5 : Nat) : Int) := by omega
                exact ih12 (i + 1) (by omega) (by first | assumption | omega) (up_all hno (decide_eq_false (fun z => by have := z; unfold inP at this; omega)))
              · skip
                refine T_al d_X0_isDug_68 rfl ?_
                refine T_il d_X0_isDug_70 rfl ?_
                refine T_k d_X0_isDug_72 ?_
                refine T_iadd d_X0_isDug_73 ?_
                refine F_ia d_X0_isDug_74 rfl hB rfl ⟨by omega, by omega⟩ (fun b_10 => ?_)
                try simp only [Int.toNat_natCast, t0, t1, t2, t3, t4, tI.1, tI.2.1, tI.2.2.1, tI.2.2.2.1, tI.2.2.2.2]
                try simp only [Int.toNat_natCast, t0, t1, t2, t3, t4, tI.1, tI.2.1, tI.2.2.1, tI.2.2.2.1, tI.2.2.2.2] at b_10
                refine T_il d_X0_isDug_75 rfl ?_
                refine T_igt d_X0_isDug_76 ⟨by omega, by omega⟩ ⟨by omega, by omega⟩ (fun h76 => ?_) (fun h76 => ?_)
                · skip
                  refine F_incg d_X0_isDug_81 rfl (f := fun x_11 => [(0, vr 1), (1, vi x), (2, vi y), (3, vi k), (4, vr 7), (5, vi x_11)]) (fun _ => rfl) (fun x_11 ex_11 => ?_)
                  refine T_go d_X0_isDug_84 ?_
                  -- to 12 23f.32f.43f.54f.65f.76t@12
                  obtain rfl : x_11 = (((i + 1) * 5 : Nat) : Int) := by omega
                  exact ih12 (i + 1) (by omega) (by first | assumption | omega) (up_all hno (decide_eq_false (fun z => by have := z; unfold inP at this; omega)))
                · skip
                  refine T_k d_X0_isDug_79 ?_
                  -- leaf 23f.32f.43f.54f.65f.76f@80
                  exact P_T d_X0_isDug_80 (by exact anyB_iff.mpr ⟨i, by omega, decide_eq_true ⟨by omega, by unfold inP; omega⟩⟩)
  exact L12 _ (0) (Nat.lt_succ_self _) (by first | assumption | omega) (fun j hj => absurd hj (Nat.not_lt_zero _))
set_option maxHeartbeats 1000000 in
set_option maxRecDepth 100000 in
theorem R_X0_ploughedAt {G : GG} {V : VV} {R : RR} {x : Int} {y : Int} {b : Bk} (hB : Bd V) (hF : FinR R) (bCV : bC b V) (ho : bO b) (hx : r32 x) (hy : r32 y) : RunsP G M_X0_ploughedAt 2 [vr 1, vi x, vi y] V R (vi (plgO b x y)) := by
  unfold RunsP
  refine Runs.of pn_X0 (Nat.le_of_ble_eq_true rfl) rfl ?_
  show TT G M_X0_ploughedAt (rmd 2 162 162) 162 (Zm G 162 162 (QP V R (vi (plgO b x y)))) 162 0 [(0, vr 1), (1, vi x), (2, vi y)] [] V R
  obtain ⟨hx1, hx2⟩ := hx
  obtain ⟨hy1, hy2⟩ := hy
  have hn4 := ho.pn
  refine T_al d_X0_ploughedAt_0 rfl ?_
  refine F_gr (b := 8) d_X0_ploughedAt_1 rfl hF rfl ?_
  refine F_gr (b := 9) d_X0_ploughedAt_4 rfl hF rfl ?_
  refine T_as d_X0_ploughedAt_7 (ls' := [(0, vr 1), (1, vi x), (2, vi y), (3, vr 9)]) rfl ?_
  refine T_k d_X0_ploughedAt_8 ?_
  refine T_is d_X0_ploughedAt_9 (ls' := [(0, vr 1), (1, vi x), (2, vi y), (3, vr 9), (4, vi 0)]) rfl ?_
  refine T_k d_X0_ploughedAt_11 ?_
  refine T_is d_X0_ploughedAt_12 (ls' := [(0, vr 1), (1, vi x), (2, vi y), (3, vr 9), (4, vi 0), (5, vi 0)]) rfl ?_
  -- to 14 @14
  have L14 : ∀ (fu : Nat) (v : Int) (i : Nat), b.pn - i < fu → (i ≤ b.pn) → (v = plg b x y i) → TT G M_X0_ploughedAt (rmd 2 162 162) 162 (Zm G 162 162 (QP V R (vi (plgO b x y)))) 162 14 [(0, vr 1), (1, vi x), (2, vi y), (3, vr 9), (4, vi v), (5, vi ((i * 5 : Nat) : Int))] [] V R := by
    intro fu
    induction fu with
    | zero => intro v i hm; exact absurd hm (Nat.not_lt_zero _)
    | succ fu ih14 =>
      intro v i hm14 hi hv
      have hv1 := plg_b (x := x) (y := y) ho i
      refine T_il d_X0_ploughedAt_14 rfl ?_
      refine T_al d_X0_ploughedAt_16 rfl ?_
      refine F_gr (b := 8) d_X0_ploughedAt_17 rfl hF rfl ?_
      refine F_gi d_X0_ploughedAt_20 rfl hB rfl (fun b_1 => ?_)
      rw [bCV.pn]
      rw [bCV.pn] at b_1
      refine T_k d_X0_ploughedAt_23 ?_
      refine T_imul d_X0_ploughedAt_24 ?_
      refine T_ige d_X0_ploughedAt_25 ⟨by omega, by omega⟩ ⟨by omega, by omega⟩ (fun h25 => ?_) (fun h25 => ?_)
      · skip
        refine T_il d_X0_ploughedAt_91 rfl ?_
        -- leaf 25t@93
        exact P_I d_X0_ploughedAt_93 (by rw [hv, show i = b.pn by omega]; rfl)
      · skip
        have tI := bCV.p i (by omega)
        have t0 : ((i * 5 : Nat) : Int).toNat = i * 5 := by omega
        have t1 : (((i * 5 : Nat) : Int) + 1).toNat = i * 5 + 1 := by omega
        have t2 : (((i * 5 : Nat) : Int) + 2).toNat = i * 5 + 2 := by omega
        have t3 : (((i * 5 : Nat) : Int) + 3).toNat = i * 5 + 3 := by omega
        have t4 : (((i * 5 : Nat) : Int) + 4).toNat = i * 5 + 4 := by omega
        refine T_il d_X0_ploughedAt_28 rfl ?_
        refine T_al d_X0_ploughedAt_29 rfl ?_
        refine T_il d_X0_ploughedAt_30 rfl ?_
        refine F_ia d_X0_ploughedAt_32 rfl hB rfl ⟨by omega, by omega⟩ (fun b_2 => ?_)
        try simp only [Int.toNat_natCast, t0, t1, t2, t3, t4, tI.1, tI.2.1, tI.2.2.1, tI.2.2.2.1, tI.2.2.2.2]
        try simp only [Int.toNat_natCast, t0, t1, t2, t3, t4, tI.1, tI.2.1, tI.2.2.1, tI.2.2.2.1, tI.2.2.2.2] at b_2
        refine T_ilt d_X0_ploughedAt_33 ⟨by omega, by omega⟩ ⟨by omega, by omega⟩ (fun h33 => ?_) (fun h33 => ?_)
        · skip
          refine F_incg d_X0_ploughedAt_85 rfl (f := fun x_3 => [(0, vr 1), (1, vi x), (2, vi y), (3, vr 9), (4, vi v), (5, vi x_3)]) (fun _ => rfl) (fun x_3 ex_3 => ?_)
          refine T_go d_X0_ploughedAt_88 ?_
          -- to 14 25f.33t@14
          obtain rfl : x_3 = (((i + 1) * 5 : Nat) : Int) := by omega
          exact ih14 v (i + 1) (by omega) (by first | assumption | omega) (by unfold plg; rw [if_neg (fun z => by have := z.1; unfold inP at this; omega)]; exact hv)
        · skip
          refine T_il d_X0_ploughedAt_36 rfl ?_
          refine T_al d_X0_ploughedAt_37 rfl ?_
          refine T_il d_X0_ploughedAt_38 rfl ?_
          refine T_k d_X0_ploughedAt_40 ?_
          refine T_iadd d_X0_ploughedAt_41 ?_
          refine F_ia d_X0_ploughedAt_42 rfl hB rfl ⟨by omega, by omega⟩ (fun b_4 => ?_)
          try simp only [Int.toNat_natCast, t0, t1, t2, t3, t4, tI.1, tI.2.1, tI.2.2.1, tI.2.2.2.1, tI.2.2.2.2]
          try simp only [Int.toNat_natCast, t0, t1, t2, t3, t4, tI.1, tI.2.1, tI.2.2.1, tI.2.2.2.1, tI.2.2.2.2] at b_4
          refine T_ilt d_X0_ploughedAt_43 ⟨by omega, by omega⟩ ⟨by omega, by omega⟩ (fun h43 => ?_) (fun h43 => ?_)
          · skip
            refine F_incg d_X0_ploughedAt_85 rfl (f := fun x_5 => [(0, vr 1), (1, vi x), (2, vi y), (3, vr 9), (4, vi v), (5, vi x_5)]) (fun _ => rfl) (fun x_5 ex_5 => ?_)
            refine T_go d_X0_ploughedAt_88 ?_
            -- to 14 25f.33f.43t@14
            obtain rfl : x_5 = (((i + 1) * 5 : Nat) : Int) := by omega
            exact ih14 v (i + 1) (by omega) (by first | assumption | omega) (by unfold plg; rw [if_neg (fun z => by have := z.1; unfold inP at this; omega)]; exact hv)
          · skip
            refine T_il d_X0_ploughedAt_46 rfl ?_
            refine T_al d_X0_ploughedAt_47 rfl ?_
            refine T_il d_X0_ploughedAt_48 rfl ?_
            refine T_k d_X0_ploughedAt_50 ?_
            refine T_iadd d_X0_ploughedAt_51 ?_
            refine F_ia d_X0_ploughedAt_52 rfl hB rfl ⟨by omega, by omega⟩ (fun b_6 => ?_)
            try simp only [Int.toNat_natCast, t0, t1, t2, t3, t4, tI.1, tI.2.1, tI.2.2.1, tI.2.2.2.1, tI.2.2.2.2]
            try simp only [Int.toNat_natCast, t0, t1, t2, t3, t4, tI.1, tI.2.1, tI.2.2.1, tI.2.2.2.1, tI.2.2.2.2] at b_6
            refine T_igt d_X0_ploughedAt_53 ⟨by omega, by omega⟩ ⟨by omega, by omega⟩ (fun h53 => ?_) (fun h53 => ?_)
            · skip
              refine F_incg d_X0_ploughedAt_85 rfl (f := fun x_7 => [(0, vr 1), (1, vi x), (2, vi y), (3, vr 9), (4, vi v), (5, vi x_7)]) (fun _ => rfl) (fun x_7 ex_7 => ?_)
              refine T_go d_X0_ploughedAt_88 ?_
              -- to 14 25f.33f.43f.53t@14
              obtain rfl : x_7 = (((i + 1) * 5 : Nat) : Int) := by omega
              exact ih14 v (i + 1) (by omega) (by first | assumption | omega) (by unfold plg; rw [if_neg (fun z => by have := z.1; unfold inP at this; omega)]; exact hv)
            · skip
              refine T_il d_X0_ploughedAt_56 rfl ?_
              refine T_al d_X0_ploughedAt_57 rfl ?_
              refine T_il d_X0_ploughedAt_58 rfl ?_
              refine T_k d_X0_ploughedAt_60 ?_
              refine T_iadd d_X0_ploughedAt_61 ?_
              refine F_ia d_X0_ploughedAt_62 rfl hB rfl ⟨by omega, by omega⟩ (fun b_8 => ?_)
              try simp only [Int.toNat_natCast, t0, t1, t2, t3, t4, tI.1, tI.2.1, tI.2.2.1, tI.2.2.2.1, tI.2.2.2.2]
              try simp only [Int.toNat_natCast, t0, t1, t2, t3, t4, tI.1, tI.2.1, tI.2.2.1, tI.2.2.2.1, tI.2.2.2.2] at b_8
              refine T_igt d_X0_ploughedAt_63 ⟨by omega, by omega⟩ ⟨by omega, by omega⟩ (fun h63 => ?_) (fun h63 => ?_)
              · skip
                refine F_incg d_X0_ploughedAt_85 rfl (f := fun x_9 => [(0, vr 1), (1, vi x), (2, vi y), (3, vr 9), (4, vi v), (5, vi x_9)]) (fun _ => rfl) (fun x_9 ex_9 => ?_)
                refine T_go d_X0_ploughedAt_88 ?_
                -- to 14 25f.33f.43f.53f.63t@14
                obtain rfl : x_9 = (((i + 1) * 5 : Nat) : Int) := by omega
                exact ih14 v (i + 1) (by omega) (by first | assumption | omega) (by unfold plg; rw [if_neg (fun z => by have := z.1; unfold inP at this; omega)]; exact hv)
              · skip
                refine T_al d_X0_ploughedAt_66 rfl ?_
                refine T_il d_X0_ploughedAt_67 rfl ?_
                refine T_k d_X0_ploughedAt_69 ?_
                refine T_iadd d_X0_ploughedAt_70 ?_
                refine F_ia d_X0_ploughedAt_71 rfl hB rfl ⟨by omega, by omega⟩ (fun b_10 => ?_)
                try simp only [Int.toNat_natCast, t0, t1, t2, t3, t4, tI.1, tI.2.1, tI.2.2.1, tI.2.2.2.1, tI.2.2.2.2]
                try simp only [Int.toNat_natCast, t0, t1, t2, t3, t4, tI.1, tI.2.1, tI.2.2.1, tI.2.2.2.1, tI.2.2.2.2] at b_10
                refine T_il d_X0_ploughedAt_72 rfl ?_
                refine T_ile d_X0_ploughedAt_74 ⟨by omega, by omega⟩ ⟨by omega, by omega⟩ (fun h74 => ?_) (fun h74 => ?_)
                · skip
                  refine F_incg d_X0_ploughedAt_85 rfl (f := fun x_11 => [(0, vr 1), (1, vi x), (2, vi y), (3, vr 9), (4, vi v), (5, vi x_11)]) (fun _ => rfl) (fun x_11 ex_11 => ?_)
                  refine T_go d_X0_ploughedAt_88 ?_
                  -- to 14 25f.33f.43f.53f.63f.74t@14
                  obtain rfl : x_11 = (((i + 1) * 5 : Nat) : Int) := by omega
                  exact ih14 v (i + 1) (by omega) (by first | assumption | omega) (by unfold plg; rw [← hv]; unfold inP; split <;> omega)
                · skip
                  refine T_al d_X0_ploughedAt_77 rfl ?_
                  refine T_il d_X0_ploughedAt_78 rfl ?_
                  refine T_k d_X0_ploughedAt_80 ?_
                  refine T_iadd d_X0_ploughedAt_81 ?_
                  refine F_ia d_X0_ploughedAt_82 rfl hB rfl ⟨by omega, by omega⟩ (fun b_12 => ?_)
                  try simp only [Int.toNat_natCast, t0, t1, t2, t3, t4, tI.1, tI.2.1, tI.2.2.1, tI.2.2.2.1, tI.2.2.2.2]
                  try simp only [Int.toNat_natCast, t0, t1, t2, t3, t4, tI.1, tI.2.1, tI.2.2.1, tI.2.2.2.1, tI.2.2.2.2] at b_12
                  refine F_isg d_X0_ploughedAt_83 (f := fun x_13 => [(0, vr 1), (1, vi x), (2, vi y), (3, vr 9), (4, vi x_13), (5, vi ((i * 5 : Nat) : Int))]) (fun _ => rfl) (fun x_13 ex_13 => ?_)
                  refine F_incg d_X0_ploughedAt_85 rfl (f := fun x_14 => [(0, vr 1), (1, vi x), (2, vi y), (3, vr 9), (4, vi x_13), (5, vi x_14)]) (fun _ => rfl) (fun x_14 ex_14 => ?_)
                  refine T_go d_X0_ploughedAt_88 ?_
                  -- to 14 25f.33f.43f.53f.63f.74f@14
                  obtain rfl : x_14 = (((i + 1) * 5 : Nat) : Int) := by omega
                  exact ih14 x_13 (i + 1) (by omega) (by first | assumption | omega) (by unfold plg; rw [ex_13, ← hv]; unfold inP; split <;> omega)
  exact L14 _ 0 (0) (Nat.lt_succ_self _) (by first | assumption | omega) rfl
