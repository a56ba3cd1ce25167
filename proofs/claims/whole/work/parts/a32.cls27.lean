/-! the latest week that brought news -/
def wkF (nw : Nat → Int) : Nat → Nat
  | 0 => 0
  | w + 1 => if nw (w + 1) ≠ 0 then w + 1 else wkF nw w
theorem wk_spec {nw : Nat → Int} : ∀ k, wkF nw k ≤ k ∧ (∀ w, wkF nw k < w → w ≤ k → nw w = 0) ∧ (wkF nw k ≠ 0 → nw (wkF nw k) ≠ 0)
  | 0 => ⟨Nat.le_refl _, fun w h1 h2 => by have : wkF nw 0 = 0 := rfl; omega, fun h => absurd rfl h⟩
  | k + 1 => by
    unfold wkF
    by_cases q : nw (k + 1) ≠ 0
    · rw [if_pos q]; exact ⟨Nat.le_refl _, fun w h1 h2 => by omega, fun _ => q⟩
    · rw [if_neg q]
      have h := wk_spec (nw := nw) k
      refine ⟨by omega, fun w h1 h2 => ?_, h.2.2⟩
      by_cases z : w = k + 1
      · rw [z]; exact Classical.byContradiction fun y => q y
      · exact h.2.1 w h1 (by omega)
set_option maxHeartbeats 1000000 in
set_option maxRecDepth 100000 in
theorem R_X0_weekOfNews {G : GG} {V : VV} {R : RR}  {k : Nat} (hB : Bd V) (hF : FinR R) (hk : k ≤ 400) : RunsP G M_X0_weekOfNews 2 [vr 1, vi (k:Int)] V R (vi ((wkF (V 15) k : Int))) := by
  unfold RunsP
  refine Runs.of pn_X0 (Nat.le_of_ble_eq_true rfl) rfl ?_
  show TT G M_X0_weekOfNews (rmd 2 162 162) 162 (Zm G 162 162 (QP V R (vi ((wkF (V 15) k : Int))))) 162 0 [(0, vr 1), (1, vi (k:Int))] [] V R
  refine T_il d_X0_weekOfNews_0 rfl ?_
  refine T_k d_X0_weekOfNews_1 ?_
  refine T_mmin d_X0_weekOfNews_4 ⟨by omega, by omega⟩ ⟨by omega, by omega⟩ (Nat.le_of_ble_eq_true rfl) (hmF _) ?_
  refine F_isg d_X0_weekOfNews_7 (f := fun x_1 => [(0, vr 1), (1, vi (k:Int)), (2, vi x_1)]) (fun _ => rfl) (fun x_1 ex_1 => ?_)
  -- to 8 @8
  have L8 : ∀ (fu : Nat) (y : Int) (w : Nat), w < fu → (y = (w : Int)) → (w ≤ 400) → (wkF (V 15) w = wkF (V 15) k) → TT G M_X0_weekOfNews (rmd 2 162 162) 162 (Zm G 162 162 (QP V R (vi ((wkF (V 15) k : Int))))) 162 8 [(0, vr 1), (1, vi (k:Int)), (2, vi y)] [] V R := by
    intro fu
    induction fu with
    | zero => intro y w hm; exact absurd hm (Nat.not_lt_zero _)
    | succ fu ih8 =>
      intro y w hm8 ey hw hf
      refine T_il d_X0_weekOfNews_8 rfl ?_
      refine T_zle d_X0_weekOfNews_9 ⟨by omega, by omega⟩ (fun h9 => ?_) (fun h9 => ?_)
      · skip
        refine T_k d_X0_weekOfNews_29 ?_
        -- leaf 9t@30
        exact P_I d_X0_weekOfNews_30 (by rw [← hf, show w = 0 by omega]; rfl)
      · skip
        obtain ⟨u, eu⟩ : ∃ u, w = u + 1 := ⟨w - 1, by omega⟩
        have iy : y.toNat = u + 1 := by omega
        refine T_al d_X0_weekOfNews_12 rfl ?_
        refine F_gr (b := 15) d_X0_weekOfNews_13 rfl hF rfl ?_
        refine T_il d_X0_weekOfNews_16 rfl ?_
        refine F_za d_X0_weekOfNews_17 rfl hB rfl ⟨by omega, by omega⟩ (fun b_2 => ?_)
        try simp only [Int.toNat_natCast, iy]
        try simp only [Int.toNat_natCast, iy] at b_2
        refine T_zeq d_X0_weekOfNews_18 ⟨by omega, by omega⟩ (fun h18 => ?_) (fun h18 => ?_)
        · skip
          refine F_incg d_X0_weekOfNews_23 rfl (f := fun x_3 => [(0, vr 1), (1, vi (k:Int)), (2, vi x_3)]) (fun _ => rfl) (fun x_3 ex_3 => ?_)
          refine T_go d_X0_weekOfNews_26 ?_
          -- to 8 9f.18t@8
          exact ih8 x_3 (u) (by omega) (by omega) (by first | assumption | omega) (by rw [← hf, eu]; exact (show wkF (V 15) (u + 1) = wkF (V 15) u from if_neg (fun z => z h18)).symm)
        · skip
          refine T_il d_X0_weekOfNews_21 rfl ?_
          -- leaf 9f.18f@22
          exact P_I d_X0_weekOfNews_22 (by rw [← hf, eu, show wkF (V 15) (u + 1) = u + 1 from (by unfold wkF; rw [if_pos h18])]; omega)
  exact L8 _ x_1 (k) (Nat.lt_succ_self _) (by rw [ex_1]; split <;> omega) (by first | assumption | omega) rfl
