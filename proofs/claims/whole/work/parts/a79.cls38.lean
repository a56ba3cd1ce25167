set_option maxHeartbeats 1000000 in
set_option maxRecDepth 100000 in
theorem R_X6_sureIn {G : GG} {V : VV} {R : RR} {y : Int} {rl : Nat → Nat → Bool} {ea na lf : Nat → Int} {r : Nat → Nat} {n : Nat} (hB : Bd V) (hF : FinR R) (hn : n ≤ 13) (h0 : V 85 0 = (n : Int)) (hr : ∀ i, i < n → R 86 i = some (r i) ∧ (60 ≤ r i ∧ r i ≤ 84) ∧ V (r i) 11 = lf i) (hv : ∀ i, i < n → V 97 i = ea i ∧ V 98 i = - na i) (hb : ∀ i, i < n → (0 ≤ ea i ∧ ea i ≤ 8500) ∧ (-2000 ≤ na i ∧ na i ≤ 6500) ∧ (0 ≤ lf i ∧ lf i ≤ 500)) (hy : 0 ≤ y ∧ y ≤ 2500) : RunsP G M_X6_sureIn 1 [vr 85, vi y] V R (vi ((cntB (suP ea na lf y) n : Int))) := by
  unfold RunsP
  refine Runs.of pn_X6 (Nat.le_of_ble_eq_true rfl) rfl ?_
  show TT G M_X6_sureIn (rmd 1 162 162) 162 (Zm G 162 162 (QP V R (vi ((cntB (suP ea na lf y) n : Int))))) 162 0 [(0, vr 85), (1, vi y)] [] V R
  refine T_k d_X6_sureIn_0 ?_
  refine T_is d_X6_sureIn_1 (ls' := [(0, vr 85), (1, vi y), (2, vi 0)]) rfl ?_
  refine T_k d_X6_sureIn_2 ?_
  refine T_is d_X6_sureIn_3 (ls' := [(0, vr 85), (1, vi y), (2, vi 0), (3, vi 0)]) rfl ?_
  -- to 4 @4
  have L4 : ∀ (fu : Nat) (i : Nat), n - i < fu → (i ≤ n) → TT G M_X6_sureIn (rmd 1 162 162) 162 (Zm G 162 162 (QP V R (vi ((cntB (suP ea na lf y) n : Int))))) 162 4 [(0, vr 85), (1, vi y), (2, vi (cntB (suP ea na lf y) i : Int)), (3, vi (i : Int))] [] V R := by
    intro fu
    induction fu with
    | zero => intro i hm; exact absurd hm (Nat.not_lt_zero _)
    | succ fu ih4 =>
      intro i hm4 hi
      have cl := cntB_le (p := suP ea na lf y) (n := i)
      refine T_il d_X6_sureIn_4 rfl ?_
      refine T_al d_X6_sureIn_5 rfl ?_
      refine F_gi d_X6_sureIn_6 rfl hB rfl (fun b_1 => ?_)
      refine T_ige d_X6_sureIn_9 ⟨by omega, by omega⟩ ⟨by omega, by omega⟩ (fun h9 => ?_) (fun h9 => ?_)
      · skip
        refine T_il d_X6_sureIn_51 rfl ?_
        -- leaf 9t@52
        exact P_I d_X6_sureIn_52 (by rw [show i = n by omega])
      · skip
        have ri := hr i (by omega)
        have hli := lay_h ri.2.1
        have bb := hb i (by omega)
        have vv := hv i (by omega)
        refine T_al d_X6_sureIn_12 rfl ?_
        refine F_gr (b := 98) d_X6_sureIn_13 rfl hF rfl ?_
        refine T_il d_X6_sureIn_16 rfl ?_
        refine F_ian d_X6_sureIn_17 rfl ⟨by omega, by omega⟩ ?_
        try simp only [Int.toNat_natCast]
        refine T_il d_X6_sureIn_18 rfl ?_
        rw [vv.2]
        refine T_igt d_X6_sureIn_19 ⟨by omega, by omega⟩ ⟨by omega, by omega⟩ (fun h19 => ?_) (fun h19 => ?_)
        · skip
          rw [← cntB_f (p := suP ea na lf y) (n := i) (fun z => by have := of_decide_eq_true z; omega)]
          refine F_incg d_X6_sureIn_45 rfl (f := fun x_2 => [(0, vr 85), (1, vi y), (2, vi (cntB (suP ea na lf y) (i + 1) : Int)), (3, vi x_2)]) (fun _ => rfl) (fun x_2 ex_2 => ?_)
          refine T_go d_X6_sureIn_48 ?_
          -- to 4 9f.19t@4
          obtain rfl : x_2 = ((i + 1) : Int) := by omega
          exact ih4 (i + 1) (by omega) (by first | assumption | omega)
        · skip
          refine T_al d_X6_sureIn_22 rfl ?_
          refine F_gr (b := 97) d_X6_sureIn_23 rfl hF rfl ?_
          refine T_il d_X6_sureIn_26 rfl ?_
          refine F_ian d_X6_sureIn_27 rfl ⟨by omega, by omega⟩ ?_
          try simp only [Int.toNat_natCast]
          rw [vv.1]
          refine T_al d_X6_sureIn_28 rfl ?_
          refine F_gr (b := 86) d_X6_sureIn_29 rfl hF rfl ?_
          refine T_il d_X6_sureIn_32 rfl ?_
          refine F_aa d_X6_sureIn_33 rfl ⟨by omega, by omega⟩ ?_
          rw [show R 86 ((i : Nat) : Int).toNat = some (r i) from ri.1]
          refine F_gi d_X6_sureIn_34 hli hB rfl (fun b_3 => ?_)
          rw [ri.2.2]
          refine T_iadd d_X6_sureIn_37 ?_
          refine T_il d_X6_sureIn_38 rfl ?_
          refine T_ile d_X6_sureIn_39 ⟨by omega, by omega⟩ ⟨by omega, by omega⟩ (fun h39 => ?_) (fun h39 => ?_)
          · skip
            rw [← cntB_f (p := suP ea na lf y) (n := i) (fun z => by have := of_decide_eq_true z; omega)]
            refine F_incg d_X6_sureIn_45 rfl (f := fun x_4 => [(0, vr 85), (1, vi y), (2, vi (cntB (suP ea na lf y) (i + 1) : Int)), (3, vi x_4)]) (fun _ => rfl) (fun x_4 ex_4 => ?_)
            refine T_go d_X6_sureIn_48 ?_
            -- to 4 9f.19f.39t@4
            obtain rfl : x_4 = ((i + 1) : Int) := by omega
            exact ih4 (i + 1) (by omega) (by first | assumption | omega)
          · skip
            refine F_incg d_X6_sureIn_42 rfl (f := fun x_5 => [(0, vr 85), (1, vi y), (2, vi x_5), (3, vi (i : Int))]) (fun _ => rfl) (fun x_5 ex_5 => ?_)
            obtain rfl : x_5 = (cntB (suP ea na lf y) (i + 1) : Int) := by rw [ex_5, cntB_t (p := suP ea na lf y) (n := i) (decide_eq_true ⟨by omega, by omega⟩)]; rfl
            refine F_incg d_X6_sureIn_45 rfl (f := fun x_6 => [(0, vr 85), (1, vi y), (2, vi (cntB (suP ea na lf y) (i + 1) : Int)), (3, vi x_6)]) (fun _ => rfl) (fun x_6 ex_6 => ?_)
            refine T_go d_X6_sureIn_48 ?_
            -- to 4 9f.19f.39f@4
            obtain rfl : x_6 = ((i + 1) : Int) := by omega
            exact ih4 (i + 1) (by omega) (by first | assumption | omega)
  exact L4 _ (0) (Nat.lt_succ_self _) (by first | assumption | omega)
set_option maxHeartbeats 1000000 in
set_option maxRecDepth 100000 in
theorem R_X6_mostIn {G : GG} {V : VV} {R : RR} {y : Int} {rl : Nat → Nat → Bool} {ea na lf : Nat → Int} {r : Nat → Nat} {n : Nat} (hB : Bd V) (hF : FinR R) (hn : n ≤ 13) (h0 : V 85 0 = (n : Int)) (hr : ∀ i, i < n → R 86 i = some (r i) ∧ (60 ≤ r i ∧ r i ≤ 84) ∧ V (r i) 11 = lf i) (hv : ∀ i, i < n → V 97 i = ea i ∧ V 98 i = - na i) (hb : ∀ i, i < n → (0 ≤ ea i ∧ ea i ≤ 8500) ∧ (-2000 ≤ na i ∧ na i ≤ 6500) ∧ (0 ≤ lf i ∧ lf i ≤ 500)) (hy : 0 ≤ y ∧ y ≤ 2500) (hls : lsS rl (2 ^ n) V) (hs : ∀ i j, rl i j = rl j i) : RunsP G M_X6_mostIn 2 [vr 85, vi y] V R (vi ((mxW (gM rl n) (bitsN (abP ea na lf y) n) (bitsN (abP ea na lf y) n) 0 : Int))) := by
  unfold RunsP
  refine Runs.of pn_X6 (Nat.le_of_ble_eq_true rfl) rfl ?_
  show TT G M_X6_mostIn (rmd 2 162 162) 162 (Zm G 162 162 (QP V R (vi ((mxW (gM rl n) (bitsN (abP ea na lf y) n) (bitsN (abP ea na lf y) n) 0 : Int))))) 162 0 [(0, vr 85), (1, vi y)] [] V R
  have bA := bn_lt (p := abP ea na lf y) (n := n)
  have b13 : 2 ^ n ≤ 2 ^ 13 := Nat.pow_le_pow_right (n := 2) (by decide) hn
  have b15 : (2 : Nat) ^ 13 = 8192 := rfl
  refine T_k d_X6_mostIn_0 ?_
  refine T_is d_X6_mostIn_1 (ls' := [(0, vr 85), (1, vi y), (2, vi 0)]) rfl ?_
  refine T_k d_X6_mostIn_2 ?_
  refine T_is d_X6_mostIn_3 (ls' := [(0, vr 85), (1, vi y), (2, vi 0), (3, vi 0)]) rfl ?_
  -- to 4 @4
  have L4 : ∀ (fu : Nat) (i : Nat), n - i < fu → (i ≤ n) → TT G M_X6_mostIn (rmd 2 162 162) 162 (Zm G 162 162 (QP V R (vi ((mxW (gM rl n) (bitsN (abP ea na lf y) n) (bitsN (abP ea na lf y) n) 0 : Int))))) 162 4 [(0, vr 85), (1, vi y), (2, vi (bitsN (abP ea na lf y) i : Int)), (3, vi (i : Int))] [] V R := by
    intro fu
    induction fu with
    | zero => intro i hm; exact absurd hm (Nat.not_lt_zero _)
    | succ fu ih4 =>
      intro i hm4 hi
      have bo := bn_13 (p := abP ea na lf y) (n := i) (by omega)
      refine T_il d_X6_mostIn_4 rfl ?_
      refine T_al d_X6_mostIn_5 rfl ?_
      refine F_gi d_X6_mostIn_6 rfl hB rfl (fun b_1 => ?_)
      refine T_ige d_X6_mostIn_9 ⟨by omega, by omega⟩ ⟨by omega, by omega⟩ (fun h9 => ?_) (fun h9 => ?_)
      · skip
        rw [show i = n by omega]
        refine T_k d_X6_mostIn_54 ?_
        refine T_is d_X6_mostIn_55 (ls' := [(0, vr 85), (1, vi y), (2, vi (bitsN (abP ea na lf y) n : Int)), (3, vi 0)]) rfl ?_
        refine T_il d_X6_mostIn_56 rfl ?_
        refine F_isg d_X6_mostIn_57 (f := fun x_2 => [(0, vr 85), (1, vi y), (2, vi (bitsN (abP ea na lf y) n : Int)), (3, vi 0), (4, vi x_2)]) (fun _ => rfl) (fun x_2 ex_2 => ?_)
        -- to 59 9t@59
        have L59 : ∀ (fu : Nat) (q s : Nat), s < fu → (s ≤ (bitsN (abP ea na lf y) n)) → (q ≤ 13) → (mxW (gM rl n) (bitsN (abP ea na lf y) n) s q = mxW (gM rl n) (bitsN (abP ea na lf y) n) (bitsN (abP ea na lf y) n) 0) → TT G M_X6_mostIn (rmd 2 162 162) 162 (Zm G 162 162 (QP V R (vi ((mxW (gM rl n) (bitsN (abP ea na lf y) n) (bitsN (abP ea na lf y) n) 0 : Int))))) 162 59 [(0, vr 85), (2, vi (bitsN (abP ea na lf y) n : Int)), (3, vi (q : Int)), (4, vi (s : Int))] [] V R := by
          intro fu
          induction fu with
          | zero => intro q s hm; exact absurd hm (Nat.not_lt_zero _)
          | succ fu ih59 =>
            intro q s hm59 hs2 hq hx
            refine T_il d_X6_mostIn_59 rfl ?_
            refine T_zle d_X6_mostIn_61 ⟨by omega, by omega⟩ (fun h61 => ?_) (fun h61 => ?_)
            · skip
              refine T_il d_X6_mostIn_95 rfl ?_
              -- leaf 61t@96
              exact P_I d_X6_mostIn_96 (by rw [show s = 0 by omega, mxW_0] at hx; rw [hx])
            · skip
              have lp := hls s (by omega)
              have fp := fr_P (rl := rl) (n := n) (s := s) (by omega) hs
              have cb := chN_24 (n := n) (s := s) (by omega) hn
              have gb := gM_b (rl := rl) (n := n) (s := s)
              have ms := mxW_s (g := gM rl n) (a := (bitsN (abP ea na lf y) n)) (s := s) (m := q) (by omega)
              have ia : iandZ ((s : Int) - 1) (bitsN (abP ea na lf y) n : Int) = (((s - 1) &&& (bitsN (abP ea na lf y) n) : Nat) : Int) := by rw [show (s : Int) - 1 = ((s - 1 : Nat) : Int) by omega]; exact iand_n (by omega)
              have al : (s - 1) &&& (bitsN (abP ea na lf y) n) ≤ s - 1 := Nat.and_le_left
              refine T_al d_X6_mostIn_64 rfl ?_
              refine F_gr (b := 91) d_X6_mostIn_65 rfl hF rfl ?_
              refine T_il d_X6_mostIn_68 rfl ?_
              refine F_za d_X6_mostIn_70 rfl hB rfl ⟨by omega, by omega⟩ (fun b_3 => ?_)
              try simp only [Int.toNat_natCast]
              try simp only [Int.toNat_natCast] at b_3
              refine T_zeq d_X6_mostIn_71 ⟨by have := hB.1 91 0 1 rfl s; omega, by have := hB.1 91 0 1 rfl s; omega⟩ (fun h71 => ?_) (fun h71 => ?_)
              · skip
                have ge : gM rl n s = 0 := if_neg (fun z => absurd (lp.1.mpr (fp.mpr z)) (by omega))
                have ei : (if q < gM rl n s then gM rl n s else q) = q := if_neg (by omega)
                rw [ei] at ms
                refine T_il d_X6_mostIn_84 rfl ?_
                refine T_k d_X6_mostIn_86 ?_
                refine T_isub d_X6_mostIn_87 ?_
                refine T_il d_X6_mostIn_88 rfl ?_
                refine T_iand d_X6_mostIn_89 ?_
                refine F_isg d_X6_mostIn_90 (f := fun x_4 => [(0, vr 85), (2, vi (bitsN (abP ea na lf y) n : Int)), (3, vi (q : Int)), (4, vi x_4)]) (fun _ => rfl) (fun x_4 ex_4 => ?_)
                obtain rfl : x_4 = (((s - 1) &&& (bitsN (abP ea na lf y) n) : Nat) : Int) := by rw [ex_4]; exact ia
                refine T_go d_X6_mostIn_92 ?_
                -- to 59 61f.71t@59
                exact ih59 (q) ((s - 1) &&& (bitsN (abP ea na lf y) n)) (by omega) (by omega) hq (ms.symm.trans hx)
              · skip
                have ge : gM rl n s = cntB (fun i => s.testBit i) n := if_pos (fp.mp (lp.1.mp (by omega)))
                have cl := cntB_le (p := fun i => s.testBit i) (n := n)
                refine T_il d_X6_mostIn_74 rfl ?_
                refine T_il d_X6_mostIn_75 rfl ?_
                refine C_ps1 d_X6_mostIn_77 (hdF (by decide)) (hcF _) (R_bitCount (x := s) (by show s < 16777216; omega)) ?_
                rw [cb]
                refine T_mmax d_X6_mostIn_80 ⟨by omega, by omega⟩ ⟨by omega, by omega⟩ (Nat.le_of_ble_eq_true rfl) (hmF _) ?_
                refine F_isg d_X6_mostIn_83 (f := fun x_5 => [(0, vr 85), (2, vi (bitsN (abP ea na lf y) n : Int)), (3, vi x_5), (4, vi (s : Int))]) (fun _ => rfl) (fun x_5 ex_5 => ?_)
                obtain rfl : x_5 = ((if q < gM rl n s then gM rl n s else q : Nat) : Int) := by rw [ex_5, ge]; split <;> split <;> omega
                refine T_il d_X6_mostIn_84 rfl ?_
                refine T_k d_X6_mostIn_86 ?_
                refine T_isub d_X6_mostIn_87 ?_
                refine T_il d_X6_mostIn_88 rfl ?_
                refine T_iand d_X6_mostIn_89 ?_
                refine F_isg d_X6_mostIn_90 (f := fun x_6 => [(0, vr 85), (2, vi (bitsN (abP ea na lf y) n : Int)), (3, vi ((if q < gM rl n s then gM rl n s else q : Nat) : Int)), (4, vi x_6)]) (fun _ => rfl) (fun x_6 ex_6 => ?_)
                obtain rfl : x_6 = (((s - 1) &&& (bitsN (abP ea na lf y) n) : Nat) : Int) := by rw [ex_6]; exact ia
                refine T_go d_X6_mostIn_92 ?_
                -- to 59 61f.71f@59
                exact ih59 (if q < gM rl n s then gM rl n s else q) ((s - 1) &&& (bitsN (abP ea na lf y) n)) (by omega) (by omega) (by split <;> omega) (ms.symm.trans hx)
        refine T_subp (ks := [0, 2, 3, 4]) (ls' := [(0, vr 85), (2, vi (bitsN (abP ea na lf y) n : Int)), (3, vi 0), (4, vi x_2)]) rfl ?_
        obtain rfl : x_2 = (((bitsN (abP ea na lf y) n)) : Int) := by omega
        exact L59 _ (0) ((bitsN (abP ea na lf y) n)) (Nat.lt_succ_self _) (Nat.le_refl _) (by omega) rfl
      · skip
        have ri := hr i (by omega)
        have hli := lay_h ri.2.1
        have bb := hb i (by omega)
        have vv := hv i (by omega)
        refine T_al d_X6_mostIn_12 rfl ?_
        refine F_gr (b := 97) d_X6_mostIn_13 rfl hF rfl ?_
        refine T_il d_X6_mostIn_16 rfl ?_
        refine F_ian d_X6_mostIn_17 rfl ⟨by omega, by omega⟩ ?_
        try simp only [Int.toNat_natCast]
        refine T_il d_X6_mostIn_18 rfl ?_
        rw [vv.1]
        refine T_igt d_X6_mostIn_19 ⟨by omega, by omega⟩ ⟨by omega, by omega⟩ (fun h19 => ?_) (fun h19 => ?_)
        · skip
          rw [← bits_f (p := abP ea na lf y) (j := i) (decide_eq_false (fun z => by omega))]
          refine F_incg d_X6_mostIn_48 rfl (f := fun x_7 => [(0, vr 85), (1, vi y), (2, vi (bitsN (abP ea na lf y) (i + 1) : Int)), (3, vi x_7)]) (fun _ => rfl) (fun x_7 ex_7 => ?_)
          refine T_go d_X6_mostIn_51 ?_
          -- to 4 9f.19t@4
          obtain rfl : x_7 = ((i + 1) : Int) := by omega
          exact ih4 (i + 1) (by omega) (by first | assumption | omega)
        · skip
          refine T_al d_X6_mostIn_22 rfl ?_
          refine F_gr (b := 98) d_X6_mostIn_23 rfl hF rfl ?_
          refine T_il d_X6_mostIn_26 rfl ?_
          refine F_ian d_X6_mostIn_27 rfl ⟨by omega, by omega⟩ ?_
          try simp only [Int.toNat_natCast]
          rw [vv.2]
          refine T_al d_X6_mostIn_28 rfl ?_
          refine F_gr (b := 86) d_X6_mostIn_29 rfl hF rfl ?_
          refine T_il d_X6_mostIn_32 rfl ?_
          refine F_aa d_X6_mostIn_33 rfl ⟨by omega, by omega⟩ ?_
          rw [show R 86 ((i : Nat) : Int).toNat = some (r i) from ri.1]
          refine F_gi d_X6_mostIn_34 hli hB rfl (fun b_8 => ?_)
          rw [ri.2.2]
          refine T_iadd d_X6_mostIn_37 ?_
          refine T_il d_X6_mostIn_38 rfl ?_
          refine T_ile d_X6_mostIn_39 ⟨by omega, by omega⟩ ⟨by omega, by omega⟩ (fun h39 => ?_) (fun h39 => ?_)
          · skip
            rw [← bits_f (p := abP ea na lf y) (j := i) (decide_eq_false (fun z => by omega))]
            refine F_incg d_X6_mostIn_48 rfl (f := fun x_9 => [(0, vr 85), (1, vi y), (2, vi (bitsN (abP ea na lf y) (i + 1) : Int)), (3, vi x_9)]) (fun _ => rfl) (fun x_9 ex_9 => ?_)
            refine T_go d_X6_mostIn_51 ?_
            -- to 4 9f.19f.39t@4
            obtain rfl : x_9 = ((i + 1) : Int) := by omega
            exact ih4 (i + 1) (by omega) (by first | assumption | omega)
          · skip
            refine T_il d_X6_mostIn_42 rfl ?_
            refine T_k d_X6_mostIn_43 ?_
            refine T_il d_X6_mostIn_44 rfl ?_
            refine T_ishl d_X6_mostIn_45 ?_
            refine T_ior d_X6_mostIn_46 ?_
            refine F_isg d_X6_mostIn_47 (f := fun x_10 => [(0, vr 85), (1, vi y), (2, vi x_10), (3, vi (i : Int))]) (fun _ => rfl) (fun x_10 ex_10 => ?_)
            obtain rfl : x_10 = (bitsN (abP ea na lf y) (i + 1) : Int) := by rw [ex_10, (or_13 bo (show i < 13 by omega)).1, bits_t (p := abP ea na lf y) (decide_eq_true ⟨by omega, by omega⟩)]
            refine F_incg d_X6_mostIn_48 rfl (f := fun x_11 => [(0, vr 85), (1, vi y), (2, vi (bitsN (abP ea na lf y) (i + 1) : Int)), (3, vi x_11)]) (fun _ => rfl) (fun x_11 ex_11 => ?_)
            refine T_go d_X6_mostIn_51 ?_
            -- to 4 9f.19f.39f@4
            obtain rfl : x_11 = ((i + 1) : Int) := by omega
            exact ih4 (i + 1) (by omega) (by first | assumption | omega)
  exact L4 _ (0) (Nat.lt_succ_self _) (by first | assumption | omega)
