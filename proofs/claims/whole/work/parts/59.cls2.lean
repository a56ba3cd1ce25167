/-! the class's tokens -/
def sof (c : Int) : Int := if 97 ≤ c ∧ c ≤ 122 then 1 else if 48 ≤ c ∧ c ≤ 57 then 2 else 3
theorem sof_L : (fun c => decide (sof c = 1)) = isLb := by
  funext c
  unfold sof isLb
  by_cases h : 97 ≤ c ∧ c ≤ 122
  · simp [h]
  · rw [if_neg h]
    by_cases h2 : 48 ≤ c ∧ c ≤ 57
    · simp [h2, h]
    · simp [h2, h]
theorem sof_D : (fun c => decide (sof c = 2)) = isDb := by
  funext c
  unfold sof isDb
  by_cases h : 97 ≤ c ∧ c ≤ 122
  · rw [if_pos h]
    have : ¬ (48 ≤ c ∧ c ≤ 57) := by omega
    simp [this]
  · rw [if_neg h]
    by_cases h2 : 48 ≤ c ∧ c ≤ 57
    · simp [h2]
    · simp [h2]
theorem sof_l {c : Int} : isLb c = true ↔ sof c = 1 := by rw [← sof_L]; simp
theorem sof_d {c : Int} : isDb c = true ↔ sof c = 2 := by rw [← sof_D]; simp
theorem sof_3 (c : Int) : sof c = 1 ∨ sof c = 2 ∨ sof c = 3 := by
  unfold sof
  split
  · simp
  · split <;> simp
abbrev rnS (s : Int) (t : Nat → Int) (n e : Nat) : Nat := runB (fun c => decide (sof c = s)) t n e
theorem tokE_sof {t : Nat → Int} {n q : Nat} (h : q < n) : tokE t n q = if sof (t q) = 3 then q + 1 else rnS (sof (t q)) t n (q + 1) := by
  unfold tokE
  rw [if_neg (by omega)]
  rcases sof_3 (t q) with h1 | h1 | h1
  · have hl := sof_l.mpr h1
    rw [if_pos hl, h1, if_neg (by decide)]
    show runB isLb t n q = runB (fun c => decide (sof c = 1)) t n (q + 1)
    rw [sof_L, runB_eq isLb t n q, if_pos ⟨h, hl⟩]
  · have hl : ¬ isLb (t q) = true := fun z => by have := sof_l.mp z; omega
    have hd := sof_d.mpr h1
    rw [if_neg hl, if_pos hd, h1, if_neg (by decide)]
    show runB isDb t n q = runB (fun c => decide (sof c = 2)) t n (q + 1)
    rw [sof_D, runB_eq isDb t n q, if_pos ⟨h, hd⟩]
  · have hl : ¬ isLb (t q) = true := fun z => by have := sof_l.mp z; omega
    have hd : ¬ isDb (t q) = true := fun z => by have := sof_d.mp z; omega
    rw [if_neg hl, if_neg hd, if_pos h1]
def nextC (V : VV) (n p : Nat) : VV := if skipB (V 17) n p < n then uV (uV V 16 6 (skipB (V 17) n p)) 16 7 (tokE (V 17) n (skipB (V 17) n p)) else uV V 16 6 (skipB (V 17) n p)
theorem cap_s {x d : Int} (hx : 0 ≤ x) (hd : 0 ≤ d) : (if 100000 ≤ (if 100000 ≤ x then 100000 else x) * 10 + d - 48 then (100000 : Int) else (if 100000 ≤ x then 100000 else x) * 10 + d - 48) = if 100000 ≤ 10 * x + (d - 48) then 100000 else 10 * x + (d - 48) := by
  split <;> split <;> split <;> omega
def nuC (t : Nat → Int) (n f : Nat) : Int := if f < n ∧ isDb (t f) = true then (if 100000 ≤ exN t f (tokE t n f) then 100000 else exN t f (tokE t n f)) else -1
set_option maxHeartbeats 1000000 in
set_option maxRecDepth 100000 in
theorem R_X4_sortOf {G : GG} {V : VV} {R : RR} {c : Int}  (hc : r32 c) : RunsP G M_X4_sortOf 1 [vi c] V R (vi (sof c)) := by
  unfold RunsP
  refine Runs.of pn_X4 (Nat.le_of_ble_eq_true rfl) rfl ?_
  show TT G M_X4_sortOf (rmd 1 162 162) 162 (Zm G 162 162 (QP V R (vi (sof c)))) 162 0 [(0, vi c)] [] V R
  obtain ⟨hc1, hc2⟩ := hc
  refine T_il d_X4_sortOf_0 rfl ?_
  refine T_k d_X4_sortOf_1 ?_
  refine T_ilt d_X4_sortOf_3 ⟨by omega, by omega⟩ ⟨by omega, by omega⟩ (fun h3 => ?_) (fun h3 => ?_)
  · skip
    refine T_il d_X4_sortOf_14 rfl ?_
    refine T_k d_X4_sortOf_15 ?_
    refine T_ilt d_X4_sortOf_17 ⟨by omega, by omega⟩ ⟨by omega, by omega⟩ (fun h17 => ?_) (fun h17 => ?_)
    · skip
      refine T_k d_X4_sortOf_30 ?_
      -- leaf 3t.17t@31
      exact P_I d_X4_sortOf_31 (by unfold sof; (repeat split) <;> omega)
    · skip
      refine T_il d_X4_sortOf_20 rfl ?_
      refine T_k d_X4_sortOf_21 ?_
      refine T_igt d_X4_sortOf_23 ⟨by omega, by omega⟩ ⟨by omega, by omega⟩ (fun h23 => ?_) (fun h23 => ?_)
      · skip
        refine T_k d_X4_sortOf_30 ?_
        -- leaf 3t.17f.23t@31
        exact P_I d_X4_sortOf_31 (by unfold sof; (repeat split) <;> omega)
      · skip
        refine T_k d_X4_sortOf_26 ?_
        refine T_go d_X4_sortOf_27 ?_
        -- leaf 3t.17f.23f@31
        exact P_I d_X4_sortOf_31 (by unfold sof; (repeat split) <;> omega)
  · skip
    refine T_il d_X4_sortOf_6 rfl ?_
    refine T_k d_X4_sortOf_7 ?_
    refine T_igt d_X4_sortOf_9 ⟨by omega, by omega⟩ ⟨by omega, by omega⟩ (fun h9 => ?_) (fun h9 => ?_)
    · skip
      refine T_il d_X4_sortOf_14 rfl ?_
      refine T_k d_X4_sortOf_15 ?_
      refine T_ilt d_X4_sortOf_17 ⟨by omega, by omega⟩ ⟨by omega, by omega⟩ (fun h17 => ?_) (fun h17 => ?_)
      · skip
        refine T_k d_X4_sortOf_30 ?_
        -- leaf 3f.9t.17t@31
        exact P_I d_X4_sortOf_31 (by unfold sof; (repeat split) <;> omega)
      · skip
        refine T_il d_X4_sortOf_20 rfl ?_
        refine T_k d_X4_sortOf_21 ?_
        refine T_igt d_X4_sortOf_23 ⟨by omega, by omega⟩ ⟨by omega, by omega⟩ (fun h23 => ?_) (fun h23 => ?_)
        · skip
          refine T_k d_X4_sortOf_30 ?_
          -- leaf 3f.9t.17f.23t@31
          exact P_I d_X4_sortOf_31 (by unfold sof; (repeat split) <;> omega)
        · skip
          refine T_k d_X4_sortOf_26 ?_
          refine T_go d_X4_sortOf_27 ?_
          -- leaf 3f.9t.17f.23f@31
          exact P_I d_X4_sortOf_31 (by unfold sof; (repeat split) <;> omega)
    · skip
      refine T_k d_X4_sortOf_12 ?_
      -- leaf 3f.9f@13
      exact P_I d_X4_sortOf_13 (by unfold sof; (repeat split) <;> omega)
set_option maxHeartbeats 1000000 in
set_option maxRecDepth 100000 in
theorem R_X4_next {G : GG} {V : VV} {R : RR}  {n p : Nat} (hB : Bd V) (hF : FinR R) (hn : V 16 1 = n) (hp : V 16 7 = p) (hpn : p ≤ n) : Runs G M_X4_next 2 162 162 [vr 16] V R (QU R (nextC V n p)) := by
  refine Runs.of pn_X4 (Nat.le_of_ble_eq_true rfl) rfl ?_
  show TT G M_X4_next (rmd 2 162 162) 162 (Zm G 162 162 (QU R (nextC V n p))) 162 0 [(0, vr 16)] [] V R
  have L30 : ∀ (q : Nat), (skipB (V 17) n p = q) → (q ≤ n) → TT G M_X4_next (rmd 2 162 162) 162 (Zm G 162 162 (QU R (nextC V n p))) 162 30 [(0, vr 16), (1, vi (q : Int))] [] V R := by
    intro q hq hqn
    have hso2 := sof_3 (V 17 q)
    have hb17 : 0 ≤ V 16 1 ∧ V 16 1 ≤ 400 := hB.2 16 4 1 0 400 rfl rfl
    refine T_al d_X4_next_30 rfl ?_
    refine T_il d_X4_next_31 rfl ?_
    refine F_pi d_X4_next_32 rfl hB rfl ⟨by omega, by omega⟩ (fun V_1 eV_1 hBV_1 => ?_)
    refine T_il d_X4_next_35 rfl ?_
    refine T_al d_X4_next_36 rfl ?_
    refine F_gi d_X4_next_37 rfl hBV_1 rfl (fun b_2 => ?_)
    have fV_1_16_1 : V_1 16 1 = V 16 1 := by rw [eV_1]; rfl
    rw [fV_1_16_1]
    rw [fV_1_16_1] at b_2
    refine T_ilt d_X4_next_40 ⟨by omega, by omega⟩ ⟨by omega, by omega⟩ (fun h40 => ?_) (fun h40 => ?_)
    · skip
      refine T_al d_X4_next_44 rfl ?_
      refine F_gr (b := 17) d_X4_next_45 rfl hF rfl ?_
      refine T_il d_X4_next_48 rfl ?_
      refine F_ia d_X4_next_49 rfl hBV_1 rfl ⟨by omega, by omega⟩ (fun b_3 => ?_)
      have faV_1_17 : V_1 17 = V 17 := by rw [eV_1]; rfl
      rw [faV_1_17]
      rw [faV_1_17] at b_3
      try simp only [Int.toNat_natCast]
      try simp only [Int.toNat_natCast] at b_3
      refine C_ps1 d_X4_next_50 (hdF (by decide)) (hcF _) (R_X4_sortOf ⟨by omega, by omega⟩) ?_
      refine F_isg d_X4_next_53 (f := fun x_4 => [(0, vr 16), (1, vi (q : Int)), (2, vi x_4)]) (fun _ => rfl) (fun x_4 ex_4 => ?_)
      refine T_il d_X4_next_54 rfl ?_
      refine T_k d_X4_next_55 ?_
      refine T_iadd d_X4_next_56 ?_
      refine F_isg d_X4_next_57 (f := fun x_5 => [(0, vr 16), (1, vi (q : Int)), (2, vi x_4), (3, vi x_5)]) (fun _ => rfl) (fun x_5 ex_5 => ?_)
      -- to 58 40t@58
      have L58 : ∀ (fu : Nat) (so : Int) (e : Nat), n - e < fu → (so = sof (V 17 q)) → (q + 1 ≤ e ∧ e ≤ n) → (rnS so (V 17) n e = rnS so (V 17) n (q + 1)) → (so = 3 → e = q + 1) → TT G M_X4_next (rmd 2 162 162) 162 (Zm G 162 162 (QU R (nextC V n p))) 162 58 [(0, vr 16), (1, vi (q : Int)), (2, vi so), (3, vi (e : Int))] [] V_1 R := by
        intro fu
        induction fu with
        | zero => intro so e hm; exact absurd hm (Nat.not_lt_zero _)
        | succ fu ih58 =>
          intro so e hm58 hso he hr h3
          have hso3 := sof_3 (V 17 q)
          have hso4 := sof_3 (V 17 e)
          refine T_il d_X4_next_58 rfl ?_
          refine T_k d_X4_next_59 ?_
          refine T_ieq d_X4_next_60 ⟨by omega, by omega⟩ ⟨by omega, by omega⟩ (fun h60 => ?_) (fun h60 => ?_)
          · skip
            refine T_al d_X4_next_90 rfl ?_
            refine T_il d_X4_next_91 rfl ?_
            refine F_pi d_X4_next_92 rfl hBV_1 rfl ⟨by omega, by omega⟩ (fun V_6 eV_6 hBV_6 => ?_)
            -- leaf 60t@95
            refine T_vret d_X4_next_95 rfl ?_
            refine ⟨rfl, ?_, rfl, hBV_6⟩
            have hso5 := sof_3 (V 17 q)
            rw [eV_6, eV_1]
            unfold nextC
            rw [hq, if_pos (by omega), tokE_sof (by omega), if_pos (by omega), ← h3 h60]
          · skip
            refine T_il d_X4_next_63 rfl ?_
            refine T_al d_X4_next_64 rfl ?_
            refine F_gi d_X4_next_65 rfl hBV_1 rfl (fun b_7 => ?_)
            have fV_1_16_1 : V_1 16 1 = V 16 1 := by rw [eV_1]; rfl
            rw [fV_1_16_1]
            rw [fV_1_16_1] at b_7
            refine T_ige d_X4_next_68 ⟨by omega, by omega⟩ ⟨by omega, by omega⟩ (fun h68 => ?_) (fun h68 => ?_)
            · skip
              refine T_al d_X4_next_90 rfl ?_
              refine T_il d_X4_next_91 rfl ?_
              refine F_pi d_X4_next_92 rfl hBV_1 rfl ⟨by omega, by omega⟩ (fun V_8 eV_8 hBV_8 => ?_)
              -- leaf 60f.68t@95
              refine T_vret d_X4_next_95 rfl ?_
              refine ⟨rfl, ?_, rfl, hBV_8⟩
              have hso5 := sof_3 (V 17 q)
              rw [eV_8, eV_1]
              unfold nextC
              rw [hq, if_pos (by omega), tokE_sof (by omega), if_neg (by omega), ← hso, ← hr, show rnS so (V 17) n e = e from run_en (by omega)]
            · skip
              refine T_al d_X4_next_71 rfl ?_
              refine F_gr (b := 17) d_X4_next_72 rfl hF rfl ?_
              refine T_il d_X4_next_75 rfl ?_
              refine F_ia d_X4_next_76 rfl hBV_1 rfl ⟨by omega, by omega⟩ (fun b_9 => ?_)
              have faV_1_17 : V_1 17 = V 17 := by rw [eV_1]; rfl
              rw [faV_1_17]
              rw [faV_1_17] at b_9
              try simp only [Int.toNat_natCast]
              try simp only [Int.toNat_natCast] at b_9
              refine C_ps1 d_X4_next_77 (hdF (by decide)) (hcF _) (R_X4_sortOf ⟨by omega, by omega⟩) ?_
              refine T_il d_X4_next_80 rfl ?_
              refine T_ine d_X4_next_81 ⟨by omega, by omega⟩ ⟨by omega, by omega⟩ (fun h81 => ?_) (fun h81 => ?_)
              · skip
                refine T_al d_X4_next_90 rfl ?_
                refine T_il d_X4_next_91 rfl ?_
                refine F_pi d_X4_next_92 rfl hBV_1 rfl ⟨by omega, by omega⟩ (fun V_10 eV_10 hBV_10 => ?_)
                -- leaf 60f.68f.81t@95
                refine T_vret d_X4_next_95 rfl ?_
                refine ⟨rfl, ?_, rfl, hBV_10⟩
                have hso5 := sof_3 (V 17 q)
                rw [eV_10, eV_1]
                unfold nextC
                rw [hq, if_pos (by omega), tokE_sof (by omega), if_neg (by omega), ← hso, ← hr, show rnS so (V 17) n e = e from run_en (fun z => h81 (by simpa using of_decide_eq_true z.2))]
              · skip
                refine F_incg d_X4_next_84 rfl (f := fun x_11 => [(0, vr 16), (1, vi (q : Int)), (2, vi so), (3, vi x_11)]) (fun _ => rfl) (fun x_11 ex_11 => ?_)
                refine T_go d_X4_next_87 ?_
                -- to 58 60f.68f.81f@58
                obtain rfl : x_11 = ((e + 1) : Int) := by omega
                exact ih58 so (e + 1) (by omega) (by first | assumption | omega) (by omega) (by rw [← hr]; exact run_st (by omega) (decide_eq_true (by simpa using h81))) (fun z => absurd z h60)
      obtain rfl : x_5 = ((q + 1) : Int) := by omega
      exact L58 _ x_4 (q + 1) (Nat.lt_succ_self _) (by assumption) (by omega) rfl (fun _ => rfl)
    · skip
      -- leaf 40f@43
      refine T_vret d_X4_next_43 rfl ?_
      refine ⟨rfl, ?_, rfl, hBV_1⟩
      rw [eV_1]
      unfold nextC
      rw [hq, if_neg (by omega)]
  refine T_al d_X4_next_0 rfl ?_
  refine F_gi d_X4_next_1 rfl hB rfl (fun b_12 => ?_)
  refine F_isg d_X4_next_4 (f := fun x_13 => [(0, vr 16), (1, vi x_13)]) (fun _ => rfl) (fun x_13 ex_13 => ?_)
  -- to 5 @5
  have L5 : ∀ (fu : Nat) (c : Nat), n - c < fu → (p ≤ c ∧ c ≤ n) → (skipB (V 17) n c = skipB (V 17) n p) → TT G M_X4_next (rmd 2 162 162) 162 (Zm G 162 162 (QU R (nextC V n p))) 162 5 [(0, vr 16), (1, vi (c : Int))] [] V R := by
    intro fu
    induction fu with
    | zero => intro c hm; exact absurd hm (Nat.not_lt_zero _)
    | succ fu ih5 =>
      intro c hm5 hc hs
      refine T_il d_X4_next_5 rfl ?_
      refine T_al d_X4_next_6 rfl ?_
      refine F_gi d_X4_next_7 rfl hB rfl (fun b_14 => ?_)
      refine T_ige d_X4_next_10 ⟨by omega, by omega⟩ ⟨by omega, by omega⟩ (fun h10 => ?_) (fun h10 => ?_)
      · skip
        -- to 30 10t@30
        exact L30 (c) (by rw [← hs]; exact skip_en (by omega)) (by first | assumption | omega)
      · skip
        refine T_al d_X4_next_13 rfl ?_
        refine F_gr (b := 17) d_X4_next_14 rfl hF rfl ?_
        refine T_il d_X4_next_17 rfl ?_
        refine F_ia d_X4_next_18 rfl hB rfl ⟨by omega, by omega⟩ (fun b_15 => ?_)
        try simp only [Int.toNat_natCast]
        try simp only [Int.toNat_natCast] at b_15
        refine T_k d_X4_next_19 ?_
        refine T_ine d_X4_next_21 ⟨by omega, by omega⟩ ⟨by omega, by omega⟩ (fun h21 => ?_) (fun h21 => ?_)
        · skip
          -- to 30 10f.21t@30
          exact L30 (c) (by rw [← hs]; exact skip_en (fun z => h21 (by simpa using z.2))) (by first | assumption | omega)
        · skip
          refine F_incg d_X4_next_24 rfl (f := fun x_16 => [(0, vr 16), (1, vi x_16)]) (fun _ => rfl) (fun x_16 ex_16 => ?_)
          refine T_go d_X4_next_27 ?_
          -- to 5 10f.21f@5
          obtain rfl : x_16 = ((c + 1) : Int) := by omega
          exact ih5 (c + 1) (by omega) (by first | assumption | omega) (by rw [skip_st (by omega) (by simpa using h21), hs])
  obtain rfl : x_13 = (p : Int) := by omega
  exact L5 _ (p) (Nat.lt_succ_self _) (by first | assumption | omega) rfl
set_option maxHeartbeats 1000000 in
set_option maxRecDepth 100000 in
theorem R_X4_numberHere {G : GG} {V : VV} {R : RR}  {n f : Nat} (hB : Bd V) (hF : FinR R) (hn : V 16 1 = n) (hf : V 16 6 = f) (hfn : f ≤ n) (he : f < n → V 16 7 = tokE (V 17) n f) : RunsP G M_X4_numberHere 2 [vr 16] V R (vi (nuC (V 17) n f)) := by
  unfold RunsP
  refine Runs.of pn_X4 (Nat.le_of_ble_eq_true rfl) rfl ?_
  show TT G M_X4_numberHere (rmd 2 162 162) 162 (Zm G 162 162 (QP V R (vi (nuC (V 17) n f)))) 162 0 [(0, vr 16)] [] V R
  have hb17 : 0 ≤ V 16 1 ∧ V 16 1 ≤ 400 := hB.2 16 4 1 0 400 rfl rfl
  have hte := tokE_le (t := V 17) hfn
  have hso := sof_3 (V 17 f)
  have hso6 := sof_3 (V 17 (V 16 6).toNat)
  refine T_al d_X4_numberHere_0 rfl ?_
  refine F_gi d_X4_numberHere_1 rfl hB rfl (fun b_1 => ?_)
  refine T_al d_X4_numberHere_4 rfl ?_
  refine F_gi d_X4_numberHere_5 rfl hB rfl (fun b_2 => ?_)
  refine T_ige d_X4_numberHere_8 ⟨by omega, by omega⟩ ⟨by omega, by omega⟩ (fun h8 => ?_) (fun h8 => ?_)
  · skip
    refine T_k d_X4_numberHere_27 ?_
    -- leaf 8t@28
    exact P_I d_X4_numberHere_28 (by unfold nuC; rw [if_neg (by omega)])
  · skip
    refine T_al d_X4_numberHere_11 rfl ?_
    refine F_gr (b := 17) d_X4_numberHere_12 rfl hF rfl ?_
    refine T_al d_X4_numberHere_15 rfl ?_
    refine F_gi d_X4_numberHere_16 rfl hB rfl (fun b_3 => ?_)
    refine F_ia d_X4_numberHere_19 rfl hB rfl ⟨by omega, by omega⟩ (fun b_4 => ?_)
    try simp only [Int.toNat_natCast]
    try simp only [Int.toNat_natCast] at b_4
    refine C_ps1 d_X4_numberHere_20 (hdF (by decide)) (hcF _) (R_X4_sortOf ⟨by omega, by omega⟩) ?_
    refine T_k d_X4_numberHere_23 ?_
    refine T_ieq d_X4_numberHere_24 ⟨by omega, by omega⟩ ⟨by omega, by omega⟩ (fun h24 => ?_) (fun h24 => ?_)
    · skip
      have hfl : f < n := by omega
      have he7 := he hfl
      have hdb : isDb (V 17 f) = true := sof_d.mpr (by simpa [hf] using h24)
      refine T_k d_X4_numberHere_29 ?_
      refine T_is d_X4_numberHere_30 (ls' := [(0, vr 16), (1, vi 0)]) rfl ?_
      refine T_al d_X4_numberHere_31 rfl ?_
      refine F_gi d_X4_numberHere_32 rfl hB rfl (fun b_5 => ?_)
      refine F_isg d_X4_numberHere_35 (f := fun x_6 => [(0, vr 16), (1, vi 0), (2, vi x_6)]) (fun _ => rfl) (fun x_6 ex_6 => ?_)
      -- to 36 8f.24t@36
      have L36 : ∀ (fu : Nat) (y : Int) (c : Nat), 400 - c < fu → (f ≤ c ∧ c ≤ tokE (V 17) n f) → (y = if 100000 ≤ exF (V 17) f (c - f) then 100000 else exF (V 17) f (c - f)) → (0 ≤ exF (V 17) f (c - f)) → TT G M_X4_numberHere (rmd 2 162 162) 162 (Zm G 162 162 (QP V R (vi (nuC (V 17) n f)))) 162 36 [(0, vr 16), (1, vi y), (2, vi (c : Int))] [] V R := by
        intro fu
        induction fu with
        | zero => intro y c hm; exact absurd hm (Nat.not_lt_zero _)
        | succ fu ih36 =>
          intro y c hm36 hc hy hy0
          have hy1 : 0 ≤ y ∧ y ≤ 100000 := by rw [hy]; split <;> omega
          refine T_il d_X4_numberHere_36 rfl ?_
          refine T_al d_X4_numberHere_37 rfl ?_
          refine F_gi d_X4_numberHere_38 rfl hB rfl (fun b_7 => ?_)
          refine T_ige d_X4_numberHere_41 ⟨by omega, by omega⟩ ⟨by omega, by omega⟩ (fun h41 => ?_) (fun h41 => ?_)
          · skip
            refine T_il d_X4_numberHere_70 rfl ?_
            -- leaf 41t@71
            exact P_I d_X4_numberHere_71 (by unfold nuC; rw [if_pos ⟨hfl, hdb⟩, hy, show c = tokE (V 17) n f by omega]; rfl)
          · skip
            have hdg := dig_tok hfl hdb hc.1 (show c < tokE (V 17) n f by omega)
            refine T_k d_X4_numberHere_44 ?_
            refine T_il d_X4_numberHere_46 rfl ?_
            refine T_k d_X4_numberHere_47 ?_
            refine T_imul d_X4_numberHere_49 ?_
            refine T_al d_X4_numberHere_50 rfl ?_
            refine F_gr (b := 17) d_X4_numberHere_51 rfl hF rfl ?_
            refine T_il d_X4_numberHere_54 rfl ?_
            refine F_ia d_X4_numberHere_55 rfl hB rfl ⟨by omega, by omega⟩ (fun b_8 => ?_)
            try simp only [Int.toNat_natCast]
            try simp only [Int.toNat_natCast] at b_8
            refine T_iadd d_X4_numberHere_56 ?_
            refine T_k d_X4_numberHere_57 ?_
            refine T_isub d_X4_numberHere_59 ?_
            refine T_mmin d_X4_numberHere_60 ⟨by omega, by omega⟩ ⟨by omega, by omega⟩ (Nat.le_of_ble_eq_true rfl) (hmF _) ?_
            refine F_isg d_X4_numberHere_63 (f := fun x_9 => [(0, vr 16), (1, vi x_9), (2, vi (c : Int))]) (fun _ => rfl) (fun x_9 ex_9 => ?_)
            refine F_incg d_X4_numberHere_64 rfl (f := fun x_10 => [(0, vr 16), (1, vi x_9), (2, vi x_10)]) (fun _ => rfl) (fun x_10 ex_10 => ?_)
            refine T_go d_X4_numberHere_67 ?_
            -- to 36 41f@36
            have hcs : c + 1 - f = (c - f) + 1 := by omega
            have hce : f + (c - f) = c := by omega
            obtain rfl : x_10 = ((c + 1) : Int) := by omega
            exact ih36 x_9 (c + 1) (by omega) (by first | assumption | omega) (by rw [hcs, ex_s, hce]; have := cap_s hy0 (show 0 ≤ V 17 c by omega); rw [← this, ← hy]; first | omega | (subst_vars; split <;> omega)) (by rw [hcs, ex_s, hce]; omega)
      obtain rfl : x_6 = (f : Int) := by omega
      exact L36 _ 0 (f) (Nat.lt_succ_self _) (by first | assumption | omega) (by simp [exF]) (by simp [exF])
    · skip
      refine T_k d_X4_numberHere_27 ?_
      -- leaf 8f.24f@28
      exact P_I d_X4_numberHere_28 (by unfold nuC; rw [if_neg (fun z => h24 (by simpa [hf] using sof_d.mp z.2))])
