/-! the reference's tokens -/
theorem uV_uV {V : VV} {a i : Nat} {x y : Int} : uV (uV V a i x) a i y = uV V a i y := by
  funext k j
  unfold uV
  split <;> simp_all
def nextV (V : VV) (n p : Nat) : VV := uV (uV V 99 32 (skipB (V 120) n p)) 99 33 (tokE (V 120) n (skipB (V 120) n p))
theorem skip_st {t : Nat → Int} {n c : Nat} (h : c < n) (h2 : t c = 32) : skipB t n (c + 1) = skipB t n c := by
  show runB blB t n (c + 1) = runB blB t n c
  rw [runB_eq blB t n c, if_pos ⟨h, by unfold blB; exact decide_eq_true h2⟩]
theorem skip_en {t : Nat → Int} {n c : Nat} (h : ¬ (c < n ∧ t c = 32)) : skipB t n c = c := by
  show runB blB t n c = c
  rw [runB_eq blB t n c, if_neg (fun q => h ⟨q.1, by have := q.2; unfold blB at this; exact of_decide_eq_true this⟩)]
theorem run_st {b : Int → Bool} {t : Nat → Int} {n c : Nat} (h : c < n) (h2 : b (t c) = true) : runB b t n (c + 1) = runB b t n c := by
  rw [runB_eq b t n c, if_pos ⟨h, h2⟩]
theorem run_en {b : Int → Bool} {t : Nat → Int} {n c : Nat} (h : ¬ (c < n ∧ b (t c) = true)) : runB b t n c = c := by
  rw [runB_eq b t n c, if_neg h]
set_option maxHeartbeats 1000000 in
set_option maxRecDepth 100000 in
theorem R_X11_isIn {G : GG} {V : VV} {R : RR} {k : Int} {lo : Int} {hi : Int}  (hB : Bd V) (hF : FinR R) (hk : r32 k) (hlo : r32 lo) (hhi : r32 hi) (hk0 : 0 ≤ k) : RunsP G M_X11_isIn 1 [vr 99, vi k, vi lo, vi hi] V R (vi (bi (decide (k < V 99 31 ∧ lo ≤ V 120 k.toNat ∧ V 120 k.toNat ≤ hi)))) := by
  unfold RunsP
  refine Runs.of pn_X11 (Nat.le_of_ble_eq_true rfl) rfl ?_
  show TT G M_X11_isIn (rmd 1 162 162) 162 (Zm G 162 162 (QP V R (vi (bi (decide (k < V 99 31 ∧ lo ≤ V 120 k.toNat ∧ V 120 k.toNat ≤ hi)))))) 162 0 [(0, vr 99), (1, vi k), (2, vi lo), (3, vi hi)] [] V R
  obtain ⟨hk1, hk2⟩ := hk
  obtain ⟨hlo1, hlo2⟩ := hlo
  obtain ⟨hhi1, hhi2⟩ := hhi
  refine T_il d_X11_isIn_0 rfl ?_
  refine T_al d_X11_isIn_1 rfl ?_
  refine F_gi d_X11_isIn_2 rfl hB rfl (fun b_1 => ?_)
  refine T_ige d_X11_isIn_5 ⟨by omega, by omega⟩ ⟨by omega, by omega⟩ (fun h5 => ?_) (fun h5 => ?_)
  · skip
    refine T_k d_X11_isIn_32 ?_
    -- leaf 5t@33
    exact P_F d_X11_isIn_33 (by first | omega | grind)
  · skip
    refine T_al d_X11_isIn_8 rfl ?_
    refine F_gr (b := 120) d_X11_isIn_9 rfl hF rfl ?_
    refine T_il d_X11_isIn_12 rfl ?_
    refine F_ba d_X11_isIn_13 rfl hB rfl ⟨by omega, by omega⟩ (fun b_2 => ?_)
    try simp only [Int.toNat_natCast]
    try simp only [Int.toNat_natCast] at b_2
    refine T_il d_X11_isIn_14 rfl ?_
    refine T_ilt d_X11_isIn_15 ⟨by omega, by omega⟩ ⟨by omega, by omega⟩ (fun h15 => ?_) (fun h15 => ?_)
    · skip
      refine T_k d_X11_isIn_32 ?_
      -- leaf 5f.15t@33
      exact P_F d_X11_isIn_33 (by first | omega | grind)
    · skip
      refine T_al d_X11_isIn_18 rfl ?_
      refine F_gr (b := 120) d_X11_isIn_19 rfl hF rfl ?_
      refine T_il d_X11_isIn_22 rfl ?_
      refine F_ba d_X11_isIn_23 rfl hB rfl ⟨by omega, by omega⟩ (fun b_3 => ?_)
      try simp only [Int.toNat_natCast]
      try simp only [Int.toNat_natCast] at b_3
      refine T_il d_X11_isIn_24 rfl ?_
      refine T_igt d_X11_isIn_25 ⟨by omega, by omega⟩ ⟨by omega, by omega⟩ (fun h25 => ?_) (fun h25 => ?_)
      · skip
        refine T_k d_X11_isIn_32 ?_
        -- leaf 5f.15f.25t@33
        exact P_F d_X11_isIn_33 (by first | omega | grind)
      · skip
        refine T_k d_X11_isIn_28 ?_
        refine T_go d_X11_isIn_29 ?_
        -- leaf 5f.15f.25f@33
        exact P_T d_X11_isIn_33 (by first | omega | grind)
set_option maxHeartbeats 1000000 in
set_option maxRecDepth 100000 in
theorem R_X11_isSign {G : GG} {V : VV} {R : RR} {c : Int}  (hB : Bd V) (hF : FinR R) (hc : r32 c) : RunsP G M_X11_isSign 1 [vr 99, vi c] V R (vi (bi (decide (V 99 32 < V 99 31 ∧ V 120 (V 99 32).toNat = c)))) := by
  unfold RunsP
  refine Runs.of pn_X11 (Nat.le_of_ble_eq_true rfl) rfl ?_
  show TT G M_X11_isSign (rmd 1 162 162) 162 (Zm G 162 162 (QP V R (vi (bi (decide (V 99 32 < V 99 31 ∧ V 120 (V 99 32).toNat = c)))))) 162 0 [(0, vr 99), (1, vi c)] [] V R
  obtain ⟨hc1, hc2⟩ := hc
  refine T_al d_X11_isSign_0 rfl ?_
  refine F_gi d_X11_isSign_1 rfl hB rfl (fun b_1 => ?_)
  refine T_al d_X11_isSign_4 rfl ?_
  refine F_gi d_X11_isSign_5 rfl hB rfl (fun b_2 => ?_)
  refine T_ige d_X11_isSign_8 ⟨by omega, by omega⟩ ⟨by omega, by omega⟩ (fun h8 => ?_) (fun h8 => ?_)
  · skip
    refine T_k d_X11_isSign_28 ?_
    -- leaf 8t@29
    exact P_F d_X11_isSign_29 (by first | omega | grind)
  · skip
    refine T_al d_X11_isSign_11 rfl ?_
    refine F_gr (b := 120) d_X11_isSign_12 rfl hF rfl ?_
    refine T_al d_X11_isSign_15 rfl ?_
    refine F_gi d_X11_isSign_16 rfl hB rfl (fun b_3 => ?_)
    refine F_ba d_X11_isSign_19 rfl hB rfl ⟨by omega, by omega⟩ (fun b_4 => ?_)
    try simp only [Int.toNat_natCast]
    try simp only [Int.toNat_natCast] at b_4
    refine T_il d_X11_isSign_20 rfl ?_
    refine T_ine d_X11_isSign_21 ⟨by omega, by omega⟩ ⟨by omega, by omega⟩ (fun h21 => ?_) (fun h21 => ?_)
    · skip
      refine T_k d_X11_isSign_28 ?_
      -- leaf 8f.21t@29
      exact P_F d_X11_isSign_29 (by first | omega | grind)
    · skip
      refine T_k d_X11_isSign_24 ?_
      refine T_go d_X11_isSign_25 ?_
      -- leaf 8f.21f@29
      exact P_T d_X11_isSign_29 (by first | omega | grind)
set_option maxHeartbeats 1000000 in
set_option maxRecDepth 100000 in
theorem R_X11_good {G : GG} {V : VV} {R : RR}   (hB : Bd V) (hF : FinR R) : RunsP G M_X11_good 1 [vr 99] V R (vi (bi (decide (V 99 35 = -1)))) := by
  unfold RunsP
  refine Runs.of pn_X11 (Nat.le_of_ble_eq_true rfl) rfl ?_
  show TT G M_X11_good (rmd 1 162 162) 162 (Zm G 162 162 (QP V R (vi (bi (decide (V 99 35 = -1)))))) 162 0 [(0, vr 99)] [] V R
  refine T_al d_X11_good_0 rfl ?_
  refine F_gi d_X11_good_1 rfl hB rfl (fun b_1 => ?_)
  refine T_k d_X11_good_4 ?_
  refine T_ine d_X11_good_5 ⟨by omega, by omega⟩ ⟨by omega, by omega⟩ (fun h5 => ?_) (fun h5 => ?_)
  · skip
    refine T_k d_X11_good_12 ?_
    -- leaf 5t@13
    exact P_F d_X11_good_13 (by first | omega | grind)
  · skip
    refine T_k d_X11_good_8 ?_
    refine T_go d_X11_good_9 ?_
    -- leaf 5f@13
    exact P_T d_X11_good_13 (by first | omega | grind)
set_option maxHeartbeats 1000000 in
set_option maxRecDepth 100000 in
theorem R_X11_faults {G : GG} {V : VV} {R : RR}   (hB : Bd V) (hF : FinR R) : Runs G M_X11_faults 2 162 162 [vr 99] V R (QU R (if V 99 35 = -1 then uV V 99 35 (V 99 32) else V)) := by
  refine Runs.of pn_X11 (Nat.le_of_ble_eq_true rfl) rfl ?_
  show TT G M_X11_faults (rmd 2 162 162) 162 (Zm G 162 162 (QU R (if V 99 35 = -1 then uV V 99 35 (V 99 32) else V))) 162 0 [(0, vr 99)] [] V R
  refine T_al d_X11_faults_0 rfl ?_
  refine C_pv0 d_X11_faults_1 rfl (hdF (by decide)) (hcF _) (R_X11_good (by first | assumption | omega | exact ⟨by omega, by omega⟩ | (subst_vars; simp_all [uV]; done) | grind [uV]) (by first | assumption | omega | exact ⟨by omega, by omega⟩ | (subst_vars; simp_all [uV]; done) | grind [uV])) ?_
  refine T_pz0 d_X11_faults_4 (fun h4 => ?_) (fun h4 => ?_)
  · skip
    -- leaf 4t@15
    refine T_vret d_X11_faults_15 rfl ?_
    refine ⟨rfl, ?_, rfl, hB⟩
    subst_vars
    simp_all
  · skip
    refine T_al d_X11_faults_7 rfl ?_
    refine T_al d_X11_faults_8 rfl ?_
    refine F_gi d_X11_faults_9 rfl hB rfl (fun b_1 => ?_)
    refine F_pi d_X11_faults_12 rfl hB rfl ⟨by omega, by omega⟩ (fun V_2 eV_2 hBV_2 => ?_)
    -- leaf 4f@15
    refine T_vret d_X11_faults_15 rfl ?_
    refine ⟨rfl, ?_, rfl, hBV_2⟩
    subst_vars
    simp_all
set_option maxHeartbeats 1000000 in
set_option maxRecDepth 100000 in
theorem R_X11_next {G : GG} {V : VV} {R : RR}  {n p : Nat} (hB : Bd V) (hF : FinR R) (hn : V 99 31 = n) (hp : V 99 33 = p) (hpn : p ≤ n) : Runs G M_X11_next 3 162 162 [vr 99] V R (QU R (nextV V n p)) := by
  refine Runs.of pn_X11 (Nat.le_of_ble_eq_true rfl) rfl ?_
  show TT G M_X11_next (rmd 3 162 162) 162 (Zm G 162 162 (QU R (nextV V n p))) 162 0 [(0, vr 99)] [] V R
  refine T_al d_X11_next_0 rfl ?_
  refine T_al d_X11_next_1 rfl ?_
  refine F_gi d_X11_next_2 rfl hB rfl (fun b_1 => ?_)
  refine F_pi d_X11_next_5 rfl hB rfl ⟨by omega, by omega⟩ (fun V_2 eV_2 hBV_2 => ?_)
  -- to 8 @8
  have L8 : ∀ (fu : Nat) (W : VV) (c : Nat), n - c < fu → (Bd W) → (W = uV V 99 32 (c : Int)) → (p ≤ c ∧ c ≤ n) → (skipB (V 120) n c = skipB (V 120) n p) → TT G M_X11_next (rmd 3 162 162) 162 (Zm G 162 162 (QU R (nextV V n p))) 162 8 [(0, vr 99)] [] W R := by
    intro fu
    induction fu with
    | zero => intro W c hm; exact absurd hm (Nat.not_lt_zero _)
    | succ fu ih8 =>
      intro W c hm8 hBW eW hc hs
      refine T_al d_X11_next_8 rfl ?_
      refine F_gi d_X11_next_9 rfl hBW rfl (fun b_3 => ?_)
      have gW_99_32 := (congrFun (congrFun eW 99) 32).trans uV_self
      rw [gW_99_32]
      rw [gW_99_32] at b_3
      refine T_al d_X11_next_12 rfl ?_
      refine F_gi d_X11_next_13 rfl hBW rfl (fun b_4 => ?_)
      have fW_99_31 : W 99 31 = V 99 31 := by rw [eW]; rfl
      rw [fW_99_31]
      rw [fW_99_31] at b_4
      refine T_ige d_X11_next_16 ⟨by omega, by omega⟩ ⟨by omega, by omega⟩ (fun h16 => ?_) (fun h16 => ?_)
      · skip
        refine T_al d_X11_next_46 rfl ?_
        refine T_al d_X11_next_47 rfl ?_
        refine F_gi d_X11_next_48 rfl hBW rfl (fun b_5 => ?_)
        have gW_99_32 := (congrFun (congrFun eW 99) 32).trans uV_self
        rw [gW_99_32]
        rw [gW_99_32] at b_5
        refine F_pi d_X11_next_51 rfl hBW rfl ⟨by omega, by omega⟩ (fun V_6 eV_6 hBV_6 => ?_)
        refine T_al d_X11_next_54 rfl ?_
        refine F_gi d_X11_next_55 rfl hBV_6 rfl (fun b_7 => ?_)
        have fV_6_99_32 : V_6 99 32 = W 99 32 := by rw [eV_6]; rfl
        have gV_6_99_32 := (congrFun (congrFun eW 99) 32).trans uV_self
        rw [fV_6_99_32, gV_6_99_32]
        rw [fV_6_99_32, gV_6_99_32] at b_7
        refine T_al d_X11_next_58 rfl ?_
        refine F_gi d_X11_next_59 rfl hBV_6 rfl (fun b_8 => ?_)
        have fV_6_99_31 : V_6 99 31 = V 99 31 := by rw [eV_6, eW]; rfl
        rw [fV_6_99_31]
        rw [fV_6_99_31] at b_8
        refine T_ine d_X11_next_62 ⟨by omega, by omega⟩ ⟨by omega, by omega⟩ (fun h62 => ?_) (fun h62 => ?_)
        · skip
          -- to 66 16t.62t@66
          have L66 : ∀ (X : VV) (q : Nat), (Bd X) → (X = uV (uV V 99 32 (q : Int)) 99 33 (q : Int)) → (skipB (V 120) n p = q) → (q < n) → TT G M_X11_next (rmd 3 162 162) 162 (Zm G 162 162 (QU R (nextV V n p))) 162 66 [(0, vr 99)] [] X R := by
            intro X q hBX eX hq hqn
            obtain ⟨Y, eY⟩ : ∃ Y, Y = uV V 99 32 (q : Int) := ⟨_, rfl⟩
            rw [← eY] at eX
            have x1 : X 99 31 = n := by rw [eX, eY]; exact hn
            have x2 : X 120 = V 120 := by rw [eX, eY]; rfl
            refine T_al d_X11_next_66 rfl ?_
            refine T_al d_X11_next_67 rfl ?_
            refine F_gi d_X11_next_68 rfl hBX rfl (fun b_9 => ?_)
            have fX_99_32 : X 99 32 = Y 99 32 := by rw [eX]; rfl
            have gX_99_32 := (congrFun (congrFun eY 99) 32).trans uV_self
            rw [fX_99_32, gX_99_32]
            rw [fX_99_32, gX_99_32] at b_9
            refine T_k d_X11_next_71 ?_
            refine T_k d_X11_next_73 ?_
            refine C_pv3 d_X11_next_75 rfl (hdF (by decide)) (hcF _) (R_X11_isIn (by first | assumption | omega | exact ⟨by omega, by omega⟩ | (subst_vars; simp_all [uV]; done) | grind [uV]) (by first | assumption | omega | exact ⟨by omega, by omega⟩ | (subst_vars; simp_all [uV]; done) | grind [uV]) (by first | assumption | omega | exact ⟨by omega, by omega⟩ | (subst_vars; simp_all [uV]; done) | grind [uV]) (by first | assumption | omega | exact ⟨by omega, by omega⟩ | (subst_vars; simp_all [uV]; done) | grind [uV]) (by first | assumption | omega | exact ⟨by omega, by omega⟩ | (subst_vars; simp_all [uV]; done) | grind [uV]) (by first | assumption | omega | exact ⟨by omega, by omega⟩ | (subst_vars; simp_all [uV]; done) | grind [uV])) ?_
            refine T_pz0 d_X11_next_78 (fun h78 => ?_) (fun h78 => ?_)
            · skip
              have hL : ¬ isLb (V 120 q) = true := fun z => h78 ⟨by omega, by rw [x2]; have := of_decide_eq_true z; simpa using this⟩
              refine T_al d_X11_next_109 rfl ?_
              refine T_al d_X11_next_110 rfl ?_
              refine F_gi d_X11_next_111 rfl hBX rfl (fun b_10 => ?_)
              have fX_99_32 : X 99 32 = Y 99 32 := by rw [eX]; rfl
              have gX_99_32 := (congrFun (congrFun eY 99) 32).trans uV_self
              rw [fX_99_32, gX_99_32]
              rw [fX_99_32, gX_99_32] at b_10
              refine T_k d_X11_next_114 ?_
              refine T_k d_X11_next_116 ?_
              refine C_pv3 d_X11_next_118 rfl (hdF (by decide)) (hcF _) (R_X11_isIn (by first | assumption | omega | exact ⟨by omega, by omega⟩ | (subst_vars; simp_all [uV]; done) | grind [uV]) (by first | assumption | omega | exact ⟨by omega, by omega⟩ | (subst_vars; simp_all [uV]; done) | grind [uV]) (by first | assumption | omega | exact ⟨by omega, by omega⟩ | (subst_vars; simp_all [uV]; done) | grind [uV]) (by first | assumption | omega | exact ⟨by omega, by omega⟩ | (subst_vars; simp_all [uV]; done) | grind [uV]) (by first | assumption | omega | exact ⟨by omega, by omega⟩ | (subst_vars; simp_all [uV]; done) | grind [uV]) (by first | assumption | omega | exact ⟨by omega, by omega⟩ | (subst_vars; simp_all [uV]; done) | grind [uV])) ?_
              refine T_pz0 d_X11_next_121 (fun h121 => ?_) (fun h121 => ?_)
              · skip
                have hD : ¬ isDb (V 120 q) = true := fun z => h121 ⟨by omega, by rw [x2]; have := of_decide_eq_true z; simpa using this⟩
                refine T_al d_X11_next_152 rfl ?_
                refine T_dup d_X11_next_153 rfl ?_
                refine F_gi d_X11_next_154 rfl hBX rfl (fun b_11 => ?_)
                have gX_99_33 := (congrFun (congrFun eX 99) 33).trans uV_self
                rw [gX_99_33]
                rw [gX_99_33] at b_11
                refine T_k d_X11_next_157 ?_
                refine T_iadd d_X11_next_158 ?_
                refine F_pi d_X11_next_159 rfl hBX rfl ⟨by omega, by omega⟩ (fun V_12 eV_12 hBV_12 => ?_)
                -- leaf 78t.121t@162
                refine T_vret d_X11_next_162 rfl ?_
                refine ⟨rfl, ?_, rfl, hBV_12⟩
                rw [eV_12, eX, eY, uV_uV]
                unfold nextV
                rw [hq]
                congr 1
                unfold tokE
                rw [if_neg (by omega), if_neg hL, if_neg hD]
                rfl
              · skip
                -- to 124 78t.121f@124
                have L124 : ∀ (fu : Nat) (W2 : VV) (c : Nat), n - c < fu → (Bd W2) → (W2 = uV Y 99 33 (c : Int)) → (q ≤ c ∧ c ≤ n) → (runB isDb (V 120) n c = runB isDb (V 120) n q) → TT G M_X11_next (rmd 3 162 162) 162 (Zm G 162 162 (QU R (nextV V n p))) 162 124 [(0, vr 99)] [] W2 R := by
                  intro fu
                  induction fu with
                  | zero => intro W2 c hm; exact absurd hm (Nat.not_lt_zero _)
                  | succ fu ih124 =>
                    intro W2 c hm124 hBW2 eW2 hc hr
                    have w1 : W2 99 31 = n := by rw [eW2, eY]; exact hn
                    have w2 : W2 120 = V 120 := by rw [eW2, eY]; rfl
                    have w3 : W2 99 33 = c := by rw [eW2]; exact uV_self
                    have hD : isDb (V 120 q) = true := by
                      rw [x1, x2] at h121
                      exact decide_eq_true (by simpa using h121.2)
                    refine T_al d_X11_next_124 rfl ?_
                    refine T_al d_X11_next_125 rfl ?_
                    refine F_gi d_X11_next_126 rfl hBW2 rfl (fun b_13 => ?_)
                    have gW2_99_33 := (congrFun (congrFun eW2 99) 33).trans uV_self
                    rw [gW2_99_33]
                    rw [gW2_99_33] at b_13
                    refine T_k d_X11_next_129 ?_
                    refine T_k d_X11_next_131 ?_
                    refine C_pv3 d_X11_next_133 rfl (hdF (by decide)) (hcF _) (R_X11_isIn (by first | assumption | omega | exact ⟨by omega, by omega⟩ | (subst_vars; simp_all [uV]; done) | grind [uV]) (by first | assumption | omega | exact ⟨by omega, by omega⟩ | (subst_vars; simp_all [uV]; done) | grind [uV]) (by first | assumption | omega | exact ⟨by omega, by omega⟩ | (subst_vars; simp_all [uV]; done) | grind [uV]) (by first | assumption | omega | exact ⟨by omega, by omega⟩ | (subst_vars; simp_all [uV]; done) | grind [uV]) (by first | assumption | omega | exact ⟨by omega, by omega⟩ | (subst_vars; simp_all [uV]; done) | grind [uV]) (by first | assumption | omega | exact ⟨by omega, by omega⟩ | (subst_vars; simp_all [uV]; done) | grind [uV])) ?_
                    refine T_pz0 d_X11_next_136 (fun h136 => ?_) (fun h136 => ?_)
                    · skip
                      -- leaf 136t@162
                      refine T_vret d_X11_next_162 rfl ?_
                      rw [w1, w2] at h136
                      refine ⟨rfl, ?_, rfl, hBW2⟩
                      rw [eW2, eY]
                      unfold nextV
                      rw [hq]
                      congr 1
                      unfold tokE
                      rw [if_neg (by omega), if_neg hL, if_pos hD, ← hr, run_en (fun z => h136 ⟨by omega, by have := of_decide_eq_true z.2; simpa using this⟩)]
                    · skip
                      refine T_al d_X11_next_139 rfl ?_
                      refine T_dup d_X11_next_140 rfl ?_
                      refine F_gi d_X11_next_141 rfl hBW2 rfl (fun b_14 => ?_)
                      have gW2_99_33 := (congrFun (congrFun eW2 99) 33).trans uV_self
                      rw [gW2_99_33]
                      rw [gW2_99_33] at b_14
                      refine T_k d_X11_next_144 ?_
                      refine T_iadd d_X11_next_145 ?_
                      refine F_pi d_X11_next_146 rfl hBW2 rfl ⟨by omega, by omega⟩ (fun V_15 eV_15 hBV_15 => ?_)
                      refine T_go d_X11_next_149 ?_
                      -- to 124 136f@124
                      exact ih124 V_15 (c + 1) (by omega) hBV_15 (by rw [eV_15, eW2, uV_uV]; congr 1) (by first | assumption | omega) (by rw [w1, w2] at h136; rw [run_st (by omega) (decide_eq_true (by simpa using h136.2)), hr])
                exact L124 _ X (q) (Nat.lt_succ_self _) hBX eX (by first | assumption | omega) rfl
            · skip
              -- to 81 78f@81
              have L81 : ∀ (fu : Nat) (W2 : VV) (c : Nat), n - c < fu → (Bd W2) → (W2 = uV Y 99 33 (c : Int)) → (q ≤ c ∧ c ≤ n) → (runB isLb (V 120) n c = runB isLb (V 120) n q) → TT G M_X11_next (rmd 3 162 162) 162 (Zm G 162 162 (QU R (nextV V n p))) 162 81 [(0, vr 99)] [] W2 R := by
                intro fu
                induction fu with
                | zero => intro W2 c hm; exact absurd hm (Nat.not_lt_zero _)
                | succ fu ih81 =>
                  intro W2 c hm81 hBW2 eW2 hc hr
                  have w1 : W2 99 31 = n := by rw [eW2, eY]; exact hn
                  have w2 : W2 120 = V 120 := by rw [eW2, eY]; rfl
                  have w3 : W2 99 33 = c := by rw [eW2]; exact uV_self
                  have hL : isLb (V 120 q) = true := by
                    rw [x1, x2] at h78
                    exact decide_eq_true (by simpa using h78.2)
                  refine T_al d_X11_next_81 rfl ?_
                  refine T_al d_X11_next_82 rfl ?_
                  refine F_gi d_X11_next_83 rfl hBW2 rfl (fun b_16 => ?_)
                  have gW2_99_33 := (congrFun (congrFun eW2 99) 33).trans uV_self
                  rw [gW2_99_33]
                  rw [gW2_99_33] at b_16
                  refine T_k d_X11_next_86 ?_
                  refine T_k d_X11_next_88 ?_
                  refine C_pv3 d_X11_next_90 rfl (hdF (by decide)) (hcF _) (R_X11_isIn (by first | assumption | omega | exact ⟨by omega, by omega⟩ | (subst_vars; simp_all [uV]; done) | grind [uV]) (by first | assumption | omega | exact ⟨by omega, by omega⟩ | (subst_vars; simp_all [uV]; done) | grind [uV]) (by first | assumption | omega | exact ⟨by omega, by omega⟩ | (subst_vars; simp_all [uV]; done) | grind [uV]) (by first | assumption | omega | exact ⟨by omega, by omega⟩ | (subst_vars; simp_all [uV]; done) | grind [uV]) (by first | assumption | omega | exact ⟨by omega, by omega⟩ | (subst_vars; simp_all [uV]; done) | grind [uV]) (by first | assumption | omega | exact ⟨by omega, by omega⟩ | (subst_vars; simp_all [uV]; done) | grind [uV])) ?_
                  refine T_pz0 d_X11_next_93 (fun h93 => ?_) (fun h93 => ?_)
                  · skip
                    -- leaf 93t@162
                    refine T_vret d_X11_next_162 rfl ?_
                    rw [w1, w2] at h93
                    refine ⟨rfl, ?_, rfl, hBW2⟩
                    rw [eW2, eY]
                    unfold nextV
                    rw [hq]
                    congr 1
                    unfold tokE
                    rw [if_neg (by omega), if_pos hL, ← hr, run_en (fun z => h93 ⟨by omega, by have := of_decide_eq_true z.2; simpa using this⟩)]
                  · skip
                    refine T_al d_X11_next_96 rfl ?_
                    refine T_dup d_X11_next_97 rfl ?_
                    refine F_gi d_X11_next_98 rfl hBW2 rfl (fun b_17 => ?_)
                    have gW2_99_33 := (congrFun (congrFun eW2 99) 33).trans uV_self
                    rw [gW2_99_33]
                    rw [gW2_99_33] at b_17
                    refine T_k d_X11_next_101 ?_
                    refine T_iadd d_X11_next_102 ?_
                    refine F_pi d_X11_next_103 rfl hBW2 rfl ⟨by omega, by omega⟩ (fun V_18 eV_18 hBV_18 => ?_)
                    refine T_go d_X11_next_106 ?_
                    -- to 81 93f@81
                    exact ih81 V_18 (c + 1) (by omega) hBV_18 (by rw [eV_18, eW2, uV_uV]; congr 1) (by first | assumption | omega) (by rw [w1, w2] at h93; rw [run_st (by omega) (decide_eq_true (by simpa using h93.2)), hr])
              exact L81 _ X (q) (Nat.lt_succ_self _) hBX eX (by first | assumption | omega) rfl
          exact L66 V_6 (c) hBV_6 (by rw [eV_6, eW]) (by rw [← hs]; exact skip_en (by first | omega | (intro z; exact h30 (by simpa using z.2)))) (by first | assumption | omega)
        · skip
          -- leaf 16t.62f@65
          refine T_vret d_X11_next_65 rfl ?_
          refine ⟨rfl, ?_, rfl, hBV_6⟩
          rw [eV_6, eW]
          unfold nextV
          have hq : skipB (V 120) n p = c := by rw [← hs]; exact skip_en (by first | omega | (intro z; exact h30 (by simpa using z.2)))
          rw [hq]
          congr 1
          unfold tokE
          rw [if_pos (by omega)]
      · skip
        refine T_al d_X11_next_19 rfl ?_
        refine F_gr (b := 120) d_X11_next_20 rfl hF rfl ?_
        refine T_al d_X11_next_23 rfl ?_
        refine F_gi d_X11_next_24 rfl hBW rfl (fun b_19 => ?_)
        have gW_99_32 := (congrFun (congrFun eW 99) 32).trans uV_self
        rw [gW_99_32]
        rw [gW_99_32] at b_19
        refine F_ba d_X11_next_27 rfl hBW rfl ⟨by omega, by omega⟩ (fun b_20 => ?_)
        have faW_120 : W 120 = V 120 := by rw [eW]; rfl
        rw [faW_120]
        rw [faW_120] at b_20
        try simp only [Int.toNat_natCast]
        try simp only [Int.toNat_natCast] at b_20
        refine T_k d_X11_next_28 ?_
        refine T_ine d_X11_next_30 ⟨by omega, by omega⟩ ⟨by omega, by omega⟩ (fun h30 => ?_) (fun h30 => ?_)
        · skip
          refine T_al d_X11_next_46 rfl ?_
          refine T_al d_X11_next_47 rfl ?_
          refine F_gi d_X11_next_48 rfl hBW rfl (fun b_21 => ?_)
          have gW_99_32 := (congrFun (congrFun eW 99) 32).trans uV_self
          rw [gW_99_32]
          rw [gW_99_32] at b_21
          refine F_pi d_X11_next_51 rfl hBW rfl ⟨by omega, by omega⟩ (fun V_22 eV_22 hBV_22 => ?_)
          refine T_al d_X11_next_54 rfl ?_
          refine F_gi d_X11_next_55 rfl hBV_22 rfl (fun b_23 => ?_)
          have fV_22_99_32 : V_22 99 32 = W 99 32 := by rw [eV_22]; rfl
          have gV_22_99_32 := (congrFun (congrFun eW 99) 32).trans uV_self
          rw [fV_22_99_32, gV_22_99_32]
          rw [fV_22_99_32, gV_22_99_32] at b_23
          refine T_al d_X11_next_58 rfl ?_
          refine F_gi d_X11_next_59 rfl hBV_22 rfl (fun b_24 => ?_)
          have fV_22_99_31 : V_22 99 31 = V 99 31 := by rw [eV_22, eW]; rfl
          rw [fV_22_99_31]
          rw [fV_22_99_31] at b_24
          refine T_ine d_X11_next_62 ⟨by omega, by omega⟩ ⟨by omega, by omega⟩ (fun h62 => ?_) (fun h62 => ?_)
          · skip
            -- to 66 16f.30t.62t@66
            have L66 : ∀ (X : VV) (q : Nat), (Bd X) → (X = uV (uV V 99 32 (q : Int)) 99 33 (q : Int)) → (skipB (V 120) n p = q) → (q < n) → TT G M_X11_next (rmd 3 162 162) 162 (Zm G 162 162 (QU R (nextV V n p))) 162 66 [(0, vr 99)] [] X R := by
              intro X q hBX eX hq hqn
              obtain ⟨Y, eY⟩ : ∃ Y, Y = uV V 99 32 (q : Int) := ⟨_, rfl⟩
              rw [← eY] at eX
              have x1 : X 99 31 = n := by rw [eX, eY]; exact hn
              have x2 : X 120 = V 120 := by rw [eX, eY]; rfl
              refine T_al d_X11_next_66 rfl ?_
              refine T_al d_X11_next_67 rfl ?_
              refine F_gi d_X11_next_68 rfl hBX rfl (fun b_25 => ?_)
              have fX_99_32 : X 99 32 = Y 99 32 := by rw [eX]; rfl
              have gX_99_32 := (congrFun (congrFun eY 99) 32).trans uV_self
              rw [fX_99_32, gX_99_32]
              rw [fX_99_32, gX_99_32] at b_25
              refine T_k d_X11_next_71 ?_
              refine T_k d_X11_next_73 ?_
              refine C_pv3 d_X11_next_75 rfl (hdF (by decide)) (hcF _) (R_X11_isIn (by first | assumption | omega | exact ⟨by omega, by omega⟩ | (subst_vars; simp_all [uV]; done) | grind [uV]) (by first | assumption | omega | exact ⟨by omega, by omega⟩ | (subst_vars; simp_all [uV]; done) | grind [uV]) (by first | assumption | omega | exact ⟨by omega, by omega⟩ | (subst_vars; simp_all [uV]; done) | grind [uV]) (by first | assumption | omega | exact ⟨by omega, by omega⟩ | (subst_vars; simp_all [uV]; done) | grind [uV]) (by first | assumption | omega | exact ⟨by omega, by omega⟩ | (subst_vars; simp_all [uV]; done) | grind [uV]) (by first | assumption | omega | exact ⟨by omega, by omega⟩ | (subst_vars; simp_all [uV]; done) | grind [uV])) ?_
              refine T_pz0 d_X11_next_78 (fun h78 => ?_) (fun h78 => ?_)
              · skip
                have hL : ¬ isLb (V 120 q) = true := fun z => h78 ⟨by omega, by rw [x2]; have := of_decide_eq_true z; simpa using this⟩
                refine T_al d_X11_next_109 rfl ?_
                refine T_al d_X11_next_110 rfl ?_
                refine F_gi d_X11_next_111 rfl hBX rfl (fun b_26 => ?_)
                have fX_99_32 : X 99 32 = Y 99 32 := by rw [eX]; rfl
                have gX_99_32 := (congrFun (congrFun eY 99) 32).trans uV_self
                rw [fX_99_32, gX_99_32]
                rw [fX_99_32, gX_99_32] at b_26
                refine T_k d_X11_next_114 ?_
                refine T_k d_X11_next_116 ?_
                refine C_pv3 d_X11_next_118 rfl (hdF (by decide)) (hcF _) (R_X11_isIn (by first | assumption | omega | exact ⟨by omega, by omega⟩ | (subst_vars; simp_all [uV]; done) | grind [uV]) (by first | assumption | omega | exact ⟨by omega, by omega⟩ | (subst_vars; simp_all [uV]; done) | grind [uV]) (by first | assumption | omega | exact ⟨by omega, by omega⟩ | (subst_vars; simp_all [uV]; done) | grind [uV]) (by first | assumption | omega | exact ⟨by omega, by omega⟩ | (subst_vars; simp_all [uV]; done) | grind [uV]) (by first | assumption | omega | exact ⟨by omega, by omega⟩ | (subst_vars; simp_all [uV]; done) | grind [uV]) (by first | assumption | omega | exact ⟨by omega, by omega⟩ | (subst_vars; simp_all [uV]; done) | grind [uV])) ?_
                refine T_pz0 d_X11_next_121 (fun h121 => ?_) (fun h121 => ?_)
                · skip
                  have hD : ¬ isDb (V 120 q) = true := fun z => h121 ⟨by omega, by rw [x2]; have := of_decide_eq_true z; simpa using this⟩
                  refine T_al d_X11_next_152 rfl ?_
                  refine T_dup d_X11_next_153 rfl ?_
                  refine F_gi d_X11_next_154 rfl hBX rfl (fun b_27 => ?_)
                  have gX_99_33 := (congrFun (congrFun eX 99) 33).trans uV_self
                  rw [gX_99_33]
                  rw [gX_99_33] at b_27
                  refine T_k d_X11_next_157 ?_
                  refine T_iadd d_X11_next_158 ?_
                  refine F_pi d_X11_next_159 rfl hBX rfl ⟨by omega, by omega⟩ (fun V_28 eV_28 hBV_28 => ?_)
                  -- leaf 78t.121t@162
                  refine T_vret d_X11_next_162 rfl ?_
                  refine ⟨rfl, ?_, rfl, hBV_28⟩
                  rw [eV_28, eX, eY, uV_uV]
                  unfold nextV
                  rw [hq]
                  congr 1
                  unfold tokE
                  rw [if_neg (by omega), if_neg hL, if_neg hD]
                  rfl
                · skip
                  -- to 124 78t.121f@124
                  have L124 : ∀ (fu : Nat) (W2 : VV) (c : Nat), n - c < fu → (Bd W2) → (W2 = uV Y 99 33 (c : Int)) → (q ≤ c ∧ c ≤ n) → (runB isDb (V 120) n c = runB isDb (V 120) n q) → TT G M_X11_next (rmd 3 162 162) 162 (Zm G 162 162 (QU R (nextV V n p))) 162 124 [(0, vr 99)] [] W2 R := by
                    intro fu
                    induction fu with
                    | zero => intro W2 c hm; exact absurd hm (Nat.not_lt_zero _)
                    | succ fu ih124 =>
                      intro W2 c hm124 hBW2 eW2 hc hr
                      have w1 : W2 99 31 = n := by rw [eW2, eY]; exact hn
                      have w2 : W2 120 = V 120 := by rw [eW2, eY]; rfl
                      have w3 : W2 99 33 = c := by rw [eW2]; exact uV_self
                      have hD : isDb (V 120 q) = true := by
                        rw [x1, x2] at h121
                        exact decide_eq_true (by simpa using h121.2)
                      refine T_al d_X11_next_124 rfl ?_
                      refine T_al d_X11_next_125 rfl ?_
                      refine F_gi d_X11_next_126 rfl hBW2 rfl (fun b_29 => ?_)
                      have gW2_99_33 := (congrFun (congrFun eW2 99) 33).trans uV_self
                      rw [gW2_99_33]
                      rw [gW2_99_33] at b_29
                      refine T_k d_X11_next_129 ?_
                      refine T_k d_X11_next_131 ?_
                      refine C_pv3 d_X11_next_133 rfl (hdF (by decide)) (hcF _) (R_X11_isIn (by first | assumption | omega | exact ⟨by omega, by omega⟩ | (subst_vars; simp_all [uV]; done) | grind [uV]) (by first | assumption | omega | exact ⟨by omega, by omega⟩ | (subst_vars; simp_all [uV]; done) | grind [uV]) (by first | assumption | omega | exact ⟨by omega, by omega⟩ | (subst_vars; simp_all [uV]; done) | grind [uV]) (by first | assumption | omega | exact ⟨by omega, by omega⟩ | (subst_vars; simp_all [uV]; done) | grind [uV]) (by first | assumption | omega | exact ⟨by omega, by omega⟩ | (subst_vars; simp_all [uV]; done) | grind [uV]) (by first | assumption | omega | exact ⟨by omega, by omega⟩ | (subst_vars; simp_all [uV]; done) | grind [uV])) ?_
                      refine T_pz0 d_X11_next_136 (fun h136 => ?_) (fun h136 => ?_)
                      · skip
                        -- leaf 136t@162
                        refine T_vret d_X11_next_162 rfl ?_
                        rw [w1, w2] at h136
                        refine ⟨rfl, ?_, rfl, hBW2⟩
                        rw [eW2, eY]
                        unfold nextV
                        rw [hq]
                        congr 1
                        unfold tokE
                        rw [if_neg (by omega), if_neg hL, if_pos hD, ← hr, run_en (fun z => h136 ⟨by omega, by have := of_decide_eq_true z.2; simpa using this⟩)]
                      · skip
                        refine T_al d_X11_next_139 rfl ?_
                        refine T_dup d_X11_next_140 rfl ?_
                        refine F_gi d_X11_next_141 rfl hBW2 rfl (fun b_30 => ?_)
                        have gW2_99_33 := (congrFun (congrFun eW2 99) 33).trans uV_self
                        rw [gW2_99_33]
                        rw [gW2_99_33] at b_30
                        refine T_k d_X11_next_144 ?_
                        refine T_iadd d_X11_next_145 ?_
                        refine F_pi d_X11_next_146 rfl hBW2 rfl ⟨by omega, by omega⟩ (fun V_31 eV_31 hBV_31 => ?_)
                        refine T_go d_X11_next_149 ?_
                        -- to 124 136f@124
                        exact ih124 V_31 (c + 1) (by omega) hBV_31 (by rw [eV_31, eW2, uV_uV]; congr 1) (by first | assumption | omega) (by rw [w1, w2] at h136; rw [run_st (by omega) (decide_eq_true (by simpa using h136.2)), hr])
                  exact L124 _ X (q) (Nat.lt_succ_self _) hBX eX (by first | assumption | omega) rfl
              · skip
                -- to 81 78f@81
                have L81 : ∀ (fu : Nat) (W2 : VV) (c : Nat), n - c < fu → (Bd W2) → (W2 = uV Y 99 33 (c : Int)) → (q ≤ c ∧ c ≤ n) → (runB isLb (V 120) n c = runB isLb (V 120) n q) → TT G M_X11_next (rmd 3 162 162) 162 (Zm G 162 162 (QU R (nextV V n p))) 162 81 [(0, vr 99)] [] W2 R := by
                  intro fu
                  induction fu with
                  | zero => intro W2 c hm; exact absurd hm (Nat.not_lt_zero _)
                  | succ fu ih81 =>
                    intro W2 c hm81 hBW2 eW2 hc hr
                    have w1 : W2 99 31 = n := by rw [eW2, eY]; exact hn
                    have w2 : W2 120 = V 120 := by rw [eW2, eY]; rfl
                    have w3 : W2 99 33 = c := by rw [eW2]; exact uV_self
                    have hL : isLb (V 120 q) = true := by
                      rw [x1, x2] at h78
                      exact decide_eq_true (by simpa using h78.2)
                    refine T_al d_X11_next_81 rfl ?_
                    refine T_al d_X11_next_82 rfl ?_
                    refine F_gi d_X11_next_83 rfl hBW2 rfl (fun b_32 => ?_)
                    have gW2_99_33 := (congrFun (congrFun eW2 99) 33).trans uV_self
                    rw [gW2_99_33]
                    rw [gW2_99_33] at b_32
                    refine T_k d_X11_next_86 ?_
                    refine T_k d_X11_next_88 ?_
                    refine C_pv3 d_X11_next_90 rfl (hdF (by decide)) (hcF _) (R_X11_isIn (by first | assumption | omega | exact ⟨by omega, by omega⟩ | (subst_vars; simp_all [uV]; done) | grind [uV]) (by first | assumption | omega | exact ⟨by omega, by omega⟩ | (subst_vars; simp_all [uV]; done) | grind [uV]) (by first | assumption | omega | exact ⟨by omega, by omega⟩ | (subst_vars; simp_all [uV]; done) | grind [uV]) (by first | assumption | omega | exact ⟨by omega, by omega⟩ | (subst_vars; simp_all [uV]; done) | grind [uV]) (by first | assumption | omega | exact ⟨by omega, by omega⟩ | (subst_vars; simp_all [uV]; done) | grind [uV]) (by first | assumption | omega | exact ⟨by omega, by omega⟩ | (subst_vars; simp_all [uV]; done) | grind [uV])) ?_
                    refine T_pz0 d_X11_next_93 (fun h93 => ?_) (fun h93 => ?_)
                    · skip
                      -- leaf 93t@162
                      refine T_vret d_X11_next_162 rfl ?_
                      rw [w1, w2] at h93
                      refine ⟨rfl, ?_, rfl, hBW2⟩
                      rw [eW2, eY]
                      unfold nextV
                      rw [hq]
                      congr 1
                      unfold tokE
                      rw [if_neg (by omega), if_pos hL, ← hr, run_en (fun z => h93 ⟨by omega, by have := of_decide_eq_true z.2; simpa using this⟩)]
                    · skip
                      refine T_al d_X11_next_96 rfl ?_
                      refine T_dup d_X11_next_97 rfl ?_
                      refine F_gi d_X11_next_98 rfl hBW2 rfl (fun b_33 => ?_)
                      have gW2_99_33 := (congrFun (congrFun eW2 99) 33).trans uV_self
                      rw [gW2_99_33]
                      rw [gW2_99_33] at b_33
                      refine T_k d_X11_next_101 ?_
                      refine T_iadd d_X11_next_102 ?_
                      refine F_pi d_X11_next_103 rfl hBW2 rfl ⟨by omega, by omega⟩ (fun V_34 eV_34 hBV_34 => ?_)
                      refine T_go d_X11_next_106 ?_
                      -- to 81 93f@81
                      exact ih81 V_34 (c + 1) (by omega) hBV_34 (by rw [eV_34, eW2, uV_uV]; congr 1) (by first | assumption | omega) (by rw [w1, w2] at h93; rw [run_st (by omega) (decide_eq_true (by simpa using h93.2)), hr])
                exact L81 _ X (q) (Nat.lt_succ_self _) hBX eX (by first | assumption | omega) rfl
            exact L66 V_22 (c) hBV_22 (by rw [eV_22, eW]) (by rw [← hs]; exact skip_en (by first | omega | (intro z; exact h30 (by simpa using z.2)))) (by first | assumption | omega)
          · skip
            -- leaf 16f.30t.62f@65
            refine T_vret d_X11_next_65 rfl ?_
            refine ⟨rfl, ?_, rfl, hBV_22⟩
            rw [eV_22, eW]
            unfold nextV
            have hq : skipB (V 120) n p = c := by rw [← hs]; exact skip_en (by first | omega | (intro z; exact h30 (by simpa using z.2)))
            rw [hq]
            congr 1
            unfold tokE
            rw [if_pos (by omega)]
        · skip
          refine T_al d_X11_next_33 rfl ?_
          refine T_dup d_X11_next_34 rfl ?_
          refine F_gi d_X11_next_35 rfl hBW rfl (fun b_35 => ?_)
          have gW_99_32 := (congrFun (congrFun eW 99) 32).trans uV_self
          rw [gW_99_32]
          rw [gW_99_32] at b_35
          refine T_k d_X11_next_38 ?_
          refine T_iadd d_X11_next_39 ?_
          refine F_pi d_X11_next_40 rfl hBW rfl ⟨by omega, by omega⟩ (fun V_36 eV_36 hBV_36 => ?_)
          refine T_go d_X11_next_43 ?_
          -- to 8 16f.30f@8
          exact ih8 V_36 (c + 1) (by omega) hBV_36 (by rw [eV_36, eW, uV_uV]; congr 1) (by first | assumption | omega) (by rw [skip_st (by omega) (by simpa using h30), hs])
  exact L8 _ V_2 (p) (Nat.lt_succ_self _) hBV_2 (by rw [eV_2, hp]) (by first | assumption | omega) rfl
