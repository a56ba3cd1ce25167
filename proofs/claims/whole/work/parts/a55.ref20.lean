set_option maxHeartbeats 1000000 in
set_option maxRecDepth 100000 in
theorem R_X11_fits {G : GG} {V : VV} {R : RR}  {mt lt : Nat → Nat → Bool} {n i v : Nat} {f : Nat → Nat} (hB : Bd V) (hF : FinR R) (hr : relM mt lt n V) (hn : n ≤ 13) (hi : i < n) (hv : v ≤ 25) (hf : ∀ j, j < i → V 154 j = (f j : Int)) : RunsP G M_X11_fits 1 [vr 99, vi (i:Int), vi (v:Int)] V R (vi (bi (decide (anyB (clsB mt lt f i v) i = false)))) := by
  unfold RunsP
  refine Runs.of pn_X11 (Nat.le_of_ble_eq_true rfl) rfl ?_
  show TT G M_X11_fits (rmd 1 162 162) 162 (Zm G 162 162 (QP V R (vi (bi (decide (anyB (clsB mt lt f i v) i = false)))))) 162 0 [(0, vr 99), (1, vi (i:Int)), (2, vi (v:Int))] [] V R
  refine T_k d_X11_fits_0 ?_
  refine T_is d_X11_fits_1 (ls' := [(0, vr 99), (1, vi (i:Int)), (2, vi (v:Int)), (3, vi 0)]) rfl ?_
  -- to 2 @2
  have L2 : ∀ (fu : Nat) (j : Nat), i - j < fu → (j ≤ i) → (∀ t, t < j → clsB mt lt f i v t = false) → TT G M_X11_fits (rmd 1 162 162) 162 (Zm G 162 162 (QP V R (vi (bi (decide (anyB (clsB mt lt f i v) i = false)))))) 162 2 [(0, vr 99), (1, vi (i:Int)), (2, vi (v:Int)), (3, vi (j : Int))] [] V R := by
    intro fu
    induction fu with
    | zero => intro j hm; exact absurd hm (Nat.not_lt_zero _)
    | succ fu ih2 =>
      intro j hm2 hj hno
      refine T_il d_X11_fits_2 rfl ?_
      refine T_il d_X11_fits_3 rfl ?_
      refine T_ige d_X11_fits_4 ⟨by omega, by omega⟩ ⟨by omega, by omega⟩ (fun h4 => ?_) (fun h4 => ?_)
      · skip
        refine T_k d_X11_fits_89 ?_
        -- leaf 4t@90
        exact P_T d_X11_fits_90 (by exact anyB_f.mpr (fun t ht => hno t (by omega)))
      · skip
        have m1 := hr.1 i j (by omega) (by omega)
        have m2 := hr.2 i j (by omega) (by omega)
        have m3 := hr.2 j i (by omega) (by omega)
        have fj := hf j (by omega)
        have L33 : (¬ (mt i j = true ∧ f j = v)) → TT G M_X11_fits (rmd 1 162 162) 162 (Zm G 162 162 (QP V R (vi (bi (decide (anyB (clsB mt lt f i v) i = false)))))) 162 33 [(0, vr 99), (1, vi (i:Int)), (2, vi (v:Int)), (3, vi (j : Int))] [] V R := by
          intro  c1
          have L57 : (¬ (lt i j = true ∧ v ≤ f j)) → TT G M_X11_fits (rmd 1 162 162) 162 (Zm G 162 162 (QP V R (vi (bi (decide (anyB (clsB mt lt f i v) i = false)))))) 162 57 [(0, vr 99), (1, vi (i:Int)), (2, vi (v:Int)), (3, vi (j : Int))] [] V R := by
            intro  c2
            refine T_al d_X11_fits_57 rfl ?_
            refine F_gr (b := 152) d_X11_fits_58 rfl hF rfl ?_
            refine T_k d_X11_fits_61 ?_
            refine T_il d_X11_fits_63 rfl ?_
            refine T_imul d_X11_fits_64 ?_
            refine T_il d_X11_fits_65 rfl ?_
            refine T_iadd d_X11_fits_66 ?_
            refine F_za d_X11_fits_67 rfl hB rfl ⟨by omega, by omega⟩ (fun b_1 => ?_)
            try simp only [Int.toNat_natCast, show (24 * (j : Int) + (i : Int)).toNat = 24 * j + i from by omega]
            try simp only [Int.toNat_natCast, show (24 * (j : Int) + (i : Int)).toNat = 24 * j + i from by omega] at b_1
            rw [m3]
            refine T_zeq d_X11_fits_68 (bi_r _) (fun h68 => ?_) (fun h68 => ?_)
            · skip
              refine F_incg d_X11_fits_83 rfl (f := fun x_2 => [(0, vr 99), (1, vi (i:Int)), (2, vi (v:Int)), (3, vi x_2)]) (fun _ => rfl) (fun x_2 ex_2 => ?_)
              refine T_go d_X11_fits_86 ?_
              -- to 2 68t@2
              obtain rfl : x_2 = ((j + 1) : Int) := by omega
              exact ih2 (j + 1) (by omega) (by first | assumption | omega) (up_all hno (cls_t c1 c2 (fun z => absurd z.1 (by rw [bi_0.mp h68]; decide))))
            · skip
              refine T_il d_X11_fits_71 rfl ?_
              refine T_al d_X11_fits_72 rfl ?_
              refine F_gr (b := 154) d_X11_fits_73 rfl hF rfl ?_
              refine T_il d_X11_fits_76 rfl ?_
              refine F_ia d_X11_fits_77 rfl hB rfl ⟨by omega, by omega⟩ (fun b_3 => ?_)
              try simp only [Int.toNat_natCast]
              try simp only [Int.toNat_natCast] at b_3
              rw [fj]
              refine T_ilt d_X11_fits_78 ⟨by omega, by omega⟩ ⟨by omega, by omega⟩ (fun h78 => ?_) (fun h78 => ?_)
              · skip
                refine F_incg d_X11_fits_83 rfl (f := fun x_4 => [(0, vr 99), (1, vi (i:Int)), (2, vi (v:Int)), (3, vi x_4)]) (fun _ => rfl) (fun x_4 ex_4 => ?_)
                refine T_go d_X11_fits_86 ?_
                -- to 2 68f.78t@2
                obtain rfl : x_4 = ((j + 1) : Int) := by omega
                exact ih2 (j + 1) (by omega) (by first | assumption | omega) (up_all hno (cls_t c1 c2 (fun z => by omega)))
              · skip
                refine T_k d_X11_fits_81 ?_
                -- leaf 68f.78f@82
                exact P_F d_X11_fits_82 (by intro z; have y := anyB_f.mp z j (by omega); rw [cls_f (Or.inr (Or.inr ⟨bi_n.mp h68, by omega⟩))] at y; cases y)
          refine T_al d_X11_fits_33 rfl ?_
          refine F_gr (b := 152) d_X11_fits_34 rfl hF rfl ?_
          refine T_k d_X11_fits_37 ?_
          refine T_il d_X11_fits_39 rfl ?_
          refine T_imul d_X11_fits_40 ?_
          refine T_il d_X11_fits_41 rfl ?_
          refine T_iadd d_X11_fits_42 ?_
          refine F_za d_X11_fits_43 rfl hB rfl ⟨by omega, by omega⟩ (fun b_5 => ?_)
          try simp only [Int.toNat_natCast, show (24 * (i : Int) + (j : Int)).toNat = 24 * i + j from by omega]
          try simp only [Int.toNat_natCast, show (24 * (i : Int) + (j : Int)).toNat = 24 * i + j from by omega] at b_5
          rw [m2]
          refine T_zeq d_X11_fits_44 (bi_r _) (fun h44 => ?_) (fun h44 => ?_)
          · skip
            -- to 57 44t@57
            exact L57  (fun z => absurd z.1 (by rw [bi_0.mp h44]; decide))
          · skip
            refine T_al d_X11_fits_47 rfl ?_
            refine F_gr (b := 154) d_X11_fits_48 rfl hF rfl ?_
            refine T_il d_X11_fits_51 rfl ?_
            refine F_ia d_X11_fits_52 rfl hB rfl ⟨by omega, by omega⟩ (fun b_6 => ?_)
            try simp only [Int.toNat_natCast]
            try simp only [Int.toNat_natCast] at b_6
            rw [fj]
            refine T_il d_X11_fits_53 rfl ?_
            refine T_ige d_X11_fits_54 ⟨by omega, by omega⟩ ⟨by omega, by omega⟩ (fun h54 => ?_) (fun h54 => ?_)
            · skip
              refine T_k d_X11_fits_81 ?_
              -- leaf 44f.54t@82
              exact P_F d_X11_fits_82 (by intro z; have y := anyB_f.mp z j (by omega); rw [cls_f (Or.inr (Or.inl ⟨bi_n.mp h44, by omega⟩))] at y; cases y)
            · skip
              -- to 57 44f.54f@57
              exact L57  (fun z => absurd z.2 (by omega))
        refine T_al d_X11_fits_7 rfl ?_
        refine F_gr (b := 153) d_X11_fits_8 rfl hF rfl ?_
        refine T_k d_X11_fits_11 ?_
        refine T_il d_X11_fits_13 rfl ?_
        refine T_imul d_X11_fits_14 ?_
        refine T_il d_X11_fits_15 rfl ?_
        refine T_iadd d_X11_fits_16 ?_
        refine F_za d_X11_fits_17 rfl hB rfl ⟨by omega, by omega⟩ (fun b_7 => ?_)
        try simp only [Int.toNat_natCast, show (24 * (i : Int) + (j : Int)).toNat = 24 * i + j from by omega]
        try simp only [Int.toNat_natCast, show (24 * (i : Int) + (j : Int)).toNat = 24 * i + j from by omega] at b_7
        rw [m1]
        refine T_zeq d_X11_fits_18 (bi_r _) (fun h18 => ?_) (fun h18 => ?_)
        · skip
          -- to 33 4f.18t@33
          exact L33  (fun z => absurd z.1 (by rw [bi_0.mp h18]; decide))
        · skip
          refine T_al d_X11_fits_21 rfl ?_
          refine F_gr (b := 154) d_X11_fits_22 rfl hF rfl ?_
          refine T_il d_X11_fits_25 rfl ?_
          refine F_ia d_X11_fits_26 rfl hB rfl ⟨by omega, by omega⟩ (fun b_8 => ?_)
          try simp only [Int.toNat_natCast]
          try simp only [Int.toNat_natCast] at b_8
          rw [fj]
          refine T_il d_X11_fits_27 rfl ?_
          refine T_ine d_X11_fits_28 ⟨by omega, by omega⟩ ⟨by omega, by omega⟩ (fun h28 => ?_) (fun h28 => ?_)
          · skip
            -- to 33 4f.18f.28t@33
            exact L33  (fun z => h28 (by rw [z.2]))
          · skip
            refine T_k d_X11_fits_31 ?_
            -- leaf 4f.18f.28f@32
            exact P_F d_X11_fits_32 (by intro z; have y := anyB_f.mp z j (by omega); rw [cls_f (Or.inl ⟨bi_n.mp h18, by omega⟩)] at y; cases y)
  exact L2 _ (0) (Nat.lt_succ_self _) (by first | assumption | omega) (fun t ht => absurd ht (Nat.not_lt_zero _))
set_option maxHeartbeats 1000000 in
set_option maxRecDepth 100000 in
theorem nb_step {G : GG} {V : VV} {R : RR}  {mt lt : Nat → Nat → Bool} {n m i u : Nat} {f : Nat → Nat} {l : List (Nat → Nat)} (hB : Bd V) (hF : FinR R) (ih : ∀ u2, u2 + 1 = u → nbP G R mt lt n m u2) (hn : n ≤ 13) (hm : m ≤ 25) (hu : i + u = n) (hr : relM mt lt n V) (h83 : V 99 83 = (n : Int)) (hf : ∀ j, j < i → V 154 j = (f j : Int)) (hst : stN n l V) : Runs G M_X11_numbers (u + 2) 162 162 [vr 99, vi (i:Int), vi (m:Int)] V R (PQ [(154, 155)] [(99, 85, 85)] V R (fun o X => o = none ∧ (∀ j, j < i → X 154 j = (f j : Int)) ∧ stN n (l ++ nbL mt lt m u i f) X)) := by
  refine Runs.of pn_X11 (Nat.le_of_ble_eq_true rfl) rfl ?_
  show TT G M_X11_numbers (rmd (u + 2) 162 162) 162 (Zm G 162 162 (PQ [(154, 155)] [(99, 85, 85)] V R (fun o X => o = none ∧ (∀ j, j < i → X 154 j = (f j : Int)) ∧ stN n (l ++ nbL mt lt m u i f) X))) 162 0 [(0, vr 99), (1, vi (i:Int)), (2, vi (m:Int))] [] V R
  have fV : chg [(154, 155)] [(99, 85, 85)] V V := chg_r
  have hs1 := hst.1
  refine T_al d_X11_numbers_0 rfl ?_
  refine F_gi d_X11_numbers_1 rfl hB rfl (fun b_1 => ?_)
  refine T_k d_X11_numbers_4 ?_
  refine T_ine d_X11_numbers_7 ⟨by omega, by omega⟩ ⟨by omega, by omega⟩ (fun h7 => ?_) (fun h7 => ?_)
  · skip
    refine T_il d_X11_numbers_11 rfl ?_
    refine T_al d_X11_numbers_12 rfl ?_
    refine F_gi d_X11_numbers_13 rfl hB rfl (fun b_2 => ?_)
    refine T_ine d_X11_numbers_16 ⟨by omega, by omega⟩ ⟨by omega, by omega⟩ (fun h16 => ?_) (fun h16 => ?_)
    · skip
      obtain ⟨u2, eu⟩ : ∃ u2, u = u2 + 1 := ⟨u - 1, by omega⟩
      refine T_k d_X11_numbers_65 ?_
      refine T_is d_X11_numbers_66 (ls' := [(0, vr 99), (1, vi (i:Int)), (2, vi (m:Int)), (3, vi 0)]) rfl ?_
      -- to 67 7t.16t@67
      have L67 : ∀ (fu : Nat) (X : VV) (v : Nat), m - v < fu → (Bd X) → (chg [(154, 155)] [(99, 85, 85)] V X) → (v ≤ m) → (∀ j, j < i → X 154 j = (f j : Int)) → (stN n (l ++ nbV mt lt m u2 i f v) X) → TT G M_X11_numbers (rmd (u + 2) 162 162) 162 (Zm G 162 162 (PQ [(154, 155)] [(99, 85, 85)] V R (fun o X => o = none ∧ (∀ j, j < i → X 154 j = (f j : Int)) ∧ stN n (l ++ nbL mt lt m u i f) X))) 162 67 [(0, vr 99), (1, vi (i:Int)), (2, vi (m:Int)), (3, vi (v : Int))] [] X R := by
        intro fu
        induction fu with
        | zero => intro X v hm; exact absurd hm (Nat.not_lt_zero _)
        | succ fu ih67 =>
          intro X v hm67 hBX fX hv xf xst
          have x83 : X 99 83 = (n : Int) := (fX 99 83 rfl rfl).trans h83
          have xr := relM_x hr (chg_k (c := 152) fX rfl) (chg_k (c := 153) fX rfl)
          refine T_il d_X11_numbers_67 rfl ?_
          refine T_il d_X11_numbers_68 rfl ?_
          refine T_ige d_X11_numbers_69 ⟨by omega, by omega⟩ ⟨by omega, by omega⟩ (fun h69 => ?_) (fun h69 => ?_)
          · skip
            -- leaf 69t@105
            refine T_vret d_X11_numbers_105 rfl ?_
            have ev : v = m := by omega
            rw [ev] at xst
            rw [eu]
            exact ⟨rfl, hBX, fX, rfl, xf, xst⟩
          · skip
            refine T_al d_X11_numbers_72 rfl ?_
            refine T_il d_X11_numbers_73 rfl ?_
            refine T_il d_X11_numbers_74 rfl ?_
            refine C_pv2 d_X11_numbers_75 rfl (hdF (by omega)) (hcF _) (R_X11_fits (mt := mt) (lt := lt) (n := n) (i := i) (v := v) (f := f) hBX hF xr hn (by omega) (by omega) xf) ?_
            refine T_pz1 d_X11_numbers_78 (fun h78 => ?_) (fun h78 => ?_)
            · skip
              refine T_al d_X11_numbers_84 rfl ?_
              refine F_gr (b := 154) d_X11_numbers_85 rfl hF rfl ?_
              refine T_il d_X11_numbers_88 rfl ?_
              refine T_il d_X11_numbers_89 rfl ?_
              refine F_is d_X11_numbers_90 rfl hBX rfl ⟨by omega, by omega⟩ ⟨by omega, by omega⟩ (fun V_3 eV_3 hBV_3 => ?_)
              have fV_3 := chg_u eV_3 rfl fX
              refine T_al d_X11_numbers_91 rfl ?_
              refine T_il d_X11_numbers_92 rfl ?_
              refine T_k d_X11_numbers_93 ?_
              refine T_iadd d_X11_numbers_94 ?_
              refine T_il d_X11_numbers_95 rfl ?_
              refine C_v2 d_X11_numbers_96 rfl (hdF (by omega)) (hcF _) (ih u2 (by omega) V_3 (i + 1) (upN f i v) (l ++ nbV mt lt m u2 i f v) (by omega) hBV_3 (relM_x xr (by rw [eV_3]; rfl) (by rw [eV_3]; rfl)) (by rw [eV_3]; exact x83) (up_row xf (by rw [eV_3]; rfl) rfl) (stN_x xst (by rw [eV_3]; rfl) (by rw [eV_3]; rfl))) (fun r_4 V_5 R_6 qV_5 => ?_)
              obtain ⟨rfl, hBV_5, cV_5, rfl, pV_5⟩ := qV_5
              have fV_5 := chg_t (A := [(154, 155)]) (F := [(99, 85, 85)]) fV_3 cV_5 rfl
              refine F_incg d_X11_numbers_99 rfl (f := fun x_7 => [(0, vr 99), (1, vi (i:Int)), (2, vi (m:Int)), (3, vi x_7)]) (fun _ => rfl) (fun x_7 ex_7 => ?_)
              refine T_go d_X11_numbers_102 ?_
              -- to 67 69f.78t@67
              obtain ⟨k154, kst⟩ := pV_5
              obtain rfl : x_7 = ((v + 1) : Int) := by omega
              exact ih67 V_5 (v + 1) (by omega) hBV_5 fV_5 (by first | assumption | omega) (fun j hj => by rw [k154 j (by omega), upN_lo hj]) (by rw [nbV_s, if_neg (by rw [h78]; decide), ← List.append_assoc]; exact kst)
            · skip
              refine T_go d_X11_numbers_81 ?_
              refine F_incg d_X11_numbers_99 rfl (f := fun x_8 => [(0, vr 99), (1, vi (i:Int)), (2, vi (m:Int)), (3, vi x_8)]) (fun _ => rfl) (fun x_8 ex_8 => ?_)
              refine T_go d_X11_numbers_102 ?_
              -- to 67 69f.78f@67
              obtain rfl : x_8 = ((v + 1) : Int) := by omega
              exact ih67 X (v + 1) (by omega) hBX fX (by first | assumption | omega) xf (by rw [nbV_s, if_pos (by cases z : anyB (clsB mt lt f i v) i; exact absurd z h78; rfl), List.append_nil]; exact xst)
      exact L67 _ V (0) (Nat.lt_succ_self _) hB fV (by omega) hf (by rw [nbV_0, List.append_nil]; exact hst)
    · skip
      have ei : i = n := by omega
      have eu : u = 0 := by omega
      have L54 : ∀ (Y : VV), (Bd Y) → (chg [(154, 155)] [(99, 85, 85)] V Y) → (Y 99 85 = V 99 85) → (Y 154 = V 154) → ((V 99 85 ≠ 0 ∧ ∀ j, j < n → Y 155 j = V 155 j) ∨ (V 99 85 = 0 ∧ ∀ j, j < n → Y 155 j = (f j : Int))) → TT G M_X11_numbers (rmd (u + 2) 162 162) 162 (Zm G 162 162 (PQ [(154, 155)] [(99, 85, 85)] V R (fun o X => o = none ∧ (∀ j, j < i → X 154 j = (f j : Int)) ∧ stN n (l ++ nbL mt lt m u i f) X))) 162 54 [(0, vr 99), (1, vi (i:Int)), (2, vi (m:Int))] [] Y R := by
        intro Y hBY fY y85 y154 yf
        refine T_al d_X11_numbers_54 rfl ?_
        refine T_dup d_X11_numbers_55 rfl ?_
        refine F_gi d_X11_numbers_56 rfl hBY rfl (fun b_9 => ?_)
        refine T_k d_X11_numbers_59 ?_
        refine T_iadd d_X11_numbers_60 ?_
        refine F_pi d_X11_numbers_61 rfl hBY rfl ⟨by omega, by omega⟩ (fun V_10 eV_10 hBV_10 => ?_)
        have fV_10 := chg_u eV_10 rfl fY
        -- leaf @64
        refine T_vret d_X11_numbers_64 rfl ?_
        subst eu
        have k85 : V_10 99 85 = ((min 1000 (l ++ [f]).length : Nat) : Int) := by rw [eV_10]; refine uV_self.trans ?_; rw [y85, List.length_append]; show _ = ((min 1000 (l.length + 1) : Nat) : Int); omega
        refine ⟨rfl, hBV_10, fV_10, rfl, fun j hj => by rw [eV_10, uV_cell (by omega), y154]; exact hf j hj, ?_⟩
        rcases yf with ⟨z1, z2⟩ | ⟨z1, z2⟩
        · exact stN_a hst z1 k85 (fun j hj => by rw [eV_10, uV_cell (by omega)]; exact z2 j hj)
        · exact stN_b hst z1 k85 (fun j hj => by rw [eV_10, uV_cell (by omega)]; exact z2 j hj)
      refine T_al d_X11_numbers_19 rfl ?_
      refine F_gi d_X11_numbers_20 rfl hB rfl (fun b_11 => ?_)
      refine T_zne d_X11_numbers_23 ⟨by omega, by omega⟩ (fun h23 => ?_) (fun h23 => ?_)
      · skip
        -- to 54 7t.16f.23t@54
        exact L54 V hB fV rfl rfl (Or.inl ⟨by omega, fun j _ => rfl⟩)
      · skip
        refine T_k d_X11_numbers_26 ?_
        refine T_is d_X11_numbers_27 (ls' := [(0, vr 99), (1, vi (i:Int)), (2, vi (m:Int)), (3, vi 0)]) rfl ?_
        -- to 28 7t.16f.23f@28
        have L28 : ∀ (fu : Nat) (X : VV) (j : Nat), n - j < fu → (Bd X) → (chg [(154, 155)] [(99, 85, 85)] V X) → (j ≤ n) → (X 99 85 = V 99 85) → (X 154 = V 154) → (∀ t, t < j → X 155 t = (f t : Int)) → TT G M_X11_numbers (rmd (u + 2) 162 162) 162 (Zm G 162 162 (PQ [(154, 155)] [(99, 85, 85)] V R (fun o X => o = none ∧ (∀ j, j < i → X 154 j = (f j : Int)) ∧ stN n (l ++ nbL mt lt m u i f) X))) 162 28 [(0, vr 99), (1, vi (i:Int)), (2, vi (m:Int)), (3, vi (j : Int))] [] X R := by
          intro fu
          induction fu with
          | zero => intro X j hm; exact absurd hm (Nat.not_lt_zero _)
          | succ fu ih28 =>
            intro X j hm28 hBX fX hj x85 x154 x155
            have x83 : X 99 83 = (n : Int) := (fX 99 83 rfl rfl).trans h83
            refine T_il d_X11_numbers_28 rfl ?_
            refine T_al d_X11_numbers_29 rfl ?_
            refine F_gi d_X11_numbers_30 rfl hBX rfl (fun b_12 => ?_)
            refine T_ige d_X11_numbers_33 ⟨by omega, by omega⟩ ⟨by omega, by omega⟩ (fun h33 => ?_) (fun h33 => ?_)
            · skip
              -- to 54 33t@54
              refine T_subp (ks := [0, 1, 2]) (ls' := [(0, vr 99), (1, vi (i:Int)), (2, vi (m:Int))]) rfl ?_
              exact L54 X hBX fX x85 x154 (Or.inr ⟨by omega, fun j hj => x155 j (by omega)⟩)
            · skip
              refine T_al d_X11_numbers_36 rfl ?_
              refine F_gr (b := 155) d_X11_numbers_37 rfl hF rfl ?_
              refine T_il d_X11_numbers_40 rfl ?_
              refine T_al d_X11_numbers_41 rfl ?_
              refine F_gr (b := 154) d_X11_numbers_42 rfl hF rfl ?_
              refine T_il d_X11_numbers_45 rfl ?_
              refine F_ia d_X11_numbers_46 rfl hBX rfl ⟨by omega, by omega⟩ (fun b_13 => ?_)
              try simp only [Int.toNat_natCast]
              try simp only [Int.toNat_natCast] at b_13
              refine F_is d_X11_numbers_47 rfl hBX rfl ⟨by omega, by omega⟩ ⟨by rw [x154, hf j (by omega)]; omega, by have := hBX.1 154 0 24 rfl j; omega⟩ (fun V_14 eV_14 hBV_14 => ?_)
              have fV_14 := chg_u eV_14 rfl fX
              refine F_incg d_X11_numbers_48 rfl (f := fun x_15 => [(0, vr 99), (1, vi (i:Int)), (2, vi (m:Int)), (3, vi x_15)]) (fun _ => rfl) (fun x_15 ex_15 => ?_)
              refine T_go d_X11_numbers_51 ?_
              -- to 28 33f@28
              obtain rfl : x_15 = ((j + 1) : Int) := by omega
              exact ih28 V_14 (j + 1) (by omega) hBV_14 fV_14 (by first | assumption | omega) (by rw [eV_14]; exact x85) (by rw [eV_14]; exact x154) (row_s (f := fun t => (f t : Int)) eV_14 (by rw [x154]; exact hf j (by omega)) x155)
        exact L28 _ V (0) (Nat.lt_succ_self _) hB fV (by first | assumption | omega) rfl rfl (fun t ht => absurd ht (Nat.not_lt_zero _))
  · skip
    -- leaf 7f@10
    refine T_vret d_X11_numbers_10 rfl ?_
    exact ⟨rfl, hB, fV, rfl, hf, stN_e hst (by omega)⟩
theorem nb_all {G : GG} {R : RR} {mt lt : Nat → Nat → Bool} {n m : Nat} (hF : FinR R) (hn : n ≤ 13) (hm : m ≤ 25) : ∀ u, nbP G R mt lt n m u
  | 0 => fun V i f l hu hB hr h83 hf hst => nb_step hB hF (fun u2 h => absurd h (by omega)) hn hm hu hr h83 hf hst
  | u + 1 => fun V i f l hu hB hr h83 hf hst => nb_step hB hF (fun u2 h => by rw [show u2 = u by omega]; exact nb_all hF hn hm u) hn hm hu hr h83 hf hst
set_option maxHeartbeats 1000000 in
set_option maxRecDepth 100000 in
theorem R_X11_isRound {G : GG} {V : VV} {R : RR}  {mt lt : Nat → Nat → Bool} {n : Nat} (hB : Bd V) (hF : FinR R) (hn : n ≤ 13) (h83 : V 99 83 = (n : Int)) (hr : relM mt lt n V) : Runs G M_X11_isRound 1 162 162 [vr 99] V R (PQ [(159, 159)] [] V R (fun o X => o = some (vi (bi (decide (anyB (fun i => warS lt n i i) n = true)))))) := by
  refine Runs.of pn_X11 (Nat.le_of_ble_eq_true rfl) rfl ?_
  show TT G M_X11_isRound (rmd 1 162 162) 162 (Zm G 162 162 (PQ [(159, 159)] [] V R (fun o X => o = some (vi (bi (decide (anyB (fun i => warS lt n i i) n = true))))))) 162 0 [(0, vr 99)] [] V R
  have fV : chg [(159, 159)] [] V V := chg_r
  refine T_al d_X11_isRound_0 rfl ?_
  refine F_gr (b := 159) d_X11_isRound_1 rfl hF rfl ?_
  refine T_as d_X11_isRound_4 (ls' := [(0, vr 99), (1, vr 159)]) rfl ?_
  refine T_k d_X11_isRound_5 ?_
  refine T_is d_X11_isRound_6 (ls' := [(0, vr 99), (1, vr 159), (2, vi 0)]) rfl ?_
  -- to 7 @7
  have L7 : ∀ (fu : Nat) (X : VV) (t : Nat), 576 - t < fu → (Bd X) → (chg [(159, 159)] [] V X) → (t ≤ 576) → (∀ x, x < t → X 159 x = V 152 x) → TT G M_X11_isRound (rmd 1 162 162) 162 (Zm G 162 162 (PQ [(159, 159)] [] V R (fun o X => o = some (vi (bi (decide (anyB (fun i => warS lt n i i) n = true))))))) 162 7 [(0, vr 99), (1, vr 159), (2, vi (t : Int))] [] X R := by
    intro fu
    induction fu with
    | zero => intro X t hm; exact absurd hm (Nat.not_lt_zero _)
    | succ fu ih7 =>
      intro X t hm7 hBX fX ht xr
      have x152 := chg_k (c := 152) fX rfl
      refine T_il d_X11_isRound_7 rfl ?_
      refine T_k d_X11_isRound_8 ?_
      refine T_ige d_X11_isRound_11 ⟨by omega, by omega⟩ ⟨by omega, by omega⟩ (fun h11 => ?_) (fun h11 => ?_)
      · skip
        refine T_k d_X11_isRound_29 ?_
        refine T_is d_X11_isRound_30 (ls' := [(0, vr 99), (1, vr 159), (2, vi 0)]) rfl ?_
        -- to 31 11t@31
        have L31 : ∀ (fu : Nat) (Y : VV) (m : Nat), n - m < fu → (Bd Y) → (chg [(159, 159)] [] V Y) → (m ≤ n) → (∀ a b, a < n → b < n → Y 159 (24 * a + b) = bi (warS lt m a b)) → TT G M_X11_isRound (rmd 1 162 162) 162 (Zm G 162 162 (PQ [(159, 159)] [] V R (fun o X => o = some (vi (bi (decide (anyB (fun i => warS lt n i i) n = true))))))) 162 31 [(0, vr 99), (1, vr 159), (2, vi (m : Int))] [] Y R := by
          intro fu
          induction fu with
          | zero => intro Y m hm; exact absurd hm (Nat.not_lt_zero _)
          | succ fu ih31 =>
            intro Y m hm31 hBY fY hm yr
            have y83 : Y 99 83 = (n : Int) := (fY 99 83 rfl rfl).trans h83
            refine T_il d_X11_isRound_31 rfl ?_
            refine T_al d_X11_isRound_32 rfl ?_
            refine F_gi d_X11_isRound_33 rfl hBY rfl (fun b_1 => ?_)
            refine T_ige d_X11_isRound_36 ⟨by omega, by omega⟩ ⟨by omega, by omega⟩ (fun h36 => ?_) (fun h36 => ?_)
            · skip
              have em : m = n := by omega
              rw [em] at yr
              refine T_k d_X11_isRound_112 ?_
              refine T_is d_X11_isRound_113 (ls' := [(0, vr 99), (1, vr 159), (2, vi 0)]) rfl ?_
              -- to 114 36t@114
              have L114 : ∀ (fu : Nat) (i : Nat), n - i < fu → (i ≤ n) → (∀ t, t < i → warS lt n t t = false) → TT G M_X11_isRound (rmd 1 162 162) 162 (Zm G 162 162 (PQ [(159, 159)] [] V R (fun o X => o = some (vi (bi (decide (anyB (fun i => warS lt n i i) n = true))))))) 162 114 [(0, vr 99), (1, vr 159), (2, vi (i : Int))] [] Y R := by
                intro fu
                induction fu with
                | zero => intro i hm; exact absurd hm (Nat.not_lt_zero _)
                | succ fu ih114 =>
                  intro i hm114 hi hno
                  refine T_il d_X11_isRound_114 rfl ?_
                  refine T_al d_X11_isRound_115 rfl ?_
                  refine F_gi d_X11_isRound_116 rfl hBY rfl (fun b_2 => ?_)
                  refine T_ige d_X11_isRound_119 ⟨by omega, by omega⟩ ⟨by omega, by omega⟩ (fun h119 => ?_) (fun h119 => ?_)
                  · skip
                    refine T_k d_X11_isRound_139 ?_
                    -- leaf 119t@140
                    refine T_zret0 d_X11_isRound_140 rfl ?_
                    exact ⟨rfl, hBY, fY, congrArg (fun z => some (vi (bi z))) (decide_eq_false (fun z => by obtain ⟨t, t1, t2⟩ := anyB_iff.mp z; rw [hno t (by omega)] at t2; cases t2)).symm⟩
                  · skip
                    have yi := yr i i (by omega) (by omega)
                    refine T_al d_X11_isRound_122 rfl ?_
                    refine T_k d_X11_isRound_123 ?_
                    refine T_il d_X11_isRound_125 rfl ?_
                    refine T_imul d_X11_isRound_126 ?_
                    refine F_za d_X11_isRound_127 rfl hBY rfl ⟨by omega, by omega⟩ (fun b_3 => ?_)
                    try simp only [Int.toNat_natCast, show (25 * (i : Int)).toNat = 24 * i + i from by omega]
                    try simp only [Int.toNat_natCast, show (25 * (i : Int)).toNat = 24 * i + i from by omega] at b_3
                    rw [yi]
                    refine T_zeq d_X11_isRound_128 (bi_r _) (fun h128 => ?_) (fun h128 => ?_)
                    · skip
                      refine F_incg d_X11_isRound_133 rfl (f := fun x_4 => [(0, vr 99), (1, vr 159), (2, vi x_4)]) (fun _ => rfl) (fun x_4 ex_4 => ?_)
                      refine T_go d_X11_isRound_136 ?_
                      -- to 114 119f.128t@114
                      obtain rfl : x_4 = ((i + 1) : Int) := by omega
                      exact ih114 (i + 1) (by omega) (by first | assumption | omega) (up_all hno (bi_0.mp h128))
                    · skip
                      refine T_k d_X11_isRound_131 ?_
                      -- leaf 119f.128f@132
                      refine T_zret1 d_X11_isRound_132 rfl ?_
                      exact ⟨rfl, hBY, fY, congrArg (fun z => some (vi (bi z))) (decide_eq_true ((anyB_iff (p := fun i => warS lt n i i)).mpr ⟨i, by omega, bi_n.mp h128⟩)).symm⟩
              exact L114 _ (0) (Nat.lt_succ_self _) (by first | assumption | omega) (fun t ht => absurd ht (Nat.not_lt_zero _))
            · skip
              refine T_k d_X11_isRound_39 ?_
              refine T_is d_X11_isRound_40 (ls' := [(0, vr 99), (1, vr 159), (2, vi (m : Int)), (3, vi 0)]) rfl ?_
              -- to 41 36f@41
              have L41 : ∀ (fu : Nat) (W : VV) (i : Nat), n - i < fu → (Bd W) → (chg [(159, 159)] [] V W) → (i ≤ n) → (∀ a b, a < n → b < n → W 159 (24 * a + b) = bi (warI lt m i 0 a b)) → TT G M_X11_isRound (rmd 1 162 162) 162 (Zm G 162 162 (PQ [(159, 159)] [] V R (fun o X => o = some (vi (bi (decide (anyB (fun i => warS lt n i i) n = true))))))) 162 41 [(0, vr 99), (1, vr 159), (2, vi (m : Int)), (3, vi (i : Int))] [] W R := by
                intro fu
                induction fu with
                | zero => intro W i hm; exact absurd hm (Nat.not_lt_zero _)
                | succ fu ih41 =>
                  intro W i hm41 hBW fW hi wr
                  have w83 : W 99 83 = (n : Int) := (fW 99 83 rfl rfl).trans h83
                  refine T_il d_X11_isRound_41 rfl ?_
                  refine T_al d_X11_isRound_42 rfl ?_
                  refine F_gi d_X11_isRound_43 rfl hBW rfl (fun b_5 => ?_)
                  refine T_ige d_X11_isRound_46 ⟨by omega, by omega⟩ ⟨by omega, by omega⟩ (fun h46 => ?_) (fun h46 => ?_)
                  · skip
                    refine F_incg d_X11_isRound_106 rfl (f := fun x_6 => [(0, vr 99), (1, vr 159), (2, vi x_6), (3, vi (i : Int))]) (fun _ => rfl) (fun x_6 ex_6 => ?_)
                    refine T_go d_X11_isRound_109 ?_
                    -- to 31 46t@31
                    refine T_subp (ks := [0, 1, 2]) (ls' := [(0, vr 99), (1, vr 159), (2, vi x_6)]) rfl ?_
                    have ei : i = n := by omega
                    rw [ei] at wr
                    obtain rfl : x_6 = ((m + 1) : Int) := by omega
                    exact ih31 W (m + 1) (by omega) hBW fW (by first | assumption | omega) (fun a b ha hb => by rw [← warI_n ha]; exact wr a b ha hb)
                  · skip
                    refine T_k d_X11_isRound_49 ?_
                    refine T_is d_X11_isRound_50 (ls' := [(0, vr 99), (1, vr 159), (2, vi (m : Int)), (3, vi (i : Int)), (4, vi 0)]) rfl ?_
                    -- to 52 46f@52
                    have L52 : ∀ (fu : Nat) (Z : VV) (j : Nat), n - j < fu → (Bd Z) → (chg [(159, 159)] [] V Z) → (j ≤ n) → (∀ a b, a < n → b < n → Z 159 (24 * a + b) = bi (warI lt m i j a b)) → TT G M_X11_isRound (rmd 1 162 162) 162 (Zm G 162 162 (PQ [(159, 159)] [] V R (fun o X => o = some (vi (bi (decide (anyB (fun i => warS lt n i i) n = true))))))) 162 52 [(0, vr 99), (1, vr 159), (2, vi (m : Int)), (3, vi (i : Int)), (4, vi (j : Int))] [] Z R := by
                      intro fu
                      induction fu with
                      | zero => intro Z j hm; exact absurd hm (Nat.not_lt_zero _)
                      | succ fu ih52 =>
                        intro Z j hm52 hBZ fZ hj zr
                        have z83 : Z 99 83 = (n : Int) := (fZ 99 83 rfl rfl).trans h83
                        refine T_il d_X11_isRound_52 rfl ?_
                        refine T_al d_X11_isRound_54 rfl ?_
                        refine F_gi d_X11_isRound_55 rfl hBZ rfl (fun b_7 => ?_)
                        refine T_ige d_X11_isRound_58 ⟨by omega, by omega⟩ ⟨by omega, by omega⟩ (fun h58 => ?_) (fun h58 => ?_)
                        · skip
                          refine F_incg d_X11_isRound_100 rfl (f := fun x_8 => [(0, vr 99), (1, vr 159), (2, vi (m : Int)), (3, vi x_8), (4, vi (j : Int))]) (fun _ => rfl) (fun x_8 ex_8 => ?_)
                          refine T_go d_X11_isRound_103 ?_
                          -- to 41 58t@41
                          refine T_subp (ks := [0, 1, 2, 3]) (ls' := [(0, vr 99), (1, vr 159), (2, vi (m : Int)), (3, vi x_8)]) rfl ?_
                          have ej : j = n := by omega
                          rw [ej] at zr
                          obtain rfl : x_8 = ((i + 1) : Int) := by omega
                          exact ih41 Z (i + 1) (by omega) hBZ fZ (by first | assumption | omega) (fun a b ha hb => by rw [← warI_r hb]; exact zr a b ha hb)
                        · skip
                          have z1 := (zr i m (by omega) (by omega)).trans (congrArg bi warI_c1)
                          have z2 := (zr m j (by omega) (by omega)).trans (congrArg bi warI_c2)
                          have z3 := zr i j (by omega) (by omega)
                          refine T_al d_X11_isRound_61 rfl ?_
                          refine T_k d_X11_isRound_62 ?_
                          refine T_il d_X11_isRound_64 rfl ?_
                          refine T_imul d_X11_isRound_65 ?_
                          refine T_il d_X11_isRound_66 rfl ?_
                          refine T_iadd d_X11_isRound_67 ?_
                          refine F_za d_X11_isRound_68 rfl hBZ rfl ⟨by omega, by omega⟩ (fun b_9 => ?_)
                          try simp only [Int.toNat_natCast, show (24 * (i : Int) + (m : Int)).toNat = 24 * i + m from by omega]
                          try simp only [Int.toNat_natCast, show (24 * (i : Int) + (m : Int)).toNat = 24 * i + m from by omega] at b_9
                          rw [z1]
                          refine T_zeq d_X11_isRound_69 (bi_r _) (fun h69 => ?_) (fun h69 => ?_)
                          · skip
                            refine F_incg d_X11_isRound_94 rfl (f := fun x_10 => [(0, vr 99), (1, vr 159), (2, vi (m : Int)), (3, vi (i : Int)), (4, vi x_10)]) (fun _ => rfl) (fun x_10 ex_10 => ?_)
                            refine T_go d_X11_isRound_97 ?_
                            -- to 52 58f.69t@52
                            obtain rfl : x_10 = ((j + 1) : Int) := by omega
                            exact ih52 Z (j + 1) (by omega) hBZ fZ (by first | assumption | omega) (rd_x zr (fun a b _ _ => warI_e a b) (by rw [z3]; unfold warI; rw [if_neg (by omega)]; show _ = bi (warS lt m i j || (warS lt m i m && warS lt m m j)); rw [bi_0.mp h69, Bool.false_and, Bool.or_false]) (fun x _ => rfl) hn (by omega))
                          · skip
                            refine T_al d_X11_isRound_72 rfl ?_
                            refine T_k d_X11_isRound_73 ?_
                            refine T_il d_X11_isRound_75 rfl ?_
                            refine T_imul d_X11_isRound_76 ?_
                            refine T_il d_X11_isRound_77 rfl ?_
                            refine T_iadd d_X11_isRound_79 ?_
                            refine F_za d_X11_isRound_80 rfl hBZ rfl ⟨by omega, by omega⟩ (fun b_11 => ?_)
                            try simp only [Int.toNat_natCast, show (24 * (m : Int) + (j : Int)).toNat = 24 * m + j from by omega]
                            try simp only [Int.toNat_natCast, show (24 * (m : Int) + (j : Int)).toNat = 24 * m + j from by omega] at b_11
                            rw [z2]
                            refine T_zeq d_X11_isRound_81 (bi_r _) (fun h81 => ?_) (fun h81 => ?_)
                            · skip
                              refine F_incg d_X11_isRound_94 rfl (f := fun x_12 => [(0, vr 99), (1, vr 159), (2, vi (m : Int)), (3, vi (i : Int)), (4, vi x_12)]) (fun _ => rfl) (fun x_12 ex_12 => ?_)
                              refine T_go d_X11_isRound_97 ?_
                              -- to 52 58f.69f.81t@52
                              obtain rfl : x_12 = ((j + 1) : Int) := by omega
                              exact ih52 Z (j + 1) (by omega) hBZ fZ (by first | assumption | omega) (rd_x zr (fun a b _ _ => warI_e a b) (by rw [z3]; unfold warI; rw [if_neg (by omega)]; show _ = bi (warS lt m i j || (warS lt m i m && warS lt m m j)); rw [bi_0.mp h81, Bool.and_false, Bool.or_false]) (fun x _ => rfl) hn (by omega))
                            · skip
                              refine T_al d_X11_isRound_84 rfl ?_
                              refine T_k d_X11_isRound_85 ?_
                              refine T_il d_X11_isRound_87 rfl ?_
                              refine T_imul d_X11_isRound_88 ?_
                              refine T_il d_X11_isRound_89 rfl ?_
                              refine T_iadd d_X11_isRound_91 ?_
                              refine T_k d_X11_isRound_92 ?_
                              refine F_zs d_X11_isRound_93 rfl hBZ rfl ⟨by omega, by omega⟩ ⟨by omega, by omega⟩ (fun V_13 eV_13 hBV_13 => ?_)
                              have fV_13 := chg_u eV_13 rfl fZ
                              refine F_incg d_X11_isRound_94 rfl (f := fun x_14 => [(0, vr 99), (1, vr 159), (2, vi (m : Int)), (3, vi (i : Int)), (4, vi x_14)]) (fun _ => rfl) (fun x_14 ex_14 => ?_)
                              refine T_go d_X11_isRound_97 ?_
                              -- to 52 58f.69f.81f@52
                              obtain rfl : x_14 = ((j + 1) : Int) := by omega
                              exact ih52 V_13 (j + 1) (by omega) hBV_13 fV_13 (by first | assumption | omega) (rd_x zr (fun a b _ _ => warI_e a b) (by rw [eV_13, show (24 * (i : Int) + (j : Int)).toNat = 24 * i + j by omega, uV_self]; show _ = bi (warS lt m i j || (warS lt m i m && warS lt m m j)); rw [bi_n.mp h69, bi_n.mp h81, Bool.and_true, Bool.or_true]; rfl) (fun x hx => by rw [eV_13, show (24 * (i : Int) + (j : Int)).toNat = 24 * i + j by omega, uV_at, if_neg hx]) hn (by omega))
                    exact L52 _ W (0) (Nat.lt_succ_self _) hBW fW (by first | assumption | omega) wr
              exact L41 _ Y (0) (Nat.lt_succ_self _) hBY fY (by first | assumption | omega) (fun a b ha hb => by rw [warI_0]; exact yr a b ha hb)
        exact L31 _ X (0) (Nat.lt_succ_self _) hBX fX (by first | assumption | omega) (fun a b ha hb => by rw [xr _ (by omega)]; exact hr.2 a b ha hb)
      · skip
        refine T_al d_X11_isRound_14 rfl ?_
        refine T_il d_X11_isRound_15 rfl ?_
        refine T_al d_X11_isRound_16 rfl ?_
        refine F_gr (b := 152) d_X11_isRound_17 rfl hF rfl ?_
        refine T_il d_X11_isRound_20 rfl ?_
        refine F_za d_X11_isRound_21 rfl hBX rfl ⟨by omega, by omega⟩ (fun b_15 => ?_)
        try simp only [Int.toNat_natCast, x152]
        try simp only [Int.toNat_natCast, x152] at b_15
        refine F_zs d_X11_isRound_22 rfl hBX rfl ⟨by omega, by omega⟩ (hB.1 152 0 1 rfl _) (fun V_16 eV_16 hBV_16 => ?_)
        have fV_16 := chg_u eV_16 rfl fX
        refine F_incg d_X11_isRound_23 rfl (f := fun x_17 => [(0, vr 99), (1, vr 159), (2, vi x_17)]) (fun _ => rfl) (fun x_17 ex_17 => ?_)
        refine T_go d_X11_isRound_26 ?_
        -- to 7 11f@7
        obtain rfl : x_17 = ((t + 1) : Int) := by omega
        exact ih7 V_16 (t + 1) (by omega) hBV_16 fV_16 (by first | assumption | omega) (row_s (f := V 152) (by rw [eV_16, Int.toNat_natCast]) rfl xr)
  exact L7 _ V (0) (Nat.lt_succ_self _) hB fV (by first | assumption | omega) (fun x hx => absurd hx (Nat.not_lt_zero _))
