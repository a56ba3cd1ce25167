set_option maxHeartbeats 1000000 in
set_option maxRecDepth 100000 in
theorem R_X8_load {G : GG} {V : VV} {R : RR}  {b : Bk} {k : Int} {c : Nat} (hB : Bd V) (hF : FinR R) (ho : bO b) (hg : sgC b k c V) : Runs G M_X8_load 2 162 162 [vr 44, vr 34] V R (PQ [(45, 51)] [(44, 4, 4)] V R (fun r X => r = none ∧ mapC (spS b k c) X ∧ ∀ i, i < (spS b k c).m → X 49 i = (spS b k c).y i)) := by
  refine Runs.of pn_X8 (Nat.le_of_ble_eq_true rfl) rfl ?_
  show TT G M_X8_load (rmd 2 162 162) 162 (Zm G 162 162 (PQ [(45, 51)] [(44, 4, 4)] V R (fun r X => r = none ∧ mapC (spS b k c) X ∧ ∀ i, i < (spS b k c).m → X 49 i = (spS b k c).y i))) 162 0 [(0, vr 44), (1, vr 34)] [] V R
  have fV : chg [(45, 51)] [(44, 4, 4)] V V := chg_r
  have hn4 := ho.n
  have hnl := nSp_le (b := b) (k := k) (c := c)
  have g8 := hg.2.1
  have hsm := spS_m (b := b) (k := k) (c := c)
  refine T_al d_X8_load_0 rfl ?_
  refine T_al d_X8_load_1 rfl ?_
  refine F_gi d_X8_load_2 rfl hB rfl (fun b_1 => ?_)
  refine T_k d_X8_load_5 ?_
  refine T_mmin d_X8_load_7 ⟨by omega, by omega⟩ ⟨by omega, by omega⟩ (Nat.le_of_ble_eq_true rfl) (hmF _) ?_
  refine F_pi d_X8_load_10 rfl hB rfl ⟨by omega, by omega⟩ (fun V_2 eV_2 hBV_2 => ?_)
  have fV_2 := chg_u eV_2 rfl fV
  refine T_k d_X8_load_13 ?_
  refine T_is d_X8_load_14 (ls' := [(0, vr 44), (1, vr 34), (2, vi 0)]) rfl ?_
  -- to 15 @15
  have L15 : ∀ (fu : Nat) (X : VV) (i : Nat), nSp b k c - i < fu → (Bd X) → (chg [(45, 51)] [(44, 4, 4)] V X) → (i ≤ nSp b k c) → (X 44 4 = (nSp b k c : Int)) → (ldI (spS b k c) i X) → TT G M_X8_load (rmd 2 162 162) 162 (Zm G 162 162 (PQ [(45, 51)] [(44, 4, 4)] V R (fun r X => r = none ∧ mapC (spS b k c) X ∧ ∀ i, i < (spS b k c).m → X 49 i = (spS b k c).y i))) 162 15 [(0, vr 44), (1, vr 34), (2, vi (i : Int))] [] X R := by
    intro fu
    induction fu with
    | zero => intro X i hm; exact absurd hm (Nat.not_lt_zero _)
    | succ fu ih15 =>
      intro X i hm15 hBX fX hi h4 hL
      have x41 : X 41 = V 41 := chg_k fX rfl
      have x36 : X 36 = V 36 := chg_k fX rfl
      have x37 : X 37 = V 37 := chg_k fX rfl
      have x40 : X 40 = V 40 := chg_k fX rfl
      refine T_il d_X8_load_15 rfl ?_
      refine T_al d_X8_load_16 rfl ?_
      refine F_gi d_X8_load_17 rfl hBX rfl (fun b_3 => ?_)
      refine T_ige d_X8_load_20 ⟨by omega, by omega⟩ ⟨by omega, by omega⟩ (fun h20 => ?_) (fun h20 => ?_)
      · skip
        have x4 := h4
        refine T_al d_X8_load_79 rfl ?_
        refine T_k d_X8_load_80 ?_
        refine C_v1 d_X8_load_81 rfl (hdF (by decide)) (hcF _) (R_X8_rotate (S := (spS b k c)) (t := 0) hBX hF (by rw [hsm]; exact h4) (by omega) (by omega)) (fun r_4 V_5 R_6 qV_5 => ?_)
        obtain ⟨rfl, hBV_5, cV_5, rfl, pV_5⟩ := qV_5
        have fV_5 := chg_t (A := [(45, 51)]) (F := [(44, 4, 4)]) fX cV_5 rfl
        have p84 := pV_5
        have c84 := cV_5
        refine T_al d_X8_load_84 rfl ?_
        refine C_v0 d_X8_load_85 rfl (hdF (by decide)) (hcF _) (R_X8_sortByX (S := (spS b k c)) hBV_5 hF (by rw [chg_k (c := 44) c84 rfl, hsm]; exact h4) (by omega)) (fun r_7 V_8 R_9 qV_8 => ?_)
        obtain ⟨rfl, hBV_8, cV_8, rfl, pV_8⟩ := qV_8
        have fV_8 := chg_t (A := [(45, 51)]) (F := [(44, 4, 4)]) fV_5 cV_8 rfl
        -- leaf 20t@88
        refine T_vret d_X8_load_88 rfl ?_
        exact ⟨rfl, hBV_8, fV_8, rfl, ld_e (by rw [hsm, ← (show i = nSp b k c by omega)]; exact hL) (by rw [hsm]; exact h4) c84 cV_8 p84 pV_8⟩
      · skip
        have o41 : X 41 i = (shO b k c i : Int) := by rw [x41]; exact hg.2.2.2.2.2.1 i (by omega)
        have hsh : shO b k c i < b.n := (nth_ok (p := isSp b k c) (n := b.n) (i := i) (show i < nSp b k c by omega)).1
        have q36 := (hg.2.2.2.1 (shO b k c i) hsh).1
        have q37 := (hg.2.2.2.1 (shO b k c i) hsh).2
        have q40 := hg.2.2.2.2.2.2 i (by omega)
        refine T_al d_X8_load_23 rfl ?_
        refine F_gr (b := 41) d_X8_load_24 rfl hF rfl ?_
        refine T_il d_X8_load_27 rfl ?_
        refine F_ia d_X8_load_28 rfl hBX rfl ⟨by omega, by omega⟩ (fun b_10 => ?_)
        try simp only [Int.toNat_natCast, o41]
        try simp only [Int.toNat_natCast, o41] at b_10
        refine F_isg d_X8_load_29 (f := fun x_11 => [(0, vr 44), (1, vr 34), (2, vi (i : Int)), (3, vi x_11)]) (fun _ => rfl) (fun x_11 ex_11 => ?_)
        have i1 : (x_11).toNat = shO b k c i := by omega
        refine T_al d_X8_load_30 rfl ?_
        refine F_gr (b := 45) d_X8_load_31 rfl hF rfl ?_
        refine T_il d_X8_load_34 rfl ?_
        refine T_il d_X8_load_35 rfl ?_
        refine F_is d_X8_load_36 rfl hBX rfl ⟨by omega, by omega⟩ ⟨by omega, by omega⟩ (fun V_12 eV_12 hBV_12 => ?_)
        have fV_12 := chg_u eV_12 rfl fX
        refine T_al d_X8_load_37 rfl ?_
        refine F_gr (b := 46) d_X8_load_38 rfl hF rfl ?_
        refine T_il d_X8_load_41 rfl ?_
        refine T_al d_X8_load_42 rfl ?_
        refine F_gr (b := 36) d_X8_load_43 rfl hF rfl ?_
        refine T_il d_X8_load_46 rfl ?_
        refine F_ia d_X8_load_47 rfl hBV_12 rfl ⟨by omega, by omega⟩ (fun b_13 => ?_)
        have faV_12_36 : V_12 36 = X 36 := by rw [eV_12]; rfl
        rw [faV_12_36]
        rw [faV_12_36] at b_13
        try simp only [Int.toNat_natCast, i1, x36, q36]
        try simp only [Int.toNat_natCast, i1, x36, q36] at b_13
        refine F_is d_X8_load_48 rfl hBV_12 rfl ⟨by omega, by omega⟩ ⟨by omega, by omega⟩ (fun V_14 eV_14 hBV_14 => ?_)
        have fV_14 := chg_u eV_14 rfl fV_12
        refine T_al d_X8_load_49 rfl ?_
        refine F_gr (b := 49) d_X8_load_50 rfl hF rfl ?_
        refine T_il d_X8_load_53 rfl ?_
        refine T_al d_X8_load_54 rfl ?_
        refine F_gr (b := 37) d_X8_load_55 rfl hF rfl ?_
        refine T_il d_X8_load_58 rfl ?_
        refine F_ia d_X8_load_59 rfl hBV_14 rfl ⟨by omega, by omega⟩ (fun b_15 => ?_)
        have faV_14_37 : V_14 37 = X 37 := by rw [eV_14, eV_12]; rfl
        rw [faV_14_37]
        rw [faV_14_37] at b_15
        try simp only [Int.toNat_natCast, i1, x37, q37]
        try simp only [Int.toNat_natCast, i1, x37, q37] at b_15
        refine F_is d_X8_load_60 rfl hBV_14 rfl ⟨by omega, by omega⟩ ⟨by omega, by omega⟩ (fun V_16 eV_16 hBV_16 => ?_)
        have fV_16 := chg_u eV_16 rfl fV_14
        refine T_al d_X8_load_61 rfl ?_
        refine F_gr (b := 48) d_X8_load_62 rfl hF rfl ?_
        refine T_il d_X8_load_65 rfl ?_
        refine T_al d_X8_load_66 rfl ?_
        refine F_gr (b := 40) d_X8_load_67 rfl hF rfl ?_
        refine T_il d_X8_load_70 rfl ?_
        refine F_ia d_X8_load_71 rfl hBV_16 rfl ⟨by omega, by omega⟩ (fun b_17 => ?_)
        have faV_16_40 : V_16 40 = X 40 := by rw [eV_16, eV_14, eV_12]; rfl
        rw [faV_16_40]
        rw [faV_16_40] at b_17
        try simp only [Int.toNat_natCast, i1, x40, q40]
        try simp only [Int.toNat_natCast, i1, x40, q40] at b_17
        refine F_is d_X8_load_72 rfl hBV_16 rfl ⟨by omega, by omega⟩ ⟨by omega, by omega⟩ (fun V_18 eV_18 hBV_18 => ?_)
        have fV_18 := chg_u eV_18 rfl fV_16
        refine F_incg d_X8_load_73 rfl (f := fun x_19 => [(0, vr 44), (1, vr 34), (2, vi x_19), (3, vi x_11)]) (fun _ => rfl) (fun x_19 ex_19 => ?_)
        refine T_go d_X8_load_76 ?_
        -- to 15 20f@15
        refine T_subp (ks := [0, 1, 2]) (ls' := [(0, vr 44), (1, vr 34), (2, vi x_19)]) rfl ?_
        obtain rfl : x_19 = ((i + 1) : Int) := by omega
        exact ih15 V_18 (i + 1) (by omega) hBV_18 fV_18 (by first | assumption | omega) (by rw [eV_18, eV_16, eV_14, eV_12]; exact h4) (ld_s (v1 := x_11) hL (by rw [eV_18, eV_16, eV_14, eV_12, Int.toNat_natCast]; rfl) (by rw [ex_11]; rfl) rfl rfl rfl)
  exact L15 _ V_2 (0) (Nat.lt_succ_self _) hBV_2 fV_2 (by first | assumption | omega) (by rw [eV_2, g8, if_neg (by omega)]; rfl) (fun j hj => absurd hj (Nat.not_lt_zero _))
set_option maxHeartbeats 1000000 in
set_option maxRecDepth 100000 in
theorem R_X8_nearest {G : GG} {V : VV} {R : RR} {x : Int} {y : Int} {sl : Int} {S : Sp} (hB : Bd V) (hF : FinR R) (hM : mapC S V) (so : sO S) (hx : -10000 ≤ x ∧ x ≤ 10000) (hy : -10000 ≤ y ∧ y ≤ 10000) (hsl : 0 ≤ sl ∧ sl ≤ 500) : RunsP G M_X8_nearest 2 [vr 44, vi x, vi y, vi sl] V R (vi (nbO S sl x y)) := by
  unfold RunsP
  refine Runs.of pn_X8 (Nat.le_of_ble_eq_true rfl) rfl ?_
  show TT G M_X8_nearest (rmd 2 162 162) 162 (Zm G 162 162 (QP V R (vi (nbO S sl x y)))) 162 0 [(0, vr 44), (1, vi x), (2, vi y), (3, vi sl)] [] V R
  have hm4 := so.1
  obtain ⟨⟨h4, hS⟩, hst, hah⟩ := hM
  have hsx : ∀ s, s < S.m → V 46 s = S.x s := fun s hs => (hS s hs).2.1
  have sqs := sq_b (a := sl) (M := 500) (by omega) (by omega)
  have L14 : ∀ (fr : Int), (fr = if 0 < x - sl then x - sl else 0) → TT G M_X8_nearest (rmd 2 162 162) 162 (Zm G 162 162 (QP V R (vi (nbO S sl x y)))) 162 14 [(0, vr 44), (1, vi x), (2, vi y), (3, vi sl), (4, vi fr)] [] V R := by
    intro fr efr
    refine T_il d_X8_nearest_14 rfl ?_
    refine T_k d_X8_nearest_16 ?_
    refine T_ile d_X8_nearest_19 ⟨by omega, by omega⟩ ⟨by omega, by omega⟩ (fun h19 => ?_) (fun h19 => ?_)
    · skip
      refine T_k d_X8_nearest_24 ?_
      refine T_is d_X8_nearest_25 (ls' := [(0, vr 44), (1, vi x), (2, vi y), (3, vi sl), (4, vi fr), (5, vi (-1))]) rfl ?_
      refine T_il d_X8_nearest_27 rfl ?_
      refine T_il d_X8_nearest_28 rfl ?_
      refine T_imul d_X8_nearest_29 ?_
      refine F_isg d_X8_nearest_30 (f := fun x_1 => [(0, vr 44), (1, vi x), (2, vi y), (3, vi sl), (4, vi fr), (5, vi (-1)), (6, vi x_1)]) (fun _ => rfl) (fun x_1 ex_1 => ?_)
      obtain ⟨j0, ej0, hj0, hn0⟩ := nb_0 (px := x) (py := y) (fr := fr) hst hah hsx so hsl.1 efr h19
      refine T_al d_X8_nearest_32 rfl ?_
      refine F_gr (b := 51) d_X8_nearest_33 rfl hF rfl ?_
      refine T_il d_X8_nearest_36 rfl ?_
      refine F_ia d_X8_nearest_38 rfl hB rfl ⟨by omega, by omega⟩ (fun b_2 => ?_)
      try simp only [Int.toNat_natCast]
      try simp only [Int.toNat_natCast] at b_2
      refine F_isg d_X8_nearest_39 (f := fun x_3 => [(0, vr 44), (1, vi x), (2, vi y), (3, vi sl), (4, vi fr), (5, vi (-1)), (6, vi x_1), (7, vi x_3)]) (fun _ => rfl) (fun x_3 ex_3 => ?_)
      -- to 41 19t@41
      have L41 : ∀ (fu : Nat) (v w : Int) (j : Nat), S.m - j < fu → (j ≤ S.m) → (nbI S x y sl (V 50) j v w) → TT G M_X8_nearest (rmd 2 162 162) 162 (Zm G 162 162 (QP V R (vi (nbO S sl x y)))) 162 41 [(0, vr 44), (1, vi x), (2, vi y), (3, vi sl), (4, vi fr), (5, vi v), (6, vi w), (7, vi (j : Int))] [] V R := by
        intro fu
        induction fu with
        | zero => intro v w j hm; exact absurd hm (Nat.not_lt_zero _)
        | succ fu ih41 =>
          intro v w j hm41 hj hn
          have hnw := nb_w hn
          refine T_il d_X8_nearest_41 rfl ?_
          refine T_al d_X8_nearest_43 rfl ?_
          refine F_gi d_X8_nearest_44 rfl hB rfl (fun b_4 => ?_)
          refine T_ige d_X8_nearest_47 ⟨by omega, by omega⟩ ⟨by omega, by omega⟩ (fun h47 => ?_) (fun h47 => ?_)
          · skip
            refine T_il d_X8_nearest_144 rfl ?_
            -- leaf 47t@146
            exact P_I d_X8_nearest_146 (by exact nb_e hn (fun s hs => Or.inl (by obtain ⟨k, k1, k2⟩ := hst.2.1 s hs; exact ⟨k, by omega, k2⟩)))
          · skip
            have hfj := hst.1 j (by omega)
            refine T_al d_X8_nearest_50 rfl ?_
            refine F_gr (b := 50) d_X8_nearest_51 rfl hF rfl ?_
            refine T_il d_X8_nearest_54 rfl ?_
            refine F_ia d_X8_nearest_56 rfl hB rfl ⟨by omega, by omega⟩ (fun b_5 => ?_)
            try simp only [Int.toNat_natCast]
            try simp only [Int.toNat_natCast] at b_5
            refine F_isg d_X8_nearest_57 (f := fun x_6 => [(0, vr 44), (1, vi x), (2, vi y), (3, vi sl), (4, vi fr), (5, vi v), (6, vi w), (7, vi (j : Int)), (8, vi x_6)]) (fun _ => rfl) (fun x_6 ex_6 => ?_)
            have hc : (V 50 j).toNat < S.m := by omega
            have i8 : (x_6).toNat = (V 50 j).toNat := by rw [ex_6]
            have wx := (hS _ hc).2.1
            have wy := (hS _ hc).2.2.1
            have hdb := d2_b so hc hx hy
            have hxo := (so.2 _ hc).1
            refine T_al d_X8_nearest_59 rfl ?_
            refine F_gr (b := 46) d_X8_nearest_60 rfl hF rfl ?_
            refine T_il d_X8_nearest_63 rfl ?_
            refine F_ia d_X8_nearest_65 rfl hB rfl ⟨by omega, by omega⟩ (fun b_7 => ?_)
            try simp only [Int.toNat_natCast, i8, wx]
            try simp only [Int.toNat_natCast, i8, wx] at b_7
            refine T_il d_X8_nearest_66 rfl ?_
            refine T_isub d_X8_nearest_67 ?_
            refine F_isg d_X8_nearest_68 (f := fun x_8 => [(0, vr 44), (1, vi x), (2, vi y), (3, vi sl), (4, vi fr), (5, vi v), (6, vi w), (7, vi (j : Int)), (8, vi x_6), (9, vi x_8)]) (fun _ => rfl) (fun x_8 ex_8 => ?_)
            refine T_il d_X8_nearest_70 rfl ?_
            refine T_il d_X8_nearest_72 rfl ?_
            refine T_ile d_X8_nearest_73 ⟨by omega, by omega⟩ ⟨by omega, by omega⟩ (fun h73 => ?_) (fun h73 => ?_)
            · skip
              refine T_al d_X8_nearest_79 rfl ?_
              refine F_gr (b := 47) d_X8_nearest_80 rfl hF rfl ?_
              refine T_il d_X8_nearest_83 rfl ?_
              refine F_ia d_X8_nearest_85 rfl hB rfl ⟨by omega, by omega⟩ (fun b_9 => ?_)
              try simp only [Int.toNat_natCast, i8, wy]
              try simp only [Int.toNat_natCast, i8, wy] at b_9
              refine T_il d_X8_nearest_86 rfl ?_
              refine T_isub d_X8_nearest_87 ?_
              refine F_isg d_X8_nearest_88 (f := fun x_10 => [(0, vr 44), (1, vi x), (2, vi y), (3, vi sl), (4, vi fr), (5, vi v), (6, vi w), (7, vi (j : Int)), (8, vi x_6), (9, vi x_8), (10, vi x_10)]) (fun _ => rfl) (fun x_10 ex_10 => ?_)
              refine T_il d_X8_nearest_90 rfl ?_
              refine T_il d_X8_nearest_92 rfl ?_
              refine T_imul d_X8_nearest_94 ?_
              refine T_il d_X8_nearest_95 rfl ?_
              refine T_il d_X8_nearest_97 rfl ?_
              refine T_imul d_X8_nearest_99 ?_
              refine T_iadd d_X8_nearest_100 ?_
              refine F_isg d_X8_nearest_101 (f := fun x_11 => [(0, vr 44), (1, vi x), (2, vi y), (3, vi sl), (4, vi fr), (5, vi v), (6, vi w), (7, vi (j : Int)), (8, vi x_6), (9, vi x_8), (10, vi x_10), (11, vi x_11)]) (fun _ => rfl) (fun x_11 ex_11 => ?_)
              have ed : x_11 = d2 S (V 50 j).toNat x y := by rw [ex_11, ex_8, ex_10]; rfl
              refine T_il d_X8_nearest_103 rfl ?_
              refine T_il d_X8_nearest_105 rfl ?_
              refine T_ilt d_X8_nearest_107 ⟨by omega, by omega⟩ ⟨by omega, by omega⟩ (fun h107 => ?_) (fun h107 => ?_)
              · skip
                refine T_il d_X8_nearest_130 rfl ?_
                refine T_is d_X8_nearest_132 (ls' := [(0, vr 44), (1, vi x), (2, vi y), (3, vi sl), (4, vi fr), (5, vi x_6), (6, vi w), (7, vi (j : Int)), (8, vi x_6), (9, vi x_8), (10, vi x_10), (11, vi x_11)]) rfl ?_
                refine T_il d_X8_nearest_134 rfl ?_
                refine T_is d_X8_nearest_136 (ls' := [(0, vr 44), (1, vi x), (2, vi y), (3, vi sl), (4, vi fr), (5, vi x_6), (6, vi x_11), (7, vi (j : Int)), (8, vi x_6), (9, vi x_8), (10, vi x_10), (11, vi x_11)]) rfl ?_
                refine F_incg d_X8_nearest_138 rfl (f := fun x_12 => [(0, vr 44), (1, vi x), (2, vi y), (3, vi sl), (4, vi fr), (5, vi x_6), (6, vi x_11), (7, vi x_12), (8, vi x_6), (9, vi x_8), (10, vi x_10), (11, vi x_11)]) (fun _ => rfl) (fun x_12 ex_12 => ?_)
                refine T_go d_X8_nearest_141 ?_
                -- to 41 47f.73t.107t@41
                refine T_subp (ks := [0, 1, 2, 3, 4, 5, 6, 7]) (ls' := [(0, vr 44), (1, vi x), (2, vi y), (3, vi sl), (4, vi fr), (5, vi x_6), (6, vi x_11), (7, vi x_12)]) rfl ?_
                obtain rfl : x_12 = ((j + 1) : Int) := by omega
                exact ih41 x_6 x_11 (j + 1) (by omega) (by first | assumption | omega) (by rw [show x_6 = (((V 50 j).toNat : Nat) : Int) by omega, ed]; exact nb_t hn rfl hc (Or.inl (by omega)))
              · skip
                refine T_il d_X8_nearest_110 rfl ?_
                refine T_il d_X8_nearest_112 rfl ?_
                refine T_ine d_X8_nearest_114 ⟨by omega, by omega⟩ ⟨by omega, by omega⟩ (fun h114 => ?_) (fun h114 => ?_)
                · skip
                  refine F_incg d_X8_nearest_138 rfl (f := fun x_13 => [(0, vr 44), (1, vi x), (2, vi y), (3, vi sl), (4, vi fr), (5, vi v), (6, vi w), (7, vi x_13), (8, vi x_6), (9, vi x_8), (10, vi x_10), (11, vi x_11)]) (fun _ => rfl) (fun x_13 ex_13 => ?_)
                  refine T_go d_X8_nearest_141 ?_
                  -- to 41 47f.73t.107f.114t@41
                  refine T_subp (ks := [0, 1, 2, 3, 4, 5, 6, 7]) (ls' := [(0, vr 44), (1, vi x), (2, vi y), (3, vi sl), (4, vi fr), (5, vi v), (6, vi w), (7, vi x_13)]) rfl ?_
                  obtain rfl : x_13 = ((j + 1) : Int) := by omega
                  exact ih41 v w (j + 1) (by omega) (by first | assumption | omega) (nb_k hn rfl (fun z => by omega))
                · skip
                  refine T_il d_X8_nearest_117 rfl ?_
                  refine T_k d_X8_nearest_119 ?_
                  refine T_ieq d_X8_nearest_120 ⟨by omega, by omega⟩ ⟨by omega, by omega⟩ (fun h120 => ?_) (fun h120 => ?_)
                  · skip
                    refine T_il d_X8_nearest_130 rfl ?_
                    refine T_is d_X8_nearest_132 (ls' := [(0, vr 44), (1, vi x), (2, vi y), (3, vi sl), (4, vi fr), (5, vi x_6), (6, vi w), (7, vi (j : Int)), (8, vi x_6), (9, vi x_8), (10, vi x_10), (11, vi x_11)]) rfl ?_
                    refine T_il d_X8_nearest_134 rfl ?_
                    refine T_is d_X8_nearest_136 (ls' := [(0, vr 44), (1, vi x), (2, vi y), (3, vi sl), (4, vi fr), (5, vi x_6), (6, vi x_11), (7, vi (j : Int)), (8, vi x_6), (9, vi x_8), (10, vi x_10), (11, vi x_11)]) rfl ?_
                    refine F_incg d_X8_nearest_138 rfl (f := fun x_14 => [(0, vr 44), (1, vi x), (2, vi y), (3, vi sl), (4, vi fr), (5, vi x_6), (6, vi x_11), (7, vi x_14), (8, vi x_6), (9, vi x_8), (10, vi x_10), (11, vi x_11)]) (fun _ => rfl) (fun x_14 ex_14 => ?_)
                    refine T_go d_X8_nearest_141 ?_
                    -- to 41 47f.73t.107f.114f.120t@41
                    refine T_subp (ks := [0, 1, 2, 3, 4, 5, 6, 7]) (ls' := [(0, vr 44), (1, vi x), (2, vi y), (3, vi sl), (4, vi fr), (5, vi x_6), (6, vi x_11), (7, vi x_14)]) rfl ?_
                    obtain rfl : x_14 = ((j + 1) : Int) := by omega
                    exact ih41 x_6 x_11 (j + 1) (by omega) (by first | assumption | omega) (by rw [show x_6 = (((V 50 j).toNat : Nat) : Int) by omega, ed]; exact nb_t hn rfl hc (Or.inr ⟨by omega, Or.inl h120⟩))
                  · skip
                    refine T_il d_X8_nearest_123 rfl ?_
                    refine T_il d_X8_nearest_125 rfl ?_
                    refine T_ige d_X8_nearest_127 ⟨by omega, by omega⟩ ⟨by omega, by omega⟩ (fun h127 => ?_) (fun h127 => ?_)
                    · skip
                      refine F_incg d_X8_nearest_138 rfl (f := fun x_15 => [(0, vr 44), (1, vi x), (2, vi y), (3, vi sl), (4, vi fr), (5, vi v), (6, vi w), (7, vi x_15), (8, vi x_6), (9, vi x_8), (10, vi x_10), (11, vi x_11)]) (fun _ => rfl) (fun x_15 ex_15 => ?_)
                      refine T_go d_X8_nearest_141 ?_
                      -- to 41 47f.73t.107f.114f.120f.127t@41
                      refine T_subp (ks := [0, 1, 2, 3, 4, 5, 6, 7]) (ls' := [(0, vr 44), (1, vi x), (2, vi y), (3, vi sl), (4, vi fr), (5, vi v), (6, vi w), (7, vi x_15)]) rfl ?_
                      obtain rfl : x_15 = ((j + 1) : Int) := by omega
                      exact ih41 v w (j + 1) (by omega) (by first | assumption | omega) (nb_k hn rfl (fun z => by omega))
                    · skip
                      refine T_il d_X8_nearest_130 rfl ?_
                      refine T_is d_X8_nearest_132 (ls' := [(0, vr 44), (1, vi x), (2, vi y), (3, vi sl), (4, vi fr), (5, vi x_6), (6, vi w), (7, vi (j : Int)), (8, vi x_6), (9, vi x_8), (10, vi x_10), (11, vi x_11)]) rfl ?_
                      refine T_il d_X8_nearest_134 rfl ?_
                      refine T_is d_X8_nearest_136 (ls' := [(0, vr 44), (1, vi x), (2, vi y), (3, vi sl), (4, vi fr), (5, vi x_6), (6, vi x_11), (7, vi (j : Int)), (8, vi x_6), (9, vi x_8), (10, vi x_10), (11, vi x_11)]) rfl ?_
                      refine F_incg d_X8_nearest_138 rfl (f := fun x_16 => [(0, vr 44), (1, vi x), (2, vi y), (3, vi sl), (4, vi fr), (5, vi x_6), (6, vi x_11), (7, vi x_16), (8, vi x_6), (9, vi x_8), (10, vi x_10), (11, vi x_11)]) (fun _ => rfl) (fun x_16 ex_16 => ?_)
                      refine T_go d_X8_nearest_141 ?_
                      -- to 41 47f.73t.107f.114f.120f.127f@41
                      refine T_subp (ks := [0, 1, 2, 3, 4, 5, 6, 7]) (ls' := [(0, vr 44), (1, vi x), (2, vi y), (3, vi sl), (4, vi fr), (5, vi x_6), (6, vi x_11), (7, vi x_16)]) rfl ?_
                      obtain rfl : x_16 = ((j + 1) : Int) := by omega
                      exact ih41 x_6 x_11 (j + 1) (by omega) (by first | assumption | omega) (by rw [show x_6 = (((V 50 j).toNat : Nat) : Int) by omega, ed]; exact nb_t hn rfl hc (Or.inr ⟨by omega, Or.inr (by omega)⟩))
            · skip
              refine T_go d_X8_nearest_76 ?_
              refine T_il d_X8_nearest_144 rfl ?_
              -- leaf 47f.73f@146
              exact P_I d_X8_nearest_146 (by exact nb_e hn (nb_br hst hsx (by omega) hsl.1 (by omega)))
      obtain rfl : x_3 = (j0 : Int) := by omega
      exact L41 _ (-1) x_1 (j0) (Nat.lt_succ_self _) hj0 (by rw [ex_1]; exact hn0)
    · skip
      refine T_k d_X8_nearest_22 ?_
      -- leaf 19f@23
      exact P_I d_X8_nearest_23 (by exact (nb_e (f := fun _ => 0) (j := 0) (v := -1) (w := sl * sl) (Or.inl ⟨rfl, rfl, fun k hk => absurd hk (Nat.not_lt_zero _)⟩) (nb_fr so hsl.1 (by rw [efr] at h19; exact h19))))
  refine T_il d_X8_nearest_0 rfl ?_
  refine T_il d_X8_nearest_1 rfl ?_
  refine T_ile d_X8_nearest_2 ⟨by omega, by omega⟩ ⟨by omega, by omega⟩ (fun h2 => ?_) (fun h2 => ?_)
  · skip
    refine T_k d_X8_nearest_11 ?_
    refine T_is d_X8_nearest_12 (ls' := [(0, vr 44), (1, vi x), (2, vi y), (3, vi sl), (4, vi 0)]) rfl ?_
    -- to 14 2t@14
    exact L14 0 (by rw [if_neg (by omega)])
  · skip
    refine T_il d_X8_nearest_5 rfl ?_
    refine T_il d_X8_nearest_6 rfl ?_
    refine T_isub d_X8_nearest_7 ?_
    refine T_go d_X8_nearest_8 ?_
    refine F_isg d_X8_nearest_12 (f := fun x_17 => [(0, vr 44), (1, vi x), (2, vi y), (3, vi sl), (4, vi x_17)]) (fun _ => rfl) (fun x_17 ex_17 => ?_)
    -- to 14 2f@14
    exact L14 x_17 (by rw [ex_17, if_pos (by omega)])
