theorem opt_some {P : Prop} [Decidable P] {x a : Nat} (h : some a = if P then some x else none) : P ∧ a = x := by
  by_cases q : P
  · rw [if_pos q] at h; exact ⟨q, Option.some.inj h⟩
  · rw [if_neg q] at h; cases h
theorem opt_none {P : Prop} [Decidable P] {x : Nat} (h : none = if P then some x else none) : ¬ P := fun q => by
  rw [if_pos q] at h; cases h
theorem S3_sel {b : Bk} {k : Int} {Ks : Nat → Kd} {nk c : Nat} {ρ : Nat → Nat} {ch : Nat} {V : VV} (h1 : S1 b k c V) (h : S3 b k Ks nk c ρ ch V) : sel b Ks nk k c ch := ⟨h1.1, h.1⟩
set_option maxHeartbeats 1000000 in
set_option maxRecDepth 100000 in
theorem R_X3_getA {G : GG} {V : VV} {R : RR} {g : Int} {N : Nat} {ρ : Nat → Nat} (hB : Bd V) (hF : FinR R) (hN : N ≤ 24) (hNz : V 56 1 = (N : Int)) (hrw : rwI R ρ) (hg : r32 g) : RunsP G M_X3_get 2 [vr 56, vi g] V R (vq (if 0 ≤ g ∧ g < (N : Int) then some (ρ g.toNat) else none)) := by
  unfold RunsP
  refine Runs.of pn_X3 (Nat.le_of_ble_eq_true rfl) rfl ?_
  show TT G M_X3_get (rmd 2 162 162) 162 (Zm G 162 162 (QP V R (vq (if 0 ≤ g ∧ g < (N : Int) then some (ρ g.toNat) else none)))) 162 0 [(0, vr 56), (1, vi g)] [] V R
  obtain ⟨hg1, hg2⟩ := hg
  refine T_il d_X3_get_0 rfl ?_
  refine T_k d_X3_get_1 ?_
  refine T_al d_X3_get_2 rfl ?_
  have hNz2 := hNz
  refine F_gi d_X3_get_3 rfl hB rfl (fun b_1 => ?_)
  rw [hNz]
  refine T_k d_X3_get_6 ?_
  refine T_isub d_X3_get_7 ?_
  refine C_ps3 d_X3_get_8 (hdF (by decide)) (hcF _) (R_X10_isIn ⟨by omega, by omega⟩ ⟨by omega, by omega⟩ ⟨by omega, by omega⟩) ?_
  refine T_pz0 d_X3_get_11 (fun h11 => ?_) (fun h11 => ?_)
  · skip
    refine T_null d_X3_get_23 ?_
    -- leaf 11t@24
    exact T_aret d_X3_get_24 rfl ⟨by rw [if_neg (by omega)], rfl, rfl⟩
  · skip
    refine T_al d_X3_get_14 rfl ?_
    refine F_gr (b := 57) d_X3_get_15 rfl hF rfl ?_
    refine T_il d_X3_get_18 rfl ?_
    refine F_aa d_X3_get_19 rfl ⟨by omega, by omega⟩ ?_
    rw [show R 57 g.toNat = some (ρ g.toNat) from (hrw.1 _ (by omega)).1]
    refine T_go d_X3_get_20 ?_
    -- leaf 11f@24
    exact T_aret d_X3_get_24 rfl ⟨by rw [if_pos (by omega)], rfl, rfl⟩
set_option maxHeartbeats 1000000 in
set_option maxRecDepth 100000 in
theorem R_X6_memberA {G : GG} {V : VV} {R : RR} {g : Int} {ch N : Nat} (hB : Bd V) (hF : FinR R) (hg : r32 g) (h87 : ∀ i, i < 24 → V 87 i = mbI ch N i) : RunsP G M_X6_memberFor 2 [vr 85, vi g] V R (vi (mbW ch N g)) := by
  unfold RunsP
  refine Runs.of pn_X6 (Nat.le_of_ble_eq_true rfl) rfl ?_
  show TT G M_X6_memberFor (rmd 2 162 162) 162 (Zm G 162 162 (QP V R (vi (mbW ch N g)))) 162 0 [(0, vr 85), (1, vi g)] [] V R
  obtain ⟨hg1, hg2⟩ := hg
  refine T_il d_X6_memberFor_0 rfl ?_
  refine T_k d_X6_memberFor_1 ?_
  refine T_k d_X6_memberFor_2 ?_
  refine C_ps3 d_X6_memberFor_4 (hdF (by decide)) (hcF _) (R_X10_isIn ⟨by omega, by omega⟩ ⟨by omega, by omega⟩ ⟨by omega, by omega⟩) ?_
  refine T_pz0 d_X6_memberFor_7 (fun h7 => ?_) (fun h7 => ?_)
  · skip
    refine T_k d_X6_memberFor_19 ?_
    -- leaf 7t@20
    exact P_I d_X6_memberFor_20 (by unfold mbW; rw [if_neg (by omega)])
  · skip
    refine T_al d_X6_memberFor_10 rfl ?_
    refine F_gr (b := 87) d_X6_memberFor_11 rfl hF rfl ?_
    refine T_il d_X6_memberFor_14 rfl ?_
    refine F_ia d_X6_memberFor_15 rfl hB rfl ⟨by omega, by omega⟩ (fun b_1 => ?_)
    try simp only [Int.toNat_natCast]
    try simp only [Int.toNat_natCast] at b_1
    refine T_go d_X6_memberFor_16 ?_
    -- leaf 7f@20
    exact P_I d_X6_memberFor_20 (by unfold mbW; rw [if_pos (by omega)]; exact h87 _ (by omega))
set_option maxHeartbeats 1000000 in
set_option maxRecDepth 100000 in
theorem R_X10_frame {G : GG} {V : VV} {R : RR} {k : Int} {w : Int} {b : Bk} {Ks : Nat → Kd} {nk : Nat} (hB : Bd V) (hF : FinR R) (bCV : bC b V) (hob : okB b Ks nk) (hic : icB b Ks nk V) (hs : svX b Ks nk V R) (h_k : r32 k) (h_w : r32 w) : Runs G M_X10_frame 42 162 162 [vr 0, vi k, vi w] V R (obsQ b Ks nk V (gd (K4 k ∧ 0 ≤ w ∧ w ≤ 3) (-1000) (o1 b k (frW b k w)))) := by
  refine Runs.of pn_X10 (Nat.le_of_ble_eq_true rfl) rfl ?_
  show TT G M_X10_frame (rmd 42 162 162) 162 (Zm G 162 162 (obsQ b Ks nk V (gd (K4 k ∧ 0 ≤ w ∧ w ≤ 3) (-1000) (o1 b k (frW b k w))))) 162 0 [(0, vr 0), (1, vi k), (2, vi w)] [] V R
  obtain ⟨h_k1, h_k2⟩ := h_k
  obtain ⟨h_w1, h_w2⟩ := h_w
  have fV : chg [(31, 98)] [(30, 7, 8), (30, 12, 13)] V V := chg_r
  refine T_al d_X10_frame_0 rfl ?_
  refine F_gr (b := 30) d_X10_frame_1 rfl hF rfl ?_
  refine T_il d_X10_frame_4 rfl ?_
  refine T_k d_X10_frame_5 ?_
  refine C_v2 d_X10_frame_6 rfl (hdF (by omega)) (hcF _) (R_X9_reachA (b := b) (Ks := Ks) (nk := nk) (k := k) (t := 1) hB hF bCV hob hic hs ⟨by omega, by omega⟩ ⟨by omega, by omega⟩) (fun r_1 V_2 R_3 qV_2 => ?_)
  obtain ⟨hF, hBV_2, cV_2, rfl, xsV_2, twV_2⟩ := qV_2
  have fV_2 := chg_t (A := [(31, 98)]) (F := [(30, 7, 8), (30, 12, 13)]) fV cV_2 rfl
  have bCV_2 := bC_c bCV fV_2 rfl
  have xs := xsV_2
  have tw := twV_2
  have XB := hBV_2
  have fX := fV_2
  refine T_pz1 d_X10_frame_9 (fun h9 => ?_) (fun h9 => ?_)
  · skip
    obtain ⟨ρ, c, ch, rw0, sv0⟩ := xs
    obtain ⟨t8, sw⟩ := tw h9
    have sv := sv0
    rw [sw_svC sw] at sv
    have s1 := sv.1 (by omega)
    have xs : svX b Ks nk V_2 R_3 := ⟨ρ, c, ch, rw0, sv0⟩
    have fc := s1.2.1.1
    refine T_al d_X10_frame_16 rfl ?_
    refine F_gr (b := 30) d_X10_frame_17 rfl hF rfl ?_
    refine F_gr (b := 34) d_X10_frame_20 rfl hF rfl ?_
    refine T_as d_X10_frame_23 (ls' := [(0, vr 0), (1, vi k), (2, vi w), (3, vr 34)]) rfl ?_
    refine T_il d_X10_frame_24 rfl ?_
    by_cases hs25 : w < 0 ∨ 3 < w
    · refine T_swo d_X10_frame_25 ⟨by omega, by omega⟩ hs25 (tg := 76) (by decide) ?_
      refine T_k d_X10_frame_76 ?_
      -- leaf 9t.25o@79
      refine T_iret d_X10_frame_79 rfl ?_
      exact ⟨hF, hBV_2, fV_2, xs, _, rfl, ⟨by omega, by omega⟩, gd_n (fun z => by omega)⟩
    · have hq25 : w = 0 ∨ w = 1 ∨ w = 2 ∨ w = 3 := by omega
      rcases hq25 with e25_0 | e25_1 | e25_2 | e25_3
      · refine T_swi d_X10_frame_25 ⟨by omega, by omega⟩ (by omega) (by omega) (tg := 56) (by rw [e25_0]; rfl) ?_
        refine T_al d_X10_frame_56 rfl ?_
        refine F_gi d_X10_frame_57 rfl hBV_2 rfl (fun b_4 => ?_)
        -- leaf 9t.25s0@60
        refine T_iret d_X10_frame_60 rfl ?_
        exact ⟨hF, hBV_2, fV_2, xs, _, rfl, ⟨by omega, by omega⟩, gd_y ⟨h9, by omega, by omega⟩ ⟨c, s1.1, by rw [e25_0]; exact fc.1⟩⟩
      · refine T_swi d_X10_frame_25 ⟨by omega, by omega⟩ (by omega) (by omega) (tg := 61) (by rw [e25_1]; rfl) ?_
        refine T_al d_X10_frame_61 rfl ?_
        refine F_gi d_X10_frame_62 rfl hBV_2 rfl (fun b_5 => ?_)
        -- leaf 9t.25s1@65
        refine T_iret d_X10_frame_65 rfl ?_
        exact ⟨hF, hBV_2, fV_2, xs, _, rfl, ⟨by omega, by omega⟩, gd_y ⟨h9, by omega, by omega⟩ ⟨c, s1.1, by rw [e25_1]; exact fc.2.1⟩⟩
      · refine T_swi d_X10_frame_25 ⟨by omega, by omega⟩ (by omega) (by omega) (tg := 66) (by rw [e25_2]; rfl) ?_
        refine T_al d_X10_frame_66 rfl ?_
        refine F_gi d_X10_frame_67 rfl hBV_2 rfl (fun b_6 => ?_)
        -- leaf 9t.25s2@70
        refine T_iret d_X10_frame_70 rfl ?_
        exact ⟨hF, hBV_2, fV_2, xs, _, rfl, ⟨by omega, by omega⟩, gd_y ⟨h9, by omega, by omega⟩ ⟨c, s1.1, by rw [e25_2]; exact fc.2.2.1⟩⟩
      · refine T_swi d_X10_frame_25 ⟨by omega, by omega⟩ (by omega) (by omega) (tg := 71) (by rw [e25_3]; rfl) ?_
        refine T_al d_X10_frame_71 rfl ?_
        refine F_gi d_X10_frame_72 rfl hBV_2 rfl (fun b_7 => ?_)
        -- leaf 9t.25s3@75
        refine T_iret d_X10_frame_75 rfl ?_
        exact ⟨hF, hBV_2, fV_2, xs, _, rfl, ⟨by omega, by omega⟩, gd_y ⟨h9, by omega, by omega⟩ ⟨c, s1.1, by rw [e25_3]; exact fc.2.2.2⟩⟩
  · skip
    refine T_k d_X10_frame_12 ?_
    -- leaf 9f@15
    refine T_iret d_X10_frame_15 rfl ?_
    exact ⟨hF, hBV_2, fV_2, xs, _, rfl, ⟨by omega, by omega⟩, gd_n (fun z => h9 z.1)⟩
set_option maxHeartbeats 1000000 in
set_option maxRecDepth 100000 in
theorem R_X10_spot {G : GG} {V : VV} {R : RR} {h : Int} {k : Int} {w : Int} {b : Bk} {Ks : Nat → Kd} {nk : Nat} (hB : Bd V) (hF : FinR R) (bCV : bC b V) (hob : okB b Ks nk) (hic : icB b Ks nk V) (hs : svX b Ks nk V R) (h_h : r32 h) (h_k : r32 k) (h_w : r32 w) : Runs G M_X10_spot 42 162 162 [vr 0, vi h, vi k, vi w] V R (obsQ b Ks nk V (gd ((0 ≤ h ∧ h < (b.n : Int)) ∧ K4 k ∧ 0 ≤ w ∧ w ≤ 4) (-1000) (o1 b k (spW b k h.toNat w)))) := by
  refine Runs.of pn_X10 (Nat.le_of_ble_eq_true rfl) rfl ?_
  show TT G M_X10_spot (rmd 42 162 162) 162 (Zm G 162 162 (obsQ b Ks nk V (gd ((0 ≤ h ∧ h < (b.n : Int)) ∧ K4 k ∧ 0 ≤ w ∧ w ≤ 4) (-1000) (o1 b k (spW b k h.toNat w))))) 162 0 [(0, vr 0), (1, vi h), (2, vi k), (3, vi w)] [] V R
  obtain ⟨h_h1, h_h2⟩ := h_h
  obtain ⟨h_k1, h_k2⟩ := h_k
  obtain ⟨h_w1, h_w2⟩ := h_w
  have fV : chg [(31, 98)] [(30, 7, 8), (30, 12, 13)] V V := chg_r
  have hn := bCV.n
  have hn4 := hob.1.n
  refine T_al d_X10_spot_0 rfl ?_
  refine F_gr (b := 1) d_X10_spot_1 rfl hF rfl ?_
  refine T_il d_X10_spot_4 rfl ?_
  refine C_pv1 d_X10_spot_5 rfl (hdF (by omega)) (hcF _) (R_X0_hasHole hB hF ⟨by omega, by omega⟩) ?_
  refine T_pz0 d_X10_spot_8 (fun h8 => ?_) (fun h8 => ?_)
  · skip
    refine T_k d_X10_spot_23 ?_
    -- leaf 8t@26
    refine T_iret d_X10_spot_26 rfl ?_
    exact ⟨hF, hB, fV, hs, _, rfl, ⟨by omega, by omega⟩, gd_n (fun z => h8 ⟨z.1.1, by have := z.1.2; omega⟩)⟩
  · skip
    refine T_al d_X10_spot_11 rfl ?_
    refine F_gr (b := 30) d_X10_spot_12 rfl hF rfl ?_
    refine T_il d_X10_spot_15 rfl ?_
    refine T_k d_X10_spot_16 ?_
    refine C_v2 d_X10_spot_17 rfl (hdF (by omega)) (hcF _) (R_X9_reachA (b := b) (Ks := Ks) (nk := nk) (k := k) (t := 1) hB hF bCV hob hic hs ⟨by omega, by omega⟩ ⟨by omega, by omega⟩) (fun r_1 V_2 R_3 qV_2 => ?_)
    obtain ⟨hF, hBV_2, cV_2, rfl, xsV_2, twV_2⟩ := qV_2
    have fV_2 := chg_t (A := [(31, 98)]) (F := [(30, 7, 8), (30, 12, 13)]) fV cV_2 rfl
    have bCV_2 := bC_c bCV fV_2 rfl
    have xs := xsV_2
    have tw := twV_2
    have XB := hBV_2
    have fX := fV_2
    refine T_pz1 d_X10_spot_20 (fun h20 => ?_) (fun h20 => ?_)
    · skip
      obtain ⟨ρ, c, ch, rw0, sv0⟩ := xs
      obtain ⟨t8, sw⟩ := tw h20
      have sv := sv0
      rw [sw_svC sw] at sv
      have s1 := sv.1 (by omega)
      have xs : svX b Ks nk V_2 R_3 := ⟨ρ, c, ch, rw0, sv0⟩
      have hb0 : 0 ≤ h ∧ h < (b.n : Int) := ⟨h8.1, by have := h8.2; omega⟩
      have hb : h.toNat < b.n := by omega
      have sn := s1.2.1.2.2.1 h.toNat hb
      have xy := s1.2.1.2.2.2.1 h.toNat hb
      have ow := s1.2.1.2.2.2.2.1 h.toNat hb
      have b39 := XB.1 39 (-1) 39 rfl h.toNat
      refine T_al d_X10_spot_27 rfl ?_
      refine F_gr (b := 30) d_X10_spot_28 rfl hF rfl ?_
      refine F_gr (b := 34) d_X10_spot_31 rfl hF rfl ?_
      refine T_as d_X10_spot_34 (ls' := [(0, vr 0), (1, vi h), (2, vi k), (3, vi w), (4, vr 34)]) rfl ?_
      refine T_al d_X10_spot_36 rfl ?_
      refine F_gr (b := 39) d_X10_spot_38 rfl hF rfl ?_
      refine T_il d_X10_spot_41 rfl ?_
      refine F_ia d_X10_spot_42 rfl hBV_2 rfl ⟨by omega, by omega⟩ (fun b_4 => ?_)
      try simp only [Int.toNat_natCast]
      try simp only [Int.toNat_natCast] at b_4
      refine F_isg d_X10_spot_43 (f := fun x_5 => [(0, vr 0), (1, vi h), (2, vi k), (3, vi w), (4, vr 34), (5, vi x_5)]) (fun _ => rfl) (fun x_5 ex_5 => ?_)
      have e5 : x_5 = owO b k c h.toNat := ex_5.trans ow
      have b5 : -1 ≤ x_5 ∧ x_5 ≤ 39 := by rw [ex_5]; exact b39
      refine T_il d_X10_spot_45 rfl ?_
      by_cases hs46 : w < 0 ∨ 4 < w
      · refine T_swo d_X10_spot_46 ⟨by omega, by omega⟩ hs46 (tg := 167) (by decide) ?_
        refine T_k d_X10_spot_167 ?_
        -- leaf 8f.20t.46o@170
        refine T_iret d_X10_spot_170 rfl ?_
        exact ⟨hF, hBV_2, fV_2, xs, _, rfl, ⟨by omega, by omega⟩, gd_n (fun z => by omega)⟩
      · have hq46 : w = 0 ∨ w = 1 ∨ w = 2 ∨ w = 3 ∨ w = 4 := by omega
        rcases hq46 with e46_0 | e46_1 | e46_2 | e46_3 | e46_4
        · refine T_swi d_X10_spot_46 ⟨by omega, by omega⟩ (by omega) (by omega) (tg := 80) (by rw [e46_0]; rfl) ?_
          refine T_al d_X10_spot_80 rfl ?_
          refine F_gr (b := 35) d_X10_spot_82 rfl hF rfl ?_
          refine T_il d_X10_spot_85 rfl ?_
          refine F_za d_X10_spot_86 rfl hBV_2 rfl ⟨by omega, by omega⟩ (fun b_6 => ?_)
          try simp only [Int.toNat_natCast]
          try simp only [Int.toNat_natCast] at b_6
          refine T_zeq d_X10_spot_87 ⟨by omega, by omega⟩ (fun h87 => ?_) (fun h87 => ?_)
          · skip
            refine T_k d_X10_spot_100 ?_
            -- leaf 8f.20t.46s0.87t@103
            refine T_iret d_X10_spot_103 rfl ?_
            exact ⟨hF, hBV_2, fV_2, xs, _, rfl, ⟨by omega, by omega⟩, gd_y ⟨hb0, h20, by omega, by omega⟩ ⟨c, s1.1, by rw [e46_0]; exact (if_neg (fun z => by rw [sn, if_pos z] at h87; omega)).symm⟩⟩
          · skip
            refine T_al d_X10_spot_90 rfl ?_
            refine F_gr (b := 36) d_X10_spot_92 rfl hF rfl ?_
            refine T_il d_X10_spot_95 rfl ?_
            refine F_ia d_X10_spot_96 rfl hBV_2 rfl ⟨by omega, by omega⟩ (fun b_7 => ?_)
            try simp only [Int.toNat_natCast]
            try simp only [Int.toNat_natCast] at b_7
            refine T_go d_X10_spot_97 ?_
            -- leaf 8f.20t.46s0.87f@103
            refine T_iret d_X10_spot_103 rfl ?_
            exact ⟨hF, hBV_2, fV_2, xs, _, rfl, ⟨by omega, by omega⟩, gd_y ⟨hb0, h20, by omega, by omega⟩ ⟨c, s1.1, by rw [e46_0]; exact xy.1.trans (if_pos (Classical.byContradiction fun z => h87 (by rw [sn, if_neg z]))).symm⟩⟩
        · refine T_swi d_X10_spot_46 ⟨by omega, by omega⟩ (by omega) (by omega) (tg := 104) (by rw [e46_1]; rfl) ?_
          refine T_al d_X10_spot_104 rfl ?_
          refine F_gr (b := 35) d_X10_spot_106 rfl hF rfl ?_
          refine T_il d_X10_spot_109 rfl ?_
          refine F_za d_X10_spot_110 rfl hBV_2 rfl ⟨by omega, by omega⟩ (fun b_8 => ?_)
          try simp only [Int.toNat_natCast]
          try simp only [Int.toNat_natCast] at b_8
          refine T_zeq d_X10_spot_111 ⟨by omega, by omega⟩ (fun h111 => ?_) (fun h111 => ?_)
          · skip
            refine T_k d_X10_spot_124 ?_
            -- leaf 8f.20t.46s1.111t@127
            refine T_iret d_X10_spot_127 rfl ?_
            exact ⟨hF, hBV_2, fV_2, xs, _, rfl, ⟨by omega, by omega⟩, gd_y ⟨hb0, h20, by omega, by omega⟩ ⟨c, s1.1, by rw [e46_1]; exact (if_neg (fun z => by rw [sn, if_pos z] at h111; omega)).symm⟩⟩
          · skip
            refine T_al d_X10_spot_114 rfl ?_
            refine F_gr (b := 37) d_X10_spot_116 rfl hF rfl ?_
            refine T_il d_X10_spot_119 rfl ?_
            refine F_ia d_X10_spot_120 rfl hBV_2 rfl ⟨by omega, by omega⟩ (fun b_9 => ?_)
            try simp only [Int.toNat_natCast]
            try simp only [Int.toNat_natCast] at b_9
            refine T_go d_X10_spot_121 ?_
            -- leaf 8f.20t.46s1.111f@127
            refine T_iret d_X10_spot_127 rfl ?_
            exact ⟨hF, hBV_2, fV_2, xs, _, rfl, ⟨by omega, by omega⟩, gd_y ⟨hb0, h20, by omega, by omega⟩ ⟨c, s1.1, by rw [e46_1]; exact xy.2.trans (if_pos (Classical.byContradiction fun z => h111 (by rw [sn, if_neg z]))).symm⟩⟩
        · refine T_swi d_X10_spot_46 ⟨by omega, by omega⟩ (by omega) (by omega) (tg := 128) (by rw [e46_2]; rfl) ?_
          refine T_il d_X10_spot_128 rfl ?_
          -- leaf 8f.20t.46s2@130
          refine T_iret d_X10_spot_130 rfl ?_
          exact ⟨hF, hBV_2, fV_2, xs, _, rfl, ⟨by omega, by omega⟩, gd_y ⟨hb0, h20, by omega, by omega⟩ ⟨c, s1.1, by rw [e46_2]; exact e5⟩⟩
        · refine T_swi d_X10_spot_46 ⟨by omega, by omega⟩ (by omega) (by omega) (tg := 131) (by rw [e46_3]; rfl) ?_
          refine T_il d_X10_spot_131 rfl ?_
          refine T_k d_X10_spot_133 ?_
          refine T_k d_X10_spot_134 ?_
          refine C_ps3 d_X10_spot_136 (hdF (by omega)) (hcF _) (R_X10_isIn ⟨by omega, by omega⟩ ⟨by omega, by omega⟩ ⟨by omega, by omega⟩) ?_
          refine T_pz0 d_X10_spot_139 (fun h139 => ?_) (fun h139 => ?_)
          · skip
            refine T_k d_X10_spot_153 ?_
            -- leaf 8f.20t.46s3.139t@154
            refine T_iret d_X10_spot_154 rfl ?_
            exact ⟨hF, hBV_2, fV_2, xs, _, rfl, ⟨by omega, by omega⟩, gd_y ⟨hb0, h20, by omega, by omega⟩ ⟨c, s1.1, by rw [e46_3]; exact (if_pos (by omega)).symm⟩⟩
          · skip
            refine T_al d_X10_spot_142 rfl ?_
            refine F_gr (b := 40) d_X10_spot_144 rfl hF rfl ?_
            refine T_il d_X10_spot_147 rfl ?_
            refine F_ia d_X10_spot_149 rfl hBV_2 rfl ⟨by omega, by omega⟩ (fun b_10 => ?_)
            try simp only [Int.toNat_natCast]
            try simp only [Int.toNat_natCast] at b_10
            refine T_go d_X10_spot_150 ?_
            -- leaf 8f.20t.46s3.139f@154
            refine T_iret d_X10_spot_154 rfl ?_
            exact ⟨hF, hBV_2, fV_2, xs, _, rfl, ⟨by omega, by omega⟩, gd_y ⟨hb0, h20, by omega, by omega⟩ ⟨c, s1.1, by rw [e46_3, e5]; exact (sg_full s1.2.1 hb (by omega)).trans (if_neg (by omega)).symm⟩⟩
        · refine T_swi d_X10_spot_46 ⟨by omega, by omega⟩ (by omega) (by omega) (tg := 155) (by rw [e46_4]; rfl) ?_
          refine T_il d_X10_spot_155 rfl ?_
          refine T_il d_X10_spot_157 rfl ?_
          refine T_ine d_X10_spot_158 ⟨by omega, by omega⟩ ⟨by omega, by omega⟩ (fun h158 => ?_) (fun h158 => ?_)
          · skip
            refine T_k d_X10_spot_165 ?_
            -- leaf 8f.20t.46s4.158t@166
            refine T_iret d_X10_spot_166 rfl ?_
            exact ⟨hF, hBV_2, fV_2, xs, _, rfl, ⟨by omega, by omega⟩, gd_y ⟨hb0, h20, by omega, by omega⟩ ⟨c, s1.1, by rw [e46_4]; exact (if_neg (by omega)).symm⟩⟩
          · skip
            refine T_k d_X10_spot_161 ?_
            refine T_go d_X10_spot_162 ?_
            -- leaf 8f.20t.46s4.158f@166
            refine T_iret d_X10_spot_166 rfl ?_
            exact ⟨hF, hBV_2, fV_2, xs, _, rfl, ⟨by omega, by omega⟩, gd_y ⟨hb0, h20, by omega, by omega⟩ ⟨c, s1.1, by rw [e46_4]; exact (if_pos (by omega)).symm⟩⟩
    · skip
      refine T_k d_X10_spot_23 ?_
      -- leaf 8f.20f@26
      refine T_iret d_X10_spot_26 rfl ?_
      exact ⟨hF, hBV_2, fV_2, xs, _, rfl, ⟨by omega, by omega⟩, gd_n (fun z => h20 z.2.1)⟩
set_option maxHeartbeats 1000000 in
set_option maxRecDepth 100000 in
theorem R_X10_houses {G : GG} {V : VV} {R : RR} {k : Int} {b : Bk} {Ks : Nat → Kd} {nk : Nat} (hB : Bd V) (hF : FinR R) (bCV : bC b V) (hob : okB b Ks nk) (hic : icB b Ks nk V) (hs : svX b Ks nk V R) (h_k : r32 k) : Runs G M_X10_houses 42 162 162 [vr 0, vi k] V R (obsQ b Ks nk V (gd (K4 k) (-1) (o1 b k (fun c => (aN b k Ks nk c : Int))))) := by
  refine Runs.of pn_X10 (Nat.le_of_ble_eq_true rfl) rfl ?_
  show TT G M_X10_houses (rmd 42 162 162) 162 (Zm G 162 162 (obsQ b Ks nk V (gd (K4 k) (-1) (o1 b k (fun c => (aN b k Ks nk c : Int)))))) 162 0 [(0, vr 0), (1, vi k)] [] V R
  obtain ⟨h_k1, h_k2⟩ := h_k
  have fV : chg [(31, 98)] [(30, 7, 8), (30, 12, 13)] V V := chg_r
  refine T_al d_X10_houses_0 rfl ?_
  refine F_gr (b := 30) d_X10_houses_1 rfl hF rfl ?_
  refine T_il d_X10_houses_4 rfl ?_
  refine T_k d_X10_houses_5 ?_
  refine C_v2 d_X10_houses_6 rfl (hdF (by omega)) (hcF _) (R_X9_reachA (b := b) (Ks := Ks) (nk := nk) (k := k) (t := 2) hB hF bCV hob hic hs ⟨by omega, by omega⟩ ⟨by omega, by omega⟩) (fun r_1 V_2 R_3 qV_2 => ?_)
  obtain ⟨hF, hBV_2, cV_2, rfl, xsV_2, twV_2⟩ := qV_2
  have fV_2 := chg_t (A := [(31, 98)]) (F := [(30, 7, 8), (30, 12, 13)]) fV cV_2 rfl
  have bCV_2 := bC_c bCV fV_2 rfl
  have xs := xsV_2
  have tw := twV_2
  have XB := hBV_2
  have fX := fV_2
  refine T_pz0 d_X10_houses_9 (fun h9 => ?_) (fun h9 => ?_)
  · skip
    refine T_k d_X10_houses_25 ?_
    -- leaf 9t@26
    refine T_iret d_X10_houses_26 rfl ?_
    exact ⟨hF, hBV_2, fV_2, xs, _, rfl, ⟨by omega, by omega⟩, gd_n (fun z => h9 z)⟩
  · skip
    obtain ⟨ρ, c, ch, rw0, sv0⟩ := xs
    obtain ⟨t8, sw⟩ := tw h9
    have sv := sv0
    rw [sw_svC sw] at sv
    have s1 := sv.1 (by omega)
    have s2 := sv.2.1 (by omega)
    have xs : svX b Ks nk V_2 R_3 := ⟨ρ, c, ch, rw0, sv0⟩
    refine T_al d_X10_houses_12 rfl ?_
    refine F_gr (b := 30) d_X10_houses_13 rfl hF rfl ?_
    refine F_gr (b := 56) d_X10_houses_16 rfl hF rfl ?_
    refine F_gi d_X10_houses_19 rfl hBV_2 rfl (fun b_4 => ?_)
    refine T_go d_X10_houses_22 ?_
    -- leaf 9f@26
    refine T_iret d_X10_houses_26 rfl ?_
    exact ⟨hF, hBV_2, fV_2, xs, _, rfl, ⟨by omega, by omega⟩, gd_y h9 ⟨c, s1.1, s2.2.1⟩⟩
set_option maxHeartbeats 1000000 in
set_option maxRecDepth 100000 in
theorem R_X10_house {G : GG} {V : VV} {R : RR} {k : Int} {h : Int} {w : Int} {b : Bk} {Ks : Nat → Kd} {nk : Nat} (hB : Bd V) (hF : FinR R) (bCV : bC b V) (hob : okB b Ks nk) (hic : icB b Ks nk V) (hs : svX b Ks nk V R) (h_k : r32 k) (h_h : r32 h) (h_w : r32 w) : Runs G M_X10_house 42 162 162 [vr 0, vi k, vi h, vi w] V R (obsQ b Ks nk V (gd (K4 k) (-1000) (o2 b Ks nk k (hoW b Ks nk k h w)))) := by
  refine Runs.of pn_X10 (Nat.le_of_ble_eq_true rfl) rfl ?_
  show TT G M_X10_house (rmd 42 162 162) 162 (Zm G 162 162 (obsQ b Ks nk V (gd (K4 k) (-1000) (o2 b Ks nk k (hoW b Ks nk k h w))))) 162 0 [(0, vr 0), (1, vi k), (2, vi h), (3, vi w)] [] V R
  obtain ⟨h_k1, h_k2⟩ := h_k
  obtain ⟨h_h1, h_h2⟩ := h_h
  obtain ⟨h_w1, h_w2⟩ := h_w
  have fV : chg [(31, 98)] [(30, 7, 8), (30, 12, 13)] V V := chg_r
  refine T_al d_X10_house_0 rfl ?_
  refine F_gr (b := 30) d_X10_house_1 rfl hF rfl ?_
  refine T_il d_X10_house_4 rfl ?_
  refine T_k d_X10_house_5 ?_
  refine C_v2 d_X10_house_6 rfl (hdF (by omega)) (hcF _) (R_X9_reachA (b := b) (Ks := Ks) (nk := nk) (k := k) (t := 3) hB hF bCV hob hic hs ⟨by omega, by omega⟩ ⟨by omega, by omega⟩) (fun r_1 V_2 R_3 qV_2 => ?_)
  obtain ⟨hF, hBV_2, cV_2, rfl, xsV_2, twV_2⟩ := qV_2
  have fV_2 := chg_t (A := [(31, 98)]) (F := [(30, 7, 8), (30, 12, 13)]) fV cV_2 rfl
  have bCV_2 := bC_c bCV fV_2 rfl
  have xs := xsV_2
  have tw := twV_2
  have XB := hBV_2
  have fX := fV_2
  refine T_pz1 d_X10_house_9 (fun h9 => ?_) (fun h9 => ?_)
  · skip
    obtain ⟨ρ, c, ch, rw0, sv0⟩ := xs
    obtain ⟨t8, sw⟩ := tw h9
    have sv := sv0
    rw [sw_svC sw] at sv
    have s1 := sv.1 (by omega)
    have s2 := sv.2.1 (by omega)
    have s3 := sv.2.2.1 (by omega)
    have xs : svX b Ks nk V_2 R_3 := ⟨ρ, c, ch, rw0, sv0⟩
    refine T_al d_X10_house_16 rfl ?_
    refine F_gr (b := 30) d_X10_house_17 rfl hF rfl ?_
    refine F_gr (b := 56) d_X10_house_20 rfl hF rfl ?_
    refine T_il d_X10_house_23 rfl ?_
    refine C_pv1 d_X10_house_24 rfl (hdF (by omega)) (hcF _) (R_X3_getA (N := aN b k Ks nk c) (ρ := ρ) hBV_2 hF s2.1 s2.2.1 rw0 ⟨by omega, by omega⟩) ?_
    refine F_asg d_X10_house_27 (f := fun q_4 => [(0, vr 0), (1, vi k), (2, vi h), (3, vi w), (4, vq q_4)]) (fun _ => rfl) (fun q_4 eq_4 => ?_)
    have eq4 := eq_4
    refine T_al d_X10_house_29 rfl ?_
    refine T_nnul d_X10_house_31 (fun a31 h31 => ?_) (fun h31 => ?_)
    · subst h31
      obtain ⟨hg, ea⟩ := opt_some eq4
      have hN4 := s2.1
      have hla := lay_h (h := a31) (by rw [ea]; exact (rw0.1 h.toNat (by omega)).2)
      have hc := (s2.2.2.1 h.toNat (by omega)).1
      rw [← ea] at hc
      have h19 : V_2 a31 19 = bi (ch.testBit h.toNat) := by rw [ea]; exact s3.2.2.1 h.toNat (by omega)
      refine T_il d_X10_house_38 rfl ?_
      by_cases hs39 : w < 0 ∨ 10 < w
      · refine T_swo d_X10_house_39 ⟨by omega, by omega⟩ hs39 (tg := 170) (by decide) ?_
        refine T_k d_X10_house_170 ?_
        -- leaf 9t.31a.39o@173
        refine T_iret d_X10_house_173 rfl ?_
        exact ⟨hF, hBV_2, fV_2, xs, _, rfl, ⟨by omega, by omega⟩, gd_y h9 ⟨c, ch, S3_sel s1 s3, (if_neg (fun z => by omega)).symm⟩⟩
      · have hq39 : w = 0 ∨ w = 1 ∨ w = 2 ∨ w = 3 ∨ w = 4 ∨ w = 5 ∨ w = 6 ∨ w = 7 ∨ w = 8 ∨ w = 9 ∨ w = 10 := by omega
        rcases hq39 with e39_0 | e39_1 | e39_2 | e39_3 | e39_4 | e39_5 | e39_6 | e39_7 | e39_8 | e39_9 | e39_10
        · refine T_swi d_X10_house_39 ⟨by omega, by omega⟩ (by omega) (by omega) (tg := 96) (by rw [e39_0]; rfl) ?_
          refine T_al d_X10_house_96 rfl ?_
          refine F_gi d_X10_house_98 hla hBV_2 rfl (fun b_5 => ?_)
          -- leaf 9t.31a.39s0@101
          refine T_iret d_X10_house_101 rfl ?_
          exact ⟨hF, hBV_2, fV_2, xs, _, rfl, ⟨by omega, by omega⟩, gd_y h9 ⟨c, ch, S3_sel s1 s3, by rw [e39_0]; show _ = if _ then _ else _; rw [if_pos ⟨hg.1, hg.2, by omega, by omega⟩]; exact hc.1⟩⟩
        · refine T_swi d_X10_house_39 ⟨by omega, by omega⟩ (by omega) (by omega) (tg := 102) (by rw [e39_1]; rfl) ?_
          refine T_al d_X10_house_102 rfl ?_
          refine F_gi d_X10_house_104 hla hBV_2 rfl (fun b_6 => ?_)
          -- leaf 9t.31a.39s1@107
          refine T_iret d_X10_house_107 rfl ?_
          exact ⟨hF, hBV_2, fV_2, xs, _, rfl, ⟨by omega, by omega⟩, gd_y h9 ⟨c, ch, S3_sel s1 s3, by rw [e39_1]; show _ = if _ then _ else _; rw [if_pos ⟨hg.1, hg.2, by omega, by omega⟩]; exact hc.2.1⟩⟩
        · refine T_swi d_X10_house_39 ⟨by omega, by omega⟩ (by omega) (by omega) (tg := 108) (by rw [e39_2]; rfl) ?_
          refine T_al d_X10_house_108 rfl ?_
          refine F_gi d_X10_house_110 hla hBV_2 rfl (fun b_7 => ?_)
          -- leaf 9t.31a.39s2@113
          refine T_iret d_X10_house_113 rfl ?_
          exact ⟨hF, hBV_2, fV_2, xs, _, rfl, ⟨by omega, by omega⟩, gd_y h9 ⟨c, ch, S3_sel s1 s3, by rw [e39_2]; show _ = if _ then _ else _; rw [if_pos ⟨hg.1, hg.2, by omega, by omega⟩]; exact hc.2.2.1⟩⟩
        · refine T_swi d_X10_house_39 ⟨by omega, by omega⟩ (by omega) (by omega) (tg := 114) (by rw [e39_3]; rfl) ?_
          refine T_al d_X10_house_114 rfl ?_
          refine F_gi d_X10_house_116 hla hBV_2 rfl (fun b_8 => ?_)
          -- leaf 9t.31a.39s3@119
          refine T_iret d_X10_house_119 rfl ?_
          exact ⟨hF, hBV_2, fV_2, xs, _, rfl, ⟨by omega, by omega⟩, gd_y h9 ⟨c, ch, S3_sel s1 s3, by rw [e39_3]; show _ = if _ then _ else _; rw [if_pos ⟨hg.1, hg.2, by omega, by omega⟩]; exact hc.2.2.2.1⟩⟩
        · refine T_swi d_X10_house_39 ⟨by omega, by omega⟩ (by omega) (by omega) (tg := 120) (by rw [e39_4]; rfl) ?_
          refine T_al d_X10_house_120 rfl ?_
          refine F_gi d_X10_house_122 hla hBV_2 rfl (fun b_9 => ?_)
          -- leaf 9t.31a.39s4@125
          refine T_iret d_X10_house_125 rfl ?_
          exact ⟨hF, hBV_2, fV_2, xs, _, rfl, ⟨by omega, by omega⟩, gd_y h9 ⟨c, ch, S3_sel s1 s3, by rw [e39_4]; show _ = if _ then _ else _; rw [if_pos ⟨hg.1, hg.2, by omega, by omega⟩]; exact hc.2.2.2.2.2.2.2.2.2.2.2.2.1⟩⟩
        · refine T_swi d_X10_house_39 ⟨by omega, by omega⟩ (by omega) (by omega) (tg := 126) (by rw [e39_5]; rfl) ?_
          refine T_al d_X10_house_126 rfl ?_
          refine F_gi d_X10_house_128 hla hBV_2 rfl (fun b_10 => ?_)
          -- leaf 9t.31a.39s5@131
          refine T_iret d_X10_house_131 rfl ?_
          exact ⟨hF, hBV_2, fV_2, xs, _, rfl, ⟨by omega, by omega⟩, gd_y h9 ⟨c, ch, S3_sel s1 s3, by rw [e39_5]; show _ = if _ then _ else _; rw [if_pos ⟨hg.1, hg.2, by omega, by omega⟩]; exact hc.2.2.2.2.2.2.2.2.2.2.2.2.2.1⟩⟩
        · refine T_swi d_X10_house_39 ⟨by omega, by omega⟩ (by omega) (by omega) (tg := 132) (by rw [e39_6]; rfl) ?_
          refine T_al d_X10_house_132 rfl ?_
          refine F_gi d_X10_house_134 hla hBV_2 rfl (fun b_11 => ?_)
          -- leaf 9t.31a.39s6@137
          refine T_iret d_X10_house_137 rfl ?_
          exact ⟨hF, hBV_2, fV_2, xs, _, rfl, ⟨by omega, by omega⟩, gd_y h9 ⟨c, ch, S3_sel s1 s3, by rw [e39_6]; show _ = if _ then _ else _; rw [if_pos ⟨hg.1, hg.2, by omega, by omega⟩]; exact hc.2.2.2.2.2.2.2.2.2.2.2.2.2.2.1⟩⟩
        · refine T_swi d_X10_house_39 ⟨by omega, by omega⟩ (by omega) (by omega) (tg := 138) (by rw [e39_7]; rfl) ?_
          refine T_al d_X10_house_138 rfl ?_
          refine F_gi d_X10_house_140 hla hBV_2 rfl (fun b_12 => ?_)
          -- leaf 9t.31a.39s7@143
          refine T_iret d_X10_house_143 rfl ?_
          exact ⟨hF, hBV_2, fV_2, xs, _, rfl, ⟨by omega, by omega⟩, gd_y h9 ⟨c, ch, S3_sel s1 s3, by rw [e39_7]; show _ = if _ then _ else _; rw [if_pos ⟨hg.1, hg.2, by omega, by omega⟩]; exact hc.2.2.2.2.2.2.2.2.2.2.2.2.2.2.2.1⟩⟩
        · refine T_swi d_X10_house_39 ⟨by omega, by omega⟩ (by omega) (by omega) (tg := 144) (by rw [e39_8]; rfl) ?_
          refine T_al d_X10_house_144 rfl ?_
          refine F_gi d_X10_house_146 hla hBV_2 rfl (fun b_13 => ?_)
          -- leaf 9t.31a.39s8@149
          refine T_iret d_X10_house_149 rfl ?_
          exact ⟨hF, hBV_2, fV_2, xs, _, rfl, ⟨by omega, by omega⟩, gd_y h9 ⟨c, ch, S3_sel s1 s3, by rw [e39_8]; show _ = if _ then _ else _; rw [if_pos ⟨hg.1, hg.2, by omega, by omega⟩]; exact hc.2.2.2.2.2.2.2.2.2.2.2.2.2.2.2.2.1⟩⟩
        · refine T_swi d_X10_house_39 ⟨by omega, by omega⟩ (by omega) (by omega) (tg := 150) (by rw [e39_9]; rfl) ?_
          refine T_al d_X10_house_150 rfl ?_
          refine F_gi d_X10_house_152 hla hBV_2 rfl (fun b_14 => ?_)
          -- leaf 9t.31a.39s9@155
          refine T_iret d_X10_house_155 rfl ?_
          exact ⟨hF, hBV_2, fV_2, xs, _, rfl, ⟨by omega, by omega⟩, gd_y h9 ⟨c, ch, S3_sel s1 s3, by rw [e39_9]; show _ = if _ then _ else _; rw [if_pos ⟨hg.1, hg.2, by omega, by omega⟩]; exact hc.2.2.2.2.2.2.2.2.2.2.2.2.2.2.2.2.2.1⟩⟩
        · refine T_swi d_X10_house_39 ⟨by omega, by omega⟩ (by omega) (by omega) (tg := 156) (by rw [e39_10]; rfl) ?_
          refine T_al d_X10_house_156 rfl ?_
          refine F_gi d_X10_house_158 hla hBV_2 rfl (fun b_15 => ?_)
          refine T_zeq d_X10_house_161 ⟨by omega, by omega⟩ (fun h161 => ?_) (fun h161 => ?_)
          · skip
            refine T_k d_X10_house_168 ?_
            -- leaf 9t.31a.39s10.161t@169
            refine T_iret d_X10_house_169 rfl ?_
            exact ⟨hF, hBV_2, fV_2, xs, _, rfl, ⟨by omega, by omega⟩, gd_y h9 ⟨c, ch, S3_sel s1 s3, by rw [e39_10]; show _ = if _ then _ else _; rw [if_pos ⟨hg.1, hg.2, by omega, by omega⟩]; show (_ : Int) = bi (ch.testBit h.toNat); have z := bi_01 (ch.testBit h.toNat); omega⟩⟩
          · skip
            refine T_k d_X10_house_164 ?_
            refine T_go d_X10_house_165 ?_
            -- leaf 9t.31a.39s10.161f@169
            refine T_iret d_X10_house_169 rfl ?_
            exact ⟨hF, hBV_2, fV_2, xs, _, rfl, ⟨by omega, by omega⟩, gd_y h9 ⟨c, ch, S3_sel s1 s3, by rw [e39_10]; show _ = if _ then _ else _; rw [if_pos ⟨hg.1, hg.2, by omega, by omega⟩]; show (_ : Int) = bi (ch.testBit h.toNat); have z := bi_01 (ch.testBit h.toNat); omega⟩⟩
    · subst h31
      have hq := opt_none eq4
      refine T_k d_X10_house_34 ?_
      -- leaf 9t.31n@37
      refine T_iret d_X10_house_37 rfl ?_
      exact ⟨hF, hBV_2, fV_2, xs, _, rfl, ⟨by omega, by omega⟩, gd_y h9 ⟨c, ch, S3_sel s1 s3, (if_neg (fun z => hq ⟨z.1, z.2.1⟩)).symm⟩⟩
  · skip
    refine T_k d_X10_house_12 ?_
    -- leaf 9f@15
    refine T_iret d_X10_house_15 rfl ?_
    exact ⟨hF, hBV_2, fV_2, xs, _, rfl, ⟨by omega, by omega⟩, gd_n (fun z => h9 z)⟩
set_option maxHeartbeats 1000000 in
set_option maxRecDepth 100000 in
theorem R_X10_place {G : GG} {V : VV} {R : RR} {k : Int} {h : Int} {i : Int} {j : Int} {b : Bk} {Ks : Nat → Kd} {nk : Nat} (hB : Bd V) (hF : FinR R) (bCV : bC b V) (hob : okB b Ks nk) (hic : icB b Ks nk V) (hs : svX b Ks nk V R) (h_k : r32 k) (h_h : r32 h) (h_i : r32 i) (h_j : r32 j) : Runs G M_X10_place 42 162 162 [vr 0, vi k, vi h, vi i, vi j] V R (obsQ b Ks nk V (gd (K4 k) (-1000) (o1 b k (plcW b Ks nk k h i j)))) := by
  refine Runs.of pn_X10 (Nat.le_of_ble_eq_true rfl) rfl ?_
  show TT G M_X10_place (rmd 42 162 162) 162 (Zm G 162 162 (obsQ b Ks nk V (gd (K4 k) (-1000) (o1 b k (plcW b Ks nk k h i j))))) 162 0 [(0, vr 0), (1, vi k), (2, vi h), (3, vi i), (4, vi j)] [] V R
  obtain ⟨h_k1, h_k2⟩ := h_k
  obtain ⟨h_h1, h_h2⟩ := h_h
  obtain ⟨h_i1, h_i2⟩ := h_i
  obtain ⟨h_j1, h_j2⟩ := h_j
  have fV : chg [(31, 98)] [(30, 7, 8), (30, 12, 13)] V V := chg_r
  refine T_al d_X10_place_0 rfl ?_
  refine F_gr (b := 30) d_X10_place_1 rfl hF rfl ?_
  refine T_il d_X10_place_4 rfl ?_
  refine T_k d_X10_place_5 ?_
  refine C_v2 d_X10_place_6 rfl (hdF (by omega)) (hcF _) (R_X9_reachA (b := b) (Ks := Ks) (nk := nk) (k := k) (t := 2) hB hF bCV hob hic hs ⟨by omega, by omega⟩ ⟨by omega, by omega⟩) (fun r_1 V_2 R_3 qV_2 => ?_)
  obtain ⟨hF, hBV_2, cV_2, rfl, xsV_2, twV_2⟩ := qV_2
  have fV_2 := chg_t (A := [(31, 98)]) (F := [(30, 7, 8), (30, 12, 13)]) fV cV_2 rfl
  have bCV_2 := bC_c bCV fV_2 rfl
  have xs := xsV_2
  have tw := twV_2
  have XB := hBV_2
  have fX := fV_2
  refine T_pz1 d_X10_place_9 (fun h9 => ?_) (fun h9 => ?_)
  · skip
    obtain ⟨ρ, c, ch, rw0, sv0⟩ := xs
    obtain ⟨t8, sw⟩ := tw h9
    have sv := sv0
    rw [sw_svC sw] at sv
    have s1 := sv.1 (by omega)
    have s2 := sv.2.1 (by omega)
    have xs : svX b Ks nk V_2 R_3 := ⟨ρ, c, ch, rw0, sv0⟩
    have t1 := sv0.1 (by omega)
    have s2 := sv0.2.1 (by omega)
    have b7 := XB.2 30 9 7 0 400 rfl rfl
    refine T_al d_X10_place_16 rfl ?_
    refine F_gr (b := 30) d_X10_place_17 rfl hF rfl ?_
    refine F_gr (b := 56) d_X10_place_20 rfl hF rfl ?_
    refine T_il d_X10_place_23 rfl ?_
    refine C_pv1 d_X10_place_24 rfl (hdF (by omega)) (hcF _) (R_X3_getA (N := aN b (V_2 30 7) Ks nk c) (ρ := ρ) hBV_2 hF s2.1 s2.2.1 rw0 ⟨by omega, by omega⟩) ?_
    refine F_asg d_X10_place_27 (f := fun q_4 => [(0, vr 0), (1, vi k), (2, vi h), (3, vi i), (4, vi j), (5, vq q_4)]) (fun _ => rfl) (fun q_4 eq_4 => ?_)
    have eq4 := eq_4
    refine T_al d_X10_place_29 rfl ?_
    refine T_nul d_X10_place_31 (fun h31 => ?_) (fun a31 h31 => ?_)
    · subst h31
      have hq := opt_none eq4
      refine T_k d_X10_place_65 ?_
      -- leaf 9t.31n@68
      refine T_iret d_X10_place_68 rfl ?_
      exact ⟨hF, hBV_2, fV_2, xs, _, rfl, ⟨by omega, by omega⟩, gd_y h9 ⟨c, s1.1, by rw [← sw_plcW sw]; exact (if_neg (fun z => hq ⟨z.1, z.2.1⟩)).symm⟩⟩
    · subst h31
      obtain ⟨hg, ea⟩ := opt_some eq4
      have hN4 := s2.1
      have hla := lay_h (h := a31) (by rw [ea]; exact (rw0.1 h.toNat (by omega)).2)
      have hc := (s2.2.2.1 h.toNat (by omega)).1
      rw [← ea] at hc
      have hc12 : V_2 a31 12 = _ := hc.2.2.2.2.2.2.2.2.2.2.2.2.1
      have hc10 : V_2 a31 10 = _ := hc.2.2.2.2.2.2.2.2.2.2.1
      refine T_il d_X10_place_34 rfl ?_
      refine T_k d_X10_place_35 ?_
      refine T_al d_X10_place_36 rfl ?_
      refine F_gi d_X10_place_38 hla hBV_2 rfl (fun b_5 => ?_)
      refine T_k d_X10_place_41 ?_
      refine T_isub d_X10_place_42 ?_
      refine C_ps3 d_X10_place_43 (hdF (by omega)) (hcF _) (R_X10_isIn ⟨by omega, by omega⟩ ⟨by omega, by omega⟩ ⟨by omega, by omega⟩) ?_
      refine T_pz0 d_X10_place_46 (fun h46 => ?_) (fun h46 => ?_)
      · skip
        refine T_k d_X10_place_65 ?_
        -- leaf 9t.31a.46t@68
        refine T_iret d_X10_place_68 rfl ?_
        exact ⟨hF, hBV_2, fV_2, xs, _, rfl, ⟨by omega, by omega⟩, gd_y h9 ⟨c, s1.1, by rw [← sw_plcW sw]; exact (if_neg (fun z => h46 ⟨z.2.2.1.1, by have := z.2.2.1.2; omega⟩)).symm⟩⟩
      · skip
        refine T_il d_X10_place_49 rfl ?_
        refine T_k d_X10_place_51 ?_
        refine T_al d_X10_place_52 rfl ?_
        refine F_gi d_X10_place_54 hla hBV_2 rfl (fun b_6 => ?_)
        refine T_k d_X10_place_57 ?_
        refine T_isub d_X10_place_58 ?_
        refine C_ps3 d_X10_place_59 (hdF (by omega)) (hcF _) (R_X10_isIn ⟨by omega, by omega⟩ ⟨by omega, by omega⟩ ⟨by omega, by omega⟩) ?_
        refine T_pz1 d_X10_place_62 (fun h62 => ?_) (fun h62 => ?_)
        · skip
          obtain ⟨kd, p, q, r, ⟨g1, g2, g3, g4⟩, _, ⟨g5, g6, g7, g8⟩, ⟨g9, g10⟩, _⟩ := row_f (a_row (b := b) (k := V_2 30 7) (Ks := Ks) (nk := nk) (c := c) h.toNat (by omega)) hob.2.2.2
          have ic := icB_c hic fX
          have n5 := hob.2.2.1
          have ok0 := (hob.2.2.2 kd g1).1
          have hc10b : V_2 a31 10 = (Ks kd).l 0 := by rw [hc10, g5, Int.toNat_natCast]
          have hc12b : V_2 a31 12 = aL b (V_2 30 7) Ks nk c h.toNat 4 := hc12
          have plz := R_X9_placeOfT (G := G) (h := a31) (b := b) (k := V_2 30 7) (S := spS b (V_2 30 7) c) (Ks := Ks) (kd := kd) (p := p) (q := q) (r := r) (i := i.toNat) (j := j.toNat) hBV_2 hF bCV_2 hob.1 t1.2.2.1 (spS_O hob.1) b7 rfl (by omega) ⟨ic.2.2 kd g1 (by omega), hob.2.2.2 kd g1⟩ (by rw [ea]; exact (rw0.1 h.toNat (by omega)).2) g2 g3 g4 (by have := h46.2; omega) (by have := h62.2; omega) (hc.1.trans g5) ⟨by have z := hc.2.2.2.2.1; rw [g6, Int.toNat_natCast] at z; exact z, by have z := hc.2.2.2.2.2.1; rw [g6, Int.toNat_natCast] at z; exact z, by have z := hc.2.2.2.2.2.2.1; rw [g6, g7, Int.toNat_natCast, Int.toNat_natCast] at z; exact z, by have z := hc.2.2.2.2.2.2.2.1; rw [g6, g7, Int.toNat_natCast, Int.toNat_natCast] at z; exact z, by have z := hc.2.2.2.2.2.2.2.2.1; rw [g6, g8, Int.toNat_natCast, Int.toNat_natCast] at z; exact z, by have z := hc.2.2.2.2.2.2.2.2.2.1; rw [g6, g8, Int.toNat_natCast, Int.toNat_natCast] at z; exact z⟩
          rw [show ((i.toNat : Nat) : Int) = i by have := h46.1; omega, show ((j.toNat : Nat) : Int) = j by have := h62.1; omega] at plz
          have pr := plc_r (b := b) (k := V_2 30 7) (S := spS b (V_2 30 7) c) (K := Ks kd) (p := p) (q := q) (r := r) (i := i.toNat) (j := j.toNat) (spS_O hob.1)
          have pe := plc_e (b := b) (Ks := Ks) (nk := nk) (k := V_2 30 7) (c := c) (h := h) (i := i) (j := j) hg ⟨h46.1, by have := h46.2; omega⟩ ⟨h62.1, by have := h62.2; omega⟩ g5 g6 g7 g8
          refine T_al d_X10_place_69 rfl ?_
          refine F_gr (b := 30) d_X10_place_70 rfl hF rfl ?_
          refine T_al d_X10_place_73 rfl ?_
          refine T_il d_X10_place_75 rfl ?_
          refine T_il d_X10_place_76 rfl ?_
          refine C_v3 d_X10_place_78 rfl (hdF (by omega)) (hcF _) plz (fun r_7 V_8 R_9 qV_8 => ?_)
          obtain ⟨hF, oV_8, hBV_8, cV_8, rfl⟩ := qV_8
          have fV_8 := chg_t (A := [(31, 98)]) (F := [(30, 7, 8), (30, 12, 13)]) fV_2 cV_8 rfl
          have bCV_8 := bC_c bCV fV_8 rfl
          -- leaf 9t.31a.46f.62t@81
          refine T_iret d_X10_place_81 rfl ?_
          exact ⟨hF, hBV_8, fV_8, svX_x (cV_8 30 7 rfl rfl) (cV_8 30 8 rfl rfl) (rwI_f rw0 oV_8) (svC_t sv0 rw0 (chg_s cV_8 rfl) (Or.inl (chg_k (c := 47) cV_8 rfl)) (fun j _ => Or.inl (by rw [chg_k (c := 32) cV_8 rfl])) oV_8), _, rfl, pr, gd_y h9 ⟨c, s1.1, by rw [← sw_plcW sw]; exact pe.symm⟩⟩
        · skip
          refine T_k d_X10_place_65 ?_
          -- leaf 9t.31a.46f.62f@68
          refine T_iret d_X10_place_68 rfl ?_
          exact ⟨hF, hBV_2, fV_2, xs, _, rfl, ⟨by omega, by omega⟩, gd_y h9 ⟨c, s1.1, by rw [← sw_plcW sw]; exact (if_neg (fun z => h62 ⟨z.2.2.2.1, by have := z.2.2.2.2; omega⟩)).symm⟩⟩
  · skip
    refine T_k d_X10_place_12 ?_
    -- leaf 9f@15
    refine T_iret d_X10_place_15 rfl ?_
    exact ⟨hF, hBV_2, fV_2, xs, _, rfl, ⟨by omega, by omega⟩, gd_n (fun z => h9 z)⟩
set_option maxHeartbeats 1000000 in
set_option maxRecDepth 100000 in
theorem R_X10_explained {G : GG} {V : VV} {R : RR} {k : Int} {w : Int} {b : Bk} {Ks : Nat → Kd} {nk : Nat} (hB : Bd V) (hF : FinR R) (bCV : bC b V) (hob : okB b Ks nk) (hic : icB b Ks nk V) (hs : svX b Ks nk V R) (h_k : r32 k) (h_w : r32 w) : Runs G M_X10_explained 42 162 162 [vr 0, vi k, vi w] V R (obsQ b Ks nk V (gd ((0 ≤ w ∧ w ≤ 1) ∧ K4 k) (-1) (o2 b Ks nk k (exW b Ks nk k w)))) := by
  refine Runs.of pn_X10 (Nat.le_of_ble_eq_true rfl) rfl ?_
  show TT G M_X10_explained (rmd 42 162 162) 162 (Zm G 162 162 (obsQ b Ks nk V (gd ((0 ≤ w ∧ w ≤ 1) ∧ K4 k) (-1) (o2 b Ks nk k (exW b Ks nk k w))))) 162 0 [(0, vr 0), (1, vi k), (2, vi w)] [] V R
  obtain ⟨h_k1, h_k2⟩ := h_k
  obtain ⟨h_w1, h_w2⟩ := h_w
  have fV : chg [(31, 98)] [(30, 7, 8), (30, 12, 13)] V V := chg_r
  refine T_il d_X10_explained_0 rfl ?_
  refine T_k d_X10_explained_1 ?_
  refine T_k d_X10_explained_2 ?_
  refine C_ps3 d_X10_explained_3 (hdF (by omega)) (hcF _) (R_X10_isIn ⟨by omega, by omega⟩ ⟨by omega, by omega⟩ ⟨by omega, by omega⟩) ?_
  refine T_pz0 d_X10_explained_6 (fun h6 => ?_) (fun h6 => ?_)
  · skip
    refine T_k d_X10_explained_21 ?_
    -- leaf 6t@22
    refine T_iret d_X10_explained_22 rfl ?_
    exact ⟨hF, hB, fV, hs, _, rfl, ⟨by omega, by omega⟩, gd_n (fun z => h6 z.1)⟩
  · skip
    refine T_al d_X10_explained_9 rfl ?_
    refine F_gr (b := 30) d_X10_explained_10 rfl hF rfl ?_
    refine T_il d_X10_explained_13 rfl ?_
    refine T_k d_X10_explained_14 ?_
    refine C_v2 d_X10_explained_15 rfl (hdF (by omega)) (hcF _) (R_X9_reachA (b := b) (Ks := Ks) (nk := nk) (k := k) (t := 3) hB hF bCV hob hic hs ⟨by omega, by omega⟩ ⟨by omega, by omega⟩) (fun r_1 V_2 R_3 qV_2 => ?_)
    obtain ⟨hF, hBV_2, cV_2, rfl, xsV_2, twV_2⟩ := qV_2
    have fV_2 := chg_t (A := [(31, 98)]) (F := [(30, 7, 8), (30, 12, 13)]) fV cV_2 rfl
    have bCV_2 := bC_c bCV fV_2 rfl
    have xs := xsV_2
    have tw := twV_2
    have XB := hBV_2
    have fX := fV_2
    refine T_pz1 d_X10_explained_18 (fun h18 => ?_) (fun h18 => ?_)
    · skip
      obtain ⟨ρ, c, ch, rw0, sv0⟩ := xs
      obtain ⟨t8, sw⟩ := tw h18
      have sv := sv0
      rw [sw_svC sw] at sv
      have s1 := sv.1 (by omega)
      have s2 := sv.2.1 (by omega)
      have s3 := sv.2.2.1 (by omega)
      have xs : svX b Ks nk V_2 R_3 := ⟨ρ, c, ch, rw0, sv0⟩
      refine T_il d_X10_explained_23 rfl ?_
      refine T_zne d_X10_explained_24 ⟨by omega, by omega⟩ (fun h24 => ?_) (fun h24 => ?_)
      · skip
        refine T_al d_X10_explained_40 rfl ?_
        refine F_gr (b := 30) d_X10_explained_41 rfl hF rfl ?_
        refine F_gr (b := 56) d_X10_explained_44 rfl hF rfl ?_
        refine F_gi d_X10_explained_47 rfl hBV_2 rfl (fun b_4 => ?_)
        -- leaf 6f.18t.24t@50
        refine T_iret d_X10_explained_50 rfl ?_
        exact ⟨hF, hBV_2, fV_2, xs, _, rfl, ⟨by omega, by omega⟩, gd_y ⟨h6, h18⟩ ⟨c, ch, S3_sel s1 s3, s3.2.1.2.2.1.trans (if_neg h24).symm⟩⟩
      · skip
        refine T_al d_X10_explained_27 rfl ?_
        refine F_gr (b := 30) d_X10_explained_28 rfl hF rfl ?_
        refine F_gr (b := 56) d_X10_explained_31 rfl hF rfl ?_
        refine F_gi d_X10_explained_34 rfl hBV_2 rfl (fun b_5 => ?_)
        refine T_go d_X10_explained_37 ?_
        -- leaf 6f.18t.24f@50
        refine T_iret d_X10_explained_50 rfl ?_
        exact ⟨hF, hBV_2, fV_2, xs, _, rfl, ⟨by omega, by omega⟩, gd_y ⟨h6, h18⟩ ⟨c, ch, S3_sel s1 s3, by rw [h24]; exact s3.2.1.2.1⟩⟩
    · skip
      refine T_k d_X10_explained_21 ?_
      -- leaf 6f.18f@22
      refine T_iret d_X10_explained_22 rfl ?_
      exact ⟨hF, hBV_2, fV_2, xs, _, rfl, ⟨by omega, by omega⟩, gd_n (fun z => h18 z.2)⟩
set_option maxHeartbeats 1000000 in
set_option maxRecDepth 100000 in
theorem R_X10_strength {G : GG} {V : VV} {R : RR} {d : Int} {k : Int} {b : Bk} {Ks : Nat → Kd} {nk : Nat} (hB : Bd V) (hF : FinR R) (bCV : bC b V) (hob : okB b Ks nk) (hic : icB b Ks nk V) (hs : svX b Ks nk V R) (h_d : r32 d) (h_k : r32 k) : Runs G M_X10_strength 42 162 162 [vr 0, vi d, vi k] V R (obsQ b Ks nk V (gd ((0 ≤ d ∧ d < (nk : Int)) ∧ K4 k) (-1) (o1 b k (fun c => (weak b k (spS b k c) Ks d.toNat 7 : Int))))) := by
  refine Runs.of pn_X10 (Nat.le_of_ble_eq_true rfl) rfl ?_
  show TT G M_X10_strength (rmd 42 162 162) 162 (Zm G 162 162 (obsQ b Ks nk V (gd ((0 ≤ d ∧ d < (nk : Int)) ∧ K4 k) (-1) (o1 b k (fun c => (weak b k (spS b k c) Ks d.toNat 7 : Int)))))) 162 0 [(0, vr 0), (1, vi d), (2, vi k)] [] V R
  obtain ⟨h_d1, h_d2⟩ := h_d
  obtain ⟨h_k1, h_k2⟩ := h_k
  have fV : chg [(31, 98)] [(30, 7, 8), (30, 12, 13)] V V := chg_r
  have ic0 := hic.2.1
  have n5 := hob.2.2.1
  refine T_il d_X10_strength_0 rfl ?_
  refine T_k d_X10_strength_1 ?_
  refine T_al d_X10_strength_2 rfl ?_
  refine F_gr (b := 16) d_X10_strength_3 rfl hF rfl ?_
  refine F_gi d_X10_strength_6 rfl hB rfl (fun b_1 => ?_)
  rw [ic0]
  refine T_k d_X10_strength_9 ?_
  refine T_isub d_X10_strength_10 ?_
  refine C_ps3 d_X10_strength_11 (hdF (by omega)) (hcF _) (R_X10_isIn ⟨by omega, by omega⟩ ⟨by omega, by omega⟩ ⟨by omega, by omega⟩) ?_
  refine T_pz0 d_X10_strength_14 (fun h14 => ?_) (fun h14 => ?_)
  · skip
    refine T_k d_X10_strength_29 ?_
    -- leaf 14t@30
    refine T_iret d_X10_strength_30 rfl ?_
    exact ⟨hF, hB, fV, hs, _, rfl, ⟨by omega, by omega⟩, gd_n (fun z => h14 ⟨z.1.1, by have := z.1.2; omega⟩)⟩
  · skip
    refine T_al d_X10_strength_17 rfl ?_
    refine F_gr (b := 30) d_X10_strength_18 rfl hF rfl ?_
    refine T_il d_X10_strength_21 rfl ?_
    refine T_k d_X10_strength_22 ?_
    refine C_v2 d_X10_strength_23 rfl (hdF (by omega)) (hcF _) (R_X9_reachA (b := b) (Ks := Ks) (nk := nk) (k := k) (t := 2) hB hF bCV hob hic hs ⟨by omega, by omega⟩ ⟨by omega, by omega⟩) (fun r_2 V_3 R_4 qV_3 => ?_)
    obtain ⟨hF, hBV_3, cV_3, rfl, xsV_3, twV_3⟩ := qV_3
    have fV_3 := chg_t (A := [(31, 98)]) (F := [(30, 7, 8), (30, 12, 13)]) fV cV_3 rfl
    have bCV_3 := bC_c bCV fV_3 rfl
    have xs := xsV_3
    have tw := twV_3
    have XB := hBV_3
    have fX := fV_3
    refine T_pz1 d_X10_strength_26 (fun h26 => ?_) (fun h26 => ?_)
    · skip
      obtain ⟨ρ, c, ch, rw0, sv0⟩ := xs
      obtain ⟨t8, sw⟩ := tw h26
      have sv := sv0
      rw [sw_svC sw] at sv
      have s1 := sv.1 (by omega)
      have s2 := sv.2.1 (by omega)
      have xs : svX b Ks nk V_3 R_4 := ⟨ρ, c, ch, rw0, sv0⟩
      have t1 := sv0.1 (by omega)
      have t2 := sv0.2.1 (by omega)
      have b7 := XB.2 30 9 7 0 400 rfl rfl
      have ic := icB_c hic fX
      have hd : d.toNat < nk := by omega
      have plz := R_X9_strengthOfT (G := G) (b := b) (k := V_3 30 7) (S := spS b (V_3 30 7) c) (Ks := Ks) (kd := d.toNat) hBV_3 hF bCV_3 hob.1 t1.2.2.1 (spS_O hob.1) b7 rfl (by omega) ⟨ic.2.2 d.toNat hd (by omega), hob.2.2.2 d.toNat hd⟩ t1.2.2.2 ((t2.2.2.2 d.toNat hd).1.trans bg_is) (t2.2.2.2 d.toNat hd).2
      rw [show ((d.toNat : Nat) : Int) = d by omega] at plz
      have wl : weak b (V_3 30 7) (spS b (V_3 30 7) c) Ks d.toNat 7 ≤ 7 := cntB_le
      refine T_al d_X10_strength_31 rfl ?_
      refine F_gr (b := 30) d_X10_strength_32 rfl hF rfl ?_
      refine T_il d_X10_strength_35 rfl ?_
      refine C_v1 d_X10_strength_36 rfl (hdF (by omega)) (hcF _) plz (fun r_5 V_6 R_7 qV_6 => ?_)
      obtain ⟨hF, oV_6, hBV_6, cV_6, rfl, pV_6⟩ := qV_6
      have fV_6 := chg_t (A := [(31, 98)]) (F := [(30, 7, 8), (30, 12, 13)]) fV_3 cV_6 rfl
      have bCV_6 := bC_c bCV fV_6 rfl
      -- leaf 14f.26t@39
      refine T_iret d_X10_strength_39 rfl ?_
      exact ⟨hF, hBV_6, fV_6, svX_x (cV_6 30 7 rfl rfl) (cV_6 30 8 rfl rfl) (rwI_f rw0 oV_6) (svC_t sv0 rw0 (chg_s cV_6 rfl) (Or.inr pV_6.1) (fun j hj => by by_cases q : j = d.toNat; (rw [q]; exact Or.inr pV_6.2.1); exact Or.inl (pV_6.2.2 j q)) oV_6), _, rfl, ⟨by omega, by omega⟩, gd_y ⟨⟨by omega, by omega⟩, h26⟩ ⟨c, s1.1, by rw [sw_weak sw, sw_spS sw]⟩⟩
    · skip
      refine T_k d_X10_strength_29 ?_
      -- leaf 14f.26f@30
      refine T_iret d_X10_strength_30 rfl ?_
      exact ⟨hF, hBV_3, fV_3, xs, _, rfl, ⟨by omega, by omega⟩, gd_n (fun z => h26 z.2)⟩
set_option maxHeartbeats 1000000 in
set_option maxRecDepth 100000 in
theorem R_X10_pair {G : GG} {V : VV} {R : RR} {k : Int} {g : Int} {h : Int} {w : Int} {b : Bk} {Ks : Nat → Kd} {nk : Nat} (hB : Bd V) (hF : FinR R) (bCV : bC b V) (hob : okB b Ks nk) (hic : icB b Ks nk V) (hs : svX b Ks nk V R) (h_k : r32 k) (h_g : r32 g) (h_h : r32 h) (h_w : r32 w) : Runs G M_X10_pair 42 162 162 [vr 0, vi k, vi g, vi h, vi w] V R (obsQ b Ks nk V (gd ((0 ≤ w ∧ w ≤ 1) ∧ K4 k) (-1) (o2 b Ks nk k (paW b Ks nk k g h w)))) := by
  refine Runs.of pn_X10 (Nat.le_of_ble_eq_true rfl) rfl ?_
  show TT G M_X10_pair (rmd 42 162 162) 162 (Zm G 162 162 (obsQ b Ks nk V (gd ((0 ≤ w ∧ w ≤ 1) ∧ K4 k) (-1) (o2 b Ks nk k (paW b Ks nk k g h w))))) 162 0 [(0, vr 0), (1, vi k), (2, vi g), (3, vi h), (4, vi w)] [] V R
  obtain ⟨h_k1, h_k2⟩ := h_k
  obtain ⟨h_g1, h_g2⟩ := h_g
  obtain ⟨h_h1, h_h2⟩ := h_h
  obtain ⟨h_w1, h_w2⟩ := h_w
  have fV : chg [(31, 98)] [(30, 7, 8), (30, 12, 13)] V V := chg_r
  refine T_il d_X10_pair_0 rfl ?_
  refine T_k d_X10_pair_2 ?_
  refine T_k d_X10_pair_3 ?_
  refine C_ps3 d_X10_pair_4 (hdF (by omega)) (hcF _) (R_X10_isIn ⟨by omega, by omega⟩ ⟨by omega, by omega⟩ ⟨by omega, by omega⟩) ?_
  refine T_pz0 d_X10_pair_7 (fun h7 => ?_) (fun h7 => ?_)
  · skip
    refine T_k d_X10_pair_22 ?_
    -- leaf 7t@23
    refine T_iret d_X10_pair_23 rfl ?_
    exact ⟨hF, hB, fV, hs, _, rfl, ⟨by omega, by omega⟩, gd_n (fun z => h7 z.1)⟩
  · skip
    refine T_al d_X10_pair_10 rfl ?_
    refine F_gr (b := 30) d_X10_pair_11 rfl hF rfl ?_
    refine T_il d_X10_pair_14 rfl ?_
    refine T_k d_X10_pair_15 ?_
    refine C_v2 d_X10_pair_16 rfl (hdF (by omega)) (hcF _) (R_X9_reachA (b := b) (Ks := Ks) (nk := nk) (k := k) (t := 4) hB hF bCV hob hic hs ⟨by omega, by omega⟩ ⟨by omega, by omega⟩) (fun r_1 V_2 R_3 qV_2 => ?_)
    obtain ⟨hF, hBV_2, cV_2, rfl, xsV_2, twV_2⟩ := qV_2
    have fV_2 := chg_t (A := [(31, 98)]) (F := [(30, 7, 8), (30, 12, 13)]) fV cV_2 rfl
    have bCV_2 := bC_c bCV fV_2 rfl
    have xs := xsV_2
    have tw := twV_2
    have XB := hBV_2
    have fX := fV_2
    refine T_pz1 d_X10_pair_19 (fun h19 => ?_) (fun h19 => ?_)
    · skip
      obtain ⟨ρ, c, ch, rw0, sv0⟩ := xs
      obtain ⟨t8, sw⟩ := tw h19
      have sv := sv0
      rw [sw_svC sw] at sv
      have s1 := sv.1 (by omega)
      have s2 := sv.2.1 (by omega)
      have s3 := sv.2.2.1 (by omega)
      have s4 := sv.2.2.2.1 (by omega)
      have xs : svX b Ks nk V_2 R_3 := ⟨ρ, c, ch, rw0, sv0⟩
      have h13 := a_13 (ch := ch) hob.1 hob.2.2.2 s3.1.1; have h13c : chN ch (aN b k Ks nk c) ≤ 13 := h13
      have gr := mbW_r (ch := ch) (N := aN b k Ks nk c) (x := g)
      have hr := mbW_r (ch := ch) (N := aN b k Ks nk c) (x := h)
      have gb : -1 ≤ mbW ch (aN b k Ks nk c) g ∧ mbW ch (aN b k Ks nk c) g ≤ 12 := by rcases gr with z | ⟨i, i1, i2⟩ <;> omega
      have hb : -1 ≤ mbW ch (aN b k Ks nk c) h ∧ mbW ch (aN b k Ks nk c) h ≤ 12 := by rcases hr with z | ⟨i, i1, i2⟩ <;> omega
      refine T_al d_X10_pair_24 rfl ?_
      refine F_gr (b := 30) d_X10_pair_25 rfl hF rfl ?_
      refine F_gr (b := 85) d_X10_pair_28 rfl hF rfl ?_
      refine T_il d_X10_pair_31 rfl ?_
      refine C_pv1 d_X10_pair_32 rfl (hdF (by omega)) (hcF _) (R_X6_memberA (ch := ch) (N := aN b k Ks nk c) hBV_2 hF ⟨by omega, by omega⟩ s4.1.2.1) ?_
      refine F_isg d_X10_pair_35 (f := fun x_4 => [(0, vr 0), (1, vi k), (2, vi g), (3, vi h), (4, vi w), (5, vi x_4)]) (fun _ => rfl) (fun x_4 ex_4 => ?_)
      obtain rfl : x_4 = mbW ch (aN b k Ks nk c) g := ex_4
      refine T_al d_X10_pair_37 rfl ?_
      refine F_gr (b := 30) d_X10_pair_38 rfl hF rfl ?_
      refine F_gr (b := 85) d_X10_pair_41 rfl hF rfl ?_
      refine T_il d_X10_pair_44 rfl ?_
      refine C_pv1 d_X10_pair_45 rfl (hdF (by omega)) (hcF _) (R_X6_memberA (ch := ch) (N := aN b k Ks nk c) hBV_2 hF ⟨by omega, by omega⟩ s4.1.2.1) ?_
      refine F_isg d_X10_pair_48 (f := fun x_5 => [(0, vr 0), (1, vi k), (2, vi g), (3, vi h), (4, vi w), (5, vi (mbW ch (aN b k Ks nk c) g)), (6, vi x_5)]) (fun _ => rfl) (fun x_5 ex_5 => ?_)
      obtain rfl : x_5 = mbW ch (aN b k Ks nk c) h := ex_5
      refine T_il d_X10_pair_50 rfl ?_
      refine T_k d_X10_pair_52 ?_
      refine T_ieq d_X10_pair_53 ⟨by omega, by omega⟩ ⟨by omega, by omega⟩ (fun h53 => ?_) (fun h53 => ?_)
      · skip
        refine T_k d_X10_pair_69 ?_
        -- leaf 7f.19t.53t@70
        refine T_iret d_X10_pair_70 rfl ?_
        exact ⟨hF, hBV_2, fV_2, xs, _, rfl, ⟨by omega, by omega⟩, gd_y ⟨h7, h19⟩ ⟨c, ch, S3_sel s1 s3, (if_pos (Or.inl h53)).symm⟩⟩
      · skip
        refine T_il d_X10_pair_56 rfl ?_
        refine T_k d_X10_pair_58 ?_
        refine T_ieq d_X10_pair_59 ⟨by omega, by omega⟩ ⟨by omega, by omega⟩ (fun h59 => ?_) (fun h59 => ?_)
        · skip
          refine T_k d_X10_pair_69 ?_
          -- leaf 7f.19t.53f.59t@70
          refine T_iret d_X10_pair_70 rfl ?_
          exact ⟨hF, hBV_2, fV_2, xs, _, rfl, ⟨by omega, by omega⟩, gd_y ⟨h7, h19⟩ ⟨c, ch, S3_sel s1 s3, (if_pos (Or.inr (Or.inl h59))).symm⟩⟩
        · skip
          refine T_il d_X10_pair_62 rfl ?_
          refine T_il d_X10_pair_64 rfl ?_
          refine T_ine d_X10_pair_66 ⟨by omega, by omega⟩ ⟨by omega, by omega⟩ (fun h66 => ?_) (fun h66 => ?_)
          · skip
            obtain ⟨A, A1, A2⟩ := gr.resolve_left h53
            obtain ⟨E, E1, E2⟩ := hr.resolve_left h59
            have x8 := s4.1.2.2.1 A A1
            have x9 := s4.1.2.2.2.1 A A1
            have pw : paW b Ks nk k g h w c ch = bi (if w = 0 then aMt b k Ks nk c ch A E else aLt b k Ks nk c ch A E) := by unfold paW; rw [if_neg (by omega), A2, E2, Int.toNat_natCast, Int.toNat_natCast]
            have kb1 := bn_13 (p := aMt b k Ks nk c ch A) (n := aC b k Ks nk c ch) h13
            have kb2 := bn_13 (p := aLt b k Ks nk c ch A) (n := aC b k Ks nk c ch) h13
            refine T_il d_X10_pair_71 rfl ?_
            refine T_zne d_X10_pair_73 ⟨by omega, by omega⟩ (fun h73 => ?_) (fun h73 => ?_)
            · skip
              refine T_al d_X10_pair_92 rfl ?_
              refine F_gr (b := 30) d_X10_pair_93 rfl hF rfl ?_
              refine F_gr (b := 85) d_X10_pair_96 rfl hF rfl ?_
              refine F_gr (b := 89) d_X10_pair_99 rfl hF rfl ?_
              refine T_il d_X10_pair_102 rfl ?_
              refine F_ia d_X10_pair_104 rfl hBV_2 rfl ⟨by omega, by omega⟩ (fun b_6 => ?_)
              try simp only [Int.toNat_natCast]
              try simp only [Int.toNat_natCast] at b_6
              refine F_isg d_X10_pair_105 (f := fun x_7 => [(0, vr 0), (1, vi k), (2, vi g), (3, vi h), (4, vi w), (5, vi (mbW ch (aN b k Ks nk c) g)), (6, vi (mbW ch (aN b k Ks nk c) h)), (7, vi x_7)]) (fun _ => rfl) (fun x_7 ex_7 => ?_)
              have e7 := ex_7
              rw [A2, Int.toNat_natCast] at e7
              refine T_il d_X10_pair_107 rfl ?_
              refine T_il d_X10_pair_109 rfl ?_
              refine T_ishr d_X10_pair_111 ?_
              refine T_k d_X10_pair_112 ?_
              refine T_iand d_X10_pair_113 ?_
              rw [e7, E2, x9, tbI (by omega) (by omega), bt_e E1]
              -- leaf 7f.19t.53f.59f.66t.73t@114
              refine T_iret d_X10_pair_114 rfl ?_
              exact ⟨hF, hBV_2, fV_2, xs, _, rfl, bi_r _, gd_y ⟨h7, h19⟩ ⟨c, ch, S3_sel s1 s3, by rw [pw, if_neg h73]⟩⟩
            · skip
              refine T_al d_X10_pair_76 rfl ?_
              refine F_gr (b := 30) d_X10_pair_77 rfl hF rfl ?_
              refine F_gr (b := 85) d_X10_pair_80 rfl hF rfl ?_
              refine F_gr (b := 88) d_X10_pair_83 rfl hF rfl ?_
              refine T_il d_X10_pair_86 rfl ?_
              refine F_ia d_X10_pair_88 rfl hBV_2 rfl ⟨by omega, by omega⟩ (fun b_8 => ?_)
              try simp only [Int.toNat_natCast]
              try simp only [Int.toNat_natCast] at b_8
              refine T_go d_X10_pair_89 ?_
              refine F_isg d_X10_pair_105 (f := fun x_9 => [(0, vr 0), (1, vi k), (2, vi g), (3, vi h), (4, vi w), (5, vi (mbW ch (aN b k Ks nk c) g)), (6, vi (mbW ch (aN b k Ks nk c) h)), (7, vi x_9)]) (fun _ => rfl) (fun x_9 ex_9 => ?_)
              have e7 := ex_9
              rw [A2, Int.toNat_natCast] at e7
              refine T_il d_X10_pair_107 rfl ?_
              refine T_il d_X10_pair_109 rfl ?_
              refine T_ishr d_X10_pair_111 ?_
              refine T_k d_X10_pair_112 ?_
              refine T_iand d_X10_pair_113 ?_
              rw [e7, E2, x8, tbI (by omega) (by omega), bt_e E1]
              -- leaf 7f.19t.53f.59f.66t.73f@114
              refine T_iret d_X10_pair_114 rfl ?_
              exact ⟨hF, hBV_2, fV_2, xs, _, rfl, bi_r _, gd_y ⟨h7, h19⟩ ⟨c, ch, S3_sel s1 s3, by rw [pw, if_pos h73]⟩⟩
          · skip
            refine T_k d_X10_pair_69 ?_
            -- leaf 7f.19t.53f.59f.66f@70
            refine T_iret d_X10_pair_70 rfl ?_
            exact ⟨hF, hBV_2, fV_2, xs, _, rfl, ⟨by omega, by omega⟩, gd_y ⟨h7, h19⟩ ⟨c, ch, S3_sel s1 s3, (if_pos (Or.inr (Or.inr h66))).symm⟩⟩
    · skip
      refine T_k d_X10_pair_22 ?_
      -- leaf 7f.19f@23
      refine T_iret d_X10_pair_23 rfl ?_
      exact ⟨hF, hBV_2, fV_2, xs, _, rfl, ⟨by omega, by omega⟩, gd_n (fun z => h19 z.2)⟩
set_option maxHeartbeats 1000000 in
set_option maxRecDepth 100000 in
theorem R_X10_phases {G : GG} {V : VV} {R : RR} {k : Int} {w : Int} {b : Bk} {Ks : Nat → Kd} {nk : Nat} (hB : Bd V) (hF : FinR R) (bCV : bC b V) (hob : okB b Ks nk) (hic : icB b Ks nk V) (hs : svX b Ks nk V R) (h_k : r32 k) (h_w : r32 w) : Runs G M_X10_phases 42 162 162 [vr 0, vi k, vi w] V R (obsQ b Ks nk V (gd ((0 ≤ w ∧ w ≤ 1) ∧ K4 k) (-1) (o4 b Ks nk k w))) := by
  refine Runs.of pn_X10 (Nat.le_of_ble_eq_true rfl) rfl ?_
  show TT G M_X10_phases (rmd 42 162 162) 162 (Zm G 162 162 (obsQ b Ks nk V (gd ((0 ≤ w ∧ w ≤ 1) ∧ K4 k) (-1) (o4 b Ks nk k w)))) 162 0 [(0, vr 0), (1, vi k), (2, vi w)] [] V R
  obtain ⟨h_k1, h_k2⟩ := h_k
  obtain ⟨h_w1, h_w2⟩ := h_w
  have fV : chg [(31, 98)] [(30, 7, 8), (30, 12, 13)] V V := chg_r
  refine T_il d_X10_phases_0 rfl ?_
  refine T_k d_X10_phases_1 ?_
  refine T_k d_X10_phases_2 ?_
  refine C_ps3 d_X10_phases_3 (hdF (by omega)) (hcF _) (R_X10_isIn ⟨by omega, by omega⟩ ⟨by omega, by omega⟩ ⟨by omega, by omega⟩) ?_
  refine T_pz0 d_X10_phases_6 (fun h6 => ?_) (fun h6 => ?_)
  · skip
    refine T_k d_X10_phases_21 ?_
    -- leaf 6t@22
    refine T_iret d_X10_phases_22 rfl ?_
    exact ⟨hF, hB, fV, hs, _, rfl, ⟨by omega, by omega⟩, gd_n (fun z => h6 z.1)⟩
  · skip
    refine T_al d_X10_phases_9 rfl ?_
    refine F_gr (b := 30) d_X10_phases_10 rfl hF rfl ?_
    refine T_il d_X10_phases_13 rfl ?_
    refine T_k d_X10_phases_14 ?_
    refine C_v2 d_X10_phases_15 rfl (hdF (by omega)) (hcF _) (R_X9_reachA (b := b) (Ks := Ks) (nk := nk) (k := k) (t := 4) hB hF bCV hob hic hs ⟨by omega, by omega⟩ ⟨by omega, by omega⟩) (fun r_1 V_2 R_3 qV_2 => ?_)
    obtain ⟨hF, hBV_2, cV_2, rfl, xsV_2, twV_2⟩ := qV_2
    have fV_2 := chg_t (A := [(31, 98)]) (F := [(30, 7, 8), (30, 12, 13)]) fV cV_2 rfl
    have bCV_2 := bC_c bCV fV_2 rfl
    have xs := xsV_2
    have tw := twV_2
    have XB := hBV_2
    have fX := fV_2
    refine T_pz1 d_X10_phases_18 (fun h18 => ?_) (fun h18 => ?_)
    · skip
      obtain ⟨ρ, c, ch, rw0, sv0⟩ := xs
      obtain ⟨t8, sw⟩ := tw h18
      have sv := sv0
      rw [sw_svC sw] at sv
      have s1 := sv.1 (by omega)
      have s2 := sv.2.1 (by omega)
      have s3 := sv.2.2.1 (by omega)
      have s4 := sv.2.2.2.1 (by omega)
      have xs : svX b Ks nk V_2 R_3 := ⟨ρ, c, ch, rw0, sv0⟩
      refine T_al d_X10_phases_23 rfl ?_
      refine F_gr (b := 30) d_X10_phases_24 rfl hF rfl ?_
      refine F_gr (b := 85) d_X10_phases_27 rfl hF rfl ?_
      refine T_as d_X10_phases_30 (ls' := [(0, vr 0), (1, vi k), (2, vi w), (3, vr 85)]) rfl ?_
      refine T_al d_X10_phases_31 rfl ?_
      refine F_gi d_X10_phases_32 rfl hBV_2 rfl (fun b_4 => ?_)
      refine T_zne d_X10_phases_35 ⟨by omega, by omega⟩ (fun h35 => ?_) (fun h35 => ?_)
      · skip
        refine T_il d_X10_phases_40 rfl ?_
        refine T_zne d_X10_phases_41 ⟨by omega, by omega⟩ (fun h41 => ?_) (fun h41 => ?_)
        · skip
          refine T_al d_X10_phases_51 rfl ?_
          refine F_gi d_X10_phases_52 rfl hBV_2 rfl (fun b_5 => ?_)
          -- leaf 6f.18t.35t.41t@55
          refine T_iret d_X10_phases_55 rfl ?_
          exact ⟨hF, hBV_2, fV_2, xs, _, rfl, ⟨by omega, by omega⟩, gd_y ⟨h6, h18⟩ ⟨c, ch, _, _, _, _, S3_sel s1 s3, s4.2, by rw [if_neg h35, if_neg h41]⟩⟩
        · skip
          refine T_al d_X10_phases_44 rfl ?_
          refine F_gi d_X10_phases_45 rfl hBV_2 rfl (fun b_6 => ?_)
          refine T_go d_X10_phases_48 ?_
          -- leaf 6f.18t.35t.41f@55
          refine T_iret d_X10_phases_55 rfl ?_
          exact ⟨hF, hBV_2, fV_2, xs, _, rfl, ⟨by omega, by omega⟩, gd_y ⟨h6, h18⟩ ⟨c, ch, _, _, _, _, S3_sel s1 s3, s4.2, by rw [if_neg h35, if_pos h41]⟩⟩
      · skip
        refine T_k d_X10_phases_38 ?_
        -- leaf 6f.18t.35f@39
        refine T_iret d_X10_phases_39 rfl ?_
        exact ⟨hF, hBV_2, fV_2, xs, _, rfl, ⟨by omega, by omega⟩, gd_y ⟨h6, h18⟩ ⟨c, ch, _, _, _, _, S3_sel s1 s3, s4.2, (if_pos h35).symm⟩⟩
    · skip
      refine T_k d_X10_phases_21 ?_
      -- leaf 6f.18f@22
      refine T_iret d_X10_phases_22 rfl ?_
      exact ⟨hF, hBV_2, fV_2, xs, _, rfl, ⟨by omega, by omega⟩, gd_n (fun z => h18 z.2)⟩
set_option maxHeartbeats 1000000 in
set_option maxRecDepth 100000 in
theorem R_X10_phase {G : GG} {V : VV} {R : RR} {k : Int} {h : Int} {b : Bk} {Ks : Nat → Kd} {nk : Nat} (hB : Bd V) (hF : FinR R) (bCV : bC b V) (hob : okB b Ks nk) (hic : icB b Ks nk V) (hs : svX b Ks nk V R) (h_k : r32 k) (h_h : r32 h) : Runs G M_X10_phase 42 162 162 [vr 0, vi k, vi h] V R (obsQ b Ks nk V (gd (K4 k) (-1) (o6 b Ks nk k h))) := by
  refine Runs.of pn_X10 (Nat.le_of_ble_eq_true rfl) rfl ?_
  show TT G M_X10_phase (rmd 42 162 162) 162 (Zm G 162 162 (obsQ b Ks nk V (gd (K4 k) (-1) (o6 b Ks nk k h)))) 162 0 [(0, vr 0), (1, vi k), (2, vi h)] [] V R
  obtain ⟨h_k1, h_k2⟩ := h_k
  obtain ⟨h_h1, h_h2⟩ := h_h
  have fV : chg [(31, 98)] [(30, 7, 8), (30, 12, 13)] V V := chg_r
  refine T_al d_X10_phase_0 rfl ?_
  refine F_gr (b := 30) d_X10_phase_1 rfl hF rfl ?_
  refine T_il d_X10_phase_4 rfl ?_
  refine T_k d_X10_phase_5 ?_
  refine C_v2 d_X10_phase_6 rfl (hdF (by omega)) (hcF _) (R_X9_reachA (b := b) (Ks := Ks) (nk := nk) (k := k) (t := 4) hB hF bCV hob hic hs ⟨by omega, by omega⟩ ⟨by omega, by omega⟩) (fun r_1 V_2 R_3 qV_2 => ?_)
  obtain ⟨hF, hBV_2, cV_2, rfl, xsV_2, twV_2⟩ := qV_2
  have fV_2 := chg_t (A := [(31, 98)]) (F := [(30, 7, 8), (30, 12, 13)]) fV cV_2 rfl
  have bCV_2 := bC_c bCV fV_2 rfl
  have xs := xsV_2
  have tw := twV_2
  have XB := hBV_2
  have fX := fV_2
  refine T_pz1 d_X10_phase_9 (fun h9 => ?_) (fun h9 => ?_)
  · skip
    obtain ⟨ρ, c, ch, rw0, sv0⟩ := xs
    obtain ⟨t8, sw⟩ := tw h9
    have sv := sv0
    rw [sw_svC sw] at sv
    have s1 := sv.1 (by omega)
    have s2 := sv.2.1 (by omega)
    have s3 := sv.2.2.1 (by omega)
    have s4 := sv.2.2.2.1 (by omega)
    have xs : svX b Ks nk V_2 R_3 := ⟨ρ, c, ch, rw0, sv0⟩
    have h13 := a_13 (ch := ch) hob.1 hob.2.2.2 s3.1.1; have h13c : chN ch (aN b k Ks nk c) ≤ 13 := h13
    have hr := mbW_r (ch := ch) (N := aN b k Ks nk c) (x := h)
    have hb : -1 ≤ mbW ch (aN b k Ks nk c) h ∧ mbW ch (aN b k Ks nk c) h ≤ 12 := by rcases hr with z | ⟨i, i1, i2⟩ <;> omega
    refine T_al d_X10_phase_14 rfl ?_
    refine F_gr (b := 30) d_X10_phase_15 rfl hF rfl ?_
    refine F_gr (b := 85) d_X10_phase_18 rfl hF rfl ?_
    refine T_il d_X10_phase_21 rfl ?_
    refine C_pv1 d_X10_phase_22 rfl (hdF (by omega)) (hcF _) (R_X6_memberA (ch := ch) (N := aN b k Ks nk c) hBV_2 hF ⟨by omega, by omega⟩ s4.1.2.1) ?_
    refine F_isg d_X10_phase_25 (f := fun x_4 => [(0, vr 0), (1, vi k), (2, vi h), (3, vi x_4)]) (fun _ => rfl) (fun x_4 ex_4 => ?_)
    obtain rfl : x_4 = mbW ch (aN b k Ks nk c) h := ex_4
    refine T_il d_X10_phase_26 rfl ?_
    refine T_k d_X10_phase_27 ?_
    refine T_ieq d_X10_phase_28 ⟨by omega, by omega⟩ ⟨by omega, by omega⟩ (fun h28 => ?_) (fun h28 => ?_)
    · skip
      refine T_k d_X10_phase_44 ?_
      -- leaf 9t.28t@45
      refine T_iret d_X10_phase_45 rfl ?_
      exact ⟨hF, hBV_2, fV_2, xs, _, rfl, ⟨by omega, by omega⟩, gd_y h9 ⟨c, ch, _, _, _, _, S3_sel s1 s3, s4.2, (if_pos (Or.inl h28)).symm⟩⟩
    · skip
      refine T_al d_X10_phase_31 rfl ?_
      refine F_gr (b := 30) d_X10_phase_32 rfl hF rfl ?_
      refine F_gr (b := 85) d_X10_phase_35 rfl hF rfl ?_
      refine F_gi d_X10_phase_38 rfl hBV_2 rfl (fun b_5 => ?_)
      refine T_zne d_X10_phase_41 ⟨by omega, by omega⟩ (fun h41 => ?_) (fun h41 => ?_)
      · skip
        refine T_al d_X10_phase_46 rfl ?_
        refine F_gr (b := 30) d_X10_phase_47 rfl hF rfl ?_
        refine F_gr (b := 85) d_X10_phase_50 rfl hF rfl ?_
        refine F_gr (b := 96) d_X10_phase_53 rfl hF rfl ?_
        refine T_il d_X10_phase_56 rfl ?_
        refine F_ia d_X10_phase_57 rfl hBV_2 rfl ⟨by omega, by omega⟩ (fun b_6 => ?_)
        try simp only [Int.toNat_natCast]
        try simp only [Int.toNat_natCast] at b_6
        -- leaf 9t.28f.41t@58
        refine T_iret d_X10_phase_58 rfl ?_
        exact ⟨hF, hBV_2, fV_2, xs, _, rfl, ⟨by omega, by omega⟩, gd_y h9 ⟨c, ch, _, _, _, _, S3_sel s1 s3, s4.2, by rw [if_neg (fun z => z.elim h28 h41)]⟩⟩
      · skip
        refine T_k d_X10_phase_44 ?_
        -- leaf 9t.28f.41f@45
        refine T_iret d_X10_phase_45 rfl ?_
        exact ⟨hF, hBV_2, fV_2, xs, _, rfl, ⟨by omega, by omega⟩, gd_y h9 ⟨c, ch, _, _, _, _, S3_sel s1 s3, s4.2, (if_pos (Or.inr h41)).symm⟩⟩
  · skip
    refine T_k d_X10_phase_12 ?_
    -- leaf 9f@13
    refine T_iret d_X10_phase_13 rfl ?_
    exact ⟨hF, hBV_2, fV_2, xs, _, rfl, ⟨by omega, by omega⟩, gd_n (fun z => h9 z)⟩
set_option maxHeartbeats 1000000 in
set_option maxRecDepth 100000 in
theorem R_X10_start {G : GG} {V : VV} {R : RR} {k : Int} {h : Int} {w : Int} {b : Bk} {Ks : Nat → Kd} {nk : Nat} (hB : Bd V) (hF : FinR R) (bCV : bC b V) (hob : okB b Ks nk) (hic : icB b Ks nk V) (hs : svX b Ks nk V R) (h_k : r32 k) (h_h : r32 h) (h_w : r32 w) : Runs G M_X10_start 42 162 162 [vr 0, vi k, vi h, vi w] V R (obsQ b Ks nk V (gd ((0 ≤ w ∧ w ≤ 1) ∧ K4 k) (-1) (o7 b Ks nk k h w))) := by
  refine Runs.of pn_X10 (Nat.le_of_ble_eq_true rfl) rfl ?_
  show TT G M_X10_start (rmd 42 162 162) 162 (Zm G 162 162 (obsQ b Ks nk V (gd ((0 ≤ w ∧ w ≤ 1) ∧ K4 k) (-1) (o7 b Ks nk k h w)))) 162 0 [(0, vr 0), (1, vi k), (2, vi h), (3, vi w)] [] V R
  obtain ⟨h_k1, h_k2⟩ := h_k
  obtain ⟨h_h1, h_h2⟩ := h_h
  obtain ⟨h_w1, h_w2⟩ := h_w
  have fV : chg [(31, 98)] [(30, 7, 8), (30, 12, 13)] V V := chg_r
  refine T_il d_X10_start_0 rfl ?_
  refine T_k d_X10_start_1 ?_
  refine T_k d_X10_start_2 ?_
  refine C_ps3 d_X10_start_3 (hdF (by omega)) (hcF _) (R_X10_isIn ⟨by omega, by omega⟩ ⟨by omega, by omega⟩ ⟨by omega, by omega⟩) ?_
  refine T_pz0 d_X10_start_6 (fun h6 => ?_) (fun h6 => ?_)
  · skip
    refine T_k d_X10_start_21 ?_
    -- leaf 6t@22
    refine T_iret d_X10_start_22 rfl ?_
    exact ⟨hF, hB, fV, hs, _, rfl, ⟨by omega, by omega⟩, gd_n (fun z => h6 z.1)⟩
  · skip
    refine T_al d_X10_start_9 rfl ?_
    refine F_gr (b := 30) d_X10_start_10 rfl hF rfl ?_
    refine T_il d_X10_start_13 rfl ?_
    refine T_k d_X10_start_14 ?_
    refine C_v2 d_X10_start_15 rfl (hdF (by omega)) (hcF _) (R_X9_reachA (b := b) (Ks := Ks) (nk := nk) (k := k) (t := 5) hB hF bCV hob hic hs ⟨by omega, by omega⟩ ⟨by omega, by omega⟩) (fun r_1 V_2 R_3 qV_2 => ?_)
    obtain ⟨hF, hBV_2, cV_2, rfl, xsV_2, twV_2⟩ := qV_2
    have fV_2 := chg_t (A := [(31, 98)]) (F := [(30, 7, 8), (30, 12, 13)]) fV cV_2 rfl
    have bCV_2 := bC_c bCV fV_2 rfl
    have xs := xsV_2
    have tw := twV_2
    have XB := hBV_2
    have fX := fV_2
    refine T_pz1 d_X10_start_18 (fun h18 => ?_) (fun h18 => ?_)
    · skip
      obtain ⟨ρ, c, ch, rw0, sv0⟩ := xs
      obtain ⟨t8, sw⟩ := tw h18
      have sv := sv0
      rw [sw_svC sw] at sv
      have s1 := sv.1 (by omega)
      have s2 := sv.2.1 (by omega)
      have s3 := sv.2.2.1 (by omega)
      have s4 := sv.2.2.2.1 (by omega)
      have s5 := sv.2.2.2.2 (by omega)
      have xs : svX b Ks nk V_2 R_3 := ⟨ρ, c, ch, rw0, sv0⟩
      have h13 := a_13 (ch := ch) hob.1 hob.2.2.2 s3.1.1; have h13c : chN ch (aN b k Ks nk c) ≤ 13 := h13
      have hr := mbW_r (ch := ch) (N := aN b k Ks nk c) (x := h)
      have hb : -1 ≤ mbW ch (aN b k Ks nk c) h ∧ mbW ch (aN b k Ks nk c) h ≤ 12 := by rcases hr with z | ⟨i, i1, i2⟩ <;> omega
      have rg := sta_r (b := b) (Ks := Ks) (nk := nk) (k := k) (c := c) (ch := ch) hob s4.2 s5
      refine T_al d_X10_start_23 rfl ?_
      refine F_gr (b := 30) d_X10_start_24 rfl hF rfl ?_
      refine F_gr (b := 85) d_X10_start_27 rfl hF rfl ?_
      refine T_il d_X10_start_30 rfl ?_
      refine C_pv1 d_X10_start_31 rfl (hdF (by omega)) (hcF _) (R_X6_memberA (ch := ch) (N := aN b k Ks nk c) hBV_2 hF ⟨by omega, by omega⟩ s4.1.2.1) ?_
      refine F_isg d_X10_start_34 (f := fun x_4 => [(0, vr 0), (1, vi k), (2, vi h), (3, vi w), (4, vi x_4)]) (fun _ => rfl) (fun x_4 ex_4 => ?_)
      obtain rfl : x_4 = mbW ch (aN b k Ks nk c) h := ex_4
      refine T_il d_X10_start_36 rfl ?_
      refine T_k d_X10_start_38 ?_
      refine T_ieq d_X10_start_39 ⟨by omega, by omega⟩ ⟨by omega, by omega⟩ (fun h39 => ?_) (fun h39 => ?_)
      · skip
        refine T_k d_X10_start_55 ?_
        -- leaf 6f.18t.39t@56
        refine T_iret d_X10_start_56 rfl ?_
        exact ⟨hF, hBV_2, fV_2, xs, _, rfl, ⟨by omega, by omega⟩, gd_y ⟨h6, h18⟩ ⟨c, ch, _, _, _, _, _, _, _, S3_sel s1 s3, s4.2, s5, (if_pos (Or.inl h39)).symm⟩⟩
      · skip
        refine T_al d_X10_start_42 rfl ?_
        refine F_gr (b := 30) d_X10_start_43 rfl hF rfl ?_
        refine F_gr (b := 85) d_X10_start_46 rfl hF rfl ?_
        refine F_gi d_X10_start_49 rfl hBV_2 rfl (fun b_5 => ?_)
        refine T_zne d_X10_start_52 ⟨by omega, by omega⟩ (fun h52 => ?_) (fun h52 => ?_)
        · skip
          obtain ⟨A, A1, A2⟩ := hr.resolve_left h39
          have rA := (rg h52 h13).2 A A1
          have eA : (mbW ch (aN b k Ks nk c) h).toNat = A := by omega
          refine T_il d_X10_start_57 rfl ?_
          refine T_zne d_X10_start_58 ⟨by omega, by omega⟩ (fun h58 => ?_) (fun h58 => ?_)
          · skip
            refine T_al d_X10_start_77 rfl ?_
            refine F_gr (b := 30) d_X10_start_78 rfl hF rfl ?_
            refine F_gr (b := 85) d_X10_start_81 rfl hF rfl ?_
            refine F_gr (b := 98) d_X10_start_84 rfl hF rfl ?_
            refine T_il d_X10_start_87 rfl ?_
            refine F_ian d_X10_start_89 rfl ⟨by omega, by omega⟩ ?_
            try simp only [Int.toNat_natCast]
            -- leaf 6f.18t.39f.52t.58t@90
            refine T_iret d_X10_start_90 rfl ?_
            exact ⟨hF, hBV_2, fV_2, xs, _, rfl, ⟨by rw [eA]; omega, by rw [eA]; omega⟩, gd_y ⟨h6, h18⟩ ⟨c, ch, _, _, _, _, _, _, _, S3_sel s1 s3, s4.2, s5, by rw [if_neg (fun z => z.elim h39 h52), if_neg h58]⟩⟩
          · skip
            refine T_al d_X10_start_61 rfl ?_
            refine F_gr (b := 30) d_X10_start_62 rfl hF rfl ?_
            refine F_gr (b := 85) d_X10_start_65 rfl hF rfl ?_
            refine F_gr (b := 97) d_X10_start_68 rfl hF rfl ?_
            refine T_il d_X10_start_71 rfl ?_
            refine F_ian d_X10_start_73 rfl ⟨by omega, by omega⟩ ?_
            try simp only [Int.toNat_natCast]
            refine T_go d_X10_start_74 ?_
            -- leaf 6f.18t.39f.52t.58f@90
            refine T_iret d_X10_start_90 rfl ?_
            exact ⟨hF, hBV_2, fV_2, xs, _, rfl, ⟨by rw [eA]; omega, by rw [eA]; omega⟩, gd_y ⟨h6, h18⟩ ⟨c, ch, _, _, _, _, _, _, _, S3_sel s1 s3, s4.2, s5, by rw [if_neg (fun z => z.elim h39 h52), if_pos h58]⟩⟩
        · skip
          refine T_k d_X10_start_55 ?_
          -- leaf 6f.18t.39f.52f@56
          refine T_iret d_X10_start_56 rfl ?_
          exact ⟨hF, hBV_2, fV_2, xs, _, rfl, ⟨by omega, by omega⟩, gd_y ⟨h6, h18⟩ ⟨c, ch, _, _, _, _, _, _, _, S3_sel s1 s3, s4.2, s5, (if_pos (Or.inr h52)).symm⟩⟩
    · skip
      refine T_k d_X10_start_21 ?_
      -- leaf 6f.18f@22
      refine T_iret d_X10_start_22 rfl ?_
      exact ⟨hF, hBV_2, fV_2, xs, _, rfl, ⟨by omega, by omega⟩, gd_n (fun z => h18 z.2)⟩
set_option maxHeartbeats 1000000 in
set_option maxRecDepth 100000 in
theorem R_X10_stands {G : GG} {V : VV} {R : RR} {k : Int} {y : Int} {w : Int} {b : Bk} {Ks : Nat → Kd} {nk : Nat} (hB : Bd V) (hF : FinR R) (bCV : bC b V) (hob : okB b Ks nk) (hic : icB b Ks nk V) (hs : svX b Ks nk V R) (h_k : r32 k) (h_y : r32 y) (h_w : r32 w) : Runs G M_X10_stands 42 162 162 [vr 0, vi k, vi y, vi w] V R (obsQ b Ks nk V (gd ((0 ≤ y ∧ y ≤ 2500) ∧ (0 ≤ w ∧ w ≤ 1) ∧ K4 k) (-1) (o8 b Ks nk k y w))) := by
  refine Runs.of pn_X10 (Nat.le_of_ble_eq_true rfl) rfl ?_
  show TT G M_X10_stands (rmd 42 162 162) 162 (Zm G 162 162 (obsQ b Ks nk V (gd ((0 ≤ y ∧ y ≤ 2500) ∧ (0 ≤ w ∧ w ≤ 1) ∧ K4 k) (-1) (o8 b Ks nk k y w)))) 162 0 [(0, vr 0), (1, vi k), (2, vi y), (3, vi w)] [] V R
  obtain ⟨h_k1, h_k2⟩ := h_k
  obtain ⟨h_y1, h_y2⟩ := h_y
  obtain ⟨h_w1, h_w2⟩ := h_w
  have fV : chg [(31, 98)] [(30, 7, 8), (30, 12, 13)] V V := chg_r
  refine T_il d_X10_stands_0 rfl ?_
  refine T_k d_X10_stands_1 ?_
  refine T_k d_X10_stands_2 ?_
  refine C_ps3 d_X10_stands_5 (hdF (by omega)) (hcF _) (R_X10_isIn ⟨by omega, by omega⟩ ⟨by omega, by omega⟩ ⟨by omega, by omega⟩) ?_
  refine T_pz0 d_X10_stands_8 (fun h8 => ?_) (fun h8 => ?_)
  · skip
    refine T_k d_X10_stands_32 ?_
    -- leaf 8t@33
    refine T_iret d_X10_stands_33 rfl ?_
    exact ⟨hF, hB, fV, hs, _, rfl, ⟨by omega, by omega⟩, gd_n (fun z => h8 z.1)⟩
  · skip
    refine T_il d_X10_stands_11 rfl ?_
    refine T_k d_X10_stands_12 ?_
    refine T_k d_X10_stands_13 ?_
    refine C_ps3 d_X10_stands_14 (hdF (by omega)) (hcF _) (R_X10_isIn ⟨by omega, by omega⟩ ⟨by omega, by omega⟩ ⟨by omega, by omega⟩) ?_
    refine T_pz0 d_X10_stands_17 (fun h17 => ?_) (fun h17 => ?_)
    · skip
      refine T_k d_X10_stands_32 ?_
      -- leaf 8f.17t@33
      refine T_iret d_X10_stands_33 rfl ?_
      exact ⟨hF, hB, fV, hs, _, rfl, ⟨by omega, by omega⟩, gd_n (fun z => h17 z.2.1)⟩
    · skip
      refine T_al d_X10_stands_20 rfl ?_
      refine F_gr (b := 30) d_X10_stands_21 rfl hF rfl ?_
      refine T_il d_X10_stands_24 rfl ?_
      refine T_k d_X10_stands_25 ?_
      refine C_v2 d_X10_stands_26 rfl (hdF (by omega)) (hcF _) (R_X9_reachA (b := b) (Ks := Ks) (nk := nk) (k := k) (t := 5) hB hF bCV hob hic hs ⟨by omega, by omega⟩ ⟨by omega, by omega⟩) (fun r_1 V_2 R_3 qV_2 => ?_)
      obtain ⟨hF, hBV_2, cV_2, rfl, xsV_2, twV_2⟩ := qV_2
      have fV_2 := chg_t (A := [(31, 98)]) (F := [(30, 7, 8), (30, 12, 13)]) fV cV_2 rfl
      have bCV_2 := bC_c bCV fV_2 rfl
      have xs := xsV_2
      have tw := twV_2
      have XB := hBV_2
      have fX := fV_2
      refine T_pz1 d_X10_stands_29 (fun h29 => ?_) (fun h29 => ?_)
      · skip
        obtain ⟨ρ, c, ch, rw0, sv0⟩ := xs
        obtain ⟨t8, sw⟩ := tw h29
        have sv := sv0
        rw [sw_svC sw] at sv
        have s1 := sv.1 (by omega)
        have s2 := sv.2.1 (by omega)
        have s3 := sv.2.2.1 (by omega)
        have s4 := sv.2.2.2.1 (by omega)
        have s5 := sv.2.2.2.2 (by omega)
        have xs : svX b Ks nk V_2 R_3 := ⟨ρ, c, ch, rw0, sv0⟩
        have h13 := a_13 (ch := ch) hob.1 hob.2.2.2 s3.1.1; have h13c : chN ch (aN b k Ks nk c) ≤ 13 := h13
        have rg := sta_r (b := b) (Ks := Ks) (nk := nk) (k := k) (c := c) (ch := ch) hob s4.2 s5
        have hN4 := s2.1
        have mb : ∀ i, i < aC b k Ks nk c ch → mbr ch (aN b k Ks nk c) i < aN b k Ks nk c := fun i hi => (nth_ok (p := fun x => ch.testBit x) (n := aN b k Ks nk c) (i := i) hi).1
        have s5n := st_neg s5
        refine T_al d_X10_stands_34 rfl ?_
        refine F_gr (b := 30) d_X10_stands_35 rfl hF rfl ?_
        refine F_gr (b := 85) d_X10_stands_38 rfl hF rfl ?_
        refine T_as d_X10_stands_41 (ls' := [(0, vr 0), (1, vi k), (2, vi y), (3, vi w), (4, vr 85)]) rfl ?_
        refine T_al d_X10_stands_43 rfl ?_
        refine F_gi d_X10_stands_45 rfl hBV_2 rfl (fun b_4 => ?_)
        refine T_zne d_X10_stands_48 ⟨by omega, by omega⟩ (fun h48 => ?_) (fun h48 => ?_)
        · skip
          refine T_il d_X10_stands_53 rfl ?_
          refine T_zne d_X10_stands_54 ⟨by omega, by omega⟩ (fun h54 => ?_) (fun h54 => ?_)
          · skip
            refine T_al d_X10_stands_66 rfl ?_
            refine T_il d_X10_stands_68 rfl ?_
            refine C_pv1 d_X10_stands_69 rfl (hdF (by omega)) (hcF _) (R_X6_mostIn (rl := (rlB (aMt b k Ks nk c ch) (aLt b k Ks nk c ch))) (ea := V_2 97) (na := fun i => - V_2 98 i) (lf := lfM Ks (aL b k Ks nk c) ch (aN b k Ks nk c)) (r := fun i => ρ (mbr ch (aN b k Ks nk c) i)) (n := aC b k Ks nk c ch) hBV_2 hF h13 s4.1.1 (fun i hi => ⟨s4.1.2.2.2.2.2.2 i hi, (rw0.1 _ (by have := mb i hi; omega)).2, ho_11 (s2.2.2.1 _ (mb i hi)).1⟩) (fun i hi => ⟨rfl, by show _ = - - _; omega⟩) (fun i hi => ⟨⟨(rg h48 h13).2 i hi |>.1.1, (rg h48 h13).2 i hi |>.1.2⟩, by have z := (rg h48 h13).2 i hi; show -2000 ≤ - _ ∧ - _ ≤ 6500; omega, a_lf hob.2.2.2 i hi⟩) ⟨by omega, by omega⟩ s4.1.2.2.2.2.2.1 (rl_cm mtM_cm)) ?_
            have ml := mxW_b (g := gM (rlB (aMt b k Ks nk c ch) (aLt b k Ks nk c ch)) (aC b k Ks nk c ch)) (M := aC b k Ks nk c ch) (a := bitsN (abP (V_2 97) (fun i => - V_2 98 i) (lfM Ks (aL b k Ks nk c) ch (aN b k Ks nk c)) y) (aC b k Ks nk c ch)) (fun s => gM_b) (bitsN (abP (V_2 97) (fun i => - V_2 98 i) (lfM Ks (aL b k Ks nk c) ch (aN b k Ks nk c)) y) (aC b k Ks nk c ch)) 0 (Nat.zero_le _)
            -- leaf 8f.17f.29t.48t.54t@72
            refine T_iret d_X10_stands_72 rfl ?_
            exact ⟨hF, hBV_2, fV_2, xs, _, rfl, ⟨by omega, by omega⟩, gd_y ⟨h8, h17, h29⟩ ⟨c, ch, _, _, _, _, _, _, _, S3_sel s1 s3, s4.2, s5n, by rw [if_neg h48, if_neg h54]⟩⟩
          · skip
            refine T_al d_X10_stands_57 rfl ?_
            refine T_il d_X10_stands_59 rfl ?_
            refine C_pv1 d_X10_stands_60 rfl (hdF (by omega)) (hcF _) (R_X6_sureIn (rl := (rlB (aMt b k Ks nk c ch) (aLt b k Ks nk c ch))) (ea := V_2 97) (na := fun i => - V_2 98 i) (lf := lfM Ks (aL b k Ks nk c) ch (aN b k Ks nk c)) (r := fun i => ρ (mbr ch (aN b k Ks nk c) i)) (n := aC b k Ks nk c ch) hBV_2 hF h13 s4.1.1 (fun i hi => ⟨s4.1.2.2.2.2.2.2 i hi, (rw0.1 _ (by have := mb i hi; omega)).2, ho_11 (s2.2.2.1 _ (mb i hi)).1⟩) (fun i hi => ⟨rfl, by show _ = - - _; omega⟩) (fun i hi => ⟨⟨(rg h48 h13).2 i hi |>.1.1, (rg h48 h13).2 i hi |>.1.2⟩, by have z := (rg h48 h13).2 i hi; show -2000 ≤ - _ ∧ - _ ≤ 6500; omega, a_lf hob.2.2.2 i hi⟩) ⟨by omega, by omega⟩) ?_
            have sl := cntB_le (p := suP (V_2 97) (fun i => - V_2 98 i) (lfM Ks (aL b k Ks nk c) ch (aN b k Ks nk c)) y) (n := aC b k Ks nk c ch)
            refine T_go d_X10_stands_63 ?_
            -- leaf 8f.17f.29t.48t.54f@72
            refine T_iret d_X10_stands_72 rfl ?_
            exact ⟨hF, hBV_2, fV_2, xs, _, rfl, ⟨by omega, by omega⟩, gd_y ⟨h8, h17, h29⟩ ⟨c, ch, _, _, _, _, _, _, _, S3_sel s1 s3, s4.2, s5n, by rw [if_neg h48, if_pos h54]⟩⟩
        · skip
          refine T_k d_X10_stands_51 ?_
          -- leaf 8f.17f.29t.48f@52
          refine T_iret d_X10_stands_52 rfl ?_
          exact ⟨hF, hBV_2, fV_2, xs, _, rfl, ⟨by omega, by omega⟩, gd_y ⟨h8, h17, h29⟩ ⟨c, ch, _, _, _, _, _, _, _, S3_sel s1 s3, s4.2, s5n, (if_pos h48).symm⟩⟩
      · skip
        refine T_k d_X10_stands_32 ?_
        -- leaf 8f.17f.29f@33
        refine T_iret d_X10_stands_33 rfl ?_
        exact ⟨hF, hBV_2, fV_2, xs, _, rfl, ⟨by omega, by omega⟩, gd_n (fun z => h29 z.2.2)⟩
set_option maxHeartbeats 1000000 in
set_option maxRecDepth 100000 in
theorem R_X10_fences {G : GG} {V : VV} {R : RR} {k : Int} {b : Bk} {Ks : Nat → Kd} {nk : Nat} (hB : Bd V) (hF : FinR R) (bCV : bC b V) (hob : okB b Ks nk) (hic : icB b Ks nk V) (hs : svX b Ks nk V R) (h_k : r32 k) : Runs G M_X10_fences 42 162 162 [vr 0, vi k] V R (obsQ b Ks nk V (gd (K4 k) (-1) (o2 b Ks nk k (fun c ch => ((fnS (spS b k c) (lz0 (aL b k Ks nk c) ch (aN b k Ks nk c)) 40).1 : Int))))) := by
  refine Runs.of pn_X10 (Nat.le_of_ble_eq_true rfl) rfl ?_
  show TT G M_X10_fences (rmd 42 162 162) 162 (Zm G 162 162 (obsQ b Ks nk V (gd (K4 k) (-1) (o2 b Ks nk k (fun c ch => ((fnS (spS b k c) (lz0 (aL b k Ks nk c) ch (aN b k Ks nk c)) 40).1 : Int)))))) 162 0 [(0, vr 0), (1, vi k)] [] V R
  obtain ⟨h_k1, h_k2⟩ := h_k
  have fV : chg [(31, 98)] [(30, 7, 8), (30, 12, 13)] V V := chg_r
  refine T_al d_X10_fences_0 rfl ?_
  refine F_gr (b := 30) d_X10_fences_1 rfl hF rfl ?_
  refine T_il d_X10_fences_4 rfl ?_
  refine T_k d_X10_fences_5 ?_
  refine C_v2 d_X10_fences_6 rfl (hdF (by omega)) (hcF _) (R_X9_reachA (b := b) (Ks := Ks) (nk := nk) (k := k) (t := 3) hB hF bCV hob hic hs ⟨by omega, by omega⟩ ⟨by omega, by omega⟩) (fun r_1 V_2 R_3 qV_2 => ?_)
  obtain ⟨hF, hBV_2, cV_2, rfl, xsV_2, twV_2⟩ := qV_2
  have fV_2 := chg_t (A := [(31, 98)]) (F := [(30, 7, 8), (30, 12, 13)]) fV cV_2 rfl
  have bCV_2 := bC_c bCV fV_2 rfl
  have xs := xsV_2
  have tw := twV_2
  have XB := hBV_2
  have fX := fV_2
  refine T_pz1 d_X10_fences_9 (fun h9 => ?_) (fun h9 => ?_)
  · skip
    obtain ⟨ρ, c, ch, rw0, sv0⟩ := xs
    obtain ⟨t8, sw⟩ := tw h9
    have sv := sv0
    rw [sw_svC sw] at sv
    have s1 := sv.1 (by omega)
    have s2 := sv.2.1 (by omega)
    have s3 := sv.2.2.1 (by omega)
    have xs : svX b Ks nk V_2 R_3 := ⟨ρ, c, ch, rw0, sv0⟩
    have t1 := sv0.1 (by omega)
    have t3 := sv0.2.2.1 (by omega)
    refine T_al d_X10_fences_14 rfl ?_
    refine F_gr (b := 30) d_X10_fences_15 rfl hF rfl ?_
    refine C_v0 d_X10_fences_18 rfl (hdF (by omega)) (hcF _) (R_X9_setFences (S := spS b (V_2 30 7) c) (L0 := lz0 (aL b (V_2 30 7) Ks nk c) ch (aN b (V_2 30 7) Ks nk c)) hBV_2 hF (spS_O hob.1) t1.2.2.1.1 (h58_lz hob.1 t3.2.2.2.1) t3.2.2.2.2) (fun r_4 V_5 R_6 qV_5 => ?_)
    obtain ⟨rfl, hBV_5, cV_5, rfl, pV_5⟩ := qV_5
    have fV_5 := chg_t (A := [(31, 98)]) (F := [(30, 7, 8), (30, 12, 13)]) fV_2 cV_5 rfl
    have bCV_5 := bC_c bCV fV_5 rfl
    have xs2 : svX b Ks nk V_5 R_3 := (svX_x (cV_5 30 7 rfl rfl) (cV_5 30 8 rfl rfl) rw0 (svC_f sv0 rw0 (chg_s cV_5 rfl) pV_5.2))
    have pf := pV_5.2.1
    unfold aL aN at pf
    rw [sw_spS sw, sw_allK sw] at pf
    refine T_al d_X10_fences_21 rfl ?_
    refine F_gr (b := 30) d_X10_fences_22 rfl hF rfl ?_
    refine F_gi d_X10_fences_25 rfl hBV_5 rfl (fun b_7 => ?_)
    -- leaf 9t@28
    refine T_iret d_X10_fences_28 rfl ?_
    exact ⟨hF, hBV_5, fV_5, xs2, _, rfl, ⟨by omega, by omega⟩, gd_y h9 ⟨c, ch, S3_sel s1 s3, pf⟩⟩
  · skip
    refine T_k d_X10_fences_12 ?_
    -- leaf 9f@13
    refine T_iret d_X10_fences_13 rfl ?_
    exact ⟨hF, hBV_2, fV_2, xs, _, rfl, ⟨by omega, by omega⟩, gd_n (fun z => h9 z)⟩
set_option maxHeartbeats 1000000 in
set_option maxRecDepth 100000 in
theorem R_X10_led {G : GG} {V : VV} {R : RR} {h : Int} {k : Int} {w : Int} {b : Bk} {Ks : Nat → Kd} {nk : Nat} (hB : Bd V) (hF : FinR R) (bCV : bC b V) (hob : okB b Ks nk) (hic : icB b Ks nk V) (hs : svX b Ks nk V R) (h_h : r32 h) (h_k : r32 k) (h_w : r32 w) : Runs G M_X10_led 42 162 162 [vr 0, vi h, vi k, vi w] V R (obsQ b Ks nk V (gd ((0 ≤ h ∧ h < (b.n : Int)) ∧ (0 ≤ w ∧ w ≤ 1) ∧ K4 k) (-1) (o2 b Ks nk k (leW b Ks nk k h.toNat w)))) := by
  refine Runs.of pn_X10 (Nat.le_of_ble_eq_true rfl) rfl ?_
  show TT G M_X10_led (rmd 42 162 162) 162 (Zm G 162 162 (obsQ b Ks nk V (gd ((0 ≤ h ∧ h < (b.n : Int)) ∧ (0 ≤ w ∧ w ≤ 1) ∧ K4 k) (-1) (o2 b Ks nk k (leW b Ks nk k h.toNat w))))) 162 0 [(0, vr 0), (1, vi h), (2, vi k), (3, vi w)] [] V R
  obtain ⟨h_h1, h_h2⟩ := h_h
  obtain ⟨h_k1, h_k2⟩ := h_k
  obtain ⟨h_w1, h_w2⟩ := h_w
  have fV : chg [(31, 98)] [(30, 7, 8), (30, 12, 13)] V V := chg_r
  have hn := bCV.n
  have hn4 := hob.1.n
  refine T_al d_X10_led_0 rfl ?_
  refine F_gr (b := 1) d_X10_led_1 rfl hF rfl ?_
  refine T_il d_X10_led_4 rfl ?_
  refine C_pv1 d_X10_led_5 rfl (hdF (by omega)) (hcF _) (R_X0_hasHole hB hF ⟨by omega, by omega⟩) ?_
  refine T_pz0 d_X10_led_8 (fun h8 => ?_) (fun h8 => ?_)
  · skip
    refine T_k d_X10_led_32 ?_
    -- leaf 8t@33
    refine T_iret d_X10_led_33 rfl ?_
    exact ⟨hF, hB, fV, hs, _, rfl, ⟨by omega, by omega⟩, gd_n (fun z => h8 ⟨z.1.1, by have := z.1.2; omega⟩)⟩
  · skip
    refine T_il d_X10_led_11 rfl ?_
    refine T_k d_X10_led_12 ?_
    refine T_k d_X10_led_13 ?_
    refine C_ps3 d_X10_led_14 (hdF (by omega)) (hcF _) (R_X10_isIn ⟨by omega, by omega⟩ ⟨by omega, by omega⟩ ⟨by omega, by omega⟩) ?_
    refine T_pz0 d_X10_led_17 (fun h17 => ?_) (fun h17 => ?_)
    · skip
      refine T_k d_X10_led_32 ?_
      -- leaf 8f.17t@33
      refine T_iret d_X10_led_33 rfl ?_
      exact ⟨hF, hB, fV, hs, _, rfl, ⟨by omega, by omega⟩, gd_n (fun z => h17 z.2.1)⟩
    · skip
      refine T_al d_X10_led_20 rfl ?_
      refine F_gr (b := 30) d_X10_led_21 rfl hF rfl ?_
      refine T_il d_X10_led_24 rfl ?_
      refine T_k d_X10_led_25 ?_
      refine C_v2 d_X10_led_26 rfl (hdF (by omega)) (hcF _) (R_X9_reachA (b := b) (Ks := Ks) (nk := nk) (k := k) (t := 3) hB hF bCV hob hic hs ⟨by omega, by omega⟩ ⟨by omega, by omega⟩) (fun r_1 V_2 R_3 qV_2 => ?_)
      obtain ⟨hF, hBV_2, cV_2, rfl, xsV_2, twV_2⟩ := qV_2
      have fV_2 := chg_t (A := [(31, 98)]) (F := [(30, 7, 8), (30, 12, 13)]) fV cV_2 rfl
      have bCV_2 := bC_c bCV fV_2 rfl
      have xs := xsV_2
      have tw := twV_2
      have XB := hBV_2
      have fX := fV_2
      refine T_pz1 d_X10_led_29 (fun h29 => ?_) (fun h29 => ?_)
      · skip
        obtain ⟨ρ, c, ch, rw0, sv0⟩ := xs
        obtain ⟨t8, sw⟩ := tw h29
        have sv := sv0
        rw [sw_svC sw] at sv
        have s1 := sv.1 (by omega)
        have s2 := sv.2.1 (by omega)
        have s3 := sv.2.2.1 (by omega)
        have xs : svX b Ks nk V_2 R_3 := ⟨ρ, c, ch, rw0, sv0⟩
        have t1 := sv0.1 (by omega)
        have t3 := sv0.2.2.1 (by omega)
        have hb0 : 0 ≤ h ∧ h < (b.n : Int) := ⟨h8.1, by have := h8.2; omega⟩
        have hb : h.toNat < b.n := by omega
        have sn := s1.2.1.2.2.1 h.toNat hb
        have ow := s1.2.1.2.2.2.2.1 h.toNat hb
        have b39 := XB.1 39 (-1) 39 rfl h.toNat
        have so := so_ow (k := k) (c := c) hb
        have m58 := fun z => mem_58 s3.2.2.2.1 hb hn4 z
        refine T_al d_X10_led_34 rfl ?_
        refine F_gr (b := 30) d_X10_led_35 rfl hF rfl ?_
        refine C_v0 d_X10_led_38 rfl (hdF (by omega)) (hcF _) (R_X9_setFences (S := spS b (V_2 30 7) c) (L0 := lz0 (aL b (V_2 30 7) Ks nk c) ch (aN b (V_2 30 7) Ks nk c)) hBV_2 hF (spS_O hob.1) t1.2.2.1.1 (h58_lz hob.1 t3.2.2.2.1) t3.2.2.2.2) (fun r_4 V_5 R_6 qV_5 => ?_)
        obtain ⟨rfl, hBV_5, cV_5, rfl, pV_5⟩ := qV_5
        have fV_5 := chg_t (A := [(31, 98)]) (F := [(30, 7, 8), (30, 12, 13)]) fV_2 cV_5 rfl
        have bCV_5 := bC_c bCV fV_5 rfl
        have xs2 : svX b Ks nk V_5 R_3 := (svX_x (cV_5 30 7 rfl rfl) (cV_5 30 8 rfl rfl) rw0 (svC_f sv0 rw0 (chg_s cV_5 rfl) pV_5.2))
        have pf := pV_5.2.2
        unfold aL aN at pf
        rw [sw_spS sw, sw_allK sw] at pf
        have k39 := chg_k (c := 39) cV_5 rfl
        have k35 := chg_k (c := 35) cV_5 rfl
        have k58 := chg_k (c := 58) cV_5 rfl
        have spm := spS_m (b := b) (k := k) (c := c)
        refine T_al d_X10_led_41 rfl ?_
        refine F_gr (b := 30) d_X10_led_42 rfl hF rfl ?_
        refine F_gr (b := 34) d_X10_led_45 rfl hF rfl ?_
        refine F_gr (b := 39) d_X10_led_48 rfl hF rfl ?_
        refine T_il d_X10_led_51 rfl ?_
        refine F_ia d_X10_led_52 rfl hBV_5 rfl ⟨by omega, by omega⟩ (fun b_7 => ?_)
        try simp only [Int.toNat_natCast]
        try simp only [Int.toNat_natCast] at b_7
        refine F_isg d_X10_led_53 (f := fun x_8 => [(0, vr 0), (1, vi h), (2, vi k), (3, vi w), (4, vi x_8)]) (fun _ => rfl) (fun x_8 ex_8 => ?_)
        have e5 : x_8 = owO b k c h.toNat := by rw [ex_8, k39]; exact ow
        have b5 : -1 ≤ x_8 ∧ x_8 ≤ 39 := by rw [e5, ← ow]; exact b39
        have e35 : V_5 35 h.toNat = (if thr b k h.toNat then 1 else 0) := by rw [k35]; exact sn
        refine T_il d_X10_led_55 rfl ?_
        refine T_k d_X10_led_57 ?_
        refine T_k d_X10_led_58 ?_
        refine C_ps3 d_X10_led_60 (hdF (by omega)) (hcF _) (R_X10_isIn ⟨by omega, by omega⟩ ⟨by omega, by omega⟩ ⟨by omega, by omega⟩) ?_
        refine T_pz1 d_X10_led_63 (fun h63 => ?_) (fun h63 => ?_)
        · skip
          have ow0 : owO b k c h.toNat ≠ -1 := by have := h63.1; omega
          have sx := so.2 ow0
          have so1 : soO b k c h.toNat ≠ -1 := by omega
          have fx := pf (soO b k c h.toNat).toNat (by rw [spm]; exact sx.2.1)
          rw [show ((spS b k c).h (soO b k c h.toNat).toNat) = owO b k c h.toNat from sx.2.2.1] at fx
          refine T_al d_X10_led_99 rfl ?_
          refine F_gr (b := 30) d_X10_led_100 rfl hF rfl ?_
          refine F_gr (b := 56) d_X10_led_103 rfl hF rfl ?_
          refine F_gr (b := 58) d_X10_led_106 rfl hF rfl ?_
          refine T_il d_X10_led_109 rfl ?_
          refine F_ia d_X10_led_111 rfl hBV_5 rfl ⟨by omega, by omega⟩ (fun b_9 => ?_)
          try simp only [Int.toNat_natCast]
          try simp only [Int.toNat_natCast] at b_9
          refine F_isg d_X10_led_112 (f := fun x_10 => [(0, vr 0), (1, vi h), (2, vi k), (3, vi w), (4, vi x_8), (5, vi x_10)]) (fun _ => rfl) (fun x_10 ex_10 => ?_)
          have e6 : x_10 = memH b k c (aL b k Ks nk c) ch (aN b k Ks nk c) h.toNat := by rw [ex_10, e5, k58]; exact m58 ow0
          have b6 : -1 ≤ x_10 ∧ x_10 ≤ 23 := by rw [ex_10]; exact hBV_5.1 58 (-1) 23 rfl _
          refine T_il d_X10_led_114 rfl ?_
          refine T_k d_X10_led_116 ?_
          refine T_ieq d_X10_led_117 ⟨by omega, by omega⟩ ⟨by omega, by omega⟩ (fun h117 => ?_) (fun h117 => ?_)
          · skip
            refine T_al d_X10_led_131 rfl ?_
            refine F_gr (b := 30) d_X10_led_132 rfl hF rfl ?_
            refine F_gr (b := 33) d_X10_led_135 rfl hF rfl ?_
            refine T_il d_X10_led_138 rfl ?_
            refine F_ia d_X10_led_140 rfl hBV_5 rfl ⟨by omega, by omega⟩ (fun b_11 => ?_)
            try simp only [Int.toNat_natCast]
            try simp only [Int.toNat_natCast] at b_11
            refine F_isg d_X10_led_141 (f := fun x_12 => [(0, vr 0), (1, vi h), (2, vi k), (3, vi w), (4, vi x_8), (5, vi x_10), (6, vi x_12)]) (fun _ => rfl) (fun x_12 ex_12 => ?_)
            have e7 : x_12 = (fnS (spS b k c) (lz0 (aL b k Ks nk c) ch (aN b k Ks nk c)) 40).2 (soO b k c h.toNat).toNat := by rw [ex_12, e5]; exact fx
            have b7 : -1 ≤ x_12 ∧ x_12 ≤ 40 := by rw [ex_12]; exact hBV_5.1 33 (-1) 40 rfl _
            refine T_il d_X10_led_143 rfl ?_
            refine T_k d_X10_led_144 ?_
            refine T_ine d_X10_led_145 ⟨by omega, by omega⟩ ⟨by omega, by omega⟩ (fun h145 => ?_) (fun h145 => ?_)
            · skip
              refine T_il d_X10_led_151 rfl ?_
              refine T_k d_X10_led_153 ?_
              refine T_ieq d_X10_led_154 ⟨by omega, by omega⟩ ⟨by omega, by omega⟩ (fun h154 => ?_) (fun h154 => ?_)
              · skip
                refine T_k d_X10_led_161 ?_
                -- leaf 8f.17f.29t.63t.117t.145t.154t@162
                refine T_iret d_X10_led_162 rfl ?_
                exact ⟨hF, hBV_5, fV_5, xs2, _, rfl, ⟨by omega, by omega⟩, gd_y ⟨hb0, h17, h29⟩ ⟨c, ch, S3_sel s1 s3, by unfold leW; rw [if_neg so1, if_neg (by omega), if_neg (by omega), if_pos (show w = 0 by omega)]⟩⟩
              · skip
                refine T_k d_X10_led_157 ?_
                refine T_go d_X10_led_158 ?_
                -- leaf 8f.17f.29t.63t.117t.145t.154f@162
                refine T_iret d_X10_led_162 rfl ?_
                exact ⟨hF, hBV_5, fV_5, xs2, _, rfl, ⟨by omega, by omega⟩, gd_y ⟨hb0, h17, h29⟩ ⟨c, ch, S3_sel s1 s3, by unfold leW; rw [if_neg so1, if_neg (by omega), if_pos (by omega), if_pos (show w = 0 by omega)]⟩⟩
            · skip
              refine T_il d_X10_led_148 rfl ?_
              -- leaf 8f.17f.29t.63t.117t.145f@150
              refine T_iret d_X10_led_150 rfl ?_
              exact ⟨hF, hBV_5, fV_5, xs2, _, rfl, ⟨by omega, by omega⟩, gd_y ⟨hb0, h17, h29⟩ ⟨c, ch, S3_sel s1 s3, by unfold leW; rw [if_neg so1, if_neg (by omega), if_neg (show ¬ w = 0 by omega), if_neg (show ¬ w = 0 by omega)]; split <;> omega⟩⟩
          · skip
            refine T_il d_X10_led_120 rfl ?_
            refine T_zne d_X10_led_121 ⟨by omega, by omega⟩ (fun h121 => ?_) (fun h121 => ?_)
            · skip
              refine T_il d_X10_led_128 rfl ?_
              -- leaf 8f.17f.29t.63t.117f.121t@130
              refine T_iret d_X10_led_130 rfl ?_
              exact ⟨hF, hBV_5, fV_5, xs2, _, rfl, ⟨by omega, by omega⟩, gd_y ⟨hb0, h17, h29⟩ ⟨c, ch, S3_sel s1 s3, by unfold leW; rw [if_neg so1, if_pos (by omega), if_neg h121]; exact e6⟩⟩
            · skip
              refine T_k d_X10_led_124 ?_
              refine T_go d_X10_led_125 ?_
              -- leaf 8f.17f.29t.63t.117f.121f@130
              refine T_iret d_X10_led_130 rfl ?_
              exact ⟨hF, hBV_5, fV_5, xs2, _, rfl, ⟨by omega, by omega⟩, gd_y ⟨hb0, h17, h29⟩ ⟨c, ch, S3_sel s1 s3, by unfold leW; rw [if_neg so1, if_pos (by omega), if_pos h121]⟩⟩
        · skip
          refine T_al d_X10_led_66 rfl ?_
          refine F_gr (b := 30) d_X10_led_67 rfl hF rfl ?_
          refine F_gr (b := 34) d_X10_led_70 rfl hF rfl ?_
          refine F_gr (b := 35) d_X10_led_73 rfl hF rfl ?_
          refine T_il d_X10_led_76 rfl ?_
          refine F_za d_X10_led_77 rfl hBV_5 rfl ⟨by omega, by omega⟩ (fun b_13 => ?_)
          try simp only [Int.toNat_natCast]
          try simp only [Int.toNat_natCast] at b_13
          refine T_zeq d_X10_led_78 ⟨by omega, by omega⟩ (fun h78 => ?_) (fun h78 => ?_)
          · skip
            refine T_k d_X10_led_85 ?_
            refine T_is d_X10_led_86 (ls' := [(0, vr 0), (1, vi h), (2, vi k), (3, vi w), (4, vi x_8), (5, vi 0)]) rfl ?_
            refine T_il d_X10_led_88 rfl ?_
            refine T_zne d_X10_led_89 ⟨by omega, by omega⟩ (fun h89 => ?_) (fun h89 => ?_)
            · skip
              refine T_k d_X10_led_97 ?_
              -- leaf 8f.17f.29t.63f.78t.89t@98
              refine T_iret d_X10_led_98 rfl ?_
              exact ⟨hF, hBV_5, fV_5, xs2, _, rfl, ⟨by omega, by omega⟩, gd_y ⟨hb0, h17, h29⟩ ⟨c, ch, S3_sel s1 s3, by unfold leW; rw [if_pos (so.1.mpr (by omega)), if_pos (show w = 1 by omega)]⟩⟩
            · skip
              refine T_il d_X10_led_92 rfl ?_
              refine T_go d_X10_led_94 ?_
              -- leaf 8f.17f.29t.63f.78t.89f@98
              refine T_iret d_X10_led_98 rfl ?_
              exact ⟨hF, hBV_5, fV_5, xs2, _, rfl, ⟨by omega, by omega⟩, gd_y ⟨hb0, h17, h29⟩ ⟨c, ch, S3_sel s1 s3, by unfold leW; rw [if_pos (so.1.mpr (by omega)), if_neg (by omega), if_neg (fun z => by rw [e35, if_pos z] at h78; omega)]⟩⟩
          · skip
            refine T_k d_X10_led_81 ?_
            refine T_go d_X10_led_82 ?_
            refine T_is d_X10_led_86 (ls' := [(0, vr 0), (1, vi h), (2, vi k), (3, vi w), (4, vi x_8), (5, vi 1)]) rfl ?_
            refine T_il d_X10_led_88 rfl ?_
            refine T_zne d_X10_led_89 ⟨by omega, by omega⟩ (fun h89 => ?_) (fun h89 => ?_)
            · skip
              refine T_k d_X10_led_97 ?_
              -- leaf 8f.17f.29t.63f.78f.89t@98
              refine T_iret d_X10_led_98 rfl ?_
              exact ⟨hF, hBV_5, fV_5, xs2, _, rfl, ⟨by omega, by omega⟩, gd_y ⟨hb0, h17, h29⟩ ⟨c, ch, S3_sel s1 s3, by unfold leW; rw [if_pos (so.1.mpr (by omega)), if_pos (show w = 1 by omega)]⟩⟩
            · skip
              refine T_il d_X10_led_92 rfl ?_
              refine T_go d_X10_led_94 ?_
              -- leaf 8f.17f.29t.63f.78f.89f@98
              refine T_iret d_X10_led_98 rfl ?_
              exact ⟨hF, hBV_5, fV_5, xs2, _, rfl, ⟨by omega, by omega⟩, gd_y ⟨hb0, h17, h29⟩ ⟨c, ch, S3_sel s1 s3, by unfold leW; rw [if_pos (so.1.mpr (by omega)), if_neg (by omega), if_pos (Classical.byContradiction fun z => h78 (by rw [e35, if_neg z]))]⟩⟩
      · skip
        refine T_k d_X10_led_32 ?_
        -- leaf 8f.17f.29f@33
        refine T_iret d_X10_led_33 rfl ?_
        exact ⟨hF, hBV_2, fV_2, xs, _, rfl, ⟨by omega, by omega⟩, gd_n (fun z => h29 z.2.2)⟩
