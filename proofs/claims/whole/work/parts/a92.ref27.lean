set_option maxHeartbeats 1000000 in
set_option maxRecDepth 100000 in
theorem R_X11_frame {G : GG} {V : VV} {R : RR} {k : Int} {w : Int} {b : Bk} {Ks : Nat → Kd} {nk : Nat} (hB : Bd V) (hF : FinR R) (bMV : bM b V) (hob : okB b Ks nk) (him : imB Ks nk V) (hld : ldM b Ks nk V) (h_k : r32 k) (h_w : r32 w) : Runs G M_X11_frame 44 162 162 [vr 99, vi k, vi w] V R (obsM b Ks nk V R (gd (K4 k ∧ 0 ≤ w ∧ w ≤ 3) (-1000) (o1 b k (frW b k w)))) := by
  refine Runs.of pn_X11 (Nat.le_of_ble_eq_true rfl) rfl ?_
  show TT G M_X11_frame (rmd 44 162 162) 162 (Zm G 162 162 (obsM b Ks nk V R (gd (K4 k ∧ 0 ≤ w ∧ w ≤ 3) (-1000) (o1 b k (frW b k w))))) 162 0 [(0, vr 99), (1, vi k), (2, vi w)] [] V R
  obtain ⟨h_k1, h_k2⟩ := h_k
  obtain ⟨h_w1, h_w2⟩ := h_w
  have fV : chg [(128, 161)] [(99, 1, 1), (99, 45, 49), (99, 57, 57), (99, 72, 87), (99, 97, 97)] V V := chg_r
  refine T_il d_X11_frame_0 rfl ?_
  refine C_ps1 d_X11_frame_1 (hdF (by omega)) (hcF _) (R_X11_isWeek ⟨by omega, by omega⟩) ?_
  refine T_pz0 d_X11_frame_4 (fun h4 => ?_) (fun h4 => ?_)
  · skip
    refine T_k d_X11_frame_16 ?_
    -- leaf 4t@19
    refine T_iret d_X11_frame_19 rfl ?_
    exact ⟨rfl, hB, fV, hld, _, rfl, ⟨by omega, by omega⟩, gd_n (fun z => h4 z.1)⟩
  · skip
    refine T_il d_X11_frame_7 rfl ?_
    refine T_k d_X11_frame_8 ?_
    refine T_k d_X11_frame_9 ?_
    refine C_ps3 d_X11_frame_10 (hdF (by omega)) (hcF _) (R_X11_in ⟨by omega, by omega⟩ ⟨by omega, by omega⟩ ⟨by omega, by omega⟩) ?_
    refine T_pz1 d_X11_frame_13 (fun h13 => ?_) (fun h13 => ?_)
    · skip
      refine T_al d_X11_frame_20 rfl ?_
      refine T_il d_X11_frame_21 rfl ?_
      refine C_v1 d_X11_frame_22 rfl (hdF (by omega)) (hcF _) (R_X11_lays (b := b) (Ks := Ks) (nk := nk) (k := k) hB hF bMV hob him h4 (ld_h hld h4.1)) (fun r_1 V_2 R_3 qV_2 => ?_)
      obtain ⟨rfl, hBV_2, cV_2, rfl, pV_2⟩ := qV_2
      have fV_2 := chg_t (A := [(128, 161)]) (F := [(99, 1, 1), (99, 45, 49), (99, 57, 57), (99, 72, 87), (99, 97, 97)]) fV cV_2 rfl
      have bMV_2 := bM_c bMV fV_2 rfl
      have lk := pV_2
      have ld := ld_n h4 lk.1 lk.2
      obtain ⟨_, c, ch, l1, l2, l3, l4, l5, l6, l7, l8, l9, l10, l11⟩ := lk
      have sl : sel b Ks nk k c ch := ⟨l1, l4⟩
      have lv := lstV_of l3
      have XB := hBV_2
      have fX := fV_2
      have fc := l2.1
      refine T_il d_X11_frame_25 rfl ?_
      refine T_zne d_X11_frame_26 ⟨by omega, by omega⟩ (fun h26 => ?_) (fun h26 => ?_)
      · skip
        refine T_il d_X11_frame_36 rfl ?_
        refine T_k d_X11_frame_37 ?_
        refine T_ine d_X11_frame_38 ⟨by omega, by omega⟩ ⟨by omega, by omega⟩ (fun h38 => ?_) (fun h38 => ?_)
        · skip
          refine T_il d_X11_frame_48 rfl ?_
          refine T_k d_X11_frame_49 ?_
          refine T_ine d_X11_frame_50 ⟨by omega, by omega⟩ ⟨by omega, by omega⟩ (fun h50 => ?_) (fun h50 => ?_)
          · skip
            refine T_al d_X11_frame_60 rfl ?_
            refine F_gi d_X11_frame_61 rfl hBV_2 rfl (fun b_4 => ?_)
            -- leaf 4f.13t.26t.38t.50t@64
            refine T_iret d_X11_frame_64 rfl ?_
            exact ⟨rfl, hBV_2, fV_2, ld, _, rfl, ⟨by omega, by omega⟩, gd_y ⟨h4, h13⟩ ⟨c, l1, by rw [show w = 3 by omega]; exact fc.2.2.2⟩⟩
          · skip
            refine T_al d_X11_frame_53 rfl ?_
            refine F_gi d_X11_frame_54 rfl hBV_2 rfl (fun b_5 => ?_)
            refine T_go d_X11_frame_57 ?_
            -- leaf 4f.13t.26t.38t.50f@64
            refine T_iret d_X11_frame_64 rfl ?_
            exact ⟨rfl, hBV_2, fV_2, ld, _, rfl, ⟨by omega, by omega⟩, gd_y ⟨h4, h13⟩ ⟨c, l1, by rw [h50]; exact fc.2.2.1⟩⟩
        · skip
          refine T_al d_X11_frame_41 rfl ?_
          refine F_gi d_X11_frame_42 rfl hBV_2 rfl (fun b_6 => ?_)
          refine T_go d_X11_frame_45 ?_
          -- leaf 4f.13t.26t.38f@64
          refine T_iret d_X11_frame_64 rfl ?_
          exact ⟨rfl, hBV_2, fV_2, ld, _, rfl, ⟨by omega, by omega⟩, gd_y ⟨h4, h13⟩ ⟨c, l1, by rw [h38]; exact fc.2.1⟩⟩
      · skip
        refine T_al d_X11_frame_29 rfl ?_
        refine F_gi d_X11_frame_30 rfl hBV_2 rfl (fun b_7 => ?_)
        refine T_go d_X11_frame_33 ?_
        -- leaf 4f.13t.26f@64
        refine T_iret d_X11_frame_64 rfl ?_
        exact ⟨rfl, hBV_2, fV_2, ld, _, rfl, ⟨by omega, by omega⟩, gd_y ⟨h4, h13⟩ ⟨c, l1, by rw [h26]; exact fc.1⟩⟩
    · skip
      refine T_k d_X11_frame_16 ?_
      -- leaf 4f.13f@19
      refine T_iret d_X11_frame_19 rfl ?_
      exact ⟨rfl, hB, fV, hld, _, rfl, ⟨by omega, by omega⟩, gd_n (fun z => h13 z.2)⟩
set_option maxHeartbeats 1000000 in
set_option maxRecDepth 100000 in
theorem R_X11_spot {G : GG} {V : VV} {R : RR} {h : Int} {k : Int} {w : Int} {b : Bk} {Ks : Nat → Kd} {nk : Nat} (hB : Bd V) (hF : FinR R) (bMV : bM b V) (hob : okB b Ks nk) (him : imB Ks nk V) (hld : ldM b Ks nk V) (h_h : r32 h) (h_k : r32 k) (h_w : r32 w) : Runs G M_X11_spot 44 162 162 [vr 99, vi h, vi k, vi w] V R (obsM b Ks nk V R (gd ((0 ≤ h ∧ h < (b.n : Int)) ∧ K4 k ∧ 0 ≤ w ∧ w ≤ 4) (-1000) (o1 b k (spW b k h.toNat w)))) := by
  refine Runs.of pn_X11 (Nat.le_of_ble_eq_true rfl) rfl ?_
  show TT G M_X11_spot (rmd 44 162 162) 162 (Zm G 162 162 (obsM b Ks nk V R (gd ((0 ≤ h ∧ h < (b.n : Int)) ∧ K4 k ∧ 0 ≤ w ∧ w ≤ 4) (-1000) (o1 b k (spW b k h.toNat w))))) 162 0 [(0, vr 99), (1, vi h), (2, vi k), (3, vi w)] [] V R
  obtain ⟨h_h1, h_h2⟩ := h_h
  obtain ⟨h_k1, h_k2⟩ := h_k
  obtain ⟨h_w1, h_w2⟩ := h_w
  have fV : chg [(128, 161)] [(99, 1, 1), (99, 45, 49), (99, 57, 57), (99, 72, 87), (99, 97, 97)] V V := chg_r
  have hn := bMV.n
  refine T_al d_X11_spot_0 rfl ?_
  refine T_il d_X11_spot_1 rfl ?_
  refine C_pv1 d_X11_spot_2 rfl (hdF (by omega)) (hcF _) (R_X11_isHole hB ⟨by omega, by omega⟩) ?_
  refine T_pz0 d_X11_spot_5 (fun h5 => ?_) (fun h5 => ?_)
  · skip
    refine T_k d_X11_spot_24 ?_
    -- leaf 5t@27
    refine T_iret d_X11_spot_27 rfl ?_
    exact ⟨rfl, hB, fV, hld, _, rfl, ⟨by omega, by omega⟩, gd_n (fun z => h5 (by rw [hn]; exact z.1))⟩
  · skip
    refine T_il d_X11_spot_8 rfl ?_
    refine C_ps1 d_X11_spot_9 (hdF (by omega)) (hcF _) (R_X11_isWeek ⟨by omega, by omega⟩) ?_
    refine T_pz0 d_X11_spot_12 (fun h12 => ?_) (fun h12 => ?_)
    · skip
      refine T_k d_X11_spot_24 ?_
      -- leaf 5f.12t@27
      refine T_iret d_X11_spot_27 rfl ?_
      exact ⟨rfl, hB, fV, hld, _, rfl, ⟨by omega, by omega⟩, gd_n (fun z => h12 z.2.1)⟩
    · skip
      refine T_il d_X11_spot_15 rfl ?_
      refine T_k d_X11_spot_16 ?_
      refine T_k d_X11_spot_17 ?_
      refine C_ps3 d_X11_spot_18 (hdF (by omega)) (hcF _) (R_X11_in ⟨by omega, by omega⟩ ⟨by omega, by omega⟩ ⟨by omega, by omega⟩) ?_
      refine T_pz1 d_X11_spot_21 (fun h21 => ?_) (fun h21 => ?_)
      · skip
        refine T_al d_X11_spot_28 rfl ?_
        refine T_il d_X11_spot_29 rfl ?_
        refine C_v1 d_X11_spot_30 rfl (hdF (by omega)) (hcF _) (R_X11_lays (b := b) (Ks := Ks) (nk := nk) (k := k) hB hF bMV hob him h12 (ld_h hld h12.1)) (fun r_1 V_2 R_3 qV_2 => ?_)
        obtain ⟨rfl, hBV_2, cV_2, rfl, pV_2⟩ := qV_2
        have fV_2 := chg_t (A := [(128, 161)]) (F := [(99, 1, 1), (99, 45, 49), (99, 57, 57), (99, 72, 87), (99, 97, 97)]) fV cV_2 rfl
        have bMV_2 := bM_c bMV fV_2 rfl
        have lk := pV_2
        have ld := ld_n h12 lk.1 lk.2
        obtain ⟨_, c, ch, l1, l2, l3, l4, l5, l6, l7, l8, l9, l10, l11⟩ := lk
        have sl : sel b Ks nk k c ch := ⟨l1, l4⟩
        have lv := lstV_of l3
        have XB := hBV_2
        have fX := fV_2
        have h5b := h5.2
        rw [hn] at h5b
        have h5a := h5.1
        have bo := hob.1
        have hn4 := bo.n
        have hh : h = ((h.toNat : Nat) : Int) := by omega
        have hb : h.toNat < b.n := by omega
        have so := so_ow (k := k) (c := c) hb
        have f12 := l2.2.2.1 h.toNat hb
        have f130 := l2.2.2.2.1 h.toNat hb
        have b130 := XB.1 130 (-1) 39 rfl h.toNat
        have itz := R_X11_isThere (G := G) (R := R) (b := b) (k := k) hBV_2 hF bMV_2 (h := h.toNat) (by omega) ⟨by omega, by omega⟩
        rw [← hh] at itz
        refine T_il d_X11_spot_33 rfl ?_
        refine T_k d_X11_spot_34 ?_
        refine T_ige d_X11_spot_35 ⟨by omega, by omega⟩ ⟨by omega, by omega⟩ (fun h35 => ?_) (fun h35 => ?_)
        · skip
          refine T_al d_X11_spot_73 rfl ?_
          refine F_gr (b := 130) d_X11_spot_74 rfl hF rfl ?_
          refine T_il d_X11_spot_77 rfl ?_
          refine F_ia d_X11_spot_78 rfl hBV_2 rfl ⟨by omega, by omega⟩ (fun b_4 => ?_)
          try simp only [Int.toNat_natCast]
          try simp only [Int.toNat_natCast] at b_4
          refine F_isg d_X11_spot_79 (f := fun x_5 => [(0, vr 99), (1, vi h), (2, vi k), (3, vi w), (4, vi x_5)]) (fun _ => rfl) (fun x_5 ex_5 => ?_)
          have e4 : x_5 = soO b k c h.toNat := ex_5.trans f130
          have b4 : -1 ≤ x_5 ∧ x_5 ≤ 39 := by rw [ex_5]; exact b130
          refine T_il d_X11_spot_81 rfl ?_
          refine T_k d_X11_spot_82 ?_
          refine T_ine d_X11_spot_83 ⟨by omega, by omega⟩ ⟨by omega, by omega⟩ (fun h83 => ?_) (fun h83 => ?_)
          · skip
            refine T_il d_X11_spot_109 rfl ?_
            refine T_k d_X11_spot_111 ?_
            refine T_ine d_X11_spot_112 ⟨by omega, by omega⟩ ⟨by omega, by omega⟩ (fun h112 => ?_) (fun h112 => ?_)
            · skip
              have sx := so.2 (fun z => h112 (by rw [e4]; exact so.1.mpr z))
              have f131 := l2.2.2.2.2 _ sx.2.1
              have owe : shO b k c (soO b k c h.toNat).toNat = (owO b k c h.toNat).toNat := by omega
              refine T_il d_X11_spot_119 rfl ?_
              refine T_k d_X11_spot_120 ?_
              refine T_ine d_X11_spot_121 ⟨by omega, by omega⟩ ⟨by omega, by omega⟩ (fun h121 => ?_) (fun h121 => ?_)
              · skip
                refine T_al d_X11_spot_134 rfl ?_
                refine F_gr (b := 134) d_X11_spot_135 rfl hF rfl ?_
                refine T_il d_X11_spot_138 rfl ?_
                refine F_ia d_X11_spot_140 rfl hBV_2 rfl ⟨by omega, by omega⟩ (fun b_6 => ?_)
                try simp only [Int.toNat_natCast]
                try simp only [Int.toNat_natCast] at b_6
                -- leaf 5f.12f.21t.35t.83t.112t.121t@141
                refine T_iret d_X11_spot_141 rfl ?_
                exact ⟨rfl, hBV_2, fV_2, ld, _, rfl, ⟨by omega, by omega⟩, gd_y ⟨by omega, h12, h21⟩ ⟨c, l1, by rw [show w = 3 by omega, e4, f131.2.2.2, owe]; exact (if_neg (by omega)).symm⟩⟩
              · skip
                refine T_al d_X11_spot_124 rfl ?_
                refine F_gr (b := 131) d_X11_spot_125 rfl hF rfl ?_
                refine T_il d_X11_spot_128 rfl ?_
                refine F_ia d_X11_spot_130 rfl hBV_2 rfl ⟨by omega, by omega⟩ (fun b_7 => ?_)
                try simp only [Int.toNat_natCast]
                try simp only [Int.toNat_natCast] at b_7
                refine T_go d_X11_spot_131 ?_
                -- leaf 5f.12f.21t.35t.83t.112t.121f@141
                refine T_iret d_X11_spot_141 rfl ?_
                exact ⟨rfl, hBV_2, fV_2, ld, _, rfl, ⟨by omega, by omega⟩, gd_y ⟨by omega, h12, h21⟩ ⟨c, l1, by rw [h121, e4, f131.1]; exact sx.2.2.1⟩⟩
            · skip
              refine T_k d_X11_spot_115 ?_
              refine T_go d_X11_spot_116 ?_
              -- leaf 5f.12f.21t.35t.83t.112f@141
              refine T_iret d_X11_spot_141 rfl ?_
              exact ⟨rfl, hBV_2, fV_2, ld, _, rfl, ⟨by omega, by omega⟩, gd_y ⟨by omega, h12, h21⟩ ⟨c, l1, by have z := so.1.mp (by omega); unfold spW; rw [if_neg (by omega), if_neg (by omega), z, if_pos rfl]; split; rfl; split; rfl; omega⟩⟩
          · skip
            refine T_il d_X11_spot_86 rfl ?_
            refine T_k d_X11_spot_88 ?_
            refine T_ieq d_X11_spot_89 ⟨by omega, by omega⟩ ⟨by omega, by omega⟩ (fun h89 => ?_) (fun h89 => ?_)
            · skip
              refine T_k d_X11_spot_107 ?_
              -- leaf 5f.12f.21t.35t.83f.89t@108
              refine T_iret d_X11_spot_108 rfl ?_
              exact ⟨rfl, hBV_2, fV_2, ld, _, rfl, ⟨by omega, by omega⟩, gd_y ⟨by omega, h12, h21⟩ ⟨c, l1, by rw [h83]; exact (if_neg (by have := so.1.mp (by omega); omega)).symm⟩⟩
            · skip
              have sx := so.2 (fun z => h89 (by rw [e4]; exact so.1.mpr z))
              have f131 := (l2.2.2.2.2 _ sx.2.1).1
              refine T_al d_X11_spot_92 rfl ?_
              refine F_gr (b := 131) d_X11_spot_93 rfl hF rfl ?_
              refine T_il d_X11_spot_96 rfl ?_
              refine F_ia d_X11_spot_98 rfl hBV_2 rfl ⟨by omega, by omega⟩ (fun b_8 => ?_)
              try simp only [Int.toNat_natCast]
              try simp only [Int.toNat_natCast] at b_8
              rw [e4, f131]
              refine T_il d_X11_spot_99 rfl ?_
              refine T_ine d_X11_spot_100 ⟨by omega, by omega⟩ ⟨by omega, by omega⟩ (fun h100 => ?_) (fun h100 => ?_)
              · skip
                refine T_k d_X11_spot_107 ?_
                -- leaf 5f.12f.21t.35t.83f.89f.100t@108
                refine T_iret d_X11_spot_108 rfl ?_
                exact ⟨rfl, hBV_2, fV_2, ld, _, rfl, ⟨by omega, by omega⟩, gd_y ⟨by omega, h12, h21⟩ ⟨c, l1, by rw [h83]; exact (if_neg (by omega)).symm⟩⟩
              · skip
                refine T_k d_X11_spot_103 ?_
                refine T_go d_X11_spot_104 ?_
                -- leaf 5f.12f.21t.35t.83f.89f.100f@108
                refine T_iret d_X11_spot_108 rfl ?_
                exact ⟨rfl, hBV_2, fV_2, ld, _, rfl, ⟨by omega, by omega⟩, gd_y ⟨by omega, h12, h21⟩ ⟨c, l1, by rw [h83]; exact (if_pos (by omega)).symm⟩⟩
        · skip
          refine T_al d_X11_spot_38 rfl ?_
          refine T_il d_X11_spot_39 rfl ?_
          refine T_il d_X11_spot_40 rfl ?_
          refine C_pv2 d_X11_spot_41 rfl (hdF (by omega)) (hcF _) itz ?_
          refine T_pz1 d_X11_spot_44 (fun h44 => ?_) (fun h44 => ?_)
          · skip
            refine T_il d_X11_spot_53 rfl ?_
            refine T_zne d_X11_spot_54 ⟨by omega, by omega⟩ (fun h54 => ?_) (fun h54 => ?_)
            · skip
              refine T_al d_X11_spot_66 rfl ?_
              refine F_gr (b := 129) d_X11_spot_67 rfl hF rfl ?_
              refine T_il d_X11_spot_70 rfl ?_
              refine F_ia d_X11_spot_71 rfl hBV_2 rfl ⟨by omega, by omega⟩ (fun b_9 => ?_)
              try simp only [Int.toNat_natCast]
              try simp only [Int.toNat_natCast] at b_9
              -- leaf 5f.12f.21t.35f.44t.54t@72
              refine T_iret d_X11_spot_72 rfl ?_
              exact ⟨rfl, hBV_2, fV_2, ld, _, rfl, ⟨by omega, by omega⟩, gd_y ⟨by omega, h12, h21⟩ ⟨c, l1, by rw [show w = 1 by omega]; exact f12.2.trans (if_pos h44).symm⟩⟩
            · skip
              refine T_al d_X11_spot_57 rfl ?_
              refine F_gr (b := 128) d_X11_spot_58 rfl hF rfl ?_
              refine T_il d_X11_spot_61 rfl ?_
              refine F_ia d_X11_spot_62 rfl hBV_2 rfl ⟨by omega, by omega⟩ (fun b_10 => ?_)
              try simp only [Int.toNat_natCast]
              try simp only [Int.toNat_natCast] at b_10
              refine T_go d_X11_spot_63 ?_
              -- leaf 5f.12f.21t.35f.44t.54f@72
              refine T_iret d_X11_spot_72 rfl ?_
              exact ⟨rfl, hBV_2, fV_2, ld, _, rfl, ⟨by omega, by omega⟩, gd_y ⟨by omega, h12, h21⟩ ⟨c, l1, by rw [h54]; exact f12.1.trans (if_pos h44).symm⟩⟩
          · skip
            refine T_k d_X11_spot_47 ?_
            refine T_go d_X11_spot_50 ?_
            -- leaf 5f.12f.21t.35f.44f@72
            refine T_iret d_X11_spot_72 rfl ?_
            exact ⟨rfl, hBV_2, fV_2, ld, _, rfl, ⟨by omega, by omega⟩, gd_y ⟨by omega, h12, h21⟩ ⟨c, l1, by unfold spW; rw [if_neg h44, if_neg h44]; split; rfl; split; rfl; omega⟩⟩
      · skip
        refine T_k d_X11_spot_24 ?_
        -- leaf 5f.12f.21f@27
        refine T_iret d_X11_spot_27 rfl ?_
        exact ⟨rfl, hB, fV, hld, _, rfl, ⟨by omega, by omega⟩, gd_n (fun z => h21 z.2.2)⟩
set_option maxHeartbeats 1000000 in
set_option maxRecDepth 100000 in
theorem R_X11_houses {G : GG} {V : VV} {R : RR} {k : Int} {b : Bk} {Ks : Nat → Kd} {nk : Nat} (hB : Bd V) (hF : FinR R) (bMV : bM b V) (hob : okB b Ks nk) (him : imB Ks nk V) (hld : ldM b Ks nk V) (h_k : r32 k) : Runs G M_X11_houses 44 162 162 [vr 99, vi k] V R (obsM b Ks nk V R (gd (K4 k) (-1) (o1 b k (fun c => (aN b k Ks nk c : Int))))) := by
  refine Runs.of pn_X11 (Nat.le_of_ble_eq_true rfl) rfl ?_
  show TT G M_X11_houses (rmd 44 162 162) 162 (Zm G 162 162 (obsM b Ks nk V R (gd (K4 k) (-1) (o1 b k (fun c => (aN b k Ks nk c : Int)))))) 162 0 [(0, vr 99), (1, vi k)] [] V R
  obtain ⟨h_k1, h_k2⟩ := h_k
  have fV : chg [(128, 161)] [(99, 1, 1), (99, 45, 49), (99, 57, 57), (99, 72, 87), (99, 97, 97)] V V := chg_r
  refine T_il d_X11_houses_0 rfl ?_
  refine C_ps1 d_X11_houses_1 (hdF (by omega)) (hcF _) (R_X11_isWeek ⟨by omega, by omega⟩) ?_
  refine T_pz1 d_X11_houses_4 (fun h4 => ?_) (fun h4 => ?_)
  · skip
    refine T_al d_X11_houses_9 rfl ?_
    refine T_il d_X11_houses_10 rfl ?_
    refine C_v1 d_X11_houses_11 rfl (hdF (by omega)) (hcF _) (R_X11_lays (b := b) (Ks := Ks) (nk := nk) (k := k) hB hF bMV hob him h4 (ld_h hld h4.1)) (fun r_1 V_2 R_3 qV_2 => ?_)
    obtain ⟨rfl, hBV_2, cV_2, rfl, pV_2⟩ := qV_2
    have fV_2 := chg_t (A := [(128, 161)]) (F := [(99, 1, 1), (99, 45, 49), (99, 57, 57), (99, 72, 87), (99, 97, 97)]) fV cV_2 rfl
    have bMV_2 := bM_c bMV fV_2 rfl
    have lk := pV_2
    have ld := ld_n h4 lk.1 lk.2
    obtain ⟨_, c, ch, l1, l2, l3, l4, l5, l6, l7, l8, l9, l10, l11⟩ := lk
    have sl : sel b Ks nk k c ch := ⟨l1, l4⟩
    have lv := lstV_of l3
    have XB := hBV_2
    have fX := fV_2
    refine T_al d_X11_houses_14 rfl ?_
    refine F_gi d_X11_houses_15 rfl hBV_2 rfl (fun b_4 => ?_)
    -- leaf 4t@18
    refine T_iret d_X11_houses_18 rfl ?_
    exact ⟨rfl, hBV_2, fV_2, ld, _, rfl, ⟨by omega, by omega⟩, gd_y h4 ⟨c, l1, lv.1⟩⟩
  · skip
    refine T_k d_X11_houses_7 ?_
    -- leaf 4f@8
    refine T_iret d_X11_houses_8 rfl ?_
    exact ⟨rfl, hB, fV, hld, _, rfl, ⟨by omega, by omega⟩, gd_n (fun z => h4 z)⟩
set_option maxHeartbeats 1000000 in
set_option maxRecDepth 100000 in
theorem R_X11_isHouse {G : GG} {V : VV} {R : RR} {k : Int} {h : Int} {b : Bk} {Ks : Nat → Kd} {nk : Nat} (hB : Bd V) (hF : FinR R) (bMV : bM b V) (hob : okB b Ks nk) (him : imB Ks nk V) (hld : ldM b Ks nk V) (hk : r32 k) (hh : r32 h) : Runs G M_X11_isHouse 42 162 162 [vr 99, vi k, vi h] V R (PQ [(128, 161)] [(99, 1, 1), (99, 45, 49), (99, 57, 57), (99, 72, 87), (99, 97, 97)] V R (fun r X => r = some (vi (bi (@decide (K4 k ∧ isHs b Ks nk k h) (Classical.propDecidable _)))) ∧ ldM b Ks nk X ∧ (K4 k → X 99 1 = k ∧ ∃ c ch, laidM b Ks nk k c ch X))) := by
  refine Runs.of pn_X11 (Nat.le_of_ble_eq_true rfl) rfl ?_
  show TT G M_X11_isHouse (rmd 42 162 162) 162 (Zm G 162 162 (PQ [(128, 161)] [(99, 1, 1), (99, 45, 49), (99, 57, 57), (99, 72, 87), (99, 97, 97)] V R (fun r X => r = some (vi (bi (@decide (K4 k ∧ isHs b Ks nk k h) (Classical.propDecidable _)))) ∧ ldM b Ks nk X ∧ (K4 k → X 99 1 = k ∧ ∃ c ch, laidM b Ks nk k c ch X)))) 162 0 [(0, vr 99), (1, vi k), (2, vi h)] [] V R
  obtain ⟨hk1, hk2⟩ := hk
  obtain ⟨hh1, hh2⟩ := hh
  have fV : chg [(128, 161)] [(99, 1, 1), (99, 45, 49), (99, 57, 57), (99, 72, 87), (99, 97, 97)] V V := chg_r
  refine T_il d_X11_isHouse_0 rfl ?_
  refine C_ps1 d_X11_isHouse_1 (hdF (by omega)) (hcF _) (R_X11_isWeek ⟨by omega, by omega⟩) ?_
  refine T_pz1 d_X11_isHouse_4 (fun h4 => ?_) (fun h4 => ?_)
  · skip
    refine T_al d_X11_isHouse_9 rfl ?_
    refine T_il d_X11_isHouse_10 rfl ?_
    refine C_v1 d_X11_isHouse_11 rfl (hdF (by omega)) (hcF _) (R_X11_lays (b := b) (Ks := Ks) (nk := nk) (k := k) hB hF bMV hob him h4 (ld_h hld h4.1)) (fun r_1 V_2 R_3 qV_2 => ?_)
    obtain ⟨rfl, hBV_2, cV_2, rfl, pV_2⟩ := qV_2
    have fV_2 := chg_t (A := [(128, 161)]) (F := [(99, 1, 1), (99, 45, 49), (99, 57, 57), (99, 72, 87), (99, 97, 97)]) fV cV_2 rfl
    have bMV_2 := bM_c bMV fV_2 rfl
    have lk0 := pV_2
    have lk := pV_2
    have ld := ld_n h4 lk.1 lk.2
    obtain ⟨_, c, ch, l1, l2, l3, l4, l5, l6, l7, l8, l9, l10, l11⟩ := lk
    have sl : sel b Ks nk k c ch := ⟨l1, l4⟩
    have lv := lstV_of l3
    have XB := hBV_2
    have fX := fV_2
    have hN4 := l3.1
    have ih := isHs_c (Ks := Ks) (nk := nk) (h := h) l1
    refine T_il d_X11_isHouse_14 rfl ?_
    refine T_k d_X11_isHouse_15 ?_
    refine T_al d_X11_isHouse_16 rfl ?_
    refine F_gi d_X11_isHouse_17 rfl hBV_2 rfl (fun b_4 => ?_)
    rw [lv.1]
    refine T_k d_X11_isHouse_20 ?_
    refine T_isub d_X11_isHouse_21 ?_
    refine C_ps3 d_X11_isHouse_22 (hdF (by omega)) (hcF _) (R_X11_in ⟨by omega, by omega⟩ ⟨by omega, by omega⟩ ⟨by omega, by omega⟩) ?_
    rw [show decide ((0 : Int) ≤ h ∧ h ≤ (aN b k Ks nk c : Int) - 1) = @decide (K4 k ∧ isHs b Ks nk k h) (Classical.propDecidable _) from decide_eq_decide.mpr ⟨fun z => ⟨h4, ih.mpr (by omega)⟩, fun z => by have := ih.mp z.2; omega⟩]
    -- leaf 4t@25
    refine T_zret d_X11_isHouse_25 rfl ?_
    exact ⟨rfl, hBV_2, fV_2, rfl, ld, fun _ => lk0⟩
  · skip
    refine T_k d_X11_isHouse_7 ?_
    -- leaf 4f@8
    refine T_zret0 d_X11_isHouse_8 rfl ?_
    exact ⟨rfl, hB, fV, by rw [@decide_eq_false _ (Classical.propDecidable _) (fun z => h4 z.1)], hld, fun z => absurd z h4⟩
set_option maxHeartbeats 1000000 in
set_option maxRecDepth 100000 in
theorem R_X11_house {G : GG} {V : VV} {R : RR} {k : Int} {h : Int} {w : Int} {b : Bk} {Ks : Nat → Kd} {nk : Nat} (hB : Bd V) (hF : FinR R) (bMV : bM b V) (hob : okB b Ks nk) (him : imB Ks nk V) (hld : ldM b Ks nk V) (h_k : r32 k) (h_h : r32 h) (h_w : r32 w) : Runs G M_X11_house 44 162 162 [vr 99, vi k, vi h, vi w] V R (obsM b Ks nk V R (gd (K4 k) (-1000) (o2 b Ks nk k (hoW b Ks nk k h w)))) := by
  refine Runs.of pn_X11 (Nat.le_of_ble_eq_true rfl) rfl ?_
  show TT G M_X11_house (rmd 44 162 162) 162 (Zm G 162 162 (obsM b Ks nk V R (gd (K4 k) (-1000) (o2 b Ks nk k (hoW b Ks nk k h w))))) 162 0 [(0, vr 99), (1, vi k), (2, vi h), (3, vi w)] [] V R
  obtain ⟨h_k1, h_k2⟩ := h_k
  obtain ⟨h_h1, h_h2⟩ := h_h
  obtain ⟨h_w1, h_w2⟩ := h_w
  have fV : chg [(128, 161)] [(99, 1, 1), (99, 45, 49), (99, 57, 57), (99, 72, 87), (99, 97, 97)] V V := chg_r
  refine T_al d_X11_house_0 rfl ?_
  refine T_il d_X11_house_1 rfl ?_
  refine T_il d_X11_house_2 rfl ?_
  refine C_v2 d_X11_house_3 rfl (hdF (by omega)) (hcF _) (R_X11_isHouse (b := b) (Ks := Ks) (nk := nk) (k := k) (h := h) hB hF bMV hob him hld ⟨by omega, by omega⟩ ⟨by omega, by omega⟩) (fun r_1 V_2 R_3 qV_2 => ?_)
  obtain ⟨rfl, hBV_2, cV_2, rfl, pV_2⟩ := qV_2
  have fV_2 := chg_t (A := [(128, 161)]) (F := [(99, 1, 1), (99, 45, 49), (99, 57, 57), (99, 72, 87), (99, 97, 97)]) fV cV_2 rfl
  have bMV_2 := bM_c bMV fV_2 rfl
  have q0 := pV_2
  have ld := pV_2.1
  refine T_pz1 d_X11_house_6 (fun h6 => ?_) (fun h6 => ?_)
  · skip
    obtain ⟨c, ch, l1, l2, l3, l4, l5, l6, l7, l8, l9, l10, l11⟩ := (q0.2 h6.1).2
    have sl : sel b Ks nk k c ch := ⟨l1, l4⟩
    have lv := lstV_of l3
    have hN4 := l3.1
    have hg := (isHs_c l1).mp h6.2
    have hh : h.toNat < aN b k Ks nk c := by omega
    obtain ⟨kd, p, q, r, ⟨_, g1, g2, g3⟩, _, ⟨r0, r1, r2, r3⟩, _⟩ := row_f (a_row (b := b) (k := k) (Ks := Ks) (nk := nk) (c := c) h.toNat hh) hob.2.2.2
    have so := spS_O (b := b) (k := k) (c := c) hob.1
    have som := so.1
    refine T_il d_X11_house_13 rfl ?_
    by_cases hs14 : w < 0 ∨ 10 < w
    · refine T_swo d_X11_house_14 ⟨by omega, by omega⟩ hs14 (tg := 172) (by decide) ?_
      refine T_k d_X11_house_172 ?_
      -- leaf 6t.14o@175
      refine T_iret d_X11_house_175 rfl ?_
      exact ⟨rfl, hBV_2, fV_2, ld, _, rfl, ⟨by omega, by omega⟩, gd_y h6.1 ⟨c, ch, sl, (if_neg (fun z => by omega)).symm⟩⟩
    · have hq14 : w = 0 ∨ w = 1 ∨ w = 2 ∨ w = 3 ∨ w = 4 ∨ w = 5 ∨ w = 6 ∨ w = 7 ∨ w = 8 ∨ w = 9 ∨ w = 10 := by omega
      rcases hq14 with e14_0 | e14_1 | e14_2 | e14_3 | e14_4 | e14_5 | e14_6 | e14_7 | e14_8 | e14_9 | e14_10
      · refine T_swi d_X11_house_14 ⟨by omega, by omega⟩ (by omega) (by omega) (tg := 72) (by rw [e14_0]; rfl) ?_
        refine T_al d_X11_house_72 rfl ?_
        refine F_gr (b := 135) d_X11_house_73 rfl hF rfl ?_
        refine T_il d_X11_house_76 rfl ?_
        refine F_ia d_X11_house_77 rfl hBV_2 rfl ⟨by omega, by omega⟩ (fun b_4 => ?_)
        try simp only [Int.toNat_natCast]
        try simp only [Int.toNat_natCast] at b_4
        -- leaf 6t.14s0@78
        refine T_iret d_X11_house_78 rfl ?_
        exact ⟨rfl, hBV_2, fV_2, ld, _, rfl, ⟨by omega, by omega⟩, gd_y h6.1 ⟨c, ch, sl, by rw [e14_0]; show _ = if _ then _ else _; rw [if_pos ⟨hg.1, hg.2, by omega, by omega⟩]; exact lv.2 h.toNat hh 0 (by omega)⟩⟩
      · refine T_swi d_X11_house_14 ⟨by omega, by omega⟩ (by omega) (by omega) (tg := 79) (by rw [e14_1]; rfl) ?_
        refine T_al d_X11_house_79 rfl ?_
        refine F_gr (b := 131) d_X11_house_80 rfl hF rfl ?_
        refine T_al d_X11_house_83 rfl ?_
        refine F_gr (b := 136) d_X11_house_84 rfl hF rfl ?_
        refine T_il d_X11_house_87 rfl ?_
        refine F_ia d_X11_house_88 rfl hBV_2 rfl ⟨by omega, by omega⟩ (fun b_5 => ?_)
        try simp only [Int.toNat_natCast]
        try simp only [Int.toNat_natCast] at b_5
        rw [show V_2 136 h.toNat = aL b k Ks nk c h.toNat 1 from lv.2 h.toNat hh 1 (by omega)]
        have e1 : V_2 131 (aL b k Ks nk c h.toNat 1).toNat = (spS b k c).h (aL b k Ks nk c h.toNat 1).toNat := by rw [r1, Int.toNat_natCast]; exact ((sM_of l2).2 _ g1).1
        refine F_ia d_X11_house_89 rfl hBV_2 rfl ⟨by rw [r1]; omega, by rw [r1]; omega⟩ (fun b_6 => ?_)
        try simp only [Int.toNat_natCast]
        try simp only [Int.toNat_natCast] at b_6
        -- leaf 6t.14s1@90
        refine T_iret d_X11_house_90 rfl ?_
        exact ⟨rfl, hBV_2, fV_2, ld, _, rfl, ⟨by omega, by omega⟩, gd_y h6.1 ⟨c, ch, sl, by rw [e14_1]; show _ = if _ then _ else _; rw [if_pos ⟨hg.1, hg.2, by omega, by omega⟩]; exact e1⟩⟩
      · refine T_swi d_X11_house_14 ⟨by omega, by omega⟩ (by omega) (by omega) (tg := 91) (by rw [e14_2]; rfl) ?_
        refine T_al d_X11_house_91 rfl ?_
        refine F_gr (b := 131) d_X11_house_92 rfl hF rfl ?_
        refine T_al d_X11_house_95 rfl ?_
        refine F_gr (b := 137) d_X11_house_96 rfl hF rfl ?_
        refine T_il d_X11_house_99 rfl ?_
        refine F_ia d_X11_house_100 rfl hBV_2 rfl ⟨by omega, by omega⟩ (fun b_7 => ?_)
        try simp only [Int.toNat_natCast]
        try simp only [Int.toNat_natCast] at b_7
        rw [show V_2 137 h.toNat = aL b k Ks nk c h.toNat 2 from lv.2 h.toNat hh 2 (by omega)]
        have e2 : V_2 131 (aL b k Ks nk c h.toNat 2).toNat = (spS b k c).h (aL b k Ks nk c h.toNat 2).toNat := by rw [r2, Int.toNat_natCast]; exact ((sM_of l2).2 _ g2).1
        refine F_ia d_X11_house_101 rfl hBV_2 rfl ⟨by rw [r2]; omega, by rw [r2]; omega⟩ (fun b_8 => ?_)
        try simp only [Int.toNat_natCast]
        try simp only [Int.toNat_natCast] at b_8
        -- leaf 6t.14s2@102
        refine T_iret d_X11_house_102 rfl ?_
        exact ⟨rfl, hBV_2, fV_2, ld, _, rfl, ⟨by omega, by omega⟩, gd_y h6.1 ⟨c, ch, sl, by rw [e14_2]; show _ = if _ then _ else _; rw [if_pos ⟨hg.1, hg.2, by omega, by omega⟩]; exact e2⟩⟩
      · refine T_swi d_X11_house_14 ⟨by omega, by omega⟩ (by omega) (by omega) (tg := 103) (by rw [e14_3]; rfl) ?_
        refine T_al d_X11_house_103 rfl ?_
        refine F_gr (b := 131) d_X11_house_104 rfl hF rfl ?_
        refine T_al d_X11_house_107 rfl ?_
        refine F_gr (b := 138) d_X11_house_108 rfl hF rfl ?_
        refine T_il d_X11_house_111 rfl ?_
        refine F_ia d_X11_house_112 rfl hBV_2 rfl ⟨by omega, by omega⟩ (fun b_9 => ?_)
        try simp only [Int.toNat_natCast]
        try simp only [Int.toNat_natCast] at b_9
        rw [show V_2 138 h.toNat = aL b k Ks nk c h.toNat 3 from lv.2 h.toNat hh 3 (by omega)]
        have e3 : V_2 131 (aL b k Ks nk c h.toNat 3).toNat = (spS b k c).h (aL b k Ks nk c h.toNat 3).toNat := by rw [r3, Int.toNat_natCast]; exact ((sM_of l2).2 _ g3).1
        refine F_ia d_X11_house_113 rfl hBV_2 rfl ⟨by rw [r3]; omega, by rw [r3]; omega⟩ (fun b_10 => ?_)
        try simp only [Int.toNat_natCast]
        try simp only [Int.toNat_natCast] at b_10
        -- leaf 6t.14s3@114
        refine T_iret d_X11_house_114 rfl ?_
        exact ⟨rfl, hBV_2, fV_2, ld, _, rfl, ⟨by omega, by omega⟩, gd_y h6.1 ⟨c, ch, sl, by rw [e14_3]; show _ = if _ then _ else _; rw [if_pos ⟨hg.1, hg.2, by omega, by omega⟩]; exact e3⟩⟩
      · refine T_swi d_X11_house_14 ⟨by omega, by omega⟩ (by omega) (by omega) (tg := 115) (by rw [e14_4]; rfl) ?_
        refine T_al d_X11_house_115 rfl ?_
        refine F_gr (b := 139) d_X11_house_116 rfl hF rfl ?_
        refine T_il d_X11_house_119 rfl ?_
        refine F_ia d_X11_house_120 rfl hBV_2 rfl ⟨by omega, by omega⟩ (fun b_11 => ?_)
        try simp only [Int.toNat_natCast]
        try simp only [Int.toNat_natCast] at b_11
        -- leaf 6t.14s4@121
        refine T_iret d_X11_house_121 rfl ?_
        exact ⟨rfl, hBV_2, fV_2, ld, _, rfl, ⟨by omega, by omega⟩, gd_y h6.1 ⟨c, ch, sl, by rw [e14_4]; show _ = if _ then _ else _; rw [if_pos ⟨hg.1, hg.2, by omega, by omega⟩]; exact lv.2 h.toNat hh 4 (by omega)⟩⟩
      · refine T_swi d_X11_house_14 ⟨by omega, by omega⟩ (by omega) (by omega) (tg := 122) (by rw [e14_5]; rfl) ?_
        refine T_al d_X11_house_122 rfl ?_
        refine F_gr (b := 140) d_X11_house_123 rfl hF rfl ?_
        refine T_il d_X11_house_126 rfl ?_
        refine F_ia d_X11_house_127 rfl hBV_2 rfl ⟨by omega, by omega⟩ (fun b_12 => ?_)
        try simp only [Int.toNat_natCast]
        try simp only [Int.toNat_natCast] at b_12
        -- leaf 6t.14s5@128
        refine T_iret d_X11_house_128 rfl ?_
        exact ⟨rfl, hBV_2, fV_2, ld, _, rfl, ⟨by omega, by omega⟩, gd_y h6.1 ⟨c, ch, sl, by rw [e14_5]; show _ = if _ then _ else _; rw [if_pos ⟨hg.1, hg.2, by omega, by omega⟩]; exact lv.2 h.toNat hh 5 (by omega)⟩⟩
      · refine T_swi d_X11_house_14 ⟨by omega, by omega⟩ (by omega) (by omega) (tg := 129) (by rw [e14_6]; rfl) ?_
        refine T_al d_X11_house_129 rfl ?_
        refine F_gr (b := 141) d_X11_house_130 rfl hF rfl ?_
        refine T_il d_X11_house_133 rfl ?_
        refine F_ia d_X11_house_134 rfl hBV_2 rfl ⟨by omega, by omega⟩ (fun b_13 => ?_)
        try simp only [Int.toNat_natCast]
        try simp only [Int.toNat_natCast] at b_13
        -- leaf 6t.14s6@135
        refine T_iret d_X11_house_135 rfl ?_
        exact ⟨rfl, hBV_2, fV_2, ld, _, rfl, ⟨by omega, by omega⟩, gd_y h6.1 ⟨c, ch, sl, by rw [e14_6]; show _ = if _ then _ else _; rw [if_pos ⟨hg.1, hg.2, by omega, by omega⟩]; exact lv.2 h.toNat hh 6 (by omega)⟩⟩
      · refine T_swi d_X11_house_14 ⟨by omega, by omega⟩ (by omega) (by omega) (tg := 136) (by rw [e14_7]; rfl) ?_
        refine T_al d_X11_house_136 rfl ?_
        refine F_gr (b := 142) d_X11_house_137 rfl hF rfl ?_
        refine T_il d_X11_house_140 rfl ?_
        refine F_ia d_X11_house_141 rfl hBV_2 rfl ⟨by omega, by omega⟩ (fun b_14 => ?_)
        try simp only [Int.toNat_natCast]
        try simp only [Int.toNat_natCast] at b_14
        -- leaf 6t.14s7@142
        refine T_iret d_X11_house_142 rfl ?_
        exact ⟨rfl, hBV_2, fV_2, ld, _, rfl, ⟨by omega, by omega⟩, gd_y h6.1 ⟨c, ch, sl, by rw [e14_7]; show _ = if _ then _ else _; rw [if_pos ⟨hg.1, hg.2, by omega, by omega⟩]; exact lv.2 h.toNat hh 7 (by omega)⟩⟩
      · refine T_swi d_X11_house_14 ⟨by omega, by omega⟩ (by omega) (by omega) (tg := 143) (by rw [e14_8]; rfl) ?_
        refine T_al d_X11_house_143 rfl ?_
        refine F_gr (b := 143) d_X11_house_144 rfl hF rfl ?_
        refine T_il d_X11_house_147 rfl ?_
        refine F_ia d_X11_house_148 rfl hBV_2 rfl ⟨by omega, by omega⟩ (fun b_15 => ?_)
        try simp only [Int.toNat_natCast]
        try simp only [Int.toNat_natCast] at b_15
        -- leaf 6t.14s8@149
        refine T_iret d_X11_house_149 rfl ?_
        exact ⟨rfl, hBV_2, fV_2, ld, _, rfl, ⟨by omega, by omega⟩, gd_y h6.1 ⟨c, ch, sl, by rw [e14_8]; show _ = if _ then _ else _; rw [if_pos ⟨hg.1, hg.2, by omega, by omega⟩]; exact lv.2 h.toNat hh 8 (by omega)⟩⟩
      · refine T_swi d_X11_house_14 ⟨by omega, by omega⟩ (by omega) (by omega) (tg := 150) (by rw [e14_9]; rfl) ?_
        refine T_al d_X11_house_150 rfl ?_
        refine F_gr (b := 144) d_X11_house_151 rfl hF rfl ?_
        refine T_il d_X11_house_154 rfl ?_
        refine F_ia d_X11_house_155 rfl hBV_2 rfl ⟨by omega, by omega⟩ (fun b_16 => ?_)
        try simp only [Int.toNat_natCast]
        try simp only [Int.toNat_natCast] at b_16
        -- leaf 6t.14s9@156
        refine T_iret d_X11_house_156 rfl ?_
        exact ⟨rfl, hBV_2, fV_2, ld, _, rfl, ⟨by omega, by omega⟩, gd_y h6.1 ⟨c, ch, sl, by rw [e14_9]; show _ = if _ then _ else _; rw [if_pos ⟨hg.1, hg.2, by omega, by omega⟩]; exact lv.2 h.toNat hh 9 (by omega)⟩⟩
      · refine T_swi d_X11_house_14 ⟨by omega, by omega⟩ (by omega) (by omega) (tg := 157) (by rw [e14_10]; rfl) ?_
        refine T_al d_X11_house_157 rfl ?_
        refine F_gr (b := 147) d_X11_house_158 rfl hF rfl ?_
        refine T_il d_X11_house_161 rfl ?_
        refine F_za d_X11_house_162 rfl hBV_2 rfl ⟨by omega, by omega⟩ (fun b_17 => ?_)
        try simp only [Int.toNat_natCast]
        try simp only [Int.toNat_natCast] at b_17
        refine T_zeq d_X11_house_163 ⟨by omega, by omega⟩ (fun h163 => ?_) (fun h163 => ?_)
        · skip
          refine T_k d_X11_house_170 ?_
          -- leaf 6t.14s10.163t@171
          refine T_iret d_X11_house_171 rfl ?_
          exact ⟨rfl, hBV_2, fV_2, ld, _, rfl, ⟨by omega, by omega⟩, gd_y h6.1 ⟨c, ch, sl, by rw [e14_10]; show _ = if _ then _ else _; rw [if_pos ⟨hg.1, hg.2, by omega, by omega⟩]; show (_ : Int) = bi (ch.testBit h.toNat); have z := bi_01 (ch.testBit h.toNat); have z2 := l5 h.toNat hh; omega⟩⟩
        · skip
          refine T_k d_X11_house_166 ?_
          refine T_go d_X11_house_167 ?_
          -- leaf 6t.14s10.163f@171
          refine T_iret d_X11_house_171 rfl ?_
          exact ⟨rfl, hBV_2, fV_2, ld, _, rfl, ⟨by omega, by omega⟩, gd_y h6.1 ⟨c, ch, sl, by rw [e14_10]; show _ = if _ then _ else _; rw [if_pos ⟨hg.1, hg.2, by omega, by omega⟩]; show (_ : Int) = bi (ch.testBit h.toNat); have z := bi_01 (ch.testBit h.toNat); have z2 := l5 h.toNat hh; omega⟩⟩
  · skip
    refine T_k d_X11_house_9 ?_
    -- leaf 6f@12
    refine T_iret d_X11_house_12 rfl ?_
    by_cases z4 : K4 k
    obtain ⟨c, ch, l1, l2, l3, l4, l5, l6, l7, l8, l9, l10, l11⟩ := (q0.2 z4).2
    exact ⟨rfl, hBV_2, fV_2, ld, _, rfl, ⟨by omega, by omega⟩, gd_y z4 ⟨c, ch, ⟨l1, l4⟩, (if_neg (fun z => h6 ⟨z4, (isHs_c l1).mpr ⟨z.1, z.2.1⟩⟩)).symm⟩⟩
    exact ⟨rfl, hBV_2, fV_2, ld, _, rfl, ⟨by omega, by omega⟩, gd_n z4⟩
set_option maxHeartbeats 1000000 in
set_option maxRecDepth 100000 in
theorem R_X11_place {G : GG} {V : VV} {R : RR} {k : Int} {h : Int} {i : Int} {j : Int} {b : Bk} {Ks : Nat → Kd} {nk : Nat} (hB : Bd V) (hF : FinR R) (bMV : bM b V) (hob : okB b Ks nk) (him : imB Ks nk V) (hld : ldM b Ks nk V) (h_k : r32 k) (h_h : r32 h) (h_i : r32 i) (h_j : r32 j) : Runs G M_X11_place 44 162 162 [vr 99, vi k, vi h, vi i, vi j] V R (obsM b Ks nk V R (gd (K4 k) (-1000) (o1 b k (plcW b Ks nk k h i j)))) := by
  refine Runs.of pn_X11 (Nat.le_of_ble_eq_true rfl) rfl ?_
  show TT G M_X11_place (rmd 44 162 162) 162 (Zm G 162 162 (obsM b Ks nk V R (gd (K4 k) (-1000) (o1 b k (plcW b Ks nk k h i j))))) 162 0 [(0, vr 99), (1, vi k), (2, vi h), (3, vi i), (4, vi j)] [] V R
  obtain ⟨h_k1, h_k2⟩ := h_k
  obtain ⟨h_h1, h_h2⟩ := h_h
  obtain ⟨h_i1, h_i2⟩ := h_i
  obtain ⟨h_j1, h_j2⟩ := h_j
  have fV : chg [(128, 161)] [(99, 1, 1), (99, 45, 49), (99, 57, 57), (99, 72, 87), (99, 97, 97)] V V := chg_r
  refine T_al d_X11_place_0 rfl ?_
  refine T_il d_X11_place_1 rfl ?_
  refine T_il d_X11_place_2 rfl ?_
  refine C_v2 d_X11_place_3 rfl (hdF (by omega)) (hcF _) (R_X11_isHouse (b := b) (Ks := Ks) (nk := nk) (k := k) (h := h) hB hF bMV hob him hld ⟨by omega, by omega⟩ ⟨by omega, by omega⟩) (fun r_1 V_2 R_3 qV_2 => ?_)
  obtain ⟨rfl, hBV_2, cV_2, rfl, pV_2⟩ := qV_2
  have fV_2 := chg_t (A := [(128, 161)]) (F := [(99, 1, 1), (99, 45, 49), (99, 57, 57), (99, 72, 87), (99, 97, 97)]) fV cV_2 rfl
  have bMV_2 := bM_c bMV fV_2 rfl
  have q0 := pV_2
  have ld := pV_2.1
  refine T_pz0 d_X11_place_6 (fun h6 => ?_) (fun h6 => ?_)
  · skip
    refine T_k d_X11_place_50 ?_
    -- leaf 6t@53
    refine T_iret d_X11_place_53 rfl ?_
    by_cases z4 : K4 k
    obtain ⟨c, ch, l1, l2, l3, l4, l5, l6, l7, l8, l9, l10, l11⟩ := (q0.2 z4).2
    exact ⟨rfl, hBV_2, fV_2, ld, _, rfl, ⟨by omega, by omega⟩, gd_y z4 ⟨c, l1, (if_neg (fun z => h6 ⟨z4, (isHs_c l1).mpr ⟨z.1, z.2.1⟩⟩)).symm⟩⟩
    exact ⟨rfl, hBV_2, fV_2, ld, _, rfl, ⟨by omega, by omega⟩, gd_n z4⟩
  · skip
    obtain ⟨c, ch, l1, l2, l3, l4, l5, l6, l7, l8, l9, l10, l11⟩ := (q0.2 h6.1).2
    have sl : sel b Ks nk k c ch := ⟨l1, l4⟩
    have lv := lstV_of l3
    have hN4 := l3.1
    have hg := (isHs_c l1).mp h6.2
    have hh : h.toNat < aN b k Ks nk c := by omega
    obtain ⟨kd, p, q, r, ⟨gk, g1, g2, g3⟩, _, ⟨r0, r1, r2, r3⟩, ⟨q4, q8⟩, _⟩ := row_f (a_row (b := b) (k := k) (Ks := Ks) (nk := nk) (c := c) h.toNat hh) hob.2.2.2
    have so := spS_O (b := b) (k := k) (c := c) hob.1
    have som := so.1
    have n5 := hob.2.2.1
    have ok0 := (hob.2.2.2 kd gk).1
    have im := imB_c him fV_2
    have k0 := ((im.2 kd gk) 0 (by omega)).1
    obtain ⟨kd2, p2, q2, r2_, _, ⟨u0, u1, u2, u3⟩, _, up⟩ := ls_pl l3 hh q8
    obtain rfl : kd = kd2 := by omega
    obtain rfl : p = p2 := by omega
    obtain rfl : q = q2 := by omega
    obtain rfl : r = r2_ := by omega
    refine T_il d_X11_place_9 rfl ?_
    refine T_k d_X11_place_10 ?_
    refine T_al d_X11_place_11 rfl ?_
    refine F_gr (b := 139) d_X11_place_12 rfl hF rfl ?_
    refine T_il d_X11_place_15 rfl ?_
    refine F_ia d_X11_place_16 rfl hBV_2 rfl ⟨by omega, by omega⟩ (fun b_4 => ?_)
    try simp only [Int.toNat_natCast]
    try simp only [Int.toNat_natCast] at b_4
    rw [show V_2 139 h.toNat = aL b k Ks nk c h.toNat 4 from lv.2 h.toNat hh 4 (by omega)]
    refine T_k d_X11_place_17 ?_
    refine T_isub d_X11_place_18 ?_
    refine C_ps3 d_X11_place_19 (hdF (by omega)) (hcF _) (R_X11_in ⟨by omega, by omega⟩ ⟨by omega, by omega⟩ ⟨by omega, by omega⟩) ?_
    refine T_pz0 d_X11_place_22 (fun h22 => ?_) (fun h22 => ?_)
    · skip
      refine T_k d_X11_place_50 ?_
      -- leaf 6f.22t@53
      refine T_iret d_X11_place_53 rfl ?_
      exact ⟨rfl, hBV_2, fV_2, ld, _, rfl, ⟨by omega, by omega⟩, gd_y h6.1 ⟨c, l1, (if_neg (fun z => h22 ⟨z.2.2.1.1, by have := z.2.2.1.2; omega⟩)).symm⟩⟩
    · skip
      refine T_il d_X11_place_25 rfl ?_
      refine T_k d_X11_place_27 ?_
      refine T_al d_X11_place_28 rfl ?_
      refine F_gr (b := 122) d_X11_place_29 rfl hF rfl ?_
      refine T_k d_X11_place_32 ?_
      refine T_al d_X11_place_34 rfl ?_
      refine F_gr (b := 135) d_X11_place_35 rfl hF rfl ?_
      refine T_il d_X11_place_38 rfl ?_
      refine F_ia d_X11_place_39 rfl hBV_2 rfl ⟨by omega, by omega⟩ (fun b_5 => ?_)
      try simp only [Int.toNat_natCast]
      try simp only [Int.toNat_natCast] at b_5
      rw [show V_2 135 h.toNat = (kd : Int) from (lv.2 h.toNat hh 0 (by omega)).trans r0]
      refine T_imul d_X11_place_40 ?_
      refine F_ia d_X11_place_41 rfl hBV_2 rfl ⟨by omega, by omega⟩ (fun b_6 => ?_)
      try simp only [Int.toNat_natCast]
      try simp only [Int.toNat_natCast] at b_6
      rw [show V_2 122 (10 * (kd : Int)).toNat = (Ks kd).l 0 from by rw [show (10 * (kd : Int)).toNat = 10 * kd + 0 by omega]; exact k0]
      refine T_k d_X11_place_42 ?_
      refine T_isub d_X11_place_43 ?_
      refine C_ps3 d_X11_place_44 (hdF (by omega)) (hcF _) (R_X11_in ⟨by omega, by omega⟩ ⟨by omega, by omega⟩ ⟨by omega, by omega⟩) ?_
      refine T_pz1 d_X11_place_47 (fun h47 => ?_) (fun h47 => ?_)
      · skip
        have up2 := up i.toNat j.toNat (by have := h22.2; have := h22.1; omega) (by have := h47.2; have := h47.1; omega) (by have := h47.2; omega)
        have pr := plc_r (b := b) (k := k) (S := spS b k c) (K := Ks kd) (p := p) (q := q) (r := r) (i := i.toNat) (j := j.toNat) so
        have pe := plc_e (b := b) (Ks := Ks) (nk := nk) (k := k) (c := c) (h := h) (i := i) (j := j) hg ⟨h22.1, by have := h22.2; omega⟩ ⟨h47.1, by have := h47.2; omega⟩ r0 r1 r2 r3
        have ix : (32 * h + 4 * i + j).toNat = 32 * h.toNat + (4 * i.toNat + j.toNat) := by have := h22.1; have := h47.1; omega
        have po := plO_r (b := b) (k := k) (S := spS b k c) (K := Ks kd) (p := p) (q := q) (r := r) (i := i.toNat) (j := j.toNat) som
        refine T_al d_X11_place_54 rfl ?_
        refine F_gr (b := 146) d_X11_place_55 rfl hF rfl ?_
        refine T_k d_X11_place_58 ?_
        refine T_il d_X11_place_60 rfl ?_
        refine T_imul d_X11_place_61 ?_
        refine T_k d_X11_place_62 ?_
        refine T_il d_X11_place_63 rfl ?_
        refine T_imul d_X11_place_64 ?_
        refine T_iadd d_X11_place_65 ?_
        refine T_il d_X11_place_66 rfl ?_
        refine T_iadd d_X11_place_68 ?_
        refine F_ia d_X11_place_69 rfl hBV_2 rfl ⟨by have := h22.1; have := h47.1; omega, by have := h22.2; have := h47.2; omega⟩ (fun b_7 => ?_)
        try simp only [Int.toNat_natCast]
        try simp only [Int.toNat_natCast] at b_7
        refine F_isg d_X11_place_70 (f := fun x_8 => [(0, vr 99), (1, vi k), (2, vi h), (3, vi i), (4, vi j), (5, vi x_8)]) (fun _ => rfl) (fun x_8 ex_8 => ?_)
        have e5 : x_8 = plO b k (spS b k c) (Ks kd) p q r i.toNat j.toNat := by rw [ex_8, ix]; exact up2
        refine T_il d_X11_place_72 rfl ?_
        refine T_zlt d_X11_place_74 ⟨by omega, by omega⟩ (fun h74 => ?_) (fun h74 => ?_)
        · skip
          refine T_il d_X11_place_87 rfl ?_
          -- leaf 6f.22f.47t.74t@89
          refine T_iret d_X11_place_89 rfl ?_
          exact ⟨rfl, hBV_2, fV_2, ld, _, rfl, ⟨by omega, by omega⟩, gd_y h6.1 ⟨c, l1, by rw [pe, ← e5, if_pos h74]⟩⟩
        · skip
          refine T_al d_X11_place_77 rfl ?_
          refine F_gr (b := 131) d_X11_place_78 rfl hF rfl ?_
          refine T_il d_X11_place_81 rfl ?_
          refine F_ia d_X11_place_83 rfl hBV_2 rfl ⟨by omega, by omega⟩ (fun b_9 => ?_)
          try simp only [Int.toNat_natCast]
          try simp only [Int.toNat_natCast] at b_9
          refine T_go d_X11_place_84 ?_
          -- leaf 6f.22f.47t.74f@89
          refine T_iret d_X11_place_89 rfl ?_
          exact ⟨rfl, hBV_2, fV_2, ld, _, rfl, ⟨by omega, by omega⟩, gd_y h6.1 ⟨c, l1, by rw [pe, ← e5, if_neg (by omega)]; exact ((sM_of l2).2 _ (by omega)).1⟩⟩
      · skip
        refine T_k d_X11_place_50 ?_
        -- leaf 6f.22f.47f@53
        refine T_iret d_X11_place_53 rfl ?_
        exact ⟨rfl, hBV_2, fV_2, ld, _, rfl, ⟨by omega, by omega⟩, gd_y h6.1 ⟨c, l1, (if_neg (fun z => h47 ⟨z.2.2.2.1, by have y := z.2.2.2.2; rw [r0, Int.toNat_natCast] at y; omega⟩)).symm⟩⟩
set_option maxHeartbeats 1000000 in
set_option maxRecDepth 100000 in
theorem R_X11_explained {G : GG} {V : VV} {R : RR} {k : Int} {w : Int} {b : Bk} {Ks : Nat → Kd} {nk : Nat} (hB : Bd V) (hF : FinR R) (bMV : bM b V) (hob : okB b Ks nk) (him : imB Ks nk V) (hld : ldM b Ks nk V) (h_k : r32 k) (h_w : r32 w) : Runs G M_X11_explained 44 162 162 [vr 99, vi k, vi w] V R (obsM b Ks nk V R (gd ((0 ≤ w ∧ w ≤ 1) ∧ K4 k) (-1) (o2 b Ks nk k (exW b Ks nk k w)))) := by
  refine Runs.of pn_X11 (Nat.le_of_ble_eq_true rfl) rfl ?_
  show TT G M_X11_explained (rmd 44 162 162) 162 (Zm G 162 162 (obsM b Ks nk V R (gd ((0 ≤ w ∧ w ≤ 1) ∧ K4 k) (-1) (o2 b Ks nk k (exW b Ks nk k w))))) 162 0 [(0, vr 99), (1, vi k), (2, vi w)] [] V R
  obtain ⟨h_k1, h_k2⟩ := h_k
  obtain ⟨h_w1, h_w2⟩ := h_w
  have fV : chg [(128, 161)] [(99, 1, 1), (99, 45, 49), (99, 57, 57), (99, 72, 87), (99, 97, 97)] V V := chg_r
  refine T_il d_X11_explained_0 rfl ?_
  refine C_ps1 d_X11_explained_1 (hdF (by omega)) (hcF _) (R_X11_isWeek ⟨by omega, by omega⟩) ?_
  refine T_pz0 d_X11_explained_4 (fun h4 => ?_) (fun h4 => ?_)
  · skip
    refine T_k d_X11_explained_16 ?_
    -- leaf 4t@17
    refine T_iret d_X11_explained_17 rfl ?_
    exact ⟨rfl, hB, fV, hld, _, rfl, ⟨by omega, by omega⟩, gd_n (fun z => h4 z.2)⟩
  · skip
    refine T_il d_X11_explained_7 rfl ?_
    refine T_k d_X11_explained_8 ?_
    refine T_k d_X11_explained_9 ?_
    refine C_ps3 d_X11_explained_10 (hdF (by omega)) (hcF _) (R_X11_in ⟨by omega, by omega⟩ ⟨by omega, by omega⟩ ⟨by omega, by omega⟩) ?_
    refine T_pz1 d_X11_explained_13 (fun h13 => ?_) (fun h13 => ?_)
    · skip
      refine T_al d_X11_explained_18 rfl ?_
      refine T_il d_X11_explained_19 rfl ?_
      refine C_v1 d_X11_explained_20 rfl (hdF (by omega)) (hcF _) (R_X11_lays (b := b) (Ks := Ks) (nk := nk) (k := k) hB hF bMV hob him h4 (ld_h hld h4.1)) (fun r_1 V_2 R_3 qV_2 => ?_)
      obtain ⟨rfl, hBV_2, cV_2, rfl, pV_2⟩ := qV_2
      have fV_2 := chg_t (A := [(128, 161)]) (F := [(99, 1, 1), (99, 45, 49), (99, 57, 57), (99, 72, 87), (99, 97, 97)]) fV cV_2 rfl
      have bMV_2 := bM_c bMV fV_2 rfl
      have lk := pV_2
      have ld := ld_n h4 lk.1 lk.2
      obtain ⟨_, c, ch, l1, l2, l3, l4, l5, l6, l7, l8, l9, l10, l11⟩ := lk
      have sl : sel b Ks nk k c ch := ⟨l1, l4⟩
      have lv := lstV_of l3
      have XB := hBV_2
      have fX := fV_2
      refine T_il d_X11_explained_23 rfl ?_
      refine T_zne d_X11_explained_24 ⟨by omega, by omega⟩ (fun h24 => ?_) (fun h24 => ?_)
      · skip
        refine T_al d_X11_explained_34 rfl ?_
        refine F_gi d_X11_explained_35 rfl hBV_2 rfl (fun b_4 => ?_)
        -- leaf 4f.13t.24t@38
        refine T_iret d_X11_explained_38 rfl ?_
        exact ⟨rfl, hBV_2, fV_2, ld, _, rfl, ⟨by omega, by omega⟩, gd_y ⟨h13, h4⟩ ⟨c, ch, sl, l6.2.trans (if_neg h24).symm⟩⟩
      · skip
        refine T_al d_X11_explained_27 rfl ?_
        refine F_gi d_X11_explained_28 rfl hBV_2 rfl (fun b_5 => ?_)
        refine T_go d_X11_explained_31 ?_
        -- leaf 4f.13t.24f@38
        refine T_iret d_X11_explained_38 rfl ?_
        exact ⟨rfl, hBV_2, fV_2, ld, _, rfl, ⟨by omega, by omega⟩, gd_y ⟨h13, h4⟩ ⟨c, ch, sl, by rw [h24]; exact l6.1⟩⟩
    · skip
      refine T_k d_X11_explained_16 ?_
      -- leaf 4f.13f@17
      refine T_iret d_X11_explained_17 rfl ?_
      exact ⟨rfl, hB, fV, hld, _, rfl, ⟨by omega, by omega⟩, gd_n (fun z => h13 z.1)⟩
set_option maxHeartbeats 1000000 in
set_option maxRecDepth 100000 in
theorem R_X11_placeOf {G : GG} {V : VV} {R : RR} {k : Int} {h : Int} {b : Bk} {Ks : Nat → Kd} {nk : Nat} (hB : Bd V) (hF : FinR R) (bMV : bM b V) (hob : okB b Ks nk) (him : imB Ks nk V) (hld : ldM b Ks nk V) (hk : r32 k) (hh : r32 h) : Runs G M_X11_placeOf 43 162 162 [vr 99, vi k, vi h] V R (PQ [(128, 161)] [(99, 1, 1), (99, 45, 49), (99, 57, 57), (99, 72, 87), (99, 97, 97)] V R (fun r X => ∃ v, r = some (vi v) ∧ (-1 ≤ v ∧ v ≤ 12) ∧ gd (K4 k) (-1) (o2 b Ks nk k (fun c ch => mbW ch (aN b k Ks nk c) h)) v ∧ ldM b Ks nk X ∧ (K4 k → X 99 1 = k ∧ ∃ c ch, laidM b Ks nk k c ch X))) := by
  refine Runs.of pn_X11 (Nat.le_of_ble_eq_true rfl) rfl ?_
  show TT G M_X11_placeOf (rmd 43 162 162) 162 (Zm G 162 162 (PQ [(128, 161)] [(99, 1, 1), (99, 45, 49), (99, 57, 57), (99, 72, 87), (99, 97, 97)] V R (fun r X => ∃ v, r = some (vi v) ∧ (-1 ≤ v ∧ v ≤ 12) ∧ gd (K4 k) (-1) (o2 b Ks nk k (fun c ch => mbW ch (aN b k Ks nk c) h)) v ∧ ldM b Ks nk X ∧ (K4 k → X 99 1 = k ∧ ∃ c ch, laidM b Ks nk k c ch X)))) 162 0 [(0, vr 99), (1, vi k), (2, vi h)] [] V R
  obtain ⟨hk1, hk2⟩ := hk
  obtain ⟨hh1, hh2⟩ := hh
  have fV : chg [(128, 161)] [(99, 1, 1), (99, 45, 49), (99, 57, 57), (99, 72, 87), (99, 97, 97)] V V := chg_r
  refine T_al d_X11_placeOf_0 rfl ?_
  refine T_il d_X11_placeOf_1 rfl ?_
  refine T_il d_X11_placeOf_2 rfl ?_
  refine C_v2 d_X11_placeOf_3 rfl (hdF (by omega)) (hcF _) (R_X11_isHouse (b := b) (Ks := Ks) (nk := nk) (k := k) (h := h) hB hF bMV hob him hld ⟨by omega, by omega⟩ ⟨by omega, by omega⟩) (fun r_1 V_2 R_3 qV_2 => ?_)
  obtain ⟨rfl, hBV_2, cV_2, rfl, pV_2⟩ := qV_2
  have fV_2 := chg_t (A := [(128, 161)]) (F := [(99, 1, 1), (99, 45, 49), (99, 57, 57), (99, 72, 87), (99, 97, 97)]) fV cV_2 rfl
  have bMV_2 := bM_c bMV fV_2 rfl
  have q0 := pV_2
  have ld := pV_2.1
  refine T_pz0 d_X11_placeOf_6 (fun h6 => ?_) (fun h6 => ?_)
  · skip
    refine T_k d_X11_placeOf_18 ?_
    -- leaf 6t@19
    refine T_iret d_X11_placeOf_19 rfl ?_
    by_cases z4 : K4 k
    obtain ⟨c, ch, l1, l2, l3, l4, l5, l6, l7, l8, l9, l10, l11⟩ := (q0.2 z4).2
    exact ⟨rfl, hBV_2, fV_2, _, rfl, ⟨by omega, by omega⟩, gd_y z4 ⟨c, ch, ⟨l1, l4⟩, (mbW_n l3.1 (fun z => h6 ⟨z4, (isHs_c l1).mpr z⟩)).symm⟩, ld, q0.2⟩
    exact ⟨rfl, hBV_2, fV_2, _, rfl, ⟨by omega, by omega⟩, gd_n z4, ld, q0.2⟩
  · skip
    obtain ⟨c, ch, l1, l2, l3, l4, l5, l6, l7, l8, l9, l10, l11⟩ := (q0.2 h6.1).2
    have sl : sel b Ks nk k c ch := ⟨l1, l4⟩
    have lv := lstV_of l3
    have hN4 := l3.1
    have hg := (isHs_c l1).mp h6.2
    have hh : h.toNat < aN b k Ks nk c := by omega
    have l5h := l5 h.toNat hh
    have h13 := a_13 (ch := ch) hob.1 hob.2.2.2 l4.1
    have XX := V_2
    refine T_al d_X11_placeOf_9 rfl ?_
    refine F_gr (b := 147) d_X11_placeOf_10 rfl hF rfl ?_
    refine T_il d_X11_placeOf_13 rfl ?_
    refine F_za d_X11_placeOf_14 rfl hBV_2 rfl ⟨by omega, by omega⟩ (fun b_4 => ?_)
    try simp only [Int.toNat_natCast]
    try simp only [Int.toNat_natCast] at b_4
    rw [l5h]
    refine T_zne d_X11_placeOf_15 (bi_r _) (fun h15 => ?_) (fun h15 => ?_)
    · skip
      have tb : ch.testBit h.toNat = true := bi_n.mp h15
      have mw : mbW ch (aN b k Ks nk c) h = (cntB (fun x => ch.testBit x) h.toNat : Int) := by unfold mbW mbI; rw [if_pos (by omega), if_pos ⟨hh, tb⟩]
      have cl := chb_lt hh tb
      refine T_k d_X11_placeOf_20 ?_
      refine T_is d_X11_placeOf_21 (ls' := [(0, vr 99), (1, vi k), (2, vi h), (3, vi 0)]) rfl ?_
      refine T_k d_X11_placeOf_22 ?_
      refine T_is d_X11_placeOf_23 (ls' := [(0, vr 99), (1, vi k), (2, vi h), (3, vi 0), (4, vi 0)]) rfl ?_
      -- to 25 6f.15t@25
      have L25 : ∀ (fu : Nat) (t : Nat), h.toNat - t < fu → (t ≤ h.toNat) → TT G M_X11_placeOf (rmd 43 162 162) 162 (Zm G 162 162 (PQ [(128, 161)] [(99, 1, 1), (99, 45, 49), (99, 57, 57), (99, 72, 87), (99, 97, 97)] V R (fun r X => ∃ v, r = some (vi v) ∧ (-1 ≤ v ∧ v ≤ 12) ∧ gd (K4 k) (-1) (o2 b Ks nk k (fun c ch => mbW ch (aN b k Ks nk c) h)) v ∧ ldM b Ks nk X ∧ (K4 k → X 99 1 = k ∧ ∃ c ch, laidM b Ks nk k c ch X)))) 162 25 [(0, vr 99), (2, vi h), (3, vi (cntB (fun x => ch.testBit x) t : Int)), (4, vi (t : Int))] [] V_2 R := by
        intro fu
        induction fu with
        | zero => intro t hm; exact absurd hm (Nat.not_lt_zero _)
        | succ fu ih25 =>
          intro t hm25 ht
          refine T_il d_X11_placeOf_25 rfl ?_
          refine T_il d_X11_placeOf_27 rfl ?_
          refine T_ige d_X11_placeOf_28 ⟨by omega, by omega⟩ ⟨by omega, by omega⟩ (fun h28 => ?_) (fun h28 => ?_)
          · skip
            refine T_il d_X11_placeOf_55 rfl ?_
            -- leaf 28t@56
            refine T_iret d_X11_placeOf_56 rfl ?_
            have et : t = h.toNat := by omega
            rw [et]
            exact ⟨rfl, hBV_2, fV_2, _, rfl, ⟨by omega, by have h13c : chN ch (aN b k Ks nk c) ≤ 13 := h13; have cl2 : cntB (fun x => ch.testBit x) h.toNat < chN ch (aN b k Ks nk c) := cl; omega⟩, gd_y h6.1 ⟨c, ch, sl, mw.symm⟩, ld, q0.2⟩
          · skip
            have l5t := l5 t (by omega)
            refine T_il d_X11_placeOf_31 rfl ?_
            refine T_al d_X11_placeOf_32 rfl ?_
            refine F_gr (b := 147) d_X11_placeOf_33 rfl hF rfl ?_
            refine T_il d_X11_placeOf_36 rfl ?_
            refine F_za d_X11_placeOf_38 rfl hBV_2 rfl ⟨by omega, by omega⟩ (fun b_5 => ?_)
            try simp only [Int.toNat_natCast]
            try simp only [Int.toNat_natCast] at b_5
            rw [l5t]
            refine T_zeq d_X11_placeOf_39 (bi_r _) (fun h39 => ?_) (fun h39 => ?_)
            · skip
              refine T_k d_X11_placeOf_46 ?_
              refine T_iadd d_X11_placeOf_47 ?_
              refine F_isg d_X11_placeOf_48 (f := fun x_6 => [(0, vr 99), (2, vi h), (3, vi x_6), (4, vi (t : Int))]) (fun _ => rfl) (fun x_6 ex_6 => ?_)
              obtain rfl : x_6 = (cntB (fun x => ch.testBit x) (t + 1) : Int) := by rw [ex_6, mb_s, if_neg (by rw [bi_0.mp h39]; decide)]; rfl
              refine F_incg d_X11_placeOf_49 rfl (f := fun x_7 => [(0, vr 99), (2, vi h), (3, vi (cntB (fun x => ch.testBit x) (t + 1) : Int)), (4, vi x_7)]) (fun _ => rfl) (fun x_7 ex_7 => ?_)
              refine T_go d_X11_placeOf_52 ?_
              -- to 25 28f.39t@25
              obtain rfl : x_7 = ((t + 1) : Int) := by omega
              exact ih25 (t + 1) (by omega) (by first | assumption | omega)
            · skip
              refine T_k d_X11_placeOf_42 ?_
              refine T_go d_X11_placeOf_43 ?_
              refine T_iadd d_X11_placeOf_47 ?_
              refine F_isg d_X11_placeOf_48 (f := fun x_8 => [(0, vr 99), (2, vi h), (3, vi x_8), (4, vi (t : Int))]) (fun _ => rfl) (fun x_8 ex_8 => ?_)
              obtain rfl : x_8 = (cntB (fun x => ch.testBit x) (t + 1) : Int) := by rw [ex_8, mb_s, if_pos (bi_n.mp h39)]; rfl
              refine F_incg d_X11_placeOf_49 rfl (f := fun x_9 => [(0, vr 99), (2, vi h), (3, vi (cntB (fun x => ch.testBit x) (t + 1) : Int)), (4, vi x_9)]) (fun _ => rfl) (fun x_9 ex_9 => ?_)
              refine T_go d_X11_placeOf_52 ?_
              -- to 25 28f.39f@25
              obtain rfl : x_9 = ((t + 1) : Int) := by omega
              exact ih25 (t + 1) (by omega) (by first | assumption | omega)
      refine T_subp (ks := [0, 2, 3, 4]) (ls' := [(0, vr 99), (2, vi h), (3, vi 0), (4, vi 0)]) rfl ?_
      exact L25 _ (0) (Nat.lt_succ_self _) (by first | assumption | omega)
    · skip
      refine T_k d_X11_placeOf_18 ?_
      -- leaf 6f.15f@19
      refine T_iret d_X11_placeOf_19 rfl ?_
      exact ⟨rfl, hBV_2, fV_2, _, rfl, ⟨by omega, by omega⟩, gd_y h6.1 ⟨c, ch, sl, by show _ = mbW ch (aN b k Ks nk c) h; unfold mbW mbI; rw [if_pos (by omega), if_neg (fun z => by rw [z.2] at h15; exact absurd h15 (by decide))]⟩, ld, q0.2⟩
set_option maxHeartbeats 1000000 in
set_option maxRecDepth 100000 in
theorem R_X11_pair {G : GG} {V : VV} {R : RR} {k : Int} {g : Int} {h : Int} {w : Int} {b : Bk} {Ks : Nat → Kd} {nk : Nat} (hB : Bd V) (hF : FinR R) (bMV : bM b V) (hob : okB b Ks nk) (him : imB Ks nk V) (hld : ldM b Ks nk V) (h_k : r32 k) (h_g : r32 g) (h_h : r32 h) (h_w : r32 w) : Runs G M_X11_pair 44 162 162 [vr 99, vi k, vi g, vi h, vi w] V R (obsM b Ks nk V R (gd ((0 ≤ w ∧ w ≤ 1) ∧ K4 k) (-1) (o2 b Ks nk k (paW b Ks nk k g h w)))) := by
  refine Runs.of pn_X11 (Nat.le_of_ble_eq_true rfl) rfl ?_
  show TT G M_X11_pair (rmd 44 162 162) 162 (Zm G 162 162 (obsM b Ks nk V R (gd ((0 ≤ w ∧ w ≤ 1) ∧ K4 k) (-1) (o2 b Ks nk k (paW b Ks nk k g h w))))) 162 0 [(0, vr 99), (1, vi k), (2, vi g), (3, vi h), (4, vi w)] [] V R
  obtain ⟨h_k1, h_k2⟩ := h_k
  obtain ⟨h_g1, h_g2⟩ := h_g
  obtain ⟨h_h1, h_h2⟩ := h_h
  obtain ⟨h_w1, h_w2⟩ := h_w
  have fV : chg [(128, 161)] [(99, 1, 1), (99, 45, 49), (99, 57, 57), (99, 72, 87), (99, 97, 97)] V V := chg_r
  refine T_al d_X11_pair_0 rfl ?_
  refine T_il d_X11_pair_1 rfl ?_
  refine T_il d_X11_pair_2 rfl ?_
  refine C_v2 d_X11_pair_3 rfl (hdF (by omega)) (hcF _) (R_X11_placeOf (b := b) (Ks := Ks) (nk := nk) (k := k) (h := g) hB hF bMV hob (imB_c him fV) hld ⟨by omega, by omega⟩ ⟨by omega, by omega⟩) (fun r_1 V_2 R_3 qV_2 => ?_)
  obtain ⟨rfl, hBV_2, cV_2, vv3, rfl, pV_2⟩ := qV_2
  have fV_2 := chg_t (A := [(128, 161)]) (F := [(99, 1, 1), (99, 45, 49), (99, 57, 57), (99, 72, 87), (99, 97, 97)]) fV cV_2 rfl
  have bMV_2 := bM_c bMV fV_2 rfl
  have pg := pV_2
  have ldg := pV_2.2.2.1
  refine T_is d_X11_pair_6 (ls' := [(0, vr 99), (1, vi k), (2, vi g), (3, vi h), (4, vi w), (5, vi vv3)]) rfl ?_
  refine T_al d_X11_pair_8 rfl ?_
  refine T_il d_X11_pair_9 rfl ?_
  refine T_il d_X11_pair_10 rfl ?_
  refine C_v2 d_X11_pair_11 rfl (hdF (by omega)) (hcF _) (R_X11_placeOf (b := b) (Ks := Ks) (nk := nk) (k := k) (h := h) hBV_2 hF bMV_2 hob (imB_c him fV_2) ldg ⟨by omega, by omega⟩ ⟨by omega, by omega⟩) (fun r_4 V_5 R_6 qV_5 => ?_)
  obtain ⟨rfl, hBV_5, cV_5, vv6, rfl, pV_5⟩ := qV_5
  have fV_5 := chg_t (A := [(128, 161)]) (F := [(99, 1, 1), (99, 45, 49), (99, 57, 57), (99, 72, 87), (99, 97, 97)]) fV_2 cV_5 rfl
  have bMV_5 := bM_c bMV fV_5 rfl
  have ph := pV_5
  have ld := pV_5.2.2.1
  refine T_is d_X11_pair_14 (ls' := [(0, vr 99), (1, vi k), (2, vi g), (3, vi h), (4, vi w), (5, vi vv3), (6, vi vv6)]) rfl ?_
  refine T_il d_X11_pair_16 rfl ?_
  refine T_k d_X11_pair_18 ?_
  refine T_ieq d_X11_pair_19 ⟨by omega, by omega⟩ ⟨by omega, by omega⟩ (fun h19 => ?_) (fun h19 => ?_)
  · skip
    refine T_k d_X11_pair_38 ?_
    -- leaf 19t@39
    refine T_iret d_X11_pair_39 rfl ?_
    exact ⟨rfl, hBV_5, fV_5, ld, _, rfl, ⟨by omega, by omega⟩, pa_1 pg.2.1 ph.2.1 (Or.inl h19)⟩
  · skip
    refine T_il d_X11_pair_22 rfl ?_
    refine T_k d_X11_pair_24 ?_
    refine T_ieq d_X11_pair_25 ⟨by omega, by omega⟩ ⟨by omega, by omega⟩ (fun h25 => ?_) (fun h25 => ?_)
    · skip
      refine T_k d_X11_pair_38 ?_
      -- leaf 19f.25t@39
      refine T_iret d_X11_pair_39 rfl ?_
      exact ⟨rfl, hBV_5, fV_5, ld, _, rfl, ⟨by omega, by omega⟩, pa_1 pg.2.1 ph.2.1 (Or.inr (Or.inl h25))⟩
    · skip
      refine T_il d_X11_pair_28 rfl ?_
      refine T_k d_X11_pair_30 ?_
      refine T_k d_X11_pair_31 ?_
      refine C_ps3 d_X11_pair_32 (hdF (by omega)) (hcF _) (R_X11_in ⟨by omega, by omega⟩ ⟨by omega, by omega⟩ ⟨by omega, by omega⟩) ?_
      refine T_pz1 d_X11_pair_35 (fun h35 => ?_) (fun h35 => ?_)
      · skip
        refine T_il d_X11_pair_40 rfl ?_
        refine T_il d_X11_pair_42 rfl ?_
        refine T_ine d_X11_pair_44 ⟨by omega, by omega⟩ ⟨by omega, by omega⟩ (fun h44 => ?_) (fun h44 => ?_)
        · skip
          have hK : K4 k := Classical.byContradiction fun z => h19 (pg.2.1.2 z)
          obtain ⟨c, ch, l1, l2, l3, l4, l5, l6, l7, l8, l9, l10, l11⟩ := (ph.2.2.2 hK).2
          have sl : sel b Ks nk k c ch := ⟨l1, l4⟩
          have h13 := a_13 (ch := ch) hob.1 hob.2.2.2 l4.1
          have h13c : chN ch (aN b k Ks nk c) ≤ 13 := h13
          have e5 : vv3 = mbW ch (aN b k Ks nk c) g := o2_at (pg.2.1.1 hK) sl
          have e6 : vv6 = mbW ch (aN b k Ks nk c) h := o2_at (ph.2.1.1 hK) sl
          obtain ⟨A, A1, A2⟩ := (mbW_r (ch := ch) (N := aN b k Ks nk c) (x := g)).resolve_left (by omega)
          obtain ⟨E, E1, E2⟩ := (mbW_r (ch := ch) (N := aN b k Ks nk c) (x := h)).resolve_left (by omega)
          have x3 := l8.1 A E A1 E1
          have x2 := l8.2 A E A1 E1
          have pw : paW b Ks nk k g h w c ch = bi (if w = 0 then aMt b k Ks nk c ch A E else aLt b k Ks nk c ch A E) := by unfold paW; rw [if_neg (by omega), A2, E2, Int.toNat_natCast, Int.toNat_natCast]
          have ix : (24 * vv3 + vv6).toNat = 24 * A + E := by omega
          refine T_il d_X11_pair_51 rfl ?_
          refine T_zne d_X11_pair_53 ⟨by omega, by omega⟩ (fun h53 => ?_) (fun h53 => ?_)
          · skip
            refine T_al d_X11_pair_75 rfl ?_
            refine F_gr (b := 152) d_X11_pair_76 rfl hF rfl ?_
            refine T_k d_X11_pair_79 ?_
            refine T_il d_X11_pair_81 rfl ?_
            refine T_imul d_X11_pair_83 ?_
            refine T_il d_X11_pair_84 rfl ?_
            refine T_iadd d_X11_pair_86 ?_
            refine F_za d_X11_pair_87 rfl hBV_5 rfl ⟨by omega, by omega⟩ (fun b_7 => ?_)
            try simp only [Int.toNat_natCast]
            try simp only [Int.toNat_natCast] at b_7
            rw [ix, x2]
            refine T_zeq d_X11_pair_88 (bi_r _) (fun h88 => ?_) (fun h88 => ?_)
            · skip
              refine T_k d_X11_pair_95 ?_
              -- leaf 19f.25f.35t.44t.53t.88t@96
              refine T_iret d_X11_pair_96 rfl ?_
              exact ⟨rfl, hBV_5, fV_5, ld, _, rfl, ⟨by omega, by omega⟩, gd_y ⟨h35, hK⟩ ⟨c, ch, sl, by rw [pw, if_neg h53]; exact h88.symm⟩⟩
            · skip
              refine T_k d_X11_pair_91 ?_
              refine T_go d_X11_pair_92 ?_
              -- leaf 19f.25f.35t.44t.53t.88f@96
              refine T_iret d_X11_pair_96 rfl ?_
              exact ⟨rfl, hBV_5, fV_5, ld, _, rfl, ⟨by omega, by omega⟩, gd_y ⟨h35, hK⟩ ⟨c, ch, sl, by rw [pw, if_neg h53, bi_n.mp h88]; rfl⟩⟩
          · skip
            refine T_al d_X11_pair_56 rfl ?_
            refine F_gr (b := 153) d_X11_pair_57 rfl hF rfl ?_
            refine T_k d_X11_pair_60 ?_
            refine T_il d_X11_pair_62 rfl ?_
            refine T_imul d_X11_pair_64 ?_
            refine T_il d_X11_pair_65 rfl ?_
            refine T_iadd d_X11_pair_67 ?_
            refine F_za d_X11_pair_68 rfl hBV_5 rfl ⟨by omega, by omega⟩ (fun b_8 => ?_)
            try simp only [Int.toNat_natCast]
            try simp only [Int.toNat_natCast] at b_8
            rw [ix, x3]
            refine T_zeq d_X11_pair_69 (bi_r _) (fun h69 => ?_) (fun h69 => ?_)
            · skip
              refine T_k d_X11_pair_95 ?_
              -- leaf 19f.25f.35t.44t.53f.69t@96
              refine T_iret d_X11_pair_96 rfl ?_
              exact ⟨rfl, hBV_5, fV_5, ld, _, rfl, ⟨by omega, by omega⟩, gd_y ⟨h35, hK⟩ ⟨c, ch, sl, by rw [pw, if_pos h53]; exact h69.symm⟩⟩
            · skip
              refine T_go d_X11_pair_72 ?_
              refine T_k d_X11_pair_91 ?_
              refine T_go d_X11_pair_92 ?_
              -- leaf 19f.25f.35t.44t.53f.69f@96
              refine T_iret d_X11_pair_96 rfl ?_
              exact ⟨rfl, hBV_5, fV_5, ld, _, rfl, ⟨by omega, by omega⟩, gd_y ⟨h35, hK⟩ ⟨c, ch, sl, by rw [pw, if_pos h53, bi_n.mp h69]; rfl⟩⟩
        · skip
          refine T_k d_X11_pair_47 ?_
          refine T_go d_X11_pair_48 ?_
          -- leaf 19f.25f.35t.44f@96
          refine T_iret d_X11_pair_96 rfl ?_
          exact ⟨rfl, hBV_5, fV_5, ld, _, rfl, ⟨by omega, by omega⟩, pa_1 pg.2.1 ph.2.1 (Or.inr (Or.inr h44))⟩
      · skip
        refine T_k d_X11_pair_38 ?_
        -- leaf 19f.25f.35f@39
        refine T_iret d_X11_pair_39 rfl ?_
        exact ⟨rfl, hBV_5, fV_5, ld, _, rfl, ⟨by omega, by omega⟩, gd_n (fun z => h35 z.1)⟩
set_option maxHeartbeats 1000000 in
set_option maxRecDepth 100000 in
theorem R_X11_phases {G : GG} {V : VV} {R : RR} {k : Int} {w : Int} {b : Bk} {Ks : Nat → Kd} {nk : Nat} (hB : Bd V) (hF : FinR R) (bMV : bM b V) (hob : okB b Ks nk) (him : imB Ks nk V) (hld : ldM b Ks nk V) (h_k : r32 k) (h_w : r32 w) : Runs G M_X11_phases 44 162 162 [vr 99, vi k, vi w] V R (obsM b Ks nk V R (gd ((0 ≤ w ∧ w ≤ 1) ∧ K4 k) (-1) (o4 b Ks nk k w))) := by
  refine Runs.of pn_X11 (Nat.le_of_ble_eq_true rfl) rfl ?_
  show TT G M_X11_phases (rmd 44 162 162) 162 (Zm G 162 162 (obsM b Ks nk V R (gd ((0 ≤ w ∧ w ≤ 1) ∧ K4 k) (-1) (o4 b Ks nk k w)))) 162 0 [(0, vr 99), (1, vi k), (2, vi w)] [] V R
  obtain ⟨h_k1, h_k2⟩ := h_k
  obtain ⟨h_w1, h_w2⟩ := h_w
  have fV : chg [(128, 161)] [(99, 1, 1), (99, 45, 49), (99, 57, 57), (99, 72, 87), (99, 97, 97)] V V := chg_r
  refine T_il d_X11_phases_0 rfl ?_
  refine C_ps1 d_X11_phases_1 (hdF (by omega)) (hcF _) (R_X11_isWeek ⟨by omega, by omega⟩) ?_
  refine T_pz0 d_X11_phases_4 (fun h4 => ?_) (fun h4 => ?_)
  · skip
    refine T_k d_X11_phases_16 ?_
    -- leaf 4t@17
    refine T_iret d_X11_phases_17 rfl ?_
    exact ⟨rfl, hB, fV, hld, _, rfl, ⟨by omega, by omega⟩, gd_n (fun z => h4 z.2)⟩
  · skip
    refine T_il d_X11_phases_7 rfl ?_
    refine T_k d_X11_phases_8 ?_
    refine T_k d_X11_phases_9 ?_
    refine C_ps3 d_X11_phases_10 (hdF (by omega)) (hcF _) (R_X11_in ⟨by omega, by omega⟩ ⟨by omega, by omega⟩ ⟨by omega, by omega⟩) ?_
    refine T_pz1 d_X11_phases_13 (fun h13 => ?_) (fun h13 => ?_)
    · skip
      refine T_al d_X11_phases_18 rfl ?_
      refine T_il d_X11_phases_19 rfl ?_
      refine C_v1 d_X11_phases_20 rfl (hdF (by omega)) (hcF _) (R_X11_lays (b := b) (Ks := Ks) (nk := nk) (k := k) hB hF bMV hob him h4 (ld_h hld h4.1)) (fun r_1 V_2 R_3 qV_2 => ?_)
      obtain ⟨rfl, hBV_2, cV_2, rfl, pV_2⟩ := qV_2
      have fV_2 := chg_t (A := [(128, 161)]) (F := [(99, 1, 1), (99, 45, 49), (99, 57, 57), (99, 72, 87), (99, 97, 97)]) fV cV_2 rfl
      have bMV_2 := bM_c bMV fV_2 rfl
      have lk := pV_2
      have ld := ld_n h4 lk.1 lk.2
      obtain ⟨_, c, ch, l1, l2, l3, l4, l5, l6, l7, l8, l9, l10, l11⟩ := lk
      have sl : sel b Ks nk k c ch := ⟨l1, l4⟩
      have lv := lstV_of l3
      have XB := hBV_2
      have fX := fV_2
      refine T_al d_X11_phases_23 rfl ?_
      refine F_gi d_X11_phases_24 rfl hBV_2 rfl (fun b_4 => ?_)
      refine T_zne d_X11_phases_27 ⟨by omega, by omega⟩ (fun h27 => ?_) (fun h27 => ?_)
      · skip
        refine T_il d_X11_phases_34 rfl ?_
        refine T_zne d_X11_phases_35 ⟨by omega, by omega⟩ (fun h35 => ?_) (fun h35 => ?_)
        · skip
          refine T_al d_X11_phases_45 rfl ?_
          refine F_gi d_X11_phases_46 rfl hBV_2 rfl (fun b_5 => ?_)
          -- leaf 4f.13t.27t.35t@49
          refine T_iret d_X11_phases_49 rfl ?_
          exact ⟨rfl, hBV_2, fV_2, ld, _, rfl, ⟨by omega, by omega⟩, gd_y ⟨h13, h4⟩ ⟨c, ch, _, _, _, _, sl, l9, by rw [if_neg h27, if_neg h35]⟩⟩
        · skip
          refine T_al d_X11_phases_38 rfl ?_
          refine F_gi d_X11_phases_39 rfl hBV_2 rfl (fun b_6 => ?_)
          refine T_go d_X11_phases_42 ?_
          -- leaf 4f.13t.27t.35f@49
          refine T_iret d_X11_phases_49 rfl ?_
          exact ⟨rfl, hBV_2, fV_2, ld, _, rfl, ⟨by omega, by omega⟩, gd_y ⟨h13, h4⟩ ⟨c, ch, _, _, _, _, sl, l9, by rw [if_neg h27, if_pos h35]⟩⟩
      · skip
        refine T_k d_X11_phases_30 ?_
        refine T_go d_X11_phases_31 ?_
        -- leaf 4f.13t.27f@49
        refine T_iret d_X11_phases_49 rfl ?_
        exact ⟨rfl, hBV_2, fV_2, ld, _, rfl, ⟨by omega, by omega⟩, gd_y ⟨h13, h4⟩ ⟨c, ch, _, _, _, _, sl, l9, (if_pos h27).symm⟩⟩
    · skip
      refine T_k d_X11_phases_16 ?_
      -- leaf 4f.13f@17
      refine T_iret d_X11_phases_17 rfl ?_
      exact ⟨rfl, hB, fV, hld, _, rfl, ⟨by omega, by omega⟩, gd_n (fun z => h13 z.1)⟩
set_option maxHeartbeats 1000000 in
set_option maxRecDepth 100000 in
theorem R_X11_phase {G : GG} {V : VV} {R : RR} {k : Int} {h : Int} {b : Bk} {Ks : Nat → Kd} {nk : Nat} (hB : Bd V) (hF : FinR R) (bMV : bM b V) (hob : okB b Ks nk) (him : imB Ks nk V) (hld : ldM b Ks nk V) (h_k : r32 k) (h_h : r32 h) : Runs G M_X11_phase 44 162 162 [vr 99, vi k, vi h] V R (obsM b Ks nk V R (gd (K4 k) (-1) (o6 b Ks nk k h))) := by
  refine Runs.of pn_X11 (Nat.le_of_ble_eq_true rfl) rfl ?_
  show TT G M_X11_phase (rmd 44 162 162) 162 (Zm G 162 162 (obsM b Ks nk V R (gd (K4 k) (-1) (o6 b Ks nk k h)))) 162 0 [(0, vr 99), (1, vi k), (2, vi h)] [] V R
  obtain ⟨h_k1, h_k2⟩ := h_k
  obtain ⟨h_h1, h_h2⟩ := h_h
  have fV : chg [(128, 161)] [(99, 1, 1), (99, 45, 49), (99, 57, 57), (99, 72, 87), (99, 97, 97)] V V := chg_r
  refine T_al d_X11_phase_0 rfl ?_
  refine T_il d_X11_phase_1 rfl ?_
  refine T_il d_X11_phase_2 rfl ?_
  refine C_v2 d_X11_phase_3 rfl (hdF (by omega)) (hcF _) (R_X11_placeOf (b := b) (Ks := Ks) (nk := nk) (k := k) (h := h) hB hF bMV hob (imB_c him fV) hld ⟨by omega, by omega⟩ ⟨by omega, by omega⟩) (fun r_1 V_2 R_3 qV_2 => ?_)
  obtain ⟨rfl, hBV_2, cV_2, vv3, rfl, pV_2⟩ := qV_2
  have fV_2 := chg_t (A := [(128, 161)]) (F := [(99, 1, 1), (99, 45, 49), (99, 57, 57), (99, 72, 87), (99, 97, 97)]) fV cV_2 rfl
  have bMV_2 := bM_c bMV fV_2 rfl
  have ph := pV_2
  have ld := pV_2.2.2.1
  refine T_is d_X11_phase_6 (ls' := [(0, vr 99), (1, vi k), (2, vi h), (3, vi vv3)]) rfl ?_
  refine T_il d_X11_phase_7 rfl ?_
  refine T_k d_X11_phase_8 ?_
  refine T_ieq d_X11_phase_9 ⟨by omega, by omega⟩ ⟨by omega, by omega⟩ (fun h9 => ?_) (fun h9 => ?_)
  · skip
    refine T_k d_X11_phase_19 ?_
    refine T_go d_X11_phase_20 ?_
    -- leaf 9t@29
    refine T_iret d_X11_phase_29 rfl ?_
    exact ⟨rfl, hBV_2, fV_2, ld, _, rfl, ⟨by omega, by omega⟩, ph_1 ph.2.1 (fun z => (ph.2.2.2 z).2) (Or.inl h9)⟩
  · skip
    refine T_al d_X11_phase_12 rfl ?_
    refine F_gi d_X11_phase_13 rfl hBV_2 rfl (fun b_4 => ?_)
    refine T_zne d_X11_phase_16 ⟨by omega, by omega⟩ (fun h16 => ?_) (fun h16 => ?_)
    · skip
      have hK : K4 k := Classical.byContradiction fun z => h9 (ph.2.1.2 z)
      obtain ⟨c, ch, l1, l2, l3, l4, l5, l6, l7, l8, l9, l10, l11⟩ := (ph.2.2.2 hK).2
      have sl : sel b Ks nk k c ch := ⟨l1, l4⟩
      have h13 := a_13 (ch := ch) hob.1 hob.2.2.2 l4.1
      have h13c : chN ch (aN b k Ks nk c) ≤ 13 := h13
      have e5 : vv3 = mbW ch (aN b k Ks nk c) h := o2_at (ph.2.1.1 hK) sl
      refine T_al d_X11_phase_23 rfl ?_
      refine F_gr (b := 155) d_X11_phase_24 rfl hF rfl ?_
      refine T_il d_X11_phase_27 rfl ?_
      refine F_ia d_X11_phase_28 rfl hBV_2 rfl ⟨by omega, by omega⟩ (fun b_5 => ?_)
      try simp only [Int.toNat_natCast]
      try simp only [Int.toNat_natCast] at b_5
      -- leaf 9f.16t@29
      refine T_iret d_X11_phase_29 rfl ?_
      exact ⟨rfl, hBV_2, fV_2, ld, _, rfl, ⟨by omega, by omega⟩, gd_y hK ⟨c, ch, _, _, _, _, sl, l9, by rw [if_neg (fun z => z.elim (fun y => h9 (e5.trans y)) h16), e5]⟩⟩
    · skip
      refine T_k d_X11_phase_19 ?_
      refine T_go d_X11_phase_20 ?_
      -- leaf 9f.16f@29
      refine T_iret d_X11_phase_29 rfl ?_
      exact ⟨rfl, hBV_2, fV_2, ld, _, rfl, ⟨by omega, by omega⟩, ph_1 ph.2.1 (fun z => (ph.2.2.2 z).2) (Or.inr h16)⟩
set_option maxHeartbeats 1000000 in
set_option maxRecDepth 100000 in
theorem R_X11_start {G : GG} {V : VV} {R : RR} {k : Int} {h : Int} {w : Int} {b : Bk} {Ks : Nat → Kd} {nk : Nat} (hB : Bd V) (hF : FinR R) (bMV : bM b V) (hob : okB b Ks nk) (him : imB Ks nk V) (hld : ldM b Ks nk V) (h_k : r32 k) (h_h : r32 h) (h_w : r32 w) : Runs G M_X11_start 44 162 162 [vr 99, vi k, vi h, vi w] V R (obsM b Ks nk V R (gd ((0 ≤ w ∧ w ≤ 1) ∧ K4 k) (-1) (o7 b Ks nk k h w))) := by
  refine Runs.of pn_X11 (Nat.le_of_ble_eq_true rfl) rfl ?_
  show TT G M_X11_start (rmd 44 162 162) 162 (Zm G 162 162 (obsM b Ks nk V R (gd ((0 ≤ w ∧ w ≤ 1) ∧ K4 k) (-1) (o7 b Ks nk k h w)))) 162 0 [(0, vr 99), (1, vi k), (2, vi h), (3, vi w)] [] V R
  obtain ⟨h_k1, h_k2⟩ := h_k
  obtain ⟨h_h1, h_h2⟩ := h_h
  obtain ⟨h_w1, h_w2⟩ := h_w
  have fV : chg [(128, 161)] [(99, 1, 1), (99, 45, 49), (99, 57, 57), (99, 72, 87), (99, 97, 97)] V V := chg_r
  refine T_al d_X11_start_0 rfl ?_
  refine T_il d_X11_start_1 rfl ?_
  refine T_il d_X11_start_2 rfl ?_
  refine C_v2 d_X11_start_3 rfl (hdF (by omega)) (hcF _) (R_X11_placeOf (b := b) (Ks := Ks) (nk := nk) (k := k) (h := h) hB hF bMV hob (imB_c him fV) hld ⟨by omega, by omega⟩ ⟨by omega, by omega⟩) (fun r_1 V_2 R_3 qV_2 => ?_)
  obtain ⟨rfl, hBV_2, cV_2, vv3, rfl, pV_2⟩ := qV_2
  have fV_2 := chg_t (A := [(128, 161)]) (F := [(99, 1, 1), (99, 45, 49), (99, 57, 57), (99, 72, 87), (99, 97, 97)]) fV cV_2 rfl
  have bMV_2 := bM_c bMV fV_2 rfl
  have ph := pV_2
  have ld := pV_2.2.2.1
  refine T_is d_X11_start_6 (ls' := [(0, vr 99), (1, vi k), (2, vi h), (3, vi w), (4, vi vv3)]) rfl ?_
  refine T_il d_X11_start_8 rfl ?_
  refine T_k d_X11_start_10 ?_
  refine T_ieq d_X11_start_11 ⟨by omega, by omega⟩ ⟨by omega, by omega⟩ (fun h11 => ?_) (fun h11 => ?_)
  · skip
    refine T_k d_X11_start_30 ?_
    -- leaf 11t@31
    refine T_iret d_X11_start_31 rfl ?_
    exact ⟨rfl, hBV_2, fV_2, ld, _, rfl, ⟨by omega, by omega⟩, st_1 ph.2.1 (fun z => (ph.2.2.2 z).2) (Or.inl h11)⟩
  · skip
    refine T_al d_X11_start_14 rfl ?_
    refine F_gi d_X11_start_15 rfl hBV_2 rfl (fun b_4 => ?_)
    refine T_zeq d_X11_start_18 ⟨by omega, by omega⟩ (fun h18 => ?_) (fun h18 => ?_)
    · skip
      refine T_k d_X11_start_30 ?_
      -- leaf 11f.18t@31
      refine T_iret d_X11_start_31 rfl ?_
      exact ⟨rfl, hBV_2, fV_2, ld, _, rfl, ⟨by omega, by omega⟩, st_1 ph.2.1 (fun z => (ph.2.2.2 z).2) (Or.inr h18)⟩
    · skip
      refine T_il d_X11_start_21 rfl ?_
      refine T_k d_X11_start_22 ?_
      refine T_k d_X11_start_23 ?_
      refine C_ps3 d_X11_start_24 (hdF (by omega)) (hcF _) (R_X11_in ⟨by omega, by omega⟩ ⟨by omega, by omega⟩ ⟨by omega, by omega⟩) ?_
      refine T_pz1 d_X11_start_27 (fun h27 => ?_) (fun h27 => ?_)
      · skip
        have hK : K4 k := Classical.byContradiction fun z => h11 (ph.2.1.2 z)
        obtain ⟨c, ch, l1, l2, l3, l4, l5, l6, l7, l8, l9, l10, l11⟩ := (ph.2.2.2 hK).2
        have sl : sel b Ks nk k c ch := ⟨l1, l4⟩
        have h13 := a_13 (ch := ch) hob.1 hob.2.2.2 l4.1
        have h13c : chN ch (aN b k Ks nk c) ≤ 13 := h13
        have e5 : vv3 = mbW ch (aN b k Ks nk c) h := o2_at (ph.2.1.1 hK) sl
        obtain ⟨A, A1, A2⟩ := (mbW_r (ch := ch) (N := aN b k Ks nk c) (x := h)).resolve_left (by omega)
        have rA := (sta_r hob l9 l10 h18 h13).2 A A1
        have eA : (vv3).toNat = A := by omega
        refine T_il d_X11_start_32 rfl ?_
        refine T_zne d_X11_start_33 ⟨by omega, by omega⟩ (fun h33 => ?_) (fun h33 => ?_)
        · skip
          refine T_al d_X11_start_46 rfl ?_
          refine F_gr (b := 157) d_X11_start_47 rfl hF rfl ?_
          refine T_il d_X11_start_50 rfl ?_
          refine F_ian d_X11_start_52 rfl ⟨by omega, by omega⟩ ?_
          try simp only [Int.toNat_natCast]
          -- leaf 11f.18f.27t.33t@53
          refine T_iret d_X11_start_53 rfl ?_
          exact ⟨rfl, hBV_2, fV_2, ld, _, rfl, ⟨by rw [eA]; omega, by rw [eA]; omega⟩, gd_y ⟨h27, hK⟩ ⟨c, ch, _, _, _, _, _, _, _, sl, l9, l10, by rw [if_neg (fun z => z.elim (fun y => h11 (e5.trans y)) h18), if_neg h33, e5]⟩⟩
        · skip
          refine T_al d_X11_start_36 rfl ?_
          refine F_gr (b := 156) d_X11_start_37 rfl hF rfl ?_
          refine T_il d_X11_start_40 rfl ?_
          refine F_ian d_X11_start_42 rfl ⟨by omega, by omega⟩ ?_
          try simp only [Int.toNat_natCast]
          refine T_go d_X11_start_43 ?_
          -- leaf 11f.18f.27t.33f@53
          refine T_iret d_X11_start_53 rfl ?_
          exact ⟨rfl, hBV_2, fV_2, ld, _, rfl, ⟨by rw [eA]; omega, by rw [eA]; omega⟩, gd_y ⟨h27, hK⟩ ⟨c, ch, _, _, _, _, _, _, _, sl, l9, l10, by rw [if_neg (fun z => z.elim (fun y => h11 (e5.trans y)) h18), if_pos h33, e5]⟩⟩
      · skip
        refine T_k d_X11_start_30 ?_
        -- leaf 11f.18f.27f@31
        refine T_iret d_X11_start_31 rfl ?_
        exact ⟨rfl, hBV_2, fV_2, ld, _, rfl, ⟨by omega, by omega⟩, gd_n (fun z => h27 z.1)⟩
set_option maxHeartbeats 1000000 in
set_option maxRecDepth 100000 in
theorem R_X11_fences {G : GG} {V : VV} {R : RR} {k : Int} {b : Bk} {Ks : Nat → Kd} {nk : Nat} (hB : Bd V) (hF : FinR R) (bMV : bM b V) (hob : okB b Ks nk) (him : imB Ks nk V) (hld : ldM b Ks nk V) (h_k : r32 k) : Runs G M_X11_fences 44 162 162 [vr 99, vi k] V R (obsM b Ks nk V R (gd (K4 k) (-1) (o2 b Ks nk k (fun c ch => ((fnS (spS b k c) (lz0 (aL b k Ks nk c) ch (aN b k Ks nk c)) 40).1 : Int))))) := by
  refine Runs.of pn_X11 (Nat.le_of_ble_eq_true rfl) rfl ?_
  show TT G M_X11_fences (rmd 44 162 162) 162 (Zm G 162 162 (obsM b Ks nk V R (gd (K4 k) (-1) (o2 b Ks nk k (fun c ch => ((fnS (spS b k c) (lz0 (aL b k Ks nk c) ch (aN b k Ks nk c)) 40).1 : Int)))))) 162 0 [(0, vr 99), (1, vi k)] [] V R
  obtain ⟨h_k1, h_k2⟩ := h_k
  have fV : chg [(128, 161)] [(99, 1, 1), (99, 45, 49), (99, 57, 57), (99, 72, 87), (99, 97, 97)] V V := chg_r
  refine T_il d_X11_fences_0 rfl ?_
  refine C_ps1 d_X11_fences_1 (hdF (by omega)) (hcF _) (R_X11_isWeek ⟨by omega, by omega⟩) ?_
  refine T_pz1 d_X11_fences_4 (fun h4 => ?_) (fun h4 => ?_)
  · skip
    refine T_al d_X11_fences_9 rfl ?_
    refine T_il d_X11_fences_10 rfl ?_
    refine C_v1 d_X11_fences_11 rfl (hdF (by omega)) (hcF _) (R_X11_lays (b := b) (Ks := Ks) (nk := nk) (k := k) hB hF bMV hob him h4 (ld_h hld h4.1)) (fun r_1 V_2 R_3 qV_2 => ?_)
    obtain ⟨rfl, hBV_2, cV_2, rfl, pV_2⟩ := qV_2
    have fV_2 := chg_t (A := [(128, 161)]) (F := [(99, 1, 1), (99, 45, 49), (99, 57, 57), (99, 72, 87), (99, 97, 97)]) fV cV_2 rfl
    have bMV_2 := bM_c bMV fV_2 rfl
    have lk := pV_2
    have ld := ld_n h4 lk.1 lk.2
    obtain ⟨_, c, ch, l1, l2, l3, l4, l5, l6, l7, l8, l9, l10, l11⟩ := lk
    have sl : sel b Ks nk k c ch := ⟨l1, l4⟩
    have lv := lstV_of l3
    have XB := hBV_2
    have fX := fV_2
    refine T_al d_X11_fences_14 rfl ?_
    refine F_gi d_X11_fences_15 rfl hBV_2 rfl (fun b_4 => ?_)
    -- leaf 4t@18
    refine T_iret d_X11_fences_18 rfl ?_
    exact ⟨rfl, hBV_2, fV_2, ld, _, rfl, ⟨by omega, by omega⟩, gd_y h4 ⟨c, ch, sl, l11.1⟩⟩
  · skip
    refine T_k d_X11_fences_7 ?_
    -- leaf 4f@8
    refine T_iret d_X11_fences_8 rfl ?_
    exact ⟨rfl, hB, fV, hld, _, rfl, ⟨by omega, by omega⟩, gd_n (fun z => h4 z)⟩
set_option maxHeartbeats 1000000 in
set_option maxRecDepth 100000 in
theorem R_X11_led {G : GG} {V : VV} {R : RR} {h : Int} {k : Int} {w : Int} {b : Bk} {Ks : Nat → Kd} {nk : Nat} (hB : Bd V) (hF : FinR R) (bMV : bM b V) (hob : okB b Ks nk) (him : imB Ks nk V) (hld : ldM b Ks nk V) (h_h : r32 h) (h_k : r32 k) (h_w : r32 w) : Runs G M_X11_led 44 162 162 [vr 99, vi h, vi k, vi w] V R (obsM b Ks nk V R (gd ((0 ≤ h ∧ h < (b.n : Int)) ∧ (0 ≤ w ∧ w ≤ 1) ∧ K4 k) (-1) (o2 b Ks nk k (leW b Ks nk k h.toNat w)))) := by
  refine Runs.of pn_X11 (Nat.le_of_ble_eq_true rfl) rfl ?_
  show TT G M_X11_led (rmd 44 162 162) 162 (Zm G 162 162 (obsM b Ks nk V R (gd ((0 ≤ h ∧ h < (b.n : Int)) ∧ (0 ≤ w ∧ w ≤ 1) ∧ K4 k) (-1) (o2 b Ks nk k (leW b Ks nk k h.toNat w))))) 162 0 [(0, vr 99), (1, vi h), (2, vi k), (3, vi w)] [] V R
  obtain ⟨h_h1, h_h2⟩ := h_h
  obtain ⟨h_k1, h_k2⟩ := h_k
  obtain ⟨h_w1, h_w2⟩ := h_w
  have fV : chg [(128, 161)] [(99, 1, 1), (99, 45, 49), (99, 57, 57), (99, 72, 87), (99, 97, 97)] V V := chg_r
  have hn := bMV.n
  refine T_al d_X11_led_0 rfl ?_
  refine T_il d_X11_led_1 rfl ?_
  refine C_pv1 d_X11_led_2 rfl (hdF (by omega)) (hcF _) (R_X11_isHole hB ⟨by omega, by omega⟩) ?_
  refine T_pz0 d_X11_led_5 (fun h5 => ?_) (fun h5 => ?_)
  · skip
    refine T_k d_X11_led_24 ?_
    -- leaf 5t@25
    refine T_iret d_X11_led_25 rfl ?_
    exact ⟨rfl, hB, fV, hld, _, rfl, ⟨by omega, by omega⟩, gd_n (fun z => h5 (by rw [hn]; exact z.1))⟩
  · skip
    refine T_il d_X11_led_8 rfl ?_
    refine C_ps1 d_X11_led_9 (hdF (by omega)) (hcF _) (R_X11_isWeek ⟨by omega, by omega⟩) ?_
    refine T_pz0 d_X11_led_12 (fun h12 => ?_) (fun h12 => ?_)
    · skip
      refine T_k d_X11_led_24 ?_
      -- leaf 5f.12t@25
      refine T_iret d_X11_led_25 rfl ?_
      exact ⟨rfl, hB, fV, hld, _, rfl, ⟨by omega, by omega⟩, gd_n (fun z => h12 z.2.2)⟩
    · skip
      refine T_il d_X11_led_15 rfl ?_
      refine T_k d_X11_led_16 ?_
      refine T_k d_X11_led_17 ?_
      refine C_ps3 d_X11_led_18 (hdF (by omega)) (hcF _) (R_X11_in ⟨by omega, by omega⟩ ⟨by omega, by omega⟩ ⟨by omega, by omega⟩) ?_
      refine T_pz1 d_X11_led_21 (fun h21 => ?_) (fun h21 => ?_)
      · skip
        refine T_al d_X11_led_26 rfl ?_
        refine T_il d_X11_led_27 rfl ?_
        refine C_v1 d_X11_led_28 rfl (hdF (by omega)) (hcF _) (R_X11_lays (b := b) (Ks := Ks) (nk := nk) (k := k) hB hF bMV hob him h12 (ld_h hld h12.1)) (fun r_1 V_2 R_3 qV_2 => ?_)
        obtain ⟨rfl, hBV_2, cV_2, rfl, pV_2⟩ := qV_2
        have fV_2 := chg_t (A := [(128, 161)]) (F := [(99, 1, 1), (99, 45, 49), (99, 57, 57), (99, 72, 87), (99, 97, 97)]) fV cV_2 rfl
        have bMV_2 := bM_c bMV fV_2 rfl
        have lk := pV_2
        have ld := ld_n h12 lk.1 lk.2
        obtain ⟨_, c, ch, l1, l2, l3, l4, l5, l6, l7, l8, l9, l10, l11⟩ := lk
        have sl : sel b Ks nk k c ch := ⟨l1, l4⟩
        have lv := lstV_of l3
        have XB := hBV_2
        have fX := fV_2
        have h5b := h5.2
        rw [hn] at h5b
        have h5a := h5.1
        have bo := hob.1
        have hn4 := bo.n
        have hh : h = ((h.toNat : Nat) : Int) := by omega
        have hb : h.toNat < b.n := by omega
        have so := so_ow (k := k) (c := c) hb
        have f130 := l2.2.2.2.1 h.toNat hb
        have b130 := XB.1 130 (-1) 39 rfl h.toNat
        have itz := R_X11_isThere (G := G) (R := R) (b := b) (k := k) hBV_2 hF bMV_2 (h := h.toNat) (by omega) ⟨by omega, by omega⟩
        rw [← hh] at itz
        have hN4 := l3.1
        have hset := (chL_of lv hBV_2).2
        refine T_al d_X11_led_31 rfl ?_
        refine F_gr (b := 130) d_X11_led_32 rfl hF rfl ?_
        refine T_il d_X11_led_35 rfl ?_
        refine F_ia d_X11_led_36 rfl hBV_2 rfl ⟨by omega, by omega⟩ (fun b_4 => ?_)
        try simp only [Int.toNat_natCast]
        try simp only [Int.toNat_natCast] at b_4
        refine F_isg d_X11_led_37 (f := fun x_5 => [(0, vr 99), (1, vi h), (2, vi k), (3, vi w), (4, vi x_5)]) (fun _ => rfl) (fun x_5 ex_5 => ?_)
        have e4 : x_5 = soO b k c h.toNat := ex_5.trans f130
        have b4 : -1 ≤ x_5 ∧ x_5 ≤ 39 := by rw [ex_5]; exact b130
        refine T_al d_X11_led_39 rfl ?_
        refine T_il d_X11_led_40 rfl ?_
        refine T_il d_X11_led_41 rfl ?_
        refine C_pv2 d_X11_led_42 rfl (hdF (by omega)) (hcF _) itz ?_
        refine T_pz0 d_X11_led_45 (fun h45 => ?_) (fun h45 => ?_)
        · skip
          have s0 : soO b k c h.toNat = -1 := Classical.byContradiction fun z => h45 (ow_thr z)
          refine T_il d_X11_led_54 rfl ?_
          refine T_k d_X11_led_55 ?_
          refine T_ine d_X11_led_56 ⟨by omega, by omega⟩ ⟨by omega, by omega⟩ (fun h56 => ?_) (fun h56 => ?_)
          · skip
            refine T_al d_X11_led_63 rfl ?_
            refine T_il d_X11_led_64 rfl ?_
            refine T_il d_X11_led_65 rfl ?_
            refine C_pv2 d_X11_led_66 rfl (hdF (by omega)) (hcF _) itz ?_
            refine T_pz0 d_X11_led_69 (fun h69 => ?_) (fun h69 => ?_)
            · skip
              refine T_k d_X11_led_76 ?_
              -- leaf 5f.12f.21t.45t.56t.69t@77
              refine T_iret d_X11_led_77 rfl ?_
              exact ⟨rfl, hBV_2, fV_2, ld, _, rfl, ⟨by omega, by omega⟩, gd_y ⟨⟨by omega, by omega⟩, h21, h12⟩ ⟨c, ch, sl, by unfold leW; rw [if_pos s0, if_neg h56, if_neg h69]⟩⟩
            · exact absurd h69 h45
          · skip
            refine T_k d_X11_led_59 ?_
            refine T_go d_X11_led_60 ?_
            -- leaf 5f.12f.21t.45t.56f@77
            refine T_iret d_X11_led_77 rfl ?_
            exact ⟨rfl, hBV_2, fV_2, ld, _, rfl, ⟨by omega, by omega⟩, gd_y ⟨⟨by omega, by omega⟩, h21, h12⟩ ⟨c, ch, sl, by unfold leW; rw [if_pos s0, if_pos h56]⟩⟩
        · skip
          refine T_il d_X11_led_48 rfl ?_
          refine T_k d_X11_led_50 ?_
          refine T_ine d_X11_led_51 ⟨by omega, by omega⟩ ⟨by omega, by omega⟩ (fun h51 => ?_) (fun h51 => ?_)
          · skip
            have so1 : soO b k c h.toNat ≠ -1 := by omega
            have sx := so.2 (fun z => so1 (so.1.mpr z))
            have f160 := l11.2 (soO b k c h.toNat).toNat (by rw [spS_m]; exact sx.2.1)
            have b160 := XB.1 160 (-1) 40 rfl (soO b k c h.toNat).toNat
            have e4n : (x_5).toNat = (soO b k c h.toNat).toNat := by rw [e4]
            refine T_k d_X11_led_78 ?_
            refine T_is d_X11_led_79 (ls' := [(0, vr 99), (1, vi h), (2, vi k), (3, vi w), (4, vi x_5), (5, vi 0)]) rfl ?_
            -- to 81 5f.12f.21t.45f.51t@81
            have L81 : ∀ (fu : Nat) (t : Nat), aN b k Ks nk c - t < fu → (t ≤ aN b k Ks nk c) → (∀ i, i < t → (ch.testBit i && ofB b k c (aL b k Ks nk c) h.toNat i) = false) → TT G M_X11_led (rmd 44 162 162) 162 (Zm G 162 162 (obsM b Ks nk V R (gd ((0 ≤ h ∧ h < (b.n : Int)) ∧ (0 ≤ w ∧ w ≤ 1) ∧ K4 k) (-1) (o2 b Ks nk k (leW b Ks nk k h.toNat w))))) 162 81 [(0, vr 99), (1, vi h), (2, vi k), (3, vi w), (4, vi x_5), (5, vi (t : Int))] [] V_2 R := by
              intro fu
              induction fu with
              | zero => intro t hm; exact absurd hm (Nat.not_lt_zero _)
              | succ fu ih81 =>
                intro t hm81 ht hno
                refine T_il d_X11_led_81 rfl ?_
                refine T_al d_X11_led_83 rfl ?_
                refine F_gi d_X11_led_84 rfl hBV_2 rfl (fun b_6 => ?_)
                rw [lv.1]
                refine T_ige d_X11_led_87 ⟨by omega, by omega⟩ ⟨by omega, by omega⟩ (fun h87 => ?_) (fun h87 => ?_)
                · skip
                  have mn : memH b k c (aL b k Ks nk c) ch (aN b k Ks nk c) h.toNat = -1 := mem_n (fun i hi => hno i (by omega))
                  refine T_al d_X11_led_134 rfl ?_
                  refine F_gr (b := 160) d_X11_led_135 rfl hF rfl ?_
                  refine T_il d_X11_led_138 rfl ?_
                  refine F_ia d_X11_led_140 rfl hBV_2 rfl ⟨by omega, by omega⟩ (fun b_7 => ?_)
                  try simp only [Int.toNat_natCast]
                  try simp only [Int.toNat_natCast] at b_7
                  rw [e4n]
                  refine T_k d_X11_led_141 ?_
                  refine T_ieq d_X11_led_142 ⟨by omega, by omega⟩ ⟨by omega, by omega⟩ (fun h142 => ?_) (fun h142 => ?_)
                  · skip
                    refine T_il d_X11_led_161 rfl ?_
                    refine T_zne d_X11_led_162 ⟨by omega, by omega⟩ (fun h162 => ?_) (fun h162 => ?_)
                    · skip
                      refine T_k d_X11_led_169 ?_
                      -- leaf 87t.142t.162t@170
                      refine T_iret d_X11_led_170 rfl ?_
                      exact ⟨rfl, hBV_2, fV_2, ld, _, rfl, ⟨by omega, by omega⟩, gd_y ⟨⟨by omega, by omega⟩, h21, h12⟩ ⟨c, ch, sl, by unfold leW; rw [if_neg so1, if_neg (fun z => z mn), if_neg (fun z => z (by rw [← f160]; exact h142)), if_neg h162]⟩⟩
                    · skip
                      refine T_k d_X11_led_165 ?_
                      refine T_go d_X11_led_166 ?_
                      -- leaf 87t.142t.162f@170
                      refine T_iret d_X11_led_170 rfl ?_
                      exact ⟨rfl, hBV_2, fV_2, ld, _, rfl, ⟨by omega, by omega⟩, gd_y ⟨⟨by omega, by omega⟩, h21, h12⟩ ⟨c, ch, sl, by unfold leW; rw [if_neg so1, if_neg (fun z => z mn), if_neg (fun z => z (by rw [← f160]; exact h142)), if_pos h162]⟩⟩
                  · skip
                    refine T_il d_X11_led_145 rfl ?_
                    refine T_zne d_X11_led_146 ⟨by omega, by omega⟩ (fun h146 => ?_) (fun h146 => ?_)
                    · skip
                      refine T_al d_X11_led_153 rfl ?_
                      refine F_gr (b := 160) d_X11_led_154 rfl hF rfl ?_
                      refine T_il d_X11_led_157 rfl ?_
                      refine F_ia d_X11_led_159 rfl hBV_2 rfl ⟨by omega, by omega⟩ (fun b_8 => ?_)
                      try simp only [Int.toNat_natCast]
                      try simp only [Int.toNat_natCast] at b_8
                      rw [e4n]
                      -- leaf 87t.142f.146t@160
                      refine T_iret d_X11_led_160 rfl ?_
                      exact ⟨rfl, hBV_2, fV_2, ld, _, rfl, ⟨by omega, by omega⟩, gd_y ⟨⟨by omega, by omega⟩, h21, h12⟩ ⟨c, ch, sl, by unfold leW; rw [if_neg so1, if_neg (fun z => z mn), if_pos (fun z => h142 (f160.trans z)), if_neg h146]; exact f160⟩⟩
                    · skip
                      refine T_k d_X11_led_149 ?_
                      refine T_go d_X11_led_150 ?_
                      -- leaf 87t.142f.146f@160
                      refine T_iret d_X11_led_160 rfl ?_
                      exact ⟨rfl, hBV_2, fV_2, ld, _, rfl, ⟨by omega, by omega⟩, gd_y ⟨⟨by omega, by omega⟩, h21, h12⟩ ⟨c, ch, sl, by unfold leW; rw [if_neg so1, if_neg (fun z => z mn), if_pos (fun z => h142 (f160.trans z)), if_pos h146]⟩⟩
                · skip
                  have l5t := l5 t (by omega)
                  have e145 : V_2 145 t = (bL (aL b k Ks nk c) t : Int) := by have z := lv.2 t (by omega) 10 (by omega); have z2 := (hset t (by omega)).2; rw [show V_2 145 t = aL b k Ks nk c t 10 from z]; exact (Int.toNat_of_nonneg z2).symm
                  refine T_al d_X11_led_90 rfl ?_
                  refine F_gr (b := 147) d_X11_led_91 rfl hF rfl ?_
                  refine T_il d_X11_led_94 rfl ?_
                  refine F_za d_X11_led_96 rfl hBV_2 rfl ⟨by omega, by omega⟩ (fun b_9 => ?_)
                  try simp only [Int.toNat_natCast]
                  try simp only [Int.toNat_natCast] at b_9
                  rw [l5t]
                  refine T_zeq d_X11_led_97 (bi_r _) (fun h97 => ?_) (fun h97 => ?_)
                  · skip
                    refine F_incg d_X11_led_128 rfl (f := fun x_10 => [(0, vr 99), (1, vi h), (2, vi k), (3, vi w), (4, vi x_5), (5, vi x_10)]) (fun _ => rfl) (fun x_10 ex_10 => ?_)
                    refine T_go d_X11_led_131 ?_
                    -- to 81 87f.97t@81
                    obtain rfl : x_10 = ((t + 1) : Int) := by omega
                    exact ih81 (t + 1) (by omega) (by first | assumption | omega) (up_all hno (by rw [bi_0.mp h97]; rfl))
                  · skip
                    refine T_al d_X11_led_100 rfl ?_
                    refine F_gr (b := 145) d_X11_led_101 rfl hF rfl ?_
                    refine T_il d_X11_led_104 rfl ?_
                    refine F_la d_X11_led_106 rfl hBV_2 rfl ⟨by omega, by omega⟩ (fun b_11 => ?_)
                    try simp only [Int.toNat_natCast]
                    try simp only [Int.toNat_natCast] at b_11
                    refine T_il d_X11_led_107 rfl ?_
                    refine T_lshr d_X11_led_109 ?_
                    refine T_jk d_X11_led_110 ?_
                    refine T_land d_X11_led_111 ?_
                    refine T_jk d_X11_led_112 ?_
                    have eb : landZ (lshrZ (V_2 145 t) x_5) 1 = if (bL (aL b k Ks nk c) t).testBit (soO b k c h.toNat).toNat = true then 1 else 0 := by rw [e145, e4, show soO b k c h.toNat = (((soO b k c h.toNat).toNat : Nat) : Int) by omega, Int.toNat_natCast]; exact tb_1 (Nat.lt_trans (hset t (by omega)).1 (by decide)) (by omega)
                    rw [eb]
                    refine T_lne d_X11_led_113 d_X11_led_114 ⟨by split <;> omega, by split <;> omega⟩ ⟨by omega, by omega⟩ (fun h113 => ?_) (fun h113 => ?_)
                    · skip
                      refine F_incg d_X11_led_128 rfl (f := fun x_12 => [(0, vr 99), (1, vi h), (2, vi k), (3, vi w), (4, vi x_5), (5, vi x_12)]) (fun _ => rfl) (fun x_12 ex_12 => ?_)
                      refine T_go d_X11_led_131 ?_
                      -- to 81 87f.97f.113t@81
                      obtain rfl : x_12 = ((t + 1) : Int) := by omega
                      exact ih81 (t + 1) (by omega) (by first | assumption | omega) (up_all hno (by rw [Bool.and_eq_false_iff]; exact Or.inr (Bool.eq_false_iff.mpr fun z => h113 (if_pos (of_i.mp z).2))))
                    · skip
                      have mg : memH b k c (aL b k Ks nk c) ch (aN b k Ks nk c) h.toNat = (t : Int) := mem_g l4.1 (by omega) (bi_n.mp h97) (of_i.mpr ⟨so1, Classical.byContradiction fun z => by rw [if_neg z] at h113; omega⟩)
                      refine T_il d_X11_led_117 rfl ?_
                      refine T_zne d_X11_led_118 ⟨by omega, by omega⟩ (fun h118 => ?_) (fun h118 => ?_)
                      · skip
                        refine T_il d_X11_led_125 rfl ?_
                        -- leaf 87f.97f.113f.118t@127
                        refine T_iret d_X11_led_127 rfl ?_
                        exact ⟨rfl, hBV_2, fV_2, ld, _, rfl, ⟨by omega, by omega⟩, gd_y ⟨⟨by omega, by omega⟩, h21, h12⟩ ⟨c, ch, sl, by unfold leW; rw [if_neg so1, if_pos (by rw [mg]; omega), if_neg h118, mg]⟩⟩
                      · skip
                        refine T_k d_X11_led_121 ?_
                        refine T_go d_X11_led_122 ?_
                        -- leaf 87f.97f.113f.118f@127
                        refine T_iret d_X11_led_127 rfl ?_
                        exact ⟨rfl, hBV_2, fV_2, ld, _, rfl, ⟨by omega, by omega⟩, gd_y ⟨⟨by omega, by omega⟩, h21, h12⟩ ⟨c, ch, sl, by unfold leW; rw [if_neg so1, if_pos (by rw [mg]; omega), if_pos h118]⟩⟩
            exact L81 _ (0) (Nat.lt_succ_self _) (by first | assumption | omega) (fun i hi => absurd hi (Nat.not_lt_zero _))
          · skip
            have s0 : soO b k c h.toNat = -1 := by omega
            refine T_il d_X11_led_54 rfl ?_
            refine T_k d_X11_led_55 ?_
            refine T_ine d_X11_led_56 ⟨by omega, by omega⟩ ⟨by omega, by omega⟩ (fun h56 => ?_) (fun h56 => ?_)
            · skip
              refine T_al d_X11_led_63 rfl ?_
              refine T_il d_X11_led_64 rfl ?_
              refine T_il d_X11_led_65 rfl ?_
              refine C_pv2 d_X11_led_66 rfl (hdF (by omega)) (hcF _) itz ?_
              refine T_pz0 d_X11_led_69 (fun h69 => ?_) (fun h69 => ?_)
              · exact absurd h45 h69
              · skip
                refine T_k d_X11_led_72 ?_
                refine T_go d_X11_led_73 ?_
                -- leaf 5f.12f.21t.45f.51f.56t.69f@77
                refine T_iret d_X11_led_77 rfl ?_
                exact ⟨rfl, hBV_2, fV_2, ld, _, rfl, ⟨by omega, by omega⟩, gd_y ⟨⟨by omega, by omega⟩, h21, h12⟩ ⟨c, ch, sl, by unfold leW; rw [if_pos s0, if_neg h56, if_pos h69]⟩⟩
            · skip
              refine T_k d_X11_led_59 ?_
              refine T_go d_X11_led_60 ?_
              -- leaf 5f.12f.21t.45f.51f.56f@77
              refine T_iret d_X11_led_77 rfl ?_
              exact ⟨rfl, hBV_2, fV_2, ld, _, rfl, ⟨by omega, by omega⟩, gd_y ⟨⟨by omega, by omega⟩, h21, h12⟩ ⟨c, ch, sl, by unfold leW; rw [if_pos s0, if_pos h56]⟩⟩
      · skip
        refine T_k d_X11_led_24 ?_
        -- leaf 5f.12f.21f@25
        refine T_iret d_X11_led_25 rfl ?_
        exact ⟨rfl, hB, fV, hld, _, rfl, ⟨by omega, by omega⟩, gd_n (fun z => h21 z.2.1)⟩
set_option maxHeartbeats 1000000 in
set_option maxRecDepth 100000 in
theorem R_X11_strengthN {G : GG} {V : VV} {R : RR} {d : Int} {k : Int} {nk : Nat} (hB : Bd V) (hF : FinR R) (hnk : V 99 36 = (nk : Int)) (hn5 : nk ≤ 5) (hd : r32 d) (hk : r32 k) (hno : ¬ ((0 ≤ d ∧ d < (nk : Int)) ∧ K4 k)) : RunsP G M_X11_strength 7 [vr 99, vi d, vi k] V R (vi (-1)) := by
  unfold RunsP
  refine Runs.of pn_X11 (Nat.le_of_ble_eq_true rfl) rfl ?_
  show TT G M_X11_strength (rmd 7 162 162) 162 (Zm G 162 162 (QP V R (vi (-1)))) 162 0 [(0, vr 99), (1, vi d), (2, vi k)] [] V R
  obtain ⟨hd1, hd2⟩ := hd
  obtain ⟨hk1, hk2⟩ := hk
  refine T_il d_X11_strength_0 rfl ?_
  refine T_k d_X11_strength_1 ?_
  refine T_al d_X11_strength_2 rfl ?_
  refine F_gi d_X11_strength_3 rfl hB rfl (fun b_1 => ?_)
  rw [hnk]
  refine T_k d_X11_strength_6 ?_
  refine T_isub d_X11_strength_7 ?_
  refine C_ps3 d_X11_strength_8 (hdF (by decide)) (hcF _) (R_X11_in ⟨by omega, by omega⟩ ⟨by omega, by omega⟩ ⟨by omega, by omega⟩) ?_
  refine T_pz0 d_X11_strength_11 (fun h11 => ?_) (fun h11 => ?_)
  · skip
    refine T_k d_X11_strength_21 ?_
    -- leaf 11t@22
    exact P_I d_X11_strength_22 (by rfl)
  · skip
    refine T_il d_X11_strength_14 rfl ?_
    refine C_ps1 d_X11_strength_15 (hdF (by decide)) (hcF _) (R_X11_isWeek ⟨by omega, by omega⟩) ?_
    refine T_pz1 d_X11_strength_18 (fun h18 => ?_) (fun h18 => ?_)
    · exact absurd ⟨⟨h11.1, by have := h11.2; omega⟩, h18⟩ hno
    · skip
      refine T_k d_X11_strength_21 ?_
      -- leaf 11f.18f@22
      exact P_I d_X11_strength_22 (by rfl)
