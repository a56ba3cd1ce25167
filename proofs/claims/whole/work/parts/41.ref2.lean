/-! what the reference makes of what is told -/
def endsV (V : VV) (v : Int) : VV := if v < 0 then uV V 99 0 v else uV (uV V 99 0 0) 99 1 (-1)
def QV (R : RR) (x : Int) (W : VV) : Option AV → VV → RR → Prop := fun r V' R' => r = some (vi x) ∧ V' = W ∧ R = R' ∧ Bd V'
def holeW (V : VV) (o x y d k : Int) : VV := uV (uV (uV (uV (uV (uV (uV V 100 (V 99 2).toNat o) 101 (V 99 2).toNat x) 102 (V 99 2).toNat y) 103 (V 99 2).toNat d) 104 (V 99 2).toNat k) 105 (V 99 2).toNat 401) 99 2 (V 99 2 + 1)
def retW (V : VV) (h d k : Int) : VV := uV (uV (uV (uV V 106 (V 99 3).toNat h) 107 (V 99 3).toNat d) 108 (V 99 3).toNat k) 99 3 (V 99 3 + 1)
def treW (V : VV) (x y u v k : Int) : VV := uV (uV (uV (uV (uV (uV V 109 (4 * V 99 4).toNat x) 109 (4 * V 99 4 + 1).toNat y) 109 (4 * V 99 4 + 2).toNat u) 109 (4 * V 99 4 + 3).toNat v) 110 (V 99 4).toNat k) 99 4 (V 99 4 + 1)
def plW (V : VV) (x y u v k : Int) : VV := uV (uV (uV (uV (uV (uV V 111 (4 * V 99 5).toNat x) 111 (4 * V 99 5 + 1).toNat y) 111 (4 * V 99 5 + 2).toNat u) 111 (4 * V 99 5 + 3).toNat v) 112 (V 99 5).toNat k) 99 5 (V 99 5 + 1)
def cutW (V : VV) (l e k : Int) : VV := uV (uV (uV (uV V 113 (V 99 6).toNat l) 114 (V 99 6).toNat e) 115 (V 99 6).toNat k) 99 6 (V 99 6 + 1)
def datW (V : VV) (h f l k : Int) : VV := uV (uV (uV (uV (uV V 116 (V 99 7).toNat h) 117 (V 99 7).toNat f) 118 (V 99 7).toNat l) 119 (V 99 7).toNat k) 99 7 (V 99 7 + 1)
abbrev boxP (x y u v : Int) : Prop := (0 ≤ x ∧ x ≤ u ∧ u ≤ 499) ∧ 0 ≤ y ∧ y ≤ v ∧ v ≤ 499
abbrev wkP (w : Int) : Prop := 0 ≤ w ∧ w ≤ 400
abbrev hasP (V : VV) (h : Int) : Prop := 0 ≤ h ∧ h < V 99 2
set_option maxHeartbeats 1000000 in
set_option maxRecDepth 100000 in
theorem R_X11_ends {G : GG} {V : VV} {R : RR} {v : Int}  (hB : Bd V) (hF : FinR R) (hv : r32 v) (hv6 : -6 ≤ v) : Runs G M_X11_ends 1 162 162 [vr 99, vi v] V R (QV R (v) (endsV V v)) := by
  refine Runs.of pn_X11 (Nat.le_of_ble_eq_true rfl) rfl ?_
  show TT G M_X11_ends (rmd 1 162 162) 162 (Zm G 162 162 (QV R (v) (endsV V v))) 162 0 [(0, vr 99), (1, vi v)] [] V R
  obtain ⟨hv1, hv2⟩ := hv
  refine T_al d_X11_ends_0 rfl ?_
  refine T_il d_X11_ends_1 rfl ?_
  refine T_zge d_X11_ends_2 ⟨by omega, by omega⟩ (fun h2 => ?_) (fun h2 => ?_)
  · skip
    refine T_k d_X11_ends_9 ?_
    refine F_pi d_X11_ends_10 rfl hB rfl ⟨by omega, by omega⟩ (fun V_1 eV_1 hBV_1 => ?_)
    refine T_il d_X11_ends_13 rfl ?_
    refine T_zlt d_X11_ends_14 ⟨by omega, by omega⟩ (fun h14 => ?_) (fun h14 => ?_)
    · skip
      refine T_il d_X11_ends_22 rfl ?_
      -- leaf 2t.14t@23
      refine T_iret d_X11_ends_23 rfl ?_
      refine ⟨rfl, ?_, rfl, hBV_1⟩
      subst_vars
      unfold endsV
      simp_all
      try omega
    · skip
      refine T_al d_X11_ends_17 rfl ?_
      refine T_k d_X11_ends_18 ?_
      refine F_pi d_X11_ends_19 rfl hBV_1 rfl ⟨by omega, by omega⟩ (fun V_2 eV_2 hBV_2 => ?_)
      refine T_il d_X11_ends_22 rfl ?_
      -- leaf 2t.14f@23
      refine T_iret d_X11_ends_23 rfl ?_
      refine ⟨rfl, ?_, rfl, hBV_2⟩
      subst_vars
      unfold endsV
      simp_all
      try omega
  · skip
    refine T_il d_X11_ends_5 rfl ?_
    refine T_go d_X11_ends_6 ?_
    refine F_pi d_X11_ends_10 rfl hB rfl ⟨by omega, by omega⟩ (fun V_3 eV_3 hBV_3 => ?_)
    refine T_il d_X11_ends_13 rfl ?_
    refine T_zlt d_X11_ends_14 ⟨by omega, by omega⟩ (fun h14 => ?_) (fun h14 => ?_)
    · skip
      refine T_il d_X11_ends_22 rfl ?_
      -- leaf 2f.14t@23
      refine T_iret d_X11_ends_23 rfl ?_
      refine ⟨rfl, ?_, rfl, hBV_3⟩
      subst_vars
      unfold endsV
      simp_all
      try omega
    · skip
      refine T_al d_X11_ends_17 rfl ?_
      refine T_k d_X11_ends_18 ?_
      refine F_pi d_X11_ends_19 rfl hBV_3 rfl ⟨by omega, by omega⟩ (fun V_4 eV_4 hBV_4 => ?_)
      refine T_il d_X11_ends_22 rfl ?_
      -- leaf 2f.14f@23
      refine T_iret d_X11_ends_23 rfl ?_
      refine ⟨rfl, ?_, rfl, hBV_4⟩
      subst_vars
      unfold endsV
      simp_all
      try omega
set_option maxHeartbeats 1000000 in
set_option maxRecDepth 100000 in
theorem R_X11_hole {G : GG} {V : VV} {R : RR} {o : Int} {x : Int} {y : Int} {d : Int} {k : Int}  (hB : Bd V) (hF : FinR R) (ho : r32 o) (hx : r32 x) (hy : r32 y) (hd : r32 d) (hk : r32 k) : Runs G M_X11_hole 3 162 162 [vr 99, vi o, vi x, vi y, vi d, vi k] V R (QV R (if ¬ ((0 ≤ o ∧ o ≤ 1) ∧ (-600 ≤ x ∧ x ≤ 1099) ∧ (-600 ≤ y ∧ y ≤ 1099) ∧ (0 ≤ d ∧ d ≤ 200) ∧ wkP k) then -1 else (if V 99 2 = 40 then -5 else (V 99 2))) (if ¬ ((0 ≤ o ∧ o ≤ 1) ∧ (-600 ≤ x ∧ x ≤ 1099) ∧ (-600 ≤ y ∧ y ≤ 1099) ∧ (0 ≤ d ∧ d ≤ 200) ∧ wkP k) then endsV V (-1) else (if V 99 2 = 40 then endsV V (-5) else (endsV (holeW V o x y d k) (V 99 2))))) := by
  refine Runs.of pn_X11 (Nat.le_of_ble_eq_true rfl) rfl ?_
  show TT G M_X11_hole (rmd 3 162 162) 162 (Zm G 162 162 (QV R (if ¬ ((0 ≤ o ∧ o ≤ 1) ∧ (-600 ≤ x ∧ x ≤ 1099) ∧ (-600 ≤ y ∧ y ≤ 1099) ∧ (0 ≤ d ∧ d ≤ 200) ∧ wkP k) then -1 else (if V 99 2 = 40 then -5 else (V 99 2))) (if ¬ ((0 ≤ o ∧ o ≤ 1) ∧ (-600 ≤ x ∧ x ≤ 1099) ∧ (-600 ≤ y ∧ y ≤ 1099) ∧ (0 ≤ d ∧ d ≤ 200) ∧ wkP k) then endsV V (-1) else (if V 99 2 = 40 then endsV V (-5) else (endsV (holeW V o x y d k) (V 99 2)))))) 162 0 [(0, vr 99), (1, vi o), (2, vi x), (3, vi y), (4, vi d), (5, vi k)] [] V R
  obtain ⟨ho1, ho2⟩ := ho
  obtain ⟨hx1, hx2⟩ := hx
  obtain ⟨hy1, hy2⟩ := hy
  obtain ⟨hd1, hd2⟩ := hd
  obtain ⟨hk1, hk2⟩ := hk
  have hb99 : 0 ≤ V 99 2 ∧ V 99 2 ≤ 40 := hB.2 99 11 2 0 40 rfl rfl
  refine T_il d_X11_hole_0 rfl ?_
  refine T_k d_X11_hole_1 ?_
  refine T_k d_X11_hole_2 ?_
  refine C_ps3 d_X11_hole_3 (hdF (by decide)) (hcF _) (R_X11_in (by first | assumption | omega | exact ⟨by omega, by omega⟩ | (subst_vars; simp_all [uV]; done) | grind [uV]) (by first | assumption | omega | exact ⟨by omega, by omega⟩ | (subst_vars; simp_all [uV]; done) | grind [uV]) (by first | assumption | omega | exact ⟨by omega, by omega⟩ | (subst_vars; simp_all [uV]; done) | grind [uV])) ?_
  refine T_pz0 d_X11_hole_6 (fun h6 => ?_) (fun h6 => ?_)
  · skip
    refine T_al d_X11_hole_55 rfl ?_
    refine T_k d_X11_hole_56 ?_
    refine C_v1 d_X11_hole_57 rfl (hdF (by decide)) (hcF _) (R_X11_ends (by first | assumption | omega | exact ⟨by omega, by omega⟩ | (subst_vars; simp_all [uV]; done) | grind [uV]) (by first | assumption | omega | exact ⟨by omega, by omega⟩ | (subst_vars; simp_all [uV]; done) | grind [uV]) (by first | assumption | omega | exact ⟨by omega, by omega⟩ | (subst_vars; simp_all [uV]; done) | grind [uV]) (by first | assumption | omega | exact ⟨by omega, by omega⟩ | (subst_vars; simp_all [uV]; done) | grind [uV])) (fun r_1 V_2 R_3 qV_2 => ?_)
    obtain ⟨rfl, eV_2, rfl, hBV_2⟩ := qV_2
    -- leaf 6t@60
    refine T_iret d_X11_hole_60 rfl ?_
    refine ⟨?_, ?_, rfl, hBV_2⟩
    · first | grind | (subst_vars; simp_all [uV]; done) | (subst_vars; simp_all [uV]; omega)
    · subst_vars
      first | grind | (simp_all [uV]; done) | (funext a i; simp_all [holeW, retW, treW, plW, cutW, datW, endsV, uV]; done)
  · skip
    refine T_il d_X11_hole_9 rfl ?_
    refine T_k d_X11_hole_10 ?_
    refine T_k d_X11_hole_13 ?_
    refine C_ps3 d_X11_hole_16 (hdF (by decide)) (hcF _) (R_X11_in (by first | assumption | omega | exact ⟨by omega, by omega⟩ | (subst_vars; simp_all [uV]; done) | grind [uV]) (by first | assumption | omega | exact ⟨by omega, by omega⟩ | (subst_vars; simp_all [uV]; done) | grind [uV]) (by first | assumption | omega | exact ⟨by omega, by omega⟩ | (subst_vars; simp_all [uV]; done) | grind [uV])) ?_
    refine T_pz0 d_X11_hole_19 (fun h19 => ?_) (fun h19 => ?_)
    · skip
      refine T_al d_X11_hole_55 rfl ?_
      refine T_k d_X11_hole_56 ?_
      refine C_v1 d_X11_hole_57 rfl (hdF (by decide)) (hcF _) (R_X11_ends (by first | assumption | omega | exact ⟨by omega, by omega⟩ | (subst_vars; simp_all [uV]; done) | grind [uV]) (by first | assumption | omega | exact ⟨by omega, by omega⟩ | (subst_vars; simp_all [uV]; done) | grind [uV]) (by first | assumption | omega | exact ⟨by omega, by omega⟩ | (subst_vars; simp_all [uV]; done) | grind [uV]) (by first | assumption | omega | exact ⟨by omega, by omega⟩ | (subst_vars; simp_all [uV]; done) | grind [uV])) (fun r_4 V_5 R_6 qV_5 => ?_)
      obtain ⟨rfl, eV_5, rfl, hBV_5⟩ := qV_5
      -- leaf 6f.19t@60
      refine T_iret d_X11_hole_60 rfl ?_
      refine ⟨?_, ?_, rfl, hBV_5⟩
      · first | grind | (subst_vars; simp_all [uV]; done) | (subst_vars; simp_all [uV]; omega)
      · subst_vars
        first | grind | (simp_all [uV]; done) | (funext a i; simp_all [holeW, retW, treW, plW, cutW, datW, endsV, uV]; done)
    · skip
      refine T_il d_X11_hole_22 rfl ?_
      refine T_k d_X11_hole_23 ?_
      refine T_k d_X11_hole_26 ?_
      refine C_ps3 d_X11_hole_29 (hdF (by decide)) (hcF _) (R_X11_in (by first | assumption | omega | exact ⟨by omega, by omega⟩ | (subst_vars; simp_all [uV]; done) | grind [uV]) (by first | assumption | omega | exact ⟨by omega, by omega⟩ | (subst_vars; simp_all [uV]; done) | grind [uV]) (by first | assumption | omega | exact ⟨by omega, by omega⟩ | (subst_vars; simp_all [uV]; done) | grind [uV])) ?_
      refine T_pz0 d_X11_hole_32 (fun h32 => ?_) (fun h32 => ?_)
      · skip
        refine T_al d_X11_hole_55 rfl ?_
        refine T_k d_X11_hole_56 ?_
        refine C_v1 d_X11_hole_57 rfl (hdF (by decide)) (hcF _) (R_X11_ends (by first | assumption | omega | exact ⟨by omega, by omega⟩ | (subst_vars; simp_all [uV]; done) | grind [uV]) (by first | assumption | omega | exact ⟨by omega, by omega⟩ | (subst_vars; simp_all [uV]; done) | grind [uV]) (by first | assumption | omega | exact ⟨by omega, by omega⟩ | (subst_vars; simp_all [uV]; done) | grind [uV]) (by first | assumption | omega | exact ⟨by omega, by omega⟩ | (subst_vars; simp_all [uV]; done) | grind [uV])) (fun r_7 V_8 R_9 qV_8 => ?_)
        obtain ⟨rfl, eV_8, rfl, hBV_8⟩ := qV_8
        -- leaf 6f.19f.32t@60
        refine T_iret d_X11_hole_60 rfl ?_
        refine ⟨?_, ?_, rfl, hBV_8⟩
        · first | grind | (subst_vars; simp_all [uV]; done) | (subst_vars; simp_all [uV]; omega)
        · subst_vars
          first | grind | (simp_all [uV]; done) | (funext a i; simp_all [holeW, retW, treW, plW, cutW, datW, endsV, uV]; done)
      · skip
        refine T_il d_X11_hole_35 rfl ?_
        refine T_k d_X11_hole_37 ?_
        refine T_k d_X11_hole_38 ?_
        refine C_ps3 d_X11_hole_41 (hdF (by decide)) (hcF _) (R_X11_in (by first | assumption | omega | exact ⟨by omega, by omega⟩ | (subst_vars; simp_all [uV]; done) | grind [uV]) (by first | assumption | omega | exact ⟨by omega, by omega⟩ | (subst_vars; simp_all [uV]; done) | grind [uV]) (by first | assumption | omega | exact ⟨by omega, by omega⟩ | (subst_vars; simp_all [uV]; done) | grind [uV])) ?_
        refine T_pz0 d_X11_hole_44 (fun h44 => ?_) (fun h44 => ?_)
        · skip
          refine T_al d_X11_hole_55 rfl ?_
          refine T_k d_X11_hole_56 ?_
          refine C_v1 d_X11_hole_57 rfl (hdF (by decide)) (hcF _) (R_X11_ends (by first | assumption | omega | exact ⟨by omega, by omega⟩ | (subst_vars; simp_all [uV]; done) | grind [uV]) (by first | assumption | omega | exact ⟨by omega, by omega⟩ | (subst_vars; simp_all [uV]; done) | grind [uV]) (by first | assumption | omega | exact ⟨by omega, by omega⟩ | (subst_vars; simp_all [uV]; done) | grind [uV]) (by first | assumption | omega | exact ⟨by omega, by omega⟩ | (subst_vars; simp_all [uV]; done) | grind [uV])) (fun r_10 V_11 R_12 qV_11 => ?_)
          obtain ⟨rfl, eV_11, rfl, hBV_11⟩ := qV_11
          -- leaf 6f.19f.32f.44t@60
          refine T_iret d_X11_hole_60 rfl ?_
          refine ⟨?_, ?_, rfl, hBV_11⟩
          · first | grind | (subst_vars; simp_all [uV]; done) | (subst_vars; simp_all [uV]; omega)
          · subst_vars
            first | grind | (simp_all [uV]; done) | (funext a i; simp_all [holeW, retW, treW, plW, cutW, datW, endsV, uV]; done)
        · skip
          refine T_il d_X11_hole_47 rfl ?_
          refine C_ps1 d_X11_hole_49 (hdF (by decide)) (hcF _) (R_X11_isWeek (by first | assumption | omega | exact ⟨by omega, by omega⟩ | (subst_vars; simp_all [uV]; done) | grind [uV])) ?_
          refine T_pz1 d_X11_hole_52 (fun h52 => ?_) (fun h52 => ?_)
          · skip
            refine T_al d_X11_hole_61 rfl ?_
            refine F_gi d_X11_hole_62 rfl hB rfl (fun b_13 => ?_)
            refine T_k d_X11_hole_65 ?_
            refine T_ine d_X11_hole_67 ⟨by omega, by omega⟩ ⟨by omega, by omega⟩ (fun h67 => ?_) (fun h67 => ?_)
            · skip
              refine T_al d_X11_hole_77 rfl ?_
              refine F_gr (b := 100) d_X11_hole_78 rfl hF rfl ?_
              refine T_al d_X11_hole_81 rfl ?_
              refine F_gi d_X11_hole_82 rfl hB rfl (fun b_14 => ?_)
              refine T_il d_X11_hole_85 rfl ?_
              refine F_is d_X11_hole_86 rfl hB rfl ⟨by omega, by omega⟩ ⟨by omega, by omega⟩ (fun V_15 eV_15 hBV_15 => ?_)
              refine T_al d_X11_hole_87 rfl ?_
              refine F_gr (b := 101) d_X11_hole_88 rfl hF rfl ?_
              refine T_al d_X11_hole_91 rfl ?_
              refine F_gi d_X11_hole_92 rfl hBV_15 rfl (fun b_16 => ?_)
              have fV_15_99_2 : V_15 99 2 = V 99 2 := by rw [eV_15]; rfl
              refine T_il d_X11_hole_95 rfl ?_
              refine F_is d_X11_hole_96 rfl hBV_15 rfl ⟨by omega, by omega⟩ ⟨by omega, by omega⟩ (fun V_17 eV_17 hBV_17 => ?_)
              refine T_al d_X11_hole_97 rfl ?_
              refine F_gr (b := 102) d_X11_hole_98 rfl hF rfl ?_
              refine T_al d_X11_hole_101 rfl ?_
              refine F_gi d_X11_hole_102 rfl hBV_17 rfl (fun b_18 => ?_)
              have fV_17_99_2 : V_17 99 2 = V 99 2 := by rw [eV_17, eV_15]; rfl
              refine T_il d_X11_hole_105 rfl ?_
              refine F_is d_X11_hole_106 rfl hBV_17 rfl ⟨by omega, by omega⟩ ⟨by omega, by omega⟩ (fun V_19 eV_19 hBV_19 => ?_)
              refine T_al d_X11_hole_107 rfl ?_
              refine F_gr (b := 103) d_X11_hole_108 rfl hF rfl ?_
              refine T_al d_X11_hole_111 rfl ?_
              refine F_gi d_X11_hole_112 rfl hBV_19 rfl (fun b_20 => ?_)
              have fV_19_99_2 : V_19 99 2 = V 99 2 := by rw [eV_19, eV_17, eV_15]; rfl
              refine T_il d_X11_hole_115 rfl ?_
              refine F_is d_X11_hole_117 rfl hBV_19 rfl ⟨by omega, by omega⟩ ⟨by omega, by omega⟩ (fun V_21 eV_21 hBV_21 => ?_)
              refine T_al d_X11_hole_118 rfl ?_
              refine F_gr (b := 104) d_X11_hole_119 rfl hF rfl ?_
              refine T_al d_X11_hole_122 rfl ?_
              refine F_gi d_X11_hole_123 rfl hBV_21 rfl (fun b_22 => ?_)
              have fV_21_99_2 : V_21 99 2 = V 99 2 := by rw [eV_21, eV_19, eV_17, eV_15]; rfl
              refine T_il d_X11_hole_126 rfl ?_
              refine F_is d_X11_hole_128 rfl hBV_21 rfl ⟨by omega, by omega⟩ ⟨by omega, by omega⟩ (fun V_23 eV_23 hBV_23 => ?_)
              refine T_al d_X11_hole_129 rfl ?_
              refine F_gr (b := 105) d_X11_hole_130 rfl hF rfl ?_
              refine T_al d_X11_hole_133 rfl ?_
              refine F_gi d_X11_hole_134 rfl hBV_23 rfl (fun b_24 => ?_)
              have fV_23_99_2 : V_23 99 2 = V 99 2 := by rw [eV_23, eV_21, eV_19, eV_17, eV_15]; rfl
              refine T_k d_X11_hole_137 ?_
              refine F_is d_X11_hole_140 rfl hBV_23 rfl ⟨by omega, by omega⟩ ⟨by omega, by omega⟩ (fun V_25 eV_25 hBV_25 => ?_)
              refine T_al d_X11_hole_141 rfl ?_
              refine T_dup d_X11_hole_142 rfl ?_
              refine F_gi d_X11_hole_143 rfl hBV_25 rfl (fun b_26 => ?_)
              have fV_25_99_2 : V_25 99 2 = V 99 2 := by rw [eV_25, eV_23, eV_21, eV_19, eV_17, eV_15]; rfl
              refine T_k d_X11_hole_146 ?_
              refine T_iadd d_X11_hole_147 ?_
              refine F_pi d_X11_hole_148 rfl hBV_25 rfl ⟨by omega, by omega⟩ (fun V_27 eV_27 hBV_27 => ?_)
              refine T_al d_X11_hole_151 rfl ?_
              refine T_al d_X11_hole_152 rfl ?_
              refine F_gi d_X11_hole_153 rfl hBV_27 rfl (fun b_28 => ?_)
              have gV_27_99_2 := (congrFun (congrFun eV_27 99) 2).trans uV_self
              refine T_k d_X11_hole_156 ?_
              refine T_isub d_X11_hole_157 ?_
              refine C_v1 d_X11_hole_158 rfl (hdF (by decide)) (hcF _) (R_X11_ends (by first | assumption | omega | exact ⟨by omega, by omega⟩ | (subst_vars; simp_all [uV]; done) | grind [uV]) (by first | assumption | omega | exact ⟨by omega, by omega⟩ | (subst_vars; simp_all [uV]; done) | grind [uV]) (by first | assumption | omega | exact ⟨by omega, by omega⟩ | (subst_vars; simp_all [uV]; done) | grind [uV]) (by first | assumption | omega | exact ⟨by omega, by omega⟩ | (subst_vars; simp_all [uV]; done) | grind [uV])) (fun r_29 V_30 R_31 qV_30 => ?_)
              obtain ⟨rfl, eV_30, rfl, hBV_30⟩ := qV_30
              -- leaf 6f.19f.32f.44f.52t.67t@161
              refine T_iret d_X11_hole_161 rfl ?_
              refine ⟨?_, ?_, rfl, hBV_30⟩
              · first | grind | (subst_vars; simp_all [uV]; done) | (subst_vars; simp_all [uV]; omega)
              · subst_vars
                first | grind | (simp_all [uV]; done) | (funext a i; simp_all [holeW, retW, treW, plW, cutW, datW, endsV, uV]; done)
            · skip
              refine T_al d_X11_hole_70 rfl ?_
              refine T_k d_X11_hole_71 ?_
              refine C_v1 d_X11_hole_73 rfl (hdF (by decide)) (hcF _) (R_X11_ends (by first | assumption | omega | exact ⟨by omega, by omega⟩ | (subst_vars; simp_all [uV]; done) | grind [uV]) (by first | assumption | omega | exact ⟨by omega, by omega⟩ | (subst_vars; simp_all [uV]; done) | grind [uV]) (by first | assumption | omega | exact ⟨by omega, by omega⟩ | (subst_vars; simp_all [uV]; done) | grind [uV]) (by first | assumption | omega | exact ⟨by omega, by omega⟩ | (subst_vars; simp_all [uV]; done) | grind [uV])) (fun r_32 V_33 R_34 qV_33 => ?_)
              obtain ⟨rfl, eV_33, rfl, hBV_33⟩ := qV_33
              -- leaf 6f.19f.32f.44f.52t.67f@76
              refine T_iret d_X11_hole_76 rfl ?_
              refine ⟨?_, ?_, rfl, hBV_33⟩
              · first | grind | (subst_vars; simp_all [uV]; done) | (subst_vars; simp_all [uV]; omega)
              · subst_vars
                first | grind | (simp_all [uV]; done) | (funext a i; simp_all [holeW, retW, treW, plW, cutW, datW, endsV, uV]; done)
          · skip
            refine T_al d_X11_hole_55 rfl ?_
            refine T_k d_X11_hole_56 ?_
            refine C_v1 d_X11_hole_57 rfl (hdF (by decide)) (hcF _) (R_X11_ends (by first | assumption | omega | exact ⟨by omega, by omega⟩ | (subst_vars; simp_all [uV]; done) | grind [uV]) (by first | assumption | omega | exact ⟨by omega, by omega⟩ | (subst_vars; simp_all [uV]; done) | grind [uV]) (by first | assumption | omega | exact ⟨by omega, by omega⟩ | (subst_vars; simp_all [uV]; done) | grind [uV]) (by first | assumption | omega | exact ⟨by omega, by omega⟩ | (subst_vars; simp_all [uV]; done) | grind [uV])) (fun r_35 V_36 R_37 qV_36 => ?_)
            obtain ⟨rfl, eV_36, rfl, hBV_36⟩ := qV_36
            -- leaf 6f.19f.32f.44f.52f@60
            refine T_iret d_X11_hole_60 rfl ?_
            refine ⟨?_, ?_, rfl, hBV_36⟩
            · first | grind | (subst_vars; simp_all [uV]; done) | (subst_vars; simp_all [uV]; omega)
            · subst_vars
              first | grind | (simp_all [uV]; done) | (funext a i; simp_all [holeW, retW, treW, plW, cutW, datW, endsV, uV]; done)
set_option maxHeartbeats 1000000 in
set_option maxRecDepth 100000 in
theorem R_X11_retell {G : GG} {V : VV} {R : RR} {h : Int} {d : Int} {k : Int}  (hB : Bd V) (hF : FinR R) (hh : r32 h) (hd : r32 d) (hk : r32 k) : Runs G M_X11_retell 3 162 162 [vr 99, vi h, vi d, vi k] V R (QV R (if ¬ ((0 ≤ d ∧ d ≤ 200) ∧ wkP k) then -1 else (if ¬ hasP V h then -2 else (if V 99 3 = 60 then -5 else (V 99 3 + 1)))) (if ¬ ((0 ≤ d ∧ d ≤ 200) ∧ wkP k) then endsV V (-1) else (if ¬ hasP V h then endsV V (-2) else (if V 99 3 = 60 then endsV V (-5) else (endsV (retW V h d k) (V 99 3 + 1)))))) := by
  refine Runs.of pn_X11 (Nat.le_of_ble_eq_true rfl) rfl ?_
  show TT G M_X11_retell (rmd 3 162 162) 162 (Zm G 162 162 (QV R (if ¬ ((0 ≤ d ∧ d ≤ 200) ∧ wkP k) then -1 else (if ¬ hasP V h then -2 else (if V 99 3 = 60 then -5 else (V 99 3 + 1)))) (if ¬ ((0 ≤ d ∧ d ≤ 200) ∧ wkP k) then endsV V (-1) else (if ¬ hasP V h then endsV V (-2) else (if V 99 3 = 60 then endsV V (-5) else (endsV (retW V h d k) (V 99 3 + 1))))))) 162 0 [(0, vr 99), (1, vi h), (2, vi d), (3, vi k)] [] V R
  obtain ⟨hh1, hh2⟩ := hh
  obtain ⟨hd1, hd2⟩ := hd
  obtain ⟨hk1, hk2⟩ := hk
  have hb99 : 0 ≤ V 99 2 ∧ V 99 2 ≤ 40 := hB.2 99 11 2 0 40 rfl rfl
  refine T_il d_X11_retell_0 rfl ?_
  refine T_k d_X11_retell_1 ?_
  refine T_k d_X11_retell_2 ?_
  refine C_ps3 d_X11_retell_5 (hdF (by decide)) (hcF _) (R_X11_in (by first | assumption | omega | exact ⟨by omega, by omega⟩ | (subst_vars; simp_all [uV]; done) | grind [uV]) (by first | assumption | omega | exact ⟨by omega, by omega⟩ | (subst_vars; simp_all [uV]; done) | grind [uV]) (by first | assumption | omega | exact ⟨by omega, by omega⟩ | (subst_vars; simp_all [uV]; done) | grind [uV])) ?_
  refine T_pz0 d_X11_retell_8 (fun h8 => ?_) (fun h8 => ?_)
  · skip
    refine T_al d_X11_retell_18 rfl ?_
    refine T_k d_X11_retell_19 ?_
    refine C_v1 d_X11_retell_20 rfl (hdF (by decide)) (hcF _) (R_X11_ends (by first | assumption | omega | exact ⟨by omega, by omega⟩ | (subst_vars; simp_all [uV]; done) | grind [uV]) (by first | assumption | omega | exact ⟨by omega, by omega⟩ | (subst_vars; simp_all [uV]; done) | grind [uV]) (by first | assumption | omega | exact ⟨by omega, by omega⟩ | (subst_vars; simp_all [uV]; done) | grind [uV]) (by first | assumption | omega | exact ⟨by omega, by omega⟩ | (subst_vars; simp_all [uV]; done) | grind [uV])) (fun r_1 V_2 R_3 qV_2 => ?_)
    obtain ⟨rfl, eV_2, rfl, hBV_2⟩ := qV_2
    -- leaf 8t@23
    refine T_iret d_X11_retell_23 rfl ?_
    refine ⟨?_, ?_, rfl, hBV_2⟩
    · first | grind | (subst_vars; simp_all [uV]; done) | (subst_vars; simp_all [uV]; omega)
    · subst_vars
      first | grind | (simp_all [uV]; done) | (funext a i; simp_all [holeW, retW, treW, plW, cutW, datW, endsV, uV]; done)
  · skip
    refine T_il d_X11_retell_11 rfl ?_
    refine C_ps1 d_X11_retell_12 (hdF (by decide)) (hcF _) (R_X11_isWeek (by first | assumption | omega | exact ⟨by omega, by omega⟩ | (subst_vars; simp_all [uV]; done) | grind [uV])) ?_
    refine T_pz1 d_X11_retell_15 (fun h15 => ?_) (fun h15 => ?_)
    · skip
      refine T_al d_X11_retell_24 rfl ?_
      refine T_il d_X11_retell_25 rfl ?_
      refine C_pv1 d_X11_retell_26 rfl (hdF (by decide)) (hcF _) (R_X11_isHole (by first | assumption | omega | exact ⟨by omega, by omega⟩ | (subst_vars; simp_all [uV]; done) | grind [uV]) (by first | assumption | omega | exact ⟨by omega, by omega⟩ | (subst_vars; simp_all [uV]; done) | grind [uV])) ?_
      refine T_pz1 d_X11_retell_29 (fun h29 => ?_) (fun h29 => ?_)
      · skip
        refine T_al d_X11_retell_39 rfl ?_
        refine F_gi d_X11_retell_40 rfl hB rfl (fun b_4 => ?_)
        refine T_k d_X11_retell_43 ?_
        refine T_ine d_X11_retell_45 ⟨by omega, by omega⟩ ⟨by omega, by omega⟩ (fun h45 => ?_) (fun h45 => ?_)
        · skip
          refine T_al d_X11_retell_55 rfl ?_
          refine F_gr (b := 106) d_X11_retell_56 rfl hF rfl ?_
          refine T_al d_X11_retell_59 rfl ?_
          refine F_gi d_X11_retell_60 rfl hB rfl (fun b_5 => ?_)
          refine T_il d_X11_retell_63 rfl ?_
          refine F_is d_X11_retell_64 rfl hB rfl ⟨by omega, by omega⟩ ⟨by omega, by omega⟩ (fun V_6 eV_6 hBV_6 => ?_)
          refine T_al d_X11_retell_65 rfl ?_
          refine F_gr (b := 107) d_X11_retell_66 rfl hF rfl ?_
          refine T_al d_X11_retell_69 rfl ?_
          refine F_gi d_X11_retell_70 rfl hBV_6 rfl (fun b_7 => ?_)
          have fV_6_99_3 : V_6 99 3 = V 99 3 := by rw [eV_6]; rfl
          refine T_il d_X11_retell_73 rfl ?_
          refine F_is d_X11_retell_74 rfl hBV_6 rfl ⟨by omega, by omega⟩ ⟨by omega, by omega⟩ (fun V_8 eV_8 hBV_8 => ?_)
          refine T_al d_X11_retell_75 rfl ?_
          refine F_gr (b := 108) d_X11_retell_76 rfl hF rfl ?_
          refine T_al d_X11_retell_79 rfl ?_
          refine F_gi d_X11_retell_80 rfl hBV_8 rfl (fun b_9 => ?_)
          have fV_8_99_3 : V_8 99 3 = V 99 3 := by rw [eV_8, eV_6]; rfl
          refine T_il d_X11_retell_83 rfl ?_
          refine F_is d_X11_retell_84 rfl hBV_8 rfl ⟨by omega, by omega⟩ ⟨by omega, by omega⟩ (fun V_10 eV_10 hBV_10 => ?_)
          refine T_al d_X11_retell_85 rfl ?_
          refine T_dup d_X11_retell_86 rfl ?_
          refine F_gi d_X11_retell_87 rfl hBV_10 rfl (fun b_11 => ?_)
          have fV_10_99_3 : V_10 99 3 = V 99 3 := by rw [eV_10, eV_8, eV_6]; rfl
          refine T_k d_X11_retell_90 ?_
          refine T_iadd d_X11_retell_91 ?_
          refine F_pi d_X11_retell_92 rfl hBV_10 rfl ⟨by omega, by omega⟩ (fun V_12 eV_12 hBV_12 => ?_)
          refine T_al d_X11_retell_95 rfl ?_
          refine T_al d_X11_retell_96 rfl ?_
          refine F_gi d_X11_retell_97 rfl hBV_12 rfl (fun b_13 => ?_)
          have gV_12_99_3 := (congrFun (congrFun eV_12 99) 3).trans uV_self
          refine C_v1 d_X11_retell_100 rfl (hdF (by decide)) (hcF _) (R_X11_ends (by first | assumption | omega | exact ⟨by omega, by omega⟩ | (subst_vars; simp_all [uV]; done) | grind [uV]) (by first | assumption | omega | exact ⟨by omega, by omega⟩ | (subst_vars; simp_all [uV]; done) | grind [uV]) (by first | assumption | omega | exact ⟨by omega, by omega⟩ | (subst_vars; simp_all [uV]; done) | grind [uV]) (by first | assumption | omega | exact ⟨by omega, by omega⟩ | (subst_vars; simp_all [uV]; done) | grind [uV])) (fun r_14 V_15 R_16 qV_15 => ?_)
          obtain ⟨rfl, eV_15, rfl, hBV_15⟩ := qV_15
          -- leaf 8f.15t.29t.45t@103
          refine T_iret d_X11_retell_103 rfl ?_
          refine ⟨?_, ?_, rfl, hBV_15⟩
          · first | grind | (subst_vars; simp_all [uV]; done) | (subst_vars; simp_all [uV]; omega)
          · subst_vars
            first | grind | (simp_all [uV]; done) | (funext a i; simp_all [holeW, retW, treW, plW, cutW, datW, endsV, uV]; done)
        · skip
          refine T_al d_X11_retell_48 rfl ?_
          refine T_k d_X11_retell_49 ?_
          refine C_v1 d_X11_retell_51 rfl (hdF (by decide)) (hcF _) (R_X11_ends (by first | assumption | omega | exact ⟨by omega, by omega⟩ | (subst_vars; simp_all [uV]; done) | grind [uV]) (by first | assumption | omega | exact ⟨by omega, by omega⟩ | (subst_vars; simp_all [uV]; done) | grind [uV]) (by first | assumption | omega | exact ⟨by omega, by omega⟩ | (subst_vars; simp_all [uV]; done) | grind [uV]) (by first | assumption | omega | exact ⟨by omega, by omega⟩ | (subst_vars; simp_all [uV]; done) | grind [uV])) (fun r_17 V_18 R_19 qV_18 => ?_)
          obtain ⟨rfl, eV_18, rfl, hBV_18⟩ := qV_18
          -- leaf 8f.15t.29t.45f@54
          refine T_iret d_X11_retell_54 rfl ?_
          refine ⟨?_, ?_, rfl, hBV_18⟩
          · first | grind | (subst_vars; simp_all [uV]; done) | (subst_vars; simp_all [uV]; omega)
          · subst_vars
            first | grind | (simp_all [uV]; done) | (funext a i; simp_all [holeW, retW, treW, plW, cutW, datW, endsV, uV]; done)
      · skip
        refine T_al d_X11_retell_32 rfl ?_
        refine T_k d_X11_retell_33 ?_
        refine C_v1 d_X11_retell_35 rfl (hdF (by decide)) (hcF _) (R_X11_ends (by first | assumption | omega | exact ⟨by omega, by omega⟩ | (subst_vars; simp_all [uV]; done) | grind [uV]) (by first | assumption | omega | exact ⟨by omega, by omega⟩ | (subst_vars; simp_all [uV]; done) | grind [uV]) (by first | assumption | omega | exact ⟨by omega, by omega⟩ | (subst_vars; simp_all [uV]; done) | grind [uV]) (by first | assumption | omega | exact ⟨by omega, by omega⟩ | (subst_vars; simp_all [uV]; done) | grind [uV])) (fun r_20 V_21 R_22 qV_21 => ?_)
        obtain ⟨rfl, eV_21, rfl, hBV_21⟩ := qV_21
        -- leaf 8f.15t.29f@38
        refine T_iret d_X11_retell_38 rfl ?_
        refine ⟨?_, ?_, rfl, hBV_21⟩
        · first | grind | (subst_vars; simp_all [uV]; done) | (subst_vars; simp_all [uV]; omega)
        · subst_vars
          first | grind | (simp_all [uV]; done) | (funext a i; simp_all [holeW, retW, treW, plW, cutW, datW, endsV, uV]; done)
    · skip
      refine T_al d_X11_retell_18 rfl ?_
      refine T_k d_X11_retell_19 ?_
      refine C_v1 d_X11_retell_20 rfl (hdF (by decide)) (hcF _) (R_X11_ends (by first | assumption | omega | exact ⟨by omega, by omega⟩ | (subst_vars; simp_all [uV]; done) | grind [uV]) (by first | assumption | omega | exact ⟨by omega, by omega⟩ | (subst_vars; simp_all [uV]; done) | grind [uV]) (by first | assumption | omega | exact ⟨by omega, by omega⟩ | (subst_vars; simp_all [uV]; done) | grind [uV]) (by first | assumption | omega | exact ⟨by omega, by omega⟩ | (subst_vars; simp_all [uV]; done) | grind [uV])) (fun r_23 V_24 R_25 qV_24 => ?_)
      obtain ⟨rfl, eV_24, rfl, hBV_24⟩ := qV_24
      -- leaf 8f.15f@23
      refine T_iret d_X11_retell_23 rfl ?_
      refine ⟨?_, ?_, rfl, hBV_24⟩
      · first | grind | (subst_vars; simp_all [uV]; done) | (subst_vars; simp_all [uV]; omega)
      · subst_vars
        first | grind | (simp_all [uV]; done) | (funext a i; simp_all [holeW, retW, treW, plW, cutW, datW, endsV, uV]; done)
set_option maxHeartbeats 1000000 in
set_option maxRecDepth 100000 in
theorem R_X11_trench {G : GG} {V : VV} {R : RR} {x : Int} {y : Int} {u : Int} {v : Int} {k : Int}  (hB : Bd V) (hF : FinR R) (hx : r32 x) (hy : r32 y) (hu : r32 u) (hv : r32 v) (hk : r32 k) : Runs G M_X11_trench 3 162 162 [vr 99, vi x, vi y, vi u, vi v, vi k] V R (QV R (if ¬ (boxP x y u v ∧ wkP k) then -1 else (if V 99 4 = 20 then -5 else (V 99 4 + 1))) (if ¬ (boxP x y u v ∧ wkP k) then endsV V (-1) else (if V 99 4 = 20 then endsV V (-5) else (endsV (treW V x y u v k) (V 99 4 + 1))))) := by
  refine Runs.of pn_X11 (Nat.le_of_ble_eq_true rfl) rfl ?_
  show TT G M_X11_trench (rmd 3 162 162) 162 (Zm G 162 162 (QV R (if ¬ (boxP x y u v ∧ wkP k) then -1 else (if V 99 4 = 20 then -5 else (V 99 4 + 1))) (if ¬ (boxP x y u v ∧ wkP k) then endsV V (-1) else (if V 99 4 = 20 then endsV V (-5) else (endsV (treW V x y u v k) (V 99 4 + 1)))))) 162 0 [(0, vr 99), (1, vi x), (2, vi y), (3, vi u), (4, vi v), (5, vi k)] [] V R
  obtain ⟨hx1, hx2⟩ := hx
  obtain ⟨hy1, hy2⟩ := hy
  obtain ⟨hu1, hu2⟩ := hu
  obtain ⟨hv1, hv2⟩ := hv
  obtain ⟨hk1, hk2⟩ := hk
  have hb99 : 0 ≤ V 99 2 ∧ V 99 2 ≤ 40 := hB.2 99 11 2 0 40 rfl rfl
  refine T_il d_X11_trench_0 rfl ?_
  refine T_il d_X11_trench_1 rfl ?_
  refine T_il d_X11_trench_2 rfl ?_
  refine T_il d_X11_trench_3 rfl ?_
  refine C_ps4 d_X11_trench_5 (hdF (by decide)) (hcF _) (R_X11_isBox (by first | assumption | omega | exact ⟨by omega, by omega⟩ | (subst_vars; simp_all [uV]; done) | grind [uV]) (by first | assumption | omega | exact ⟨by omega, by omega⟩ | (subst_vars; simp_all [uV]; done) | grind [uV]) (by first | assumption | omega | exact ⟨by omega, by omega⟩ | (subst_vars; simp_all [uV]; done) | grind [uV]) (by first | assumption | omega | exact ⟨by omega, by omega⟩ | (subst_vars; simp_all [uV]; done) | grind [uV])) ?_
  refine T_pz0 d_X11_trench_8 (fun h8 => ?_) (fun h8 => ?_)
  · skip
    refine T_al d_X11_trench_19 rfl ?_
    refine T_k d_X11_trench_20 ?_
    refine C_v1 d_X11_trench_21 rfl (hdF (by decide)) (hcF _) (R_X11_ends (by first | assumption | omega | exact ⟨by omega, by omega⟩ | (subst_vars; simp_all [uV]; done) | grind [uV]) (by first | assumption | omega | exact ⟨by omega, by omega⟩ | (subst_vars; simp_all [uV]; done) | grind [uV]) (by first | assumption | omega | exact ⟨by omega, by omega⟩ | (subst_vars; simp_all [uV]; done) | grind [uV]) (by first | assumption | omega | exact ⟨by omega, by omega⟩ | (subst_vars; simp_all [uV]; done) | grind [uV])) (fun r_1 V_2 R_3 qV_2 => ?_)
    obtain ⟨rfl, eV_2, rfl, hBV_2⟩ := qV_2
    -- leaf 8t@24
    refine T_iret d_X11_trench_24 rfl ?_
    refine ⟨?_, ?_, rfl, hBV_2⟩
    · first | grind | (subst_vars; simp_all [uV]; done) | (subst_vars; simp_all [uV]; omega)
    · subst_vars
      first | grind | (simp_all [uV]; done) | (funext a i; simp_all [holeW, retW, treW, plW, cutW, datW, endsV, uV]; done)
  · skip
    refine T_il d_X11_trench_11 rfl ?_
    refine C_ps1 d_X11_trench_13 (hdF (by decide)) (hcF _) (R_X11_isWeek (by first | assumption | omega | exact ⟨by omega, by omega⟩ | (subst_vars; simp_all [uV]; done) | grind [uV])) ?_
    refine T_pz1 d_X11_trench_16 (fun h16 => ?_) (fun h16 => ?_)
    · skip
      refine T_al d_X11_trench_25 rfl ?_
      refine F_gi d_X11_trench_26 rfl hB rfl (fun b_4 => ?_)
      refine T_k d_X11_trench_29 ?_
      refine T_ine d_X11_trench_31 ⟨by omega, by omega⟩ ⟨by omega, by omega⟩ (fun h31 => ?_) (fun h31 => ?_)
      · skip
        refine T_al d_X11_trench_41 rfl ?_
        refine F_gr (b := 109) d_X11_trench_42 rfl hF rfl ?_
        refine T_k d_X11_trench_45 ?_
        refine T_al d_X11_trench_46 rfl ?_
        refine F_gi d_X11_trench_47 rfl hB rfl (fun b_5 => ?_)
        refine T_imul d_X11_trench_50 ?_
        refine T_il d_X11_trench_51 rfl ?_
        refine F_is d_X11_trench_52 rfl hB rfl ⟨by omega, by omega⟩ ⟨by omega, by omega⟩ (fun V_6 eV_6 hBV_6 => ?_)
        refine T_al d_X11_trench_53 rfl ?_
        refine F_gr (b := 109) d_X11_trench_54 rfl hF rfl ?_
        refine T_k d_X11_trench_57 ?_
        refine T_al d_X11_trench_58 rfl ?_
        refine F_gi d_X11_trench_59 rfl hBV_6 rfl (fun b_7 => ?_)
        have fV_6_99_4 : V_6 99 4 = V 99 4 := by rw [eV_6]; rfl
        refine T_imul d_X11_trench_62 ?_
        refine T_k d_X11_trench_63 ?_
        refine T_iadd d_X11_trench_64 ?_
        refine T_il d_X11_trench_65 rfl ?_
        refine F_is d_X11_trench_66 rfl hBV_6 rfl ⟨by omega, by omega⟩ ⟨by omega, by omega⟩ (fun V_8 eV_8 hBV_8 => ?_)
        refine T_al d_X11_trench_67 rfl ?_
        refine F_gr (b := 109) d_X11_trench_68 rfl hF rfl ?_
        refine T_k d_X11_trench_71 ?_
        refine T_al d_X11_trench_72 rfl ?_
        refine F_gi d_X11_trench_73 rfl hBV_8 rfl (fun b_9 => ?_)
        have fV_8_99_4 : V_8 99 4 = V 99 4 := by rw [eV_8, eV_6]; rfl
        refine T_imul d_X11_trench_76 ?_
        refine T_k d_X11_trench_77 ?_
        refine T_iadd d_X11_trench_78 ?_
        refine T_il d_X11_trench_79 rfl ?_
        refine F_is d_X11_trench_80 rfl hBV_8 rfl ⟨by omega, by omega⟩ ⟨by omega, by omega⟩ (fun V_10 eV_10 hBV_10 => ?_)
        refine T_al d_X11_trench_81 rfl ?_
        refine F_gr (b := 109) d_X11_trench_82 rfl hF rfl ?_
        refine T_k d_X11_trench_85 ?_
        refine T_al d_X11_trench_86 rfl ?_
        refine F_gi d_X11_trench_87 rfl hBV_10 rfl (fun b_11 => ?_)
        have fV_10_99_4 : V_10 99 4 = V 99 4 := by rw [eV_10, eV_8, eV_6]; rfl
        refine T_imul d_X11_trench_90 ?_
        refine T_k d_X11_trench_91 ?_
        refine T_iadd d_X11_trench_92 ?_
        refine T_il d_X11_trench_93 rfl ?_
        refine F_is d_X11_trench_95 rfl hBV_10 rfl ⟨by omega, by omega⟩ ⟨by omega, by omega⟩ (fun V_12 eV_12 hBV_12 => ?_)
        refine T_al d_X11_trench_96 rfl ?_
        refine F_gr (b := 110) d_X11_trench_97 rfl hF rfl ?_
        refine T_al d_X11_trench_100 rfl ?_
        refine F_gi d_X11_trench_101 rfl hBV_12 rfl (fun b_13 => ?_)
        have fV_12_99_4 : V_12 99 4 = V 99 4 := by rw [eV_12, eV_10, eV_8, eV_6]; rfl
        refine T_il d_X11_trench_104 rfl ?_
        refine F_is d_X11_trench_106 rfl hBV_12 rfl ⟨by omega, by omega⟩ ⟨by omega, by omega⟩ (fun V_14 eV_14 hBV_14 => ?_)
        refine T_al d_X11_trench_107 rfl ?_
        refine T_dup d_X11_trench_108 rfl ?_
        refine F_gi d_X11_trench_109 rfl hBV_14 rfl (fun b_15 => ?_)
        have fV_14_99_4 : V_14 99 4 = V 99 4 := by rw [eV_14, eV_12, eV_10, eV_8, eV_6]; rfl
        refine T_k d_X11_trench_112 ?_
        refine T_iadd d_X11_trench_113 ?_
        refine F_pi d_X11_trench_114 rfl hBV_14 rfl ⟨by omega, by omega⟩ (fun V_16 eV_16 hBV_16 => ?_)
        refine T_al d_X11_trench_117 rfl ?_
        refine T_al d_X11_trench_118 rfl ?_
        refine F_gi d_X11_trench_119 rfl hBV_16 rfl (fun b_17 => ?_)
        have gV_16_99_4 := (congrFun (congrFun eV_16 99) 4).trans uV_self
        refine C_v1 d_X11_trench_122 rfl (hdF (by decide)) (hcF _) (R_X11_ends (by first | assumption | omega | exact ⟨by omega, by omega⟩ | (subst_vars; simp_all [uV]; done) | grind [uV]) (by first | assumption | omega | exact ⟨by omega, by omega⟩ | (subst_vars; simp_all [uV]; done) | grind [uV]) (by first | assumption | omega | exact ⟨by omega, by omega⟩ | (subst_vars; simp_all [uV]; done) | grind [uV]) (by first | assumption | omega | exact ⟨by omega, by omega⟩ | (subst_vars; simp_all [uV]; done) | grind [uV])) (fun r_18 V_19 R_20 qV_19 => ?_)
        obtain ⟨rfl, eV_19, rfl, hBV_19⟩ := qV_19
        -- leaf 8f.16t.31t@125
        refine T_iret d_X11_trench_125 rfl ?_
        refine ⟨?_, ?_, rfl, hBV_19⟩
        · first | grind | (subst_vars; simp_all [uV]; done) | (subst_vars; simp_all [uV]; omega)
        · subst_vars
          first | grind | (simp_all [uV]; done) | (funext a i; simp_all [holeW, retW, treW, plW, cutW, datW, endsV, uV]; done)
      · skip
        refine T_al d_X11_trench_34 rfl ?_
        refine T_k d_X11_trench_35 ?_
        refine C_v1 d_X11_trench_37 rfl (hdF (by decide)) (hcF _) (R_X11_ends (by first | assumption | omega | exact ⟨by omega, by omega⟩ | (subst_vars; simp_all [uV]; done) | grind [uV]) (by first | assumption | omega | exact ⟨by omega, by omega⟩ | (subst_vars; simp_all [uV]; done) | grind [uV]) (by first | assumption | omega | exact ⟨by omega, by omega⟩ | (subst_vars; simp_all [uV]; done) | grind [uV]) (by first | assumption | omega | exact ⟨by omega, by omega⟩ | (subst_vars; simp_all [uV]; done) | grind [uV])) (fun r_21 V_22 R_23 qV_22 => ?_)
        obtain ⟨rfl, eV_22, rfl, hBV_22⟩ := qV_22
        -- leaf 8f.16t.31f@40
        refine T_iret d_X11_trench_40 rfl ?_
        refine ⟨?_, ?_, rfl, hBV_22⟩
        · first | grind | (subst_vars; simp_all [uV]; done) | (subst_vars; simp_all [uV]; omega)
        · subst_vars
          first | grind | (simp_all [uV]; done) | (funext a i; simp_all [holeW, retW, treW, plW, cutW, datW, endsV, uV]; done)
    · skip
      refine T_al d_X11_trench_19 rfl ?_
      refine T_k d_X11_trench_20 ?_
      refine C_v1 d_X11_trench_21 rfl (hdF (by decide)) (hcF _) (R_X11_ends (by first | assumption | omega | exact ⟨by omega, by omega⟩ | (subst_vars; simp_all [uV]; done) | grind [uV]) (by first | assumption | omega | exact ⟨by omega, by omega⟩ | (subst_vars; simp_all [uV]; done) | grind [uV]) (by first | assumption | omega | exact ⟨by omega, by omega⟩ | (subst_vars; simp_all [uV]; done) | grind [uV]) (by first | assumption | omega | exact ⟨by omega, by omega⟩ | (subst_vars; simp_all [uV]; done) | grind [uV])) (fun r_24 V_25 R_26 qV_25 => ?_)
      obtain ⟨rfl, eV_25, rfl, hBV_25⟩ := qV_25
      -- leaf 8f.16f@24
      refine T_iret d_X11_trench_24 rfl ?_
      refine ⟨?_, ?_, rfl, hBV_25⟩
      · first | grind | (subst_vars; simp_all [uV]; done) | (subst_vars; simp_all [uV]; omega)
      · subst_vars
        first | grind | (simp_all [uV]; done) | (funext a i; simp_all [holeW, retW, treW, plW, cutW, datW, endsV, uV]; done)
set_option maxHeartbeats 1000000 in
set_option maxRecDepth 100000 in
theorem R_X11_plough {G : GG} {V : VV} {R : RR} {x : Int} {y : Int} {u : Int} {v : Int} {k : Int}  (hB : Bd V) (hF : FinR R) (hx : r32 x) (hy : r32 y) (hu : r32 u) (hv : r32 v) (hk : r32 k) : Runs G M_X11_plough 3 162 162 [vr 99, vi x, vi y, vi u, vi v, vi k] V R (QV R (if ¬ (boxP x y u v ∧ 0 ≤ k ∧ k ≤ 100) then -1 else (if V 99 5 = 20 then -5 else (V 99 5 + 1))) (if ¬ (boxP x y u v ∧ 0 ≤ k ∧ k ≤ 100) then endsV V (-1) else (if V 99 5 = 20 then endsV V (-5) else (endsV (plW V x y u v k) (V 99 5 + 1))))) := by
  refine Runs.of pn_X11 (Nat.le_of_ble_eq_true rfl) rfl ?_
  show TT G M_X11_plough (rmd 3 162 162) 162 (Zm G 162 162 (QV R (if ¬ (boxP x y u v ∧ 0 ≤ k ∧ k ≤ 100) then -1 else (if V 99 5 = 20 then -5 else (V 99 5 + 1))) (if ¬ (boxP x y u v ∧ 0 ≤ k ∧ k ≤ 100) then endsV V (-1) else (if V 99 5 = 20 then endsV V (-5) else (endsV (plW V x y u v k) (V 99 5 + 1)))))) 162 0 [(0, vr 99), (1, vi x), (2, vi y), (3, vi u), (4, vi v), (5, vi k)] [] V R
  obtain ⟨hx1, hx2⟩ := hx
  obtain ⟨hy1, hy2⟩ := hy
  obtain ⟨hu1, hu2⟩ := hu
  obtain ⟨hv1, hv2⟩ := hv
  obtain ⟨hk1, hk2⟩ := hk
  have hb99 : 0 ≤ V 99 2 ∧ V 99 2 ≤ 40 := hB.2 99 11 2 0 40 rfl rfl
  refine T_il d_X11_plough_0 rfl ?_
  refine T_il d_X11_plough_1 rfl ?_
  refine T_il d_X11_plough_2 rfl ?_
  refine T_il d_X11_plough_3 rfl ?_
  refine C_ps4 d_X11_plough_5 (hdF (by decide)) (hcF _) (R_X11_isBox (by first | assumption | omega | exact ⟨by omega, by omega⟩ | (subst_vars; simp_all [uV]; done) | grind [uV]) (by first | assumption | omega | exact ⟨by omega, by omega⟩ | (subst_vars; simp_all [uV]; done) | grind [uV]) (by first | assumption | omega | exact ⟨by omega, by omega⟩ | (subst_vars; simp_all [uV]; done) | grind [uV]) (by first | assumption | omega | exact ⟨by omega, by omega⟩ | (subst_vars; simp_all [uV]; done) | grind [uV])) ?_
  refine T_pz0 d_X11_plough_8 (fun h8 => ?_) (fun h8 => ?_)
  · skip
    refine T_al d_X11_plough_22 rfl ?_
    refine T_k d_X11_plough_23 ?_
    refine C_v1 d_X11_plough_24 rfl (hdF (by decide)) (hcF _) (R_X11_ends (by first | assumption | omega | exact ⟨by omega, by omega⟩ | (subst_vars; simp_all [uV]; done) | grind [uV]) (by first | assumption | omega | exact ⟨by omega, by omega⟩ | (subst_vars; simp_all [uV]; done) | grind [uV]) (by first | assumption | omega | exact ⟨by omega, by omega⟩ | (subst_vars; simp_all [uV]; done) | grind [uV]) (by first | assumption | omega | exact ⟨by omega, by omega⟩ | (subst_vars; simp_all [uV]; done) | grind [uV])) (fun r_1 V_2 R_3 qV_2 => ?_)
    obtain ⟨rfl, eV_2, rfl, hBV_2⟩ := qV_2
    -- leaf 8t@27
    refine T_iret d_X11_plough_27 rfl ?_
    refine ⟨?_, ?_, rfl, hBV_2⟩
    · first | grind | (subst_vars; simp_all [uV]; done) | (subst_vars; simp_all [uV]; omega)
    · subst_vars
      first | grind | (simp_all [uV]; done) | (funext a i; simp_all [holeW, retW, treW, plW, cutW, datW, endsV, uV]; done)
  · skip
    refine T_il d_X11_plough_11 rfl ?_
    refine T_k d_X11_plough_13 ?_
    refine T_k d_X11_plough_14 ?_
    refine C_ps3 d_X11_plough_16 (hdF (by decide)) (hcF _) (R_X11_in (by first | assumption | omega | exact ⟨by omega, by omega⟩ | (subst_vars; simp_all [uV]; done) | grind [uV]) (by first | assumption | omega | exact ⟨by omega, by omega⟩ | (subst_vars; simp_all [uV]; done) | grind [uV]) (by first | assumption | omega | exact ⟨by omega, by omega⟩ | (subst_vars; simp_all [uV]; done) | grind [uV])) ?_
    refine T_pz1 d_X11_plough_19 (fun h19 => ?_) (fun h19 => ?_)
    · skip
      refine T_al d_X11_plough_28 rfl ?_
      refine F_gi d_X11_plough_29 rfl hB rfl (fun b_4 => ?_)
      refine T_k d_X11_plough_32 ?_
      refine T_ine d_X11_plough_34 ⟨by omega, by omega⟩ ⟨by omega, by omega⟩ (fun h34 => ?_) (fun h34 => ?_)
      · skip
        refine T_al d_X11_plough_44 rfl ?_
        refine F_gr (b := 111) d_X11_plough_45 rfl hF rfl ?_
        refine T_k d_X11_plough_48 ?_
        refine T_al d_X11_plough_49 rfl ?_
        refine F_gi d_X11_plough_50 rfl hB rfl (fun b_5 => ?_)
        refine T_imul d_X11_plough_53 ?_
        refine T_il d_X11_plough_54 rfl ?_
        refine F_is d_X11_plough_55 rfl hB rfl ⟨by omega, by omega⟩ ⟨by omega, by omega⟩ (fun V_6 eV_6 hBV_6 => ?_)
        refine T_al d_X11_plough_56 rfl ?_
        refine F_gr (b := 111) d_X11_plough_57 rfl hF rfl ?_
        refine T_k d_X11_plough_60 ?_
        refine T_al d_X11_plough_61 rfl ?_
        refine F_gi d_X11_plough_62 rfl hBV_6 rfl (fun b_7 => ?_)
        have fV_6_99_5 : V_6 99 5 = V 99 5 := by rw [eV_6]; rfl
        refine T_imul d_X11_plough_65 ?_
        refine T_k d_X11_plough_66 ?_
        refine T_iadd d_X11_plough_67 ?_
        refine T_il d_X11_plough_68 rfl ?_
        refine F_is d_X11_plough_69 rfl hBV_6 rfl ⟨by omega, by omega⟩ ⟨by omega, by omega⟩ (fun V_8 eV_8 hBV_8 => ?_)
        refine T_al d_X11_plough_70 rfl ?_
        refine F_gr (b := 111) d_X11_plough_71 rfl hF rfl ?_
        refine T_k d_X11_plough_74 ?_
        refine T_al d_X11_plough_75 rfl ?_
        refine F_gi d_X11_plough_76 rfl hBV_8 rfl (fun b_9 => ?_)
        have fV_8_99_5 : V_8 99 5 = V 99 5 := by rw [eV_8, eV_6]; rfl
        refine T_imul d_X11_plough_79 ?_
        refine T_k d_X11_plough_80 ?_
        refine T_iadd d_X11_plough_81 ?_
        refine T_il d_X11_plough_82 rfl ?_
        refine F_is d_X11_plough_83 rfl hBV_8 rfl ⟨by omega, by omega⟩ ⟨by omega, by omega⟩ (fun V_10 eV_10 hBV_10 => ?_)
        refine T_al d_X11_plough_84 rfl ?_
        refine F_gr (b := 111) d_X11_plough_85 rfl hF rfl ?_
        refine T_k d_X11_plough_88 ?_
        refine T_al d_X11_plough_89 rfl ?_
        refine F_gi d_X11_plough_90 rfl hBV_10 rfl (fun b_11 => ?_)
        have fV_10_99_5 : V_10 99 5 = V 99 5 := by rw [eV_10, eV_8, eV_6]; rfl
        refine T_imul d_X11_plough_93 ?_
        refine T_k d_X11_plough_94 ?_
        refine T_iadd d_X11_plough_95 ?_
        refine T_il d_X11_plough_96 rfl ?_
        refine F_is d_X11_plough_98 rfl hBV_10 rfl ⟨by omega, by omega⟩ ⟨by omega, by omega⟩ (fun V_12 eV_12 hBV_12 => ?_)
        refine T_al d_X11_plough_99 rfl ?_
        refine F_gr (b := 112) d_X11_plough_100 rfl hF rfl ?_
        refine T_al d_X11_plough_103 rfl ?_
        refine F_gi d_X11_plough_104 rfl hBV_12 rfl (fun b_13 => ?_)
        have fV_12_99_5 : V_12 99 5 = V 99 5 := by rw [eV_12, eV_10, eV_8, eV_6]; rfl
        refine T_il d_X11_plough_107 rfl ?_
        refine F_is d_X11_plough_109 rfl hBV_12 rfl ⟨by omega, by omega⟩ ⟨by omega, by omega⟩ (fun V_14 eV_14 hBV_14 => ?_)
        refine T_al d_X11_plough_110 rfl ?_
        refine T_dup d_X11_plough_111 rfl ?_
        refine F_gi d_X11_plough_112 rfl hBV_14 rfl (fun b_15 => ?_)
        have fV_14_99_5 : V_14 99 5 = V 99 5 := by rw [eV_14, eV_12, eV_10, eV_8, eV_6]; rfl
        refine T_k d_X11_plough_115 ?_
        refine T_iadd d_X11_plough_116 ?_
        refine F_pi d_X11_plough_117 rfl hBV_14 rfl ⟨by omega, by omega⟩ (fun V_16 eV_16 hBV_16 => ?_)
        refine T_al d_X11_plough_120 rfl ?_
        refine T_al d_X11_plough_121 rfl ?_
        refine F_gi d_X11_plough_122 rfl hBV_16 rfl (fun b_17 => ?_)
        have gV_16_99_5 := (congrFun (congrFun eV_16 99) 5).trans uV_self
        refine C_v1 d_X11_plough_125 rfl (hdF (by decide)) (hcF _) (R_X11_ends (by first | assumption | omega | exact ⟨by omega, by omega⟩ | (subst_vars; simp_all [uV]; done) | grind [uV]) (by first | assumption | omega | exact ⟨by omega, by omega⟩ | (subst_vars; simp_all [uV]; done) | grind [uV]) (by first | assumption | omega | exact ⟨by omega, by omega⟩ | (subst_vars; simp_all [uV]; done) | grind [uV]) (by first | assumption | omega | exact ⟨by omega, by omega⟩ | (subst_vars; simp_all [uV]; done) | grind [uV])) (fun r_18 V_19 R_20 qV_19 => ?_)
        obtain ⟨rfl, eV_19, rfl, hBV_19⟩ := qV_19
        -- leaf 8f.19t.34t@128
        refine T_iret d_X11_plough_128 rfl ?_
        refine ⟨?_, ?_, rfl, hBV_19⟩
        · first | grind | (subst_vars; simp_all [uV]; done) | (subst_vars; simp_all [uV]; omega)
        · subst_vars
          first | grind | (simp_all [uV]; done) | (funext a i; simp_all [holeW, retW, treW, plW, cutW, datW, endsV, uV]; done)
      · skip
        refine T_al d_X11_plough_37 rfl ?_
        refine T_k d_X11_plough_38 ?_
        refine C_v1 d_X11_plough_40 rfl (hdF (by decide)) (hcF _) (R_X11_ends (by first | assumption | omega | exact ⟨by omega, by omega⟩ | (subst_vars; simp_all [uV]; done) | grind [uV]) (by first | assumption | omega | exact ⟨by omega, by omega⟩ | (subst_vars; simp_all [uV]; done) | grind [uV]) (by first | assumption | omega | exact ⟨by omega, by omega⟩ | (subst_vars; simp_all [uV]; done) | grind [uV]) (by first | assumption | omega | exact ⟨by omega, by omega⟩ | (subst_vars; simp_all [uV]; done) | grind [uV])) (fun r_21 V_22 R_23 qV_22 => ?_)
        obtain ⟨rfl, eV_22, rfl, hBV_22⟩ := qV_22
        -- leaf 8f.19t.34f@43
        refine T_iret d_X11_plough_43 rfl ?_
        refine ⟨?_, ?_, rfl, hBV_22⟩
        · first | grind | (subst_vars; simp_all [uV]; done) | (subst_vars; simp_all [uV]; omega)
        · subst_vars
          first | grind | (simp_all [uV]; done) | (funext a i; simp_all [holeW, retW, treW, plW, cutW, datW, endsV, uV]; done)
    · skip
      refine T_al d_X11_plough_22 rfl ?_
      refine T_k d_X11_plough_23 ?_
      refine C_v1 d_X11_plough_24 rfl (hdF (by decide)) (hcF _) (R_X11_ends (by first | assumption | omega | exact ⟨by omega, by omega⟩ | (subst_vars; simp_all [uV]; done) | grind [uV]) (by first | assumption | omega | exact ⟨by omega, by omega⟩ | (subst_vars; simp_all [uV]; done) | grind [uV]) (by first | assumption | omega | exact ⟨by omega, by omega⟩ | (subst_vars; simp_all [uV]; done) | grind [uV]) (by first | assumption | omega | exact ⟨by omega, by omega⟩ | (subst_vars; simp_all [uV]; done) | grind [uV])) (fun r_24 V_25 R_26 qV_25 => ?_)
      obtain ⟨rfl, eV_25, rfl, hBV_25⟩ := qV_25
      -- leaf 8f.19f@27
      refine T_iret d_X11_plough_27 rfl ?_
      refine ⟨?_, ?_, rfl, hBV_25⟩
      · first | grind | (subst_vars; simp_all [uV]; done) | (subst_vars; simp_all [uV]; omega)
      · subst_vars
        first | grind | (simp_all [uV]; done) | (funext a i; simp_all [holeW, retW, treW, plW, cutW, datW, endsV, uV]; done)
set_option maxHeartbeats 1000000 in
set_option maxRecDepth 100000 in
theorem R_X11_cut {G : GG} {V : VV} {R : RR} {l : Int} {e : Int} {k : Int}  (hB : Bd V) (hF : FinR R) (hl : r32 l) (he : r32 e) (hk : r32 k) : Runs G M_X11_cut 3 162 162 [vr 99, vi l, vi e, vi k] V R (QV R (if ¬ wkP k then -1 else (if ¬ (hasP V l ∧ hasP V e) then -2 else (if l = e then -4 else (if V 99 6 = 60 then -5 else (V 99 6 + 1))))) (if ¬ wkP k then endsV V (-1) else (if ¬ (hasP V l ∧ hasP V e) then endsV V (-2) else (if l = e then endsV V (-4) else (if V 99 6 = 60 then endsV V (-5) else (endsV (cutW V l e k) (V 99 6 + 1))))))) := by
  refine Runs.of pn_X11 (Nat.le_of_ble_eq_true rfl) rfl ?_
  show TT G M_X11_cut (rmd 3 162 162) 162 (Zm G 162 162 (QV R (if ¬ wkP k then -1 else (if ¬ (hasP V l ∧ hasP V e) then -2 else (if l = e then -4 else (if V 99 6 = 60 then -5 else (V 99 6 + 1))))) (if ¬ wkP k then endsV V (-1) else (if ¬ (hasP V l ∧ hasP V e) then endsV V (-2) else (if l = e then endsV V (-4) else (if V 99 6 = 60 then endsV V (-5) else (endsV (cutW V l e k) (V 99 6 + 1)))))))) 162 0 [(0, vr 99), (1, vi l), (2, vi e), (3, vi k)] [] V R
  obtain ⟨hl1, hl2⟩ := hl
  obtain ⟨he1, he2⟩ := he
  obtain ⟨hk1, hk2⟩ := hk
  have hb99 : 0 ≤ V 99 2 ∧ V 99 2 ≤ 40 := hB.2 99 11 2 0 40 rfl rfl
  refine T_il d_X11_cut_0 rfl ?_
  refine C_ps1 d_X11_cut_1 (hdF (by decide)) (hcF _) (R_X11_isWeek (by first | assumption | omega | exact ⟨by omega, by omega⟩ | (subst_vars; simp_all [uV]; done) | grind [uV])) ?_
  refine T_pz1 d_X11_cut_4 (fun h4 => ?_) (fun h4 => ?_)
  · skip
    refine T_al d_X11_cut_13 rfl ?_
    refine T_il d_X11_cut_14 rfl ?_
    refine C_pv1 d_X11_cut_15 rfl (hdF (by decide)) (hcF _) (R_X11_isHole (by first | assumption | omega | exact ⟨by omega, by omega⟩ | (subst_vars; simp_all [uV]; done) | grind [uV]) (by first | assumption | omega | exact ⟨by omega, by omega⟩ | (subst_vars; simp_all [uV]; done) | grind [uV])) ?_
    refine T_pz0 d_X11_cut_18 (fun h18 => ?_) (fun h18 => ?_)
    · skip
      refine T_al d_X11_cut_29 rfl ?_
      refine T_k d_X11_cut_30 ?_
      refine C_v1 d_X11_cut_32 rfl (hdF (by decide)) (hcF _) (R_X11_ends (by first | assumption | omega | exact ⟨by omega, by omega⟩ | (subst_vars; simp_all [uV]; done) | grind [uV]) (by first | assumption | omega | exact ⟨by omega, by omega⟩ | (subst_vars; simp_all [uV]; done) | grind [uV]) (by first | assumption | omega | exact ⟨by omega, by omega⟩ | (subst_vars; simp_all [uV]; done) | grind [uV]) (by first | assumption | omega | exact ⟨by omega, by omega⟩ | (subst_vars; simp_all [uV]; done) | grind [uV])) (fun r_1 V_2 R_3 qV_2 => ?_)
      obtain ⟨rfl, eV_2, rfl, hBV_2⟩ := qV_2
      -- leaf 4t.18t@35
      refine T_iret d_X11_cut_35 rfl ?_
      refine ⟨?_, ?_, rfl, hBV_2⟩
      · first | grind | (subst_vars; simp_all [uV]; done) | (subst_vars; simp_all [uV]; omega)
      · subst_vars
        first | grind | (simp_all [uV]; done) | (funext a i; simp_all [holeW, retW, treW, plW, cutW, datW, endsV, uV]; done)
    · skip
      refine T_al d_X11_cut_21 rfl ?_
      refine T_il d_X11_cut_22 rfl ?_
      refine C_pv1 d_X11_cut_23 rfl (hdF (by decide)) (hcF _) (R_X11_isHole (by first | assumption | omega | exact ⟨by omega, by omega⟩ | (subst_vars; simp_all [uV]; done) | grind [uV]) (by first | assumption | omega | exact ⟨by omega, by omega⟩ | (subst_vars; simp_all [uV]; done) | grind [uV])) ?_
      refine T_pz1 d_X11_cut_26 (fun h26 => ?_) (fun h26 => ?_)
      · skip
        refine T_il d_X11_cut_36 rfl ?_
        refine T_il d_X11_cut_37 rfl ?_
        refine T_ine d_X11_cut_38 ⟨by omega, by omega⟩ ⟨by omega, by omega⟩ (fun h38 => ?_) (fun h38 => ?_)
        · skip
          refine T_al d_X11_cut_48 rfl ?_
          refine F_gi d_X11_cut_49 rfl hB rfl (fun b_4 => ?_)
          refine T_k d_X11_cut_52 ?_
          refine T_ine d_X11_cut_54 ⟨by omega, by omega⟩ ⟨by omega, by omega⟩ (fun h54 => ?_) (fun h54 => ?_)
          · skip
            refine T_al d_X11_cut_64 rfl ?_
            refine F_gr (b := 113) d_X11_cut_65 rfl hF rfl ?_
            refine T_al d_X11_cut_68 rfl ?_
            refine F_gi d_X11_cut_69 rfl hB rfl (fun b_5 => ?_)
            refine T_il d_X11_cut_72 rfl ?_
            refine F_is d_X11_cut_73 rfl hB rfl ⟨by omega, by omega⟩ ⟨by omega, by omega⟩ (fun V_6 eV_6 hBV_6 => ?_)
            refine T_al d_X11_cut_74 rfl ?_
            refine F_gr (b := 114) d_X11_cut_75 rfl hF rfl ?_
            refine T_al d_X11_cut_78 rfl ?_
            refine F_gi d_X11_cut_79 rfl hBV_6 rfl (fun b_7 => ?_)
            have fV_6_99_6 : V_6 99 6 = V 99 6 := by rw [eV_6]; rfl
            refine T_il d_X11_cut_82 rfl ?_
            refine F_is d_X11_cut_83 rfl hBV_6 rfl ⟨by omega, by omega⟩ ⟨by omega, by omega⟩ (fun V_8 eV_8 hBV_8 => ?_)
            refine T_al d_X11_cut_84 rfl ?_
            refine F_gr (b := 115) d_X11_cut_85 rfl hF rfl ?_
            refine T_al d_X11_cut_88 rfl ?_
            refine F_gi d_X11_cut_89 rfl hBV_8 rfl (fun b_9 => ?_)
            have fV_8_99_6 : V_8 99 6 = V 99 6 := by rw [eV_8, eV_6]; rfl
            refine T_il d_X11_cut_92 rfl ?_
            refine F_is d_X11_cut_93 rfl hBV_8 rfl ⟨by omega, by omega⟩ ⟨by omega, by omega⟩ (fun V_10 eV_10 hBV_10 => ?_)
            refine T_al d_X11_cut_94 rfl ?_
            refine T_dup d_X11_cut_95 rfl ?_
            refine F_gi d_X11_cut_96 rfl hBV_10 rfl (fun b_11 => ?_)
            have fV_10_99_6 : V_10 99 6 = V 99 6 := by rw [eV_10, eV_8, eV_6]; rfl
            refine T_k d_X11_cut_99 ?_
            refine T_iadd d_X11_cut_100 ?_
            refine F_pi d_X11_cut_101 rfl hBV_10 rfl ⟨by omega, by omega⟩ (fun V_12 eV_12 hBV_12 => ?_)
            refine T_al d_X11_cut_104 rfl ?_
            refine T_al d_X11_cut_105 rfl ?_
            refine F_gi d_X11_cut_106 rfl hBV_12 rfl (fun b_13 => ?_)
            have gV_12_99_6 := (congrFun (congrFun eV_12 99) 6).trans uV_self
            refine C_v1 d_X11_cut_109 rfl (hdF (by decide)) (hcF _) (R_X11_ends (by first | assumption | omega | exact ⟨by omega, by omega⟩ | (subst_vars; simp_all [uV]; done) | grind [uV]) (by first | assumption | omega | exact ⟨by omega, by omega⟩ | (subst_vars; simp_all [uV]; done) | grind [uV]) (by first | assumption | omega | exact ⟨by omega, by omega⟩ | (subst_vars; simp_all [uV]; done) | grind [uV]) (by first | assumption | omega | exact ⟨by omega, by omega⟩ | (subst_vars; simp_all [uV]; done) | grind [uV])) (fun r_14 V_15 R_16 qV_15 => ?_)
            obtain ⟨rfl, eV_15, rfl, hBV_15⟩ := qV_15
            -- leaf 4t.18f.26t.38t.54t@112
            refine T_iret d_X11_cut_112 rfl ?_
            refine ⟨?_, ?_, rfl, hBV_15⟩
            · first | grind | (subst_vars; simp_all [uV]; done) | (subst_vars; simp_all [uV]; omega)
            · subst_vars
              first | grind | (simp_all [uV]; done) | (funext a i; simp_all [holeW, retW, treW, plW, cutW, datW, endsV, uV]; done)
          · skip
            refine T_al d_X11_cut_57 rfl ?_
            refine T_k d_X11_cut_58 ?_
            refine C_v1 d_X11_cut_60 rfl (hdF (by decide)) (hcF _) (R_X11_ends (by first | assumption | omega | exact ⟨by omega, by omega⟩ | (subst_vars; simp_all [uV]; done) | grind [uV]) (by first | assumption | omega | exact ⟨by omega, by omega⟩ | (subst_vars; simp_all [uV]; done) | grind [uV]) (by first | assumption | omega | exact ⟨by omega, by omega⟩ | (subst_vars; simp_all [uV]; done) | grind [uV]) (by first | assumption | omega | exact ⟨by omega, by omega⟩ | (subst_vars; simp_all [uV]; done) | grind [uV])) (fun r_17 V_18 R_19 qV_18 => ?_)
            obtain ⟨rfl, eV_18, rfl, hBV_18⟩ := qV_18
            -- leaf 4t.18f.26t.38t.54f@63
            refine T_iret d_X11_cut_63 rfl ?_
            refine ⟨?_, ?_, rfl, hBV_18⟩
            · first | grind | (subst_vars; simp_all [uV]; done) | (subst_vars; simp_all [uV]; omega)
            · subst_vars
              first | grind | (simp_all [uV]; done) | (funext a i; simp_all [holeW, retW, treW, plW, cutW, datW, endsV, uV]; done)
        · skip
          refine T_al d_X11_cut_41 rfl ?_
          refine T_k d_X11_cut_42 ?_
          refine C_v1 d_X11_cut_44 rfl (hdF (by decide)) (hcF _) (R_X11_ends (by first | assumption | omega | exact ⟨by omega, by omega⟩ | (subst_vars; simp_all [uV]; done) | grind [uV]) (by first | assumption | omega | exact ⟨by omega, by omega⟩ | (subst_vars; simp_all [uV]; done) | grind [uV]) (by first | assumption | omega | exact ⟨by omega, by omega⟩ | (subst_vars; simp_all [uV]; done) | grind [uV]) (by first | assumption | omega | exact ⟨by omega, by omega⟩ | (subst_vars; simp_all [uV]; done) | grind [uV])) (fun r_20 V_21 R_22 qV_21 => ?_)
          obtain ⟨rfl, eV_21, rfl, hBV_21⟩ := qV_21
          -- leaf 4t.18f.26t.38f@47
          refine T_iret d_X11_cut_47 rfl ?_
          refine ⟨?_, ?_, rfl, hBV_21⟩
          · first | grind | (subst_vars; simp_all [uV]; done) | (subst_vars; simp_all [uV]; omega)
          · subst_vars
            first | grind | (simp_all [uV]; done) | (funext a i; simp_all [holeW, retW, treW, plW, cutW, datW, endsV, uV]; done)
      · skip
        refine T_al d_X11_cut_29 rfl ?_
        refine T_k d_X11_cut_30 ?_
        refine C_v1 d_X11_cut_32 rfl (hdF (by decide)) (hcF _) (R_X11_ends (by first | assumption | omega | exact ⟨by omega, by omega⟩ | (subst_vars; simp_all [uV]; done) | grind [uV]) (by first | assumption | omega | exact ⟨by omega, by omega⟩ | (subst_vars; simp_all [uV]; done) | grind [uV]) (by first | assumption | omega | exact ⟨by omega, by omega⟩ | (subst_vars; simp_all [uV]; done) | grind [uV]) (by first | assumption | omega | exact ⟨by omega, by omega⟩ | (subst_vars; simp_all [uV]; done) | grind [uV])) (fun r_23 V_24 R_25 qV_24 => ?_)
        obtain ⟨rfl, eV_24, rfl, hBV_24⟩ := qV_24
        -- leaf 4t.18f.26f@35
        refine T_iret d_X11_cut_35 rfl ?_
        refine ⟨?_, ?_, rfl, hBV_24⟩
        · first | grind | (subst_vars; simp_all [uV]; done) | (subst_vars; simp_all [uV]; omega)
        · subst_vars
          first | grind | (simp_all [uV]; done) | (funext a i; simp_all [holeW, retW, treW, plW, cutW, datW, endsV, uV]; done)
  · skip
    refine T_al d_X11_cut_7 rfl ?_
    refine T_k d_X11_cut_8 ?_
    refine C_v1 d_X11_cut_9 rfl (hdF (by decide)) (hcF _) (R_X11_ends (by first | assumption | omega | exact ⟨by omega, by omega⟩ | (subst_vars; simp_all [uV]; done) | grind [uV]) (by first | assumption | omega | exact ⟨by omega, by omega⟩ | (subst_vars; simp_all [uV]; done) | grind [uV]) (by first | assumption | omega | exact ⟨by omega, by omega⟩ | (subst_vars; simp_all [uV]; done) | grind [uV]) (by first | assumption | omega | exact ⟨by omega, by omega⟩ | (subst_vars; simp_all [uV]; done) | grind [uV])) (fun r_26 V_27 R_28 qV_27 => ?_)
    obtain ⟨rfl, eV_27, rfl, hBV_27⟩ := qV_27
    -- leaf 4f@12
    refine T_iret d_X11_cut_12 rfl ?_
    refine ⟨?_, ?_, rfl, hBV_27⟩
    · first | grind | (subst_vars; simp_all [uV]; done) | (subst_vars; simp_all [uV]; omega)
    · subst_vars
      first | grind | (simp_all [uV]; done) | (funext a i; simp_all [holeW, retW, treW, plW, cutW, datW, endsV, uV]; done)
set_option maxHeartbeats 1000000 in
set_option maxRecDepth 100000 in
theorem R_X11_date {G : GG} {V : VV} {R : RR} {h : Int} {f : Int} {l : Int} {k : Int}  (hB : Bd V) (hF : FinR R) (hh : r32 h) (hf : r32 f) (hl : r32 l) (hk : r32 k) : Runs G M_X11_date 3 162 162 [vr 99, vi h, vi f, vi l, vi k] V R (QV R (if ¬ ((0 ≤ f ∧ f ≤ l ∧ l ≤ 2000) ∧ wkP k) then -1 else (if ¬ hasP V h then -2 else (if V 99 7 = 60 then -5 else (V 99 7 + 1)))) (if ¬ ((0 ≤ f ∧ f ≤ l ∧ l ≤ 2000) ∧ wkP k) then endsV V (-1) else (if ¬ hasP V h then endsV V (-2) else (if V 99 7 = 60 then endsV V (-5) else (endsV (datW V h f l k) (V 99 7 + 1)))))) := by
  refine Runs.of pn_X11 (Nat.le_of_ble_eq_true rfl) rfl ?_
  show TT G M_X11_date (rmd 3 162 162) 162 (Zm G 162 162 (QV R (if ¬ ((0 ≤ f ∧ f ≤ l ∧ l ≤ 2000) ∧ wkP k) then -1 else (if ¬ hasP V h then -2 else (if V 99 7 = 60 then -5 else (V 99 7 + 1)))) (if ¬ ((0 ≤ f ∧ f ≤ l ∧ l ≤ 2000) ∧ wkP k) then endsV V (-1) else (if ¬ hasP V h then endsV V (-2) else (if V 99 7 = 60 then endsV V (-5) else (endsV (datW V h f l k) (V 99 7 + 1))))))) 162 0 [(0, vr 99), (1, vi h), (2, vi f), (3, vi l), (4, vi k)] [] V R
  obtain ⟨hh1, hh2⟩ := hh
  obtain ⟨hf1, hf2⟩ := hf
  obtain ⟨hl1, hl2⟩ := hl
  obtain ⟨hk1, hk2⟩ := hk
  have hb99 : 0 ≤ V 99 2 ∧ V 99 2 ≤ 40 := hB.2 99 11 2 0 40 rfl rfl
  refine T_il d_X11_date_0 rfl ?_
  refine T_k d_X11_date_1 ?_
  refine T_il d_X11_date_2 rfl ?_
  refine C_ps3 d_X11_date_3 (hdF (by decide)) (hcF _) (R_X11_in (by first | assumption | omega | exact ⟨by omega, by omega⟩ | (subst_vars; simp_all [uV]; done) | grind [uV]) (by first | assumption | omega | exact ⟨by omega, by omega⟩ | (subst_vars; simp_all [uV]; done) | grind [uV]) (by first | assumption | omega | exact ⟨by omega, by omega⟩ | (subst_vars; simp_all [uV]; done) | grind [uV])) ?_
  refine T_pz0 d_X11_date_6 (fun h6 => ?_) (fun h6 => ?_)
  · skip
    refine T_al d_X11_date_24 rfl ?_
    refine T_k d_X11_date_25 ?_
    refine C_v1 d_X11_date_26 rfl (hdF (by decide)) (hcF _) (R_X11_ends (by first | assumption | omega | exact ⟨by omega, by omega⟩ | (subst_vars; simp_all [uV]; done) | grind [uV]) (by first | assumption | omega | exact ⟨by omega, by omega⟩ | (subst_vars; simp_all [uV]; done) | grind [uV]) (by first | assumption | omega | exact ⟨by omega, by omega⟩ | (subst_vars; simp_all [uV]; done) | grind [uV]) (by first | assumption | omega | exact ⟨by omega, by omega⟩ | (subst_vars; simp_all [uV]; done) | grind [uV])) (fun r_1 V_2 R_3 qV_2 => ?_)
    obtain ⟨rfl, eV_2, rfl, hBV_2⟩ := qV_2
    -- leaf 6t@29
    refine T_iret d_X11_date_29 rfl ?_
    refine ⟨?_, ?_, rfl, hBV_2⟩
    · first | grind | (subst_vars; simp_all [uV]; done) | (subst_vars; simp_all [uV]; omega)
    · subst_vars
      first | grind | (simp_all [uV]; done) | (funext a i; simp_all [holeW, retW, treW, plW, cutW, datW, endsV, uV]; done)
  · skip
    refine T_il d_X11_date_9 rfl ?_
    refine T_k d_X11_date_10 ?_
    refine T_igt d_X11_date_13 ⟨by omega, by omega⟩ ⟨by omega, by omega⟩ (fun h13 => ?_) (fun h13 => ?_)
    · skip
      refine T_al d_X11_date_24 rfl ?_
      refine T_k d_X11_date_25 ?_
      refine C_v1 d_X11_date_26 rfl (hdF (by decide)) (hcF _) (R_X11_ends (by first | assumption | omega | exact ⟨by omega, by omega⟩ | (subst_vars; simp_all [uV]; done) | grind [uV]) (by first | assumption | omega | exact ⟨by omega, by omega⟩ | (subst_vars; simp_all [uV]; done) | grind [uV]) (by first | assumption | omega | exact ⟨by omega, by omega⟩ | (subst_vars; simp_all [uV]; done) | grind [uV]) (by first | assumption | omega | exact ⟨by omega, by omega⟩ | (subst_vars; simp_all [uV]; done) | grind [uV])) (fun r_4 V_5 R_6 qV_5 => ?_)
      obtain ⟨rfl, eV_5, rfl, hBV_5⟩ := qV_5
      -- leaf 6f.13t@29
      refine T_iret d_X11_date_29 rfl ?_
      refine ⟨?_, ?_, rfl, hBV_5⟩
      · first | grind | (subst_vars; simp_all [uV]; done) | (subst_vars; simp_all [uV]; omega)
      · subst_vars
        first | grind | (simp_all [uV]; done) | (funext a i; simp_all [holeW, retW, treW, plW, cutW, datW, endsV, uV]; done)
    · skip
      refine T_il d_X11_date_16 rfl ?_
      refine C_ps1 d_X11_date_18 (hdF (by decide)) (hcF _) (R_X11_isWeek (by first | assumption | omega | exact ⟨by omega, by omega⟩ | (subst_vars; simp_all [uV]; done) | grind [uV])) ?_
      refine T_pz1 d_X11_date_21 (fun h21 => ?_) (fun h21 => ?_)
      · skip
        refine T_al d_X11_date_30 rfl ?_
        refine T_il d_X11_date_31 rfl ?_
        refine C_pv1 d_X11_date_32 rfl (hdF (by decide)) (hcF _) (R_X11_isHole (by first | assumption | omega | exact ⟨by omega, by omega⟩ | (subst_vars; simp_all [uV]; done) | grind [uV]) (by first | assumption | omega | exact ⟨by omega, by omega⟩ | (subst_vars; simp_all [uV]; done) | grind [uV])) ?_
        refine T_pz1 d_X11_date_35 (fun h35 => ?_) (fun h35 => ?_)
        · skip
          refine T_al d_X11_date_45 rfl ?_
          refine F_gi d_X11_date_46 rfl hB rfl (fun b_7 => ?_)
          refine T_k d_X11_date_49 ?_
          refine T_ine d_X11_date_51 ⟨by omega, by omega⟩ ⟨by omega, by omega⟩ (fun h51 => ?_) (fun h51 => ?_)
          · skip
            refine T_al d_X11_date_61 rfl ?_
            refine F_gr (b := 116) d_X11_date_62 rfl hF rfl ?_
            refine T_al d_X11_date_65 rfl ?_
            refine F_gi d_X11_date_66 rfl hB rfl (fun b_8 => ?_)
            refine T_il d_X11_date_69 rfl ?_
            refine F_is d_X11_date_70 rfl hB rfl ⟨by omega, by omega⟩ ⟨by omega, by omega⟩ (fun V_9 eV_9 hBV_9 => ?_)
            refine T_al d_X11_date_71 rfl ?_
            refine F_gr (b := 117) d_X11_date_72 rfl hF rfl ?_
            refine T_al d_X11_date_75 rfl ?_
            refine F_gi d_X11_date_76 rfl hBV_9 rfl (fun b_10 => ?_)
            have fV_9_99_7 : V_9 99 7 = V 99 7 := by rw [eV_9]; rfl
            refine T_il d_X11_date_79 rfl ?_
            refine F_is d_X11_date_80 rfl hBV_9 rfl ⟨by omega, by omega⟩ ⟨by omega, by omega⟩ (fun V_11 eV_11 hBV_11 => ?_)
            refine T_al d_X11_date_81 rfl ?_
            refine F_gr (b := 118) d_X11_date_82 rfl hF rfl ?_
            refine T_al d_X11_date_85 rfl ?_
            refine F_gi d_X11_date_86 rfl hBV_11 rfl (fun b_12 => ?_)
            have fV_11_99_7 : V_11 99 7 = V 99 7 := by rw [eV_11, eV_9]; rfl
            refine T_il d_X11_date_89 rfl ?_
            refine F_is d_X11_date_90 rfl hBV_11 rfl ⟨by omega, by omega⟩ ⟨by omega, by omega⟩ (fun V_13 eV_13 hBV_13 => ?_)
            refine T_al d_X11_date_91 rfl ?_
            refine F_gr (b := 119) d_X11_date_92 rfl hF rfl ?_
            refine T_al d_X11_date_95 rfl ?_
            refine F_gi d_X11_date_96 rfl hBV_13 rfl (fun b_14 => ?_)
            have fV_13_99_7 : V_13 99 7 = V 99 7 := by rw [eV_13, eV_11, eV_9]; rfl
            refine T_il d_X11_date_99 rfl ?_
            refine F_is d_X11_date_101 rfl hBV_13 rfl ⟨by omega, by omega⟩ ⟨by omega, by omega⟩ (fun V_15 eV_15 hBV_15 => ?_)
            refine T_al d_X11_date_102 rfl ?_
            refine T_dup d_X11_date_103 rfl ?_
            refine F_gi d_X11_date_104 rfl hBV_15 rfl (fun b_16 => ?_)
            have fV_15_99_7 : V_15 99 7 = V 99 7 := by rw [eV_15, eV_13, eV_11, eV_9]; rfl
            refine T_k d_X11_date_107 ?_
            refine T_iadd d_X11_date_108 ?_
            refine F_pi d_X11_date_109 rfl hBV_15 rfl ⟨by omega, by omega⟩ (fun V_17 eV_17 hBV_17 => ?_)
            refine T_al d_X11_date_112 rfl ?_
            refine T_al d_X11_date_113 rfl ?_
            refine F_gi d_X11_date_114 rfl hBV_17 rfl (fun b_18 => ?_)
            have gV_17_99_7 := (congrFun (congrFun eV_17 99) 7).trans uV_self
            refine C_v1 d_X11_date_117 rfl (hdF (by decide)) (hcF _) (R_X11_ends (by first | assumption | omega | exact ⟨by omega, by omega⟩ | (subst_vars; simp_all [uV]; done) | grind [uV]) (by first | assumption | omega | exact ⟨by omega, by omega⟩ | (subst_vars; simp_all [uV]; done) | grind [uV]) (by first | assumption | omega | exact ⟨by omega, by omega⟩ | (subst_vars; simp_all [uV]; done) | grind [uV]) (by first | assumption | omega | exact ⟨by omega, by omega⟩ | (subst_vars; simp_all [uV]; done) | grind [uV])) (fun r_19 V_20 R_21 qV_20 => ?_)
            obtain ⟨rfl, eV_20, rfl, hBV_20⟩ := qV_20
            -- leaf 6f.13f.21t.35t.51t@120
            refine T_iret d_X11_date_120 rfl ?_
            refine ⟨?_, ?_, rfl, hBV_20⟩
            · first | grind | (subst_vars; simp_all [uV]; done) | (subst_vars; simp_all [uV]; omega)
            · subst_vars
              first | grind | (simp_all [uV]; done) | (funext a i; simp_all [holeW, retW, treW, plW, cutW, datW, endsV, uV]; done)
          · skip
            refine T_al d_X11_date_54 rfl ?_
            refine T_k d_X11_date_55 ?_
            refine C_v1 d_X11_date_57 rfl (hdF (by decide)) (hcF _) (R_X11_ends (by first | assumption | omega | exact ⟨by omega, by omega⟩ | (subst_vars; simp_all [uV]; done) | grind [uV]) (by first | assumption | omega | exact ⟨by omega, by omega⟩ | (subst_vars; simp_all [uV]; done) | grind [uV]) (by first | assumption | omega | exact ⟨by omega, by omega⟩ | (subst_vars; simp_all [uV]; done) | grind [uV]) (by first | assumption | omega | exact ⟨by omega, by omega⟩ | (subst_vars; simp_all [uV]; done) | grind [uV])) (fun r_22 V_23 R_24 qV_23 => ?_)
            obtain ⟨rfl, eV_23, rfl, hBV_23⟩ := qV_23
            -- leaf 6f.13f.21t.35t.51f@60
            refine T_iret d_X11_date_60 rfl ?_
            refine ⟨?_, ?_, rfl, hBV_23⟩
            · first | grind | (subst_vars; simp_all [uV]; done) | (subst_vars; simp_all [uV]; omega)
            · subst_vars
              first | grind | (simp_all [uV]; done) | (funext a i; simp_all [holeW, retW, treW, plW, cutW, datW, endsV, uV]; done)
        · skip
          refine T_al d_X11_date_38 rfl ?_
          refine T_k d_X11_date_39 ?_
          refine C_v1 d_X11_date_41 rfl (hdF (by decide)) (hcF _) (R_X11_ends (by first | assumption | omega | exact ⟨by omega, by omega⟩ | (subst_vars; simp_all [uV]; done) | grind [uV]) (by first | assumption | omega | exact ⟨by omega, by omega⟩ | (subst_vars; simp_all [uV]; done) | grind [uV]) (by first | assumption | omega | exact ⟨by omega, by omega⟩ | (subst_vars; simp_all [uV]; done) | grind [uV]) (by first | assumption | omega | exact ⟨by omega, by omega⟩ | (subst_vars; simp_all [uV]; done) | grind [uV])) (fun r_25 V_26 R_27 qV_26 => ?_)
          obtain ⟨rfl, eV_26, rfl, hBV_26⟩ := qV_26
          -- leaf 6f.13f.21t.35f@44
          refine T_iret d_X11_date_44 rfl ?_
          refine ⟨?_, ?_, rfl, hBV_26⟩
          · first | grind | (subst_vars; simp_all [uV]; done) | (subst_vars; simp_all [uV]; omega)
          · subst_vars
            first | grind | (simp_all [uV]; done) | (funext a i; simp_all [holeW, retW, treW, plW, cutW, datW, endsV, uV]; done)
      · skip
        refine T_al d_X11_date_24 rfl ?_
        refine T_k d_X11_date_25 ?_
        refine C_v1 d_X11_date_26 rfl (hdF (by decide)) (hcF _) (R_X11_ends (by first | assumption | omega | exact ⟨by omega, by omega⟩ | (subst_vars; simp_all [uV]; done) | grind [uV]) (by first | assumption | omega | exact ⟨by omega, by omega⟩ | (subst_vars; simp_all [uV]; done) | grind [uV]) (by first | assumption | omega | exact ⟨by omega, by omega⟩ | (subst_vars; simp_all [uV]; done) | grind [uV]) (by first | assumption | omega | exact ⟨by omega, by omega⟩ | (subst_vars; simp_all [uV]; done) | grind [uV])) (fun r_28 V_29 R_30 qV_29 => ?_)
        obtain ⟨rfl, eV_29, rfl, hBV_29⟩ := qV_29
        -- leaf 6f.13f.21f@29
        refine T_iret d_X11_date_29 rfl ?_
        refine ⟨?_, ?_, rfl, hBV_29⟩
        · first | grind | (subst_vars; simp_all [uV]; done) | (subst_vars; simp_all [uV]; omega)
        · subst_vars
          first | grind | (simp_all [uV]; done) | (funext a i; simp_all [holeW, retW, treW, plW, cutW, datW, endsV, uV]; done)
set_option maxHeartbeats 1000000 in
set_option maxRecDepth 100000 in
theorem R_X11_strike {G : GG} {V : VV} {R : RR} {h : Int} {k : Int}  (hB : Bd V) (hF : FinR R) (hh : r32 h) (hk : r32 k) : Runs G M_X11_strike 3 162 162 [vr 99, vi h, vi k] V R (QV R (if ¬ wkP k then -1 else (if ¬ hasP V h then -2 else (0))) (if ¬ wkP k then endsV V (-1) else (if ¬ hasP V h then endsV V (-2) else (endsV (if k < V 105 h.toNat then uV V 105 h.toNat k else V) (0))))) := by
  refine Runs.of pn_X11 (Nat.le_of_ble_eq_true rfl) rfl ?_
  show TT G M_X11_strike (rmd 3 162 162) 162 (Zm G 162 162 (QV R (if ¬ wkP k then -1 else (if ¬ hasP V h then -2 else (0))) (if ¬ wkP k then endsV V (-1) else (if ¬ hasP V h then endsV V (-2) else (endsV (if k < V 105 h.toNat then uV V 105 h.toNat k else V) (0)))))) 162 0 [(0, vr 99), (1, vi h), (2, vi k)] [] V R
  obtain ⟨hh1, hh2⟩ := hh
  obtain ⟨hk1, hk2⟩ := hk
  have hb99 : 0 ≤ V 99 2 ∧ V 99 2 ≤ 40 := hB.2 99 11 2 0 40 rfl rfl
  refine T_il d_X11_strike_0 rfl ?_
  refine C_ps1 d_X11_strike_1 (hdF (by decide)) (hcF _) (R_X11_isWeek (by first | assumption | omega | exact ⟨by omega, by omega⟩ | (subst_vars; simp_all [uV]; done) | grind [uV])) ?_
  refine T_pz1 d_X11_strike_4 (fun h4 => ?_) (fun h4 => ?_)
  · skip
    refine T_al d_X11_strike_13 rfl ?_
    refine T_il d_X11_strike_14 rfl ?_
    refine C_pv1 d_X11_strike_15 rfl (hdF (by decide)) (hcF _) (R_X11_isHole (by first | assumption | omega | exact ⟨by omega, by omega⟩ | (subst_vars; simp_all [uV]; done) | grind [uV]) (by first | assumption | omega | exact ⟨by omega, by omega⟩ | (subst_vars; simp_all [uV]; done) | grind [uV])) ?_
    refine T_pz1 d_X11_strike_18 (fun h18 => ?_) (fun h18 => ?_)
    · skip
      refine T_il d_X11_strike_28 rfl ?_
      refine T_al d_X11_strike_29 rfl ?_
      refine F_gr (b := 105) d_X11_strike_30 rfl hF rfl ?_
      refine T_il d_X11_strike_33 rfl ?_
      refine F_ia d_X11_strike_34 rfl hB rfl ⟨by omega, by omega⟩ (fun b_1 => ?_)
      refine T_ige d_X11_strike_35 ⟨by omega, by omega⟩ ⟨by omega, by omega⟩ (fun h35 => ?_) (fun h35 => ?_)
      · skip
        refine T_al d_X11_strike_45 rfl ?_
        refine T_k d_X11_strike_46 ?_
        refine C_v1 d_X11_strike_47 rfl (hdF (by decide)) (hcF _) (R_X11_ends (by first | assumption | omega | exact ⟨by omega, by omega⟩ | (subst_vars; simp_all [uV]; done) | grind [uV]) (by first | assumption | omega | exact ⟨by omega, by omega⟩ | (subst_vars; simp_all [uV]; done) | grind [uV]) (by first | assumption | omega | exact ⟨by omega, by omega⟩ | (subst_vars; simp_all [uV]; done) | grind [uV]) (by first | assumption | omega | exact ⟨by omega, by omega⟩ | (subst_vars; simp_all [uV]; done) | grind [uV])) (fun r_2 V_3 R_4 qV_3 => ?_)
        obtain ⟨rfl, eV_3, rfl, hBV_3⟩ := qV_3
        -- leaf 4t.18t.35t@50
        refine T_iret d_X11_strike_50 rfl ?_
        refine ⟨?_, ?_, rfl, hBV_3⟩
        · first | grind | (subst_vars; simp_all [uV]; done) | (subst_vars; simp_all [uV]; omega)
        · subst_vars
          first | grind | (simp_all [uV]; done) | (funext a i; simp_all [holeW, retW, treW, plW, cutW, datW, endsV, uV]; done)
      · skip
        refine T_al d_X11_strike_38 rfl ?_
        refine F_gr (b := 105) d_X11_strike_39 rfl hF rfl ?_
        refine T_il d_X11_strike_42 rfl ?_
        refine T_il d_X11_strike_43 rfl ?_
        refine F_is d_X11_strike_44 rfl hB rfl ⟨by omega, by omega⟩ ⟨by omega, by omega⟩ (fun V_5 eV_5 hBV_5 => ?_)
        refine T_al d_X11_strike_45 rfl ?_
        refine T_k d_X11_strike_46 ?_
        refine C_v1 d_X11_strike_47 rfl (hdF (by decide)) (hcF _) (R_X11_ends (by first | assumption | omega | exact ⟨by omega, by omega⟩ | (subst_vars; simp_all [uV]; done) | grind [uV]) (by first | assumption | omega | exact ⟨by omega, by omega⟩ | (subst_vars; simp_all [uV]; done) | grind [uV]) (by first | assumption | omega | exact ⟨by omega, by omega⟩ | (subst_vars; simp_all [uV]; done) | grind [uV]) (by first | assumption | omega | exact ⟨by omega, by omega⟩ | (subst_vars; simp_all [uV]; done) | grind [uV])) (fun r_6 V_7 R_8 qV_7 => ?_)
        obtain ⟨rfl, eV_7, rfl, hBV_7⟩ := qV_7
        -- leaf 4t.18t.35f@50
        refine T_iret d_X11_strike_50 rfl ?_
        refine ⟨?_, ?_, rfl, hBV_7⟩
        · first | grind | (subst_vars; simp_all [uV]; done) | (subst_vars; simp_all [uV]; omega)
        · subst_vars
          first | grind | (simp_all [uV]; done) | (funext a i; simp_all [holeW, retW, treW, plW, cutW, datW, endsV, uV]; done)
    · skip
      refine T_al d_X11_strike_21 rfl ?_
      refine T_k d_X11_strike_22 ?_
      refine C_v1 d_X11_strike_24 rfl (hdF (by decide)) (hcF _) (R_X11_ends (by first | assumption | omega | exact ⟨by omega, by omega⟩ | (subst_vars; simp_all [uV]; done) | grind [uV]) (by first | assumption | omega | exact ⟨by omega, by omega⟩ | (subst_vars; simp_all [uV]; done) | grind [uV]) (by first | assumption | omega | exact ⟨by omega, by omega⟩ | (subst_vars; simp_all [uV]; done) | grind [uV]) (by first | assumption | omega | exact ⟨by omega, by omega⟩ | (subst_vars; simp_all [uV]; done) | grind [uV])) (fun r_9 V_10 R_11 qV_10 => ?_)
      obtain ⟨rfl, eV_10, rfl, hBV_10⟩ := qV_10
      -- leaf 4t.18f@27
      refine T_iret d_X11_strike_27 rfl ?_
      refine ⟨?_, ?_, rfl, hBV_10⟩
      · first | grind | (subst_vars; simp_all [uV]; done) | (subst_vars; simp_all [uV]; omega)
      · subst_vars
        first | grind | (simp_all [uV]; done) | (funext a i; simp_all [holeW, retW, treW, plW, cutW, datW, endsV, uV]; done)
  · skip
    refine T_al d_X11_strike_7 rfl ?_
    refine T_k d_X11_strike_8 ?_
    refine C_v1 d_X11_strike_9 rfl (hdF (by decide)) (hcF _) (R_X11_ends (by first | assumption | omega | exact ⟨by omega, by omega⟩ | (subst_vars; simp_all [uV]; done) | grind [uV]) (by first | assumption | omega | exact ⟨by omega, by omega⟩ | (subst_vars; simp_all [uV]; done) | grind [uV]) (by first | assumption | omega | exact ⟨by omega, by omega⟩ | (subst_vars; simp_all [uV]; done) | grind [uV]) (by first | assumption | omega | exact ⟨by omega, by omega⟩ | (subst_vars; simp_all [uV]; done) | grind [uV])) (fun r_12 V_13 R_14 qV_13 => ?_)
    obtain ⟨rfl, eV_13, rfl, hBV_13⟩ := qV_13
    -- leaf 4f@12
    refine T_iret d_X11_strike_12 rfl ?_
    refine ⟨?_, ?_, rfl, hBV_13⟩
    · first | grind | (subst_vars; simp_all [uV]; done) | (subst_vars; simp_all [uV]; omega)
    · subst_vars
      first | grind | (simp_all [uV]; done) | (funext a i; simp_all [holeW, retW, treW, plW, cutW, datW, endsV, uV]; done)
set_option maxHeartbeats 1000000 in
set_option maxRecDepth 100000 in
theorem R_X11_error {G : GG} {V : VV} {R : RR} {n : Int}  (hB : Bd V) (hF : FinR R) (hn : r32 n) : Runs G M_X11_error 3 162 162 [vr 99, vi n] V R (QV R (if ¬ (0 ≤ n ∧ n ≤ 5) then -1 else (V 99 8)) (if ¬ (0 ≤ n ∧ n ≤ 5) then endsV V (-1) else (endsV (uV V 99 8 n) (V 99 8)))) := by
  refine Runs.of pn_X11 (Nat.le_of_ble_eq_true rfl) rfl ?_
  show TT G M_X11_error (rmd 3 162 162) 162 (Zm G 162 162 (QV R (if ¬ (0 ≤ n ∧ n ≤ 5) then -1 else (V 99 8)) (if ¬ (0 ≤ n ∧ n ≤ 5) then endsV V (-1) else (endsV (uV V 99 8 n) (V 99 8))))) 162 0 [(0, vr 99), (1, vi n)] [] V R
  obtain ⟨hn1, hn2⟩ := hn
  have hb99 : 0 ≤ V 99 2 ∧ V 99 2 ≤ 40 := hB.2 99 11 2 0 40 rfl rfl
  refine T_il d_X11_error_0 rfl ?_
  refine T_k d_X11_error_1 ?_
  refine T_k d_X11_error_2 ?_
  refine C_ps3 d_X11_error_3 (hdF (by decide)) (hcF _) (R_X11_in (by first | assumption | omega | exact ⟨by omega, by omega⟩ | (subst_vars; simp_all [uV]; done) | grind [uV]) (by first | assumption | omega | exact ⟨by omega, by omega⟩ | (subst_vars; simp_all [uV]; done) | grind [uV]) (by first | assumption | omega | exact ⟨by omega, by omega⟩ | (subst_vars; simp_all [uV]; done) | grind [uV])) ?_
  refine T_pz1 d_X11_error_6 (fun h6 => ?_) (fun h6 => ?_)
  · skip
    refine T_al d_X11_error_15 rfl ?_
    refine F_gi d_X11_error_16 rfl hB rfl (fun b_1 => ?_)
    refine F_isg d_X11_error_19 (f := fun x_2 => [(0, vr 99), (1, vi n), (2, vi x_2)]) (fun _ => rfl) (fun x_2 ex_2 => ?_)
    refine T_al d_X11_error_20 rfl ?_
    refine T_il d_X11_error_21 rfl ?_
    refine F_pi d_X11_error_22 rfl hB rfl ⟨by omega, by omega⟩ (fun V_3 eV_3 hBV_3 => ?_)
    refine T_al d_X11_error_25 rfl ?_
    refine T_il d_X11_error_26 rfl ?_
    refine C_v1 d_X11_error_27 rfl (hdF (by decide)) (hcF _) (R_X11_ends (by first | assumption | omega | exact ⟨by omega, by omega⟩ | (subst_vars; simp_all [uV]; done) | grind [uV]) (by first | assumption | omega | exact ⟨by omega, by omega⟩ | (subst_vars; simp_all [uV]; done) | grind [uV]) (by first | assumption | omega | exact ⟨by omega, by omega⟩ | (subst_vars; simp_all [uV]; done) | grind [uV]) (by first | assumption | omega | exact ⟨by omega, by omega⟩ | (subst_vars; simp_all [uV]; done) | grind [uV])) (fun r_4 V_5 R_6 qV_5 => ?_)
    obtain ⟨rfl, eV_5, rfl, hBV_5⟩ := qV_5
    -- leaf 6t@30
    refine T_iret d_X11_error_30 rfl ?_
    refine ⟨?_, ?_, rfl, hBV_5⟩
    · first | grind | (subst_vars; simp_all [uV]; done) | (subst_vars; simp_all [uV]; omega)
    · subst_vars
      first | grind | (simp_all [uV]; done) | (funext a i; simp_all [holeW, retW, treW, plW, cutW, datW, endsV, uV]; done)
  · skip
    refine T_al d_X11_error_9 rfl ?_
    refine T_k d_X11_error_10 ?_
    refine C_v1 d_X11_error_11 rfl (hdF (by decide)) (hcF _) (R_X11_ends (by first | assumption | omega | exact ⟨by omega, by omega⟩ | (subst_vars; simp_all [uV]; done) | grind [uV]) (by first | assumption | omega | exact ⟨by omega, by omega⟩ | (subst_vars; simp_all [uV]; done) | grind [uV]) (by first | assumption | omega | exact ⟨by omega, by omega⟩ | (subst_vars; simp_all [uV]; done) | grind [uV]) (by first | assumption | omega | exact ⟨by omega, by omega⟩ | (subst_vars; simp_all [uV]; done) | grind [uV])) (fun r_7 V_8 R_9 qV_8 => ?_)
    obtain ⟨rfl, eV_8, rfl, hBV_8⟩ := qV_8
    -- leaf 6f@14
    refine T_iret d_X11_error_14 rfl ?_
    refine ⟨?_, ?_, rfl, hBV_8⟩
    · first | grind | (subst_vars; simp_all [uV]; done) | (subst_vars; simp_all [uV]; omega)
    · subst_vars
      first | grind | (simp_all [uV]; done) | (funext a i; simp_all [holeW, retW, treW, plW, cutW, datW, endsV, uV]; done)
