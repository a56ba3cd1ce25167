set_option maxHeartbeats 1000000 in
set_option maxRecDepth 100000 in
theorem R_X1_countUnfilled {G : GG} {V : VV} {R : RR} {v : Int}  (hB : Bd V) (hF : FinR R) (hv : -4 ≤ v ∧ v ≤ 40) : Runs G M_X1_countUnfilled 1 162 162 [vr 52, vi v] V R (PQ [] [(52, 9, 13)] V R (fun o X => o = none ∧ X = unV V v)) := by
  refine Runs.of pn_X1 (Nat.le_of_ble_eq_true rfl) rfl ?_
  show TT G M_X1_countUnfilled (rmd 1 162 162) 162 (Zm G 162 162 (PQ [] [(52, 9, 13)] V R (fun o X => o = none ∧ X = unV V v))) 162 0 [(0, vr 52), (1, vi v)] [] V R
  have fV : chg [] [(52, 9, 13)] V V := chg_r
  refine T_il d_X1_countUnfilled_0 rfl ?_
  refine T_k d_X1_countUnfilled_1 ?_
  refine T_ine d_X1_countUnfilled_3 ⟨by omega, by omega⟩ ⟨by omega, by omega⟩ (fun h3 => ?_) (fun h3 => ?_)
  · skip
    refine T_il d_X1_countUnfilled_19 rfl ?_
    refine T_k d_X1_countUnfilled_20 ?_
    refine T_ine d_X1_countUnfilled_22 ⟨by omega, by omega⟩ ⟨by omega, by omega⟩ (fun h22 => ?_) (fun h22 => ?_)
    · skip
      refine T_al d_X1_countUnfilled_38 rfl ?_
      refine T_dup d_X1_countUnfilled_39 rfl ?_
      refine F_gin d_X1_countUnfilled_40 rfl ?_
      refine T_k d_X1_countUnfilled_43 ?_
      refine T_iadd d_X1_countUnfilled_44 ?_
      refine F_pin d_X1_countUnfilled_45 rfl hB rfl (fun V_1 eV_1 hBV_1 => ?_)
      have fV_1 := chg_u eV_1 rfl fV
      -- leaf 3t.22t@48
      refine T_vret d_X1_countUnfilled_48 rfl ?_
      exact ⟨rfl, hBV_1, fV_1, rfl, by unfold unV; rw [if_neg h3, if_neg h22]; exact eV_1⟩
    · skip
      refine T_al d_X1_countUnfilled_25 rfl ?_
      refine T_dup d_X1_countUnfilled_26 rfl ?_
      refine F_gin d_X1_countUnfilled_27 rfl ?_
      refine T_k d_X1_countUnfilled_30 ?_
      refine T_iadd d_X1_countUnfilled_31 ?_
      refine F_pin d_X1_countUnfilled_32 rfl hB rfl (fun V_2 eV_2 hBV_2 => ?_)
      have fV_2 := chg_u eV_2 rfl fV
      refine T_go d_X1_countUnfilled_35 ?_
      -- leaf 3t.22f@48
      refine T_vret d_X1_countUnfilled_48 rfl ?_
      exact ⟨rfl, hBV_2, fV_2, rfl, by unfold unV; rw [if_neg h3, if_pos h22]; exact eV_2⟩
  · skip
    refine T_al d_X1_countUnfilled_6 rfl ?_
    refine T_dup d_X1_countUnfilled_7 rfl ?_
    refine F_gin d_X1_countUnfilled_8 rfl ?_
    refine T_k d_X1_countUnfilled_11 ?_
    refine T_iadd d_X1_countUnfilled_12 ?_
    refine F_pin d_X1_countUnfilled_13 rfl hB rfl (fun V_3 eV_3 hBV_3 => ?_)
    have fV_3 := chg_u eV_3 rfl fV
    refine T_go d_X1_countUnfilled_16 ?_
    -- leaf 3f@48
    refine T_vret d_X1_countUnfilled_48 rfl ?_
    exact ⟨rfl, hBV_3, fV_3, rfl, by unfold unV; rw [if_pos h3]; exact eV_3⟩
set_option maxHeartbeats 1000000 in
set_option maxRecDepth 100000 in
theorem R_X1_fill {G : GG} {V : VV} {R : RR} {v : Int} {S : Sp} {K : Kd} {ka : Nat} {s : Nat} {u : HS} (hB : Bd V) (hF : FinR R) (hka : R 52 3 = some ka) (hla : lay ka = (1, 20)) (hba : arB ka = some (-1, 500)) (h19 : 19 ≤ ka ∧ ka ≤ 23) (kCV : kC K ka V) (ko : kO K) (mCV : mapC S V) (so : sO S) (hs : s < S.m) (hv : -4 ≤ v ∧ v < S.m) (hu : hsC S u V) : Runs G M_X1_fill 2 162 162 [vr 52, vi (s:Int), vi v] V R (PQ [] [(52, 9, 13)] V R (fun o X => o = some (vi (bi (decide (flP S K u s v)))) ∧ (flP S K u s v → hsC S (u.1 + 1, u.2.1, u.2.2.1, u.2.2.2.1, u.2.2.2.2 ||| 2 ^ s) X))) := by
  refine Runs.of pn_X1 (Nat.le_of_ble_eq_true rfl) rfl ?_
  show TT G M_X1_fill (rmd 2 162 162) 162 (Zm G 162 162 (PQ [] [(52, 9, 13)] V R (fun o X => o = some (vi (bi (decide (flP S K u s v)))) ∧ (flP S K u s v → hsC S (u.1 + 1, u.2.1, u.2.2.1, u.2.2.2.1, u.2.2.2.2 ||| 2 ^ s) X)))) 162 0 [(0, vr 52), (1, vi (s:Int)), (2, vi v)] [] V R
  have fV : chg [] [(52, 9, 13)] V V := chg_r
  have hm4 := so.1
  have w1 := mCV.1.2 s hs
  have wo := (so.2 s hs).2.2.2.1
  have wf := (so.2 s hs).2.2.1
  obtain ⟨c, ec, hmr⟩ := hu.2.2.2.2
  have wh : V 45 s = S.h s := w1.1
  have ea := and_s (s := (S.h s).toNat) hmr.1 (by omega)
  have er := and_r (s := (S.h s).toNat) hmr.1 (by omega)
  rw [show (((S.h s).toNat : Nat) : Int) = S.h s by omega] at ea er
  rw [mR_b so hmr hs] at ea
  have ko1 := ko
  obtain ⟨_, _, _, _, _, _, k6, _⟩ := ko1
  refine T_jk d_X1_fill_0 ?_
  refine T_al d_X1_fill_1 rfl ?_
  refine F_gr (b := 44) d_X1_fill_2 rfl hF rfl ?_
  refine F_gr (b := 45) d_X1_fill_5 rfl hF rfl ?_
  refine T_il d_X1_fill_8 rfl ?_
  refine F_ia d_X1_fill_9 rfl hB rfl ⟨by omega, by omega⟩ (fun b_1 => ?_)
  try simp only [Int.toNat_natCast, wh]
  try simp only [Int.toNat_natCast, wh] at b_1
  refine T_lshl d_X1_fill_10 ?_
  refine F_lsg d_X1_fill_11 (f := fun y_2 => [(0, vr 52), (1, vi (s:Int)), (2, vi v), (3, vj y_2)]) (fun _ => rfl) (fun y_2 ey_2 => ?_)
  refine T_al d_X1_fill_12 rfl ?_
  refine F_gjn d_X1_fill_13 rfl ?_
  refine T_ll d_X1_fill_16 rfl ?_
  refine T_land d_X1_fill_17 ?_
  rw [ec, ey_2]
  refine T_jk d_X1_fill_18 ?_
  refine T_leq d_X1_fill_19 d_X1_fill_20 ⟨by omega, by omega⟩ ⟨by omega, by omega⟩ (fun hq19 => ?_) (fun hq19 => ?_)
  · skip
    refine T_al d_X1_fill_25 rfl ?_
    refine T_dup d_X1_fill_26 rfl ?_
    refine F_gjn d_X1_fill_27 rfl ?_
    refine T_ll d_X1_fill_30 rfl ?_
    refine T_lor d_X1_fill_31 ?_
    refine F_pjn d_X1_fill_32 rfl hB rfl (fun V_3 eV_3 hBV_3 => ?_)
    have fV_3 := chg_u eV_3 rfl fV
    have kCV_3 := kC_c kCV h19 fV_3 rfl
    refine T_al d_X1_fill_35 rfl ?_
    refine T_dup d_X1_fill_36 rfl ?_
    refine F_gin d_X1_fill_37 rfl ?_
    have fV_3_52_9 : V_3 52 9 = V 52 9 := by rw [eV_3]; rfl
    rw [fV_3_52_9]
    refine T_k d_X1_fill_40 ?_
    refine T_iadd d_X1_fill_41 ?_
    refine F_pin d_X1_fill_42 rfl hBV_3 rfl (fun V_4 eV_4 hBV_4 => ?_)
    have fV_4 := chg_u eV_4 rfl fV_3
    have kCV_4 := kC_c kCV h19 fV_4 rfl
    refine T_il d_X1_fill_45 rfl ?_
    refine T_zlt d_X1_fill_46 ⟨by omega, by omega⟩ (fun h46 => ?_) (fun h46 => ?_)
    · skip
      refine T_k d_X1_fill_81 ?_
      refine T_go d_X1_fill_82 ?_
      -- leaf 19t.46t@86
      refine T_zret1 d_X1_fill_86 rfl ?_
      exact ⟨rfl, hBV_4, fV_4, by rw [decide_eq_true ⟨fun y => (ea.mp hq19) y, fun y => by omega⟩], fun _ => ⟨by rw [eV_4]; show V 52 9 + 1 = _; rw [hu.1], by rw [eV_4, eV_3]; exact hu.2.1, by rw [eV_4, eV_3]; exact hu.2.2.1, by rw [eV_4, eV_3]; exact hu.2.2.2.1, c ||| 2 ^ (S.h s).toNat, by rw [eV_4, eV_3]; show lorZ (V 52 13) (lshlZ 1 (S.h s)) = _; rw [ec, show S.h s = (((S.h s).toNat : Nat) : Int) by omega, Int.toNat_natCast]; exact (or_s hmr.1 (by omega)).1, mR_o so hmr hs⟩⟩
    · skip
      have w2 := mCV.1.2 v.toNat (by omega)
      have wf2 := (so.2 v.toNat (by omega)).2.2.1
      have kl6 : V_4 ka (6 : Int).toNat = K.l 6 := (kCV_4 6 (by omega)).1
      refine T_al d_X1_fill_49 rfl ?_
      refine F_gr (b := 44) d_X1_fill_50 rfl hF rfl ?_
      refine F_gr (b := 48) d_X1_fill_53 rfl hF rfl ?_
      refine T_il d_X1_fill_56 rfl ?_
      refine F_ia d_X1_fill_57 rfl hBV_4 rfl ⟨by omega, by omega⟩ (fun b_5 => ?_)
      have faV_4_48 : V_4 48 = V 48 := by rw [eV_4, eV_3]; rfl
      rw [faV_4_48]
      rw [faV_4_48] at b_5
      try simp only [Int.toNat_natCast, w1.2.2.2]
      try simp only [Int.toNat_natCast, w1.2.2.2] at b_5
      refine T_al d_X1_fill_58 rfl ?_
      refine F_gr (b := 44) d_X1_fill_59 rfl hF rfl ?_
      refine F_gr (b := 48) d_X1_fill_62 rfl hF rfl ?_
      refine T_il d_X1_fill_65 rfl ?_
      refine F_ia d_X1_fill_66 rfl hBV_4 rfl ⟨by omega, by omega⟩ (fun b_6 => ?_)
      have faV_4_48 : V_4 48 = V 48 := by rw [eV_4, eV_3]; rfl
      rw [faV_4_48]
      rw [faV_4_48] at b_6
      try simp only [Int.toNat_natCast, w2.2.2.2]
      try simp only [Int.toNat_natCast, w2.2.2.2] at b_6
      refine T_isub d_X1_fill_67 ?_
      refine T_mabs d_X1_fill_68 ⟨by omega, by omega⟩ (Nat.le_of_ble_eq_true rfl) (hmF _) ?_
      refine T_al d_X1_fill_71 rfl ?_
      refine T_gr uws_ok d_X1_fill_72 rfl (lay_lc rfl (by decide)) hka ?_
      refine T_k d_X1_fill_75 ?_
      refine F_ia d_X1_fill_77 hla hBV_4 hba ⟨by omega, by omega⟩ (fun b_7 => ?_)
      try simp only [Int.toNat_natCast, kl6]
      try simp only [Int.toNat_natCast, kl6] at b_7
      refine T_igt d_X1_fill_78 ⟨by omega, by omega⟩ ⟨by omega, by omega⟩ (fun h78 => ?_) (fun h78 => ?_)
      · skip
        refine T_k d_X1_fill_85 ?_
        -- leaf 19t.46f.78t@86
        refine T_zret0 d_X1_fill_86 rfl ?_
        exact ⟨rfl, hBV_4, fV_4, by rw [decide_eq_false (fun z => z.2 ⟨by omega, by simp only [abI]; omega⟩)], fun z => absurd z (fun z => z.2 ⟨by omega, by simp only [abI]; omega⟩)⟩
      · skip
        refine T_k d_X1_fill_81 ?_
        refine T_go d_X1_fill_82 ?_
        -- leaf 19t.46f.78f@86
        refine T_zret1 d_X1_fill_86 rfl ?_
        exact ⟨rfl, hBV_4, fV_4, by rw [decide_eq_true ⟨fun y => (ea.mp hq19) y, fun y => by have y2 := y.2; simp only [abI] at y2; omega⟩], fun _ => ⟨by rw [eV_4]; show V 52 9 + 1 = _; rw [hu.1], by rw [eV_4, eV_3]; exact hu.2.1, by rw [eV_4, eV_3]; exact hu.2.2.1, by rw [eV_4, eV_3]; exact hu.2.2.2.1, c ||| 2 ^ (S.h s).toNat, by rw [eV_4, eV_3]; show lorZ (V 52 13) (lshlZ 1 (S.h s)) = _; rw [ec, show S.h s = (((S.h s).toNat : Nat) : Int) by omega, Int.toNat_natCast]; exact (or_s hmr.1 (by omega)).1, mR_o so hmr hs⟩⟩
  · skip
    refine T_k d_X1_fill_23 ?_
    -- leaf 19f@24
    refine T_zret0 d_X1_fill_24 rfl ?_
    exact ⟨rfl, hB, fV, by rw [decide_eq_false (fun z => z.1 (Classical.byContradiction fun y => hq19 (ea.mpr y)))], fun z => absurd z (fun z => z.1 (Classical.byContradiction fun y => hq19 (ea.mpr y)))⟩
set_option maxHeartbeats 1000000 in
set_option maxRecDepth 100000 in
theorem R_X1_fillAcross {G : GG} {V : VV} {R : RR}  {b : Bk} {k : Int} {S : Sp} {K : Kd} {ka : Nat} {p q r i ro : Nat} {s : HS} (hB : Bd V) (hF : FinR R) (bCV : bC b V) (ho : bO b) (hka : R 52 3 = some ka) (hla : lay ka = (1, 20)) (hba : arB ka = some (-1, 500)) (h19 : 19 ≤ ka ∧ ka ≤ 23) (kCV : kC K ka V) (ko : kO K) (mCV : mapC S V) (so : sO S) (hwk : V 52 2 = k) (hk : 0 ≤ k ∧ k ≤ 400) (hp : p < S.m) (hq : q < S.m) (hr : r < S.m) (hro : K.l 0 = (ro : Int)) (ht : trP S K p q r V) (hi : i ≤ 7) (hs : hsO b k S K p q r i = some s) (hsv : hsC S s V) : Runs G M_X1_fillAcross 5 162 162 [vr 52, vi (i:Int)] V R (PQ [] [(52, 9, 13)] V R (fun o X => o = some (vi (bi (decide (faB b k S K p q r i = true)))) ∧ (faB b k S K p q r i = true → ∃ u, hsO b k S K p q r (i + 1) = some u ∧ hsC S u X))) := by
  refine Runs.of pn_X1 (Nat.le_of_ble_eq_true rfl) rfl ?_
  show TT G M_X1_fillAcross (rmd 5 162 162) 162 (Zm G 162 162 (PQ [] [(52, 9, 13)] V R (fun o X => o = some (vi (bi (decide (faB b k S K p q r i = true)))) ∧ (faB b k S K p q r i = true → ∃ u, hsO b k S K p q r (i + 1) = some u ∧ hsC S u X)))) 162 0 [(0, vr 52), (1, vi (i:Int))] [] V R
  have fV : chg [] [(52, 9, 13)] V V := chg_r
  have hM4 := so.1
  have ko1 := ko
  obtain ⟨k0, _, _, _, _, _, _, k7, _⟩ := ko1
  refine T_k d_X1_fillAcross_0 ?_
  refine T_is d_X1_fillAcross_1 (ls' := [(0, vr 52), (1, vi (i:Int)), (2, vi (-1))]) rfl ?_
  refine T_k d_X1_fillAcross_2 ?_
  refine T_is d_X1_fillAcross_3 (ls' := [(0, vr 52), (1, vi (i:Int)), (2, vi (-1)), (3, vi 0)]) rfl ?_
  -- to 4 @4
  have L4 : ∀ (fu : Nat) (X : VV) (v : Int) (j : Nat) (u : HS), ro - j < fu → (Bd X) → (chg [] [(52, 9, 13)] V X) → (j ≤ ro) → (hrow (plO b k S K p q r) S.f (K.l 6) (some s) i j = some u) → (hsC S u X) → ((j = 0 ∧ v = -1) ∨ (0 < j ∧ v = plO b k S K p q r i (j - 1))) → TT G M_X1_fillAcross (rmd 5 162 162) 162 (Zm G 162 162 (PQ [] [(52, 9, 13)] V R (fun o X => o = some (vi (bi (decide (faB b k S K p q r i = true)))) ∧ (faB b k S K p q r i = true → ∃ u, hsO b k S K p q r (i + 1) = some u ∧ hsC S u X)))) 162 4 [(0, vr 52), (1, vi (i:Int)), (2, vi v), (3, vi (j : Int))] [] X R := by
    intro fu
    induction fu with
    | zero => intro X v j u hm; exact absurd hm (Nat.not_lt_zero _)
    | succ fu ih4 =>
      intro X v j u hm4 hBX fX hj hu hsX hv
      have bCX := bC_c bCV fX rfl
      have kCX := kC_c kCV h19 fX rfl
      have mCX := mapC_c mCV fX rfl
      have x55 : X 55 = V 55 := chg_k fX rfl
      have tX : trP S K p q r X := by unfold trP; rw [x55]; exact ht
      have x2 : X 52 2 = k := (chg_j fX rfl).trans hwk
      have hvb : -4 ≤ v ∧ v < S.m := by have w := plO_r (b := b) (k := k) (S := S) (K := K) (p := p) (q := q) (r := r) (i := i) (j := j - 1) hM4; omega
      have hIu := hs_I hro hM4 hs hu
      have hmr := mulb (i := (i : Int)) (v := (ro : Int)) (M := 4) (N := 8) (by omega) (by omega) (by omega) (by omega)
      refine T_il d_X1_fillAcross_4 rfl ?_
      refine T_al d_X1_fillAcross_5 rfl ?_
      refine F_gr (b := 55) d_X1_fillAcross_6 rfl hF rfl ?_
      refine F_gi d_X1_fillAcross_9 rfl hBX rfl (fun b_1 => ?_)
      rw [tX.2.2.2.2.2.2, hro]
      refine T_ige d_X1_fillAcross_12 ⟨by omega, by omega⟩ ⟨by omega, by omega⟩ (fun h12 => ?_) (fun h12 => ?_)
      · skip
        have hjr : j = ro := by omega
        have hsu := hs_s hro hs hu hjr
        have kl7 : X ka (7 : Int).toNat = K.l 7 := (kCX 7 (by omega)).1
        have hx10 := hsX.2.1
        have hI1 := hIu.1
        refine T_al d_X1_fillAcross_110 rfl ?_
        refine F_gin d_X1_fillAcross_111 rfl ?_
        refine T_al d_X1_fillAcross_114 rfl ?_
        refine T_gr uws_ok d_X1_fillAcross_115 rfl (lay_lc rfl (by decide)) hka ?_
        refine T_k d_X1_fillAcross_118 ?_
        refine F_ia d_X1_fillAcross_120 hla hBX hba ⟨by omega, by omega⟩ (fun b_2 => ?_)
        try simp only [Int.toNat_natCast, kl7]
        try simp only [Int.toNat_natCast, kl7] at b_2
        refine T_igt d_X1_fillAcross_121 ⟨by omega, by omega⟩ ⟨by omega, by omega⟩ (fun h121 => ?_) (fun h121 => ?_)
        · skip
          refine T_k d_X1_fillAcross_128 ?_
          -- leaf 12t.121t@129
          refine T_zret0 d_X1_fillAcross_129 rfl ?_
          have nf : ¬ faB b k S K p q r i = true := by rw [fa_s hsu]; intro z; have := of_decide_eq_true z; omega
          exact ⟨rfl, hBX, fX, by rw [decide_eq_false nf], fun z => absurd z nf⟩
        · skip
          refine T_k d_X1_fillAcross_124 ?_
          refine T_go d_X1_fillAcross_125 ?_
          -- leaf 12t.121f@129
          refine T_zret1 d_X1_fillAcross_129 rfl ?_
          have tf : faB b k S K p q r i = true := by rw [fa_s hsu]; exact decide_eq_true (by omega)
          exact ⟨rfl, hBX, fX, by rw [decide_eq_true tf], fun _ => ⟨u, hsu, hsX⟩⟩
      · skip
        have hpb := plO_b so hp hq hr (i := (i : Int)) (j := (j : Int)) ⟨by omega, by omega⟩ ⟨by omega, by omega⟩
        refine T_al d_X1_fillAcross_15 rfl ?_
        refine T_al d_X1_fillAcross_16 rfl ?_
        refine F_gr (b := 55) d_X1_fillAcross_17 rfl hF rfl ?_
        refine F_gi d_X1_fillAcross_20 rfl hBX rfl (fun b_3 => ?_)
        refine T_il d_X1_fillAcross_23 rfl ?_
        refine T_al d_X1_fillAcross_24 rfl ?_
        refine F_gr (b := 55) d_X1_fillAcross_25 rfl hF rfl ?_
        refine F_gi d_X1_fillAcross_28 rfl hBX rfl (fun b_4 => ?_)
        refine T_imul d_X1_fillAcross_31 ?_
        refine T_iadd d_X1_fillAcross_32 ?_
        refine T_il d_X1_fillAcross_33 rfl ?_
        refine T_al d_X1_fillAcross_34 rfl ?_
        refine F_gr (b := 55) d_X1_fillAcross_35 rfl hF rfl ?_
        refine F_gi d_X1_fillAcross_38 rfl hBX rfl (fun b_5 => ?_)
        refine T_imul d_X1_fillAcross_41 ?_
        refine T_iadd d_X1_fillAcross_42 ?_
        refine T_al d_X1_fillAcross_43 rfl ?_
        refine F_gr (b := 55) d_X1_fillAcross_44 rfl hF rfl ?_
        refine F_gi d_X1_fillAcross_47 rfl hBX rfl (fun b_6 => ?_)
        refine T_il d_X1_fillAcross_50 rfl ?_
        refine T_al d_X1_fillAcross_51 rfl ?_
        refine F_gr (b := 55) d_X1_fillAcross_52 rfl hF rfl ?_
        refine F_gi d_X1_fillAcross_55 rfl hBX rfl (fun b_7 => ?_)
        refine T_imul d_X1_fillAcross_58 ?_
        refine T_iadd d_X1_fillAcross_59 ?_
        refine T_il d_X1_fillAcross_60 rfl ?_
        refine T_al d_X1_fillAcross_61 rfl ?_
        refine F_gr (b := 55) d_X1_fillAcross_62 rfl hF rfl ?_
        refine F_gi d_X1_fillAcross_65 rfl hBX rfl (fun b_8 => ?_)
        refine T_imul d_X1_fillAcross_68 ?_
        refine T_iadd d_X1_fillAcross_69 ?_
        rw [tX.1, tX.2.1, tX.2.2.1, tX.2.2.2.1, tX.2.2.2.2.1, tX.2.2.2.2.2.1]
        refine C_pv2 d_X1_fillAcross_70 rfl (hdF (by decide)) (hcF _) (R_X1_stateAt (b := b) (k := k) hBX hF bCX ho hka hla hba h19 kCX ko mCX so hpb.1 hpb.2 x2 hk) ?_
        refine F_isg d_X1_fillAcross_73 (f := fun x_9 => [(0, vr 52), (1, vi (i:Int)), (2, vi v), (3, vi (j : Int)), (4, vi x_9)]) (fun _ => rfl) (fun x_9 ex_9 => ?_)
        have ef : x_9 = (plO b k S K p q r i j) := ex_9
        have fr := plO_r (b := b) (k := k) (S := S) (K := K) (p := p) (q := q) (r := r) (i := i) (j := j) hM4
        refine T_il d_X1_fillAcross_75 rfl ?_
        refine T_zge d_X1_fillAcross_77 ⟨by omega, by omega⟩ (fun h77 => ?_) (fun h77 => ?_)
        · skip
          obtain ⟨w, ew⟩ : ∃ w : Nat, x_9 = (w : Int) := ⟨(x_9).toNat, by omega⟩
          have ew2 : (plO b k S K p q r i j).toNat = w := by omega
          refine T_al d_X1_fillAcross_89 rfl ?_
          refine T_il d_X1_fillAcross_90 rfl ?_
          refine T_il d_X1_fillAcross_92 rfl ?_
          rw [ew]
          refine C_v2 d_X1_fillAcross_93 rfl (hdF (by decide)) (hcF _) (R_X1_fill (s := w) (u := u) (v := v) hBX hF hka hla hba h19 kCX ko mCX so (by omega) hvb hsX) (fun r_10 V_11 R_12 qV_11 => ?_)
          obtain ⟨rfl, hBV_11, cV_11, rfl, pV_11⟩ := qV_11
          have fV_11 := chg_t (A := []) (F := [(52, 9, 13)]) fX cV_11 rfl
          have bCV_11 := bC_c bCV fV_11 rfl
          have kCV_11 := kC_c kCV h19 fV_11 rfl
          have mCV_11 := mapC_c mCV fV_11 rfl
          refine T_pz1 d_X1_fillAcross_96 (fun h96 => ?_) (fun h96 => ?_)
          · skip
            refine T_il d_X1_fillAcross_101 rfl ?_
            refine F_isg d_X1_fillAcross_103 (f := fun x_13 => [(0, vr 52), (1, vi (i:Int)), (2, vi x_13), (3, vi (j : Int)), (4, vi (w : Int))]) (fun _ => rfl) (fun x_13 ex_13 => ?_)
            refine F_incg d_X1_fillAcross_104 rfl (f := fun x_14 => [(0, vr 52), (1, vi (i:Int)), (2, vi x_13), (3, vi x_14), (4, vi (w : Int))]) (fun _ => rfl) (fun x_14 ex_14 => ?_)
            refine T_go d_X1_fillAcross_107 ?_
            -- to 4 12f.77t.96t@4
            refine T_subp (ks := [0, 1, 2, 3]) (ls' := [(0, vr 52), (1, vi (i:Int)), (2, vi x_13), (3, vi x_14)]) rfl ?_
            obtain rfl : x_14 = ((j + 1) : Int) := by omega
            exact ih4 V_11 x_13 (j + 1) (_) (by omega) hBV_11 fV_11 (by first | assumption | omega) ((hrow_n hu).trans (fl_some hv (by omega) ew2 h96)) (pV_11 h96) (Or.inr ⟨by omega, ex_13.trans (ew.symm.trans ef)⟩)
          · skip
            refine T_k d_X1_fillAcross_99 ?_
            -- leaf 12f.77t.96f@100
            refine T_zret0 d_X1_fillAcross_100 rfl ?_
            have nf : ¬ faB b k S K p q r i = true := by rw [fa_n (hs_f hro (by omega) (by omega) hs hu (fl_none hv (by omega) ew2 h96))]; decide
            exact ⟨rfl, hBV_11, fV_11, by rw [decide_eq_false nf], fun z => absurd z nf⟩
        · skip
          refine T_al d_X1_fillAcross_80 rfl ?_
          refine T_il d_X1_fillAcross_81 rfl ?_
          refine C_v1 d_X1_fillAcross_83 rfl (hdF (by decide)) (hcF _) (R_X1_countUnfilled hBX hF (by omega)) (fun r_15 V_16 R_17 qV_16 => ?_)
          obtain ⟨rfl, hBV_16, cV_16, rfl, pV_16⟩ := qV_16
          have fV_16 := chg_t (A := []) (F := [(52, 9, 13)]) fX cV_16 rfl
          have bCV_16 := bC_c bCV fV_16 rfl
          have kCV_16 := kC_c kCV h19 fV_16 rfl
          have mCV_16 := mapC_c mCV fV_16 rfl
          refine T_go d_X1_fillAcross_86 ?_
          refine T_il d_X1_fillAcross_101 rfl ?_
          refine T_is d_X1_fillAcross_103 (ls' := [(0, vr 52), (1, vi (i:Int)), (2, vi x_9), (3, vi (j : Int)), (4, vi x_9)]) rfl ?_
          refine F_incg d_X1_fillAcross_104 rfl (f := fun x_18 => [(0, vr 52), (1, vi (i:Int)), (2, vi x_9), (3, vi x_18), (4, vi x_9)]) (fun _ => rfl) (fun x_18 ex_18 => ?_)
          refine T_go d_X1_fillAcross_107 ?_
          -- to 4 12f.77f@4
          refine T_subp (ks := [0, 1, 2, 3]) (ls' := [(0, vr 52), (1, vi (i:Int)), (2, vi x_9), (3, vi x_18)]) rfl ?_
          obtain rfl : x_18 = ((j + 1) : Int) := by omega
          exact ih4 V_16 x_9 (j + 1) (_) (by omega) hBV_16 fV_16 (by first | assumption | omega) ((hrow_n hu).trans (st_n (by omega))) (by rw [← ef]; exact un_C hsX pV_16) (Or.inr ⟨by omega, ef⟩)
  exact L4 _ V (-1) (0) (s) (Nat.lt_succ_self _) hB fV (by first | assumption | omega) rfl hsv (Or.inl ⟨rfl, rfl⟩)
