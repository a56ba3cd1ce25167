set_option maxHeartbeats 1000000 in
set_option maxRecDepth 100000 in
theorem R_X6_memberWith {G : GG} {V : VV} {R : RR}  {b : Bk} {k : Int} {c : Nat} {l : Nat → Nat → Int} {N ch : Nat} {g : Nat} (hB : Bd V) (hF : FinR R) (ho : bO b) (hg : g < b.n) (h39 : ∀ h, h < b.n → V 39 h = owO b k c h) (h58 : ho58 b k c l ch N V) (h87 : ∀ i, i < 24 → V 87 i = mbI ch N i) (hN : N ≤ 24) : RunsP G M_X6_memberWith 3 [vr 85, vr 34, vr 56, vi (g:Int)] V R (vi (memI b k c l ch N g)) := by
  unfold RunsP
  refine Runs.of pn_X6 (Nat.le_of_ble_eq_true rfl) rfl ?_
  show TT G M_X6_memberWith (rmd 3 162 162) 162 (Zm G 162 162 (QP V R (vi (memI b k c l ch N g)))) 162 0 [(0, vr 85), (1, vr 34), (2, vr 56), (3, vi (g:Int))] [] V R
  have hn4 := ho.n
  have e39 := h39 g hg
  have b39 := hB.1 39 (-1) 39 rfl g
  have e58 := fun z => mem_58 h58 hg hn4 z
  refine T_il d_X6_memberWith_0 rfl ?_
  refine T_k d_X6_memberWith_1 ?_
  refine T_k d_X6_memberWith_2 ?_
  refine C_ps3 d_X6_memberWith_4 (hdF (by decide)) (hcF _) (R_X10_isIn ⟨by omega, by omega⟩ ⟨by omega, by omega⟩ ⟨by omega, by omega⟩) ?_
  refine T_pz0 d_X6_memberWith_7 (fun h7 => ?_) (fun h7 => ?_)
  · exact absurd (show (0 : Int) ≤ (g : Int) ∧ (g : Int) ≤ 39 from ⟨by omega, by omega⟩) h7
  · skip
    refine T_al d_X6_memberWith_10 rfl ?_
    refine F_gr (b := 39) d_X6_memberWith_11 rfl hF rfl ?_
    refine T_il d_X6_memberWith_14 rfl ?_
    refine F_ia d_X6_memberWith_15 rfl hB rfl ⟨by omega, by omega⟩ (fun b_1 => ?_)
    try simp only [Int.toNat_natCast]
    try simp only [Int.toNat_natCast] at b_1
    rw [e39]
    refine T_go d_X6_memberWith_16 ?_
    refine F_isg d_X6_memberWith_20 (f := fun x_2 => [(0, vr 85), (1, vr 34), (2, vr 56), (3, vi (g:Int)), (4, vi x_2)]) (fun _ => rfl) (fun x_2 ex_2 => ?_)
    have e4 := ex_2
    refine T_il d_X6_memberWith_22 rfl ?_
    refine T_k d_X6_memberWith_24 ?_
    refine T_k d_X6_memberWith_25 ?_
    refine C_ps3 d_X6_memberWith_27 (hdF (by decide)) (hcF _) (R_X10_isIn ⟨by omega, by omega⟩ ⟨by omega, by omega⟩ ⟨by omega, by omega⟩) ?_
    refine T_pz0 d_X6_memberWith_30 (fun h30 => ?_) (fun h30 => ?_)
    · skip
      refine T_k d_X6_memberWith_43 ?_
      refine T_is d_X6_memberWith_44 (ls' := [(0, vr 85), (1, vr 34), (2, vr 56), (3, vi (g:Int)), (4, vi x_2), (5, vi (-1))]) rfl ?_
      refine T_al d_X6_memberWith_46 rfl ?_
      refine T_il d_X6_memberWith_47 rfl ?_
      refine C_pv1 d_X6_memberWith_49 rfl (hdF (by decide)) (hcF _) (R_X6_memberFor (ch := ch) (N := N) hB hF ⟨by omega, by omega⟩ h87 hN) ?_
      -- leaf 7f.30t@52
      exact P_I d_X6_memberWith_52 (by rw [if_pos rfl]; unfold memI; rw [mem_no (by omega), if_pos rfl])
    · skip
      refine T_al d_X6_memberWith_33 rfl ?_
      refine F_gr (b := 58) d_X6_memberWith_34 rfl hF rfl ?_
      refine T_il d_X6_memberWith_37 rfl ?_
      refine F_ia d_X6_memberWith_39 rfl hB rfl ⟨by omega, by omega⟩ (fun b_3 => ?_)
      try simp only [Int.toNat_natCast]
      try simp only [Int.toNat_natCast] at b_3
      refine T_go d_X6_memberWith_40 ?_
      refine F_isg d_X6_memberWith_44 (f := fun x_4 => [(0, vr 85), (1, vr 34), (2, vr 56), (3, vi (g:Int)), (4, vi x_2), (5, vi x_4)]) (fun _ => rfl) (fun x_4 ex_4 => ?_)
      refine T_al d_X6_memberWith_46 rfl ?_
      refine T_il d_X6_memberWith_47 rfl ?_
      refine C_pv1 d_X6_memberWith_49 rfl (hdF (by decide)) (hcF _) (R_X6_memberFor (ch := ch) (N := N) hB hF ⟨by omega, by omega⟩ h87 hN) ?_
      -- leaf 7f.30f@52
      exact P_I d_X6_memberWith_52 (by have e5 := e58 (by omega); rw [ex_4, e4, e5]; rfl)
set_option maxHeartbeats 1000000 in
set_option maxRecDepth 100000 in
theorem R_X6_cutMembers {G : GG} {V : VV} {R : RR} {k : Int} {b : Bk} {k : Int} {c : Nat} {l : Nat → Nat → Int} {N ch : Nat} {v : Nat → Int} (hB : Bd V) (hF : FinR R) (bCV : bC b V) (ho : bO b) (hw : bW b) (hk : 0 ≤ k ∧ k ≤ 400) (h39 : ∀ h, h < b.n → V 39 h = owO b k c h) (h58 : ho58 b k c l ch N V) (h87 : ∀ i, i < 24 → V 87 i = mbI ch N i) (hN : N ≤ 24) (hO : cOk v (bL l) N ch) (h13 : chN ch N ≤ 13) : Runs G M_X6_cutMembers 4 162 162 [vr 85, vr 1, vr 34, vr 56, vi k] V R (PQ [(89, 89)] [] V R (fun o X => o = none ∧ rowC 89 (ltM b k c l ch N) (chN ch N) X)) := by
  refine Runs.of pn_X6 (Nat.le_of_ble_eq_true rfl) rfl ?_
  show TT G M_X6_cutMembers (rmd 4 162 162) 162 (Zm G 162 162 (PQ [(89, 89)] [] V R (fun o X => o = none ∧ rowC 89 (ltM b k c l ch N) (chN ch N) X))) 162 0 [(0, vr 85), (1, vr 1), (2, vr 34), (3, vr 56), (4, vi k)] [] V R
  have fV : chg [(89, 89)] [] V V := chg_r
  have hn4 := ho.n
  have hcn := ho.cn
  have hcN : cntB (fun x => ch.testBit x) N = chN ch N := rfl
  refine T_al d_X6_cutMembers_0 rfl ?_
  refine F_gr (b := 89) d_X6_cutMembers_1 rfl hF rfl ?_
  refine T_k d_X6_cutMembers_4 ?_
  refine C_s2 d_X6_cutMembers_5 (hdF (by decide)) (hcF _) (R_fill_89 (v := 0) hB hF ⟨by omega, by omega⟩) (fun r_1 V_2 R_3 qV_2 => ?_)
  obtain ⟨rfl, hBV_2, cV_2, rfl, pV_2⟩ := qV_2
  have fV_2 := chg_t (A := [(89, 89)]) (F := []) fV cV_2 rfl
  have bCV_2 := bC_c bCV fV_2 rfl
  refine T_k d_X6_cutMembers_8 ?_
  refine T_is d_X6_cutMembers_9 (ls' := [(0, vr 85), (1, vr 1), (2, vr 34), (3, vr 56), (4, vi k), (5, vi 0)]) rfl ?_
  -- to 11 @11
  have L11 : ∀ (fu : Nat) (X : VV) (t : Nat), b.cn - t < fu → (Bd X) → (chg [(89, 89)] [] V X) → (t ≤ b.cn) → (rowC 89 (ltT b k c l ch N t) (chN ch N) X) → TT G M_X6_cutMembers (rmd 4 162 162) 162 (Zm G 162 162 (PQ [(89, 89)] [] V R (fun o X => o = none ∧ rowC 89 (ltM b k c l ch N) (chN ch N) X))) 162 11 [(0, vr 85), (1, vr 1), (2, vr 34), (3, vr 56), (4, vi k), (5, vi (t : Int))] [] X R := by
    intro fu
    induction fu with
    | zero => intro X t hm; exact absurd hm (Nat.not_lt_zero _)
    | succ fu ih11 =>
      intro X t hm11 hBX fX ht xr
      have bCX := bC_c bCV fX rfl
      have x39 := chg_k (c := 39) fX rfl
      have x58 := chg_k (c := 58) fX rfl
      have x87 := chg_k (c := 87) fX rfl
      refine T_il d_X6_cutMembers_11 rfl ?_
      refine T_al d_X6_cutMembers_13 rfl ?_
      refine F_gr (b := 10) d_X6_cutMembers_14 rfl hF rfl ?_
      refine F_gi d_X6_cutMembers_17 rfl hBX rfl (fun b_4 => ?_)
      rw [bCX.cn]
      rw [bCX.cn] at b_4
      refine T_ige d_X6_cutMembers_20 ⟨by omega, by omega⟩ ⟨by omega, by omega⟩ (fun h20 => ?_) (fun h20 => ?_)
      · skip
        -- leaf 20t@125
        refine T_vret d_X6_cutMembers_125 rfl ?_
        have et : t = b.cn := by omega
        rw [et] at xr
        exact ⟨rfl, hBX, fX, rfl, xr⟩
      · skip
        have w1 := hw.1 t (by omega)
        have w2 := ho.cL t
        have w3 := ho.cE t
        have w4 := ho.cK t
        have n1 : b.cL t = (((b.cL t).toNat : Nat) : Int) := by omega
        have n2 : b.cE t = (((b.cE t).toNat : Nat) : Int) := by omega
        have qA : -1 ≤ memI b k c l ch N (b.cL t).toNat ∧ memI b k c l ch N (b.cL t).toNat ≤ 12 := by rcases memI_r (b := b) (k := k) (c := c) (l := l) (ch := ch) (N := N) (g := (b.cL t).toNat) with z | ⟨i, i1, i2⟩ <;> omega
        have qE : -1 ≤ memI b k c l ch N (b.cE t).toNat ∧ memI b k c l ch N (b.cE t).toNat ≤ 12 := by rcases memI_r (b := b) (k := k) (c := c) (l := l) (ch := ch) (N := N) (g := (b.cE t).toNat) with z | ⟨i, i1, i2⟩ <;> omega
        refine T_al d_X6_cutMembers_23 rfl ?_
        refine T_al d_X6_cutMembers_24 rfl ?_
        refine T_al d_X6_cutMembers_25 rfl ?_
        refine T_al d_X6_cutMembers_26 rfl ?_
        refine F_gr (b := 10) d_X6_cutMembers_27 rfl hF rfl ?_
        refine T_il d_X6_cutMembers_30 rfl ?_
        refine T_k d_X6_cutMembers_32 ?_
        refine C_pv2 d_X6_cutMembers_33 rfl (hdF (by decide)) (hcF _) (Gt10_0 hBX hF bCX ho (by omega)) ?_
        rw [n1]
        refine C_pv3 d_X6_cutMembers_36 rfl (hdF (by decide)) (hcF _) (R_X6_memberWith (b := b) (k := k) (c := c) (l := l) (N := N) (ch := ch) (g := (b.cL t).toNat) hBX hF ho (by omega) (fun h hh => by rw [x39]; exact h39 h hh) (ho58_x h58 x58) (fun i hi => by rw [x87]; exact h87 i hi) hN) ?_
        refine F_isg d_X6_cutMembers_39 (f := fun x_5 => [(0, vr 85), (1, vr 1), (2, vr 34), (3, vr 56), (4, vi k), (5, vi (t : Int)), (6, vi x_5)]) (fun _ => rfl) (fun x_5 ex_5 => ?_)
        have e6 := ex_5
        refine T_al d_X6_cutMembers_41 rfl ?_
        refine T_al d_X6_cutMembers_42 rfl ?_
        refine T_al d_X6_cutMembers_43 rfl ?_
        refine T_al d_X6_cutMembers_44 rfl ?_
        refine F_gr (b := 10) d_X6_cutMembers_45 rfl hF rfl ?_
        refine T_il d_X6_cutMembers_48 rfl ?_
        refine T_k d_X6_cutMembers_50 ?_
        refine C_pv2 d_X6_cutMembers_51 rfl (hdF (by decide)) (hcF _) (Gt10_1 hBX hF bCX ho (by omega)) ?_
        rw [n2]
        refine C_pv3 d_X6_cutMembers_54 rfl (hdF (by decide)) (hcF _) (R_X6_memberWith (b := b) (k := k) (c := c) (l := l) (N := N) (ch := ch) (g := (b.cE t).toNat) hBX hF ho (by omega) (fun h hh => by rw [x39]; exact h39 h hh) (ho58_x h58 x58) (fun i hi => by rw [x87]; exact h87 i hi) hN) ?_
        refine F_isg d_X6_cutMembers_57 (f := fun x_6 => [(0, vr 85), (1, vr 1), (2, vr 34), (3, vr 56), (4, vi k), (5, vi (t : Int)), (6, vi x_5), (7, vi x_6)]) (fun _ => rfl) (fun x_6 ex_6 => ?_)
        have e7 := ex_6
        refine T_al d_X6_cutMembers_59 rfl ?_
        refine F_gr (b := 10) d_X6_cutMembers_60 rfl hF rfl ?_
        refine T_il d_X6_cutMembers_63 rfl ?_
        refine T_k d_X6_cutMembers_65 ?_
        refine C_pv2 d_X6_cutMembers_66 rfl (hdF (by decide)) (hcF _) (Gt10_4 hBX hF bCX ho (by omega)) ?_
        refine T_il d_X6_cutMembers_69 rfl ?_
        refine T_igt d_X6_cutMembers_71 ⟨by omega, by omega⟩ ⟨by omega, by omega⟩ (fun h71 => ?_) (fun h71 => ?_)
        · skip
          refine T_k d_X6_cutMembers_78 ?_
          refine T_is d_X6_cutMembers_79 (ls' := [(0, vr 85), (1, vr 1), (2, vr 34), (3, vr 56), (4, vi k), (5, vi (t : Int)), (6, vi x_5), (7, vi x_6), (8, vi 0)]) rfl ?_
          refine T_il d_X6_cutMembers_81 rfl ?_
          refine T_zeq d_X6_cutMembers_83 ⟨by omega, by omega⟩ (fun h83 => ?_) (fun h83 => ?_)
          · skip
            refine F_incg d_X6_cutMembers_119 rfl (f := fun x_7 => [(0, vr 85), (1, vr 1), (2, vr 34), (3, vr 56), (4, vi k), (5, vi x_7), (6, vi x_5), (7, vi x_6), (8, vi 0)]) (fun _ => rfl) (fun x_7 ex_7 => ?_)
            refine T_go d_X6_cutMembers_122 ?_
            -- to 11 20f.71t.83t@11
            refine T_subp (ks := [0, 1, 2, 3, 4, 5]) (ls' := [(0, vr 85), (1, vr 1), (2, vr 34), (3, vr 56), (4, vi k), (5, vi x_7)]) rfl ?_
            obtain rfl : x_7 = ((t + 1) : Int) := by omega
            exact ih11 X (t + 1) (by omega) hBX fX (by first | assumption | omega) (cut_no hO xr (fun i j z1 z2 z3 z4 => by omega))
          · omega
        · skip
          refine T_k d_X6_cutMembers_74 ?_
          refine T_go d_X6_cutMembers_75 ?_
          refine T_is d_X6_cutMembers_79 (ls' := [(0, vr 85), (1, vr 1), (2, vr 34), (3, vr 56), (4, vi k), (5, vi (t : Int)), (6, vi x_5), (7, vi x_6), (8, vi 1)]) rfl ?_
          refine T_il d_X6_cutMembers_81 rfl ?_
          refine T_zeq d_X6_cutMembers_83 ⟨by omega, by omega⟩ (fun h83 => ?_) (fun h83 => ?_)
          · omega
          · skip
            refine T_il d_X6_cutMembers_86 rfl ?_
            refine T_k d_X6_cutMembers_88 ?_
            refine T_ieq d_X6_cutMembers_89 ⟨by omega, by omega⟩ ⟨by omega, by omega⟩ (fun h89 => ?_) (fun h89 => ?_)
            · skip
              refine F_incg d_X6_cutMembers_119 rfl (f := fun x_8 => [(0, vr 85), (1, vr 1), (2, vr 34), (3, vr 56), (4, vi k), (5, vi x_8), (6, vi x_5), (7, vi x_6), (8, vi 1)]) (fun _ => rfl) (fun x_8 ex_8 => ?_)
              refine T_go d_X6_cutMembers_122 ?_
              -- to 11 20f.71f.83f.89t@11
              refine T_subp (ks := [0, 1, 2, 3, 4, 5]) (ls' := [(0, vr 85), (1, vr 1), (2, vr 34), (3, vr 56), (4, vi k), (5, vi x_8)]) rfl ?_
              obtain rfl : x_8 = ((t + 1) : Int) := by omega
              exact ih11 X (t + 1) (by omega) hBX fX (by first | assumption | omega) (cut_no hO xr (fun i j z1 z2 z3 z4 => by omega))
            · skip
              refine T_il d_X6_cutMembers_92 rfl ?_
              refine T_k d_X6_cutMembers_94 ?_
              refine T_ieq d_X6_cutMembers_95 ⟨by omega, by omega⟩ ⟨by omega, by omega⟩ (fun h95 => ?_) (fun h95 => ?_)
              · skip
                refine F_incg d_X6_cutMembers_119 rfl (f := fun x_9 => [(0, vr 85), (1, vr 1), (2, vr 34), (3, vr 56), (4, vi k), (5, vi x_9), (6, vi x_5), (7, vi x_6), (8, vi 1)]) (fun _ => rfl) (fun x_9 ex_9 => ?_)
                refine T_go d_X6_cutMembers_122 ?_
                -- to 11 20f.71f.83f.89f.95t@11
                refine T_subp (ks := [0, 1, 2, 3, 4, 5]) (ls' := [(0, vr 85), (1, vr 1), (2, vr 34), (3, vr 56), (4, vi k), (5, vi x_9)]) rfl ?_
                obtain rfl : x_9 = ((t + 1) : Int) := by omega
                exact ih11 X (t + 1) (by omega) hBX fX (by first | assumption | omega) (cut_no hO xr (fun i j z1 z2 z3 z4 => by omega))
              · skip
                refine T_il d_X6_cutMembers_98 rfl ?_
                refine T_il d_X6_cutMembers_100 rfl ?_
                refine T_ieq d_X6_cutMembers_102 ⟨by omega, by omega⟩ ⟨by omega, by omega⟩ (fun h102 => ?_) (fun h102 => ?_)
                · skip
                  refine F_incg d_X6_cutMembers_119 rfl (f := fun x_10 => [(0, vr 85), (1, vr 1), (2, vr 34), (3, vr 56), (4, vi k), (5, vi x_10), (6, vi x_5), (7, vi x_6), (8, vi 1)]) (fun _ => rfl) (fun x_10 ex_10 => ?_)
                  refine T_go d_X6_cutMembers_122 ?_
                  -- to 11 20f.71f.83f.89f.95f.102t@11
                  refine T_subp (ks := [0, 1, 2, 3, 4, 5]) (ls' := [(0, vr 85), (1, vr 1), (2, vr 34), (3, vr 56), (4, vi k), (5, vi x_10)]) rfl ?_
                  obtain rfl : x_10 = ((t + 1) : Int) := by omega
                  exact ih11 X (t + 1) (by omega) hBX fX (by first | assumption | omega) (cut_no hO xr (fun i j z1 z2 z3 z4 => by omega))
                · skip
                  obtain ⟨A, A1, A2⟩  := (memI_r (b := b) (k := k) (c := c) (l := l) (ch := ch) (N := N) (g := (b.cL t).toNat)).elim (fun z => absurd z (by omega)) id
                  obtain ⟨E, E1, E2⟩  := (memI_r (b := b) (k := k) (c := c) (l := l) (ch := ch) (N := N) (g := (b.cE t).toNat)).elim (fun z => absurd z (by omega)) id
                  have z6 : x_5 = (A : Int) := e6.trans A2
                  have z7 : x_6 = (E : Int) := e7.trans E2
                  have bA := bn_13 (p := ltT b k c l ch N t A) (n := chN ch N) h13
                  have oA := or_13 bA (show E < 13 by omega)
                  have xA := xr A A1
                  refine T_al d_X6_cutMembers_105 rfl ?_
                  refine F_gr (b := 89) d_X6_cutMembers_106 rfl hF rfl ?_
                  refine T_il d_X6_cutMembers_109 rfl ?_
                  refine T_dup2 d_X6_cutMembers_111 rfl rfl ?_
                  refine F_ia d_X6_cutMembers_112 rfl hBX rfl ⟨by omega, by omega⟩ (fun b_11 => ?_)
                  try simp only [Int.toNat_natCast]
                  try simp only [Int.toNat_natCast] at b_11
                  refine T_k d_X6_cutMembers_113 ?_
                  refine T_il d_X6_cutMembers_114 rfl ?_
                  refine T_ishl d_X6_cutMembers_116 ?_
                  refine T_ior d_X6_cutMembers_117 ?_
                  rw [show iorZ (X 89 (x_5).toNat) (ishlZ 1 x_6) = ((bitsN (ltT b k c l ch N t A) (chN ch N) ||| 2 ^ E : Nat) : Int) from by rw [z6, z7, Int.toNat_natCast, xA]; exact oA.1]
                  refine F_is d_X6_cutMembers_118 rfl hBX rfl ⟨by omega, by omega⟩ ⟨by omega, by omega⟩ (fun V_12 eV_12 hBV_12 => ?_)
                  have fV_12 := chg_u eV_12 rfl fX
                  have bCV_12 := bC_c bCV fV_12 rfl
                  refine F_incg d_X6_cutMembers_119 rfl (f := fun x_13 => [(0, vr 85), (1, vr 1), (2, vr 34), (3, vr 56), (4, vi k), (5, vi x_13), (6, vi x_5), (7, vi x_6), (8, vi 1)]) (fun _ => rfl) (fun x_13 ex_13 => ?_)
                  refine T_go d_X6_cutMembers_122 ?_
                  -- to 11 20f.71f.83f.89f.95f.102f@11
                  refine T_subp (ks := [0, 1, 2, 3, 4, 5]) (ls' := [(0, vr 85), (1, vr 1), (2, vr 34), (3, vr 56), (4, vi k), (5, vi x_13)]) rfl ?_
                  obtain rfl : x_13 = ((t + 1) : Int) := by omega
                  exact ih11 V_12 (t + 1) (by omega) hBV_12 fV_12 (by first | assumption | omega) (cut_y hO xr A1 E1 (by omega) (by omega) A2 E2 (by rw [eV_12, z6, Int.toNat_natCast]))
  exact L11 _ V_2 (0) (Nat.lt_succ_self _) hBV_2 fV_2 (by first | assumption | omega) (cut_0 pV_2 h13)
