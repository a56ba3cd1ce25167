set_option maxHeartbeats 1000000 in
set_option maxRecDepth 100000 in
theorem R_X11_isBeside {G : GG} {V : VV} {R : RR}  {S : Sp} {a b s : Nat} (hB : Bd V) (hF : FinR R) (so : sO S) (sMV : sM S V) (ha : a < S.m) (hb : b < S.m) (hs : s < S.m) : RunsP G M_X11_isBeside 1 [vr 99, vi (a:Int), vi (b:Int), vi (s:Int)] V R (vi (bi (decide (bes S a b s = true)))) := by
  unfold RunsP
  refine Runs.of pn_X11 (Nat.le_of_ble_eq_true rfl) rfl ?_
  show TT G M_X11_isBeside (rmd 1 162 162) 162 (Zm G 162 162 (QP V R (vi (bi (decide (bes S a b s = true)))))) 162 0 [(0, vr 99), (1, vi (a:Int)), (2, vi (b:Int)), (3, vi (s:Int))] [] V R
  have hm4 := so.1
  have ca := sMV.2 a ha
  have cb := sMV.2 b hb
  have cs := sMV.2 s hs
  have ob := crF_b so ha hb hs
  have wa := so.2 a ha
  have wb := so.2 b hb
  have ws := so.2 s hs
  refine T_al d_X11_isBeside_0 rfl ?_
  refine F_gr (b := 132) d_X11_isBeside_1 rfl hF rfl ?_
  refine T_il d_X11_isBeside_4 rfl ?_
  refine F_ia d_X11_isBeside_5 rfl hB rfl ⟨by omega, by omega⟩ (fun b_1 => ?_)
  try simp only [Int.toNat_natCast]
  try simp only [Int.toNat_natCast] at b_1
  rw [cb.2.1]
  refine T_al d_X11_isBeside_6 rfl ?_
  refine F_gr (b := 132) d_X11_isBeside_7 rfl hF rfl ?_
  refine T_il d_X11_isBeside_10 rfl ?_
  refine F_ia d_X11_isBeside_11 rfl hB rfl ⟨by omega, by omega⟩ (fun b_2 => ?_)
  try simp only [Int.toNat_natCast]
  try simp only [Int.toNat_natCast] at b_2
  rw [ca.2.1]
  refine T_isub d_X11_isBeside_12 ?_
  refine T_i2l d_X11_isBeside_13 ⟨by omega, by omega⟩ ?_
  refine F_lsg d_X11_isBeside_14 (f := fun y_3 => [(0, vr 99), (1, vi (a:Int)), (2, vi (b:Int)), (3, vi (s:Int)), (4, vj y_3)]) (fun _ => rfl) (fun y_3 ey_3 => ?_)
  obtain rfl : y_3 = S.x b - S.x a := ey_3
  refine T_al d_X11_isBeside_16 rfl ?_
  refine F_gr (b := 133) d_X11_isBeside_17 rfl hF rfl ?_
  refine T_il d_X11_isBeside_20 rfl ?_
  refine F_ia d_X11_isBeside_21 rfl hB rfl ⟨by omega, by omega⟩ (fun b_4 => ?_)
  try simp only [Int.toNat_natCast]
  try simp only [Int.toNat_natCast] at b_4
  rw [cb.2.2.1]
  refine T_al d_X11_isBeside_22 rfl ?_
  refine F_gr (b := 133) d_X11_isBeside_23 rfl hF rfl ?_
  refine T_il d_X11_isBeside_26 rfl ?_
  refine F_ia d_X11_isBeside_27 rfl hB rfl ⟨by omega, by omega⟩ (fun b_5 => ?_)
  try simp only [Int.toNat_natCast]
  try simp only [Int.toNat_natCast] at b_5
  rw [ca.2.2.1]
  refine T_isub d_X11_isBeside_28 ?_
  refine T_i2l d_X11_isBeside_29 ⟨by omega, by omega⟩ ?_
  refine F_lsg d_X11_isBeside_30 (f := fun y_6 => [(0, vr 99), (1, vi (a:Int)), (2, vi (b:Int)), (3, vi (s:Int)), (4, vj (S.x b - S.x a)), (6, vj y_6)]) (fun _ => rfl) (fun y_6 ey_6 => ?_)
  obtain rfl : y_6 = S.y b - S.y a := ey_6
  refine T_ll d_X11_isBeside_32 rfl ?_
  refine T_al d_X11_isBeside_34 rfl ?_
  refine F_gr (b := 133) d_X11_isBeside_35 rfl hF rfl ?_
  refine T_il d_X11_isBeside_38 rfl ?_
  refine F_ia d_X11_isBeside_39 rfl hB rfl ⟨by omega, by omega⟩ (fun b_7 => ?_)
  try simp only [Int.toNat_natCast]
  try simp only [Int.toNat_natCast] at b_7
  rw [cs.2.2.1]
  refine T_al d_X11_isBeside_40 rfl ?_
  refine F_gr (b := 133) d_X11_isBeside_41 rfl hF rfl ?_
  refine T_il d_X11_isBeside_44 rfl ?_
  refine F_ia d_X11_isBeside_45 rfl hB rfl ⟨by omega, by omega⟩ (fun b_8 => ?_)
  try simp only [Int.toNat_natCast]
  try simp only [Int.toNat_natCast] at b_8
  rw [ca.2.2.1]
  refine T_isub d_X11_isBeside_46 ?_
  refine T_i2l d_X11_isBeside_47 ⟨by omega, by omega⟩ ?_
  refine T_lmul d_X11_isBeside_48 ?_
  refine T_ll d_X11_isBeside_49 rfl ?_
  refine T_al d_X11_isBeside_51 rfl ?_
  refine F_gr (b := 132) d_X11_isBeside_52 rfl hF rfl ?_
  refine T_il d_X11_isBeside_55 rfl ?_
  refine F_ia d_X11_isBeside_56 rfl hB rfl ⟨by omega, by omega⟩ (fun b_9 => ?_)
  try simp only [Int.toNat_natCast]
  try simp only [Int.toNat_natCast] at b_9
  rw [cs.2.1]
  refine T_al d_X11_isBeside_57 rfl ?_
  refine F_gr (b := 132) d_X11_isBeside_58 rfl hF rfl ?_
  refine T_il d_X11_isBeside_61 rfl ?_
  refine F_ia d_X11_isBeside_62 rfl hB rfl ⟨by omega, by omega⟩ (fun b_10 => ?_)
  try simp only [Int.toNat_natCast]
  try simp only [Int.toNat_natCast] at b_10
  rw [ca.2.1]
  refine T_isub d_X11_isBeside_63 ?_
  refine T_i2l d_X11_isBeside_64 ⟨by omega, by omega⟩ ?_
  refine T_lmul d_X11_isBeside_65 ?_
  refine T_lsub d_X11_isBeside_66 ?_
  refine F_lsg d_X11_isBeside_67 (f := fun y_11 => [(0, vr 99), (1, vi (a:Int)), (2, vi (b:Int)), (3, vi (s:Int)), (4, vj (S.x b - S.x a)), (6, vj (S.y b - S.y a)), (8, vj y_11)]) (fun _ => rfl) (fun y_11 ey_11 => ?_)
  obtain rfl : y_11 = crF S a b s := ey_11
  refine T_ll d_X11_isBeside_69 rfl ?_
  refine T_ll d_X11_isBeside_71 rfl ?_
  refine T_lmul d_X11_isBeside_73 ?_
  refine T_jk d_X11_isBeside_74 ?_
  refine T_ll d_X11_isBeside_77 rfl ?_
  refine T_ll d_X11_isBeside_79 rfl ?_
  refine T_lmul d_X11_isBeside_81 ?_
  refine T_ll d_X11_isBeside_82 rfl ?_
  refine T_ll d_X11_isBeside_84 rfl ?_
  refine T_lmul d_X11_isBeside_86 ?_
  refine T_ladd d_X11_isBeside_87 ?_
  refine T_lmul d_X11_isBeside_88 ?_
  refine T_lgt d_X11_isBeside_89 d_X11_isBeside_90 ⟨by omega, by omega⟩ ⟨by omega, by omega⟩ (fun h89 => ?_) (fun h89 => ?_)
  · skip
    refine T_k d_X11_isBeside_97 ?_
    -- leaf 89t@98
    exact P_F d_X11_isBeside_98 (by intro z; have := of_decide_eq_true z; omega)
  · skip
    refine T_k d_X11_isBeside_93 ?_
    refine T_go d_X11_isBeside_94 ?_
    -- leaf 89f@98
    exact P_T d_X11_isBeside_98 (by exact decide_eq_true (by omega))
set_option maxHeartbeats 1000000 in
set_option maxRecDepth 100000 in
theorem R_X11_lines {G : GG} {V : VV} {R : RR}  {S : Sp} {l : Nat → Nat → Int} {N ch : Nat} (hB : Bd V) (hF : FinR R) (so : sO S) (sMV : sM S V) (hL : lstV N l V) (hN : N ≤ 24) (hch : ∀ i, i < N → V 147 i = bi (ch.testBit i)) (hset : ∀ i, i < N → bL l i < 2 ^ 40 ∧ 0 ≤ l i 10) : Runs G M_X11_lines 3 162 162 [vr 99] V R (PQ [(160, 160)] [(99, 97, 97)] V R (fun o X => o = none ∧ fnM S (lz0 l ch N) X)) := by
  refine Runs.of pn_X11 (Nat.le_of_ble_eq_true rfl) rfl ?_
  show TT G M_X11_lines (rmd 3 162 162) 162 (Zm G 162 162 (PQ [(160, 160)] [(99, 97, 97)] V R (fun o X => o = none ∧ fnM S (lz0 l ch N) X))) 162 0 [(0, vr 99)] [] V R
  have fV : chg [(160, 160)] [(99, 97, 97)] V V := chg_r
  have lLV := hL
  have hm4 := so.1
  refine T_al d_X11_lines_0 rfl ?_
  refine T_k d_X11_lines_1 ?_
  refine F_pi d_X11_lines_2 rfl hB rfl ⟨by omega, by omega⟩ (fun V_1 eV_1 hBV_1 => ?_)
  have fV_1 := chg_u eV_1 rfl fV
  have sMV_1 := sM_c sMV fV_1 rfl
  have lLV_1 := lstV_c hL fV_1 rfl
  refine T_jk d_X11_lines_5 ?_
  refine T_ls d_X11_lines_6 (ls' := [(0, vr 99), (1, vj 0)]) rfl ?_
  refine T_k d_X11_lines_7 ?_
  refine T_is d_X11_lines_8 (ls' := [(0, vr 99), (1, vj 0), (3, vi 0)]) rfl ?_
  -- to 9 @9
  have L9 : ∀ (fu : Nat) (X : VV) (s : Nat), S.m - s < fu → (Bd X) → (chg [(160, 160)] [(99, 97, 97)] V X) → (s ≤ S.m) → (X 99 97 = 0) → (∀ t, t < s → X 160 t = -1) → TT G M_X11_lines (rmd 3 162 162) 162 (Zm G 162 162 (PQ [(160, 160)] [(99, 97, 97)] V R (fun o X => o = none ∧ fnM S (lz0 l ch N) X))) 162 9 [(0, vr 99), (1, vj (bitsN (fun _ => true) s : Int)), (3, vi (s : Int))] [] X R := by
    intro fu
    induction fu with
    | zero => intro X s hm; exact absurd hm (Nat.not_lt_zero _)
    | succ fu ih9 =>
      intro X s hm9 hBX fX hs x97 x160
      have sMX := sM_c sMV fX rfl
      have lLX := lstV_c hL fX rfl
      have xm := sMX.1
      refine T_il d_X11_lines_9 rfl ?_
      refine T_al d_X11_lines_10 rfl ?_
      refine F_gi d_X11_lines_11 rfl hBX rfl (fun b_2 => ?_)
      rw [xm]
      refine T_ige d_X11_lines_14 ⟨by omega, by omega⟩ ⟨by omega, by omega⟩ (fun h14 => ?_) (fun h14 => ?_)
      · skip
        rw [show (bitsN (fun _ => true) s : Int) = (bitsN (lz0 l ch 0) S.m : Int) from by rw [show s = S.m by omega]; rfl]
        refine T_k d_X11_lines_36 ?_
        refine T_is d_X11_lines_37 (ls' := [(0, vr 99), (1, vj (bitsN (lz0 l ch 0) S.m : Int)), (3, vi 0)]) rfl ?_
        -- to 38 14t@38
        have L38 : ∀ (fu : Nat) (Y : VV) (h : Nat), N - h < fu → (Bd Y) → (chg [(160, 160)] [(99, 97, 97)] V Y) → (h ≤ N) → (Y 99 97 = 0) → (∀ t, t < S.m → Y 160 t = -1) → TT G M_X11_lines (rmd 3 162 162) 162 (Zm G 162 162 (PQ [(160, 160)] [(99, 97, 97)] V R (fun o X => o = none ∧ fnM S (lz0 l ch N) X))) 162 38 [(0, vr 99), (1, vj (bitsN (lz0 l ch h) S.m : Int)), (3, vi (h : Int))] [] Y R := by
          intro fu
          induction fu with
          | zero => intro Y h hm; exact absurd hm (Nat.not_lt_zero _)
          | succ fu ih38 =>
            intro Y h hm38 hBY fY hh y97 y160
            have sMY := sM_c sMV fY rfl
            have lLY := lstV_c hL fY rfl
            have yn := lLY.1
            have y147 := chg_k (c := 147) fY rfl
            refine T_il d_X11_lines_38 rfl ?_
            refine T_al d_X11_lines_39 rfl ?_
            refine F_gi d_X11_lines_40 rfl hBY rfl (fun b_3 => ?_)
            rw [yn]
            refine T_ige d_X11_lines_43 ⟨by omega, by omega⟩ ⟨by omega, by omega⟩ (fun h43 => ?_) (fun h43 => ?_)
            · skip
              rw [show (bitsN (lz0 l ch h) S.m : Int) = (bitsN (lsO (lz0 l ch N) (fnS S (lz0 l ch N) 0)) S.m : Int) from by rw [show h = N by omega]; congr 1; exact bn_x (fun s _ => by show lz0 l ch N s = (lz0 l ch N s && decide ((-1 : Int) = -1)); rw [decide_eq_true rfl, Bool.and_true])]
              refine T_k d_X11_lines_74 ?_
              refine T_is d_X11_lines_75 (ls' := [(0, vr 99), (1, vj (bitsN (lsO (lz0 l ch N) (fnS S (lz0 l ch N) 0)) S.m : Int)), (3, vi 1)]) rfl ?_
              -- to 76 43t@76
              have L76 : ∀ (fu : Nat) (W : VV) (r : Nat) (st : FS) (e : Nat), 2 * cntB (lsO (lz0 l ch N) st) S.m + e < fu → (Bd W) → (chg [(160, 160)] [(99, 97, 97)] V W) → (st = fnS S (lz0 l ch N) r) → (r + cntB (lsO (lz0 l ch N) st) S.m ≤ 40) → (W 99 97 = (st.1 : Int)) → (∀ t, t < S.m → W 160 t = st.2 t) → (e = 1 ∨ (e = 0 ∧ (fpA S (lz0 l ch N) st).2.1 = -1)) → TT G M_X11_lines (rmd 3 162 162) 162 (Zm G 162 162 (PQ [(160, 160)] [(99, 97, 97)] V R (fun o X => o = none ∧ fnM S (lz0 l ch N) X))) 162 76 [(0, vr 99), (1, vj (bitsN (lsO (lz0 l ch N) st) S.m : Int)), (3, vi (e : Int))] [] W R := by
                intro fu
                induction fu with
                | zero => intro W r st e hm; exact absurd hm (Nat.not_lt_zero _)
                | succ fu ih76 =>
                  intro W r st e hm76 hBW fW est hr w97 w160 he
                  have sMW := sM_c sMV fW rfl
                  have lLW := lstV_c hL fW rfl
                  have wm := sMW.1
                  have fl := fn_le (S := S) (L0 := lz0 l ch N) r
                  rw [← est] at fl
                  refine T_il d_X11_lines_76 rfl ?_
                  refine T_zeq d_X11_lines_77 ⟨by omega, by omega⟩ (fun h77 => ?_) (fun h77 => ?_)
                  · skip
                    -- leaf 77t@355
                    refine T_vret d_X11_lines_355 rfl ?_
                    obtain ⟨_, e1⟩ := he.elim (fun z => absurd z (by omega)) id
                    rw [est] at e1 w97 w160
                    have e4 := fn_40 e1 (by omega)
                    exact ⟨rfl, hBW, fW, rfl, by rw [e4]; exact w97, fun x hx => by rw [e4]; exact w160 x hx⟩
                  · skip
                    refine T_k d_X11_lines_80 ?_
                    refine T_is d_X11_lines_81 (ls' := [(0, vr 99), (1, vj (bitsN (lsO (lz0 l ch N) st) S.m : Int)), (3, vi (e : Int)), (4, vi 3)]) rfl ?_
                    refine T_k d_X11_lines_83 ?_
                    refine T_is d_X11_lines_84 (ls' := [(0, vr 99), (1, vj (bitsN (lsO (lz0 l ch N) st) S.m : Int)), (3, vi (e : Int)), (4, vi 3), (5, vi (-1))]) rfl ?_
                    refine T_k d_X11_lines_86 ?_
                    refine T_is d_X11_lines_87 (ls' := [(0, vr 99), (1, vj (bitsN (lsO (lz0 l ch N) st) S.m : Int)), (3, vi (e : Int)), (4, vi 3), (5, vi (-1)), (6, vi (-1))]) rfl ?_
                    refine T_k d_X11_lines_89 ?_
                    refine T_is d_X11_lines_90 (ls' := [(0, vr 99), (1, vj (bitsN (lsO (lz0 l ch N) st) S.m : Int)), (3, vi (e : Int)), (4, vi 3), (5, vi (-1)), (6, vi (-1)), (7, vi 0)]) rfl ?_
                    -- to 92 77f@92
                    have L92 : ∀ (fu : Nat) (a : Nat), S.m - a < fu → (a ≤ S.m) → TT G M_X11_lines (rmd 3 162 162) 162 (Zm G 162 162 (PQ [(160, 160)] [(99, 97, 97)] V R (fun o X => o = none ∧ fnM S (lz0 l ch N) X))) 162 92 [(0, vr 99), (1, vj (bitsN (lsO (lz0 l ch N) st) S.m : Int)), (4, vi ((fA S (lsO (lz0 l ch N) st) a).1 : Int)), (5, vi (fA S (lsO (lz0 l ch N) st) a).2.1), (6, vi (fA S (lsO (lz0 l ch N) st) a).2.2), (7, vi (a : Int))] [] W R := by
                      intro fu
                      induction fu with
                      | zero => intro a hm; exact absurd hm (Nat.not_lt_zero _)
                      | succ fu ih92 =>
                        intro a hm92 ha
                        refine T_il d_X11_lines_92 rfl ?_
                        refine T_al d_X11_lines_94 rfl ?_
                        refine F_gi d_X11_lines_95 rfl hBW rfl (fun b_4 => ?_)
                        rw [wm]
                        refine T_ige d_X11_lines_98 ⟨by omega, by omega⟩ ⟨by omega, by omega⟩ (fun h98 => ?_) (fun h98 => ?_)
                        · skip
                          have eam : a = S.m := by omega
                          rw [eam]
                          have pb := psO_b (fA_r (S := S) (L := lsO (lz0 l ch N) st) S.m (Nat.le_refl _))
                          have pb2 : (-1 ≤ (fpA S (lz0 l ch N) st).2.1 ∧ (fpA S (lz0 l ch N) st).2.1 < (S.m : Int)) ∧ (-1 ≤ (fpA S (lz0 l ch N) st).2.2 ∧ (fpA S (lz0 l ch N) st).2.2 < (S.m : Int)) ∧ ((fpA S (lz0 l ch N) st).2.1 = -1 ↔ (fpA S (lz0 l ch N) st).2.2 = -1) := pb.2.2
                          refine T_il d_X11_lines_246 rfl ?_
                          refine T_k d_X11_lines_248 ?_
                          refine T_ieq d_X11_lines_249 ⟨by omega, by omega⟩ ⟨by omega, by omega⟩ (fun h249 => ?_) (fun h249 => ?_)
                          · skip
                            refine T_k d_X11_lines_256 ?_
                            refine T_is d_X11_lines_257 (ls' := [(0, vr 99), (1, vj (bitsN (lsO (lz0 l ch N) st) S.m : Int)), (3, vi 0), (4, vi ((fpA S (lz0 l ch N) st).1 : Int)), (5, vi (fpA S (lz0 l ch N) st).2.1), (6, vi (fpA S (lz0 l ch N) st).2.2), (7, vi (S.m : Int))]) rfl ?_
                            refine T_il d_X11_lines_258 rfl ?_
                            refine T_zne d_X11_lines_259 ⟨by omega, by omega⟩ (fun h259 => ?_) (fun h259 => ?_)
                            · exact absurd h259 (by decide)
                            · skip
                              refine T_go d_X11_lines_262 ?_
                              -- to 76 98t.249t.259f@76
                              refine T_subp (ks := [0, 1, 2]) (ls' := [(0, vr 99), (1, vj (bitsN (lsO (lz0 l ch N) st) S.m : Int)), (3, vi 0)]) rfl ?_
                              exact ih76 W (r) (st) (0) (by omega) hBW fW est hr w97 w160 (Or.inr ⟨rfl, by omega⟩)
                          · skip
                            refine T_k d_X11_lines_252 ?_
                            refine T_go d_X11_lines_253 ?_
                            refine T_is d_X11_lines_257 (ls' := [(0, vr 99), (1, vj (bitsN (lsO (lz0 l ch N) st) S.m : Int)), (3, vi 1), (4, vi ((fpA S (lz0 l ch N) st).1 : Int)), (5, vi (fpA S (lz0 l ch N) st).2.1), (6, vi (fpA S (lz0 l ch N) st).2.2), (7, vi (S.m : Int))]) rfl ?_
                            refine T_il d_X11_lines_258 rfl ?_
                            refine T_zne d_X11_lines_259 ⟨by omega, by omega⟩ (fun h259 => ?_) (fun h259 => ?_)
                            · skip
                              have g249 : ¬ (fpA S (lz0 l ch N) st).2.1 = -1 := h249
                              have gA : 0 ≤ (fpA S (lz0 l ch N) st).2.1 := by have z1 := pb2.1.1; have z2 := g249; generalize (fpA S (lz0 l ch N) st).2.1 = q at z1 z2 ⊢; omega
                              have gB : 0 ≤ (fpA S (lz0 l ch N) st).2.2 := by have z1 := pb2.2.1.1; have z2 : ¬ (fpA S (lz0 l ch N) st).2.2 = -1 := fun w => g249 (pb2.2.2.mpr w); generalize (fpA S (lz0 l ch N) st).2.2 = q at z1 z2 ⊢; omega
                              have nA : (fpA S (lz0 l ch N) st).2.1 = (((fpA S (lz0 l ch N) st).2.1.toNat : Nat) : Int) := (Int.toNat_of_nonneg gA).symm
                              have nB : (fpA S (lz0 l ch N) st).2.2 = (((fpA S (lz0 l ch N) st).2.2.toNat : Nat) : Int) := (Int.toNat_of_nonneg gB).symm
                              have sy := stF_y (S := S) (L0 := lz0 l ch N) (st := st) g249
                              have slt := stF_lt (S := S) (L0 := lz0 l ch N) (st := st) g249
                              have sf1 : (stF S (lz0 l ch N) st).1 = st.1 + 1 := by rw [sy]
                              refine T_jk d_X11_lines_265 ?_
                              refine T_ls d_X11_lines_266 (ls' := [(0, vr 99), (1, vj (bitsN (lsO (lz0 l ch N) st) S.m : Int)), (3, vi 1), (4, vi ((fpA S (lz0 l ch N) st).1 : Int)), (5, vi (fpA S (lz0 l ch N) st).2.1), (6, vi (fpA S (lz0 l ch N) st).2.2), (7, vj 0)]) rfl ?_
                              refine T_k d_X11_lines_268 ?_
                              refine T_is d_X11_lines_269 (ls' := [(0, vr 99), (1, vj (bitsN (lsO (lz0 l ch N) st) S.m : Int)), (3, vi 1), (4, vi ((fpA S (lz0 l ch N) st).1 : Int)), (5, vi (fpA S (lz0 l ch N) st).2.1), (6, vi (fpA S (lz0 l ch N) st).2.2), (7, vj 0), (9, vi 0)]) rfl ?_
                              -- to 271 98t.249f.259t@271
                              have L271 : ∀ (fu : Nat) (Z : VV) (s : Nat), S.m - s < fu → (Bd Z) → (chg [(160, 160)] [(99, 97, 97)] V Z) → (s ≤ S.m) → (Z 99 97 = (st.1 : Int)) → (∀ x, x < s → x < S.m → Z 160 x = (stF S (lz0 l ch N) st).2 x) → (∀ x, s ≤ x → x < S.m → Z 160 x = st.2 x) → TT G M_X11_lines (rmd 3 162 162) 162 (Zm G 162 162 (PQ [(160, 160)] [(99, 97, 97)] V R (fun o X => o = none ∧ fnM S (lz0 l ch N) X))) 162 271 [(0, vr 99), (1, vj (bitsN (lsO (lz0 l ch N) st) S.m : Int)), (3, vi 1), (5, vi (fpA S (lz0 l ch N) st).2.1), (6, vi (fpA S (lz0 l ch N) st).2.2), (7, vj (bitsN (fun s => lsO (lz0 l ch N) st s && bes S (fpA S (lz0 l ch N) st).2.1.toNat (fpA S (lz0 l ch N) st).2.2.toNat s) s : Int)), (9, vi (s : Int))] [] Z R := by
                                intro fu
                                induction fu with
                                | zero => intro Z s hm; exact absurd hm (Nat.not_lt_zero _)
                                | succ fu ih271 =>
                                  intro Z s hm271 hBZ fZ hs z97 z1 z2
                                  have sMZ := sM_c sMV fZ rfl
                                  have lLZ := lstV_c hL fZ rfl
                                  have zm := sMZ.1
                                  refine T_il d_X11_lines_271 rfl ?_
                                  refine T_al d_X11_lines_273 rfl ?_
                                  refine F_gi d_X11_lines_274 rfl hBZ rfl (fun b_5 => ?_)
                                  rw [zm]
                                  refine T_ige d_X11_lines_277 ⟨by omega, by omega⟩ ⟨by omega, by omega⟩ (fun h277 => ?_) (fun h277 => ?_)
                                  · skip
                                    have es : s = S.m := by omega
                                    rw [es]
                                    refine T_ll d_X11_lines_333 rfl ?_
                                    refine T_ll d_X11_lines_334 rfl ?_
                                    refine T_jk d_X11_lines_336 ?_
                                    refine T_lxor d_X11_lines_339 ?_
                                    refine T_land d_X11_lines_340 ?_
                                    refine F_lsg d_X11_lines_341 (f := fun y_6 => [(0, vr 99), (1, vj y_6), (3, vi 1), (5, vi (fpA S (lz0 l ch N) st).2.1), (6, vi (fpA S (lz0 l ch N) st).2.2), (7, vj (bitsN (fun s => lsO (lz0 l ch N) st s && bes S (fpA S (lz0 l ch N) st).2.1.toNat (fpA S (lz0 l ch N) st).2.2.toNat s) S.m : Int)), (9, vi (S.m : Int))]) (fun _ => rfl) (fun y_6 ey_6 => ?_)
                                    obtain rfl : y_6 = (bitsN (lsO (lz0 l ch N) (stF S (lz0 l ch N) st)) S.m : Int) := by rw [ey_6, landnot_n (Nat.lt_trans (bits_40 hm4) (by decide)) (Nat.lt_trans (bits_40 hm4) (by decide)), bx_not]; congr 1; exact bn_x (fun x hx => by rw [bt_e hx]; exact (lsO_y (by omega)).symm)
                                    refine T_al d_X11_lines_342 rfl ?_
                                    refine T_dup d_X11_lines_343 rfl ?_
                                    refine F_gi d_X11_lines_344 rfl hBZ rfl (fun b_7 => ?_)
                                    rw [z97]
                                    refine T_k d_X11_lines_347 ?_
                                    refine T_iadd d_X11_lines_348 ?_
                                    refine F_pi d_X11_lines_349 rfl hBZ rfl ⟨by omega, by omega⟩ (fun V_8 eV_8 hBV_8 => ?_)
                                    have fV_8 := chg_u eV_8 rfl fZ
                                    have sMV_8 := sM_c sMV fV_8 rfl
                                    have lLV_8 := lstV_c hL fV_8 rfl
                                    refine T_go d_X11_lines_352 ?_
                                    -- to 76 277t@76
                                    refine T_subp (ks := [0, 1, 2]) (ls' := [(0, vr 99), (1, vj (bitsN (lsO (lz0 l ch N) (stF S (lz0 l ch N) st)) S.m : Int)), (3, vi 1)]) rfl ?_
                                    exact ih76 V_8 (r + 1) (stF S (lz0 l ch N) st) (1) (by have := hm76; omega) hBV_8 fV_8 (by rw [est]; rfl) (by omega) (by rw [eV_8, sf1]; exact uV_self) (fun x hx => by rw [eV_8, uV_ne (fun z => absurd z.1 (by decide))]; exact z1 x (by omega) hx) (Or.inl rfl)
                                  · skip
                                    have nlA := R_X11_isBeside (G := G) (S := S) (a := (fpA S (lz0 l ch N) st).2.1.toNat) (b := (fpA S (lz0 l ch N) st).2.2.toNat) (s := s) hBZ hF so sMZ (by omega) (by omega) (by omega)
                                    rw [← nA, ← nB] at nlA
                                    refine T_ll d_X11_lines_280 rfl ?_
                                    refine T_il d_X11_lines_281 rfl ?_
                                    refine T_lshr d_X11_lines_283 ?_
                                    refine T_jk d_X11_lines_284 ?_
                                    refine T_land d_X11_lines_285 ?_
                                    refine T_jk d_X11_lines_286 ?_
                                    rw [(tb_1 (a := bitsN (lsO (lz0 l ch N) st) S.m) (s := s) (Nat.lt_trans (bits_40 hm4) (by decide)) (by omega))]
                                    refine T_leq d_X11_lines_287 d_X11_lines_288 ⟨by split <;> omega, by split <;> omega⟩ ⟨by omega, by omega⟩ (fun h287 => ?_) (fun h287 => ?_)
                                    · skip
                                      rw [← bits_f (p := fun s => lsO (lz0 l ch N) st s && bes S (fpA S (lz0 l ch N) st).2.1.toNat (fpA S (lz0 l ch N) st).2.2.toNat s) (j := s) (Bool.eq_false_iff.mpr fun z => by rw [Bool.and_eq_true] at z; exact absurd h287 (by rw [if_pos (by rw [bt_e (show s < S.m by omega)]; exact z.1)]; decide))]
                                      refine F_incg d_X11_lines_327 rfl (f := fun x_9 => [(0, vr 99), (1, vj (bitsN (lsO (lz0 l ch N) st) S.m : Int)), (3, vi 1), (5, vi (fpA S (lz0 l ch N) st).2.1), (6, vi (fpA S (lz0 l ch N) st).2.2), (7, vj (bitsN (fun s => lsO (lz0 l ch N) st s && bes S (fpA S (lz0 l ch N) st).2.1.toNat (fpA S (lz0 l ch N) st).2.2.toNat s) (s + 1) : Int)), (9, vi x_9)]) (fun _ => rfl) (fun x_9 ex_9 => ?_)
                                      refine T_go d_X11_lines_330 ?_
                                      -- to 271 277f.287t@271
                                      obtain rfl : x_9 = ((s + 1) : Int) := by omega
                                      exact ih271 Z (s + 1) (by omega) hBZ fZ (by first | assumption | omega) z97 (up_all2 z1 (fun hx => by rw [z2 s (Nat.le_refl _) hx, sy]; show _ = if _ then _ else _; rw [if_neg (fun z => by rw [Bool.and_eq_true] at z; exact absurd h287 (by rw [if_pos (by rw [bt_e (show s < S.m by omega)]; exact z.1)]; decide))])) (fun x h1 h2 => z2 x (by omega) h2)
                                    · skip
                                      refine T_al d_X11_lines_291 rfl ?_
                                      refine T_il d_X11_lines_292 rfl ?_
                                      refine T_il d_X11_lines_294 rfl ?_
                                      refine T_il d_X11_lines_296 rfl ?_
                                      refine C_pv3 d_X11_lines_298 rfl (hdF (by decide)) (hcF _) nlA ?_
                                      refine T_pz1 d_X11_lines_301 (fun h301 => ?_) (fun h301 => ?_)
                                      · skip
                                        refine T_al d_X11_lines_307 rfl ?_
                                        refine F_gr (b := 160) d_X11_lines_308 rfl hF rfl ?_
                                        refine T_il d_X11_lines_311 rfl ?_
                                        refine T_al d_X11_lines_313 rfl ?_
                                        refine F_gi d_X11_lines_314 rfl hBZ rfl (fun b_10 => ?_)
                                        rw [z97]
                                        refine F_is d_X11_lines_317 rfl hBZ rfl ⟨by omega, by omega⟩ ⟨by omega, by omega⟩ (fun V_11 eV_11 hBV_11 => ?_)
                                        have fV_11 := chg_u eV_11 rfl fZ
                                        have sMV_11 := sM_c sMV fV_11 rfl
                                        have lLV_11 := lstV_c hL fV_11 rfl
                                        refine T_ll d_X11_lines_318 rfl ?_
                                        refine T_jk d_X11_lines_320 ?_
                                        refine T_il d_X11_lines_321 rfl ?_
                                        refine T_lshl d_X11_lines_323 ?_
                                        refine T_lor d_X11_lines_324 ?_
                                        refine F_lsg d_X11_lines_325 (f := fun y_12 => [(0, vr 99), (1, vj (bitsN (lsO (lz0 l ch N) st) S.m : Int)), (3, vi 1), (5, vi (fpA S (lz0 l ch N) st).2.1), (6, vi (fpA S (lz0 l ch N) st).2.2), (7, vj y_12), (9, vi (s : Int))]) (fun _ => rfl) (fun y_12 ey_12 => ?_)
                                        obtain rfl : y_12 = (bitsN (fun s => lsO (lz0 l ch N) st s && bes S (fpA S (lz0 l ch N) st).2.1.toNat (fpA S (lz0 l ch N) st).2.2.toNat s) (s + 1) : Int) := by rw [ey_12, (or_s (bits_40 (by omega)) (by omega)).1, bits_t (p := fun s => lsO (lz0 l ch N) st s && bes S (fpA S (lz0 l ch N) st).2.1.toNat (fpA S (lz0 l ch N) st).2.2.toNat s) (by rw [← bt_e (p := lsO (lz0 l ch N) st) (show s < S.m by omega), Classical.byContradiction (fun z => h287 (if_neg z)), h301]; rfl)]
                                        refine F_incg d_X11_lines_327 rfl (f := fun x_13 => [(0, vr 99), (1, vj (bitsN (lsO (lz0 l ch N) st) S.m : Int)), (3, vi 1), (5, vi (fpA S (lz0 l ch N) st).2.1), (6, vi (fpA S (lz0 l ch N) st).2.2), (7, vj (bitsN (fun s => lsO (lz0 l ch N) st s && bes S (fpA S (lz0 l ch N) st).2.1.toNat (fpA S (lz0 l ch N) st).2.2.toNat s) (s + 1) : Int)), (9, vi x_13)]) (fun _ => rfl) (fun x_13 ex_13 => ?_)
                                        refine T_go d_X11_lines_330 ?_
                                        -- to 271 277f.287f.301t@271
                                        have tS := Classical.byContradiction (fun z => h287 (if_neg z))
                                        rw [bt_e (show s < S.m by omega)] at tS
                                        obtain rfl : x_13 = ((s + 1) : Int) := by omega
                                        exact ih271 V_11 (s + 1) (by omega) hBV_11 fV_11 (by first | assumption | omega) (by rw [eV_11]; exact z97) (fun x h1 h2 => by rw [eV_11, Int.toNat_natCast, uV_at]; by_cases q : x = s; (rw [if_pos q, q, sy]; show _ = if _ then _ else _; rw [if_pos (by rw [tS, h301]; rfl)]); (rw [if_neg q]; exact z1 x (by omega) h2)) (fun x h1 h2 => by rw [eV_11, Int.toNat_natCast, uV_at, if_neg (by omega)]; exact z2 x (by omega) h2)
                                      · skip
                                        refine T_go d_X11_lines_304 ?_
                                        rw [← bits_f (p := fun s => lsO (lz0 l ch N) st s && bes S (fpA S (lz0 l ch N) st).2.1.toNat (fpA S (lz0 l ch N) st).2.2.toNat s) (j := s) (Bool.eq_false_iff.mpr fun z => by rw [Bool.and_eq_true] at z; exact h301 z.2)]
                                        refine F_incg d_X11_lines_327 rfl (f := fun x_14 => [(0, vr 99), (1, vj (bitsN (lsO (lz0 l ch N) st) S.m : Int)), (3, vi 1), (5, vi (fpA S (lz0 l ch N) st).2.1), (6, vi (fpA S (lz0 l ch N) st).2.2), (7, vj (bitsN (fun s => lsO (lz0 l ch N) st s && bes S (fpA S (lz0 l ch N) st).2.1.toNat (fpA S (lz0 l ch N) st).2.2.toNat s) (s + 1) : Int)), (9, vi x_14)]) (fun _ => rfl) (fun x_14 ex_14 => ?_)
                                        refine T_go d_X11_lines_330 ?_
                                        -- to 271 277f.287f.301f@271
                                        obtain rfl : x_14 = ((s + 1) : Int) := by omega
                                        exact ih271 Z (s + 1) (by omega) hBZ fZ (by first | assumption | omega) z97 (up_all2 z1 (fun hx => by rw [z2 s (Nat.le_refl _) hx, sy]; show _ = if _ then _ else _; rw [if_neg (fun z => by rw [Bool.and_eq_true] at z; exact h301 z.2)])) (fun x h1 h2 => z2 x (by omega) h2)
                              refine T_subp (ks := [0, 1, 2, 4, 5, 6, 7]) (ls' := [(0, vr 99), (1, vj (bitsN (lsO (lz0 l ch N) st) S.m : Int)), (3, vi 1), (5, vi (fpA S (lz0 l ch N) st).2.1), (6, vi (fpA S (lz0 l ch N) st).2.2), (7, vj 0), (9, vi 0)]) rfl ?_
                              exact L271 _ W (0) (Nat.lt_succ_self _) hBW fW (by first | assumption | omega) w97 (fun x h => absurd h (Nat.not_lt_zero _)) (fun x _ hx => w160 x hx)
                            · exact absurd h259 (by decide)
                        · skip
                          refine T_il d_X11_lines_101 rfl ?_
                          refine T_k d_X11_lines_103 ?_
                          refine T_iadd d_X11_lines_104 ?_
                          refine F_isg d_X11_lines_105 (f := fun x_15 => [(0, vr 99), (1, vj (bitsN (lsO (lz0 l ch N) st) S.m : Int)), (4, vi ((fA S (lsO (lz0 l ch N) st) a).1 : Int)), (5, vi (fA S (lsO (lz0 l ch N) st) a).2.1), (6, vi (fA S (lsO (lz0 l ch N) st) a).2.2), (7, vi (a : Int)), (8, vi x_15)]) (fun _ => rfl) (fun x_15 ex_15 => ?_)
                          -- to 107 98f@107
                          have L107 : ∀ (fu : Nat) (b : Nat), S.m - b < fu → (b ≤ S.m) → (a < b) → TT G M_X11_lines (rmd 3 162 162) 162 (Zm G 162 162 (PQ [(160, 160)] [(99, 97, 97)] V R (fun o X => o = none ∧ fnM S (lz0 l ch N) X))) 162 107 [(0, vr 99), (1, vj (bitsN (lsO (lz0 l ch N) st) S.m : Int)), (4, vi ((fB S (lsO (lz0 l ch N) st) a (fA S (lsO (lz0 l ch N) st) a) b).1 : Int)), (5, vi (fB S (lsO (lz0 l ch N) st) a (fA S (lsO (lz0 l ch N) st) a) b).2.1), (6, vi (fB S (lsO (lz0 l ch N) st) a (fA S (lsO (lz0 l ch N) st) a) b).2.2), (7, vi (a : Int)), (8, vi (b : Int))] [] W R := by
                            intro fu
                            induction fu with
                            | zero => intro b hm; exact absurd hm (Nat.not_lt_zero _)
                            | succ fu ih107 =>
                              intro b hm107 hb hab
                              have pb := psO_b (fB_r (S := S) (L := lsO (lz0 l ch N) st) (a := a) (fA_r a (by omega)) (by omega) b hb)
                              have nl := nN_le (S := S) (L := lsO (lz0 l ch N) st) (a := a) (b := b)
                              refine T_il d_X11_lines_107 rfl ?_
                              refine T_al d_X11_lines_109 rfl ?_
                              refine F_gi d_X11_lines_110 rfl hBW rfl (fun b_16 => ?_)
                              rw [wm]
                              refine T_ige d_X11_lines_113 ⟨by omega, by omega⟩ ⟨by omega, by omega⟩ (fun h113 => ?_) (fun h113 => ?_)
                              · skip
                                have ebm : b = S.m := by omega
                                have efa : fB S (lsO (lz0 l ch N) st) a (fA S (lsO (lz0 l ch N) st) a) b = fA S (lsO (lz0 l ch N) st) (a + 1) := by rw [ebm]; rfl
                                rw [efa]
                                refine F_incg d_X11_lines_240 rfl (f := fun x_17 => [(0, vr 99), (1, vj (bitsN (lsO (lz0 l ch N) st) S.m : Int)), (4, vi ((fA S (lsO (lz0 l ch N) st) (a + 1)).1 : Int)), (5, vi (fA S (lsO (lz0 l ch N) st) (a + 1)).2.1), (6, vi (fA S (lsO (lz0 l ch N) st) (a + 1)).2.2), (7, vi x_17), (8, vi (b : Int))]) (fun _ => rfl) (fun x_17 ex_17 => ?_)
                                refine T_go d_X11_lines_243 ?_
                                -- to 92 113t@92
                                refine T_subp (ks := [0, 1, 2, 3, 4, 5]) (ls' := [(0, vr 99), (1, vj (bitsN (lsO (lz0 l ch N) st) S.m : Int)), (4, vi ((fA S (lsO (lz0 l ch N) st) (a + 1)).1 : Int)), (5, vi (fA S (lsO (lz0 l ch N) st) (a + 1)).2.1), (6, vi (fA S (lsO (lz0 l ch N) st) (a + 1)).2.2), (7, vi x_17)]) rfl ?_
                                obtain rfl : x_17 = ((a + 1) : Int) := by omega
                                exact ih92 (a + 1) (by omega) (by first | assumption | omega)
                              · skip
                                have wb := sMW.2 b (by omega)
                                have ob := so.2 b (by omega)
                                have db := d2_b (S := S) (s := a) (x := S.x b) (y := S.y b) so (by omega) ⟨by omega, by omega⟩ ⟨by omega, by omega⟩
                                refine T_ll d_X11_lines_116 rfl ?_
                                refine T_il d_X11_lines_117 rfl ?_
                                refine T_lshr d_X11_lines_119 ?_
                                refine T_jk d_X11_lines_120 ?_
                                refine T_land d_X11_lines_121 ?_
                                refine T_jk d_X11_lines_122 ?_
                                rw [(tb_1 (a := bitsN (lsO (lz0 l ch N) st) S.m) (s := a) (Nat.lt_trans (bits_40 hm4) (by decide)) (by omega))]
                                refine T_leq d_X11_lines_123 d_X11_lines_124 ⟨by split <;> omega, by split <;> omega⟩ ⟨by omega, by omega⟩ (fun h123 => ?_) (fun h123 => ?_)
                                · skip
                                  have n0 : nN S (lsO (lz0 l ch N) st) a b = 0 := nN_0 (fun z => by rw [bt_e (show a < S.m by omega), if_pos z.1] at h123; omega)
                                  rw [← fB_no (S := S) (L := lsO (lz0 l ch N) st) (a := a) (b := b) (st := fA S (lsO (lz0 l ch N) st) a) (by omega) (by omega)]
                                  refine F_incg d_X11_lines_234 rfl (f := fun x_18 => [(0, vr 99), (1, vj (bitsN (lsO (lz0 l ch N) st) S.m : Int)), (4, vi ((fB S (lsO (lz0 l ch N) st) a (fA S (lsO (lz0 l ch N) st) a) (b + 1)).1 : Int)), (5, vi (fB S (lsO (lz0 l ch N) st) a (fA S (lsO (lz0 l ch N) st) a) (b + 1)).2.1), (6, vi (fB S (lsO (lz0 l ch N) st) a (fA S (lsO (lz0 l ch N) st) a) (b + 1)).2.2), (7, vi (a : Int)), (8, vi x_18)]) (fun _ => rfl) (fun x_18 ex_18 => ?_)
                                  refine T_go d_X11_lines_237 ?_
                                  -- to 107 113f.123t@107
                                  obtain rfl : x_18 = ((b + 1) : Int) := by omega
                                  exact ih107 (b + 1) (by omega) (by first | assumption | omega) (by first | assumption | omega)
                                · skip
                                  refine T_ll d_X11_lines_127 rfl ?_
                                  refine T_il d_X11_lines_128 rfl ?_
                                  refine T_lshr d_X11_lines_130 ?_
                                  refine T_jk d_X11_lines_131 ?_
                                  refine T_land d_X11_lines_132 ?_
                                  refine T_jk d_X11_lines_133 ?_
                                  rw [(tb_1 (a := bitsN (lsO (lz0 l ch N) st) S.m) (s := b) (Nat.lt_trans (bits_40 hm4) (by decide)) (by omega))]
                                  refine T_leq d_X11_lines_134 d_X11_lines_135 ⟨by split <;> omega, by split <;> omega⟩ ⟨by omega, by omega⟩ (fun h134 => ?_) (fun h134 => ?_)
                                  · skip
                                    have n0 : nN S (lsO (lz0 l ch N) st) a b = 0 := nN_0 (fun z => by rw [bt_e (show b < S.m by omega), if_pos z.2.1] at h134; omega)
                                    rw [← fB_no (S := S) (L := lsO (lz0 l ch N) st) (a := a) (b := b) (st := fA S (lsO (lz0 l ch N) st) a) (by omega) (by omega)]
                                    refine F_incg d_X11_lines_234 rfl (f := fun x_19 => [(0, vr 99), (1, vj (bitsN (lsO (lz0 l ch N) st) S.m : Int)), (4, vi ((fB S (lsO (lz0 l ch N) st) a (fA S (lsO (lz0 l ch N) st) a) (b + 1)).1 : Int)), (5, vi (fB S (lsO (lz0 l ch N) st) a (fA S (lsO (lz0 l ch N) st) a) (b + 1)).2.1), (6, vi (fB S (lsO (lz0 l ch N) st) a (fA S (lsO (lz0 l ch N) st) a) (b + 1)).2.2), (7, vi (a : Int)), (8, vi x_19)]) (fun _ => rfl) (fun x_19 ex_19 => ?_)
                                    refine T_go d_X11_lines_237 ?_
                                    -- to 107 113f.123f.134t@107
                                    obtain rfl : x_19 = ((b + 1) : Int) := by omega
                                    exact ih107 (b + 1) (by omega) (by first | assumption | omega) (by first | assumption | omega)
                                  · skip
                                    refine T_al d_X11_lines_138 rfl ?_
                                    refine T_il d_X11_lines_139 rfl ?_
                                    refine T_al d_X11_lines_141 rfl ?_
                                    refine F_gr (b := 132) d_X11_lines_142 rfl hF rfl ?_
                                    refine T_il d_X11_lines_145 rfl ?_
                                    refine F_ia d_X11_lines_147 rfl hBW rfl ⟨by omega, by omega⟩ (fun b_20 => ?_)
                                    try simp only [Int.toNat_natCast]
                                    try simp only [Int.toNat_natCast] at b_20
                                    rw [wb.2.1]
                                    refine T_al d_X11_lines_148 rfl ?_
                                    refine F_gr (b := 133) d_X11_lines_149 rfl hF rfl ?_
                                    refine T_il d_X11_lines_152 rfl ?_
                                    refine F_ia d_X11_lines_154 rfl hBW rfl ⟨by omega, by omega⟩ (fun b_21 => ?_)
                                    try simp only [Int.toNat_natCast]
                                    try simp only [Int.toNat_natCast] at b_21
                                    rw [wb.2.2.1]
                                    refine C_pv3 d_X11_lines_155 rfl (hdF (by decide)) (hcF _) (R_X11_far (S := S) hBW hF sMW so ⟨by omega, by omega⟩ ⟨by omega, by omega⟩ ⟨by omega, by omega⟩) ?_
                                    rw [Int.toNat_natCast]
                                    refine T_zne d_X11_lines_158 ⟨by omega, by omega⟩ (fun h158 => ?_) (fun h158 => ?_)
                                    · skip
                                      have tA : (bitsN (lsO (lz0 l ch N) st) S.m).testBit a = true := Classical.byContradiction fun z => h123 (if_neg z)
                                      have tB : (bitsN (lsO (lz0 l ch N) st) S.m).testBit b = true := Classical.byContradiction fun z => h134 (if_neg z)
                                      rw [bt_e (show a < S.m by omega)] at tA
                                      rw [bt_e (show b < S.m by omega)] at tB
                                      have ny := nN_y (S := S) (L := lsO (lz0 l ch N) st) (a := a) (b := b) ⟨tA, tB, fun z => h158 (d2_eq0.mpr z)⟩
                                      refine T_k d_X11_lines_164 ?_
                                      refine T_is d_X11_lines_165 (ls' := [(0, vr 99), (1, vj (bitsN (lsO (lz0 l ch N) st) S.m : Int)), (4, vi ((fB S (lsO (lz0 l ch N) st) a (fA S (lsO (lz0 l ch N) st) a) b).1 : Int)), (5, vi (fB S (lsO (lz0 l ch N) st) a (fA S (lsO (lz0 l ch N) st) a) b).2.1), (6, vi (fB S (lsO (lz0 l ch N) st) a (fA S (lsO (lz0 l ch N) st) a) b).2.2), (7, vi (a : Int)), (8, vi (b : Int)), (9, vi 0)]) rfl ?_
                                      refine T_k d_X11_lines_167 ?_
                                      refine T_is d_X11_lines_168 (ls' := [(0, vr 99), (1, vj (bitsN (lsO (lz0 l ch N) st) S.m : Int)), (4, vi ((fB S (lsO (lz0 l ch N) st) a (fA S (lsO (lz0 l ch N) st) a) b).1 : Int)), (5, vi (fB S (lsO (lz0 l ch N) st) a (fA S (lsO (lz0 l ch N) st) a) b).2.1), (6, vi (fB S (lsO (lz0 l ch N) st) a (fA S (lsO (lz0 l ch N) st) a) b).2.2), (7, vi (a : Int)), (8, vi (b : Int)), (9, vi 0), (10, vi 0)]) rfl ?_
                                      -- to 170 113f.123f.134f.158t@170
                                      have L170 : ∀ (fu : Nat) (s : Nat), S.m - s < fu → (s ≤ S.m) → TT G M_X11_lines (rmd 3 162 162) 162 (Zm G 162 162 (PQ [(160, 160)] [(99, 97, 97)] V R (fun o X => o = none ∧ fnM S (lz0 l ch N) X))) 162 170 [(0, vr 99), (1, vj (bitsN (lsO (lz0 l ch N) st) S.m : Int)), (4, vi ((fB S (lsO (lz0 l ch N) st) a (fA S (lsO (lz0 l ch N) st) a) b).1 : Int)), (5, vi (fB S (lsO (lz0 l ch N) st) a (fA S (lsO (lz0 l ch N) st) a) b).2.1), (6, vi (fB S (lsO (lz0 l ch N) st) a (fA S (lsO (lz0 l ch N) st) a) b).2.2), (7, vi (a : Int)), (8, vi (b : Int)), (9, vi (cntB (fun s => lsO (lz0 l ch N) st s && bes S a b s) s : Int)), (10, vi (s : Int))] [] W R := by
                                        intro fu
                                        induction fu with
                                        | zero => intro s hm; exact absurd hm (Nat.not_lt_zero _)
                                        | succ fu ih170 =>
                                          intro s hm170 hs
                                          have cl := cntB_le (p := fun s => lsO (lz0 l ch N) st s && bes S a b s) (n := s)
                                          refine T_il d_X11_lines_170 rfl ?_
                                          refine T_al d_X11_lines_172 rfl ?_
                                          refine F_gi d_X11_lines_173 rfl hBW rfl (fun b_22 => ?_)
                                          rw [wm]
                                          refine T_ige d_X11_lines_176 ⟨by omega, by omega⟩ ⟨by omega, by omega⟩ (fun h176 => ?_) (fun h176 => ?_)
                                          · skip
                                            have es : s = S.m := by omega
                                            rw [es, ← ny]
                                            refine T_il d_X11_lines_212 rfl ?_
                                            refine T_il d_X11_lines_214 rfl ?_
                                            refine T_igt d_X11_lines_216 ⟨by omega, by omega⟩ ⟨by omega, by omega⟩ (fun h216 => ?_) (fun h216 => ?_)
                                            · skip
                                              refine T_il d_X11_lines_222 rfl ?_
                                              refine F_isg d_X11_lines_224 (f := fun x_23 => [(0, vr 99), (1, vj (bitsN (lsO (lz0 l ch N) st) S.m : Int)), (4, vi x_23), (5, vi (fB S (lsO (lz0 l ch N) st) a (fA S (lsO (lz0 l ch N) st) a) b).2.1), (6, vi (fB S (lsO (lz0 l ch N) st) a (fA S (lsO (lz0 l ch N) st) a) b).2.2), (7, vi (a : Int)), (8, vi (b : Int)), (9, vi (nN S (lsO (lz0 l ch N) st) a b : Int)), (10, vi (S.m : Int))]) (fun _ => rfl) (fun x_23 ex_23 => ?_)
                                              refine T_il d_X11_lines_226 rfl ?_
                                              refine F_isg d_X11_lines_228 (f := fun x_24 => [(0, vr 99), (1, vj (bitsN (lsO (lz0 l ch N) st) S.m : Int)), (4, vi x_23), (5, vi x_24), (6, vi (fB S (lsO (lz0 l ch N) st) a (fA S (lsO (lz0 l ch N) st) a) b).2.2), (7, vi (a : Int)), (8, vi (b : Int)), (9, vi (nN S (lsO (lz0 l ch N) st) a b : Int)), (10, vi (S.m : Int))]) (fun _ => rfl) (fun x_24 ex_24 => ?_)
                                              refine T_il d_X11_lines_230 rfl ?_
                                              refine F_isg d_X11_lines_232 (f := fun x_25 => [(0, vr 99), (1, vj (bitsN (lsO (lz0 l ch N) st) S.m : Int)), (4, vi x_23), (5, vi x_24), (6, vi x_25), (7, vi (a : Int)), (8, vi (b : Int)), (9, vi (nN S (lsO (lz0 l ch N) st) a b : Int)), (10, vi (S.m : Int))]) (fun _ => rfl) (fun x_25 ex_25 => ?_)
                                              have ey := fB_y (S := S) (L := lsO (lz0 l ch N) st) (a := a) (b := b) (st := fA S (lsO (lz0 l ch N) st) a) (by omega) (by omega)
                                              obtain rfl : x_23 = ((fB S (lsO (lz0 l ch N) st) a (fA S (lsO (lz0 l ch N) st) a) (b + 1)).1 : Int) := by rw [ex_23, ey, ny]
                                              obtain rfl : x_24 = (fB S (lsO (lz0 l ch N) st) a (fA S (lsO (lz0 l ch N) st) a) (b + 1)).2.1 := by rw [ex_24, ey]
                                              obtain rfl : x_25 = (fB S (lsO (lz0 l ch N) st) a (fA S (lsO (lz0 l ch N) st) a) (b + 1)).2.2 := by rw [ex_25, ey]
                                              refine F_incg d_X11_lines_234 rfl (f := fun x_26 => [(0, vr 99), (1, vj (bitsN (lsO (lz0 l ch N) st) S.m : Int)), (4, vi ((fB S (lsO (lz0 l ch N) st) a (fA S (lsO (lz0 l ch N) st) a) (b + 1)).1 : Int)), (5, vi (fB S (lsO (lz0 l ch N) st) a (fA S (lsO (lz0 l ch N) st) a) (b + 1)).2.1), (6, vi (fB S (lsO (lz0 l ch N) st) a (fA S (lsO (lz0 l ch N) st) a) (b + 1)).2.2), (7, vi (a : Int)), (8, vi x_26), (9, vi (nN S (lsO (lz0 l ch N) st) a b : Int)), (10, vi (S.m : Int))]) (fun _ => rfl) (fun x_26 ex_26 => ?_)
                                              refine T_go d_X11_lines_237 ?_
                                              -- to 107 176t.216t@107
                                              refine T_subp (ks := [0, 1, 2, 3, 4, 5, 6]) (ls' := [(0, vr 99), (1, vj (bitsN (lsO (lz0 l ch N) st) S.m : Int)), (4, vi ((fB S (lsO (lz0 l ch N) st) a (fA S (lsO (lz0 l ch N) st) a) (b + 1)).1 : Int)), (5, vi (fB S (lsO (lz0 l ch N) st) a (fA S (lsO (lz0 l ch N) st) a) (b + 1)).2.1), (6, vi (fB S (lsO (lz0 l ch N) st) a (fA S (lsO (lz0 l ch N) st) a) (b + 1)).2.2), (7, vi (a : Int)), (8, vi x_26)]) rfl ?_
                                              obtain rfl : x_26 = ((b + 1) : Int) := by omega
                                              exact ih107 (b + 1) (by omega) (by first | assumption | omega) (by first | assumption | omega)
                                            · skip
                                              refine T_go d_X11_lines_219 ?_
                                              rw [← fB_no (S := S) (L := lsO (lz0 l ch N) st) (a := a) (b := b) (st := fA S (lsO (lz0 l ch N) st) a) (by omega) (by omega)]
                                              refine F_incg d_X11_lines_234 rfl (f := fun x_27 => [(0, vr 99), (1, vj (bitsN (lsO (lz0 l ch N) st) S.m : Int)), (4, vi ((fB S (lsO (lz0 l ch N) st) a (fA S (lsO (lz0 l ch N) st) a) (b + 1)).1 : Int)), (5, vi (fB S (lsO (lz0 l ch N) st) a (fA S (lsO (lz0 l ch N) st) a) (b + 1)).2.1), (6, vi (fB S (lsO (lz0 l ch N) st) a (fA S (lsO (lz0 l ch N) st) a) (b + 1)).2.2), (7, vi (a : Int)), (8, vi x_27), (9, vi (nN S (lsO (lz0 l ch N) st) a b : Int)), (10, vi (S.m : Int))]) (fun _ => rfl) (fun x_27 ex_27 => ?_)
                                              refine T_go d_X11_lines_237 ?_
                                              -- to 107 176t.216f@107
                                              refine T_subp (ks := [0, 1, 2, 3, 4, 5, 6]) (ls' := [(0, vr 99), (1, vj (bitsN (lsO (lz0 l ch N) st) S.m : Int)), (4, vi ((fB S (lsO (lz0 l ch N) st) a (fA S (lsO (lz0 l ch N) st) a) (b + 1)).1 : Int)), (5, vi (fB S (lsO (lz0 l ch N) st) a (fA S (lsO (lz0 l ch N) st) a) (b + 1)).2.1), (6, vi (fB S (lsO (lz0 l ch N) st) a (fA S (lsO (lz0 l ch N) st) a) (b + 1)).2.2), (7, vi (a : Int)), (8, vi x_27)]) rfl ?_
                                              obtain rfl : x_27 = ((b + 1) : Int) := by omega
                                              exact ih107 (b + 1) (by omega) (by first | assumption | omega) (by first | assumption | omega)
                                          · skip
                                            refine T_ll d_X11_lines_179 rfl ?_
                                            refine T_il d_X11_lines_180 rfl ?_
                                            refine T_lshr d_X11_lines_182 ?_
                                            refine T_jk d_X11_lines_183 ?_
                                            refine T_land d_X11_lines_184 ?_
                                            refine T_jk d_X11_lines_185 ?_
                                            rw [(tb_1 (a := bitsN (lsO (lz0 l ch N) st) S.m) (s := s) (Nat.lt_trans (bits_40 hm4) (by decide)) (by omega))]
                                            refine T_lne d_X11_lines_186 d_X11_lines_187 ⟨by split <;> omega, by split <;> omega⟩ ⟨by omega, by omega⟩ (fun h186 => ?_) (fun h186 => ?_)
                                            · skip
                                              rw [← cntB_f (p := fun s => lsO (lz0 l ch N) st s && bes S a b s) (n := s) (fun z => by rw [Bool.and_eq_true] at z; exact h186 (if_pos (by rw [bt_e (show s < S.m by omega)]; exact z.1)))]
                                              refine F_incg d_X11_lines_206 rfl (f := fun x_28 => [(0, vr 99), (1, vj (bitsN (lsO (lz0 l ch N) st) S.m : Int)), (4, vi ((fB S (lsO (lz0 l ch N) st) a (fA S (lsO (lz0 l ch N) st) a) b).1 : Int)), (5, vi (fB S (lsO (lz0 l ch N) st) a (fA S (lsO (lz0 l ch N) st) a) b).2.1), (6, vi (fB S (lsO (lz0 l ch N) st) a (fA S (lsO (lz0 l ch N) st) a) b).2.2), (7, vi (a : Int)), (8, vi (b : Int)), (9, vi (cntB (fun s => lsO (lz0 l ch N) st s && bes S a b s) (s + 1) : Int)), (10, vi x_28)]) (fun _ => rfl) (fun x_28 ex_28 => ?_)
                                              refine T_go d_X11_lines_209 ?_
                                              -- to 170 176f.186t@170
                                              obtain rfl : x_28 = ((s + 1) : Int) := by omega
                                              exact ih170 (s + 1) (by omega) (by first | assumption | omega)
                                            · skip
                                              refine T_al d_X11_lines_190 rfl ?_
                                              refine T_il d_X11_lines_191 rfl ?_
                                              refine T_il d_X11_lines_193 rfl ?_
                                              refine T_il d_X11_lines_195 rfl ?_
                                              refine C_pv3 d_X11_lines_197 rfl (hdF (by decide)) (hcF _) (R_X11_isBeside (S := S) (a := a) (b := b) (s := s) hBW hF so sMW (by omega) (by omega) (by omega)) ?_
                                              refine T_pz0 d_X11_lines_200 (fun h200 => ?_) (fun h200 => ?_)
                                              · skip
                                                rw [← cntB_f (p := fun s => lsO (lz0 l ch N) st s && bes S a b s) (n := s) (fun z => by rw [Bool.and_eq_true] at z; exact h200 z.2)]
                                                refine F_incg d_X11_lines_206 rfl (f := fun x_29 => [(0, vr 99), (1, vj (bitsN (lsO (lz0 l ch N) st) S.m : Int)), (4, vi ((fB S (lsO (lz0 l ch N) st) a (fA S (lsO (lz0 l ch N) st) a) b).1 : Int)), (5, vi (fB S (lsO (lz0 l ch N) st) a (fA S (lsO (lz0 l ch N) st) a) b).2.1), (6, vi (fB S (lsO (lz0 l ch N) st) a (fA S (lsO (lz0 l ch N) st) a) b).2.2), (7, vi (a : Int)), (8, vi (b : Int)), (9, vi (cntB (fun s => lsO (lz0 l ch N) st s && bes S a b s) (s + 1) : Int)), (10, vi x_29)]) (fun _ => rfl) (fun x_29 ex_29 => ?_)
                                                refine T_go d_X11_lines_209 ?_
                                                -- to 170 176f.186f.200t@170
                                                obtain rfl : x_29 = ((s + 1) : Int) := by omega
                                                exact ih170 (s + 1) (by omega) (by first | assumption | omega)
                                              · skip
                                                refine F_incg d_X11_lines_203 rfl (f := fun x_30 => [(0, vr 99), (1, vj (bitsN (lsO (lz0 l ch N) st) S.m : Int)), (4, vi ((fB S (lsO (lz0 l ch N) st) a (fA S (lsO (lz0 l ch N) st) a) b).1 : Int)), (5, vi (fB S (lsO (lz0 l ch N) st) a (fA S (lsO (lz0 l ch N) st) a) b).2.1), (6, vi (fB S (lsO (lz0 l ch N) st) a (fA S (lsO (lz0 l ch N) st) a) b).2.2), (7, vi (a : Int)), (8, vi (b : Int)), (9, vi x_30), (10, vi (s : Int))]) (fun _ => rfl) (fun x_30 ex_30 => ?_)
                                                obtain rfl : x_30 = (cntB (fun s => lsO (lz0 l ch N) st s && bes S a b s) (s + 1) : Int) := by rw [ex_30, cntB_t (p := fun s => lsO (lz0 l ch N) st s && bes S a b s) (n := s) (by rw [← bt_e (p := lsO (lz0 l ch N) st) (show s < S.m by omega), Classical.byContradiction (fun z => absurd (h186.symm.trans (if_neg z)) (by decide)), h200]; rfl)]; rfl
                                                refine F_incg d_X11_lines_206 rfl (f := fun x_31 => [(0, vr 99), (1, vj (bitsN (lsO (lz0 l ch N) st) S.m : Int)), (4, vi ((fB S (lsO (lz0 l ch N) st) a (fA S (lsO (lz0 l ch N) st) a) b).1 : Int)), (5, vi (fB S (lsO (lz0 l ch N) st) a (fA S (lsO (lz0 l ch N) st) a) b).2.1), (6, vi (fB S (lsO (lz0 l ch N) st) a (fA S (lsO (lz0 l ch N) st) a) b).2.2), (7, vi (a : Int)), (8, vi (b : Int)), (9, vi (cntB (fun s => lsO (lz0 l ch N) st s && bes S a b s) (s + 1) : Int)), (10, vi x_31)]) (fun _ => rfl) (fun x_31 ex_31 => ?_)
                                                refine T_go d_X11_lines_209 ?_
                                                -- to 170 176f.186f.200f@170
                                                obtain rfl : x_31 = ((s + 1) : Int) := by omega
                                                exact ih170 (s + 1) (by omega) (by first | assumption | omega)
                                      exact L170 _ (0) (Nat.lt_succ_self _) (by first | assumption | omega)
                                    · skip
                                      refine T_go d_X11_lines_161 ?_
                                      have n0 : nN S (lsO (lz0 l ch N) st) a b = 0 := nN_0 (fun z => z.2.2 (d2_eq0.mp (by omega)))
                                      rw [← fB_no (S := S) (L := lsO (lz0 l ch N) st) (a := a) (b := b) (st := fA S (lsO (lz0 l ch N) st) a) (by omega) (by omega)]
                                      refine F_incg d_X11_lines_234 rfl (f := fun x_32 => [(0, vr 99), (1, vj (bitsN (lsO (lz0 l ch N) st) S.m : Int)), (4, vi ((fB S (lsO (lz0 l ch N) st) a (fA S (lsO (lz0 l ch N) st) a) (b + 1)).1 : Int)), (5, vi (fB S (lsO (lz0 l ch N) st) a (fA S (lsO (lz0 l ch N) st) a) (b + 1)).2.1), (6, vi (fB S (lsO (lz0 l ch N) st) a (fA S (lsO (lz0 l ch N) st) a) (b + 1)).2.2), (7, vi (a : Int)), (8, vi x_32)]) (fun _ => rfl) (fun x_32 ex_32 => ?_)
                                      refine T_go d_X11_lines_237 ?_
                                      -- to 107 113f.123f.134f.158f@107
                                      obtain rfl : x_32 = ((b + 1) : Int) := by omega
                                      exact ih107 (b + 1) (by omega) (by first | assumption | omega) (by first | assumption | omega)
                          rw [← fB_le (S := S) (L := lsO (lz0 l ch N) st) (a := a) (st := fA S (lsO (lz0 l ch N) st) a) (a + 1) (Nat.le_refl _)]
                          obtain rfl : x_15 = ((a + 1) : Int) := by omega
                          exact L107 _ (a + 1) (Nat.lt_succ_self _) (by first | assumption | omega) (by first | assumption | omega)
                    refine T_subp (ks := [0, 1, 3, 4, 5, 6]) (ls' := [(0, vr 99), (1, vj (bitsN (lsO (lz0 l ch N) st) S.m : Int)), (4, vi 3), (5, vi (-1)), (6, vi (-1)), (7, vi 0)]) rfl ?_
                    exact L92 _ (0) (Nat.lt_succ_self _) (by first | assumption | omega)
              exact L76 _ Y (0) (fnS S (lz0 l ch N) 0) (1) (Nat.lt_succ_self _) hBY fY rfl (by have := cntB_le (p := lsO (lz0 l ch N) (fnS S (lz0 l ch N) 0)) (n := S.m); omega) y97 y160 (Or.inl rfl)
            · skip
              have e147 : Y 147 h = bi (ch.testBit h) := by rw [y147]; exact hch h (by omega)
              have e145 : Y 145 h = (bL l h : Int) := by have z := lLY.2 h (by omega) 10 (by omega); have z2 := (hset h (by omega)).2; rw [show Y 145 h = l h 10 from z]; exact (Int.toNat_of_nonneg z2).symm
              have e40 := (hset h (by omega)).1
              refine T_al d_X11_lines_46 rfl ?_
              refine F_gr (b := 147) d_X11_lines_47 rfl hF rfl ?_
              refine T_il d_X11_lines_50 rfl ?_
              refine F_za d_X11_lines_51 rfl hBY rfl ⟨by omega, by omega⟩ (fun b_33 => ?_)
              try simp only [Int.toNat_natCast]
              try simp only [Int.toNat_natCast] at b_33
              rw [e147]
              refine T_zeq d_X11_lines_52 (bi_r _) (fun h52 => ?_) (fun h52 => ?_)
              · skip
                rw [show (bitsN (lz0 l ch h) S.m : Int) = (bitsN (lz0 l ch (h + 1)) S.m : Int) from by congr 1; exact bn_x (fun s _ => by rw [lz_s, bi_0.mp h52, Bool.false_and, Bool.not_false, Bool.and_true])]
                refine F_incg d_X11_lines_68 rfl (f := fun x_34 => [(0, vr 99), (1, vj (bitsN (lz0 l ch (h + 1)) S.m : Int)), (3, vi x_34)]) (fun _ => rfl) (fun x_34 ex_34 => ?_)
                refine T_go d_X11_lines_71 ?_
                -- to 38 43f.52t@38
                obtain rfl : x_34 = ((h + 1) : Int) := by omega
                exact ih38 Y (h + 1) (by omega) hBY fY (by first | assumption | omega) y97 y160
              · skip
                refine T_ll d_X11_lines_55 rfl ?_
                refine T_al d_X11_lines_56 rfl ?_
                refine F_gr (b := 145) d_X11_lines_57 rfl hF rfl ?_
                refine T_il d_X11_lines_60 rfl ?_
                refine F_la d_X11_lines_61 rfl hBY rfl ⟨by omega, by omega⟩ (fun b_35 => ?_)
                try simp only [Int.toNat_natCast]
                try simp only [Int.toNat_natCast] at b_35
                refine T_jk d_X11_lines_62 ?_
                refine T_lxor d_X11_lines_65 ?_
                refine T_land d_X11_lines_66 ?_
                refine F_lsg d_X11_lines_67 (f := fun y_36 => [(0, vr 99), (1, vj y_36), (3, vi (h : Int))]) (fun _ => rfl) (fun y_36 ey_36 => ?_)
                obtain rfl : y_36 = (bitsN (lz0 l ch (h + 1)) S.m : Int) := by rw [ey_36, e145, landnot_n (Nat.lt_trans (bits_40 hm4) (by decide)) (Nat.lt_trans e40 (by decide)), bx_not]; congr 1; exact bn_x (fun s _ => by rw [lz_s, bi_n.mp h52, Bool.true_and])
                refine F_incg d_X11_lines_68 rfl (f := fun x_37 => [(0, vr 99), (1, vj (bitsN (lz0 l ch (h + 1)) S.m : Int)), (3, vi x_37)]) (fun _ => rfl) (fun x_37 ex_37 => ?_)
                refine T_go d_X11_lines_71 ?_
                -- to 38 43f.52f@38
                obtain rfl : x_37 = ((h + 1) : Int) := by omega
                exact ih38 Y (h + 1) (by omega) hBY fY (by first | assumption | omega) y97 y160
        exact L38 _ X (0) (Nat.lt_succ_self _) hBX fX (by first | assumption | omega) x97 (fun t ht => x160 t (by omega))
      · skip
        refine T_al d_X11_lines_17 rfl ?_
        refine F_gr (b := 160) d_X11_lines_18 rfl hF rfl ?_
        refine T_il d_X11_lines_21 rfl ?_
        refine T_k d_X11_lines_22 ?_
        refine F_is d_X11_lines_23 rfl hBX rfl ⟨by omega, by omega⟩ ⟨by omega, by omega⟩ (fun V_38 eV_38 hBV_38 => ?_)
        have fV_38 := chg_u eV_38 rfl fX
        have sMV_38 := sM_c sMV fV_38 rfl
        have lLV_38 := lstV_c hL fV_38 rfl
        refine T_ll d_X11_lines_24 rfl ?_
        refine T_jk d_X11_lines_25 ?_
        refine T_il d_X11_lines_26 rfl ?_
        refine T_lshl d_X11_lines_27 ?_
        refine T_lor d_X11_lines_28 ?_
        refine F_lsg d_X11_lines_29 (f := fun y_39 => [(0, vr 99), (1, vj y_39), (3, vi (s : Int))]) (fun _ => rfl) (fun y_39 ey_39 => ?_)
        obtain rfl : y_39 = (bitsN (fun _ => true) (s + 1) : Int) := by rw [ey_39, (or_s (bits_40 (by omega)) (by omega)).1, bits_t (p := fun _ => true) rfl]
        refine F_incg d_X11_lines_30 rfl (f := fun x_40 => [(0, vr 99), (1, vj (bitsN (fun _ => true) (s + 1) : Int)), (3, vi x_40)]) (fun _ => rfl) (fun x_40 ex_40 => ?_)
        refine T_go d_X11_lines_33 ?_
        -- to 9 14f@9
        obtain rfl : x_40 = ((s + 1) : Int) := by omega
        exact ih9 V_38 (s + 1) (by omega) hBV_38 fV_38 (by first | assumption | omega) (by rw [eV_38]; exact x97) (fun t ht => by rw [eV_38, Int.toNat_natCast, uV_at]; by_cases q : t = s; exact if_pos q; (rw [if_neg q]; exact x160 t (by omega)))
  exact L9 _ V_1 (0) (Nat.lt_succ_self _) hBV_1 fV_1 (by first | assumption | omega) (by rw [eV_1]; exact uV_self) (fun t ht => absurd ht (Nat.not_lt_zero _))
