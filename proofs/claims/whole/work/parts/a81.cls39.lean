set_option maxHeartbeats 1000000 in
set_option maxRecDepth 100000 in
theorem R_X9_isNearLine {G : GG} {V : VV} {R : RR}  {S : Sp} {a b s : Nat} (hB : Bd V) (hF : FinR R) (so : sO S) (hC : sC S V) (ha : a < S.m) (hb : b < S.m) (hs : s < S.m) : RunsP G M_X9_isNearLine 1 [vr 30, vi (a:Int), vi (b:Int), vi (s:Int)] V R (vi (bi (decide (bes S a b s = true)))) := by
  unfold RunsP
  refine Runs.of pn_X9 (Nat.le_of_ble_eq_true rfl) rfl ?_
  show TT G M_X9_isNearLine (rmd 1 162 162) 162 (Zm G 162 162 (QP V R (vi (bi (decide (bes S a b s = true)))))) 162 0 [(0, vr 30), (1, vi (a:Int)), (2, vi (b:Int)), (3, vi (s:Int))] [] V R
  have hm4 := so.1
  have ca := hC.2 a ha
  have cb := hC.2 b hb
  have cs := hC.2 s hs
  have ob := crF_b so ha hb hs
  have wa := so.2 a ha
  have wb := so.2 b hb
  have ws := so.2 s hs
  refine T_al d_X9_isNearLine_0 rfl ?_
  refine F_gr (b := 44) d_X9_isNearLine_1 rfl hF rfl ?_
  refine F_gr (b := 46) d_X9_isNearLine_4 rfl hF rfl ?_
  refine T_il d_X9_isNearLine_7 rfl ?_
  refine F_ia d_X9_isNearLine_8 rfl hB rfl ⟨by omega, by omega⟩ (fun b_1 => ?_)
  try simp only [Int.toNat_natCast]
  try simp only [Int.toNat_natCast] at b_1
  rw [cb.2.1]
  refine T_al d_X9_isNearLine_9 rfl ?_
  refine F_gr (b := 44) d_X9_isNearLine_10 rfl hF rfl ?_
  refine F_gr (b := 46) d_X9_isNearLine_13 rfl hF rfl ?_
  refine T_il d_X9_isNearLine_16 rfl ?_
  refine F_ia d_X9_isNearLine_17 rfl hB rfl ⟨by omega, by omega⟩ (fun b_2 => ?_)
  try simp only [Int.toNat_natCast]
  try simp only [Int.toNat_natCast] at b_2
  rw [ca.2.1]
  refine T_isub d_X9_isNearLine_18 ?_
  refine T_i2l d_X9_isNearLine_19 ⟨by omega, by omega⟩ ?_
  refine F_lsg d_X9_isNearLine_20 (f := fun y_3 => [(0, vr 30), (1, vi (a:Int)), (2, vi (b:Int)), (3, vi (s:Int)), (4, vj y_3)]) (fun _ => rfl) (fun y_3 ey_3 => ?_)
  obtain rfl : y_3 = S.x b - S.x a := ey_3
  refine T_al d_X9_isNearLine_22 rfl ?_
  refine F_gr (b := 44) d_X9_isNearLine_23 rfl hF rfl ?_
  refine F_gr (b := 47) d_X9_isNearLine_26 rfl hF rfl ?_
  refine T_il d_X9_isNearLine_29 rfl ?_
  refine F_ia d_X9_isNearLine_30 rfl hB rfl ⟨by omega, by omega⟩ (fun b_4 => ?_)
  try simp only [Int.toNat_natCast]
  try simp only [Int.toNat_natCast] at b_4
  rw [cb.2.2.1]
  refine T_al d_X9_isNearLine_31 rfl ?_
  refine F_gr (b := 44) d_X9_isNearLine_32 rfl hF rfl ?_
  refine F_gr (b := 47) d_X9_isNearLine_35 rfl hF rfl ?_
  refine T_il d_X9_isNearLine_38 rfl ?_
  refine F_ia d_X9_isNearLine_39 rfl hB rfl ⟨by omega, by omega⟩ (fun b_5 => ?_)
  try simp only [Int.toNat_natCast]
  try simp only [Int.toNat_natCast] at b_5
  rw [ca.2.2.1]
  refine T_isub d_X9_isNearLine_40 ?_
  refine T_i2l d_X9_isNearLine_41 ⟨by omega, by omega⟩ ?_
  refine F_lsg d_X9_isNearLine_42 (f := fun y_6 => [(0, vr 30), (1, vi (a:Int)), (2, vi (b:Int)), (3, vi (s:Int)), (4, vj (S.x b - S.x a)), (6, vj y_6)]) (fun _ => rfl) (fun y_6 ey_6 => ?_)
  obtain rfl : y_6 = S.y b - S.y a := ey_6
  refine T_ll d_X9_isNearLine_44 rfl ?_
  refine T_al d_X9_isNearLine_46 rfl ?_
  refine F_gr (b := 44) d_X9_isNearLine_47 rfl hF rfl ?_
  refine F_gr (b := 47) d_X9_isNearLine_50 rfl hF rfl ?_
  refine T_il d_X9_isNearLine_53 rfl ?_
  refine F_ia d_X9_isNearLine_54 rfl hB rfl ⟨by omega, by omega⟩ (fun b_7 => ?_)
  try simp only [Int.toNat_natCast]
  try simp only [Int.toNat_natCast] at b_7
  rw [cs.2.2.1]
  refine T_al d_X9_isNearLine_55 rfl ?_
  refine F_gr (b := 44) d_X9_isNearLine_56 rfl hF rfl ?_
  refine F_gr (b := 47) d_X9_isNearLine_59 rfl hF rfl ?_
  refine T_il d_X9_isNearLine_62 rfl ?_
  refine F_ia d_X9_isNearLine_63 rfl hB rfl ⟨by omega, by omega⟩ (fun b_8 => ?_)
  try simp only [Int.toNat_natCast]
  try simp only [Int.toNat_natCast] at b_8
  rw [ca.2.2.1]
  refine T_isub d_X9_isNearLine_64 ?_
  refine T_i2l d_X9_isNearLine_65 ⟨by omega, by omega⟩ ?_
  refine T_lmul d_X9_isNearLine_66 ?_
  refine T_ll d_X9_isNearLine_67 rfl ?_
  refine T_al d_X9_isNearLine_69 rfl ?_
  refine F_gr (b := 44) d_X9_isNearLine_70 rfl hF rfl ?_
  refine F_gr (b := 46) d_X9_isNearLine_73 rfl hF rfl ?_
  refine T_il d_X9_isNearLine_76 rfl ?_
  refine F_ia d_X9_isNearLine_77 rfl hB rfl ⟨by omega, by omega⟩ (fun b_9 => ?_)
  try simp only [Int.toNat_natCast]
  try simp only [Int.toNat_natCast] at b_9
  rw [cs.2.1]
  refine T_al d_X9_isNearLine_78 rfl ?_
  refine F_gr (b := 44) d_X9_isNearLine_79 rfl hF rfl ?_
  refine F_gr (b := 46) d_X9_isNearLine_82 rfl hF rfl ?_
  refine T_il d_X9_isNearLine_85 rfl ?_
  refine F_ia d_X9_isNearLine_86 rfl hB rfl ⟨by omega, by omega⟩ (fun b_10 => ?_)
  try simp only [Int.toNat_natCast]
  try simp only [Int.toNat_natCast] at b_10
  rw [ca.2.1]
  refine T_isub d_X9_isNearLine_87 ?_
  refine T_i2l d_X9_isNearLine_88 ⟨by omega, by omega⟩ ?_
  refine T_lmul d_X9_isNearLine_89 ?_
  refine T_lsub d_X9_isNearLine_90 ?_
  refine F_lsg d_X9_isNearLine_91 (f := fun y_11 => [(0, vr 30), (1, vi (a:Int)), (2, vi (b:Int)), (3, vi (s:Int)), (4, vj (S.x b - S.x a)), (6, vj (S.y b - S.y a)), (8, vj y_11)]) (fun _ => rfl) (fun y_11 ey_11 => ?_)
  obtain rfl : y_11 = crF S a b s := ey_11
  refine T_ll d_X9_isNearLine_93 rfl ?_
  refine T_ll d_X9_isNearLine_95 rfl ?_
  refine T_lmul d_X9_isNearLine_97 ?_
  refine T_jk d_X9_isNearLine_98 ?_
  refine T_ll d_X9_isNearLine_101 rfl ?_
  refine T_ll d_X9_isNearLine_103 rfl ?_
  refine T_lmul d_X9_isNearLine_105 ?_
  refine T_ll d_X9_isNearLine_106 rfl ?_
  refine T_ll d_X9_isNearLine_108 rfl ?_
  refine T_lmul d_X9_isNearLine_110 ?_
  refine T_ladd d_X9_isNearLine_111 ?_
  refine T_lmul d_X9_isNearLine_112 ?_
  refine T_lgt d_X9_isNearLine_113 d_X9_isNearLine_114 ⟨by omega, by omega⟩ ⟨by omega, by omega⟩ (fun h113 => ?_) (fun h113 => ?_)
  · skip
    refine T_k d_X9_isNearLine_121 ?_
    -- leaf 113t@122
    exact P_F d_X9_isNearLine_122 (by intro z; have := of_decide_eq_true z; omega)
  · skip
    refine T_k d_X9_isNearLine_117 ?_
    refine T_go d_X9_isNearLine_118 ?_
    -- leaf 113f@122
    exact P_T d_X9_isNearLine_122 (by exact decide_eq_true (by omega))
set_option maxHeartbeats 1000000 in
set_option maxRecDepth 100000 in
theorem R_X9_isLoose {G : GG} {V : VV} {R : RR}  {S : Sp} {L0 : Nat → Bool} {st : FS} {s : Nat} (hB : Bd V) (hF : FinR R) (so : sO S) (hC : sC S V) (hh58 : ∀ s, s < S.m → (V 58 (S.h s).toNat = -1 ↔ L0 s = true)) (hs : s < S.m) (hh33 : V 33 (S.h s).toNat = st.2 s) : RunsP G M_X9_isLoose 1 [vr 30, vi (s:Int)] V R (vi (bi (decide (lsO L0 st s = true)))) := by
  unfold RunsP
  refine Runs.of pn_X9 (Nat.le_of_ble_eq_true rfl) rfl ?_
  show TT G M_X9_isLoose (rmd 1 162 162) 162 (Zm G 162 162 (QP V R (vi (bi (decide (lsO L0 st s = true)))))) 162 0 [(0, vr 30), (1, vi (s:Int))] [] V R
  have hm4 := so.1
  have cs := hC.2 s hs
  have ws := so.2 s hs
  have e58 := hh58 s hs
  have e33 := hh33
  refine T_al d_X9_isLoose_0 rfl ?_
  refine F_gr (b := 44) d_X9_isLoose_1 rfl hF rfl ?_
  refine F_gr (b := 45) d_X9_isLoose_4 rfl hF rfl ?_
  refine T_il d_X9_isLoose_7 rfl ?_
  refine F_ia d_X9_isLoose_8 rfl hB rfl ⟨by omega, by omega⟩ (fun b_1 => ?_)
  try simp only [Int.toNat_natCast]
  try simp only [Int.toNat_natCast] at b_1
  refine F_isg d_X9_isLoose_9 (f := fun x_2 => [(0, vr 30), (1, vi (s:Int)), (2, vi x_2)]) (fun _ => rfl) (fun x_2 ex_2 => ?_)
  obtain rfl : x_2 = S.h s := ex_2.trans cs.1
  refine T_al d_X9_isLoose_10 rfl ?_
  refine F_gr (b := 56) d_X9_isLoose_11 rfl hF rfl ?_
  refine F_gr (b := 58) d_X9_isLoose_14 rfl hF rfl ?_
  refine T_il d_X9_isLoose_17 rfl ?_
  refine F_ia d_X9_isLoose_18 rfl hB rfl ⟨by omega, by omega⟩ (fun b_3 => ?_)
  try simp only [Int.toNat_natCast]
  try simp only [Int.toNat_natCast] at b_3
  refine T_k d_X9_isLoose_19 ?_
  refine T_ine d_X9_isLoose_20 ⟨by omega, by omega⟩ ⟨by omega, by omega⟩ (fun h20 => ?_) (fun h20 => ?_)
  · skip
    refine T_k d_X9_isLoose_37 ?_
    -- leaf 20t@38
    exact P_F d_X9_isLoose_38 (by intro z; unfold lsO at z; rw [Bool.and_eq_true] at z; exact h20 (e58.mpr z.1))
  · skip
    refine T_al d_X9_isLoose_23 rfl ?_
    refine F_gr (b := 33) d_X9_isLoose_24 rfl hF rfl ?_
    refine T_il d_X9_isLoose_27 rfl ?_
    refine F_ia d_X9_isLoose_28 rfl hB rfl ⟨by omega, by omega⟩ (fun b_4 => ?_)
    try simp only [Int.toNat_natCast]
    try simp only [Int.toNat_natCast] at b_4
    refine T_k d_X9_isLoose_29 ?_
    rw [e33]
    refine T_ine d_X9_isLoose_30 ⟨by have := hB.1 33 (-1) 40 rfl (S.h s).toNat; omega, by have := hB.1 33 (-1) 40 rfl (S.h s).toNat; omega⟩ ⟨by have := hB.1 33 (-1) 40 rfl (S.h s).toNat; omega, by have := hB.1 33 (-1) 40 rfl (S.h s).toNat; omega⟩ (fun h30 => ?_) (fun h30 => ?_)
    · skip
      refine T_k d_X9_isLoose_37 ?_
      -- leaf 20f.30t@38
      exact P_F d_X9_isLoose_38 (by intro z; unfold lsO at z; rw [Bool.and_eq_true] at z; exact h30 (of_decide_eq_true z.2))
    · skip
      refine T_k d_X9_isLoose_33 ?_
      refine T_go d_X9_isLoose_34 ?_
      -- leaf 20f.30f@38
      exact P_T d_X9_isLoose_38 (by unfold lsO; rw [Bool.and_eq_true]; exact ⟨e58.mp (by omega), decide_eq_true (by omega)⟩)
set_option maxHeartbeats 1000000 in
set_option maxRecDepth 100000 in
theorem R_X9_countNear {G : GG} {V : VV} {R : RR}  {S : Sp} {L0 : Nat → Bool} {st : FS} {a b : Nat} (hB : Bd V) (hF : FinR R) (so : sO S) (hC : sC S V) (hh58 : ∀ s, s < S.m → (V 58 (S.h s).toNat = -1 ↔ L0 s = true)) (hh33 : ∀ s, s < S.m → V 33 (S.h s).toNat = st.2 s) (ha : a < S.m) (hb : b < S.m) : RunsP G M_X9_countNear 2 [vr 30, vi (a:Int), vi (b:Int)] V R (vi (if S.x a = S.x b ∧ S.y a = S.y b then 0 else (cntB (fun s => lsO L0 st s && bes S a b s) S.m : Int))) := by
  unfold RunsP
  refine Runs.of pn_X9 (Nat.le_of_ble_eq_true rfl) rfl ?_
  show TT G M_X9_countNear (rmd 2 162 162) 162 (Zm G 162 162 (QP V R (vi (if S.x a = S.x b ∧ S.y a = S.y b then 0 else (cntB (fun s => lsO L0 st s && bes S a b s) S.m : Int))))) 162 0 [(0, vr 30), (1, vi (a:Int)), (2, vi (b:Int))] [] V R
  have hm4 := so.1
  have ca := hC.2 a ha
  have cb := hC.2 b hb
  have wa := so.2 a ha
  have wb := so.2 b hb
  have cm := hC.1
  refine T_al d_X9_countNear_0 rfl ?_
  refine F_gr (b := 44) d_X9_countNear_1 rfl hF rfl ?_
  refine F_gr (b := 46) d_X9_countNear_4 rfl hF rfl ?_
  refine T_il d_X9_countNear_7 rfl ?_
  refine F_ia d_X9_countNear_8 rfl hB rfl ⟨by omega, by omega⟩ (fun b_1 => ?_)
  try simp only [Int.toNat_natCast]
  try simp only [Int.toNat_natCast] at b_1
  rw [ca.2.1]
  refine T_al d_X9_countNear_9 rfl ?_
  refine F_gr (b := 44) d_X9_countNear_10 rfl hF rfl ?_
  refine F_gr (b := 46) d_X9_countNear_13 rfl hF rfl ?_
  refine T_il d_X9_countNear_16 rfl ?_
  refine F_ia d_X9_countNear_17 rfl hB rfl ⟨by omega, by omega⟩ (fun b_2 => ?_)
  try simp only [Int.toNat_natCast]
  try simp only [Int.toNat_natCast] at b_2
  rw [cb.2.1]
  refine T_ine d_X9_countNear_18 ⟨by omega, by omega⟩ ⟨by omega, by omega⟩ (fun h18 => ?_) (fun h18 => ?_)
  · skip
    have nx : ¬ (S.x a = S.x b ∧ S.y a = S.y b) := by omega
    refine T_k d_X9_countNear_44 ?_
    refine T_is d_X9_countNear_45 (ls' := [(0, vr 30), (1, vi (a:Int)), (2, vi (b:Int)), (3, vi 0)]) rfl ?_
    refine T_k d_X9_countNear_46 ?_
    refine T_is d_X9_countNear_47 (ls' := [(0, vr 30), (1, vi (a:Int)), (2, vi (b:Int)), (3, vi 0), (4, vi 0)]) rfl ?_
    -- to 49 18t@49
    have L49 : ∀ (fu : Nat) (s : Nat), S.m - s < fu → (s ≤ S.m) → TT G M_X9_countNear (rmd 2 162 162) 162 (Zm G 162 162 (QP V R (vi (if S.x a = S.x b ∧ S.y a = S.y b then 0 else (cntB (fun s => lsO L0 st s && bes S a b s) S.m : Int))))) 162 49 [(0, vr 30), (1, vi (a:Int)), (2, vi (b:Int)), (3, vi (cntB (fun s => lsO L0 st s && bes S a b s) s : Int)), (4, vi (s : Int))] [] V R := by
      intro fu
      induction fu with
      | zero => intro s hm; exact absurd hm (Nat.not_lt_zero _)
      | succ fu ih49 =>
        intro s hm49 hs
        have cl := cntB_le (p := fun s => lsO L0 st s && bes S a b s) (n := s)
        refine T_il d_X9_countNear_49 rfl ?_
        refine T_al d_X9_countNear_51 rfl ?_
        refine F_gr (b := 44) d_X9_countNear_52 rfl hF rfl ?_
        refine F_gi d_X9_countNear_55 rfl hB rfl (fun b_3 => ?_)
        rw [cm]
        refine T_ige d_X9_countNear_58 ⟨by omega, by omega⟩ ⟨by omega, by omega⟩ (fun h58 => ?_) (fun h58 => ?_)
        · skip
          refine T_il d_X9_countNear_90 rfl ?_
          -- leaf 58t@91
          exact P_I d_X9_countNear_91 (by rw [if_neg nx, show s = S.m by omega])
        · skip
          refine T_al d_X9_countNear_61 rfl ?_
          refine T_il d_X9_countNear_62 rfl ?_
          refine C_pv1 d_X9_countNear_64 rfl (hdF (by decide)) (hcF _) (R_X9_isLoose (S := S) (L0 := L0) (st := st) (s := s) hB hF so hC hh58 (by omega) (hh33 _ (by omega))) ?_
          refine T_pz0 d_X9_countNear_67 (fun h67 => ?_) (fun h67 => ?_)
          · skip
            rw [← cntB_f (p := fun s => lsO L0 st s && bes S a b s) (n := s) (fun z => by rw [Bool.and_eq_true] at z; exact h67 z.1)]
            refine F_incg d_X9_countNear_84 rfl (f := fun x_4 => [(0, vr 30), (1, vi (a:Int)), (2, vi (b:Int)), (3, vi (cntB (fun s => lsO L0 st s && bes S a b s) (s + 1) : Int)), (4, vi x_4)]) (fun _ => rfl) (fun x_4 ex_4 => ?_)
            refine T_go d_X9_countNear_87 ?_
            -- to 49 58f.67t@49
            obtain rfl : x_4 = ((s + 1) : Int) := by omega
            exact ih49 (s + 1) (by omega) (by first | assumption | omega)
          · skip
            refine T_al d_X9_countNear_70 rfl ?_
            refine T_il d_X9_countNear_71 rfl ?_
            refine T_il d_X9_countNear_72 rfl ?_
            refine T_il d_X9_countNear_73 rfl ?_
            refine C_pv3 d_X9_countNear_75 rfl (hdF (by decide)) (hcF _) (R_X9_isNearLine (S := S) (a := a) (b := b) (s := s) hB hF so hC (by omega) (by omega) (by omega)) ?_
            refine T_pz0 d_X9_countNear_78 (fun h78 => ?_) (fun h78 => ?_)
            · skip
              rw [← cntB_f (p := fun s => lsO L0 st s && bes S a b s) (n := s) (fun z => by rw [Bool.and_eq_true] at z; exact h78 z.2)]
              refine F_incg d_X9_countNear_84 rfl (f := fun x_5 => [(0, vr 30), (1, vi (a:Int)), (2, vi (b:Int)), (3, vi (cntB (fun s => lsO L0 st s && bes S a b s) (s + 1) : Int)), (4, vi x_5)]) (fun _ => rfl) (fun x_5 ex_5 => ?_)
              refine T_go d_X9_countNear_87 ?_
              -- to 49 58f.67f.78t@49
              obtain rfl : x_5 = ((s + 1) : Int) := by omega
              exact ih49 (s + 1) (by omega) (by first | assumption | omega)
            · skip
              refine F_incg d_X9_countNear_81 rfl (f := fun x_6 => [(0, vr 30), (1, vi (a:Int)), (2, vi (b:Int)), (3, vi x_6), (4, vi (s : Int))]) (fun _ => rfl) (fun x_6 ex_6 => ?_)
              obtain rfl : x_6 = (cntB (fun s => lsO L0 st s && bes S a b s) (s + 1) : Int) := by rw [ex_6, cntB_t (p := fun s => lsO L0 st s && bes S a b s) (n := s) (by rw [h67, h78]; rfl)]; rfl
              refine F_incg d_X9_countNear_84 rfl (f := fun x_7 => [(0, vr 30), (1, vi (a:Int)), (2, vi (b:Int)), (3, vi (cntB (fun s => lsO L0 st s && bes S a b s) (s + 1) : Int)), (4, vi x_7)]) (fun _ => rfl) (fun x_7 ex_7 => ?_)
              refine T_go d_X9_countNear_87 ?_
              -- to 49 58f.67f.78f@49
              obtain rfl : x_7 = ((s + 1) : Int) := by omega
              exact ih49 (s + 1) (by omega) (by first | assumption | omega)
    exact L49 _ (0) (Nat.lt_succ_self _) (by first | assumption | omega)
  · skip
    refine T_al d_X9_countNear_21 rfl ?_
    refine F_gr (b := 44) d_X9_countNear_22 rfl hF rfl ?_
    refine F_gr (b := 47) d_X9_countNear_25 rfl hF rfl ?_
    refine T_il d_X9_countNear_28 rfl ?_
    refine F_ia d_X9_countNear_29 rfl hB rfl ⟨by omega, by omega⟩ (fun b_8 => ?_)
    try simp only [Int.toNat_natCast]
    try simp only [Int.toNat_natCast] at b_8
    rw [ca.2.2.1]
    refine T_al d_X9_countNear_30 rfl ?_
    refine F_gr (b := 44) d_X9_countNear_31 rfl hF rfl ?_
    refine F_gr (b := 47) d_X9_countNear_34 rfl hF rfl ?_
    refine T_il d_X9_countNear_37 rfl ?_
    refine F_ia d_X9_countNear_38 rfl hB rfl ⟨by omega, by omega⟩ (fun b_9 => ?_)
    try simp only [Int.toNat_natCast]
    try simp only [Int.toNat_natCast] at b_9
    rw [cb.2.2.1]
    refine T_ine d_X9_countNear_39 ⟨by omega, by omega⟩ ⟨by omega, by omega⟩ (fun h39 => ?_) (fun h39 => ?_)
    · skip
      have nx : ¬ (S.x a = S.x b ∧ S.y a = S.y b) := by omega
      refine T_k d_X9_countNear_44 ?_
      refine T_is d_X9_countNear_45 (ls' := [(0, vr 30), (1, vi (a:Int)), (2, vi (b:Int)), (3, vi 0)]) rfl ?_
      refine T_k d_X9_countNear_46 ?_
      refine T_is d_X9_countNear_47 (ls' := [(0, vr 30), (1, vi (a:Int)), (2, vi (b:Int)), (3, vi 0), (4, vi 0)]) rfl ?_
      -- to 49 18f.39t@49
      have L49 : ∀ (fu : Nat) (s : Nat), S.m - s < fu → (s ≤ S.m) → TT G M_X9_countNear (rmd 2 162 162) 162 (Zm G 162 162 (QP V R (vi (if S.x a = S.x b ∧ S.y a = S.y b then 0 else (cntB (fun s => lsO L0 st s && bes S a b s) S.m : Int))))) 162 49 [(0, vr 30), (1, vi (a:Int)), (2, vi (b:Int)), (3, vi (cntB (fun s => lsO L0 st s && bes S a b s) s : Int)), (4, vi (s : Int))] [] V R := by
        intro fu
        induction fu with
        | zero => intro s hm; exact absurd hm (Nat.not_lt_zero _)
        | succ fu ih49 =>
          intro s hm49 hs
          have cl := cntB_le (p := fun s => lsO L0 st s && bes S a b s) (n := s)
          refine T_il d_X9_countNear_49 rfl ?_
          refine T_al d_X9_countNear_51 rfl ?_
          refine F_gr (b := 44) d_X9_countNear_52 rfl hF rfl ?_
          refine F_gi d_X9_countNear_55 rfl hB rfl (fun b_10 => ?_)
          rw [cm]
          refine T_ige d_X9_countNear_58 ⟨by omega, by omega⟩ ⟨by omega, by omega⟩ (fun h58 => ?_) (fun h58 => ?_)
          · skip
            refine T_il d_X9_countNear_90 rfl ?_
            -- leaf 58t@91
            exact P_I d_X9_countNear_91 (by rw [if_neg nx, show s = S.m by omega])
          · skip
            refine T_al d_X9_countNear_61 rfl ?_
            refine T_il d_X9_countNear_62 rfl ?_
            refine C_pv1 d_X9_countNear_64 rfl (hdF (by decide)) (hcF _) (R_X9_isLoose (S := S) (L0 := L0) (st := st) (s := s) hB hF so hC hh58 (by omega) (hh33 _ (by omega))) ?_
            refine T_pz0 d_X9_countNear_67 (fun h67 => ?_) (fun h67 => ?_)
            · skip
              rw [← cntB_f (p := fun s => lsO L0 st s && bes S a b s) (n := s) (fun z => by rw [Bool.and_eq_true] at z; exact h67 z.1)]
              refine F_incg d_X9_countNear_84 rfl (f := fun x_11 => [(0, vr 30), (1, vi (a:Int)), (2, vi (b:Int)), (3, vi (cntB (fun s => lsO L0 st s && bes S a b s) (s + 1) : Int)), (4, vi x_11)]) (fun _ => rfl) (fun x_11 ex_11 => ?_)
              refine T_go d_X9_countNear_87 ?_
              -- to 49 58f.67t@49
              obtain rfl : x_11 = ((s + 1) : Int) := by omega
              exact ih49 (s + 1) (by omega) (by first | assumption | omega)
            · skip
              refine T_al d_X9_countNear_70 rfl ?_
              refine T_il d_X9_countNear_71 rfl ?_
              refine T_il d_X9_countNear_72 rfl ?_
              refine T_il d_X9_countNear_73 rfl ?_
              refine C_pv3 d_X9_countNear_75 rfl (hdF (by decide)) (hcF _) (R_X9_isNearLine (S := S) (a := a) (b := b) (s := s) hB hF so hC (by omega) (by omega) (by omega)) ?_
              refine T_pz0 d_X9_countNear_78 (fun h78 => ?_) (fun h78 => ?_)
              · skip
                rw [← cntB_f (p := fun s => lsO L0 st s && bes S a b s) (n := s) (fun z => by rw [Bool.and_eq_true] at z; exact h78 z.2)]
                refine F_incg d_X9_countNear_84 rfl (f := fun x_12 => [(0, vr 30), (1, vi (a:Int)), (2, vi (b:Int)), (3, vi (cntB (fun s => lsO L0 st s && bes S a b s) (s + 1) : Int)), (4, vi x_12)]) (fun _ => rfl) (fun x_12 ex_12 => ?_)
                refine T_go d_X9_countNear_87 ?_
                -- to 49 58f.67f.78t@49
                obtain rfl : x_12 = ((s + 1) : Int) := by omega
                exact ih49 (s + 1) (by omega) (by first | assumption | omega)
              · skip
                refine F_incg d_X9_countNear_81 rfl (f := fun x_13 => [(0, vr 30), (1, vi (a:Int)), (2, vi (b:Int)), (3, vi x_13), (4, vi (s : Int))]) (fun _ => rfl) (fun x_13 ex_13 => ?_)
                obtain rfl : x_13 = (cntB (fun s => lsO L0 st s && bes S a b s) (s + 1) : Int) := by rw [ex_13, cntB_t (p := fun s => lsO L0 st s && bes S a b s) (n := s) (by rw [h67, h78]; rfl)]; rfl
                refine F_incg d_X9_countNear_84 rfl (f := fun x_14 => [(0, vr 30), (1, vi (a:Int)), (2, vi (b:Int)), (3, vi (cntB (fun s => lsO L0 st s && bes S a b s) (s + 1) : Int)), (4, vi x_14)]) (fun _ => rfl) (fun x_14 ex_14 => ?_)
                refine T_go d_X9_countNear_87 ?_
                -- to 49 58f.67f.78f@49
                obtain rfl : x_14 = ((s + 1) : Int) := by omega
                exact ih49 (s + 1) (by omega) (by first | assumption | omega)
      exact L49 _ (0) (Nat.lt_succ_self _) (by first | assumption | omega)
    · skip
      refine T_k d_X9_countNear_42 ?_
      -- leaf 18f.39f@43
      exact P_I d_X9_countNear_43 (by rw [if_pos ⟨by omega, by omega⟩])
set_option maxHeartbeats 1000000 in
set_option maxRecDepth 100000 in
theorem R_X9_setFence {G : GG} {V : VV} {R : RR}  {S : Sp} {L0 : Nat → Bool} {st : FS} (hB : Bd V) (hF : FinR R) (so : sO S) (hC : sC S V) (hh58 : ∀ s, s < S.m → (V 58 (S.h s).toNat = -1 ↔ L0 s = true)) (hh33 : ∀ s, s < S.m → V 33 (S.h s).toNat = st.2 s) (hc : V 30 12 = (st.1 : Int)) (hc4 : st.1 < 40) : Runs G M_X9_setFence 3 162 162 [vr 30] V R (PQ [(33, 33)] [] V R (fun o X => o = some (vi (bi (decide ((fpA S L0 st).2.1 ≠ -1)))) ∧ ∀ s, s < S.m → X 33 (S.h s).toNat = (stF S L0 st).2 s)) := by
  refine Runs.of pn_X9 (Nat.le_of_ble_eq_true rfl) rfl ?_
  show TT G M_X9_setFence (rmd 3 162 162) 162 (Zm G 162 162 (PQ [(33, 33)] [] V R (fun o X => o = some (vi (bi (decide ((fpA S L0 st).2.1 ≠ -1)))) ∧ ∀ s, s < S.m → X 33 (S.h s).toNat = (stF S L0 st).2 s))) 162 0 [(0, vr 30)] [] V R
  have fV : chg [(33, 33)] [] V V := chg_r
  have hm4 := so.1
  have cm := hC.1
  refine T_k d_X9_setFence_0 ?_
  refine T_is d_X9_setFence_1 (ls' := [(0, vr 30), (1, vi 3)]) rfl ?_
  refine T_k d_X9_setFence_2 ?_
  refine T_is d_X9_setFence_3 (ls' := [(0, vr 30), (1, vi 3), (2, vi (-1))]) rfl ?_
  refine T_k d_X9_setFence_4 ?_
  refine T_is d_X9_setFence_5 (ls' := [(0, vr 30), (1, vi 3), (2, vi (-1)), (3, vi (-1))]) rfl ?_
  refine T_k d_X9_setFence_6 ?_
  refine T_is d_X9_setFence_7 (ls' := [(0, vr 30), (1, vi 3), (2, vi (-1)), (3, vi (-1)), (4, vi 0)]) rfl ?_
  -- to 9 @9
  have L9 : ∀ (fu : Nat) (a : Nat), S.m - a < fu → (a ≤ S.m) → TT G M_X9_setFence (rmd 3 162 162) 162 (Zm G 162 162 (PQ [(33, 33)] [] V R (fun o X => o = some (vi (bi (decide ((fpA S L0 st).2.1 ≠ -1)))) ∧ ∀ s, s < S.m → X 33 (S.h s).toNat = (stF S L0 st).2 s))) 162 9 [(0, vr 30), (1, vi ((fA S (lsO L0 st) a).1 : Int)), (2, vi (fA S (lsO L0 st) a).2.1), (3, vi (fA S (lsO L0 st) a).2.2), (4, vi (a : Int))] [] V R := by
    intro fu
    induction fu with
    | zero => intro a hm; exact absurd hm (Nat.not_lt_zero _)
    | succ fu ih9 =>
      intro a hm9 ha
      refine T_il d_X9_setFence_9 rfl ?_
      refine T_al d_X9_setFence_11 rfl ?_
      refine F_gr (b := 44) d_X9_setFence_12 rfl hF rfl ?_
      refine F_gi d_X9_setFence_15 rfl hB rfl (fun b_1 => ?_)
      rw [cm]
      refine T_ige d_X9_setFence_18 ⟨by omega, by omega⟩ ⟨by omega, by omega⟩ (fun h18 => ?_) (fun h18 => ?_)
      · skip
        have eam : a = S.m := by omega
        rw [eam]
        have pb := psO_b (fA_r (S := S) (L := lsO L0 st) S.m (Nat.le_refl _))
        have pb2 : (-1 ≤ (fpA S L0 st).2.1 ∧ (fpA S L0 st).2.1 < (S.m : Int)) ∧ (-1 ≤ (fpA S L0 st).2.2 ∧ (fpA S L0 st).2.2 < (S.m : Int)) ∧ ((fpA S L0 st).2.1 = -1 ↔ (fpA S L0 st).2.2 = -1) := pb.2.2
        refine T_k d_X9_setFence_98 ?_
        refine T_is d_X9_setFence_99 (ls' := [(0, vr 30), (1, vi ((fpA S L0 st).1 : Int)), (2, vi (fpA S L0 st).2.1), (3, vi (fpA S L0 st).2.2), (4, vi 0)]) rfl ?_
        -- to 101 18t@101
        have L101 : ∀ (fu : Nat) (Y : VV) (s : Nat), S.m - s < fu → (Bd Y) → (chg [(33, 33)] [] V Y) → (s ≤ S.m) → (∀ x, x < s → x < S.m → Y 33 (S.h x).toNat = (stF S L0 st).2 x) → (∀ x, s ≤ x → x < S.m → Y 33 (S.h x).toNat = st.2 x) → TT G M_X9_setFence (rmd 3 162 162) 162 (Zm G 162 162 (PQ [(33, 33)] [] V R (fun o X => o = some (vi (bi (decide ((fpA S L0 st).2.1 ≠ -1)))) ∧ ∀ s, s < S.m → X 33 (S.h s).toNat = (stF S L0 st).2 s))) 162 101 [(0, vr 30), (2, vi (fpA S L0 st).2.1), (3, vi (fpA S L0 st).2.2), (4, vi (s : Int))] [] Y R := by
          intro fu
          induction fu with
          | zero => intro Y s hm; exact absurd hm (Nat.not_lt_zero _)
          | succ fu ih101 =>
            intro Y s hm101 hBY fY hs y1 y2
            have hCY : sC S Y := sC_c hC fY rfl
            have y58 := chg_k (c := 58) fY rfl
            have y12 : Y 30 12 = (st.1 : Int) := (fY 30 12 rfl rfl).trans hc
            refine T_il d_X9_setFence_101 rfl ?_
            refine T_al d_X9_setFence_103 rfl ?_
            refine F_gr (b := 44) d_X9_setFence_104 rfl hF rfl ?_
            refine F_gi d_X9_setFence_107 rfl hBY rfl (fun b_2 => ?_)
            rw [hCY.1]
            refine T_ige d_X9_setFence_110 ⟨by omega, by omega⟩ ⟨by omega, by omega⟩ (fun h110 => ?_) (fun h110 => ?_)
            · skip
              refine T_il d_X9_setFence_168 rfl ?_
              refine T_k d_X9_setFence_169 ?_
              refine T_ieq d_X9_setFence_170 ⟨by omega, by omega⟩ ⟨by omega, by omega⟩ (fun h170 => ?_) (fun h170 => ?_)
              · skip
                refine T_k d_X9_setFence_177 ?_
                -- leaf 110t.170t@178
                refine T_zret0 d_X9_setFence_178 rfl ?_
                exact ⟨rfl, hBY, fY, by rw [decide_eq_false (by omega)], fun x hx => y1 x (by omega) hx⟩
              · skip
                refine T_k d_X9_setFence_173 ?_
                refine T_go d_X9_setFence_174 ?_
                -- leaf 110t.170f@178
                refine T_zret1 d_X9_setFence_178 rfl ?_
                exact ⟨rfl, hBY, fY, by rw [decide_eq_true (by omega)], fun x hx => y1 x (by omega) hx⟩
            · skip
              refine T_il d_X9_setFence_113 rfl ?_
              refine T_k d_X9_setFence_114 ?_
              refine T_ieq d_X9_setFence_115 ⟨by omega, by omega⟩ ⟨by omega, by omega⟩ (fun h115 => ?_) (fun h115 => ?_)
              · skip
                refine T_il d_X9_setFence_168 rfl ?_
                refine T_k d_X9_setFence_169 ?_
                refine T_ieq d_X9_setFence_170 ⟨by omega, by omega⟩ ⟨by omega, by omega⟩ (fun h170 => ?_) (fun h170 => ?_)
                · skip
                  refine T_k d_X9_setFence_177 ?_
                  -- leaf 110f.115t.170t@178
                  refine T_zret0 d_X9_setFence_178 rfl ?_
                  exact ⟨rfl, hBY, fY, by rw [decide_eq_false (by omega)], fun x hx => (Nat.lt_or_ge x s).elim (fun z => y1 x z hx) (fun z => by rw [y2 x z hx, stF_no (by omega)])⟩
                · omega
              · skip
                refine T_il d_X9_setFence_118 rfl ?_
                refine T_k d_X9_setFence_119 ?_
                refine T_ieq d_X9_setFence_120 ⟨by omega, by omega⟩ ⟨by omega, by omega⟩ (fun h120 => ?_) (fun h120 => ?_)
                · exact absurd (pb2.2.2.mpr h120) h115
                · skip
                  have nA : (fpA S L0 st).2.1 = (((fpA S L0 st).2.1.toNat : Nat) : Int) := by omega
                  have nB : (fpA S L0 st).2.2 = (((fpA S L0 st).2.2.toNat : Nat) : Int) := by omega
                  have cs := hCY.2 s (by omega)
                  have ws := so.2 s (by omega)
                  have sy := stF_y (S := S) (L0 := L0) (st := st) (by omega)
                  have nlA := R_X9_isNearLine (G := G) (S := S) (a := (fpA S L0 st).2.1.toNat) (b := (fpA S L0 st).2.2.toNat) (s := s) hBY hF so hCY (by omega) (by omega) (by omega)
                  rw [← nA, ← nB] at nlA
                  refine T_al d_X9_setFence_123 rfl ?_
                  refine T_il d_X9_setFence_124 rfl ?_
                  refine C_pv1 d_X9_setFence_126 rfl (hdF (by decide)) (hcF _) (R_X9_isLoose (S := S) (L0 := L0) (st := st) (s := s) hBY hF so hCY (fun x hx => by rw [y58]; exact hh58 x hx) (by omega) (y2 s (Nat.le_refl _) (by omega))) ?_
                  refine T_pz0 d_X9_setFence_129 (fun h129 => ?_) (fun h129 => ?_)
                  · skip
                    refine F_incg d_X9_setFence_162 rfl (f := fun x_3 => [(0, vr 30), (2, vi (fpA S L0 st).2.1), (3, vi (fpA S L0 st).2.2), (4, vi x_3)]) (fun _ => rfl) (fun x_3 ex_3 => ?_)
                    refine T_go d_X9_setFence_165 ?_
                    -- to 101 110f.115f.120f.129t@101
                    obtain rfl : x_3 = ((s + 1) : Int) := by omega
                    exact ih101 Y (s + 1) (by omega) hBY fY (by first | assumption | omega) (up_all2 y1 (fun hx => by rw [y2 s (Nat.le_refl _) hx, sy]; show _ = if _ then _ else _; rw [if_neg (fun z => by rw [Bool.and_eq_true] at z; exact h129 z.1)])) (fun x h1 h2 => y2 x (by omega) h2)
                  · skip
                    refine T_al d_X9_setFence_132 rfl ?_
                    refine T_il d_X9_setFence_133 rfl ?_
                    refine T_il d_X9_setFence_134 rfl ?_
                    refine T_il d_X9_setFence_135 rfl ?_
                    refine C_pv3 d_X9_setFence_137 rfl (hdF (by decide)) (hcF _) nlA ?_
                    refine T_pz0 d_X9_setFence_140 (fun h140 => ?_) (fun h140 => ?_)
                    · skip
                      refine F_incg d_X9_setFence_162 rfl (f := fun x_4 => [(0, vr 30), (2, vi (fpA S L0 st).2.1), (3, vi (fpA S L0 st).2.2), (4, vi x_4)]) (fun _ => rfl) (fun x_4 ex_4 => ?_)
                      refine T_go d_X9_setFence_165 ?_
                      -- to 101 110f.115f.120f.129f.140t@101
                      obtain rfl : x_4 = ((s + 1) : Int) := by omega
                      exact ih101 Y (s + 1) (by omega) hBY fY (by first | assumption | omega) (up_all2 y1 (fun hx => by rw [y2 s (Nat.le_refl _) hx, sy]; show _ = if _ then _ else _; rw [if_neg (fun z => by rw [Bool.and_eq_true] at z; exact h140 z.2)])) (fun x h1 h2 => y2 x (by omega) h2)
                    · skip
                      refine T_al d_X9_setFence_143 rfl ?_
                      refine F_gr (b := 33) d_X9_setFence_144 rfl hF rfl ?_
                      refine T_al d_X9_setFence_147 rfl ?_
                      refine F_gr (b := 44) d_X9_setFence_148 rfl hF rfl ?_
                      refine F_gr (b := 45) d_X9_setFence_151 rfl hF rfl ?_
                      refine T_il d_X9_setFence_154 rfl ?_
                      refine F_ia d_X9_setFence_156 rfl hBY rfl ⟨by omega, by omega⟩ (fun b_5 => ?_)
                      try simp only [Int.toNat_natCast]
                      try simp only [Int.toNat_natCast] at b_5
                      rw [cs.1]
                      refine T_al d_X9_setFence_157 rfl ?_
                      refine F_gi d_X9_setFence_158 rfl hBY rfl (fun b_6 => ?_)
                      rw [y12]
                      refine F_is d_X9_setFence_161 rfl hBY rfl ⟨by omega, by omega⟩ ⟨by omega, by omega⟩ (fun V_7 eV_7 hBV_7 => ?_)
                      have fV_7 := chg_u eV_7 rfl fY
                      refine F_incg d_X9_setFence_162 rfl (f := fun x_8 => [(0, vr 30), (2, vi (fpA S L0 st).2.1), (3, vi (fpA S L0 st).2.2), (4, vi x_8)]) (fun _ => rfl) (fun x_8 ex_8 => ?_)
                      refine T_go d_X9_setFence_165 ?_
                      -- to 101 110f.115f.120f.129f.140f@101
                      obtain rfl : x_8 = ((s + 1) : Int) := by omega
                      exact ih101 V_7 (s + 1) (by omega) hBV_7 fV_7 (by first | assumption | omega) (fun x h1 h2 => by rw [eV_7, uV_at]; by_cases q : (S.h x).toNat = (S.h s).toNat; (rw [if_pos q, h_inj so h2 (by omega) q, sy]; show _ = if _ then _ else _; rw [if_pos (by rw [h129, h140]; rfl)]); (rw [if_neg q]; exact y1 x ((Nat.lt_or_ge x s).elim id (fun z => absurd (show (S.h x).toNat = (S.h s).toNat by rw [show x = s by omega]) q)) h2)) (fun x h1 h2 => by rw [eV_7, uV_at, if_neg (fun q => by have := h_inj so h2 (by omega) q; omega)]; exact y2 x (by omega) h2)
        refine T_subp (ks := [0, 2, 3, 4]) (ls' := [(0, vr 30), (2, vi (fpA S L0 st).2.1), (3, vi (fpA S L0 st).2.2), (4, vi 0)]) rfl ?_
        exact L101 _ V (0) (Nat.lt_succ_self _) hB fV (by first | assumption | omega) (fun x h => absurd h (Nat.not_lt_zero _)) (fun x _ hx => hh33 x hx)
      · skip
        refine T_il d_X9_setFence_21 rfl ?_
        refine T_k d_X9_setFence_23 ?_
        refine T_iadd d_X9_setFence_24 ?_
        refine F_isg d_X9_setFence_25 (f := fun x_9 => [(0, vr 30), (1, vi ((fA S (lsO L0 st) a).1 : Int)), (2, vi (fA S (lsO L0 st) a).2.1), (3, vi (fA S (lsO L0 st) a).2.2), (4, vi (a : Int)), (5, vi x_9)]) (fun _ => rfl) (fun x_9 ex_9 => ?_)
        -- to 27 18f@27
        have L27 : ∀ (fu : Nat) (b : Nat), S.m - b < fu → (b ≤ S.m) → (a < b) → TT G M_X9_setFence (rmd 3 162 162) 162 (Zm G 162 162 (PQ [(33, 33)] [] V R (fun o X => o = some (vi (bi (decide ((fpA S L0 st).2.1 ≠ -1)))) ∧ ∀ s, s < S.m → X 33 (S.h s).toNat = (stF S L0 st).2 s))) 162 27 [(0, vr 30), (1, vi ((fB S (lsO L0 st) a (fA S (lsO L0 st) a) b).1 : Int)), (2, vi (fB S (lsO L0 st) a (fA S (lsO L0 st) a) b).2.1), (3, vi (fB S (lsO L0 st) a (fA S (lsO L0 st) a) b).2.2), (4, vi (a : Int)), (5, vi (b : Int))] [] V R := by
          intro fu
          induction fu with
          | zero => intro b hm; exact absurd hm (Nat.not_lt_zero _)
          | succ fu ih27 =>
            intro b hm27 hb hab
            have pb := psO_b (fB_r (S := S) (L := lsO L0 st) (a := a) (fA_r a (by omega)) (by omega) b hb)
            have nl := nN_le (S := S) (L := lsO L0 st) (a := a) (b := b)
            refine T_il d_X9_setFence_27 rfl ?_
            refine T_al d_X9_setFence_29 rfl ?_
            refine F_gr (b := 44) d_X9_setFence_30 rfl hF rfl ?_
            refine F_gi d_X9_setFence_33 rfl hB rfl (fun b_10 => ?_)
            rw [cm]
            refine T_ige d_X9_setFence_36 ⟨by omega, by omega⟩ ⟨by omega, by omega⟩ (fun h36 => ?_) (fun h36 => ?_)
            · skip
              have ebm : b = S.m := by omega
              have efa : fB S (lsO L0 st) a (fA S (lsO L0 st) a) b = fA S (lsO L0 st) (a + 1) := by rw [ebm]; rfl
              rw [efa]
              refine F_incg d_X9_setFence_92 rfl (f := fun x_11 => [(0, vr 30), (1, vi ((fA S (lsO L0 st) (a + 1)).1 : Int)), (2, vi (fA S (lsO L0 st) (a + 1)).2.1), (3, vi (fA S (lsO L0 st) (a + 1)).2.2), (4, vi x_11), (5, vi (b : Int))]) (fun _ => rfl) (fun x_11 ex_11 => ?_)
              refine T_go d_X9_setFence_95 ?_
              -- to 9 36t@9
              refine T_subp (ks := [0, 1, 2, 3, 4]) (ls' := [(0, vr 30), (1, vi ((fA S (lsO L0 st) (a + 1)).1 : Int)), (2, vi (fA S (lsO L0 st) (a + 1)).2.1), (3, vi (fA S (lsO L0 st) (a + 1)).2.2), (4, vi x_11)]) rfl ?_
              obtain rfl : x_11 = ((a + 1) : Int) := by omega
              exact ih9 (a + 1) (by omega) (by first | assumption | omega)
            · skip
              refine T_al d_X9_setFence_39 rfl ?_
              refine T_il d_X9_setFence_40 rfl ?_
              refine C_pv1 d_X9_setFence_42 rfl (hdF (by decide)) (hcF _) (R_X9_isLoose (S := S) (L0 := L0) (st := st) (s := a) hB hF so hC hh58 (by omega) (hh33 _ (by omega))) ?_
              refine T_pz0 d_X9_setFence_45 (fun h45 => ?_) (fun h45 => ?_)
              · skip
                refine T_k d_X9_setFence_68 ?_
                refine T_is d_X9_setFence_69 (ls' := [(0, vr 30), (1, vi ((fB S (lsO L0 st) a (fA S (lsO L0 st) a) b).1 : Int)), (2, vi (fB S (lsO L0 st) a (fA S (lsO L0 st) a) b).2.1), (3, vi (fB S (lsO L0 st) a (fA S (lsO L0 st) a) b).2.2), (4, vi (a : Int)), (5, vi (b : Int)), (6, vi 0)]) rfl ?_
                have e0 : nN S (lsO L0 st) a b = 0 := nN_0 (fun z => h45 z.1)
                refine T_il d_X9_setFence_71 rfl ?_
                refine T_il d_X9_setFence_73 rfl ?_
                refine T_ile d_X9_setFence_74 ⟨by omega, by omega⟩ ⟨by omega, by omega⟩ (fun h74 => ?_) (fun h74 => ?_)
                · skip
                  rw [← fB_no (S := S) (L := lsO L0 st) (a := a) (b := b) (st := fA S (lsO L0 st) a) (by omega) (by omega)]
                  refine F_incg d_X9_setFence_86 rfl (f := fun x_12 => [(0, vr 30), (1, vi ((fB S (lsO L0 st) a (fA S (lsO L0 st) a) (b + 1)).1 : Int)), (2, vi (fB S (lsO L0 st) a (fA S (lsO L0 st) a) (b + 1)).2.1), (3, vi (fB S (lsO L0 st) a (fA S (lsO L0 st) a) (b + 1)).2.2), (4, vi (a : Int)), (5, vi x_12), (6, vi 0)]) (fun _ => rfl) (fun x_12 ex_12 => ?_)
                  refine T_go d_X9_setFence_89 ?_
                  -- to 27 36f.45t.74t@27
                  refine T_subp (ks := [0, 1, 2, 3, 4, 5]) (ls' := [(0, vr 30), (1, vi ((fB S (lsO L0 st) a (fA S (lsO L0 st) a) (b + 1)).1 : Int)), (2, vi (fB S (lsO L0 st) a (fA S (lsO L0 st) a) (b + 1)).2.1), (3, vi (fB S (lsO L0 st) a (fA S (lsO L0 st) a) (b + 1)).2.2), (4, vi (a : Int)), (5, vi x_12)]) rfl ?_
                  obtain rfl : x_12 = ((b + 1) : Int) := by omega
                  exact ih27 (b + 1) (by omega) (by first | assumption | omega) (by first | assumption | omega)
                · omega
              · skip
                refine T_al d_X9_setFence_48 rfl ?_
                refine T_il d_X9_setFence_49 rfl ?_
                refine C_pv1 d_X9_setFence_51 rfl (hdF (by decide)) (hcF _) (R_X9_isLoose (S := S) (L0 := L0) (st := st) (s := b) hB hF so hC hh58 (by omega) (hh33 _ (by omega))) ?_
                refine T_pz0 d_X9_setFence_54 (fun h54 => ?_) (fun h54 => ?_)
                · skip
                  refine T_k d_X9_setFence_68 ?_
                  refine T_is d_X9_setFence_69 (ls' := [(0, vr 30), (1, vi ((fB S (lsO L0 st) a (fA S (lsO L0 st) a) b).1 : Int)), (2, vi (fB S (lsO L0 st) a (fA S (lsO L0 st) a) b).2.1), (3, vi (fB S (lsO L0 st) a (fA S (lsO L0 st) a) b).2.2), (4, vi (a : Int)), (5, vi (b : Int)), (6, vi 0)]) rfl ?_
                  have e0 : nN S (lsO L0 st) a b = 0 := nN_0 (fun z => h54 z.2.1)
                  refine T_il d_X9_setFence_71 rfl ?_
                  refine T_il d_X9_setFence_73 rfl ?_
                  refine T_ile d_X9_setFence_74 ⟨by omega, by omega⟩ ⟨by omega, by omega⟩ (fun h74 => ?_) (fun h74 => ?_)
                  · skip
                    rw [← fB_no (S := S) (L := lsO L0 st) (a := a) (b := b) (st := fA S (lsO L0 st) a) (by omega) (by omega)]
                    refine F_incg d_X9_setFence_86 rfl (f := fun x_13 => [(0, vr 30), (1, vi ((fB S (lsO L0 st) a (fA S (lsO L0 st) a) (b + 1)).1 : Int)), (2, vi (fB S (lsO L0 st) a (fA S (lsO L0 st) a) (b + 1)).2.1), (3, vi (fB S (lsO L0 st) a (fA S (lsO L0 st) a) (b + 1)).2.2), (4, vi (a : Int)), (5, vi x_13), (6, vi 0)]) (fun _ => rfl) (fun x_13 ex_13 => ?_)
                    refine T_go d_X9_setFence_89 ?_
                    -- to 27 36f.45f.54t.74t@27
                    refine T_subp (ks := [0, 1, 2, 3, 4, 5]) (ls' := [(0, vr 30), (1, vi ((fB S (lsO L0 st) a (fA S (lsO L0 st) a) (b + 1)).1 : Int)), (2, vi (fB S (lsO L0 st) a (fA S (lsO L0 st) a) (b + 1)).2.1), (3, vi (fB S (lsO L0 st) a (fA S (lsO L0 st) a) (b + 1)).2.2), (4, vi (a : Int)), (5, vi x_13)]) rfl ?_
                    obtain rfl : x_13 = ((b + 1) : Int) := by omega
                    exact ih27 (b + 1) (by omega) (by first | assumption | omega) (by first | assumption | omega)
                  · omega
                · skip
                  refine T_al d_X9_setFence_57 rfl ?_
                  refine T_il d_X9_setFence_58 rfl ?_
                  refine T_il d_X9_setFence_60 rfl ?_
                  refine C_pv2 d_X9_setFence_62 rfl (hdF (by decide)) (hcF _) (R_X9_countNear (S := S) (L0 := L0) (st := st) (a := a) (b := b) hB hF so hC hh58 hh33 (by omega) (by omega)) ?_
                  refine T_go d_X9_setFence_65 ?_
                  refine F_isg d_X9_setFence_69 (f := fun x_14 => [(0, vr 30), (1, vi ((fB S (lsO L0 st) a (fA S (lsO L0 st) a) b).1 : Int)), (2, vi (fB S (lsO L0 st) a (fA S (lsO L0 st) a) b).2.1), (3, vi (fB S (lsO L0 st) a (fA S (lsO L0 st) a) b).2.2), (4, vi (a : Int)), (5, vi (b : Int)), (6, vi x_14)]) (fun _ => rfl) (fun x_14 ex_14 => ?_)
                  obtain rfl : x_14 = (nN S (lsO L0 st) a b : Int) := by rw [ex_14, nN_ct h45 h54]
                  refine T_il d_X9_setFence_71 rfl ?_
                  refine T_il d_X9_setFence_73 rfl ?_
                  refine T_ile d_X9_setFence_74 ⟨by omega, by omega⟩ ⟨by omega, by omega⟩ (fun h74 => ?_) (fun h74 => ?_)
                  · skip
                    rw [← fB_no (S := S) (L := lsO L0 st) (a := a) (b := b) (st := fA S (lsO L0 st) a) (by omega) (by omega)]
                    refine F_incg d_X9_setFence_86 rfl (f := fun x_15 => [(0, vr 30), (1, vi ((fB S (lsO L0 st) a (fA S (lsO L0 st) a) (b + 1)).1 : Int)), (2, vi (fB S (lsO L0 st) a (fA S (lsO L0 st) a) (b + 1)).2.1), (3, vi (fB S (lsO L0 st) a (fA S (lsO L0 st) a) (b + 1)).2.2), (4, vi (a : Int)), (5, vi x_15), (6, vi (nN S (lsO L0 st) a b : Int))]) (fun _ => rfl) (fun x_15 ex_15 => ?_)
                    refine T_go d_X9_setFence_89 ?_
                    -- to 27 36f.45f.54f.74t@27
                    refine T_subp (ks := [0, 1, 2, 3, 4, 5]) (ls' := [(0, vr 30), (1, vi ((fB S (lsO L0 st) a (fA S (lsO L0 st) a) (b + 1)).1 : Int)), (2, vi (fB S (lsO L0 st) a (fA S (lsO L0 st) a) (b + 1)).2.1), (3, vi (fB S (lsO L0 st) a (fA S (lsO L0 st) a) (b + 1)).2.2), (4, vi (a : Int)), (5, vi x_15)]) rfl ?_
                    obtain rfl : x_15 = ((b + 1) : Int) := by omega
                    exact ih27 (b + 1) (by omega) (by first | assumption | omega) (by first | assumption | omega)
                  · skip
                    refine T_il d_X9_setFence_77 rfl ?_
                    refine F_isg d_X9_setFence_79 (f := fun x_16 => [(0, vr 30), (1, vi x_16), (2, vi (fB S (lsO L0 st) a (fA S (lsO L0 st) a) b).2.1), (3, vi (fB S (lsO L0 st) a (fA S (lsO L0 st) a) b).2.2), (4, vi (a : Int)), (5, vi (b : Int)), (6, vi (nN S (lsO L0 st) a b : Int))]) (fun _ => rfl) (fun x_16 ex_16 => ?_)
                    refine T_il d_X9_setFence_80 rfl ?_
                    refine F_isg d_X9_setFence_82 (f := fun x_17 => [(0, vr 30), (1, vi x_16), (2, vi x_17), (3, vi (fB S (lsO L0 st) a (fA S (lsO L0 st) a) b).2.2), (4, vi (a : Int)), (5, vi (b : Int)), (6, vi (nN S (lsO L0 st) a b : Int))]) (fun _ => rfl) (fun x_17 ex_17 => ?_)
                    refine T_il d_X9_setFence_83 rfl ?_
                    refine F_isg d_X9_setFence_85 (f := fun x_18 => [(0, vr 30), (1, vi x_16), (2, vi x_17), (3, vi x_18), (4, vi (a : Int)), (5, vi (b : Int)), (6, vi (nN S (lsO L0 st) a b : Int))]) (fun _ => rfl) (fun x_18 ex_18 => ?_)
                    have ey := (fB_y (S := S) (L := lsO L0 st) (a := a) (b := b) (st := fA S (lsO L0 st) a) (by omega) (by omega))
                    obtain rfl : x_16 = ((fB S (lsO L0 st) a (fA S (lsO L0 st) a) (b + 1)).1 : Int) := by rw [ex_16, ey]
                    obtain rfl : x_17 = (fB S (lsO L0 st) a (fA S (lsO L0 st) a) (b + 1)).2.1 := by rw [ex_17, ey]
                    obtain rfl : x_18 = (fB S (lsO L0 st) a (fA S (lsO L0 st) a) (b + 1)).2.2 := by rw [ex_18, ey]
                    refine F_incg d_X9_setFence_86 rfl (f := fun x_19 => [(0, vr 30), (1, vi ((fB S (lsO L0 st) a (fA S (lsO L0 st) a) (b + 1)).1 : Int)), (2, vi (fB S (lsO L0 st) a (fA S (lsO L0 st) a) (b + 1)).2.1), (3, vi (fB S (lsO L0 st) a (fA S (lsO L0 st) a) (b + 1)).2.2), (4, vi (a : Int)), (5, vi x_19), (6, vi (nN S (lsO L0 st) a b : Int))]) (fun _ => rfl) (fun x_19 ex_19 => ?_)
                    refine T_go d_X9_setFence_89 ?_
                    -- to 27 36f.45f.54f.74f@27
                    refine T_subp (ks := [0, 1, 2, 3, 4, 5]) (ls' := [(0, vr 30), (1, vi ((fB S (lsO L0 st) a (fA S (lsO L0 st) a) (b + 1)).1 : Int)), (2, vi (fB S (lsO L0 st) a (fA S (lsO L0 st) a) (b + 1)).2.1), (3, vi (fB S (lsO L0 st) a (fA S (lsO L0 st) a) (b + 1)).2.2), (4, vi (a : Int)), (5, vi x_19)]) rfl ?_
                    obtain rfl : x_19 = ((b + 1) : Int) := by omega
                    exact ih27 (b + 1) (by omega) (by first | assumption | omega) (by first | assumption | omega)
        rw [← fB_le (S := S) (L := lsO L0 st) (a := a) (st := fA S (lsO L0 st) a) (a + 1) (Nat.le_refl _)]
        obtain rfl : x_9 = ((a + 1) : Int) := by omega
        exact L27 _ (a + 1) (Nat.lt_succ_self _) (by first | assumption | omega) (by first | assumption | omega)
  exact L9 _ (0) (Nat.lt_succ_self _) (by first | assumption | omega)
set_option maxHeartbeats 1000000 in
set_option maxRecDepth 100000 in
theorem R_X9_setFences {G : GG} {V : VV} {R : RR}  {S : Sp} {L0 : Nat → Bool} (hB : Bd V) (hF : FinR R) (so : sO S) (hC : sC S V) (hh58 : ∀ s, s < S.m → (V 58 (S.h s).toNat = -1 ↔ L0 s = true)) (hfd : V 30 13 = 1 → fnC S L0 V) : Runs G M_X9_setFences 4 162 162 [vr 30] V R (PQ [(33, 33)] [(30, 12, 13)] V R (fun o X => o = none ∧ X 30 13 = 1 ∧ fnC S L0 X)) := by
  refine Runs.of pn_X9 (Nat.le_of_ble_eq_true rfl) rfl ?_
  show TT G M_X9_setFences (rmd 4 162 162) 162 (Zm G 162 162 (PQ [(33, 33)] [(30, 12, 13)] V R (fun o X => o = none ∧ X 30 13 = 1 ∧ fnC S L0 X))) 162 0 [(0, vr 30)] [] V R
  have fV : chg [(33, 33)] [(30, 12, 13)] V V := chg_r
  have b13 := hB.2 30 9 13 0 1 rfl rfl
  refine T_al d_X9_setFences_0 rfl ?_
  refine F_gi d_X9_setFences_1 rfl hB rfl (fun b_1 => ?_)
  refine T_zeq d_X9_setFences_4 ⟨by omega, by omega⟩ (fun h4 => ?_) (fun h4 => ?_)
  · skip
    refine T_al d_X9_setFences_8 rfl ?_
    refine T_k d_X9_setFences_9 ?_
    refine F_pz d_X9_setFences_10 rfl hB rfl ⟨by omega, by omega⟩ (fun V_2 eV_2 hBV_2 => ?_)
    have fV_2 := chg_u eV_2 rfl fV
    have a13 : V_2 30 13 = 1 := by rw [eV_2]; exact uV_self
    refine T_al d_X9_setFences_13 rfl ?_
    refine F_gr (b := 33) d_X9_setFences_14 rfl hF rfl ?_
    refine T_k d_X9_setFences_17 ?_
    refine C_s2 d_X9_setFences_18 (hdF (by decide)) (hcF _) (R_fill_33 (v := -1) hBV_2 hF ⟨by omega, by omega⟩) (fun r_3 V_4 R_5 qV_4 => ?_)
    obtain ⟨rfl, hBV_4, cV_4, rfl, pV_4⟩ := qV_4
    have fV_4 := chg_t (A := [(33, 33)]) (F := [(30, 12, 13)]) fV_2 cV_4 rfl
    have c13 : V_4 30 13 = 1 := (cV_4 30 13 rfl rfl).trans a13
    have p33 := pV_4
    refine T_al d_X9_setFences_21 rfl ?_
    refine T_k d_X9_setFences_22 ?_
    refine F_pi d_X9_setFences_23 rfl hBV_4 rfl ⟨by omega, by omega⟩ (fun V_6 eV_6 hBV_6 => ?_)
    have fV_6 := chg_u eV_6 rfl fV_4
    refine T_k d_X9_setFences_26 ?_
    refine T_is d_X9_setFences_27 (ls' := [(0, vr 30), (1, vi 0)]) rfl ?_
    -- to 28 4t@28
    have L28 : ∀ (fu : Nat) (X : VV) (r : Nat), 40 - r < fu → (Bd X) → (chg [(33, 33)] [(30, 12, 13)] V X) → (r ≤ 40) → (X 30 13 = 1) → (X 30 12 = ((fnS S L0 r).1 : Int)) → (∀ s, s < S.m → X 33 (S.h s).toNat = (fnS S L0 r).2 s) → TT G M_X9_setFences (rmd 4 162 162) 162 (Zm G 162 162 (PQ [(33, 33)] [(30, 12, 13)] V R (fun o X => o = none ∧ X 30 13 = 1 ∧ fnC S L0 X))) 162 28 [(0, vr 30), (1, vi (r : Int))] [] X R := by
      intro fu
      induction fu with
      | zero => intro X r hm; exact absurd hm (Nat.not_lt_zero _)
      | succ fu ih28 =>
        intro X r hm28 hBX fX hr x13 x12 x33
        have fl := fn_le (S := S) (L0 := L0) r
        refine T_il d_X9_setFences_28 rfl ?_
        refine T_k d_X9_setFences_29 ?_
        refine T_ige d_X9_setFences_31 ⟨by omega, by omega⟩ ⟨by omega, by omega⟩ (fun h31 => ?_) (fun h31 => ?_)
        · skip
          -- leaf 31t@57
          refine T_vret d_X9_setFences_57 rfl ?_
          have er : r = 40 := by omega
          rw [er] at x12 x33
          exact ⟨rfl, hBX, fX, rfl, x13, x12, x33⟩
        · skip
          refine T_al d_X9_setFences_34 rfl ?_
          refine C_v0 d_X9_setFences_35 rfl (hdF (by decide)) (hcF _) (R_X9_setFence (S := S) (L0 := L0) (st := fnS S L0 r) hBX hF so (sC_c hC fX rfl) (fun s hs => by rw [chg_k (c := 58) fX rfl]; exact hh58 s hs) x33 x12 (by omega)) (fun r_7 V_8 R_9 qV_8 => ?_)
          obtain ⟨rfl, hBV_8, cV_8, rfl, pV_8⟩ := qV_8
          have fV_8 := chg_t (A := [(33, 33)]) (F := [(30, 12, 13)]) fX cV_8 rfl
          have s12 : V_8 30 12 = ((fnS S L0 r).1 : Int) := (cV_8 30 12 rfl rfl).trans x12
          have s13 : V_8 30 13 = 1 := (cV_8 30 13 rfl rfl).trans x13
          have q33 := pV_8
          refine T_pz0 d_X9_setFences_38 (fun h38 => ?_) (fun h38 => ?_)
          · skip
            -- leaf 31f.38t@57
            refine T_vret d_X9_setFences_57 rfl ?_
            have e1 : (fpA S L0 (fnS S L0 r)).2.1 = -1 := Classical.byContradiction h38
            have e4 := fn_40 e1 hr
            exact ⟨rfl, hBV_8, fV_8, rfl, s13, by rw [e4]; exact s12, fun s hs => by rw [e4, q33 s hs, stF_no e1]⟩
          · skip
            have sy := stF_y (S := S) (L0 := L0) (st := fnS S L0 r) h38
            have s1 : (fnS S L0 (r + 1)).1 = (fnS S L0 r).1 + 1 := by show (stF S L0 (fnS S L0 r)).1 = _; rw [sy]
            refine T_al d_X9_setFences_41 rfl ?_
            refine T_dup d_X9_setFences_42 rfl ?_
            refine F_gi d_X9_setFences_43 rfl hBV_8 rfl (fun b_10 => ?_)
            rw [s12]
            refine T_k d_X9_setFences_46 ?_
            refine T_iadd d_X9_setFences_47 ?_
            refine F_pi d_X9_setFences_48 rfl hBV_8 rfl ⟨by omega, by omega⟩ (fun V_11 eV_11 hBV_11 => ?_)
            have fV_11 := chg_u eV_11 rfl fV_8
            refine F_incg d_X9_setFences_51 rfl (f := fun x_12 => [(0, vr 30), (1, vi x_12)]) (fun _ => rfl) (fun x_12 ex_12 => ?_)
            refine T_go d_X9_setFences_54 ?_
            -- to 28 31f.38f@28
            obtain rfl : x_12 = ((r + 1) : Int) := by omega
            exact ih28 V_11 (r + 1) (by omega) hBV_11 fV_11 (by first | assumption | omega) (by rw [eV_11]; exact s13) (by rw [eV_11, s1]; exact uV_self) (fun s hs => by rw [eV_11, uV_ne (fun z => absurd z.1 (by decide))]; exact q33 s hs)
    exact L28 _ V_6 (0) (Nat.lt_succ_self _) hBV_6 fV_6 (by first | assumption | omega) (by rw [eV_6]; exact c13) (by rw [eV_6]; exact uV_self) (fun s hs => by rw [eV_6, uV_cell (by decide)]; exact p33 _ (by have := (so.2 s hs).2.2.2.1; omega))
  · skip
    -- leaf 4f@7
    refine T_vret d_X9_setFences_7 rfl ?_
    exact ⟨rfl, hB, fV, rfl, by omega, hfd (by omega)⟩
