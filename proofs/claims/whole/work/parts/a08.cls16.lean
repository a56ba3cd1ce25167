set_option maxHeartbeats 1000000 in
set_option maxRecDepth 100000 in
theorem R_X1_setStep {G : GG} {V : VV} {R : RR}  {S : Sp} {K : Kd} {ka : Nat} {p q : Nat} (hB : Bd V) (hF : FinR R) (hka : R 52 3 = some ka) (hla : lay ka = (1, 20)) (hba : arB ka = some (-1, 500)) (h19 : 19 ≤ ka ∧ ka ≤ 23) (kCV : kC K ka V) (ko : kO K) (mCV : mapC S V) (so : sO S) (hp : p < S.m) (hq : q < S.m) : Runs G M_X1_setStep 2 162 162 [vr 52, vi (p:Int), vi (q:Int)] V R (PQ [] [(55, 1, 2), (55, 4, 7)] V R (fun o X => o = some (vi (bi (decide (stpP S K p q)))) ∧ X 55 1 = S.h p ∧ X 55 2 = S.h q ∧ X 55 4 = S.x p ∧ X 55 5 = S.y p ∧ X 55 6 = S.x q - S.x p ∧ X 55 7 = S.y q - S.y p)) := by
  refine Runs.of pn_X1 (Nat.le_of_ble_eq_true rfl) rfl ?_
  show TT G M_X1_setStep (rmd 2 162 162) 162 (Zm G 162 162 (PQ [] [(55, 1, 2), (55, 4, 7)] V R (fun o X => o = some (vi (bi (decide (stpP S K p q)))) ∧ X 55 1 = S.h p ∧ X 55 2 = S.h q ∧ X 55 4 = S.x p ∧ X 55 5 = S.y p ∧ X 55 6 = S.x q - S.x p ∧ X 55 7 = S.y q - S.y p))) 162 0 [(0, vr 52), (1, vi (p:Int)), (2, vi (q:Int))] [] V R
  have fV : chg [] [(55, 1, 2), (55, 4, 7)] V V := chg_r
  have hm4 := so.1
  have wp := mCV.1.2 p hp
  have wq := mCV.1.2 q hq
  have op := so.2 p hp
  have oq := so.2 q hq
  refine T_al d_X1_setStep_0 rfl ?_
  refine F_gr (b := 55) d_X1_setStep_1 rfl hF rfl ?_
  refine T_al d_X1_setStep_4 rfl ?_
  refine F_gr (b := 44) d_X1_setStep_5 rfl hF rfl ?_
  refine F_gr (b := 45) d_X1_setStep_8 rfl hF rfl ?_
  refine T_il d_X1_setStep_11 rfl ?_
  refine F_ia d_X1_setStep_12 rfl hB rfl ⟨by omega, by omega⟩ (fun b_1 => ?_)
  try simp only [Int.toNat_natCast, wp.1]
  try simp only [Int.toNat_natCast, wp.1] at b_1
  refine F_pi d_X1_setStep_13 rfl hB rfl ⟨by omega, by omega⟩ (fun V_2 eV_2 hBV_2 => ?_)
  have fV_2 := chg_u eV_2 rfl fV
  have kCV_2 := kC_c kCV h19 fV_2 rfl
  have mCV_2 := mapC_c mCV fV_2 rfl
  refine T_al d_X1_setStep_16 rfl ?_
  refine F_gr (b := 55) d_X1_setStep_17 rfl hF rfl ?_
  refine T_al d_X1_setStep_20 rfl ?_
  refine F_gr (b := 44) d_X1_setStep_21 rfl hF rfl ?_
  refine F_gr (b := 45) d_X1_setStep_24 rfl hF rfl ?_
  refine T_il d_X1_setStep_27 rfl ?_
  refine F_ia d_X1_setStep_28 rfl hBV_2 rfl ⟨by omega, by omega⟩ (fun b_3 => ?_)
  have faV_2_45 : V_2 45 = V 45 := by rw [eV_2]; rfl
  rw [faV_2_45]
  rw [faV_2_45] at b_3
  try simp only [Int.toNat_natCast, wq.1]
  try simp only [Int.toNat_natCast, wq.1] at b_3
  refine F_pi d_X1_setStep_29 rfl hBV_2 rfl ⟨by omega, by omega⟩ (fun V_4 eV_4 hBV_4 => ?_)
  have fV_4 := chg_u eV_4 rfl fV_2
  have kCV_4 := kC_c kCV h19 fV_4 rfl
  have mCV_4 := mapC_c mCV fV_4 rfl
  refine T_al d_X1_setStep_32 rfl ?_
  refine F_gr (b := 55) d_X1_setStep_33 rfl hF rfl ?_
  refine T_al d_X1_setStep_36 rfl ?_
  refine F_gr (b := 44) d_X1_setStep_37 rfl hF rfl ?_
  refine F_gr (b := 46) d_X1_setStep_40 rfl hF rfl ?_
  refine T_il d_X1_setStep_43 rfl ?_
  refine F_ia d_X1_setStep_44 rfl hBV_4 rfl ⟨by omega, by omega⟩ (fun b_5 => ?_)
  have faV_4_46 : V_4 46 = V 46 := by rw [eV_4, eV_2]; rfl
  rw [faV_4_46]
  rw [faV_4_46] at b_5
  try simp only [Int.toNat_natCast, wp.2.1]
  try simp only [Int.toNat_natCast, wp.2.1] at b_5
  refine F_pi d_X1_setStep_45 rfl hBV_4 rfl ⟨by omega, by omega⟩ (fun V_6 eV_6 hBV_6 => ?_)
  have fV_6 := chg_u eV_6 rfl fV_4
  have kCV_6 := kC_c kCV h19 fV_6 rfl
  have mCV_6 := mapC_c mCV fV_6 rfl
  refine T_al d_X1_setStep_48 rfl ?_
  refine F_gr (b := 55) d_X1_setStep_49 rfl hF rfl ?_
  refine T_al d_X1_setStep_52 rfl ?_
  refine F_gr (b := 44) d_X1_setStep_53 rfl hF rfl ?_
  refine F_gr (b := 47) d_X1_setStep_56 rfl hF rfl ?_
  refine T_il d_X1_setStep_59 rfl ?_
  refine F_ia d_X1_setStep_60 rfl hBV_6 rfl ⟨by omega, by omega⟩ (fun b_7 => ?_)
  have faV_6_47 : V_6 47 = V 47 := by rw [eV_6, eV_4, eV_2]; rfl
  rw [faV_6_47]
  rw [faV_6_47] at b_7
  try simp only [Int.toNat_natCast, wp.2.2.1]
  try simp only [Int.toNat_natCast, wp.2.2.1] at b_7
  refine F_pi d_X1_setStep_61 rfl hBV_6 rfl ⟨by omega, by omega⟩ (fun V_8 eV_8 hBV_8 => ?_)
  have fV_8 := chg_u eV_8 rfl fV_6
  have kCV_8 := kC_c kCV h19 fV_8 rfl
  have mCV_8 := mapC_c mCV fV_8 rfl
  refine T_al d_X1_setStep_64 rfl ?_
  refine F_gr (b := 55) d_X1_setStep_65 rfl hF rfl ?_
  refine T_al d_X1_setStep_68 rfl ?_
  refine F_gr (b := 44) d_X1_setStep_69 rfl hF rfl ?_
  refine F_gr (b := 46) d_X1_setStep_72 rfl hF rfl ?_
  refine T_il d_X1_setStep_75 rfl ?_
  refine F_ia d_X1_setStep_76 rfl hBV_8 rfl ⟨by omega, by omega⟩ (fun b_9 => ?_)
  have faV_8_46 : V_8 46 = V 46 := by rw [eV_8, eV_6, eV_4, eV_2]; rfl
  rw [faV_8_46]
  rw [faV_8_46] at b_9
  try simp only [Int.toNat_natCast, wq.2.1]
  try simp only [Int.toNat_natCast, wq.2.1] at b_9
  refine T_al d_X1_setStep_77 rfl ?_
  refine F_gr (b := 44) d_X1_setStep_78 rfl hF rfl ?_
  refine F_gr (b := 46) d_X1_setStep_81 rfl hF rfl ?_
  refine T_il d_X1_setStep_84 rfl ?_
  refine F_ia d_X1_setStep_85 rfl hBV_8 rfl ⟨by omega, by omega⟩ (fun b_10 => ?_)
  have faV_8_46 : V_8 46 = V 46 := by rw [eV_8, eV_6, eV_4, eV_2]; rfl
  rw [faV_8_46]
  rw [faV_8_46] at b_10
  try simp only [Int.toNat_natCast, wp.2.1]
  try simp only [Int.toNat_natCast, wp.2.1] at b_10
  refine T_isub d_X1_setStep_86 ?_
  refine F_pi d_X1_setStep_87 rfl hBV_8 rfl ⟨by omega, by omega⟩ (fun V_11 eV_11 hBV_11 => ?_)
  have fV_11 := chg_u eV_11 rfl fV_8
  have kCV_11 := kC_c kCV h19 fV_11 rfl
  have mCV_11 := mapC_c mCV fV_11 rfl
  refine T_al d_X1_setStep_90 rfl ?_
  refine F_gr (b := 55) d_X1_setStep_91 rfl hF rfl ?_
  refine T_al d_X1_setStep_94 rfl ?_
  refine F_gr (b := 44) d_X1_setStep_95 rfl hF rfl ?_
  refine F_gr (b := 47) d_X1_setStep_98 rfl hF rfl ?_
  refine T_il d_X1_setStep_101 rfl ?_
  refine F_ia d_X1_setStep_102 rfl hBV_11 rfl ⟨by omega, by omega⟩ (fun b_12 => ?_)
  have faV_11_47 : V_11 47 = V 47 := by rw [eV_11, eV_8, eV_6, eV_4, eV_2]; rfl
  rw [faV_11_47]
  rw [faV_11_47] at b_12
  try simp only [Int.toNat_natCast, wq.2.2.1]
  try simp only [Int.toNat_natCast, wq.2.2.1] at b_12
  refine T_al d_X1_setStep_103 rfl ?_
  refine F_gr (b := 44) d_X1_setStep_104 rfl hF rfl ?_
  refine F_gr (b := 47) d_X1_setStep_107 rfl hF rfl ?_
  refine T_il d_X1_setStep_110 rfl ?_
  refine F_ia d_X1_setStep_111 rfl hBV_11 rfl ⟨by omega, by omega⟩ (fun b_13 => ?_)
  have faV_11_47 : V_11 47 = V 47 := by rw [eV_11, eV_8, eV_6, eV_4, eV_2]; rfl
  rw [faV_11_47]
  rw [faV_11_47] at b_13
  try simp only [Int.toNat_natCast, wp.2.2.1]
  try simp only [Int.toNat_natCast, wp.2.2.1] at b_13
  refine T_isub d_X1_setStep_112 ?_
  refine F_pi d_X1_setStep_113 rfl hBV_11 rfl ⟨by omega, by omega⟩ (fun V_14 eV_14 hBV_14 => ?_)
  have fV_14 := chg_u eV_14 rfl fV_11
  have kCV_14 := kC_c kCV h19 fV_14 rfl
  have mCV_14 := mapC_c mCV fV_14 rfl
  refine T_al d_X1_setStep_116 rfl ?_
  refine T_al d_X1_setStep_117 rfl ?_
  refine F_gr (b := 55) d_X1_setStep_118 rfl hF rfl ?_
  refine F_gi d_X1_setStep_121 rfl hBV_14 rfl (fun b_15 => ?_)
  have fV_14_55_6 : V_14 55 6 = V_11 55 6 := by rw [eV_14]; rfl
  have gV_14_55_6 := (congrFun (congrFun eV_11 55) 6).trans uV_self
  rw [fV_14_55_6, gV_14_55_6]
  rw [fV_14_55_6, gV_14_55_6] at b_15
  refine T_al d_X1_setStep_124 rfl ?_
  refine F_gr (b := 55) d_X1_setStep_125 rfl hF rfl ?_
  refine F_gi d_X1_setStep_128 rfl hBV_14 rfl (fun b_16 => ?_)
  have gV_14_55_7 := (congrFun (congrFun eV_14 55) 7).trans uV_self
  rw [gV_14_55_7]
  rw [gV_14_55_7] at b_16
  refine T_k d_X1_setStep_131 ?_
  refine C_pv3 d_X1_setStep_132 rfl (hdF (by decide)) (hcF _) (R_X1_isLong (S := S) (K := K) (ka := ka) (j := 2) hBV_14 hF hka hla hba h19 kCV_14 ko (Or.inl rfl) (by omega) (by omega)) ?_
  -- leaf @135
  refine T_zret d_X1_setStep_135 rfl ?_
  exact ⟨rfl, hBV_14, fV_14, rfl, by rw [eV_14, eV_11, eV_8, eV_6, eV_4, eV_2]; rfl, by rw [eV_14, eV_11, eV_8, eV_6, eV_4]; rfl, by rw [eV_14, eV_11, eV_8, eV_6]; rfl, by rw [eV_14, eV_11, eV_8]; rfl, by rw [eV_14, eV_11]; rfl, by rw [eV_14]; rfl⟩
set_option maxHeartbeats 1000000 in
set_option maxRecDepth 100000 in
theorem R_X1_setApart {G : GG} {V : VV} {R : RR}  {S : Sp} {K : Kd} {ka : Nat} {p q r : Nat} (hB : Bd V) (hF : FinR R) (hka : R 52 3 = some ka) (hla : lay ka = (1, 20)) (hba : arB ka = some (-1, 500)) (h19 : 19 ≤ ka ∧ ka ≤ 23) (kCV : kC K ka V) (ko : kO K) (mCV : mapC S V) (so : sO S) (hp : p < S.m) (hq : q < S.m) (hr : r < S.m) (h6 : V 55 6 = S.x q - S.x p) (h7 : V 55 7 = S.y q - S.y p) (hst : stpP S K p q) (hap : aptP S K p r) : Runs G M_X1_setApart 1 162 162 [vr 52, vi (p:Int), vi (r:Int)] V R (PQ [] [(55, 3, 3), (55, 8, 9)] V R (fun o X => o = some (vi (bi (decide (dotP S K p q r)))) ∧ X 55 3 = S.h r ∧ X 55 8 = S.x r - S.x p ∧ X 55 9 = S.y r - S.y p)) := by
  refine Runs.of pn_X1 (Nat.le_of_ble_eq_true rfl) rfl ?_
  show TT G M_X1_setApart (rmd 1 162 162) 162 (Zm G 162 162 (PQ [] [(55, 3, 3), (55, 8, 9)] V R (fun o X => o = some (vi (bi (decide (dotP S K p q r)))) ∧ X 55 3 = S.h r ∧ X 55 8 = S.x r - S.x p ∧ X 55 9 = S.y r - S.y p))) 162 0 [(0, vr 52), (1, vi (p:Int)), (2, vi (r:Int))] [] V R
  have fV : chg [] [(55, 3, 3), (55, 8, 9)] V V := chg_r
  have hm4 := so.1
  have wp := mCV.1.2 p hp
  have wr := mCV.1.2 r hr
  have op := so.2 p hp
  have or_ := so.2 r hr
  have oq := so.2 q hq
  have ko1 := ko
  obtain ⟨_, _, k2, k3, k4, _⟩ := ko1
  have a1 := sq_abs (M := K.h 2) (by omega) hst.2
  have a2 := sq_abs (M := K.h 3) (by omega) hap.2
  have m1 := mulb2 (i := S.x q - S.x p) (v := S.x r - S.x p) (M := 200) (N := 100) (by omega) (by omega) (by omega) (by omega)
  have m2 := mulb2 (i := S.y q - S.y p) (v := S.y r - S.y p) (M := 200) (N := 100) (by omega) (by omega) (by omega) (by omega)
  have dd : -40000 ≤ dotO S p q r ∧ dotO S p q r ≤ 40000 := by unfold dotO; omega
  have qd := sq_b (a := dotO S p q r) (M := 40000) (by omega) (by omega)
  have q4 := sq_b (a := K.l 4) (M := 9) (by omega) (by omega)
  have hlv := len2_b so hp hq
  have qh := sq_b (a := K.h 2) (M := 100) (by omega) (by omega)
  have qv := mulb (i := K.l 4 * K.l 4) (v := len2 S p q) (M := 10000) (N := 81) (by omega) (by omega) (by omega) (by have := hst.2; omega)
  refine T_al d_X1_setApart_0 rfl ?_
  refine F_gr (b := 55) d_X1_setApart_1 rfl hF rfl ?_
  refine T_al d_X1_setApart_4 rfl ?_
  refine F_gr (b := 44) d_X1_setApart_5 rfl hF rfl ?_
  refine F_gr (b := 45) d_X1_setApart_8 rfl hF rfl ?_
  refine T_il d_X1_setApart_11 rfl ?_
  refine F_ia d_X1_setApart_12 rfl hB rfl ⟨by omega, by omega⟩ (fun b_1 => ?_)
  try simp only [Int.toNat_natCast, wr.1]
  try simp only [Int.toNat_natCast, wr.1] at b_1
  refine F_pi d_X1_setApart_13 rfl hB rfl ⟨by omega, by omega⟩ (fun V_2 eV_2 hBV_2 => ?_)
  have fV_2 := chg_u eV_2 rfl fV
  have kCV_2 := kC_c kCV h19 fV_2 rfl
  have mCV_2 := mapC_c mCV fV_2 rfl
  refine T_al d_X1_setApart_16 rfl ?_
  refine F_gr (b := 55) d_X1_setApart_17 rfl hF rfl ?_
  refine T_al d_X1_setApart_20 rfl ?_
  refine F_gr (b := 44) d_X1_setApart_21 rfl hF rfl ?_
  refine F_gr (b := 46) d_X1_setApart_24 rfl hF rfl ?_
  refine T_il d_X1_setApart_27 rfl ?_
  refine F_ia d_X1_setApart_28 rfl hBV_2 rfl ⟨by omega, by omega⟩ (fun b_3 => ?_)
  have faV_2_46 : V_2 46 = V 46 := by rw [eV_2]; rfl
  rw [faV_2_46]
  rw [faV_2_46] at b_3
  try simp only [Int.toNat_natCast, wr.2.1]
  try simp only [Int.toNat_natCast, wr.2.1] at b_3
  refine T_al d_X1_setApart_29 rfl ?_
  refine F_gr (b := 44) d_X1_setApart_30 rfl hF rfl ?_
  refine F_gr (b := 46) d_X1_setApart_33 rfl hF rfl ?_
  refine T_il d_X1_setApart_36 rfl ?_
  refine F_ia d_X1_setApart_37 rfl hBV_2 rfl ⟨by omega, by omega⟩ (fun b_4 => ?_)
  have faV_2_46 : V_2 46 = V 46 := by rw [eV_2]; rfl
  rw [faV_2_46]
  rw [faV_2_46] at b_4
  try simp only [Int.toNat_natCast, wp.2.1]
  try simp only [Int.toNat_natCast, wp.2.1] at b_4
  refine T_isub d_X1_setApart_38 ?_
  refine F_pi d_X1_setApart_39 rfl hBV_2 rfl ⟨by omega, by omega⟩ (fun V_5 eV_5 hBV_5 => ?_)
  have fV_5 := chg_u eV_5 rfl fV_2
  have kCV_5 := kC_c kCV h19 fV_5 rfl
  have mCV_5 := mapC_c mCV fV_5 rfl
  refine T_al d_X1_setApart_42 rfl ?_
  refine F_gr (b := 55) d_X1_setApart_43 rfl hF rfl ?_
  refine T_al d_X1_setApart_46 rfl ?_
  refine F_gr (b := 44) d_X1_setApart_47 rfl hF rfl ?_
  refine F_gr (b := 47) d_X1_setApart_50 rfl hF rfl ?_
  refine T_il d_X1_setApart_53 rfl ?_
  refine F_ia d_X1_setApart_54 rfl hBV_5 rfl ⟨by omega, by omega⟩ (fun b_6 => ?_)
  have faV_5_47 : V_5 47 = V 47 := by rw [eV_5, eV_2]; rfl
  rw [faV_5_47]
  rw [faV_5_47] at b_6
  try simp only [Int.toNat_natCast, wr.2.2.1]
  try simp only [Int.toNat_natCast, wr.2.2.1] at b_6
  refine T_al d_X1_setApart_55 rfl ?_
  refine F_gr (b := 44) d_X1_setApart_56 rfl hF rfl ?_
  refine F_gr (b := 47) d_X1_setApart_59 rfl hF rfl ?_
  refine T_il d_X1_setApart_62 rfl ?_
  refine F_ia d_X1_setApart_63 rfl hBV_5 rfl ⟨by omega, by omega⟩ (fun b_7 => ?_)
  have faV_5_47 : V_5 47 = V 47 := by rw [eV_5, eV_2]; rfl
  rw [faV_5_47]
  rw [faV_5_47] at b_7
  try simp only [Int.toNat_natCast, wp.2.2.1]
  try simp only [Int.toNat_natCast, wp.2.2.1] at b_7
  refine T_isub d_X1_setApart_64 ?_
  refine F_pi d_X1_setApart_65 rfl hBV_5 rfl ⟨by omega, by omega⟩ (fun V_8 eV_8 hBV_8 => ?_)
  have fV_8 := chg_u eV_8 rfl fV_5
  have kCV_8 := kC_c kCV h19 fV_8 rfl
  have mCV_8 := mapC_c mCV fV_8 rfl
  refine T_al d_X1_setApart_68 rfl ?_
  refine F_gr (b := 55) d_X1_setApart_69 rfl hF rfl ?_
  refine F_gi d_X1_setApart_72 rfl hBV_8 rfl (fun b_9 => ?_)
  have fV_8_55_6 : V_8 55 6 = V 55 6 := by rw [eV_8, eV_5, eV_2]; rfl
  rw [fV_8_55_6]
  rw [fV_8_55_6] at b_9
  refine T_al d_X1_setApart_75 rfl ?_
  refine F_gr (b := 55) d_X1_setApart_76 rfl hF rfl ?_
  refine F_gi d_X1_setApart_79 rfl hBV_8 rfl (fun b_10 => ?_)
  have fV_8_55_8 : V_8 55 8 = V_5 55 8 := by rw [eV_8]; rfl
  have gV_8_55_8 := (congrFun (congrFun eV_5 55) 8).trans uV_self
  rw [fV_8_55_8, gV_8_55_8]
  rw [fV_8_55_8, gV_8_55_8] at b_10
  refine T_imul d_X1_setApart_82 ?_
  refine T_al d_X1_setApart_83 rfl ?_
  refine F_gr (b := 55) d_X1_setApart_84 rfl hF rfl ?_
  refine F_gi d_X1_setApart_87 rfl hBV_8 rfl (fun b_11 => ?_)
  have fV_8_55_7 : V_8 55 7 = V 55 7 := by rw [eV_8, eV_5, eV_2]; rfl
  rw [fV_8_55_7]
  rw [fV_8_55_7] at b_11
  refine T_al d_X1_setApart_90 rfl ?_
  refine F_gr (b := 55) d_X1_setApart_91 rfl hF rfl ?_
  refine F_gi d_X1_setApart_94 rfl hBV_8 rfl (fun b_12 => ?_)
  have gV_8_55_9 := (congrFun (congrFun eV_8 55) 9).trans uV_self
  rw [gV_8_55_9]
  rw [gV_8_55_9] at b_12
  refine T_imul d_X1_setApart_97 ?_
  refine T_iadd d_X1_setApart_98 ?_
  refine F_isg d_X1_setApart_99 (f := fun x_13 => [(0, vr 52), (1, vi (p:Int)), (2, vi (r:Int)), (3, vi x_13)]) (fun _ => rfl) (fun x_13 ex_13 => ?_)
  have e3 : x_13 = dotO S p q r := by rw [ex_13, h6, h7]; rfl
  refine T_al d_X1_setApart_100 rfl ?_
  refine F_gr (b := 55) d_X1_setApart_101 rfl hF rfl ?_
  refine F_gi d_X1_setApart_104 rfl hBV_8 rfl (fun b_14 => ?_)
  have fV_8_55_6 : V_8 55 6 = V 55 6 := by rw [eV_8, eV_5, eV_2]; rfl
  rw [fV_8_55_6]
  rw [fV_8_55_6] at b_14
  refine T_al d_X1_setApart_107 rfl ?_
  refine F_gr (b := 55) d_X1_setApart_108 rfl hF rfl ?_
  refine F_gi d_X1_setApart_111 rfl hBV_8 rfl (fun b_15 => ?_)
  have fV_8_55_6 : V_8 55 6 = V 55 6 := by rw [eV_8, eV_5, eV_2]; rfl
  rw [fV_8_55_6]
  rw [fV_8_55_6] at b_15
  refine T_imul d_X1_setApart_114 ?_
  refine T_al d_X1_setApart_115 rfl ?_
  refine F_gr (b := 55) d_X1_setApart_116 rfl hF rfl ?_
  refine F_gi d_X1_setApart_119 rfl hBV_8 rfl (fun b_16 => ?_)
  have fV_8_55_7 : V_8 55 7 = V 55 7 := by rw [eV_8, eV_5, eV_2]; rfl
  rw [fV_8_55_7]
  rw [fV_8_55_7] at b_16
  refine T_al d_X1_setApart_122 rfl ?_
  refine F_gr (b := 55) d_X1_setApart_123 rfl hF rfl ?_
  refine F_gi d_X1_setApart_126 rfl hBV_8 rfl (fun b_17 => ?_)
  have fV_8_55_7 : V_8 55 7 = V 55 7 := by rw [eV_8, eV_5, eV_2]; rfl
  rw [fV_8_55_7]
  rw [fV_8_55_7] at b_17
  refine T_imul d_X1_setApart_129 ?_
  refine T_iadd d_X1_setApart_130 ?_
  refine F_isg d_X1_setApart_131 (f := fun x_18 => [(0, vr 52), (1, vi (p:Int)), (2, vi (r:Int)), (3, vi x_13), (4, vi x_18)]) (fun _ => rfl) (fun x_18 ex_18 => ?_)
  have e4 : x_18 = len2 S p q := by rw [ex_18, h6, h7]; rfl
  have kl4 : V_8 ka (4 : Int).toNat = K.l 4 := (kCV_8 4 (by omega)).1
  refine T_al d_X1_setApart_133 rfl ?_
  refine T_gr uws_ok d_X1_setApart_134 rfl (lay_lc rfl (by decide)) hka ?_
  refine T_k d_X1_setApart_137 ?_
  refine F_ia d_X1_setApart_138 hla hBV_8 hba ⟨by omega, by omega⟩ (fun b_19 => ?_)
  try simp only [Int.toNat_natCast, kl4]
  try simp only [Int.toNat_natCast, kl4] at b_19
  refine F_isg d_X1_setApart_139 (f := fun x_20 => [(0, vr 52), (1, vi (p:Int)), (2, vi (r:Int)), (3, vi x_13), (4, vi x_18), (5, vi x_20)]) (fun _ => rfl) (fun x_20 ex_20 => ?_)
  have e31 : x_13 * x_13 = dotO S p q r * dotO S p q r := by rw [e3]
  have e51 : x_20 * x_20 * x_18 = K.l 4 * K.l 4 * len2 S p q := by rw [e4, ex_20]
  refine T_il d_X1_setApart_141 rfl ?_
  refine T_il d_X1_setApart_142 rfl ?_
  refine T_imul d_X1_setApart_143 ?_
  refine T_il d_X1_setApart_144 rfl ?_
  refine T_il d_X1_setApart_146 rfl ?_
  refine T_imul d_X1_setApart_148 ?_
  refine T_il d_X1_setApart_149 rfl ?_
  refine T_imul d_X1_setApart_151 ?_
  refine T_igt d_X1_setApart_152 ⟨by omega, by omega⟩ ⟨by omega, by omega⟩ (fun h152 => ?_) (fun h152 => ?_)
  · skip
    refine T_k d_X1_setApart_159 ?_
    -- leaf 152t@160
    refine T_zret0 d_X1_setApart_160 rfl ?_
    have nd : ¬ dotP S K p q r := by show ¬ _ ≤ _; omega
    exact ⟨rfl, hBV_8, fV_8, by rw [decide_eq_false nd], by rw [eV_8, eV_5, eV_2]; rfl, by rw [eV_8, eV_5]; rfl, by rw [eV_8]; rfl⟩
  · skip
    refine T_k d_X1_setApart_155 ?_
    refine T_go d_X1_setApart_156 ?_
    -- leaf 152f@160
    refine T_zret1 d_X1_setApart_160 rfl ?_
    have nd : dotP S K p q r := by show _ ≤ _; omega
    exact ⟨rfl, hBV_8, fV_8, by rw [decide_eq_true nd], by rw [eV_8, eV_5, eV_2]; rfl, by rw [eV_8, eV_5]; rfl, by rw [eV_8]; rfl⟩
set_option maxHeartbeats 1000000 in
set_option maxRecDepth 100000 in
theorem R_X1_nameCorners {G : GG} {V : VV} {R : RR}  {S : Sp} {K : Kd} {ka : Nat} (hB : Bd V) (hF : FinR R) (hka : R 52 3 = some ka) (hla : lay ka = (1, 20)) (hba : arB ka = some (-1, 500)) (h19 : 19 ≤ ka ∧ ka ≤ 23) (kCV : kC K ka V) (ko : kO K) (mCV : mapC S V) (so : sO S) : Runs G M_X1_nameCorners 3 162 162 [vr 52] V R (PQ [(53, 53)] [(52, 5, 5)] V R (fun o X => o = none ∧ X 52 5 = (cntB (crn S K) S.m : Int) ∧ ∀ i, i < cntB (crn S K) S.m → X 53 i = (nthB (crn S K) S.m i : Int))) := by
  refine Runs.of pn_X1 (Nat.le_of_ble_eq_true rfl) rfl ?_
  show TT G M_X1_nameCorners (rmd 3 162 162) 162 (Zm G 162 162 (PQ [(53, 53)] [(52, 5, 5)] V R (fun o X => o = none ∧ X 52 5 = (cntB (crn S K) S.m : Int) ∧ ∀ i, i < cntB (crn S K) S.m → X 53 i = (nthB (crn S K) S.m i : Int)))) 162 0 [(0, vr 52)] [] V R
  have fV : chg [(53, 53)] [(52, 5, 5)] V V := chg_r
  have hm4 := so.1
  have ko1 := ko
  obtain ⟨_, _, _, _, k4, _⟩ := ko1
  refine T_al d_X1_nameCorners_0 rfl ?_
  refine T_k d_X1_nameCorners_1 ?_
  refine F_pi d_X1_nameCorners_2 rfl hB rfl ⟨by omega, by omega⟩ (fun V_1 eV_1 hBV_1 => ?_)
  have fV_1 := chg_u eV_1 rfl fV
  have kCV_1 := kC_c kCV h19 fV_1 rfl
  have mCV_1 := mapC_c mCV fV_1 rfl
  refine T_k d_X1_nameCorners_5 ?_
  refine T_is d_X1_nameCorners_6 (ls' := [(0, vr 52), (1, vi 0)]) rfl ?_
  -- to 7 @7
  have L7 : ∀ (fu : Nat) (X : VV) (i : Nat), S.m - i < fu → (Bd X) → (chg [(53, 53)] [(52, 5, 5)] V X) → (i ≤ S.m) → (X 52 5 = (cntB (crn S K) i : Int)) → (∀ t, t < cntB (crn S K) i → X 53 t = (nthB (crn S K) S.m t : Int)) → TT G M_X1_nameCorners (rmd 3 162 162) 162 (Zm G 162 162 (PQ [(53, 53)] [(52, 5, 5)] V R (fun o X => o = none ∧ X 52 5 = (cntB (crn S K) S.m : Int) ∧ ∀ i, i < cntB (crn S K) S.m → X 53 i = (nthB (crn S K) S.m i : Int)))) 162 7 [(0, vr 52), (1, vi (i : Int))] [] X R := by
    intro fu
    induction fu with
    | zero => intro X i hm; exact absurd hm (Nat.not_lt_zero _)
    | succ fu ih7 =>
      intro X i hm7 hBX fX hi hc hX
      have kCX := kC_c kCV h19 fX rfl
      have mCX := mapC_c mCV fX rfl
      have x4 := mCX.1.1
      have hcl := cntB_le (p := (crn S K)) (n := i)
      refine T_il d_X1_nameCorners_7 rfl ?_
      refine T_al d_X1_nameCorners_8 rfl ?_
      refine F_gr (b := 44) d_X1_nameCorners_9 rfl hF rfl ?_
      refine F_gi d_X1_nameCorners_12 rfl hBX rfl (fun b_2 => ?_)
      refine T_ige d_X1_nameCorners_15 ⟨by omega, by omega⟩ ⟨by omega, by omega⟩ (fun h15 => ?_) (fun h15 => ?_)
      · skip
        -- leaf 15t@87
        refine T_vret d_X1_nameCorners_87 rfl ?_
        rw [show i = S.m by omega] at hc hX
        exact ⟨rfl, hBX, fX, rfl, hc, hX⟩
      · skip
        have wi := mCX.1.2 i (by omega)
        have oi := so.2 i (by omega)
        have kl4 : X ka (4 : Int).toNat = K.l 4 := (kCX 4 (by omega)).1
        refine T_al d_X1_nameCorners_18 rfl ?_
        refine T_il d_X1_nameCorners_19 rfl ?_
        refine C_pv1 d_X1_nameCorners_20 rfl (hdF (by decide)) (hcF _) (R_X1_isFit (s := i) hBX hF hka hla hba h19 kCX ko mCX so (by omega)) ?_
        refine T_pz0 d_X1_nameCorners_23 (fun h23 => ?_) (fun h23 => ?_)
        · skip
          refine F_incg d_X1_nameCorners_81 rfl (f := fun x_3 => [(0, vr 52), (1, vi x_3)]) (fun _ => rfl) (fun x_3 ex_3 => ?_)
          refine T_go d_X1_nameCorners_84 ?_
          -- to 7 15f.23t@7
          have nc : ¬ crn S K i = true := fun z => h23 (of_decide_eq_true z).1
          obtain rfl : x_3 = ((i + 1) : Int) := by omega
          exact ih7 X (i + 1) (by omega) hBX fX (by first | assumption | omega) (by rw [cntB_f nc]; exact hc) (by rw [cntB_f nc]; exact hX)
        · skip
          refine T_al d_X1_nameCorners_26 rfl ?_
          refine F_gr (b := 44) d_X1_nameCorners_27 rfl hF rfl ?_
          refine T_al d_X1_nameCorners_30 rfl ?_
          refine F_gr (b := 44) d_X1_nameCorners_31 rfl hF rfl ?_
          refine F_gr (b := 46) d_X1_nameCorners_34 rfl hF rfl ?_
          refine T_il d_X1_nameCorners_37 rfl ?_
          refine F_ia d_X1_nameCorners_38 rfl hBX rfl ⟨by omega, by omega⟩ (fun b_4 => ?_)
          try simp only [Int.toNat_natCast, wi.2.1]
          try simp only [Int.toNat_natCast, wi.2.1] at b_4
          refine T_al d_X1_nameCorners_39 rfl ?_
          refine F_gr (b := 44) d_X1_nameCorners_40 rfl hF rfl ?_
          refine F_gr (b := 47) d_X1_nameCorners_43 rfl hF rfl ?_
          refine T_il d_X1_nameCorners_46 rfl ?_
          refine F_ia d_X1_nameCorners_47 rfl hBX rfl ⟨by omega, by omega⟩ (fun b_5 => ?_)
          try simp only [Int.toNat_natCast, wi.2.2.1]
          try simp only [Int.toNat_natCast, wi.2.2.1] at b_5
          refine T_al d_X1_nameCorners_48 rfl ?_
          refine T_gr uws_ok d_X1_nameCorners_49 rfl (lay_lc rfl (by decide)) hka ?_
          refine T_k d_X1_nameCorners_52 ?_
          refine F_ia d_X1_nameCorners_53 hla hBX hba ⟨by omega, by omega⟩ (fun b_6 => ?_)
          try simp only [Int.toNat_natCast, kl4]
          try simp only [Int.toNat_natCast, kl4] at b_6
          refine C_pv3 d_X1_nameCorners_54 rfl (hdF (by decide)) (hcF _) (R_X8_nearest (S := S) hBX hF mCX so (by omega) (by omega) (by omega)) ?_
          have hnr := nb_r (S := S) (sl := K.l 4) (x := S.x i) (y := S.y i)
          have hnr2 : -1 ≤ nbO S (K.l 4) (S.x i) (S.y i) ∧ nbO S (K.l 4) (S.x i) (S.y i) < 40 := by rcases hnr with w | ⟨c, w, w2, _⟩ <;> omega
          clear hnr
          refine T_il d_X1_nameCorners_57 rfl ?_
          refine T_ine d_X1_nameCorners_58 ⟨by omega, by omega⟩ ⟨by omega, by omega⟩ (fun h58 => ?_) (fun h58 => ?_)
          · skip
            refine F_incg d_X1_nameCorners_81 rfl (f := fun x_7 => [(0, vr 52), (1, vi x_7)]) (fun _ => rfl) (fun x_7 ex_7 => ?_)
            refine T_go d_X1_nameCorners_84 ?_
            -- to 7 15f.23f.58t@7
            have nc : ¬ crn S K i = true := fun z => h58 (of_decide_eq_true z).2
            obtain rfl : x_7 = ((i + 1) : Int) := by omega
            exact ih7 X (i + 1) (by omega) hBX fX (by first | assumption | omega) (by rw [cntB_f nc]; exact hc) (by rw [cntB_f nc]; exact hX)
          · skip
            refine T_al d_X1_nameCorners_61 rfl ?_
            refine F_gr (b := 53) d_X1_nameCorners_62 rfl hF rfl ?_
            refine T_al d_X1_nameCorners_65 rfl ?_
            refine F_gi d_X1_nameCorners_66 rfl hBX rfl (fun b_8 => ?_)
            refine T_il d_X1_nameCorners_69 rfl ?_
            refine F_is d_X1_nameCorners_70 rfl hBX rfl ⟨by omega, by omega⟩ ⟨by omega, by omega⟩ (fun V_9 eV_9 hBV_9 => ?_)
            have fV_9 := chg_u eV_9 rfl fX
            have kCV_9 := kC_c kCV h19 fV_9 rfl
            have mCV_9 := mapC_c mCV fV_9 rfl
            refine T_al d_X1_nameCorners_71 rfl ?_
            refine T_dup d_X1_nameCorners_72 rfl ?_
            refine F_gi d_X1_nameCorners_73 rfl hBV_9 rfl (fun b_10 => ?_)
            have fV_9_52_5 : V_9 52 5 = X 52 5 := by rw [eV_9]; rfl
            rw [fV_9_52_5]
            rw [fV_9_52_5] at b_10
            refine T_k d_X1_nameCorners_76 ?_
            refine T_iadd d_X1_nameCorners_77 ?_
            refine F_pi d_X1_nameCorners_78 rfl hBV_9 rfl ⟨by omega, by omega⟩ (fun V_11 eV_11 hBV_11 => ?_)
            have fV_11 := chg_u eV_11 rfl fV_9
            have kCV_11 := kC_c kCV h19 fV_11 rfl
            have mCV_11 := mapC_c mCV fV_11 rfl
            refine F_incg d_X1_nameCorners_81 rfl (f := fun x_12 => [(0, vr 52), (1, vi x_12)]) (fun _ => rfl) (fun x_12 ex_12 => ?_)
            refine T_go d_X1_nameCorners_84 ?_
            -- to 7 15f.23f.58f@7
            have yc : crn S K i = true := decide_eq_true ⟨h23, h58⟩
            obtain rfl : x_12 = ((i + 1) : Int) := by omega
            exact ih7 V_11 (i + 1) (by omega) hBV_11 fV_11 (by first | assumption | omega) (by rw [cntB_t yc, eV_11]; show X 52 5 + 1 = _; rw [hc]; rfl) (by rw [cntB_t yc]; exact row_p (X := X) (s := cntB (crn S K) i) (f := fun t => (nthB (crn S K) S.m t : Int)) (by rw [eV_11, eV_9, hc, Int.toNat_natCast]; rfl) (by rw [nth_cnt (by omega) yc]) hX)
  exact L7 _ V_1 (0) (Nat.lt_succ_self _) hBV_1 fV_1 (by first | assumption | omega) (by rw [eV_1]; rfl) (fun t ht => absurd ht (Nat.not_lt_zero _))
set_option maxHeartbeats 1000000 in
set_option maxRecDepth 100000 in
theorem R_X1_nameThirds {G : GG} {V : VV} {R : RR}  {S : Sp} {K : Kd} {ka : Nat} {p : Nat} (hB : Bd V) (hF : FinR R) (hka : R 52 3 = some ka) (hla : lay ka = (1, 20)) (hba : arB ka = some (-1, 500)) (h19 : 19 ≤ ka ∧ ka ≤ 23) (kCV : kC K ka V) (ko : kO K) (mCV : mapC S V) (so : sO S) (hp : p < S.m) (h5 : V 52 5 = (cntB (crn S K) S.m : Int)) (h53 : ∀ i, i < cntB (crn S K) S.m → V 53 i = (nthB (crn S K) S.m i : Int)) : Runs G M_X1_nameThirds 2 162 162 [vr 52, vi (p:Int)] V R (PQ [(54, 54)] [(52, 7, 7)] V R (fun o X => o = none ∧ X 52 7 = (cntB (thd S K p) S.m : Int) ∧ ∀ i, i < cntB (thd S K p) S.m → X 54 i = (nthB (thd S K p) S.m i : Int))) := by
  refine Runs.of pn_X1 (Nat.le_of_ble_eq_true rfl) rfl ?_
  show TT G M_X1_nameThirds (rmd 2 162 162) 162 (Zm G 162 162 (PQ [(54, 54)] [(52, 7, 7)] V R (fun o X => o = none ∧ X 52 7 = (cntB (thd S K p) S.m : Int) ∧ ∀ i, i < cntB (thd S K p) S.m → X 54 i = (nthB (thd S K p) S.m i : Int)))) 162 0 [(0, vr 52), (1, vi (p:Int))] [] V R
  have fV : chg [(54, 54)] [(52, 7, 7)] V V := chg_r
  have hm4 := so.1
  have hcm := cntB_le (p := (crn S K)) (n := S.m)
  have op := so.2 p hp
  refine T_al d_X1_nameThirds_0 rfl ?_
  refine T_k d_X1_nameThirds_1 ?_
  refine F_pi d_X1_nameThirds_2 rfl hB rfl ⟨by omega, by omega⟩ (fun V_1 eV_1 hBV_1 => ?_)
  have fV_1 := chg_u eV_1 rfl fV
  have kCV_1 := kC_c kCV h19 fV_1 rfl
  have mCV_1 := mapC_c mCV fV_1 rfl
  refine T_k d_X1_nameThirds_5 ?_
  refine T_is d_X1_nameThirds_6 (ls' := [(0, vr 52), (1, vi (p:Int)), (2, vi 0)]) rfl ?_
  -- to 7 @7
  have L7 : ∀ (fu : Nat) (X : VV) (c e : Nat), cntB (crn S K) S.m - c < fu → (Bd X) → (chg [(54, 54)] [(52, 7, 7)] V X) → (c ≤ cntB (crn S K) S.m) → (e ≤ S.m ∧ cntB (crn S K) e = c) → (X 52 7 = (cntB (thd S K p) e : Int)) → (∀ t, t < cntB (thd S K p) e → X 54 t = (nthB (thd S K p) S.m t : Int)) → TT G M_X1_nameThirds (rmd 2 162 162) 162 (Zm G 162 162 (PQ [(54, 54)] [(52, 7, 7)] V R (fun o X => o = none ∧ X 52 7 = (cntB (thd S K p) S.m : Int) ∧ ∀ i, i < cntB (thd S K p) S.m → X 54 i = (nthB (thd S K p) S.m i : Int)))) 162 7 [(0, vr 52), (1, vi (p:Int)), (2, vi (c : Int))] [] X R := by
    intro fu
    induction fu with
    | zero => intro X c e hm; exact absurd hm (Nat.not_lt_zero _)
    | succ fu ih7 =>
      intro X c e hm7 hBX fX hc he h7 hX
      have kCX := kC_c kCV h19 fX rfl
      have mCX := mapC_c mCV fX rfl
      have x5 : X 52 5 = (cntB (crn S K) S.m : Int) := (chg_j (c := 52) (j := 5) fX rfl).trans h5
      have x53 : X 53 = V 53 := chg_k fX rfl
      have htl := cntB_le (p := (thd S K p)) (n := e)
      refine T_il d_X1_nameThirds_7 rfl ?_
      refine T_al d_X1_nameThirds_8 rfl ?_
      refine F_gi d_X1_nameThirds_9 rfl hBX rfl (fun b_2 => ?_)
      refine T_ige d_X1_nameThirds_12 ⟨by omega, by omega⟩ ⟨by omega, by omega⟩ (fun h12 => ?_) (fun h12 => ?_)
      · skip
        -- leaf 12t@99
        refine T_vret d_X1_nameThirds_99 rfl ?_
        have g : cntB (thd S K p) e = cntB (thd S K p) S.m := cnt_gap (fun s z => (of_decide_eq_true z).1) he.1 (by omega)
        rw [g] at h7 hX
        exact ⟨rfl, hBX, fX, rfl, h7, hX⟩
      · skip
        have sok := nth_ok (p := (crn S K)) (n := S.m) (i := c) (by omega)
        have hes : e ≤ (nthB (crn S K) S.m c) := Nat.not_lt.mp (fun z => by have w := cnt_lt z sok.2.1; omega)
        have hgap : cntB (thd S K p) e = cntB (thd S K p) (nthB (crn S K) S.m c) := cnt_gap (fun s z => (of_decide_eq_true z).1) hes (he.2.trans sok.2.2.symm)
        have w53 : V 53 c = ((nthB (crn S K) S.m c) : Int) := h53 c (by omega)
        have ws := mCX.1.2 (nthB (crn S K) S.m c) sok.1
        have os := so.2 (nthB (crn S K) S.m c) sok.1
        have wp := mCX.1.2 p hp
        refine T_al d_X1_nameThirds_15 rfl ?_
        refine F_gr (b := 53) d_X1_nameThirds_16 rfl hF rfl ?_
        refine T_il d_X1_nameThirds_19 rfl ?_
        refine F_ia d_X1_nameThirds_20 rfl hBX rfl ⟨by omega, by omega⟩ (fun b_3 => ?_)
        try simp only [Int.toNat_natCast, x53, w53]
        try simp only [Int.toNat_natCast, x53, w53] at b_3
        refine F_isg d_X1_nameThirds_21 (f := fun x_4 => [(0, vr 52), (1, vi (p:Int)), (2, vi (c : Int)), (3, vi x_4)]) (fun _ => rfl) (fun x_4 ex_4 => ?_)
        have i3 : (x_4).toNat = (nthB (crn S K) S.m c) := by omega
        refine T_il d_X1_nameThirds_22 rfl ?_
        refine T_il d_X1_nameThirds_23 rfl ?_
        refine T_ieq d_X1_nameThirds_24 ⟨by omega, by omega⟩ ⟨by omega, by omega⟩ (fun h24 => ?_) (fun h24 => ?_)
        · skip
          refine F_incg d_X1_nameThirds_93 rfl (f := fun x_5 => [(0, vr 52), (1, vi (p:Int)), (2, vi x_5), (3, vi x_4)]) (fun _ => rfl) (fun x_5 ex_5 => ?_)
          refine T_go d_X1_nameThirds_96 ?_
          -- to 7 12f.24t@7
          refine T_subp (ks := [0, 1, 2]) (ls' := [(0, vr 52), (1, vi (p:Int)), (2, vi x_5)]) rfl ?_
          have nt : ¬ thd S K p (nthB (crn S K) S.m c) = true := fun z => (of_decide_eq_true z).2.1 (by omega)
          obtain rfl : x_5 = ((c + 1) : Int) := by omega
          exact ih7 X (c + 1) ((nthB (crn S K) S.m c) + 1) (by omega) hBX fX (by omega) ⟨by omega, by rw [cntB_t sok.2.1, sok.2.2]⟩ (by rw [cntB_f nt, ← hgap]; exact h7) (by rw [cntB_f nt, ← hgap]; exact hX)
        · skip
          refine T_al d_X1_nameThirds_27 rfl ?_
          refine T_al d_X1_nameThirds_28 rfl ?_
          refine F_gr (b := 44) d_X1_nameThirds_29 rfl hF rfl ?_
          refine F_gr (b := 46) d_X1_nameThirds_32 rfl hF rfl ?_
          refine T_il d_X1_nameThirds_35 rfl ?_
          refine F_ia d_X1_nameThirds_36 rfl hBX rfl ⟨by omega, by omega⟩ (fun b_6 => ?_)
          try simp only [Int.toNat_natCast, i3, ws.2.1]
          try simp only [Int.toNat_natCast, i3, ws.2.1] at b_6
          refine T_al d_X1_nameThirds_37 rfl ?_
          refine F_gr (b := 44) d_X1_nameThirds_38 rfl hF rfl ?_
          refine F_gr (b := 46) d_X1_nameThirds_41 rfl hF rfl ?_
          refine T_il d_X1_nameThirds_44 rfl ?_
          refine F_ia d_X1_nameThirds_45 rfl hBX rfl ⟨by omega, by omega⟩ (fun b_7 => ?_)
          try simp only [Int.toNat_natCast, wp.2.1]
          try simp only [Int.toNat_natCast, wp.2.1] at b_7
          refine T_isub d_X1_nameThirds_46 ?_
          refine T_al d_X1_nameThirds_47 rfl ?_
          refine F_gr (b := 44) d_X1_nameThirds_48 rfl hF rfl ?_
          refine F_gr (b := 47) d_X1_nameThirds_51 rfl hF rfl ?_
          refine T_il d_X1_nameThirds_54 rfl ?_
          refine F_ia d_X1_nameThirds_55 rfl hBX rfl ⟨by omega, by omega⟩ (fun b_8 => ?_)
          try simp only [Int.toNat_natCast, i3, ws.2.2.1]
          try simp only [Int.toNat_natCast, i3, ws.2.2.1] at b_8
          refine T_al d_X1_nameThirds_56 rfl ?_
          refine F_gr (b := 44) d_X1_nameThirds_57 rfl hF rfl ?_
          refine F_gr (b := 47) d_X1_nameThirds_60 rfl hF rfl ?_
          refine T_il d_X1_nameThirds_63 rfl ?_
          refine F_ia d_X1_nameThirds_64 rfl hBX rfl ⟨by omega, by omega⟩ (fun b_9 => ?_)
          try simp only [Int.toNat_natCast, wp.2.2.1]
          try simp only [Int.toNat_natCast, wp.2.2.1] at b_9
          refine T_isub d_X1_nameThirds_65 ?_
          refine T_k d_X1_nameThirds_66 ?_
          refine C_pv3 d_X1_nameThirds_67 rfl (hdF (by decide)) (hcF _) (R_X1_isLong (S := S) (K := K) (ka := ka) (j := 3) hBX hF hka hla hba h19 kCX ko (Or.inr rfl) (by omega) (by omega)) ?_
          refine T_pz0 d_X1_nameThirds_70 (fun h70 => ?_) (fun h70 => ?_)
          · skip
            refine F_incg d_X1_nameThirds_93 rfl (f := fun x_10 => [(0, vr 52), (1, vi (p:Int)), (2, vi x_10), (3, vi x_4)]) (fun _ => rfl) (fun x_10 ex_10 => ?_)
            refine T_go d_X1_nameThirds_96 ?_
            -- to 7 12f.24f.70t@7
            refine T_subp (ks := [0, 1, 2]) (ls' := [(0, vr 52), (1, vi (p:Int)), (2, vi x_10)]) rfl ?_
            have nt : ¬ thd S K p (nthB (crn S K) S.m c) = true := fun z => h70 (of_decide_eq_true z).2.2
            obtain rfl : x_10 = ((c + 1) : Int) := by omega
            exact ih7 X (c + 1) ((nthB (crn S K) S.m c) + 1) (by omega) hBX fX (by omega) ⟨by omega, by rw [cntB_t sok.2.1, sok.2.2]⟩ (by rw [cntB_f nt, ← hgap]; exact h7) (by rw [cntB_f nt, ← hgap]; exact hX)
          · skip
            refine T_al d_X1_nameThirds_73 rfl ?_
            refine F_gr (b := 54) d_X1_nameThirds_74 rfl hF rfl ?_
            refine T_al d_X1_nameThirds_77 rfl ?_
            refine F_gi d_X1_nameThirds_78 rfl hBX rfl (fun b_11 => ?_)
            refine T_il d_X1_nameThirds_81 rfl ?_
            refine F_is d_X1_nameThirds_82 rfl hBX rfl ⟨by omega, by omega⟩ ⟨by omega, by omega⟩ (fun V_12 eV_12 hBV_12 => ?_)
            have fV_12 := chg_u eV_12 rfl fX
            have kCV_12 := kC_c kCV h19 fV_12 rfl
            have mCV_12 := mapC_c mCV fV_12 rfl
            refine T_al d_X1_nameThirds_83 rfl ?_
            refine T_dup d_X1_nameThirds_84 rfl ?_
            refine F_gi d_X1_nameThirds_85 rfl hBV_12 rfl (fun b_13 => ?_)
            have fV_12_52_7 : V_12 52 7 = X 52 7 := by rw [eV_12]; rfl
            rw [fV_12_52_7]
            rw [fV_12_52_7] at b_13
            refine T_k d_X1_nameThirds_88 ?_
            refine T_iadd d_X1_nameThirds_89 ?_
            refine F_pi d_X1_nameThirds_90 rfl hBV_12 rfl ⟨by omega, by omega⟩ (fun V_14 eV_14 hBV_14 => ?_)
            have fV_14 := chg_u eV_14 rfl fV_12
            have kCV_14 := kC_c kCV h19 fV_14 rfl
            have mCV_14 := mapC_c mCV fV_14 rfl
            refine F_incg d_X1_nameThirds_93 rfl (f := fun x_15 => [(0, vr 52), (1, vi (p:Int)), (2, vi x_15), (3, vi x_4)]) (fun _ => rfl) (fun x_15 ex_15 => ?_)
            refine T_go d_X1_nameThirds_96 ?_
            -- to 7 12f.24f.70f@7
            refine T_subp (ks := [0, 1, 2]) (ls' := [(0, vr 52), (1, vi (p:Int)), (2, vi x_15)]) rfl ?_
            have yt : thd S K p (nthB (crn S K) S.m c) = true := decide_eq_true ⟨sok.2.1, by omega, h70⟩
            obtain rfl : x_15 = ((c + 1) : Int) := by omega
            exact ih7 V_14 (c + 1) ((nthB (crn S K) S.m c) + 1) (by omega) hBV_14 fV_14 (by omega) ⟨by omega, by rw [cntB_t sok.2.1, sok.2.2]⟩ (by rw [cntB_t yt, ← hgap, eV_14]; show X 52 7 + 1 = _; rw [h7]; rfl) (by rw [cntB_t yt, ← hgap]; exact row_p (X := X) (s := cntB (thd S K p) e) (f := fun t => (nthB (thd S K p) S.m t : Int)) (by rw [eV_14, eV_12, h7, Int.toNat_natCast]; rfl) (by rw [hgap, nth_cnt sok.1 yt]; omega) hX)
  exact L7 _ V_1 (0) (0) (Nat.lt_succ_self _) hBV_1 fV_1 (by first | assumption | omega) ⟨Nat.zero_le _, rfl⟩ (by rw [eV_1]; rfl) (fun t ht => absurd ht (Nat.not_lt_zero _))
