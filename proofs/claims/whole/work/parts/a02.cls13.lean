set_option maxHeartbeats 1000000 in
set_option maxRecDepth 100000 in
theorem R_X1_isFit {G : GG} {V : VV} {R : RR}  {S : Sp} {K : Kd} {ka : Nat} {s : Nat} (hB : Bd V) (hF : FinR R) (hka : R 52 3 = some ka) (hla : lay ka = (1, 20)) (hba : arB ka = some (-1, 500)) (h19 : 19 ≤ ka ∧ ka ≤ 23) (kCV : kC K ka V) (ko : kO K) (mCV : mapC S V) (so : sO S) (hs : s < S.m) : RunsP G M_X1_isFit 1 [vr 52, vi (s:Int)] V R (vi (bi (decide (fitP S K s)))) := by
  unfold RunsP
  refine Runs.of pn_X1 (Nat.le_of_ble_eq_true rfl) rfl ?_
  show TT G M_X1_isFit (rmd 1 162 162) 162 (Zm G 162 162 (QP V R (vi (bi (decide (fitP S K s)))))) 162 0 [(0, vr 52), (1, vi (s:Int))] [] V R
  have hm4 := so.1
  have kl5 : V ka (5 : Int).toNat = K.l 5 := (kCV 5 (by omega)).1
  have kh5 : V ka (15 : Int).toNat = K.h 5 := ((kCV 5 (by omega)).2).trans (if_pos rfl)
  have w := (mCV.1.2 s hs).2.2.2
  refine T_al d_X1_isFit_0 rfl ?_
  refine F_gr (b := 44) d_X1_isFit_1 rfl hF rfl ?_
  refine F_gr (b := 48) d_X1_isFit_4 rfl hF rfl ?_
  refine T_il d_X1_isFit_7 rfl ?_
  refine F_ia d_X1_isFit_8 rfl hB rfl ⟨by omega, by omega⟩ (fun b_1 => ?_)
  try simp only [Int.toNat_natCast, w]
  try simp only [Int.toNat_natCast, w] at b_1
  refine T_al d_X1_isFit_9 rfl ?_
  refine T_gr uws_ok d_X1_isFit_10 rfl (lay_lc rfl (by decide)) hka ?_
  refine T_k d_X1_isFit_13 ?_
  refine F_ia d_X1_isFit_14 hla hB hba ⟨by omega, by omega⟩ (fun b_2 => ?_)
  try simp only [Int.toNat_natCast, kl5]
  try simp only [Int.toNat_natCast, kl5] at b_2
  refine T_ilt d_X1_isFit_15 ⟨by omega, by omega⟩ ⟨by omega, by omega⟩ (fun h15 => ?_) (fun h15 => ?_)
  · skip
    refine T_k d_X1_isFit_41 ?_
    -- leaf 15t@42
    exact P_F d_X1_isFit_42 (by intro z; have := z.1; omega)
  · skip
    refine T_al d_X1_isFit_18 rfl ?_
    refine F_gr (b := 44) d_X1_isFit_19 rfl hF rfl ?_
    refine F_gr (b := 48) d_X1_isFit_22 rfl hF rfl ?_
    refine T_il d_X1_isFit_25 rfl ?_
    refine F_ia d_X1_isFit_26 rfl hB rfl ⟨by omega, by omega⟩ (fun b_3 => ?_)
    try simp only [Int.toNat_natCast, w]
    try simp only [Int.toNat_natCast, w] at b_3
    refine T_al d_X1_isFit_27 rfl ?_
    refine T_gr uws_ok d_X1_isFit_28 rfl (lay_lc rfl (by decide)) hka ?_
    refine T_k d_X1_isFit_31 ?_
    refine F_ia d_X1_isFit_33 hla hB hba ⟨by omega, by omega⟩ (fun b_4 => ?_)
    try simp only [Int.toNat_natCast, kh5]
    try simp only [Int.toNat_natCast, kh5] at b_4
    refine T_igt d_X1_isFit_34 ⟨by omega, by omega⟩ ⟨by omega, by omega⟩ (fun h34 => ?_) (fun h34 => ?_)
    · skip
      refine T_k d_X1_isFit_41 ?_
      -- leaf 15f.34t@42
      exact P_F d_X1_isFit_42 (by intro z; have := z.2; omega)
    · skip
      refine T_k d_X1_isFit_37 ?_
      refine T_go d_X1_isFit_38 ?_
      -- leaf 15f.34f@42
      exact P_T d_X1_isFit_42 (by exact ⟨by omega, by omega⟩)
set_option maxHeartbeats 1000000 in
set_option maxRecDepth 100000 in
theorem R_X1_isLong {G : GG} {V : VV} {R : RR} {x : Int} {y : Int} {S : Sp} {K : Kd} {ka : Nat} {j : Nat} (hB : Bd V) (hF : FinR R) (hka : R 52 3 = some ka) (hla : lay ka = (1, 20)) (hba : arB ka = some (-1, 500)) (h19 : 19 ≤ ka ∧ ka ≤ 23) (kCV : kC K ka V) (ko : kO K) (hj : j = 2 ∨ j = 3) (hx : -1000 ≤ x ∧ x ≤ 1000) (hy : -1000 ≤ y ∧ y ≤ 1000) : RunsP G M_X1_isLong 1 [vr 52, vi x, vi y, vi (j:Int)] V R (vi (bi (decide (K.l j * K.l j ≤ x * x + y * y ∧ x * x + y * y ≤ K.h j * K.h j)))) := by
  unfold RunsP
  refine Runs.of pn_X1 (Nat.le_of_ble_eq_true rfl) rfl ?_
  show TT G M_X1_isLong (rmd 1 162 162) 162 (Zm G 162 162 (QP V R (vi (bi (decide (K.l j * K.l j ≤ x * x + y * y ∧ x * x + y * y ≤ K.h j * K.h j)))))) 162 0 [(0, vr 52), (1, vi x), (2, vi y), (3, vi (j:Int))] [] V R
  have klj := (kCV j (by omega)).1
  have khj : V ka (10 + j) = K.h j := ((kCV j (by omega)).2).trans (if_pos (by rcases hj with rfl | rfl <;> rfl))
  have tj : (10 + (j : Int)).toNat = 10 + j := by omega
  have kb : (0 ≤ K.l j ∧ K.l j ≤ 200) ∧ 0 ≤ K.h j ∧ K.h j ≤ 200 := by obtain ⟨_, _, k2, k3, _⟩ := ko; rcases hj with rfl | rfl <;> omega
  have q1 := sq_b (a := K.l j) (M := 200) (by omega) (by omega)
  have q2 := sq_b (a := K.h j) (M := 200) (by omega) (by omega)
  have q3 := sq_b (a := x) (M := 1000) (by omega) (by omega)
  have q4 := sq_b (a := y) (M := 1000) (by omega) (by omega)
  refine T_al d_X1_isLong_0 rfl ?_
  refine T_gr uws_ok d_X1_isLong_1 rfl (lay_lc rfl (by decide)) hka ?_
  refine T_il d_X1_isLong_4 rfl ?_
  refine F_ia d_X1_isLong_5 hla hB hba ⟨by omega, by omega⟩ (fun b_1 => ?_)
  try simp only [Int.toNat_natCast, klj]
  try simp only [Int.toNat_natCast, klj] at b_1
  refine F_isg d_X1_isLong_6 (f := fun x_2 => [(0, vr 52), (1, vi x), (2, vi y), (3, vi (j:Int)), (4, vi x_2)]) (fun _ => rfl) (fun x_2 ex_2 => ?_)
  refine T_al d_X1_isLong_8 rfl ?_
  refine T_gr uws_ok d_X1_isLong_9 rfl (lay_lc rfl (by decide)) hka ?_
  refine T_k d_X1_isLong_12 ?_
  refine T_il d_X1_isLong_14 rfl ?_
  refine T_iadd d_X1_isLong_15 ?_
  refine F_ia d_X1_isLong_16 hla hB hba ⟨by omega, by omega⟩ (fun b_3 => ?_)
  try simp only [Int.toNat_natCast, tj, khj]
  try simp only [Int.toNat_natCast, tj, khj] at b_3
  refine F_isg d_X1_isLong_17 (f := fun x_4 => [(0, vr 52), (1, vi x), (2, vi y), (3, vi (j:Int)), (4, vi x_2), (5, vi x_4)]) (fun _ => rfl) (fun x_4 ex_4 => ?_)
  refine T_il d_X1_isLong_19 rfl ?_
  refine T_il d_X1_isLong_20 rfl ?_
  refine T_imul d_X1_isLong_21 ?_
  refine T_il d_X1_isLong_22 rfl ?_
  refine T_il d_X1_isLong_23 rfl ?_
  refine T_imul d_X1_isLong_24 ?_
  refine T_iadd d_X1_isLong_25 ?_
  refine F_isg d_X1_isLong_26 (f := fun x_5 => [(0, vr 52), (1, vi x), (2, vi y), (3, vi (j:Int)), (4, vi x_2), (5, vi x_4), (6, vi x_5)]) (fun _ => rfl) (fun x_5 ex_5 => ?_)
  have a4 : x_2 * x_2 = K.l j * K.l j := by rw [ex_2]
  have a5 : x_4 * x_4 = K.h j * K.h j := by rw [ex_4]
  refine T_il d_X1_isLong_28 rfl ?_
  refine T_il d_X1_isLong_30 rfl ?_
  refine T_il d_X1_isLong_32 rfl ?_
  refine T_imul d_X1_isLong_34 ?_
  refine T_ilt d_X1_isLong_35 ⟨by omega, by omega⟩ ⟨by omega, by omega⟩ (fun h35 => ?_) (fun h35 => ?_)
  · skip
    refine T_k d_X1_isLong_52 ?_
    -- leaf 35t@53
    exact P_F d_X1_isLong_53 (by intro z; have := z.1; omega)
  · skip
    refine T_il d_X1_isLong_38 rfl ?_
    refine T_il d_X1_isLong_40 rfl ?_
    refine T_il d_X1_isLong_42 rfl ?_
    refine T_imul d_X1_isLong_44 ?_
    refine T_igt d_X1_isLong_45 ⟨by omega, by omega⟩ ⟨by omega, by omega⟩ (fun h45 => ?_) (fun h45 => ?_)
    · skip
      refine T_k d_X1_isLong_52 ?_
      -- leaf 35f.45t@53
      exact P_F d_X1_isLong_53 (by intro z; have := z.2; omega)
    · skip
      refine T_k d_X1_isLong_48 ?_
      refine T_go d_X1_isLong_49 ?_
      -- leaf 35f.45f@53
      exact P_T d_X1_isLong_53 (by exact ⟨by omega, by omega⟩)
set_option maxHeartbeats 1000000 in
set_option maxRecDepth 100000 in
theorem R_X1_stateAt {G : GG} {V : VV} {R : RR} {x : Int} {y : Int} {b : Bk} {k : Int} {S : Sp} {K : Kd} {ka : Nat} (hB : Bd V) (hF : FinR R) (bCV : bC b V) (ho : bO b) (hka : R 52 3 = some ka) (hla : lay ka = (1, 20)) (hba : arB ka = some (-1, 500)) (h19 : 19 ≤ ka ∧ ka ≤ 23) (kCV : kC K ka V) (ko : kO K) (mCV : mapC S V) (so : sO S) (hx : -10000 ≤ x ∧ x ≤ 10000) (hy : -10000 ≤ y ∧ y ≤ 10000) (hwk : V 52 2 = k) (hk : 0 ≤ k ∧ k ≤ 400) : RunsP G M_X1_stateAt 4 [vr 52, vi x, vi y] V R (vi (stO b k S K x y)) := by
  unfold RunsP
  refine Runs.of pn_X1 (Nat.le_of_ble_eq_true rfl) rfl ?_
  show TT G M_X1_stateAt (rmd 4 162 162) 162 (Zm G 162 162 (QP V R (vi (stO b k S K x y)))) 162 0 [(0, vr 52), (1, vi x), (2, vi y)] [] V R
  have hm4 := so.1
  have ko1 := ko
  obtain ⟨_, _, _, _, k4, k5, _⟩ := ko1
  have kl4 : V ka (4 : Int).toNat = K.l 4 := (kCV 4 (by omega)).1
  have kl5 : V ka (5 : Int).toNat = K.l 5 := (kCV 5 (by omega)).1
  have hnb := nb_r (S := S) (sl := K.l 4) (x := x) (y := y)
  have L31 : (nbO S (K.l 4) x y = -1 ∨ ¬ fitP S K (nbO S (K.l 4) x y).toNat) → TT G M_X1_stateAt (rmd 4 162 162) 162 (Zm G 162 162 (QP V R (vi (stO b k S K x y)))) 162 31 [(0, vr 52), (1, vi x), (2, vi y)] [] V R := by
    intro  hn
    refine T_al d_X1_stateAt_31 rfl ?_
    refine F_gr (b := 1) d_X1_stateAt_32 rfl hF rfl ?_
    refine T_il d_X1_stateAt_35 rfl ?_
    refine T_il d_X1_stateAt_36 rfl ?_
    refine T_al d_X1_stateAt_37 rfl ?_
    refine F_gi d_X1_stateAt_38 rfl hB rfl (fun b_1 => ?_)
    rw [hwk]
    refine C_pv3 d_X1_stateAt_41 rfl (hdF (by decide)) (hcF _) (R_X0_isDug hB hF bCV ho ⟨by omega, by omega⟩ ⟨by omega, by omega⟩ ⟨by omega, by omega⟩) ?_
    refine T_pz1 d_X1_stateAt_44 (fun h44 => ?_) (fun h44 => ?_)
    · skip
      have hp1 : 0 ≤ plgO b x y ∧ plgO b x y ≤ 100 := plg_b ho b.pn
      refine T_al d_X1_stateAt_50 rfl ?_
      refine F_gr (b := 1) d_X1_stateAt_51 rfl hF rfl ?_
      refine T_il d_X1_stateAt_54 rfl ?_
      refine T_il d_X1_stateAt_55 rfl ?_
      refine C_pv2 d_X1_stateAt_56 rfl (hdF (by decide)) (hcF _) (R_X0_ploughedAt hB hF bCV ho ⟨by omega, by omega⟩ ⟨by omega, by omega⟩) ?_
      refine F_isg d_X1_stateAt_59 (f := fun x_2 => [(0, vr 52), (1, vi x), (2, vi y), (4, vi x_2)]) (fun _ => rfl) (fun x_2 ex_2 => ?_)
      refine T_il d_X1_stateAt_61 rfl ?_
      refine T_zle d_X1_stateAt_63 ⟨by omega, by omega⟩ (fun h63 => ?_) (fun h63 => ?_)
      · skip
        refine T_k d_X1_stateAt_82 ?_
        -- leaf 44t.63t@84
        exact P_I d_X1_stateAt_84 (by rw [st_u hn, if_neg (nnI h44), if_neg (fun z => by have := z.1; omega)])
      · skip
        refine T_il d_X1_stateAt_66 rfl ?_
        refine T_al d_X1_stateAt_68 rfl ?_
        refine T_gr uws_ok d_X1_stateAt_69 rfl (lay_lc rfl (by decide)) hka ?_
        refine T_k d_X1_stateAt_72 ?_
        refine F_ia d_X1_stateAt_73 hla hB hba ⟨by omega, by omega⟩ (fun b_3 => ?_)
        try simp only [Int.toNat_natCast, kl5]
        try simp only [Int.toNat_natCast, kl5] at b_3
        refine T_ilt d_X1_stateAt_74 ⟨by omega, by omega⟩ ⟨by omega, by omega⟩ (fun h74 => ?_) (fun h74 => ?_)
        · skip
          refine T_k d_X1_stateAt_82 ?_
          -- leaf 44t.63f.74t@84
          exact P_I d_X1_stateAt_84 (by rw [st_u hn, if_neg (nnI h44), if_neg (fun z => by have := z.2; omega)])
        · skip
          refine T_k d_X1_stateAt_77 ?_
          refine T_go d_X1_stateAt_79 ?_
          -- leaf 44t.63f.74f@84
          exact P_I d_X1_stateAt_84 (by rw [st_u hn, if_neg (nnI h44), if_pos ⟨by omega, by omega⟩])
    · skip
      refine T_k d_X1_stateAt_47 ?_
      -- leaf 44f@49
      exact P_I d_X1_stateAt_49 (by rw [st_u hn, if_pos h44])
  refine T_al d_X1_stateAt_0 rfl ?_
  refine F_gr (b := 44) d_X1_stateAt_1 rfl hF rfl ?_
  refine T_il d_X1_stateAt_4 rfl ?_
  refine T_il d_X1_stateAt_5 rfl ?_
  refine T_al d_X1_stateAt_6 rfl ?_
  refine T_gr uws_ok d_X1_stateAt_7 rfl (lay_lc rfl (by decide)) hka ?_
  refine T_k d_X1_stateAt_10 ?_
  refine F_ia d_X1_stateAt_11 hla hB hba ⟨by omega, by omega⟩ (fun b_4 => ?_)
  try simp only [Int.toNat_natCast, kl4]
  try simp only [Int.toNat_natCast, kl4] at b_4
  refine C_pv3 d_X1_stateAt_12 rfl (hdF (by decide)) (hcF _) (R_X8_nearest (S := S) hB hF mCV so hx hy (by omega)) ?_
  refine F_isg d_X1_stateAt_15 (f := fun x_5 => [(0, vr 52), (1, vi x), (2, vi y), (3, vi x_5)]) (fun _ => rfl) (fun x_5 ex_5 => ?_)
  have hn1 : x_5 = -1 ∨ (0 ≤ x_5 ∧ x_5 < S.m) := by rw [ex_5]; rcases hnb with w | ⟨c, w, w2, _⟩ <;> omega
  clear hnb
  refine T_il d_X1_stateAt_16 rfl ?_
  refine T_k d_X1_stateAt_17 ?_
  refine T_ieq d_X1_stateAt_18 ⟨by omega, by omega⟩ ⟨by omega, by omega⟩ (fun h18 => ?_) (fun h18 => ?_)
  · skip
    -- to 31 18t@31
    refine T_subp (ks := [0, 1, 2]) (ls' := [(0, vr 52), (1, vi x), (2, vi y)]) rfl ?_
    exact L31  (Or.inl (by rw [← ex_5]; exact h18))
  · skip
    obtain ⟨c, ec⟩ : ∃ c : Nat, x_5 = (c : Int) := ⟨(x_5).toNat, by omega⟩
    have hn3 := ex_5
    refine T_al d_X1_stateAt_21 rfl ?_
    refine T_il d_X1_stateAt_22 rfl ?_
    rw [ec]
    refine C_pv1 d_X1_stateAt_23 rfl (hdF (by decide)) (hcF _) (R_X1_isFit (s := c) hB hF hka hla hba h19 kCV ko mCV so (by omega)) ?_
    refine T_pz0 d_X1_stateAt_26 (fun h26 => ?_) (fun h26 => ?_)
    · skip
      -- to 31 18f.26t@31
      refine T_subp (ks := [0, 1, 2]) (ls' := [(0, vr 52), (1, vi x), (2, vi y)]) rfl ?_
      exact L31  (Or.inr (by rw [← hn3, ec, Int.toNat_natCast]; exact h26))
    · skip
      refine T_il d_X1_stateAt_29 rfl ?_
      -- leaf 18f.26f@30
      exact P_I d_X1_stateAt_30 (by rw [st_f (c := c) (by rw [← hn3]; exact ec) h26])
