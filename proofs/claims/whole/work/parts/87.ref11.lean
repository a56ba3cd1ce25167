set_option maxHeartbeats 1000000 in
set_option maxRecDepth 100000 in
theorem R_X11_far {G : GG} {V : VV} {R : RR} {s : Int} {x : Int} {y : Int} {S : Sp} (hB : Bd V) (hF : FinR R) (sMV : sM S V) (so : sO S) (hx : -10000 ≤ x ∧ x ≤ 10000) (hy : -10000 ≤ y ∧ y ≤ 10000) (hs : 0 ≤ s ∧ s < S.m) : RunsP G M_X11_far 1 [vr 99, vi s, vi x, vi y] V R (vi (d2 S s.toNat x y)) := by
  unfold RunsP
  refine Runs.of pn_X11 (Nat.le_of_ble_eq_true rfl) rfl ?_
  show TT G M_X11_far (rmd 1 162 162) 162 (Zm G 162 162 (QP V R (vi (d2 S s.toNat x y)))) 162 0 [(0, vr 99), (1, vi s), (2, vi x), (3, vi y)] [] V R
  have hm4 := so.1
  have w1 := (sMV.2 s.toNat (by omega)).2.1
  have w2 := (sMV.2 s.toNat (by omega)).2.2.1
  refine T_al d_X11_far_0 rfl ?_
  refine F_gr (b := 132) d_X11_far_1 rfl hF rfl ?_
  refine T_il d_X11_far_4 rfl ?_
  refine F_ia d_X11_far_5 rfl hB rfl ⟨by omega, by omega⟩ (fun b_1 => ?_)
  try simp only [Int.toNat_natCast, w1]
  try simp only [Int.toNat_natCast, w1] at b_1
  refine T_il d_X11_far_6 rfl ?_
  refine T_isub d_X11_far_7 ?_
  refine T_al d_X11_far_8 rfl ?_
  refine F_gr (b := 132) d_X11_far_9 rfl hF rfl ?_
  refine T_il d_X11_far_12 rfl ?_
  refine F_ia d_X11_far_13 rfl hB rfl ⟨by omega, by omega⟩ (fun b_2 => ?_)
  try simp only [Int.toNat_natCast, w1]
  try simp only [Int.toNat_natCast, w1] at b_2
  refine T_il d_X11_far_14 rfl ?_
  refine T_isub d_X11_far_15 ?_
  refine T_imul d_X11_far_16 ?_
  refine T_al d_X11_far_17 rfl ?_
  refine F_gr (b := 133) d_X11_far_18 rfl hF rfl ?_
  refine T_il d_X11_far_21 rfl ?_
  refine F_ia d_X11_far_22 rfl hB rfl ⟨by omega, by omega⟩ (fun b_3 => ?_)
  try simp only [Int.toNat_natCast, w2]
  try simp only [Int.toNat_natCast, w2] at b_3
  refine T_il d_X11_far_23 rfl ?_
  refine T_isub d_X11_far_24 ?_
  refine T_al d_X11_far_25 rfl ?_
  refine F_gr (b := 133) d_X11_far_26 rfl hF rfl ?_
  refine T_il d_X11_far_29 rfl ?_
  refine F_ia d_X11_far_30 rfl hB rfl ⟨by omega, by omega⟩ (fun b_4 => ?_)
  try simp only [Int.toNat_natCast, w2]
  try simp only [Int.toNat_natCast, w2] at b_4
  refine T_il d_X11_far_31 rfl ?_
  refine T_isub d_X11_far_32 ?_
  refine T_imul d_X11_far_33 ?_
  refine T_iadd d_X11_far_34 ?_
  -- leaf @35
  exact P_I d_X11_far_35 (by rfl)
set_option maxHeartbeats 1000000 in
set_option maxRecDepth 100000 in
theorem R_X11_placed {G : GG} {V : VV} {R : RR} {x : Int} {y : Int} {k : Int} {b : Bk} {S : Sp} {K : Kd} {kd : Nat} (hB : Bd V) (hF : FinR R) (bMV : bM b V) (sMV : sM S V) (so : sO S) (hx : -10000 ≤ x ∧ x ≤ 10000) (hy : -10000 ≤ y ∧ y ≤ 10000) (hkd : kd < 5) (kMV : kM K kd V) (ko : kO K) (hk : 0 ≤ k ∧ k ≤ 400) : RunsP G M_X11_placed 3 [vr 99, vi (kd:Int), vi x, vi y, vi k] V R (vi (stO b k S K x y)) := by
  unfold RunsP
  refine Runs.of pn_X11 (Nat.le_of_ble_eq_true rfl) rfl ?_
  show TT G M_X11_placed (rmd 3 162 162) 162 (Zm G 162 162 (QP V R (vi (stO b k S K x y)))) 162 0 [(0, vr 99), (1, vi (kd:Int)), (2, vi x), (3, vi y), (4, vi k)] [] V R
  have ho := bO_of bMV hB
  have hm4 := so.1
  have h49 := sMV.1
  have t4 : (10 * (kd : Int) + 4).toNat = 10 * kd + 4 := by omega
  have t5 : (10 * (kd : Int) + 5).toNat = 10 * kd + 5 := by omega
  have l4 := (kMV 4 (by omega)).1
  have l5 := (kMV 5 (by omega)).1
  have h5 := (kMV 5 (by omega)).2
  obtain ⟨_, _, _, _, ko4, ko5, _⟩ := ko
  have L123 : (¬ (nbO S (K.l 4) x y ≠ -1 ∧ K.l 5 ≤ S.f (nbO S (K.l 4) x y).toNat ∧ S.f (nbO S (K.l 4) x y).toNat ≤ K.h 5)) → TT G M_X11_placed (rmd 3 162 162) 162 (Zm G 162 162 (QP V R (vi (stO b k S K x y)))) 162 123 [(0, vr 99), (1, vi (kd:Int)), (2, vi x), (3, vi y), (4, vi k)] [] V R := by
    intro  hn
    refine T_il d_X11_placed_123 rfl ?_
    refine T_il d_X11_placed_124 rfl ?_
    refine C_ps2 d_X11_placed_125 (hdF (by decide)) (hcF _) (R_X11_isField ⟨by omega, by omega⟩ ⟨by omega, by omega⟩) ?_
    refine T_pz0 d_X11_placed_128 (fun h128 => ?_) (fun h128 => ?_)
    · skip
      refine T_k d_X11_placed_142 ?_
      -- leaf 128t@144
      exact P_I d_X11_placed_144 (by unfold stO; rw [if_neg hn, if_pos (fun z => h128 (dug_fd ho z))])
    · skip
      refine T_al d_X11_placed_131 rfl ?_
      refine T_il d_X11_placed_132 rfl ?_
      refine T_il d_X11_placed_133 rfl ?_
      refine T_il d_X11_placed_134 rfl ?_
      refine C_pv3 d_X11_placed_136 rfl (hdF (by decide)) (hcF _) (R_X11_isDug hB hF bMV ⟨by omega, by omega⟩ ⟨by omega, by omega⟩ ⟨by omega, by omega⟩) ?_
      refine T_pz1 d_X11_placed_139 (fun h139 => ?_) (fun h139 => ?_)
      · skip
        have hp1 : 0 ≤ plgO b x y ∧ plgO b x y ≤ 100 := plg_b ho b.pn
        refine T_al d_X11_placed_145 rfl ?_
        refine T_il d_X11_placed_146 rfl ?_
        refine T_il d_X11_placed_147 rfl ?_
        refine C_pv2 d_X11_placed_148 rfl (hdF (by decide)) (hcF _) (R_X11_ploughed hB hF bMV ⟨by omega, by omega⟩ ⟨by omega, by omega⟩) ?_
        refine F_isg d_X11_placed_151 (f := fun x_1 => [(0, vr 99), (1, vi (kd:Int)), (2, vi x), (3, vi y), (4, vi k), (7, vi x_1)]) (fun _ => rfl) (fun x_1 ex_1 => ?_)
        refine T_il d_X11_placed_153 rfl ?_
        refine T_zle d_X11_placed_155 ⟨by omega, by omega⟩ (fun h155 => ?_) (fun h155 => ?_)
        · skip
          refine T_k d_X11_placed_179 ?_
          -- leaf 128f.139t.155t@181
          exact P_I d_X11_placed_181 (by unfold stO; rw [if_neg hn, if_neg (nnI h139), if_neg (fun z => by have := z.1; omega)])
        · skip
          refine T_il d_X11_placed_158 rfl ?_
          refine T_al d_X11_placed_160 rfl ?_
          refine F_gr (b := 122) d_X11_placed_161 rfl hF rfl ?_
          refine T_k d_X11_placed_164 ?_
          refine T_il d_X11_placed_166 rfl ?_
          refine T_imul d_X11_placed_167 ?_
          refine T_k d_X11_placed_168 ?_
          refine T_iadd d_X11_placed_169 ?_
          refine F_ia d_X11_placed_170 rfl hB rfl ⟨by omega, by omega⟩ (fun b_2 => ?_)
          try simp only [Int.toNat_natCast, t5, l5]
          try simp only [Int.toNat_natCast, t5, l5] at b_2
          refine T_ilt d_X11_placed_171 ⟨by omega, by omega⟩ ⟨by omega, by omega⟩ (fun h171 => ?_) (fun h171 => ?_)
          · skip
            refine T_k d_X11_placed_179 ?_
            -- leaf 128f.139t.155f.171t@181
            exact P_I d_X11_placed_181 (by unfold stO; rw [if_neg hn, if_neg (nnI h139), if_neg (fun z => by have := z.2; omega)])
          · skip
            refine T_k d_X11_placed_174 ?_
            refine T_go d_X11_placed_176 ?_
            -- leaf 128f.139t.155f.171f@181
            exact P_I d_X11_placed_181 (by unfold stO; rw [if_neg hn, if_neg (nnI h139), if_pos ⟨by omega, by omega⟩])
      · skip
        refine T_k d_X11_placed_142 ?_
        -- leaf 128f.139f@144
        exact P_I d_X11_placed_144 (by unfold stO; rw [if_neg hn, if_pos h139])
  refine T_k d_X11_placed_0 ?_
  refine T_is d_X11_placed_1 (ls' := [(0, vr 99), (1, vi (kd:Int)), (2, vi x), (3, vi y), (4, vi k), (5, vi (-1))]) rfl ?_
  refine T_k d_X11_placed_3 ?_
  refine T_is d_X11_placed_4 (ls' := [(0, vr 99), (1, vi (kd:Int)), (2, vi x), (3, vi y), (4, vi k), (5, vi (-1)), (6, vi 0)]) rfl ?_
  -- to 6 @6
  have L6 : ∀ (fu : Nat) (v : Int) (s : Nat), S.m - s < fu → (s ≤ S.m) → (v = bsF S x y s) → TT G M_X11_placed (rmd 3 162 162) 162 (Zm G 162 162 (QP V R (vi (stO b k S K x y)))) 162 6 [(0, vr 99), (1, vi (kd:Int)), (2, vi x), (3, vi y), (4, vi k), (5, vi v), (6, vi (s : Int))] [] V R := by
    intro fu
    induction fu with
    | zero => intro v s hm; exact absurd hm (Nat.not_lt_zero _)
    | succ fu ih6 =>
      intro v s hm6 hs hv
      have hv1 : -1 ≤ v ∧ v < s := by rw [hv]; rcases bs_is (S := S) (x := x) (y := y) s with ⟨a1, a2⟩ | ⟨c, a1, a2⟩; omega; have := a2.1; omega
      refine T_il d_X11_placed_6 rfl ?_
      refine T_al d_X11_placed_8 rfl ?_
      refine F_gi d_X11_placed_9 rfl hB rfl (fun b_3 => ?_)
      refine T_ige d_X11_placed_12 ⟨by omega, by omega⟩ ⟨by omega, by omega⟩ (fun h12 => ?_) (fun h12 => ?_)
      · skip
        have hv2 : v = bsF S x y S.m := by rw [hv, show s = S.m by omega]
        refine T_al d_X11_placed_50 rfl ?_
        refine F_gr (b := 122) d_X11_placed_51 rfl hF rfl ?_
        refine T_k d_X11_placed_54 ?_
        refine T_il d_X11_placed_56 rfl ?_
        refine T_imul d_X11_placed_57 ?_
        refine T_k d_X11_placed_58 ?_
        refine T_iadd d_X11_placed_59 ?_
        refine F_ia d_X11_placed_60 rfl hB rfl ⟨by omega, by omega⟩ (fun b_4 => ?_)
        try simp only [Int.toNat_natCast, t4, l4]
        try simp only [Int.toNat_natCast, t4, l4] at b_4
        refine F_isg d_X11_placed_61 (f := fun x_5 => [(0, vr 99), (1, vi (kd:Int)), (2, vi x), (3, vi y), (4, vi k), (5, vi v), (6, vi x_5)]) (fun _ => rfl) (fun x_5 ex_5 => ?_)
        have sq4 := sq_b (a := K.l 4) (M := 9) (by omega) (by omega)
        have hsq : x_5 * x_5 = K.l 4 * K.l 4 := by rw [ex_5]
        refine T_il d_X11_placed_63 rfl ?_
        refine T_k d_X11_placed_65 ?_
        refine T_ieq d_X11_placed_66 ⟨by omega, by omega⟩ ⟨by omega, by omega⟩ (fun h66 => ?_) (fun h66 => ?_)
        · skip
          -- to 123 12t.66t@123
          refine T_subp (ks := [0, 1, 2, 3, 4]) (ls' := [(0, vr 99), (1, vi (kd:Int)), (2, vi x), (3, vi y), (4, vi k)]) rfl ?_
          exact L123  (fun z => z.1 (nb_no hv2 (Or.inl h66)))
        · skip
          have hd2 := d2_b so (show v.toNat < S.m by omega) hx hy
          have f1 := (sMV.2 v.toNat (by omega)).2.2.2
          have fo := (so.2 v.toNat (by omega)).2.2.1
          refine T_al d_X11_placed_69 rfl ?_
          refine T_il d_X11_placed_70 rfl ?_
          refine T_il d_X11_placed_72 rfl ?_
          refine T_il d_X11_placed_73 rfl ?_
          refine C_pv3 d_X11_placed_74 rfl (hdF (by decide)) (hcF _) (R_X11_far hB hF sMV so hx hy (by omega)) ?_
          refine T_il d_X11_placed_77 rfl ?_
          refine T_il d_X11_placed_79 rfl ?_
          refine T_imul d_X11_placed_81 ?_
          refine T_igt d_X11_placed_82 ⟨by omega, by omega⟩ ⟨by omega, by omega⟩ (fun h82 => ?_) (fun h82 => ?_)
          · skip
            -- to 123 12t.66f.82t@123
            refine T_subp (ks := [0, 1, 2, 3, 4]) (ls' := [(0, vr 99), (1, vi (kd:Int)), (2, vi x), (3, vi y), (4, vi k)]) rfl ?_
            exact L123  (fun z => z.1 (nb_no hv2 (Or.inr (by omega))))
          · skip
            refine T_al d_X11_placed_85 rfl ?_
            refine F_gr (b := 134) d_X11_placed_86 rfl hF rfl ?_
            refine T_il d_X11_placed_89 rfl ?_
            refine F_ia d_X11_placed_91 rfl hB rfl ⟨by omega, by omega⟩ (fun b_6 => ?_)
            try simp only [Int.toNat_natCast, f1]
            try simp only [Int.toNat_natCast, f1] at b_6
            refine T_al d_X11_placed_92 rfl ?_
            refine F_gr (b := 122) d_X11_placed_93 rfl hF rfl ?_
            refine T_k d_X11_placed_96 ?_
            refine T_il d_X11_placed_98 rfl ?_
            refine T_imul d_X11_placed_99 ?_
            refine T_k d_X11_placed_100 ?_
            refine T_iadd d_X11_placed_101 ?_
            refine F_ia d_X11_placed_102 rfl hB rfl ⟨by omega, by omega⟩ (fun b_7 => ?_)
            try simp only [Int.toNat_natCast, t5, l5]
            try simp only [Int.toNat_natCast, t5, l5] at b_7
            refine T_al d_X11_placed_103 rfl ?_
            refine F_gr (b := 123) d_X11_placed_104 rfl hF rfl ?_
            refine T_k d_X11_placed_107 ?_
            refine T_il d_X11_placed_109 rfl ?_
            refine T_imul d_X11_placed_110 ?_
            refine T_k d_X11_placed_111 ?_
            refine T_iadd d_X11_placed_112 ?_
            refine F_ia d_X11_placed_113 rfl hB rfl ⟨by omega, by omega⟩ (fun b_8 => ?_)
            try simp only [Int.toNat_natCast, t5, h5]
            try simp only [Int.toNat_natCast, t5, h5] at b_8
            refine C_ps3 d_X11_placed_114 (hdF (by decide)) (hcF _) (R_X11_in ⟨by omega, by omega⟩ ⟨by omega, by omega⟩ ⟨by omega, by omega⟩) ?_
            refine T_pz0 d_X11_placed_117 (fun h117 => ?_) (fun h117 => ?_)
            · skip
              -- to 123 12t.66f.82f.117t@123
              refine T_subp (ks := [0, 1, 2, 3, 4]) (ls' := [(0, vr 99), (1, vi (kd:Int)), (2, vi x), (3, vi y), (4, vi k)]) rfl ?_
              exact L123  (fun z => by rw [nb_ye hv2 h66 (by omega)] at z; exact h117 z.2)
            · skip
              refine T_il d_X11_placed_120 rfl ?_
              -- leaf 12t.66f.82f.117f@122
              exact P_I d_X11_placed_122 (by unfold stO; rw [nb_ye hv2 h66 (by omega), if_pos ⟨h66, h117⟩])
      · skip
        have hd1 := d2_b so (show s < S.m by omega) hx hy
        refine T_il d_X11_placed_15 rfl ?_
        refine T_k d_X11_placed_17 ?_
        refine T_ieq d_X11_placed_18 ⟨by omega, by omega⟩ ⟨by omega, by omega⟩ (fun h18 => ?_) (fun h18 => ?_)
        · skip
          refine T_il d_X11_placed_40 rfl ?_
          refine F_isg d_X11_placed_42 (f := fun x_9 => [(0, vr 99), (1, vi (kd:Int)), (2, vi x), (3, vi y), (4, vi k), (5, vi x_9), (6, vi (s : Int))]) (fun _ => rfl) (fun x_9 ex_9 => ?_)
          refine F_incg d_X11_placed_44 rfl (f := fun x_10 => [(0, vr 99), (1, vi (kd:Int)), (2, vi x), (3, vi y), (4, vi k), (5, vi x_9), (6, vi x_10)]) (fun _ => rfl) (fun x_10 ex_10 => ?_)
          refine T_go d_X11_placed_47 ?_
          -- to 6 12f.18t@6
          obtain rfl : x_10 = ((s + 1) : Int) := by omega
          exact ih6 x_9 (s + 1) (by omega) (by first | assumption | omega) (by unfold bsF; rw [← hv, if_pos (Or.inl h18)]; exact ex_9)
        · skip
          have hd2 := d2_b so (show v.toNat < S.m by omega) hx hy
          refine T_al d_X11_placed_21 rfl ?_
          refine T_il d_X11_placed_22 rfl ?_
          refine T_il d_X11_placed_24 rfl ?_
          refine T_il d_X11_placed_25 rfl ?_
          refine C_pv3 d_X11_placed_26 rfl (hdF (by decide)) (hcF _) (R_X11_far hB hF sMV so hx hy (by omega)) ?_
          try simp only [Int.toNat_natCast]
          refine T_al d_X11_placed_29 rfl ?_
          refine T_il d_X11_placed_30 rfl ?_
          refine T_il d_X11_placed_32 rfl ?_
          refine T_il d_X11_placed_33 rfl ?_
          refine C_pv3 d_X11_placed_34 rfl (hdF (by decide)) (hcF _) (R_X11_far hB hF sMV so hx hy (by omega)) ?_
          refine T_ige d_X11_placed_37 ⟨by omega, by omega⟩ ⟨by omega, by omega⟩ (fun h37 => ?_) (fun h37 => ?_)
          · skip
            refine F_incg d_X11_placed_44 rfl (f := fun x_11 => [(0, vr 99), (1, vi (kd:Int)), (2, vi x), (3, vi y), (4, vi k), (5, vi v), (6, vi x_11)]) (fun _ => rfl) (fun x_11 ex_11 => ?_)
            refine T_go d_X11_placed_47 ?_
            -- to 6 12f.18f.37t@6
            obtain rfl : x_11 = ((s + 1) : Int) := by omega
            exact ih6 v (s + 1) (by omega) (by first | assumption | omega) (by unfold bsF; rw [← hv, if_neg (fun z => by rcases z with z | z <;> omega)])
          · skip
            refine T_il d_X11_placed_40 rfl ?_
            refine F_isg d_X11_placed_42 (f := fun x_12 => [(0, vr 99), (1, vi (kd:Int)), (2, vi x), (3, vi y), (4, vi k), (5, vi x_12), (6, vi (s : Int))]) (fun _ => rfl) (fun x_12 ex_12 => ?_)
            refine F_incg d_X11_placed_44 rfl (f := fun x_13 => [(0, vr 99), (1, vi (kd:Int)), (2, vi x), (3, vi y), (4, vi k), (5, vi x_12), (6, vi x_13)]) (fun _ => rfl) (fun x_13 ex_13 => ?_)
            refine T_go d_X11_placed_47 ?_
            -- to 6 12f.18f.37f@6
            obtain rfl : x_13 = ((s + 1) : Int) := by omega
            exact ih6 x_12 (s + 1) (by omega) (by first | assumption | omega) (by unfold bsF; rw [← hv, if_pos (Or.inr h37)]; exact ex_12)
  exact L6 _ (-1) (0) (Nat.lt_succ_self _) (by first | assumption | omega) rfl
set_option maxHeartbeats 1000000 in
set_option maxRecDepth 100000 in
theorem R_X8_rotate {G : GG} {V : VV} {R : RR}  {S : Sp} {t : Nat} (hB : Bd V) (hF : FinR R) (h4 : V 44 4 = (S.m : Int)) (hm : S.m ≤ 40) (ht : t ≤ 7) : Runs G M_X8_rotate 1 162 162 [vr 44, vi (t:Int)] V R (PQ [(47, 47)] [] V R (fun r X => r = none ∧ ∀ i, i < S.m → X 47 i = V 49 ((i + t) % S.m))) := by
  refine Runs.of pn_X8 (Nat.le_of_ble_eq_true rfl) rfl ?_
  show TT G M_X8_rotate (rmd 1 162 162) 162 (Zm G 162 162 (PQ [(47, 47)] [] V R (fun r X => r = none ∧ ∀ i, i < S.m → X 47 i = V 49 ((i + t) % S.m)))) 162 0 [(0, vr 44), (1, vi (t:Int))] [] V R
  have fV : chg [(47, 47)] [] V V := chg_r
  refine T_k d_X8_rotate_0 ?_
  refine T_is d_X8_rotate_1 (ls' := [(0, vr 44), (1, vi (t:Int)), (2, vi 0)]) rfl ?_
  -- to 2 @2
  have L2 : ∀ (fu : Nat) (X : VV) (i : Nat), S.m - i < fu → (Bd X) → (chg [(47, 47)] [] V X) → (i ≤ S.m) → (∀ j, j < i → X 47 j = V 49 ((j + t) % S.m)) → TT G M_X8_rotate (rmd 1 162 162) 162 (Zm G 162 162 (PQ [(47, 47)] [] V R (fun r X => r = none ∧ ∀ i, i < S.m → X 47 i = V 49 ((i + t) % S.m)))) 162 2 [(0, vr 44), (1, vi (t:Int)), (2, vi (i : Int))] [] X R := by
    intro fu
    induction fu with
    | zero => intro X i hm; exact absurd hm (Nat.not_lt_zero _)
    | succ fu ih2 =>
      intro X i hm2 hBX fX hi hX
      have x4 : X 44 4 = (S.m : Int) := by rw [chg_k (c := 44) fX rfl]; exact h4
      have x49 : X 49 = V 49 := chg_k fX rfl
      refine T_il d_X8_rotate_2 rfl ?_
      refine T_al d_X8_rotate_3 rfl ?_
      refine F_gi d_X8_rotate_4 rfl hBX rfl (fun b_1 => ?_)
      refine T_ige d_X8_rotate_7 ⟨by omega, by omega⟩ ⟨by omega, by omega⟩ (fun h7 => ?_) (fun h7 => ?_)
      · skip
        -- leaf 7t@35
        refine T_vret d_X8_rotate_35 rfl ?_
        exact ⟨rfl, hBX, fX, rfl, fun j hj => hX j (by omega)⟩
      · skip
        refine T_al d_X8_rotate_10 rfl ?_
        refine F_gr (b := 47) d_X8_rotate_11 rfl hF rfl ?_
        refine T_il d_X8_rotate_14 rfl ?_
        refine T_al d_X8_rotate_15 rfl ?_
        refine F_gr (b := 49) d_X8_rotate_16 rfl hF rfl ?_
        refine T_il d_X8_rotate_19 rfl ?_
        refine T_il d_X8_rotate_20 rfl ?_
        refine T_iadd d_X8_rotate_21 ?_
        refine T_al d_X8_rotate_22 rfl ?_
        refine F_gi d_X8_rotate_23 rfl hBX rfl (fun b_2 => ?_)
        refine T_irem d_X8_rotate_26 ⟨by omega, by omega⟩ (by rw [x4]; omega) ?_
        have r0 : (((i : Int) + (t : Int)) % X 44 4) = (((i + t) % S.m : Nat) : Int) := by rw [x4]; push_cast; rfl
        have r1 : (i + t) % S.m < S.m := Nat.mod_lt _ (by omega)
        rw [r0]
        refine F_ia d_X8_rotate_27 rfl hBX rfl ⟨by omega, by omega⟩ (fun b_3 => ?_)
        try simp only [Int.toNat_natCast, x49]
        try simp only [Int.toNat_natCast, x49] at b_3
        refine F_is d_X8_rotate_28 rfl hBX rfl ⟨by omega, by omega⟩ ⟨by omega, by omega⟩ (fun V_4 eV_4 hBV_4 => ?_)
        have fV_4 := chg_u eV_4 rfl fX
        refine F_incg d_X8_rotate_29 rfl (f := fun x_5 => [(0, vr 44), (1, vi (t:Int)), (2, vi x_5)]) (fun _ => rfl) (fun x_5 ex_5 => ?_)
        refine T_go d_X8_rotate_32 ?_
        -- to 2 7f@2
        obtain rfl : x_5 = ((i + 1) : Int) := by omega
        exact ih2 V_4 (i + 1) (by omega) hBV_4 fV_4 (by first | assumption | omega) (row_s (f := fun j => V 49 ((j + t) % S.m)) eV_4 rfl hX)
  exact L2 _ V (0) (Nat.lt_succ_self _) hB fV (by first | assumption | omega) (fun j hj => absurd hj (Nat.not_lt_zero _))
set_option maxHeartbeats 1000000 in
set_option maxRecDepth 100000 in
theorem R_X8_sortByX {G : GG} {V : VV} {R : RR}  {S : Sp} (hB : Bd V) (hF : FinR R) (h4 : V 44 4 = (S.m : Int)) (hm : S.m ≤ 40) : Runs G M_X8_sortByX 1 162 162 [vr 44] V R (PQ [(50, 51)] [] V R (fun r X => r = none ∧ srt (V 46) (X 50) S.m ∧ ahd (V 46) (X 50) S.m (X 51) 500)) := by
  refine Runs.of pn_X8 (Nat.le_of_ble_eq_true rfl) rfl ?_
  show TT G M_X8_sortByX (rmd 1 162 162) 162 (Zm G 162 162 (PQ [(50, 51)] [] V R (fun r X => r = none ∧ srt (V 46) (X 50) S.m ∧ ahd (V 46) (X 50) S.m (X 51) 500))) 162 0 [(0, vr 44)] [] V R
  have fV : chg [(50, 51)] [] V V := chg_r
  refine T_k d_X8_sortByX_0 ?_
  refine T_is d_X8_sortByX_1 (ls' := [(0, vr 44), (1, vi 0)]) rfl ?_
  -- to 2 @2
  have L2 : ∀ (fu : Nat) (X : VV) (i : Nat), S.m - i < fu → (Bd X) → (chg [(50, 51)] [] V X) → (i ≤ S.m) → (srt (V 46) (X 50) i) → TT G M_X8_sortByX (rmd 1 162 162) 162 (Zm G 162 162 (PQ [(50, 51)] [] V R (fun r X => r = none ∧ srt (V 46) (X 50) S.m ∧ ahd (V 46) (X 50) S.m (X 51) 500))) 162 2 [(0, vr 44), (1, vi (i : Int))] [] X R := by
    intro fu
    induction fu with
    | zero => intro X i hm; exact absurd hm (Nat.not_lt_zero _)
    | succ fu ih2 =>
      intro X i hm2 hBX fX hi hX
      have x4 : X 44 4 = (S.m : Int) := by rw [chg_k (c := 44) fX rfl]; exact h4
      refine T_il d_X8_sortByX_2 rfl ?_
      refine T_al d_X8_sortByX_3 rfl ?_
      refine F_gi d_X8_sortByX_4 rfl hBX rfl (fun b_1 => ?_)
      refine T_ige d_X8_sortByX_7 ⟨by omega, by omega⟩ ⟨by omega, by omega⟩ (fun h7 => ?_) (fun h7 => ?_)
      · skip
        refine T_k d_X8_sortByX_71 ?_
        refine T_is d_X8_sortByX_72 (ls' := [(0, vr 44), (1, vi 0)]) rfl ?_
        refine T_k d_X8_sortByX_73 ?_
        refine T_is d_X8_sortByX_74 (ls' := [(0, vr 44), (1, vi 0), (2, vi 0)]) rfl ?_
        -- to 75 7t@75
        have L75 : ∀ (fu : Nat) (Z : VV) (a p : Nat), 500 - p < fu → (Bd Z) → (chg [(50, 51)] [] V Z) → (p ≤ 500) → (a ≤ S.m) → (srt (V 46) (Z 50) S.m) → (∀ k, k < a → V 46 (Z 50 k).toNat < (p : Int)) → (ahd (V 46) (Z 50) S.m (Z 51) p) → TT G M_X8_sortByX (rmd 1 162 162) 162 (Zm G 162 162 (PQ [(50, 51)] [] V R (fun r X => r = none ∧ srt (V 46) (X 50) S.m ∧ ahd (V 46) (X 50) S.m (X 51) 500))) 162 75 [(0, vr 44), (1, vi (a : Int)), (2, vi (p : Int))] [] Z R := by
          intro fu
          induction fu with
          | zero => intro Z a p hm; exact absurd hm (Nat.not_lt_zero _)
          | succ fu ih75 =>
            intro Z a p hm75 hBZ fZ hp ha sZ hk hZ
            have x4 : Z 44 4 = (S.m : Int) := by rw [chg_k (c := 44) fZ rfl]; exact h4
            have z46 : Z 46 = V 46 := chg_k fZ rfl
            refine T_il d_X8_sortByX_75 rfl ?_
            refine T_k d_X8_sortByX_76 ?_
            refine T_igt d_X8_sortByX_79 ⟨by omega, by omega⟩ ⟨by omega, by omega⟩ (fun h79 => ?_) (fun h79 => ?_)
            · skip
              -- leaf 79t@124
              refine T_vret d_X8_sortByX_124 rfl ?_
              exact ⟨rfl, hBZ, fZ, rfl, sZ, (show p = 500 by omega) ▸ hZ⟩
            · skip
              -- to 82 79f@82
              have L82 : ∀ (fu : Nat) (d : Nat), S.m - d < fu → (d ≤ S.m) → (∀ k, k < d → V 46 (Z 50 k).toNat < (p : Int)) → TT G M_X8_sortByX (rmd 1 162 162) 162 (Zm G 162 162 (PQ [(50, 51)] [] V R (fun r X => r = none ∧ srt (V 46) (X 50) S.m ∧ ahd (V 46) (X 50) S.m (X 51) 500))) 162 82 [(0, vr 44), (1, vi (d : Int)), (2, vi (p : Int))] [] Z R := by
                intro fu
                induction fu with
                | zero => intro d hm; exact absurd hm (Nat.not_lt_zero _)
                | succ fu ih82 =>
                  intro d hm82 hd hkd
                  refine T_il d_X8_sortByX_82 rfl ?_
                  refine T_al d_X8_sortByX_83 rfl ?_
                  refine F_gi d_X8_sortByX_84 rfl hBZ rfl (fun b_2 => ?_)
                  refine T_ige d_X8_sortByX_87 ⟨by omega, by omega⟩ ⟨by omega, by omega⟩ (fun h87 => ?_) (fun h87 => ?_)
                  · skip
                    refine T_al d_X8_sortByX_111 rfl ?_
                    refine F_gr (b := 51) d_X8_sortByX_112 rfl hF rfl ?_
                    refine T_il d_X8_sortByX_115 rfl ?_
                    refine T_il d_X8_sortByX_116 rfl ?_
                    refine F_is d_X8_sortByX_117 rfl hBZ rfl ⟨by omega, by omega⟩ ⟨by omega, by omega⟩ (fun V_3 eV_3 hBV_3 => ?_)
                    have fV_3 := chg_u eV_3 rfl fZ
                    refine F_incg d_X8_sortByX_118 rfl (f := fun x_4 => [(0, vr 44), (1, vi (d : Int)), (2, vi x_4)]) (fun _ => rfl) (fun x_4 ex_4 => ?_)
                    refine T_go d_X8_sortByX_121 ?_
                    -- to 75 87t@75
                    obtain rfl : x_4 = ((p + 1) : Int) := by omega
                    exact ih75 V_3 (d) (p + 1) (by omega) hBV_3 fV_3 (by first | assumption | omega) (by first | assumption | omega) (by rw [eV_3]; exact sZ) (fun k hk => by rw [eV_3]; have := hkd k hk; show V 46 (Z 50 k).toNat < _; omega) (ah_s hZ (by omega) hkd eV_3)
                  · skip
                    have zr := sZ.1 d (by omega)
                    refine T_al d_X8_sortByX_90 rfl ?_
                    refine F_gr (b := 46) d_X8_sortByX_91 rfl hF rfl ?_
                    refine T_al d_X8_sortByX_94 rfl ?_
                    refine F_gr (b := 50) d_X8_sortByX_95 rfl hF rfl ?_
                    refine T_il d_X8_sortByX_98 rfl ?_
                    refine F_ia d_X8_sortByX_99 rfl hBZ rfl ⟨by omega, by omega⟩ (fun b_5 => ?_)
                    try simp only [Int.toNat_natCast]
                    try simp only [Int.toNat_natCast] at b_5
                    refine F_ia d_X8_sortByX_100 rfl hBZ rfl ⟨by omega, by omega⟩ (fun b_6 => ?_)
                    try simp only [Int.toNat_natCast, z46]
                    try simp only [Int.toNat_natCast, z46] at b_6
                    refine T_il d_X8_sortByX_101 rfl ?_
                    refine T_ige d_X8_sortByX_102 ⟨by omega, by omega⟩ ⟨by omega, by omega⟩ (fun h102 => ?_) (fun h102 => ?_)
                    · skip
                      refine T_al d_X8_sortByX_111 rfl ?_
                      refine F_gr (b := 51) d_X8_sortByX_112 rfl hF rfl ?_
                      refine T_il d_X8_sortByX_115 rfl ?_
                      refine T_il d_X8_sortByX_116 rfl ?_
                      refine F_is d_X8_sortByX_117 rfl hBZ rfl ⟨by omega, by omega⟩ ⟨by omega, by omega⟩ (fun V_7 eV_7 hBV_7 => ?_)
                      have fV_7 := chg_u eV_7 rfl fZ
                      refine F_incg d_X8_sortByX_118 rfl (f := fun x_8 => [(0, vr 44), (1, vi (d : Int)), (2, vi x_8)]) (fun _ => rfl) (fun x_8 ex_8 => ?_)
                      refine T_go d_X8_sortByX_121 ?_
                      -- to 75 87f.102t@75
                      obtain rfl : x_8 = ((p + 1) : Int) := by omega
                      exact ih75 V_7 (d) (p + 1) (by omega) hBV_7 fV_7 (by first | assumption | omega) (by first | assumption | omega) (by rw [eV_7]; exact sZ) (fun k hk => by rw [eV_7]; have := hkd k hk; show V 46 (Z 50 k).toNat < _; omega) (ah_s hZ (by omega) hkd eV_7)
                    · skip
                      refine F_incg d_X8_sortByX_105 rfl (f := fun x_9 => [(0, vr 44), (1, vi x_9), (2, vi (p : Int))]) (fun _ => rfl) (fun x_9 ex_9 => ?_)
                      refine T_go d_X8_sortByX_108 ?_
                      -- to 82 87f.102f@82
                      obtain rfl : x_9 = ((d + 1) : Int) := by omega
                      exact ih82 (d + 1) (by omega) (by first | assumption | omega) (up_all hkd h102)
              exact L82 _ (a) (Nat.lt_succ_self _) (by first | assumption | omega) hk
        exact L75 _ X (0) (0) (Nat.lt_succ_self _) hBX fX (by first | assumption | omega) (by first | assumption | omega) ((show i = S.m by omega) ▸ hX) (fun k hk => absurd hk (Nat.not_lt_zero _)) (fun k hk => absurd hk (Nat.not_lt_zero _))
      · skip
        refine T_il d_X8_sortByX_10 rfl ?_
        refine F_isg d_X8_sortByX_11 (f := fun x_10 => [(0, vr 44), (1, vi (i : Int)), (2, vi x_10)]) (fun _ => rfl) (fun x_10 ex_10 => ?_)
        -- to 12 7f@12
        have L12 : ∀ (fu : Nat) (Y : VV) (a : Nat), a < fu → (Bd Y) → (chg [(50, 51)] [] V Y) → (a ≤ i) → (shf (X 50) (Y 50) a i) → (∀ k, a ≤ k → k < i → V 46 i < V 46 (X 50 k).toNat) → TT G M_X8_sortByX (rmd 1 162 162) 162 (Zm G 162 162 (PQ [(50, 51)] [] V R (fun r X => r = none ∧ srt (V 46) (X 50) S.m ∧ ahd (V 46) (X 50) S.m (X 51) 500))) 162 12 [(0, vr 44), (1, vi (i : Int)), (2, vi (a : Int))] [] Y R := by
          intro fu
          induction fu with
          | zero => intro Y a hm; exact absurd hm (Nat.not_lt_zero _)
          | succ fu ih12 =>
            intro Y a hm12 hBY fY ha hY hg
            have y46 : Y 46 = V 46 := chg_k fY rfl
            refine T_il d_X8_sortByX_12 rfl ?_
            refine T_zle d_X8_sortByX_13 ⟨by omega, by omega⟩ (fun h13 => ?_) (fun h13 => ?_)
            · skip
              refine T_al d_X8_sortByX_58 rfl ?_
              refine F_gr (b := 50) d_X8_sortByX_59 rfl hF rfl ?_
              refine T_il d_X8_sortByX_62 rfl ?_
              refine T_il d_X8_sortByX_63 rfl ?_
              refine F_is d_X8_sortByX_64 rfl hBY rfl ⟨by omega, by omega⟩ ⟨by omega, by omega⟩ (fun V_11 eV_11 hBV_11 => ?_)
              have fV_11 := chg_u eV_11 rfl fY
              refine F_incg d_X8_sortByX_65 rfl (f := fun x_12 => [(0, vr 44), (1, vi x_12), (2, vi (a : Int))]) (fun _ => rfl) (fun x_12 ex_12 => ?_)
              refine T_go d_X8_sortByX_68 ?_
              -- to 2 13t@2
              refine T_subp (ks := [0, 1]) (ls' := [(0, vr 44), (1, vi x_12)]) rfl ?_
              have se := shf_e hY eV_11
              obtain rfl : x_12 = ((i + 1) : Int) := by omega
              exact ih2 V_11 (i + 1) (by omega) hBV_11 fV_11 (by first | assumption | omega) (srt_ins hX se.1 ha (by rw [← Int.toNat_natCast a]; exact se.2) hg (Or.inl (by omega)))
            · skip
              obtain ⟨w, ew⟩ : ∃ w, a = w + 1 := ⟨a - 1, by omega⟩
              have i0 : ((a : Int) - 1).toNat = w := by omega
              have yw : Y 50 w = X 50 w := hY.1 w (by omega)
              have xr := hX.1 w (by omega)
              refine T_al d_X8_sortByX_16 rfl ?_
              refine F_gr (b := 46) d_X8_sortByX_17 rfl hF rfl ?_
              refine T_al d_X8_sortByX_20 rfl ?_
              refine F_gr (b := 50) d_X8_sortByX_21 rfl hF rfl ?_
              refine T_il d_X8_sortByX_24 rfl ?_
              refine T_k d_X8_sortByX_25 ?_
              refine T_isub d_X8_sortByX_26 ?_
              refine F_ia d_X8_sortByX_27 rfl hBY rfl ⟨by omega, by omega⟩ (fun b_13 => ?_)
              try simp only [Int.toNat_natCast, i0, yw]
              try simp only [Int.toNat_natCast, i0, yw] at b_13
              refine F_ia d_X8_sortByX_28 rfl hBY rfl ⟨by omega, by omega⟩ (fun b_14 => ?_)
              try simp only [Int.toNat_natCast, y46]
              try simp only [Int.toNat_natCast, y46] at b_14
              refine T_al d_X8_sortByX_29 rfl ?_
              refine F_gr (b := 46) d_X8_sortByX_30 rfl hF rfl ?_
              refine T_il d_X8_sortByX_33 rfl ?_
              refine F_ia d_X8_sortByX_34 rfl hBY rfl ⟨by omega, by omega⟩ (fun b_15 => ?_)
              try simp only [Int.toNat_natCast, y46]
              try simp only [Int.toNat_natCast, y46] at b_15
              refine T_ile d_X8_sortByX_35 ⟨by omega, by omega⟩ ⟨by omega, by omega⟩ (fun h35 => ?_) (fun h35 => ?_)
              · skip
                refine T_al d_X8_sortByX_58 rfl ?_
                refine F_gr (b := 50) d_X8_sortByX_59 rfl hF rfl ?_
                refine T_il d_X8_sortByX_62 rfl ?_
                refine T_il d_X8_sortByX_63 rfl ?_
                refine F_is d_X8_sortByX_64 rfl hBY rfl ⟨by omega, by omega⟩ ⟨by omega, by omega⟩ (fun V_16 eV_16 hBV_16 => ?_)
                have fV_16 := chg_u eV_16 rfl fY
                refine F_incg d_X8_sortByX_65 rfl (f := fun x_17 => [(0, vr 44), (1, vi x_17), (2, vi (a : Int))]) (fun _ => rfl) (fun x_17 ex_17 => ?_)
                refine T_go d_X8_sortByX_68 ?_
                -- to 2 13f.35t@2
                refine T_subp (ks := [0, 1]) (ls' := [(0, vr 44), (1, vi x_17)]) rfl ?_
                have se := shf_e hY eV_16
                obtain rfl : x_17 = ((i + 1) : Int) := by omega
                exact ih2 V_16 (i + 1) (by omega) hBV_16 fV_16 (by first | assumption | omega) (srt_ins hX se.1 ha (by rw [← Int.toNat_natCast a]; exact se.2) hg (Or.inr (by rw [show a - 1 = w by omega]; exact h35)))
              · skip
                refine T_al d_X8_sortByX_38 rfl ?_
                refine F_gr (b := 50) d_X8_sortByX_39 rfl hF rfl ?_
                refine T_il d_X8_sortByX_42 rfl ?_
                refine T_al d_X8_sortByX_43 rfl ?_
                refine F_gr (b := 50) d_X8_sortByX_44 rfl hF rfl ?_
                refine T_il d_X8_sortByX_47 rfl ?_
                refine T_k d_X8_sortByX_48 ?_
                refine T_isub d_X8_sortByX_49 ?_
                refine F_ia d_X8_sortByX_50 rfl hBY rfl ⟨by omega, by omega⟩ (fun b_18 => ?_)
                try simp only [Int.toNat_natCast, i0, yw]
                try simp only [Int.toNat_natCast, i0, yw] at b_18
                refine F_is d_X8_sortByX_51 rfl hBY rfl ⟨by omega, by omega⟩ ⟨by omega, by omega⟩ (fun V_19 eV_19 hBV_19 => ?_)
                have fV_19 := chg_u eV_19 rfl fY
                refine F_incg d_X8_sortByX_52 rfl (f := fun x_20 => [(0, vr 44), (1, vi (i : Int)), (2, vi x_20)]) (fun _ => rfl) (fun x_20 ex_20 => ?_)
                refine T_go d_X8_sortByX_55 ?_
                -- to 12 13f.35f@12
                obtain rfl : x_20 = (w : Int) := by omega
                exact ih12 V_19 (w) (by omega) hBV_19 fV_19 (by omega) (shf_s (v := _) (by rw [← ew]; exact hY) (by rw [yw]) (by rw [eV_19, ← ew, Int.toNat_natCast])) (fun k h1 h2 => by rcases Nat.lt_or_ge w k with q | q; exact hg k (by omega) h2; rw [show k = w by omega]; omega)
        obtain rfl : x_10 = (i : Int) := by omega
        exact L12 _ X (i) (Nat.lt_succ_self _) hBX fX (by first | assumption | omega) shf_0 (fun k h1 h2 => by omega)
  exact L2 _ V (0) (Nat.lt_succ_self _) hB fV (by first | assumption | omega) ⟨fun k hk => absurd hk (Nat.not_lt_zero _), fun k hk => absurd hk (Nat.not_lt_zero _), fun k k2 _ hk => absurd hk (Nat.not_lt_zero _)⟩
