set_option maxHeartbeats 1000000 in
set_option maxRecDepth 100000 in
theorem R_X11_isOf {G : GG} {V : VV} {R : RR}  {b : Bk} {k : Int} {c : Nat} {l : Nat → Nat → Int} {g i : Nat} (hB : Bd V) (hF : FinR R) (hg : g < 40) (hi : i < 24) (h130 : V 130 g = soO b k c g) (h145 : V 145 i = (bL l i : Int)) (hb : bL l i < 2 ^ 40) : RunsP G M_X11_isOf 1 [vr 99, vi (g:Int), vi (i:Int)] V R (vi (bi (decide (ofB b k c l g i = true)))) := by
  unfold RunsP
  refine Runs.of pn_X11 (Nat.le_of_ble_eq_true rfl) rfl ?_
  show TT G M_X11_isOf (rmd 1 162 162) 162 (Zm G 162 162 (QP V R (vi (bi (decide (ofB b k c l g i = true)))))) 162 0 [(0, vr 99), (1, vi (g:Int)), (2, vi (i:Int))] [] V R
  have b130 := hB.1 130 (-1) 39 rfl g
  rw [h130] at b130
  have hb2 : bL l i < 1099511627776 := hb
  refine T_al d_X11_isOf_0 rfl ?_
  refine F_gr (b := 130) d_X11_isOf_1 rfl hF rfl ?_
  refine T_il d_X11_isOf_4 rfl ?_
  refine F_ia d_X11_isOf_5 rfl hB rfl ⟨by omega, by omega⟩ (fun b_1 => ?_)
  try simp only [Int.toNat_natCast]
  try simp only [Int.toNat_natCast] at b_1
  rw [h130]
  refine T_k d_X11_isOf_6 ?_
  refine T_ieq d_X11_isOf_7 ⟨by omega, by omega⟩ ⟨by omega, by omega⟩ (fun h7 => ?_) (fun h7 => ?_)
  · skip
    refine T_k d_X11_isOf_34 ?_
    -- leaf 7t@35
    exact P_F d_X11_isOf_35 (by intro z; exact (of_i.mp z).1 h7)
  · skip
    refine T_al d_X11_isOf_10 rfl ?_
    refine F_gr (b := 145) d_X11_isOf_11 rfl hF rfl ?_
    refine T_il d_X11_isOf_14 rfl ?_
    refine F_la d_X11_isOf_15 rfl hB rfl ⟨by omega, by omega⟩ (fun b_2 => ?_)
    try simp only [Int.toNat_natCast]
    try simp only [Int.toNat_natCast] at b_2
    refine T_al d_X11_isOf_16 rfl ?_
    refine F_gr (b := 130) d_X11_isOf_17 rfl hF rfl ?_
    refine T_il d_X11_isOf_20 rfl ?_
    refine F_ia d_X11_isOf_21 rfl hB rfl ⟨by omega, by omega⟩ (fun b_3 => ?_)
    try simp only [Int.toNat_natCast]
    try simp only [Int.toNat_natCast] at b_3
    rw [h130, h145]
    refine T_lshr d_X11_isOf_22 ?_
    refine T_jk d_X11_isOf_23 ?_
    refine T_land d_X11_isOf_24 ?_
    refine T_jk d_X11_isOf_25 ?_
    have eb : landZ (lshrZ (bL l i : Int) (soO b k c g)) 1 = if (bL l i).testBit (soO b k c g).toNat = true then 1 else 0 := by rw [show soO b k c g = (((soO b k c g).toNat : Nat) : Int) by omega, Int.toNat_natCast]; exact tb_1 (Nat.lt_trans hb (by decide)) (by omega)
    rw [eb]
    refine T_lne d_X11_isOf_26 d_X11_isOf_27 ⟨by split <;> omega, by split <;> omega⟩ ⟨by omega, by omega⟩ (fun h26 => ?_) (fun h26 => ?_)
    · skip
      refine T_k d_X11_isOf_34 ?_
      -- leaf 7f.26t@35
      exact P_F d_X11_isOf_35 (by intro z; exact h26 (if_pos (of_i.mp z).2))
    · skip
      refine T_k d_X11_isOf_30 ?_
      refine T_go d_X11_isOf_31 ?_
      -- leaf 7f.26f@35
      exact P_T d_X11_isOf_35 (by exact of_i.mpr ⟨h7, Classical.byContradiction fun z => by rw [if_neg z] at h26; omega⟩)
set_option maxHeartbeats 1000000 in
set_option maxRecDepth 100000 in
theorem R_X11_isLaterThan {G : GG} {V : VV} {R : RR} {k : Int} {b : Bk} {k : Int} {c : Nat} {l : Nat → Nat → Int} {i j : Nat} (hB : Bd V) (hF : FinR R) (bMV : bM b V) (hw : bW b) (hk : 0 ≤ k ∧ k ≤ 400) (hi : i < 24) (hj : j < 24) (h130 : ∀ g, g < b.n → V 130 g = soO b k c g) (h145i : V 145 i = (bL l i : Int)) (hbi : bL l i < 2 ^ 40) (h145j : V 145 j = (bL l j : Int)) (hbj : bL l j < 2 ^ 40) : RunsP G M_X11_isLaterThan 2 [vr 99, vi (i:Int), vi (j:Int), vi k] V R (vi (bi (decide (ltH b k c l i j = true)))) := by
  unfold RunsP
  refine Runs.of pn_X11 (Nat.le_of_ble_eq_true rfl) rfl ?_
  show TT G M_X11_isLaterThan (rmd 2 162 162) 162 (Zm G 162 162 (QP V R (vi (bi (decide (ltH b k c l i j = true)))))) 162 0 [(0, vr 99), (1, vi (i:Int)), (2, vi (j:Int)), (3, vi k)] [] V R
  have bo := bO_of bMV hB
  have bon := bo.n
  have bocn := bo.cn
  refine T_k d_X11_isLaterThan_0 ?_
  refine T_is d_X11_isLaterThan_1 (ls' := [(0, vr 99), (1, vi (i:Int)), (2, vi (j:Int)), (3, vi k), (4, vi 0)]) rfl ?_
  -- to 3 @3
  have L3 : ∀ (fu : Nat) (t : Nat), b.cn - t < fu → (t ≤ b.cn) → (∀ x, x < t → ctB b k c l i j x = false) → TT G M_X11_isLaterThan (rmd 2 162 162) 162 (Zm G 162 162 (QP V R (vi (bi (decide (ltH b k c l i j = true)))))) 162 3 [(0, vr 99), (1, vi (i:Int)), (2, vi (j:Int)), (3, vi k), (4, vi (t : Int))] [] V R := by
    intro fu
    induction fu with
    | zero => intro t hm; exact absurd hm (Nat.not_lt_zero _)
    | succ fu ih3 =>
      intro t hm3 ht hno
      refine T_il d_X11_isLaterThan_3 rfl ?_
      refine T_al d_X11_isLaterThan_5 rfl ?_
      refine F_gi d_X11_isLaterThan_6 rfl hB rfl (fun b_1 => ?_)
      rw [bMV.cn]
      rw [bMV.cn] at b_1
      refine T_ige d_X11_isLaterThan_9 ⟨by omega, by omega⟩ ⟨by omega, by omega⟩ (fun h9 => ?_) (fun h9 => ?_)
      · skip
        refine T_k d_X11_isLaterThan_91 ?_
        -- leaf 9t@92
        exact P_F d_X11_isLaterThan_92 (by intro z; obtain ⟨x, x1, x2⟩ := anyB_iff.mp z; rw [hno x (by omega)] at x2; cases x2)
      · skip
        have w1 := hw.1 t (by omega)
        have w2 := bo.cL t
        have w3 := bo.cE t
        have w4 := bo.cK t
        have n1 : b.cL t = (((b.cL t).toNat : Nat) : Int) := by omega
        have n2 : b.cE t = (((b.cE t).toNat : Nat) : Int) := by omega
        refine T_al d_X11_isLaterThan_12 rfl ?_
        refine F_gr (b := 115) d_X11_isLaterThan_13 rfl hF rfl ?_
        refine T_il d_X11_isLaterThan_16 rfl ?_
        refine F_ia d_X11_isLaterThan_18 rfl hB rfl ⟨by omega, by omega⟩ (fun b_2 => ?_)
        rw [bMV.cK]
        rw [bMV.cK] at b_2
        try simp only [Int.toNat_natCast]
        try simp only [Int.toNat_natCast] at b_2
        refine T_il d_X11_isLaterThan_19 rfl ?_
        refine T_igt d_X11_isLaterThan_20 ⟨by omega, by omega⟩ ⟨by omega, by omega⟩ (fun h20 => ?_) (fun h20 => ?_)
        · skip
          refine F_incg d_X11_isLaterThan_85 rfl (f := fun x_3 => [(0, vr 99), (1, vi (i:Int)), (2, vi (j:Int)), (3, vi k), (4, vi x_3)]) (fun _ => rfl) (fun x_3 ex_3 => ?_)
          refine T_go d_X11_isLaterThan_88 ?_
          -- to 3 9f.20t@3
          obtain rfl : x_3 = ((t + 1) : Int) := by omega
          exact ih3 (t + 1) (by omega) (by first | assumption | omega) (up_all hno (ct_f (fun z => absurd z.1 (by omega))))
        · skip
          refine T_al d_X11_isLaterThan_23 rfl ?_
          refine T_al d_X11_isLaterThan_24 rfl ?_
          refine F_gr (b := 113) d_X11_isLaterThan_25 rfl hF rfl ?_
          refine T_il d_X11_isLaterThan_28 rfl ?_
          refine F_ia d_X11_isLaterThan_30 rfl hB rfl ⟨by omega, by omega⟩ (fun b_4 => ?_)
          rw [bMV.cL]
          rw [bMV.cL] at b_4
          try simp only [Int.toNat_natCast]
          try simp only [Int.toNat_natCast] at b_4
          rw [n1]
          refine T_il d_X11_isLaterThan_31 rfl ?_
          refine C_pv2 d_X11_isLaterThan_32 rfl (hdF (by decide)) (hcF _) (R_X11_isThere (b := b) hB hF bMV (h := (b.cL t).toNat) (by omega) ⟨by omega, by omega⟩) ?_
          refine T_pz0 d_X11_isLaterThan_35 (fun h35 => ?_) (fun h35 => ?_)
          · skip
            refine F_incg d_X11_isLaterThan_85 rfl (f := fun x_5 => [(0, vr 99), (1, vi (i:Int)), (2, vi (j:Int)), (3, vi k), (4, vi x_5)]) (fun _ => rfl) (fun x_5 ex_5 => ?_)
            refine T_go d_X11_isLaterThan_88 ?_
            -- to 3 9f.20f.35t@3
            obtain rfl : x_5 = ((t + 1) : Int) := by omega
            exact ih3 (t + 1) (by omega) (by first | assumption | omega) (up_all hno (ct_f (fun z => h35 (of_thr z.2.1))))
          · skip
            refine T_al d_X11_isLaterThan_38 rfl ?_
            refine T_al d_X11_isLaterThan_39 rfl ?_
            refine F_gr (b := 114) d_X11_isLaterThan_40 rfl hF rfl ?_
            refine T_il d_X11_isLaterThan_43 rfl ?_
            refine F_ia d_X11_isLaterThan_45 rfl hB rfl ⟨by omega, by omega⟩ (fun b_6 => ?_)
            rw [bMV.cE]
            rw [bMV.cE] at b_6
            try simp only [Int.toNat_natCast]
            try simp only [Int.toNat_natCast] at b_6
            rw [n2]
            refine T_il d_X11_isLaterThan_46 rfl ?_
            refine C_pv2 d_X11_isLaterThan_47 rfl (hdF (by decide)) (hcF _) (R_X11_isThere (b := b) hB hF bMV (h := (b.cE t).toNat) (by omega) ⟨by omega, by omega⟩) ?_
            refine T_pz0 d_X11_isLaterThan_50 (fun h50 => ?_) (fun h50 => ?_)
            · skip
              refine F_incg d_X11_isLaterThan_85 rfl (f := fun x_7 => [(0, vr 99), (1, vi (i:Int)), (2, vi (j:Int)), (3, vi k), (4, vi x_7)]) (fun _ => rfl) (fun x_7 ex_7 => ?_)
              refine T_go d_X11_isLaterThan_88 ?_
              -- to 3 9f.20f.35f.50t@3
              obtain rfl : x_7 = ((t + 1) : Int) := by omega
              exact ih3 (t + 1) (by omega) (by first | assumption | omega) (up_all hno (ct_f (fun z => h50 (of_thr z.2.2))))
            · skip
              refine T_al d_X11_isLaterThan_53 rfl ?_
              refine T_al d_X11_isLaterThan_54 rfl ?_
              refine F_gr (b := 113) d_X11_isLaterThan_55 rfl hF rfl ?_
              refine T_il d_X11_isLaterThan_58 rfl ?_
              refine F_ia d_X11_isLaterThan_60 rfl hB rfl ⟨by omega, by omega⟩ (fun b_8 => ?_)
              rw [bMV.cL]
              rw [bMV.cL] at b_8
              try simp only [Int.toNat_natCast]
              try simp only [Int.toNat_natCast] at b_8
              rw [n1]
              refine T_il d_X11_isLaterThan_61 rfl ?_
              refine C_pv2 d_X11_isLaterThan_62 rfl (hdF (by decide)) (hcF _) (R_X11_isOf (b := b) (k := k) (c := c) (l := l) (g := (b.cL t).toNat) (i := i) hB hF (by omega) (by omega) (h130 _ (by omega)) h145i hbi) ?_
              refine T_pz0 d_X11_isLaterThan_65 (fun h65 => ?_) (fun h65 => ?_)
              · skip
                refine F_incg d_X11_isLaterThan_85 rfl (f := fun x_9 => [(0, vr 99), (1, vi (i:Int)), (2, vi (j:Int)), (3, vi k), (4, vi x_9)]) (fun _ => rfl) (fun x_9 ex_9 => ?_)
                refine T_go d_X11_isLaterThan_88 ?_
                -- to 3 9f.20f.35f.50f.65t@3
                obtain rfl : x_9 = ((t + 1) : Int) := by omega
                exact ih3 (t + 1) (by omega) (by first | assumption | omega) (up_all hno (ct_f (fun z => h65 z.2.1)))
              · skip
                refine T_al d_X11_isLaterThan_68 rfl ?_
                refine T_al d_X11_isLaterThan_69 rfl ?_
                refine F_gr (b := 114) d_X11_isLaterThan_70 rfl hF rfl ?_
                refine T_il d_X11_isLaterThan_73 rfl ?_
                refine F_ia d_X11_isLaterThan_75 rfl hB rfl ⟨by omega, by omega⟩ (fun b_10 => ?_)
                rw [bMV.cE]
                rw [bMV.cE] at b_10
                try simp only [Int.toNat_natCast]
                try simp only [Int.toNat_natCast] at b_10
                rw [n2]
                refine T_il d_X11_isLaterThan_76 rfl ?_
                refine C_pv2 d_X11_isLaterThan_77 rfl (hdF (by decide)) (hcF _) (R_X11_isOf (b := b) (k := k) (c := c) (l := l) (g := (b.cE t).toNat) (i := j) hB hF (by omega) (by omega) (h130 _ (by omega)) h145j hbj) ?_
                refine T_pz0 d_X11_isLaterThan_80 (fun h80 => ?_) (fun h80 => ?_)
                · skip
                  refine F_incg d_X11_isLaterThan_85 rfl (f := fun x_11 => [(0, vr 99), (1, vi (i:Int)), (2, vi (j:Int)), (3, vi k), (4, vi x_11)]) (fun _ => rfl) (fun x_11 ex_11 => ?_)
                  refine T_go d_X11_isLaterThan_88 ?_
                  -- to 3 9f.20f.35f.50f.65f.80t@3
                  obtain rfl : x_11 = ((t + 1) : Int) := by omega
                  exact ih3 (t + 1) (by omega) (by first | assumption | omega) (up_all hno (ct_f (fun z => h80 z.2.2)))
                · skip
                  refine T_k d_X11_isLaterThan_83 ?_
                  -- leaf 9f.20f.35f.50f.65f.80f@84
                  exact P_T d_X11_isLaterThan_84 (by exact anyB_iff.mpr ⟨t, by omega, ct_t ⟨by omega, h65, h80⟩⟩)
  exact L3 _ (0) (Nat.lt_succ_self _) (by first | assumption | omega) (fun x hx => absurd hx (Nat.not_lt_zero _))
