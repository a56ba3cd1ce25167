set_option maxHeartbeats 1000000 in
set_option maxRecDepth 100000 in
theorem R_X11_depthOf {G : GG} {V : VV} {R : RR} {k : Int} {b : Bk} {h : Nat} (hB : Bd V) (hF : FinR R) (bMV : bM b V) (hh : h < 40) (hk : r32 k) : RunsP G M_X11_depthOf 1 [vr 99, vi (h:Int), vi k] V R (vi (depO b k h)) := by
  unfold RunsP
  refine Runs.of pn_X11 (Nat.le_of_ble_eq_true rfl) rfl ?_
  show TT G M_X11_depthOf (rmd 1 162 162) 162 (Zm G 162 162 (QP V R (vi (depO b k h)))) 162 0 [(0, vr 99), (1, vi (h:Int)), (2, vi k)] [] V R
  obtain ⟨hk1, hk2⟩ := hk
  have ho := bO_of bMV hB
  have hn6 := ho.rn
  refine T_al d_X11_depthOf_0 rfl ?_
  refine F_gr (b := 103) d_X11_depthOf_1 rfl hF rfl ?_
  refine T_il d_X11_depthOf_4 rfl ?_
  refine F_ia d_X11_depthOf_5 rfl hB rfl ⟨by omega, by omega⟩ (fun b_1 => ?_)
  rw [bMV.dp]
  rw [bMV.dp] at b_1
  try simp only [Int.toNat_natCast]
  try simp only [Int.toNat_natCast] at b_1
  refine F_isg d_X11_depthOf_6 (f := fun x_2 => [(0, vr 99), (1, vi (h:Int)), (2, vi k), (3, vi x_2)]) (fun _ => rfl) (fun x_2 ex_2 => ?_)
  refine T_k d_X11_depthOf_7 ?_
  refine T_is d_X11_depthOf_8 (ls' := [(0, vr 99), (1, vi (h:Int)), (2, vi k), (3, vi x_2), (4, vi 0)]) rfl ?_
  -- to 10 @10
  have L10 : ∀ (fu : Nat) (v : Int) (i : Nat), b.rn - i < fu → (i ≤ b.rn) → (v = dep b k h i) → TT G M_X11_depthOf (rmd 1 162 162) 162 (Zm G 162 162 (QP V R (vi (depO b k h)))) 162 10 [(0, vr 99), (1, vi (h:Int)), (2, vi k), (3, vi v), (4, vi (i : Int))] [] V R := by
    intro fu
    induction fu with
    | zero => intro v i hm; exact absurd hm (Nat.not_lt_zero _)
    | succ fu ih10 =>
      intro v i hm10 hi hv
      refine T_il d_X11_depthOf_10 rfl ?_
      refine T_al d_X11_depthOf_12 rfl ?_
      refine F_gi d_X11_depthOf_13 rfl hB rfl (fun b_3 => ?_)
      rw [bMV.rn]
      rw [bMV.rn] at b_3
      refine T_ige d_X11_depthOf_16 ⟨by omega, by omega⟩ ⟨by omega, by omega⟩ (fun h16 => ?_) (fun h16 => ?_)
      · skip
        refine T_il d_X11_depthOf_55 rfl ?_
        -- leaf 16t@56
        exact P_I d_X11_depthOf_56 (by rw [hv, show i = b.rn by omega]; rfl)
      · skip
        refine T_al d_X11_depthOf_19 rfl ?_
        refine F_gr (b := 106) d_X11_depthOf_20 rfl hF rfl ?_
        refine T_il d_X11_depthOf_23 rfl ?_
        refine F_ia d_X11_depthOf_25 rfl hB rfl ⟨by omega, by omega⟩ (fun b_4 => ?_)
        rw [bMV.rO]
        rw [bMV.rO] at b_4
        try simp only [Int.toNat_natCast]
        try simp only [Int.toNat_natCast] at b_4
        refine T_il d_X11_depthOf_26 rfl ?_
        refine T_ine d_X11_depthOf_27 ⟨by omega, by omega⟩ ⟨by omega, by omega⟩ (fun h27 => ?_) (fun h27 => ?_)
        · skip
          refine F_incg d_X11_depthOf_49 rfl (f := fun x_5 => [(0, vr 99), (1, vi (h:Int)), (2, vi k), (3, vi v), (4, vi x_5)]) (fun _ => rfl) (fun x_5 ex_5 => ?_)
          refine T_go d_X11_depthOf_52 ?_
          -- to 10 16f.27t@10
          obtain rfl : x_5 = ((i + 1) : Int) := by omega
          exact ih10 v (i + 1) (by omega) (by first | assumption | omega) (by unfold dep; rw [if_neg (fun z => h27 z.1)]; exact hv)
        · skip
          refine T_al d_X11_depthOf_30 rfl ?_
          refine F_gr (b := 108) d_X11_depthOf_31 rfl hF rfl ?_
          refine T_il d_X11_depthOf_34 rfl ?_
          refine F_ia d_X11_depthOf_36 rfl hB rfl ⟨by omega, by omega⟩ (fun b_6 => ?_)
          rw [bMV.rK]
          rw [bMV.rK] at b_6
          try simp only [Int.toNat_natCast]
          try simp only [Int.toNat_natCast] at b_6
          refine T_il d_X11_depthOf_37 rfl ?_
          refine T_igt d_X11_depthOf_38 ⟨by omega, by omega⟩ ⟨by omega, by omega⟩ (fun h38 => ?_) (fun h38 => ?_)
          · skip
            refine F_incg d_X11_depthOf_49 rfl (f := fun x_7 => [(0, vr 99), (1, vi (h:Int)), (2, vi k), (3, vi v), (4, vi x_7)]) (fun _ => rfl) (fun x_7 ex_7 => ?_)
            refine T_go d_X11_depthOf_52 ?_
            -- to 10 16f.27f.38t@10
            obtain rfl : x_7 = ((i + 1) : Int) := by omega
            exact ih10 v (i + 1) (by omega) (by first | assumption | omega) (by unfold dep; rw [if_neg (fun z => by have := z.2; omega)]; exact hv)
          · skip
            refine T_al d_X11_depthOf_41 rfl ?_
            refine F_gr (b := 107) d_X11_depthOf_42 rfl hF rfl ?_
            refine T_il d_X11_depthOf_45 rfl ?_
            refine F_ia d_X11_depthOf_47 rfl hB rfl ⟨by omega, by omega⟩ (fun b_8 => ?_)
            rw [bMV.rD]
            rw [bMV.rD] at b_8
            try simp only [Int.toNat_natCast]
            try simp only [Int.toNat_natCast] at b_8
            refine F_isg d_X11_depthOf_48 (f := fun x_9 => [(0, vr 99), (1, vi (h:Int)), (2, vi k), (3, vi x_9), (4, vi (i : Int))]) (fun _ => rfl) (fun x_9 ex_9 => ?_)
            refine F_incg d_X11_depthOf_49 rfl (f := fun x_10 => [(0, vr 99), (1, vi (h:Int)), (2, vi k), (3, vi x_9), (4, vi x_10)]) (fun _ => rfl) (fun x_10 ex_10 => ?_)
            refine T_go d_X11_depthOf_52 ?_
            -- to 10 16f.27f.38f@10
            obtain rfl : x_10 = ((i + 1) : Int) := by omega
            exact ih10 x_9 (i + 1) (by omega) (by first | assumption | omega) (by unfold dep; rw [if_pos ⟨h27, by omega⟩]; exact ex_9)
  exact L10 _ x_2 (0) (Nat.lt_succ_self _) (by first | assumption | omega) (by rw [ex_2]; rfl)
set_option maxHeartbeats 1000000 in
set_option maxRecDepth 100000 in
theorem R_X11_ploughed {G : GG} {V : VV} {R : RR} {x : Int} {y : Int} {b : Bk} (hB : Bd V) (hF : FinR R) (bMV : bM b V) (hx : r32 x) (hy : r32 y) : RunsP G M_X11_ploughed 2 [vr 99, vi x, vi y] V R (vi (plgO b x y)) := by
  unfold RunsP
  refine Runs.of pn_X11 (Nat.le_of_ble_eq_true rfl) rfl ?_
  show TT G M_X11_ploughed (rmd 2 162 162) 162 (Zm G 162 162 (QP V R (vi (plgO b x y)))) 162 0 [(0, vr 99), (1, vi x), (2, vi y)] [] V R
  obtain ⟨hx1, hx2⟩ := hx
  obtain ⟨hy1, hy2⟩ := hy
  have ho := bO_of bMV hB
  have hn6 := ho.pn
  refine T_k d_X11_ploughed_0 ?_
  refine T_is d_X11_ploughed_1 (ls' := [(0, vr 99), (1, vi x), (2, vi y), (3, vi 0)]) rfl ?_
  refine T_k d_X11_ploughed_2 ?_
  refine T_is d_X11_ploughed_3 (ls' := [(0, vr 99), (1, vi x), (2, vi y), (3, vi 0), (4, vi 0)]) rfl ?_
  -- to 5 @5
  have L5 : ∀ (fu : Nat) (v : Int) (i : Nat), b.pn - i < fu → (i ≤ b.pn) → (v = plg b x y i) → TT G M_X11_ploughed (rmd 2 162 162) 162 (Zm G 162 162 (QP V R (vi (plgO b x y)))) 162 5 [(0, vr 99), (1, vi x), (2, vi y), (3, vi v), (4, vi (i : Int))] [] V R := by
    intro fu
    induction fu with
    | zero => intro v i hm; exact absurd hm (Nat.not_lt_zero _)
    | succ fu ih5 =>
      intro v i hm5 hi hv
      have hv1 := plg_b (x := x) (y := y) ho i
      refine T_il d_X11_ploughed_5 rfl ?_
      refine T_al d_X11_ploughed_7 rfl ?_
      refine F_gi d_X11_ploughed_8 rfl hB rfl (fun b_1 => ?_)
      rw [bMV.pn]
      rw [bMV.pn] at b_1
      refine T_ige d_X11_ploughed_11 ⟨by omega, by omega⟩ ⟨by omega, by omega⟩ (fun h11 => ?_) (fun h11 => ?_)
      · skip
        refine T_il d_X11_ploughed_95 rfl ?_
        -- leaf 11t@96
        exact P_I d_X11_ploughed_96 (by rw [hv, show i = b.pn by omega]; rfl)
      · skip
        have t0 : (4 * (i : Int)).toNat = 4 * i := by omega
        have t1 : (4 * (i : Int) + 1).toNat = 4 * i + 1 := by omega
        have t2 : (4 * (i : Int) + 2).toNat = 4 * i + 2 := by omega
        have t3 : (4 * (i : Int) + 3).toNat = 4 * i + 3 := by omega
        refine T_il d_X11_ploughed_14 rfl ?_
        refine T_al d_X11_ploughed_15 rfl ?_
        refine F_gr (b := 111) d_X11_ploughed_16 rfl hF rfl ?_
        refine T_k d_X11_ploughed_19 ?_
        refine T_il d_X11_ploughed_20 rfl ?_
        refine T_imul d_X11_ploughed_22 ?_
        refine F_ia d_X11_ploughed_23 rfl hB rfl ⟨by omega, by omega⟩ (fun b_2 => ?_)
        rw [bMV.pl]
        rw [bMV.pl] at b_2
        try simp only [Int.toNat_natCast, t0, t1, t2, t3]
        try simp only [Int.toNat_natCast, t0, t1, t2, t3] at b_2
        refine T_al d_X11_ploughed_24 rfl ?_
        refine F_gr (b := 111) d_X11_ploughed_25 rfl hF rfl ?_
        refine T_k d_X11_ploughed_28 ?_
        refine T_il d_X11_ploughed_29 rfl ?_
        refine T_imul d_X11_ploughed_31 ?_
        refine T_k d_X11_ploughed_32 ?_
        refine T_iadd d_X11_ploughed_33 ?_
        refine F_ia d_X11_ploughed_34 rfl hB rfl ⟨by omega, by omega⟩ (fun b_3 => ?_)
        rw [bMV.pl]
        rw [bMV.pl] at b_3
        try simp only [Int.toNat_natCast, t0, t1, t2, t3]
        try simp only [Int.toNat_natCast, t0, t1, t2, t3] at b_3
        refine C_ps3 d_X11_ploughed_35 (hdF (by decide)) (hcF _) (R_X11_in (by first | assumption | omega | exact ⟨by omega, by omega⟩ | (subst_vars; simp_all [uV]; done) | grind [uV]) (by first | assumption | omega | exact ⟨by omega, by omega⟩ | (subst_vars; simp_all [uV]; done) | grind [uV]) (by first | assumption | omega | exact ⟨by omega, by omega⟩ | (subst_vars; simp_all [uV]; done) | grind [uV])) ?_
        refine T_pz0 d_X11_ploughed_38 (fun h38 => ?_) (fun h38 => ?_)
        · skip
          refine F_incg d_X11_ploughed_89 rfl (f := fun x_4 => [(0, vr 99), (1, vi x), (2, vi y), (3, vi v), (4, vi x_4)]) (fun _ => rfl) (fun x_4 ex_4 => ?_)
          refine T_go d_X11_ploughed_92 ?_
          -- to 5 11f.38t@5
          obtain rfl : x_4 = ((i + 1) : Int) := by omega
          exact ih5 v (i + 1) (by omega) (by first | assumption | omega) (by unfold plg; rw [if_neg (fun z => h38 z.1.1)]; exact hv)
        · skip
          refine T_il d_X11_ploughed_41 rfl ?_
          refine T_al d_X11_ploughed_42 rfl ?_
          refine F_gr (b := 111) d_X11_ploughed_43 rfl hF rfl ?_
          refine T_k d_X11_ploughed_46 ?_
          refine T_il d_X11_ploughed_47 rfl ?_
          refine T_imul d_X11_ploughed_49 ?_
          refine T_k d_X11_ploughed_50 ?_
          refine T_iadd d_X11_ploughed_51 ?_
          refine F_ia d_X11_ploughed_52 rfl hB rfl ⟨by omega, by omega⟩ (fun b_5 => ?_)
          rw [bMV.pl]
          rw [bMV.pl] at b_5
          try simp only [Int.toNat_natCast, t0, t1, t2, t3]
          try simp only [Int.toNat_natCast, t0, t1, t2, t3] at b_5
          refine T_al d_X11_ploughed_53 rfl ?_
          refine F_gr (b := 111) d_X11_ploughed_54 rfl hF rfl ?_
          refine T_k d_X11_ploughed_57 ?_
          refine T_il d_X11_ploughed_58 rfl ?_
          refine T_imul d_X11_ploughed_60 ?_
          refine T_k d_X11_ploughed_61 ?_
          refine T_iadd d_X11_ploughed_62 ?_
          refine F_ia d_X11_ploughed_63 rfl hB rfl ⟨by omega, by omega⟩ (fun b_6 => ?_)
          rw [bMV.pl]
          rw [bMV.pl] at b_6
          try simp only [Int.toNat_natCast, t0, t1, t2, t3]
          try simp only [Int.toNat_natCast, t0, t1, t2, t3] at b_6
          refine C_ps3 d_X11_ploughed_64 (hdF (by decide)) (hcF _) (R_X11_in (by first | assumption | omega | exact ⟨by omega, by omega⟩ | (subst_vars; simp_all [uV]; done) | grind [uV]) (by first | assumption | omega | exact ⟨by omega, by omega⟩ | (subst_vars; simp_all [uV]; done) | grind [uV]) (by first | assumption | omega | exact ⟨by omega, by omega⟩ | (subst_vars; simp_all [uV]; done) | grind [uV])) ?_
          refine T_pz0 d_X11_ploughed_67 (fun h67 => ?_) (fun h67 => ?_)
          · skip
            refine F_incg d_X11_ploughed_89 rfl (f := fun x_7 => [(0, vr 99), (1, vi x), (2, vi y), (3, vi v), (4, vi x_7)]) (fun _ => rfl) (fun x_7 ex_7 => ?_)
            refine T_go d_X11_ploughed_92 ?_
            -- to 5 11f.38f.67t@5
            obtain rfl : x_7 = ((i + 1) : Int) := by omega
            exact ih5 v (i + 1) (by omega) (by first | assumption | omega) (by unfold plg; rw [if_neg (fun z => h67 z.1.2)]; exact hv)
          · skip
            refine T_al d_X11_ploughed_70 rfl ?_
            refine F_gr (b := 112) d_X11_ploughed_71 rfl hF rfl ?_
            refine T_il d_X11_ploughed_74 rfl ?_
            refine F_ia d_X11_ploughed_76 rfl hB rfl ⟨by omega, by omega⟩ (fun b_8 => ?_)
            rw [bMV.pd]
            rw [bMV.pd] at b_8
            try simp only [Int.toNat_natCast, t0, t1, t2, t3]
            try simp only [Int.toNat_natCast, t0, t1, t2, t3] at b_8
            refine T_il d_X11_ploughed_77 rfl ?_
            refine T_ile d_X11_ploughed_78 ⟨by omega, by omega⟩ ⟨by omega, by omega⟩ (fun h78 => ?_) (fun h78 => ?_)
            · skip
              refine F_incg d_X11_ploughed_89 rfl (f := fun x_9 => [(0, vr 99), (1, vi x), (2, vi y), (3, vi v), (4, vi x_9)]) (fun _ => rfl) (fun x_9 ex_9 => ?_)
              refine T_go d_X11_ploughed_92 ?_
              -- to 5 11f.38f.67f.78t@5
              obtain rfl : x_9 = ((i + 1) : Int) := by omega
              exact ih5 v (i + 1) (by omega) (by first | assumption | omega) (by unfold plg; rw [if_neg (fun z => by have := z.2; omega)]; exact hv)
            · skip
              refine T_al d_X11_ploughed_81 rfl ?_
              refine F_gr (b := 112) d_X11_ploughed_82 rfl hF rfl ?_
              refine T_il d_X11_ploughed_85 rfl ?_
              refine F_ia d_X11_ploughed_87 rfl hB rfl ⟨by omega, by omega⟩ (fun b_10 => ?_)
              rw [bMV.pd]
              rw [bMV.pd] at b_10
              try simp only [Int.toNat_natCast, t0, t1, t2, t3]
              try simp only [Int.toNat_natCast, t0, t1, t2, t3] at b_10
              refine F_isg d_X11_ploughed_88 (f := fun x_11 => [(0, vr 99), (1, vi x), (2, vi y), (3, vi x_11), (4, vi (i : Int))]) (fun _ => rfl) (fun x_11 ex_11 => ?_)
              refine F_incg d_X11_ploughed_89 rfl (f := fun x_12 => [(0, vr 99), (1, vi x), (2, vi y), (3, vi x_11), (4, vi x_12)]) (fun _ => rfl) (fun x_12 ex_12 => ?_)
              refine T_go d_X11_ploughed_92 ?_
              -- to 5 11f.38f.67f.78f@5
              obtain rfl : x_12 = ((i + 1) : Int) := by omega
              exact ih5 x_11 (i + 1) (by omega) (by first | assumption | omega) (by unfold plg; rw [if_pos ⟨⟨h38, h67⟩, by omega⟩]; exact ex_11)
  exact L5 _ 0 (0) (Nat.lt_succ_self _) (by first | assumption | omega) rfl
set_option maxHeartbeats 1000000 in
set_option maxRecDepth 100000 in
theorem R_X11_isDug {G : GG} {V : VV} {R : RR} {x : Int} {y : Int} {k : Int} {b : Bk} (hB : Bd V) (hF : FinR R) (bMV : bM b V) (hx : r32 x) (hy : r32 y) (hk : r32 k) : RunsP G M_X11_isDug 2 [vr 99, vi x, vi y, vi k] V R (vi (bi (decide (dugO b k x y = true)))) := by
  unfold RunsP
  refine Runs.of pn_X11 (Nat.le_of_ble_eq_true rfl) rfl ?_
  show TT G M_X11_isDug (rmd 2 162 162) 162 (Zm G 162 162 (QP V R (vi (bi (decide (dugO b k x y = true)))))) 162 0 [(0, vr 99), (1, vi x), (2, vi y), (3, vi k)] [] V R
  obtain ⟨hx1, hx2⟩ := hx
  obtain ⟨hy1, hy2⟩ := hy
  obtain ⟨hk1, hk2⟩ := hk
  have ho := bO_of bMV hB
  have hn6 := ho.tn
  refine T_k d_X11_isDug_0 ?_
  refine T_is d_X11_isDug_1 (ls' := [(0, vr 99), (1, vi x), (2, vi y), (3, vi k), (4, vi 0)]) rfl ?_
  -- to 3 @3
  have L3 : ∀ (fu : Nat) (i : Nat), b.tn - i < fu → (i ≤ b.tn) → (∀ j, j < i → dug b k x y j = false) → TT G M_X11_isDug (rmd 2 162 162) 162 (Zm G 162 162 (QP V R (vi (bi (decide (dugO b k x y = true)))))) 162 3 [(0, vr 99), (1, vi x), (2, vi y), (3, vi k), (4, vi (i : Int))] [] V R := by
    intro fu
    induction fu with
    | zero => intro i hm; exact absurd hm (Nat.not_lt_zero _)
    | succ fu ih3 =>
      intro i hm3 hi hno
      refine T_il d_X11_isDug_3 rfl ?_
      refine T_al d_X11_isDug_5 rfl ?_
      refine F_gi d_X11_isDug_6 rfl hB rfl (fun b_1 => ?_)
      rw [bMV.tn]
      rw [bMV.tn] at b_1
      refine T_ige d_X11_isDug_9 ⟨by omega, by omega⟩ ⟨by omega, by omega⟩ (fun h9 => ?_) (fun h9 => ?_)
      · skip
        refine T_k d_X11_isDug_87 ?_
        -- leaf 9t@88
        exact P_F d_X11_isDug_88 (by rw [show dugO b k x y = false from anyB_f.mpr (fun j hj => hno j (by omega))]; decide)
      · skip
        have t0 : (4 * (i : Int)).toNat = 4 * i := by omega
        have t1 : (4 * (i : Int) + 1).toNat = 4 * i + 1 := by omega
        have t2 : (4 * (i : Int) + 2).toNat = 4 * i + 2 := by omega
        have t3 : (4 * (i : Int) + 3).toNat = 4 * i + 3 := by omega
        refine T_al d_X11_isDug_12 rfl ?_
        refine F_gr (b := 110) d_X11_isDug_13 rfl hF rfl ?_
        refine T_il d_X11_isDug_16 rfl ?_
        refine F_ia d_X11_isDug_18 rfl hB rfl ⟨by omega, by omega⟩ (fun b_2 => ?_)
        rw [bMV.tk]
        rw [bMV.tk] at b_2
        try simp only [Int.toNat_natCast, t0, t1, t2, t3]
        try simp only [Int.toNat_natCast, t0, t1, t2, t3] at b_2
        refine T_il d_X11_isDug_19 rfl ?_
        refine T_igt d_X11_isDug_20 ⟨by omega, by omega⟩ ⟨by omega, by omega⟩ (fun h20 => ?_) (fun h20 => ?_)
        · skip
          refine F_incg d_X11_isDug_81 rfl (f := fun x_3 => [(0, vr 99), (1, vi x), (2, vi y), (3, vi k), (4, vi x_3)]) (fun _ => rfl) (fun x_3 ex_3 => ?_)
          refine T_go d_X11_isDug_84 ?_
          -- to 3 9f.20t@3
          obtain rfl : x_3 = ((i + 1) : Int) := by omega
          exact ih3 (i + 1) (by omega) (by first | assumption | omega) (up_all hno (decide_eq_false (fun z => by have := z.1; omega)))
        · skip
          refine T_il d_X11_isDug_23 rfl ?_
          refine T_al d_X11_isDug_24 rfl ?_
          refine F_gr (b := 109) d_X11_isDug_25 rfl hF rfl ?_
          refine T_k d_X11_isDug_28 ?_
          refine T_il d_X11_isDug_29 rfl ?_
          refine T_imul d_X11_isDug_31 ?_
          refine F_ia d_X11_isDug_32 rfl hB rfl ⟨by omega, by omega⟩ (fun b_4 => ?_)
          rw [bMV.tr]
          rw [bMV.tr] at b_4
          try simp only [Int.toNat_natCast, t0, t1, t2, t3]
          try simp only [Int.toNat_natCast, t0, t1, t2, t3] at b_4
          refine T_al d_X11_isDug_33 rfl ?_
          refine F_gr (b := 109) d_X11_isDug_34 rfl hF rfl ?_
          refine T_k d_X11_isDug_37 ?_
          refine T_il d_X11_isDug_38 rfl ?_
          refine T_imul d_X11_isDug_40 ?_
          refine T_k d_X11_isDug_41 ?_
          refine T_iadd d_X11_isDug_42 ?_
          refine F_ia d_X11_isDug_43 rfl hB rfl ⟨by omega, by omega⟩ (fun b_5 => ?_)
          rw [bMV.tr]
          rw [bMV.tr] at b_5
          try simp only [Int.toNat_natCast, t0, t1, t2, t3]
          try simp only [Int.toNat_natCast, t0, t1, t2, t3] at b_5
          refine C_ps3 d_X11_isDug_44 (hdF (by decide)) (hcF _) (R_X11_in (by first | assumption | omega | exact ⟨by omega, by omega⟩ | (subst_vars; simp_all [uV]; done) | grind [uV]) (by first | assumption | omega | exact ⟨by omega, by omega⟩ | (subst_vars; simp_all [uV]; done) | grind [uV]) (by first | assumption | omega | exact ⟨by omega, by omega⟩ | (subst_vars; simp_all [uV]; done) | grind [uV])) ?_
          refine T_pz0 d_X11_isDug_47 (fun h47 => ?_) (fun h47 => ?_)
          · skip
            refine F_incg d_X11_isDug_81 rfl (f := fun x_6 => [(0, vr 99), (1, vi x), (2, vi y), (3, vi k), (4, vi x_6)]) (fun _ => rfl) (fun x_6 ex_6 => ?_)
            refine T_go d_X11_isDug_84 ?_
            -- to 3 9f.20f.47t@3
            obtain rfl : x_6 = ((i + 1) : Int) := by omega
            exact ih3 (i + 1) (by omega) (by first | assumption | omega) (up_all hno (decide_eq_false (fun z => h47 z.2.1)))
          · skip
            refine T_il d_X11_isDug_50 rfl ?_
            refine T_al d_X11_isDug_51 rfl ?_
            refine F_gr (b := 109) d_X11_isDug_52 rfl hF rfl ?_
            refine T_k d_X11_isDug_55 ?_
            refine T_il d_X11_isDug_56 rfl ?_
            refine T_imul d_X11_isDug_58 ?_
            refine T_k d_X11_isDug_59 ?_
            refine T_iadd d_X11_isDug_60 ?_
            refine F_ia d_X11_isDug_61 rfl hB rfl ⟨by omega, by omega⟩ (fun b_7 => ?_)
            rw [bMV.tr]
            rw [bMV.tr] at b_7
            try simp only [Int.toNat_natCast, t0, t1, t2, t3]
            try simp only [Int.toNat_natCast, t0, t1, t2, t3] at b_7
            refine T_al d_X11_isDug_62 rfl ?_
            refine F_gr (b := 109) d_X11_isDug_63 rfl hF rfl ?_
            refine T_k d_X11_isDug_66 ?_
            refine T_il d_X11_isDug_67 rfl ?_
            refine T_imul d_X11_isDug_69 ?_
            refine T_k d_X11_isDug_70 ?_
            refine T_iadd d_X11_isDug_71 ?_
            refine F_ia d_X11_isDug_72 rfl hB rfl ⟨by omega, by omega⟩ (fun b_8 => ?_)
            rw [bMV.tr]
            rw [bMV.tr] at b_8
            try simp only [Int.toNat_natCast, t0, t1, t2, t3]
            try simp only [Int.toNat_natCast, t0, t1, t2, t3] at b_8
            refine C_ps3 d_X11_isDug_73 (hdF (by decide)) (hcF _) (R_X11_in (by first | assumption | omega | exact ⟨by omega, by omega⟩ | (subst_vars; simp_all [uV]; done) | grind [uV]) (by first | assumption | omega | exact ⟨by omega, by omega⟩ | (subst_vars; simp_all [uV]; done) | grind [uV]) (by first | assumption | omega | exact ⟨by omega, by omega⟩ | (subst_vars; simp_all [uV]; done) | grind [uV])) ?_
            refine T_pz0 d_X11_isDug_76 (fun h76 => ?_) (fun h76 => ?_)
            · skip
              refine F_incg d_X11_isDug_81 rfl (f := fun x_9 => [(0, vr 99), (1, vi x), (2, vi y), (3, vi k), (4, vi x_9)]) (fun _ => rfl) (fun x_9 ex_9 => ?_)
              refine T_go d_X11_isDug_84 ?_
              -- to 3 9f.20f.47f.76t@3
              obtain rfl : x_9 = ((i + 1) : Int) := by omega
              exact ih3 (i + 1) (by omega) (by first | assumption | omega) (up_all hno (decide_eq_false (fun z => h76 z.2.2)))
            · skip
              refine T_k d_X11_isDug_79 ?_
              -- leaf 9f.20f.47f.76f@80
              exact P_T d_X11_isDug_80 (by exact anyB_iff.mpr ⟨i, by omega, decide_eq_true ⟨by omega, h47, h76⟩⟩)
  exact L3 _ (0) (Nat.lt_succ_self _) (by first | assumption | omega) (by first | assumption | omega)
