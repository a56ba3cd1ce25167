section
variable {G : GG} {M : Mth} {Rm : Room} {n0 nx pc pn : Nat} {Z : List Frame → Array Value → State → State → Prop} {ls : List (Nat × AV)} {st : List AV} {V : VV} {R : RR}
def dMlx (M : Mth) (pc pn : Nat) : Prop := ∃ i, decode M.2.1 pc = .ok (.invokestatic i, 3) ∧ pc + 3 = pn ∧ Cond.methodLink M.2.2.2.2 i Lib.MathLoose.max_long.x ∈ WL
theorem T_lmax {x y : Int} (h : dMlx M pc pn) (hx : r64 x) (hy : r64 y) (hst : wds st ≤ 8) (hf : 1 ≤ Rm.frames ∧ 30 ≤ Rm.locals ∧ nx - n0 ≤ Rm.cells ∧ sl nx - sl n0 ≤ Rm.slots) (k : TT G M Rm n0 Z nx pn ls (vj (if x < y then y else x) :: st) V R) : TT G M Rm n0 Z nx pc ls (vj y :: vj x :: st) V R := by
  intro p e s m args below meth c H locs lr C hW hS hl'
  obtain ⟨i, hd, rfl, hw⟩ := h
  refine va_mmax_long C.1 C.2.1 (by rw [C.2.2.2.1]; exact hl'.1.symm) C.2.2.2.2.1 (C.2.2.2.2.2.1 _ hw) (C.2.2.2.2.2.1 _ w5_1) (C.2.2.2.2.2.1 _ w1_13) (C.2.2.2.2.2.1 _ w5_2) hf.1 (by rw [wds_sum]; omega) hf.2.2.1 hf.2.2.2 hd ?_
  have k := k p e s m args below meth c H locs lr C hW hS hl'
  rw [List.map_cons] at k
  simp only [i64_lt hx hy, i64_lt hy hx, GT.gt]
  by_cases hc : x < y
  · rw [if_pos hc] at k; rw [if_neg (by omega)]; exact k
  · rw [if_neg hc] at k
    by_cases hc2 : y < x
    · rw [if_pos hc2]; exact k
    · rw [if_neg hc2, show y = x by omega]; exact k
end
set_option maxHeartbeats 1000000 in
set_option maxRecDepth 100000 in
theorem R_ntz {G : GG} {V : VV} {R : RR}  {x : Nat} (h0 : 0 < x) (hx : x < 2 ^ 13) : RunsP G M_J6_numberOfTrailingZeros_0f7a4 1 [vi (x:Int)] V R (vi ((lowB 13 x : Int))) := by
  unfold RunsP
  refine Runs.of pn_J6 (Nat.le_of_ble_eq_true rfl) rfl ?_
  show TT G M_J6_numberOfTrailingZeros_0f7a4 (rmd 1 162 162) 162 (Zm G 162 162 (QP V R (vi ((lowB 13 x : Int))))) 162 0 [(0, vi (x:Int))] [] V R
  obtain ⟨l1, l2, l3, l4, l5⟩ := low_s 13 x h0 hx
  obtain ⟨t, et⟩ : ∃ t, lowB 13 x = t := ⟨_, rfl⟩
  rw [et] at l1 l4
  obtain ⟨y, ey⟩ : ∃ y, (x - 1) ^^^ ((x - 1) &&& x) = y := ⟨_, rfl⟩
  rw [ey] at l4
  have ht : (t = 0 ∧ y = 0) ∨ (t = 1 ∧ y = 1) ∨ (t = 2 ∧ y = 3) ∨ (t = 3 ∧ y = 7) ∨ (t = 4 ∧ y = 15) ∨ (t = 5 ∧ y = 31) ∨ (t = 6 ∧ y = 63) ∨ (t = 7 ∧ y = 127) ∨ (t = 8 ∧ y = 255) ∨ (t = 9 ∧ y = 511) ∨ (t = 10 ∧ y = 1023) ∨ (t = 11 ∧ y = 2047) ∨ (t = 12 ∧ y = 4095) := by have : t = 0 ∨ t = 1 ∨ t = 2 ∨ t = 3 ∨ t = 4 ∨ t = 5 ∨ t = 6 ∨ t = 7 ∨ t = 8 ∨ t = 9 ∨ t = 10 ∨ t = 11 ∨ t = 12 := (by omega); rcases this with rfl | rfl | rfl | rfl | rfl | rfl | rfl | rfl | rfl | rfl | rfl | rfl | rfl <;> simp at l4 <;> omega
  have hx2 : x < 8192 := hx
  have hy : y ≤ 4095 := by omega
  refine T_il d_J6_numberOfTrailingZeros_0f7a4_0 rfl ?_
  refine T_k d_J6_numberOfTrailingZeros_0f7a4_1 ?_
  refine T_ixor d_J6_numberOfTrailingZeros_0f7a4_2 ?_
  refine T_il d_J6_numberOfTrailingZeros_0f7a4_3 rfl ?_
  refine T_k d_J6_numberOfTrailingZeros_0f7a4_4 ?_
  refine T_isub d_J6_numberOfTrailingZeros_0f7a4_5 ?_
  refine T_iand d_J6_numberOfTrailingZeros_0f7a4_6 ?_
  refine F_isg d_J6_numberOfTrailingZeros_0f7a4_7 (f := fun x_1 => [(0, vi x_1)]) (fun _ => rfl) (fun x_1 ex_1 => ?_)
  obtain rfl : x_1 = (y : Int) := by rw [ex_1, iand_cm, show ((x : Int) - 1) = ((x - 1 : Nat) : Int) by omega, iandnot_n (by omega) (by omega), ey]
  refine T_il d_J6_numberOfTrailingZeros_0f7a4_8 rfl ?_
  refine T_zgt d_J6_numberOfTrailingZeros_0f7a4_9 ⟨by omega, by omega⟩ (fun h9 => ?_) (fun h9 => ?_)
  · skip
    refine T_k d_J6_numberOfTrailingZeros_0f7a4_17 ?_
    refine T_is d_J6_numberOfTrailingZeros_0f7a4_18 (ls' := [(0, vi (y : Int)), (1, vi 1)]) rfl ?_
    refine T_il d_J6_numberOfTrailingZeros_0f7a4_19 rfl ?_
    refine T_k d_J6_numberOfTrailingZeros_0f7a4_20 ?_
    refine T_ile d_J6_numberOfTrailingZeros_0f7a4_23 ⟨by omega, by omega⟩ ⟨by omega, by omega⟩ (fun h23 => ?_) (fun h23 => ?_)
    · skip
      refine T_il d_J6_numberOfTrailingZeros_0f7a4_34 rfl ?_
      refine T_k d_J6_numberOfTrailingZeros_0f7a4_35 ?_
      refine T_ile d_J6_numberOfTrailingZeros_0f7a4_38 ⟨by omega, by omega⟩ ⟨by omega, by omega⟩ (fun h38 => ?_) (fun h38 => ?_)
      · skip
        refine T_il d_J6_numberOfTrailingZeros_0f7a4_49 rfl ?_
        refine T_k d_J6_numberOfTrailingZeros_0f7a4_50 ?_
        refine T_ile d_J6_numberOfTrailingZeros_0f7a4_52 ⟨by omega, by omega⟩ ⟨by omega, by omega⟩ (fun h52 => ?_) (fun h52 => ?_)
        · skip
          refine T_il d_J6_numberOfTrailingZeros_0f7a4_62 rfl ?_
          refine T_k d_J6_numberOfTrailingZeros_0f7a4_63 ?_
          refine T_ile d_J6_numberOfTrailingZeros_0f7a4_64 ⟨by omega, by omega⟩ ⟨by omega, by omega⟩ (fun h64 => ?_) (fun h64 => ?_)
          · skip
            refine T_il d_J6_numberOfTrailingZeros_0f7a4_74 rfl ?_
            refine T_il d_J6_numberOfTrailingZeros_0f7a4_75 rfl ?_
            refine T_k d_J6_numberOfTrailingZeros_0f7a4_76 ?_
            refine T_iushr d_J6_numberOfTrailingZeros_0f7a4_77 ?_
            rw [show iushrZ (((y : Nat)) : Int) 1 = ((y / 2 ^ 1 : Nat) : Int) from iushr_n (k := 1) (by omega) (by omega)]
            refine T_iadd d_J6_numberOfTrailingZeros_0f7a4_78 ?_
            -- leaf 9t.23t.38t.52t.64t@79
            exact P_I d_J6_numberOfTrailingZeros_0f7a4_79 (by rw [et]; omega)
          · skip
            refine F_incg d_J6_numberOfTrailingZeros_0f7a4_67 rfl (f := fun x_2 => [(0, vi (y : Int)), (1, vi x_2)]) (fun _ => rfl) (fun x_2 ex_2 => ?_)
            refine T_il d_J6_numberOfTrailingZeros_0f7a4_70 rfl ?_
            refine T_k d_J6_numberOfTrailingZeros_0f7a4_71 ?_
            refine T_iushr d_J6_numberOfTrailingZeros_0f7a4_72 ?_
            refine F_isg d_J6_numberOfTrailingZeros_0f7a4_73 (f := fun x_3 => [(0, vi x_3), (1, vi x_2)]) (fun _ => rfl) (fun x_3 ex_3 => ?_)
            have y2 : x_3 = ((y / 2 ^ 2 : Nat) : Int) := by rw [ex_3]; exact iushr_n (k := 2) (by omega) (by omega)
            obtain rfl := y2
            refine T_il d_J6_numberOfTrailingZeros_0f7a4_74 rfl ?_
            refine T_il d_J6_numberOfTrailingZeros_0f7a4_75 rfl ?_
            refine T_k d_J6_numberOfTrailingZeros_0f7a4_76 ?_
            refine T_iushr d_J6_numberOfTrailingZeros_0f7a4_77 ?_
            rw [show iushrZ ((((y / 2 ^ 2) : Nat)) : Int) 1 = (((y / 2 ^ 2) / 2 ^ 1 : Nat) : Int) from iushr_n (k := 1) (by omega) (by omega)]
            refine T_iadd d_J6_numberOfTrailingZeros_0f7a4_78 ?_
            -- leaf 9t.23t.38t.52t.64f@79
            exact P_I d_J6_numberOfTrailingZeros_0f7a4_79 (by rw [et]; omega)
        · skip
          refine F_incg d_J6_numberOfTrailingZeros_0f7a4_55 rfl (f := fun x_4 => [(0, vi (y : Int)), (1, vi x_4)]) (fun _ => rfl) (fun x_4 ex_4 => ?_)
          refine T_il d_J6_numberOfTrailingZeros_0f7a4_58 rfl ?_
          refine T_k d_J6_numberOfTrailingZeros_0f7a4_59 ?_
          refine T_iushr d_J6_numberOfTrailingZeros_0f7a4_60 ?_
          refine F_isg d_J6_numberOfTrailingZeros_0f7a4_61 (f := fun x_5 => [(0, vi x_5), (1, vi x_4)]) (fun _ => rfl) (fun x_5 ex_5 => ?_)
          have y4 : x_5 = ((y / 2 ^ 4 : Nat) : Int) := by rw [ex_5]; exact iushr_n (k := 4) (by omega) (by omega)
          obtain rfl := y4
          refine T_il d_J6_numberOfTrailingZeros_0f7a4_62 rfl ?_
          refine T_k d_J6_numberOfTrailingZeros_0f7a4_63 ?_
          refine T_ile d_J6_numberOfTrailingZeros_0f7a4_64 ⟨by omega, by omega⟩ ⟨by omega, by omega⟩ (fun h64 => ?_) (fun h64 => ?_)
          · skip
            refine T_il d_J6_numberOfTrailingZeros_0f7a4_74 rfl ?_
            refine T_il d_J6_numberOfTrailingZeros_0f7a4_75 rfl ?_
            refine T_k d_J6_numberOfTrailingZeros_0f7a4_76 ?_
            refine T_iushr d_J6_numberOfTrailingZeros_0f7a4_77 ?_
            rw [show iushrZ ((((y / 2 ^ 4) : Nat)) : Int) 1 = (((y / 2 ^ 4) / 2 ^ 1 : Nat) : Int) from iushr_n (k := 1) (by omega) (by omega)]
            refine T_iadd d_J6_numberOfTrailingZeros_0f7a4_78 ?_
            -- leaf 9t.23t.38t.52f.64t@79
            exact P_I d_J6_numberOfTrailingZeros_0f7a4_79 (by rw [et]; omega)
          · skip
            refine F_incg d_J6_numberOfTrailingZeros_0f7a4_67 rfl (f := fun x_6 => [(0, vi ((y / 2 ^ 4 : Nat) : Int)), (1, vi x_6)]) (fun _ => rfl) (fun x_6 ex_6 => ?_)
            refine T_il d_J6_numberOfTrailingZeros_0f7a4_70 rfl ?_
            refine T_k d_J6_numberOfTrailingZeros_0f7a4_71 ?_
            refine T_iushr d_J6_numberOfTrailingZeros_0f7a4_72 ?_
            refine F_isg d_J6_numberOfTrailingZeros_0f7a4_73 (f := fun x_7 => [(0, vi x_7), (1, vi x_6)]) (fun _ => rfl) (fun x_7 ex_7 => ?_)
            have y2 : x_7 = (((y / 2 ^ 4) / 2 ^ 2 : Nat) : Int) := by rw [ex_7]; exact iushr_n (k := 2) (by omega) (by omega)
            obtain rfl := y2
            refine T_il d_J6_numberOfTrailingZeros_0f7a4_74 rfl ?_
            refine T_il d_J6_numberOfTrailingZeros_0f7a4_75 rfl ?_
            refine T_k d_J6_numberOfTrailingZeros_0f7a4_76 ?_
            refine T_iushr d_J6_numberOfTrailingZeros_0f7a4_77 ?_
            rw [show iushrZ (((((y / 2 ^ 4) / 2 ^ 2) : Nat)) : Int) 1 = ((((y / 2 ^ 4) / 2 ^ 2) / 2 ^ 1 : Nat) : Int) from iushr_n (k := 1) (by omega) (by omega)]
            refine T_iadd d_J6_numberOfTrailingZeros_0f7a4_78 ?_
            -- leaf 9t.23t.38t.52f.64f@79
            exact P_I d_J6_numberOfTrailingZeros_0f7a4_79 (by rw [et]; omega)
      · skip
        refine F_incg d_J6_numberOfTrailingZeros_0f7a4_41 rfl (f := fun x_8 => [(0, vi (y : Int)), (1, vi x_8)]) (fun _ => rfl) (fun x_8 ex_8 => ?_)
        refine T_il d_J6_numberOfTrailingZeros_0f7a4_44 rfl ?_
        refine T_k d_J6_numberOfTrailingZeros_0f7a4_45 ?_
        refine T_iushr d_J6_numberOfTrailingZeros_0f7a4_47 ?_
        refine F_isg d_J6_numberOfTrailingZeros_0f7a4_48 (f := fun x_9 => [(0, vi x_9), (1, vi x_8)]) (fun _ => rfl) (fun x_9 ex_9 => ?_)
        have y8 : x_9 = ((y / 2 ^ 8 : Nat) : Int) := by rw [ex_9]; exact iushr_n (k := 8) (by omega) (by omega)
        obtain rfl := y8
        refine T_il d_J6_numberOfTrailingZeros_0f7a4_49 rfl ?_
        refine T_k d_J6_numberOfTrailingZeros_0f7a4_50 ?_
        refine T_ile d_J6_numberOfTrailingZeros_0f7a4_52 ⟨by omega, by omega⟩ ⟨by omega, by omega⟩ (fun h52 => ?_) (fun h52 => ?_)
        · skip
          refine T_il d_J6_numberOfTrailingZeros_0f7a4_62 rfl ?_
          refine T_k d_J6_numberOfTrailingZeros_0f7a4_63 ?_
          refine T_ile d_J6_numberOfTrailingZeros_0f7a4_64 ⟨by omega, by omega⟩ ⟨by omega, by omega⟩ (fun h64 => ?_) (fun h64 => ?_)
          · skip
            refine T_il d_J6_numberOfTrailingZeros_0f7a4_74 rfl ?_
            refine T_il d_J6_numberOfTrailingZeros_0f7a4_75 rfl ?_
            refine T_k d_J6_numberOfTrailingZeros_0f7a4_76 ?_
            refine T_iushr d_J6_numberOfTrailingZeros_0f7a4_77 ?_
            rw [show iushrZ ((((y / 2 ^ 8) : Nat)) : Int) 1 = (((y / 2 ^ 8) / 2 ^ 1 : Nat) : Int) from iushr_n (k := 1) (by omega) (by omega)]
            refine T_iadd d_J6_numberOfTrailingZeros_0f7a4_78 ?_
            -- leaf 9t.23t.38f.52t.64t@79
            exact P_I d_J6_numberOfTrailingZeros_0f7a4_79 (by rw [et]; omega)
          · skip
            refine F_incg d_J6_numberOfTrailingZeros_0f7a4_67 rfl (f := fun x_10 => [(0, vi ((y / 2 ^ 8 : Nat) : Int)), (1, vi x_10)]) (fun _ => rfl) (fun x_10 ex_10 => ?_)
            refine T_il d_J6_numberOfTrailingZeros_0f7a4_70 rfl ?_
            refine T_k d_J6_numberOfTrailingZeros_0f7a4_71 ?_
            refine T_iushr d_J6_numberOfTrailingZeros_0f7a4_72 ?_
            refine F_isg d_J6_numberOfTrailingZeros_0f7a4_73 (f := fun x_11 => [(0, vi x_11), (1, vi x_10)]) (fun _ => rfl) (fun x_11 ex_11 => ?_)
            have y2 : x_11 = (((y / 2 ^ 8) / 2 ^ 2 : Nat) : Int) := by rw [ex_11]; exact iushr_n (k := 2) (by omega) (by omega)
            obtain rfl := y2
            refine T_il d_J6_numberOfTrailingZeros_0f7a4_74 rfl ?_
            refine T_il d_J6_numberOfTrailingZeros_0f7a4_75 rfl ?_
            refine T_k d_J6_numberOfTrailingZeros_0f7a4_76 ?_
            refine T_iushr d_J6_numberOfTrailingZeros_0f7a4_77 ?_
            rw [show iushrZ (((((y / 2 ^ 8) / 2 ^ 2) : Nat)) : Int) 1 = ((((y / 2 ^ 8) / 2 ^ 2) / 2 ^ 1 : Nat) : Int) from iushr_n (k := 1) (by omega) (by omega)]
            refine T_iadd d_J6_numberOfTrailingZeros_0f7a4_78 ?_
            -- leaf 9t.23t.38f.52t.64f@79
            exact P_I d_J6_numberOfTrailingZeros_0f7a4_79 (by rw [et]; omega)
        · skip
          refine F_incg d_J6_numberOfTrailingZeros_0f7a4_55 rfl (f := fun x_12 => [(0, vi ((y / 2 ^ 8 : Nat) : Int)), (1, vi x_12)]) (fun _ => rfl) (fun x_12 ex_12 => ?_)
          refine T_il d_J6_numberOfTrailingZeros_0f7a4_58 rfl ?_
          refine T_k d_J6_numberOfTrailingZeros_0f7a4_59 ?_
          refine T_iushr d_J6_numberOfTrailingZeros_0f7a4_60 ?_
          refine F_isg d_J6_numberOfTrailingZeros_0f7a4_61 (f := fun x_13 => [(0, vi x_13), (1, vi x_12)]) (fun _ => rfl) (fun x_13 ex_13 => ?_)
          have y4 : x_13 = (((y / 2 ^ 8) / 2 ^ 4 : Nat) : Int) := by rw [ex_13]; exact iushr_n (k := 4) (by omega) (by omega)
          obtain rfl := y4
          refine T_il d_J6_numberOfTrailingZeros_0f7a4_62 rfl ?_
          refine T_k d_J6_numberOfTrailingZeros_0f7a4_63 ?_
          refine T_ile d_J6_numberOfTrailingZeros_0f7a4_64 ⟨by omega, by omega⟩ ⟨by omega, by omega⟩ (fun h64 => ?_) (fun h64 => ?_)
          · skip
            refine T_il d_J6_numberOfTrailingZeros_0f7a4_74 rfl ?_
            refine T_il d_J6_numberOfTrailingZeros_0f7a4_75 rfl ?_
            refine T_k d_J6_numberOfTrailingZeros_0f7a4_76 ?_
            refine T_iushr d_J6_numberOfTrailingZeros_0f7a4_77 ?_
            rw [show iushrZ (((((y / 2 ^ 8) / 2 ^ 4) : Nat)) : Int) 1 = ((((y / 2 ^ 8) / 2 ^ 4) / 2 ^ 1 : Nat) : Int) from iushr_n (k := 1) (by omega) (by omega)]
            refine T_iadd d_J6_numberOfTrailingZeros_0f7a4_78 ?_
            -- leaf 9t.23t.38f.52f.64t@79
            exact P_I d_J6_numberOfTrailingZeros_0f7a4_79 (by rw [et]; omega)
          · skip
            refine F_incg d_J6_numberOfTrailingZeros_0f7a4_67 rfl (f := fun x_14 => [(0, vi (((y / 2 ^ 8) / 2 ^ 4 : Nat) : Int)), (1, vi x_14)]) (fun _ => rfl) (fun x_14 ex_14 => ?_)
            refine T_il d_J6_numberOfTrailingZeros_0f7a4_70 rfl ?_
            refine T_k d_J6_numberOfTrailingZeros_0f7a4_71 ?_
            refine T_iushr d_J6_numberOfTrailingZeros_0f7a4_72 ?_
            refine F_isg d_J6_numberOfTrailingZeros_0f7a4_73 (f := fun x_15 => [(0, vi x_15), (1, vi x_14)]) (fun _ => rfl) (fun x_15 ex_15 => ?_)
            have y2 : x_15 = ((((y / 2 ^ 8) / 2 ^ 4) / 2 ^ 2 : Nat) : Int) := by rw [ex_15]; exact iushr_n (k := 2) (by omega) (by omega)
            obtain rfl := y2
            refine T_il d_J6_numberOfTrailingZeros_0f7a4_74 rfl ?_
            refine T_il d_J6_numberOfTrailingZeros_0f7a4_75 rfl ?_
            refine T_k d_J6_numberOfTrailingZeros_0f7a4_76 ?_
            refine T_iushr d_J6_numberOfTrailingZeros_0f7a4_77 ?_
            rw [show iushrZ ((((((y / 2 ^ 8) / 2 ^ 4) / 2 ^ 2) : Nat)) : Int) 1 = (((((y / 2 ^ 8) / 2 ^ 4) / 2 ^ 2) / 2 ^ 1 : Nat) : Int) from iushr_n (k := 1) (by omega) (by omega)]
            refine T_iadd d_J6_numberOfTrailingZeros_0f7a4_78 ?_
            -- leaf 9t.23t.38f.52f.64f@79
            exact P_I d_J6_numberOfTrailingZeros_0f7a4_79 (by rw [et]; omega)
    · omega
  · skip
    refine T_il d_J6_numberOfTrailingZeros_0f7a4_12 rfl ?_
    refine T_k d_J6_numberOfTrailingZeros_0f7a4_13 ?_
    refine T_iand d_J6_numberOfTrailingZeros_0f7a4_15 ?_
    -- leaf 9f@16
    exact P_I d_J6_numberOfTrailingZeros_0f7a4_16 (by rw [show y = 0 by omega, et, show t = 0 by omega]; rfl)
