set_option maxHeartbeats 1000000 in
set_option maxRecDepth 100000 in
theorem R_bitCount {G : GG} {V : VV} {R : RR}  {x : Nat} (hx : x < 2 ^ 24) : RunsP G M_J6_bitCount_0f7a4 1 [vi (x:Int)] V R (vi ((chN x 24 : Int))) := by
  unfold RunsP
  refine Runs.of pn_J6 (Nat.le_of_ble_eq_true rfl) rfl ?_
  show TT G M_J6_bitCount_0f7a4 (rmd 1 162 162) 162 (Zm G 162 162 (QP V R (vi ((chN x 24 : Int))))) 162 0 [(0, vi (x:Int))] [] V R
  have hl := bc_lt hx
  refine T_il d_J6_bitCount_0f7a4_0 rfl ?_
  refine T_il d_J6_bitCount_0f7a4_1 rfl ?_
  refine T_k d_J6_bitCount_0f7a4_2 ?_
  refine T_iushr d_J6_bitCount_0f7a4_3 ?_
  refine T_k d_J6_bitCount_0f7a4_4 ?_
  refine T_iand d_J6_bitCount_0f7a4_7 ?_
  refine T_isub d_J6_bitCount_0f7a4_8 ?_
  refine F_isg d_J6_bitCount_0f7a4_9 (f := fun x_1 => [(0, vi x_1)]) (fun _ => rfl) (fun x_1 ex_1 => ?_)
  obtain rfl : x_1 = ((bc1 x : Nat) : Int) := by rw [ex_1, show (1 : Int) = ((1 : Nat) : Int) from rfl, iushr_n (by omega) (by omega), show x / 2 ^ 1 = x / 2 from rfl, show (1431655765 : Int) = ((1431655765 : Nat) : Int) from rfl, iand_n (by omega)]; unfold bc1; omega
  refine T_il d_J6_bitCount_0f7a4_10 rfl ?_
  refine T_k d_J6_bitCount_0f7a4_11 ?_
  refine T_iand d_J6_bitCount_0f7a4_14 ?_
  refine T_il d_J6_bitCount_0f7a4_15 rfl ?_
  refine T_k d_J6_bitCount_0f7a4_16 ?_
  refine T_iushr d_J6_bitCount_0f7a4_17 ?_
  refine T_k d_J6_bitCount_0f7a4_18 ?_
  refine T_iand d_J6_bitCount_0f7a4_21 ?_
  refine T_iadd d_J6_bitCount_0f7a4_22 ?_
  refine F_isg d_J6_bitCount_0f7a4_23 (f := fun x_2 => [(0, vi x_2)]) (fun _ => rfl) (fun x_2 ex_2 => ?_)
  obtain rfl : x_2 = ((bc2 (bc1 x) : Nat) : Int) := by rw [ex_2, show (2 : Int) = ((2 : Nat) : Int) from rfl, iushr_n (by omega) (by omega), show bc1 x / 2 ^ 2 = bc1 x / 4 from rfl, show (858993459 : Int) = ((858993459 : Nat) : Int) from rfl, iand_n (by omega), iand_n (by omega)]; unfold bc2; omega
  refine T_il d_J6_bitCount_0f7a4_24 rfl ?_
  refine T_il d_J6_bitCount_0f7a4_25 rfl ?_
  refine T_k d_J6_bitCount_0f7a4_26 ?_
  refine T_iushr d_J6_bitCount_0f7a4_27 ?_
  refine T_iadd d_J6_bitCount_0f7a4_28 ?_
  refine T_k d_J6_bitCount_0f7a4_29 ?_
  refine T_iand d_J6_bitCount_0f7a4_32 ?_
  refine F_isg d_J6_bitCount_0f7a4_33 (f := fun x_3 => [(0, vi x_3)]) (fun _ => rfl) (fun x_3 ex_3 => ?_)
  obtain rfl : x_3 = ((bc3 (bc2 (bc1 x)) : Nat) : Int) := by rw [ex_3, show (4 : Int) = ((4 : Nat) : Int) from rfl, iushr_n (by omega) (by omega), show (252645135 : Int) = ((252645135 : Nat) : Int) from rfl, ← Int.natCast_add, iand_n (by omega)]; rfl
  refine T_il d_J6_bitCount_0f7a4_34 rfl ?_
  refine T_il d_J6_bitCount_0f7a4_35 rfl ?_
  refine T_k d_J6_bitCount_0f7a4_36 ?_
  refine T_iushr d_J6_bitCount_0f7a4_38 ?_
  refine T_iadd d_J6_bitCount_0f7a4_39 ?_
  refine F_isg d_J6_bitCount_0f7a4_40 (f := fun x_4 => [(0, vi x_4)]) (fun _ => rfl) (fun x_4 ex_4 => ?_)
  obtain rfl : x_4 = ((bc4 (bc3 (bc2 (bc1 x))) : Nat) : Int) := by rw [ex_4, show (8 : Int) = ((8 : Nat) : Int) from rfl, iushr_n (by omega) (by omega), ← Int.natCast_add]; rfl
  refine T_il d_J6_bitCount_0f7a4_41 rfl ?_
  refine T_il d_J6_bitCount_0f7a4_42 rfl ?_
  refine T_k d_J6_bitCount_0f7a4_43 ?_
  refine T_iushr d_J6_bitCount_0f7a4_45 ?_
  refine T_iadd d_J6_bitCount_0f7a4_46 ?_
  refine F_isg d_J6_bitCount_0f7a4_47 (f := fun x_5 => [(0, vi x_5)]) (fun _ => rfl) (fun x_5 ex_5 => ?_)
  obtain rfl : x_5 = ((bc5 (bc4 (bc3 (bc2 (bc1 x)))) : Nat) : Int) := by rw [ex_5, show (16 : Int) = ((16 : Nat) : Int) from rfl, iushr_n (by omega) (by omega), ← Int.natCast_add]; rfl
  refine T_il d_J6_bitCount_0f7a4_48 rfl ?_
  refine T_k d_J6_bitCount_0f7a4_49 ?_
  refine T_iand d_J6_bitCount_0f7a4_51 ?_
  -- leaf @52
  exact P_I d_J6_bitCount_0f7a4_52 (by rw [show (63 : Int) = ((63 : Nat) : Int) from rfl, iand_n (by omega), bc_ok hx])
