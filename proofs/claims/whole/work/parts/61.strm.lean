/-! length and charAt, of the texts -/
theorem pn_J0 : plainName RJ0 = true := by decide +kernel
theorem pn_J1 : plainName RJ1 = true := by decide +kernel
theorem pn_J3 : plainName RJ3 = true := by decide +kernel
theorem d_J0_length_8abf5_0 : dAL M_J0_length_8abf5 0 0 1 := Or.inl ⟨0, by decide +kernel, rfl, rfl⟩
theorem e_J0_length_8abf5_1 : decode (M_J0_length_8abf5).2.1 1 = .ok (.getfield 9, 3) := by decide +kernel
theorem d_J0_length_8abf5_1 : dSF M_J0_length_8abf5 1 "value" "[B" 4 := ⟨9, e_J0_length_8abf5_1, rfl, w8_196⟩
theorem d_J0_length_8abf5_4 : dI M_J0_length_8abf5 4 .arraylength 5 := ⟨by decide +kernel, rfl⟩
theorem d_J0_length_8abf5_5 : dAL M_J0_length_8abf5 5 0 6 := Or.inl ⟨0, by decide +kernel, rfl, rfl⟩
theorem e_J0_length_8abf5_6 : decode (M_J0_length_8abf5).2.1 6 = .ok (.invokevirtual 335, 3) := by decide +kernel
theorem d_J0_length_8abf5_6 : dVS M_J0_length_8abf5 6 M_J0_coder_7d493 0 9 := ⟨335, e_J0_length_8abf5_6, rfl, mo_J0_coder_7d493, w5_73, w5_74, w5_75, rfl⟩
theorem d_J0_length_8abf5_9 : dI M_J0_length_8abf5 9 .ishr 10 := ⟨by decide +kernel, rfl⟩
theorem d_J0_length_8abf5_10 : dI M_J0_length_8abf5 10 .ireturn 11 := ⟨by decide +kernel, rfl⟩
theorem d_J0_charAt_5068e_0 : dAL M_J0_charAt_5068e 0 0 1 := Or.inl ⟨0, by decide +kernel, rfl, rfl⟩
theorem e_J0_charAt_5068e_1 : decode (M_J0_charAt_5068e).2.1 1 = .ok (.invokevirtual 492, 3) := by decide +kernel
theorem d_J0_charAt_5068e_1 : dVS M_J0_charAt_5068e 1 M_J0_isLatin1_aae02 0 4 := ⟨492, e_J0_charAt_5068e_1, rfl, mo_J0_isLatin1_aae02, w5_83, w5_84, w5_85, rfl⟩
theorem d_J0_charAt_5068e_4 : dB M_J0_charAt_5068e 4 (.ifCond .eq) 7 16 := ⟨12, by decide +kernel, rfl, by decide⟩
theorem d_J0_charAt_5068e_7 : dAL M_J0_charAt_5068e 7 0 8 := Or.inl ⟨0, by decide +kernel, rfl, rfl⟩
theorem e_J0_charAt_5068e_8 : decode (M_J0_charAt_5068e).2.1 8 = .ok (.getfield 9, 3) := by decide +kernel
theorem d_J0_charAt_5068e_8 : dSF M_J0_charAt_5068e 8 "value" "[B" 11 := ⟨9, e_J0_charAt_5068e_8, rfl, w8_196⟩
theorem d_J0_charAt_5068e_11 : dIL M_J0_charAt_5068e 11 1 12 := Or.inl ⟨1, by decide +kernel, rfl, rfl⟩
theorem e_J0_charAt_5068e_12 : decode (M_J0_charAt_5068e).2.1 12 = .ok (.invokestatic 495, 3) := by decide +kernel
theorem d_J0_charAt_5068e_12 : dS M_J0_charAt_5068e 12 M_J1_charAt_3b067 2 15 := ⟨495, e_J0_charAt_5068e_12, rfl, mo_J1_charAt_3b067, w5_88, Or.inl w5_87⟩
theorem d_J0_charAt_5068e_15 : dI M_J0_charAt_5068e 15 .ireturn 16 := ⟨by decide +kernel, rfl⟩
theorem d_J0_charAt_5068e_16 : dAL M_J0_charAt_5068e 16 0 17 := Or.inl ⟨0, by decide +kernel, rfl, rfl⟩
theorem d_J0_charAt_5068e_20 : dIL M_J0_charAt_5068e 20 1 21 := Or.inl ⟨1, by decide +kernel, rfl, rfl⟩
theorem d_J0_charAt_5068e_24 : dI M_J0_charAt_5068e 24 .ireturn 25 := ⟨by decide +kernel, rfl⟩
theorem e_J0_coder_7d493_0 : decode (M_J0_coder_7d493).2.1 0 = .ok (.getstatic 38, 3) := by decide +kernel
theorem d_J0_coder_7d493_0 : dSZ M_J0_coder_7d493 0 "java/lang/String" "COMPACT_STRINGS" "Z" 3 := ⟨38, e_J0_coder_7d493_0, rfl, w5_77⟩
theorem d_J0_coder_7d493_3 : dB M_J0_coder_7d493 3 (.ifCond .eq) 6 13 := ⟨10, by decide +kernel, rfl, by decide⟩
theorem d_J0_coder_7d493_6 : dAL M_J0_coder_7d493 6 0 7 := Or.inl ⟨0, by decide +kernel, rfl, rfl⟩
theorem e_J0_coder_7d493_7 : decode (M_J0_coder_7d493).2.1 7 = .ok (.getfield 15, 3) := by decide +kernel
theorem d_J0_coder_7d493_7 : dSF M_J0_coder_7d493 7 "coder" "B" 10 := ⟨15, e_J0_coder_7d493_7, rfl, w8_197⟩
theorem d_J0_coder_7d493_10 : dB M_J0_coder_7d493 10 .goto 13 14 := ⟨4, by decide +kernel, rfl, by decide⟩
theorem d_J0_coder_7d493_13 : dK M_J0_coder_7d493 13 1 14 := Or.inl ⟨by decide +kernel, rfl⟩
theorem d_J0_coder_7d493_14 : dI M_J0_coder_7d493 14 .ireturn 15 := ⟨by decide +kernel, rfl⟩
theorem e_J0_isLatin1_aae02_0 : decode (M_J0_isLatin1_aae02).2.1 0 = .ok (.getstatic 38, 3) := by decide +kernel
theorem d_J0_isLatin1_aae02_0 : dSZ M_J0_isLatin1_aae02 0 "java/lang/String" "COMPACT_STRINGS" "Z" 3 := ⟨38, e_J0_isLatin1_aae02_0, rfl, w5_77⟩
theorem d_J0_isLatin1_aae02_3 : dB M_J0_isLatin1_aae02 3 (.ifCond .eq) 6 17 := ⟨14, by decide +kernel, rfl, by decide⟩
theorem d_J0_isLatin1_aae02_6 : dAL M_J0_isLatin1_aae02 6 0 7 := Or.inl ⟨0, by decide +kernel, rfl, rfl⟩
theorem e_J0_isLatin1_aae02_7 : decode (M_J0_isLatin1_aae02).2.1 7 = .ok (.getfield 15, 3) := by decide +kernel
theorem d_J0_isLatin1_aae02_7 : dSF M_J0_isLatin1_aae02 7 "coder" "B" 10 := ⟨15, e_J0_isLatin1_aae02_7, rfl, w8_197⟩
theorem d_J0_isLatin1_aae02_10 : dB M_J0_isLatin1_aae02 10 (.ifCond .ne) 13 17 := ⟨7, by decide +kernel, rfl, by decide⟩
theorem d_J0_isLatin1_aae02_13 : dK M_J0_isLatin1_aae02 13 1 14 := Or.inl ⟨by decide +kernel, rfl⟩
theorem d_J0_isLatin1_aae02_14 : dB M_J0_isLatin1_aae02 14 .goto 17 18 := ⟨4, by decide +kernel, rfl, by decide⟩
theorem d_J0_isLatin1_aae02_17 : dK M_J0_isLatin1_aae02 17 0 18 := Or.inl ⟨by decide +kernel, rfl⟩
theorem d_J0_isLatin1_aae02_18 : dI M_J0_isLatin1_aae02 18 .ireturn 19 := ⟨by decide +kernel, rfl⟩
theorem d_J1_charAt_3b067_0 : dIL M_J1_charAt_3b067 0 1 1 := Or.inl ⟨1, by decide +kernel, rfl, rfl⟩
theorem d_J1_charAt_3b067_1 : dAL M_J1_charAt_3b067 1 0 2 := Or.inl ⟨0, by decide +kernel, rfl, rfl⟩
theorem d_J1_charAt_3b067_2 : dI M_J1_charAt_3b067 2 .arraylength 3 := ⟨by decide +kernel, rfl⟩
theorem e_J1_charAt_3b067_3 : decode (M_J1_charAt_3b067).2.1 3 = .ok (.invokestatic 9, 3) := by decide +kernel
theorem d_J1_charAt_3b067_3 : dS M_J1_charAt_3b067 3 M_J0_checkIndex_df160 2 6 := ⟨9, e_J1_charAt_3b067_3, rfl, mo_J0_checkIndex_df160, w5_91, Or.inl w5_90⟩
theorem d_J1_charAt_3b067_6 : dAL M_J1_charAt_3b067 6 0 7 := Or.inl ⟨0, by decide +kernel, rfl, rfl⟩
theorem d_J1_charAt_3b067_7 : dIL M_J1_charAt_3b067 7 1 8 := Or.inl ⟨1, by decide +kernel, rfl, rfl⟩
theorem d_J1_charAt_3b067_8 : dI M_J1_charAt_3b067 8 .baload 9 := ⟨by decide +kernel, rfl⟩
theorem d_J1_charAt_3b067_9 : dK M_J1_charAt_3b067 9 255 12 := Or.inr (Or.inr (Or.inl ⟨by decide +kernel, rfl, by decide +kernel⟩))
theorem d_J1_charAt_3b067_12 : dI M_J1_charAt_3b067 12 .iand 13 := ⟨by decide +kernel, rfl⟩
theorem d_J1_charAt_3b067_13 : dI M_J1_charAt_3b067 13 .i2c 14 := ⟨by decide +kernel, rfl⟩
theorem d_J1_charAt_3b067_14 : dI M_J1_charAt_3b067 14 .ireturn 15 := ⟨by decide +kernel, rfl⟩
theorem d_J3_checkIndex_8e157_0 : dIL M_J3_checkIndex_8e157 0 0 1 := Or.inl ⟨0, by decide +kernel, rfl, rfl⟩
theorem d_J3_checkIndex_8e157_1 : dB M_J3_checkIndex_8e157 1 (.ifCond .lt) 4 9 := ⟨8, by decide +kernel, rfl, by decide⟩
theorem d_J3_checkIndex_8e157_4 : dIL M_J3_checkIndex_8e157 4 0 5 := Or.inl ⟨0, by decide +kernel, rfl, rfl⟩
theorem d_J3_checkIndex_8e157_5 : dIL M_J3_checkIndex_8e157 5 1 6 := Or.inl ⟨1, by decide +kernel, rfl, rfl⟩
theorem d_J3_checkIndex_8e157_6 : dB M_J3_checkIndex_8e157 6 (.if_icmp .lt) 9 16 := ⟨10, by decide +kernel, rfl, by decide⟩
theorem d_J3_checkIndex_8e157_9 : dAL M_J3_checkIndex_8e157 9 2 10 := Or.inl ⟨2, by decide +kernel, rfl, rfl⟩
theorem d_J3_checkIndex_8e157_10 : dIL M_J3_checkIndex_8e157 10 0 11 := Or.inl ⟨0, by decide +kernel, rfl, rfl⟩
theorem d_J3_checkIndex_8e157_11 : dIL M_J3_checkIndex_8e157 11 1 12 := Or.inl ⟨1, by decide +kernel, rfl, rfl⟩
theorem d_J3_checkIndex_8e157_16 : dIL M_J3_checkIndex_8e157 16 0 17 := Or.inl ⟨0, by decide +kernel, rfl, rfl⟩
theorem d_J3_checkIndex_8e157_17 : dI M_J3_checkIndex_8e157 17 .ireturn 18 := ⟨by decide +kernel, rfl⟩
theorem d_J0_checkIndex_df160_0 : dIL M_J0_checkIndex_df160 0 0 1 := Or.inl ⟨0, by decide +kernel, rfl, rfl⟩
theorem d_J0_checkIndex_df160_1 : dIL M_J0_checkIndex_df160 1 1 2 := Or.inl ⟨1, by decide +kernel, rfl, rfl⟩
theorem e_J0_checkIndex_df160_2 : decode (M_J0_checkIndex_df160).2.1 2 = .ok (.getstatic 1053, 3) := by decide +kernel
theorem d_J0_checkIndex_df160_2 : dSZ M_J0_checkIndex_df160 2 "jdk/internal/util/Preconditions" "SIOOBE_FORMATTER" "Ljava/util/function/BiFunction;" 5 := ⟨1053, e_J0_checkIndex_df160_2, rfl, w5_93⟩
theorem e_J0_checkIndex_df160_5 : decode (M_J0_checkIndex_df160).2.1 5 = .ok (.invokestatic 1059, 3) := by decide +kernel
theorem d_J0_checkIndex_df160_5 : dS M_J0_checkIndex_df160 5 M_J3_checkIndex_8e157 3 8 := ⟨1059, e_J0_checkIndex_df160_5, rfl, mo_J3_checkIndex_8e157, w5_96, Or.inl w5_95⟩
theorem d_J0_checkIndex_df160_8 : dI M_J0_checkIndex_df160 8 .pop 9 := ⟨by decide +kernel, rfl⟩
theorem d_J0_checkIndex_df160_9 : dI M_J0_checkIndex_df160 9 .return_ 10 := ⟨by decide +kernel, rfl⟩
theorem dt_X4_take_1 : dVS M_X4_take 1 M_J0_length_8abf5 0 4 := ⟨118, d_X4_take_1, rfl, mo_J0_length_8abf5, w5_69, w5_70, w5_71, rfl⟩
theorem dt_X4_take_51 : dVS M_X4_take 51 M_J0_charAt_5068e 1 54 := ⟨122, d_X4_take_51, rfl, mo_J0_charAt_5068e, w5_79, w5_80, w5_81, rfl⟩
theorem wB_all : ∀ i, i < 16 → ∀ j, j < wLen i → 0 ≤ wByt i j ∧ wByt i j ≤ 255 := by decide +kernel
theorem bb_id : ∀ n : Nat, n < 256 → i2cZ (iandZ (n : Int) 255) = n ∧ narrow .char (.int (Int32.ofInt (n : Int))) = .int (Int32.ofInt (n : Int)) := by decide +kernel
section STRM
variable {G : GG} {V : VV} {R : RR}
theorem R_J0_coder {w : Nat} (hw : w < 16) : RunsP G M_J0_coder_7d493 1 [vr (1010 + w)] V R (vi 0) := by
  unfold RunsP
  refine Runs.of pn_J0 (Nat.le_of_ble_eq_true rfl) rfl ?_
  show TT G M_J0_coder_7d493 (rmd 1 162 162) 162 (Zm G 162 162 (QP V R (vi 0))) 162 0 [(0, vr (1010 + w))] [] V R
  refine T_szc d_J0_coder_7d493_0 ?_
  refine T_zeq d_J0_coder_7d493_3 ⟨by omega, by omega⟩ (fun h => absurd h (by decide)) (fun _ => ?_)
  refine T_al d_J0_coder_7d493_6 rfl ?_
  refine T_sgc d_J0_coder_7d493_7 hw ?_
  refine T_go d_J0_coder_7d493_10 ?_
  exact T_bret d_J0_coder_7d493_14 rfl (by decide +kernel) ⟨rfl, rfl, rfl⟩
theorem R_J0_isLatin1 {w : Nat} (hw : w < 16) : RunsP G M_J0_isLatin1_aae02 1 [vr (1010 + w)] V R (vi 1) := by
  unfold RunsP
  refine Runs.of pn_J0 (Nat.le_of_ble_eq_true rfl) rfl ?_
  show TT G M_J0_isLatin1_aae02 (rmd 1 162 162) 162 (Zm G 162 162 (QP V R (vi 1))) 162 0 [(0, vr (1010 + w))] [] V R
  refine T_szc d_J0_isLatin1_aae02_0 ?_
  refine T_zeq d_J0_isLatin1_aae02_3 ⟨by omega, by omega⟩ (fun h => absurd h (by decide)) (fun _ => ?_)
  refine T_al d_J0_isLatin1_aae02_6 rfl ?_
  refine T_sgc d_J0_isLatin1_aae02_7 hw ?_
  refine T_zne d_J0_isLatin1_aae02_10 ⟨by omega, by omega⟩ (fun h => absurd rfl h) (fun _ => ?_)
  refine T_k d_J0_isLatin1_aae02_13 ?_
  refine T_go d_J0_isLatin1_aae02_14 ?_
  exact T_zret1 d_J0_isLatin1_aae02_18 rfl ⟨rfl, rfl, rfl⟩
theorem R_J0_length {w : Nat} (hw : w < 16) : RunsP G M_J0_length_8abf5 2 [vr (1010 + w)] V R (vi (wLen w : Int)) := by
  unfold RunsP
  refine Runs.of pn_J0 (Nat.le_of_ble_eq_true rfl) rfl ?_
  show TT G M_J0_length_8abf5 (rmd 2 162 162) 162 (Zm G 162 162 (QP V R (vi (wLen w : Int)))) 162 0 [(0, vr (1010 + w))] [] V R
  have hL := wL_le (i := w)
  refine T_al d_J0_length_8abf5_0 rfl ?_
  refine T_sgv d_J0_length_8abf5_1 hw ?_
  refine T_slb d_J0_length_8abf5_4 hw ?_
  refine T_al d_J0_length_8abf5_5 rfl ?_
  refine C_pt0 d_J0_length_8abf5_6 hw (hdF (by decide)) (hcF _) (R_J0_coder hw) ?_
  refine T_ishr d_J0_length_8abf5_9 ?_
  refine P_I d_J0_length_8abf5_10 ?_
  have := ishr_n (a := wLen w) (k := 0) (by decide) (by omega)
  rw [show ((0 : Nat) : Int) = 0 from rfl] at this
  rw [this]
  simp
theorem R_J3_check {x n : Int} {q : Option Nat} (hx : 0 ≤ x ∧ x < n) (hn : n < 1000) : RunsP G M_J3_checkIndex_8e157 1 [vi x, vi n, vq q] V R (vi x) := by
  unfold RunsP
  refine Runs.of pn_J3 (Nat.le_of_ble_eq_true rfl) rfl ?_
  show TT G M_J3_checkIndex_8e157 (rmd 1 162 162) 162 (Zm G 162 162 (QP V R (vi x))) 162 0 [(0, vi x), (1, vi n), (2, vq q)] [] V R
  refine T_il d_J3_checkIndex_8e157_0 rfl ?_
  refine T_zlt d_J3_checkIndex_8e157_1 ⟨by omega, by omega⟩ (fun h => by omega) (fun _ => ?_)
  refine T_il d_J3_checkIndex_8e157_4 rfl ?_
  refine T_il d_J3_checkIndex_8e157_5 rfl ?_
  refine T_ilt d_J3_checkIndex_8e157_6 ⟨by omega, by omega⟩ ⟨by omega, by omega⟩ (fun _ => ?_) (fun h => by omega)
  refine T_il d_J3_checkIndex_8e157_16 rfl ?_
  exact P_I d_J3_checkIndex_8e157_17 rfl
theorem R_J0_check {x n : Int} (hx : 0 ≤ x ∧ x < n) (hn : n < 1000) : Runs G M_J0_checkIndex_df160 2 162 162 [vi x, vi n] V R (fun r V' R' => r = none ∧ V' = V ∧ R' = R) := by
  refine Runs.of pn_J0 (Nat.le_of_ble_eq_true rfl) rfl ?_
  show TT G M_J0_checkIndex_df160 (rmd 2 162 162) 162 (Zm G 162 162 (fun r V' R' => r = none ∧ V' = V ∧ R' = R)) 162 0 [(0, vi x), (1, vi n)] [] V R
  refine T_il d_J0_checkIndex_df160_0 rfl ?_
  refine T_il d_J0_checkIndex_df160_1 rfl ?_
  refine T_szq d_J0_checkIndex_df160_2 (fun q => ?_)
  refine C_ps3 d_J0_checkIndex_df160_5 (hdF (by decide)) (hcF _) (R_J3_check hx hn) ?_
  refine T_pop d_J0_checkIndex_df160_8 rfl ?_
  exact T_vret d_J0_checkIndex_df160_9 rfl ⟨rfl, rfl, rfl⟩
theorem R_J1_charAt {w k : Nat} (hw : w < 16) (hk : k < wLen w) : RunsP G M_J1_charAt_3b067 3 [vr (1030 + w), vi (k : Int)] V R (vi (wByt w k)) := by
  unfold RunsP
  refine Runs.of pn_J1 (Nat.le_of_ble_eq_true rfl) rfl ?_
  show TT G M_J1_charAt_3b067 (rmd 3 162 162) 162 (Zm G 162 162 (QP V R (vi (wByt w k)))) 162 0 [(0, vr (1030 + w)), (1, vi (k : Int))] [] V R
  have hL := wL_le (i := w)
  refine T_il d_J1_charAt_3b067_0 rfl ?_
  refine T_al d_J1_charAt_3b067_1 rfl ?_
  refine T_slb d_J1_charAt_3b067_2 hw ?_
  refine C_s2 d_J1_charAt_3b067_3 (hdF (by decide)) (hcF _) (R_J0_check ⟨by omega, by omega⟩ (by omega)) (fun r V' R' q => ?_)
  obtain ⟨rfl, rfl, rfl⟩ := q
  refine T_al d_J1_charAt_3b067_6 rfl ?_
  refine T_il d_J1_charAt_3b067_7 rfl ?_
  refine T_blb d_J1_charAt_3b067_8 hw ⟨by omega, by omega⟩ ?_
  refine T_k d_J1_charAt_3b067_9 ?_
  refine T_iand d_J1_charAt_3b067_12 ?_
  refine T_i2c d_J1_charAt_3b067_13 ?_
  have hb := wB_all w hw k hk
  obtain ⟨b, hb2⟩ : ∃ b : Nat, wByt w k = b := ⟨(wByt w k).toNat, by omega⟩
  have h2 := bb_id b (by omega)
  rw [Int.toNat_natCast, hb2, h2.1]
  exact T_cret d_J1_charAt_3b067_14 rfl h2.2 ⟨rfl, rfl, rfl⟩
theorem R_J0_charAt {w k : Nat} (hw : w < 16) (hk : k < wLen w) : RunsP G M_J0_charAt_5068e 4 [vr (1010 + w), vi (k : Int)] V R (vi (wByt w k)) := by
  unfold RunsP
  refine Runs.of pn_J0 (Nat.le_of_ble_eq_true rfl) rfl ?_
  show TT G M_J0_charAt_5068e (rmd 4 162 162) 162 (Zm G 162 162 (QP V R (vi (wByt w k)))) 162 0 [(0, vr (1010 + w)), (1, vi (k : Int))] [] V R
  refine T_al d_J0_charAt_5068e_0 rfl ?_
  refine C_pt0 d_J0_charAt_5068e_1 hw (hdF (by decide)) (hcF _) (R_J0_isLatin1 hw) ?_
  refine T_zeq d_J0_charAt_5068e_4 ⟨by omega, by omega⟩ (fun h => absurd h (by decide)) (fun _ => ?_)
  refine T_al d_J0_charAt_5068e_7 rfl ?_
  refine T_sgv d_J0_charAt_5068e_8 hw ?_
  refine T_il d_J0_charAt_5068e_11 rfl ?_
  refine C_ps2 d_J0_charAt_5068e_12 (hdF (by decide)) (hcF _) (R_J1_charAt hw hk) ?_
  have hb := wB_all w hw k hk
  obtain ⟨b, hb2⟩ : ∃ b : Nat, wByt w k = b := ⟨(wByt w k).toNat, by omega⟩
  have h2 := bb_id b (by omega)
  rw [hb2]
  exact T_cret d_J0_charAt_5068e_15 rfl h2.2 ⟨rfl, rfl, rfl⟩
end STRM
