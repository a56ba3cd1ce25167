/-! the class's words -/
theorem wL_pos : ∀ i, i < 16 → 1 ≤ wLen i := by decide
theorem tokE_ge {t : Nat → Int} {n p : Nat} (h : n ≤ p) : tokE t n p = p := by unfold tokE; rw [if_pos h]
theorem wdb_lt {w n f : Nat} {t : Nat → Int} (hw : w < 16) (h : wdb w t f (tokE t n f) = true) : f < n := by
  rcases Nat.lt_or_ge f n with h1 | h1
  · exact h1
  · have h2 := (wdb_iff.mp h).1
    have h3 := wL_pos w hw
    rw [tokE_ge h1] at h2
    omega
theorem wdb_sg {w n f : Nat} {t : Nat → Int} {c : Int} (hw : wLen w = 1) (hb : wByt w 0 = c) (hc : sof c = 3) : wdb w t f (tokE t n f) = true ↔ f < n ∧ t f = c := by
  rw [wdb_iff, hw]
  constructor
  · rintro ⟨h1, h2⟩
    have h3 := h2 0 (by omega)
    rw [Nat.add_zero, hb] at h3
    refine ⟨?_, h3⟩
    rcases Nat.lt_or_ge f n with h4 | h4
    · exact h4
    · rw [tokE_ge h4] at h1; omega
  · rintro ⟨h1, h2⟩
    refine ⟨?_, fun i hi => ?_⟩
    · rw [tokE_sof h1, h2, if_pos hc]
    · rw [show i = 0 by omega, Nat.add_zero, h2, hb]
theorem R_X4_wordOf {G : GG} {V : VV} {R : RR} {s : Nat} (hs : s < 10) : RunsP G M_X4_wordOf 1 [vi (s : Int)] V R (vr (1010 + (3 + s))) := by
  unfold RunsP
  refine Runs.of pn_X4 (Nat.le_of_ble_eq_true rfl) rfl ?_
  show TT G M_X4_wordOf (rmd 1 162 162) 162 (Zm G 162 162 (QP V R (vr (1010 + (3 + s))))) 162 0 [(0, vi (s : Int))] [] V R
  refine T_il d_X4_wordOf_0 rfl ?_
  rcases (show s = 0 ∨ s = 1 ∨ s = 2 ∨ s = 3 ∨ s = 4 ∨ s = 5 ∨ s = 6 ∨ s = 7 ∨ s = 8 ∨ s = 9 by omega) with rfl | rfl | rfl | rfl | rfl | rfl | rfl | rfl | rfl | rfl
  · refine T_swi d_X4_wordOf_1 ⟨by decide, by decide⟩ (by decide) (by decide) (tg := 52) rfl ?_
    refine T_ldcS (i := 3) ⟨d_X4_wordOf_52, rfl, by decide, rfl⟩ ?_
    exact T_aret (x := some (1010 + (3 + 0))) d_X4_wordOf_54 rfl ⟨rfl, rfl, rfl⟩
  · refine T_swi d_X4_wordOf_1 ⟨by decide, by decide⟩ (by decide) (by decide) (tg := 55) rfl ?_
    refine T_ldcS (i := 4) ⟨d_X4_wordOf_55, rfl, by decide, rfl⟩ ?_
    exact T_aret (x := some (1010 + (3 + 1))) d_X4_wordOf_57 rfl ⟨rfl, rfl, rfl⟩
  · refine T_swi d_X4_wordOf_1 ⟨by decide, by decide⟩ (by decide) (by decide) (tg := 58) rfl ?_
    refine T_ldcS (i := 5) ⟨d_X4_wordOf_58, rfl, by decide, rfl⟩ ?_
    exact T_aret (x := some (1010 + (3 + 2))) d_X4_wordOf_60 rfl ⟨rfl, rfl, rfl⟩
  · refine T_swi d_X4_wordOf_1 ⟨by decide, by decide⟩ (by decide) (by decide) (tg := 61) rfl ?_
    refine T_ldcS (i := 6) ⟨d_X4_wordOf_61, rfl, by decide, rfl⟩ ?_
    exact T_aret (x := some (1010 + (3 + 3))) d_X4_wordOf_63 rfl ⟨rfl, rfl, rfl⟩
  · refine T_swi d_X4_wordOf_1 ⟨by decide, by decide⟩ (by decide) (by decide) (tg := 64) rfl ?_
    refine T_ldcS (i := 7) ⟨d_X4_wordOf_64, rfl, by decide, rfl⟩ ?_
    exact T_aret (x := some (1010 + (3 + 4))) d_X4_wordOf_66 rfl ⟨rfl, rfl, rfl⟩
  · refine T_swi d_X4_wordOf_1 ⟨by decide, by decide⟩ (by decide) (by decide) (tg := 67) rfl ?_
    refine T_ldcS (i := 8) ⟨d_X4_wordOf_67, rfl, by decide, rfl⟩ ?_
    exact T_aret (x := some (1010 + (3 + 5))) d_X4_wordOf_69 rfl ⟨rfl, rfl, rfl⟩
  · refine T_swi d_X4_wordOf_1 ⟨by decide, by decide⟩ (by decide) (by decide) (tg := 70) rfl ?_
    refine T_ldcS (i := 9) ⟨d_X4_wordOf_70, rfl, by decide, rfl⟩ ?_
    exact T_aret (x := some (1010 + (3 + 6))) d_X4_wordOf_72 rfl ⟨rfl, rfl, rfl⟩
  · refine T_swi d_X4_wordOf_1 ⟨by decide, by decide⟩ (by decide) (by decide) (tg := 73) rfl ?_
    refine T_ldcS (i := 10) ⟨d_X4_wordOf_73, rfl, by decide, rfl⟩ ?_
    exact T_aret (x := some (1010 + (3 + 7))) d_X4_wordOf_75 rfl ⟨rfl, rfl, rfl⟩
  · refine T_swi d_X4_wordOf_1 ⟨by decide, by decide⟩ (by decide) (by decide) (tg := 76) rfl ?_
    refine T_ldcS (i := 11) ⟨d_X4_wordOf_76, rfl, by decide, rfl⟩ ?_
    exact T_aret (x := some (1010 + (3 + 8))) d_X4_wordOf_78 rfl ⟨rfl, rfl, rfl⟩
  · refine T_swo d_X4_wordOf_1 ⟨by decide, by decide⟩ (by decide) (tg := 79) (by decide) ?_
    refine T_ldcS (i := 12) ⟨d_X4_wordOf_79, rfl, by decide, rfl⟩ ?_
    exact T_aret (x := some (1010 + (3 + 9))) d_X4_wordOf_81 rfl ⟨rfl, rfl, rfl⟩
set_option maxHeartbeats 1000000 in
set_option maxRecDepth 100000 in
theorem R_X4_take {G : GG} {V : VV} {R : RR}  {n f w : Nat} (hB : Bd V) (hF : FinR R) (hn : V 16 1 = n) (hf : V 16 6 = f) (hfn : f ≤ n) (he : f < n → V 16 7 = tokE (V 17) n f) (hw : w < 16) : Runs G M_X4_take 5 162 162 [vr 16, vr (1010+w)] V R (QV R (bi (decide (wdb w (V 17) f (tokE (V 17) n f) = true))) (if wdb w (V 17) f (tokE (V 17) n f) = true then nextC V n (tokE (V 17) n f) else V)) := by
  refine Runs.of pn_X4 (Nat.le_of_ble_eq_true rfl) rfl ?_
  show TT G M_X4_take (rmd 5 162 162) 162 (Zm G 162 162 (QV R (bi (decide (wdb w (V 17) f (tokE (V 17) n f) = true))) (if wdb w (V 17) f (tokE (V 17) n f) = true then nextC V n (tokE (V 17) n f) else V))) 162 0 [(0, vr 16), (1, vr (1010+w))] [] V R
  have hb17 : 0 ≤ V 16 1 ∧ V 16 1 ≤ 400 := hB.2 16 4 1 0 400 rfl rfl
  have hte := tokE_le (t := V 17) hfn
  have hwp := wL_pos w hw
  have hwl := wL_le (i := w)
  refine T_al d_X4_take_0 rfl ?_
  refine C_pt0 dt_X4_take_1 hw (hdF (by decide)) (hcF _) (R_J0_length hw) ?_
  refine F_isg d_X4_take_4 (f := fun x_1 => [(0, vr 16), (1, vr (1010+w)), (2, vi x_1)]) (fun _ => rfl) (fun x_1 ex_1 => ?_)
  refine T_al d_X4_take_5 rfl ?_
  refine F_gi d_X4_take_6 rfl hB rfl (fun b_2 => ?_)
  refine T_al d_X4_take_9 rfl ?_
  refine F_gi d_X4_take_10 rfl hB rfl (fun b_3 => ?_)
  refine T_ige d_X4_take_13 ⟨by omega, by omega⟩ ⟨by omega, by omega⟩ (fun h13 => ?_) (fun h13 => ?_)
  · skip
    refine T_k d_X4_take_29 ?_
    -- leaf 13t@30
    refine T_zret0 d_X4_take_30 rfl ?_
    have hP : ¬ (wdb w (V 17) f (tokE (V 17) n f) = true) := fun z => by have := wdb_lt hw z; omega
    refine ⟨by rw [decide_eq_false hP], ?_, rfl, hB⟩
    rw [if_neg hP]
  · skip
    refine T_al d_X4_take_16 rfl ?_
    refine F_gi d_X4_take_17 rfl hB rfl (fun b_4 => ?_)
    refine T_al d_X4_take_20 rfl ?_
    refine F_gi d_X4_take_21 rfl hB rfl (fun b_5 => ?_)
    refine T_isub d_X4_take_24 ?_
    refine T_il d_X4_take_25 rfl ?_
    refine T_ieq d_X4_take_26 ⟨by omega, by omega⟩ ⟨by omega, by omega⟩ (fun h26 => ?_) (fun h26 => ?_)
    · skip
      have hfl : f < n := by omega
      have he7 := he hfl
      have hel : tokE (V 17) n f = f + wLen w := by omega
      refine T_k d_X4_take_31 ?_
      refine T_is d_X4_take_32 (ls' := [(0, vr 16), (1, vr (1010+w)), (2, vi x_1), (3, vi 0)]) rfl ?_
      -- to 33 13f.26t@33
      have L33 : ∀ (fu : Nat) (k : Nat), 6 - k < fu → (k ≤ wLen w) → (∀ i, i < k → V 17 (f + i) = wByt w i) → TT G M_X4_take (rmd 5 162 162) 162 (Zm G 162 162 (QV R (bi (decide (wdb w (V 17) f (tokE (V 17) n f) = true))) (if wdb w (V 17) f (tokE (V 17) n f) = true then nextC V n (tokE (V 17) n f) else V))) 162 33 [(0, vr 16), (1, vr (1010+w)), (2, vi x_1), (3, vi (k : Int))] [] V R := by
        intro fu
        induction fu with
        | zero => intro k hm; exact absurd hm (Nat.not_lt_zero _)
        | succ fu ih33 =>
          intro k hm33 hk hm
          refine T_il d_X4_take_33 rfl ?_
          refine T_il d_X4_take_34 rfl ?_
          refine T_ige d_X4_take_35 ⟨by omega, by omega⟩ ⟨by omega, by omega⟩ (fun h35 => ?_) (fun h35 => ?_)
          · skip
            refine T_al d_X4_take_65 rfl ?_
            refine C_v0 d_X4_take_66 rfl (hdF (by decide)) (hcF _) (R_X4_next (n := n) (p := tokE (V 17) n f) hB hF hn he7 hte.2.1) (fun r_6 V_7 R_8 qV_7 => ?_)
            obtain ⟨rfl, eV_7, rfl, hBV_7⟩ := qV_7
            refine T_k d_X4_take_69 ?_
            -- leaf 35t@70
            refine T_zret1 d_X4_take_70 rfl ?_
            have hP : wdb w (V 17) f (tokE (V 17) n f) = true := wdb_iff.mpr ⟨hel, fun i hi => hm i (by omega)⟩
            refine ⟨by rw [decide_eq_true hP], ?_, rfl, hBV_7⟩
            rw [if_pos hP, eV_7]
          · skip
            have hbk := wB_all w hw k (by omega)
            have hix : (V 16 6 + (k : Int)).toNat = f + k := by omega
            refine T_al d_X4_take_38 rfl ?_
            refine F_gr (b := 17) d_X4_take_39 rfl hF rfl ?_
            refine T_al d_X4_take_42 rfl ?_
            refine F_gi d_X4_take_43 rfl hB rfl (fun b_9 => ?_)
            refine T_il d_X4_take_46 rfl ?_
            refine T_iadd d_X4_take_47 ?_
            refine F_ia d_X4_take_48 rfl hB rfl ⟨by omega, by omega⟩ (fun b_10 => ?_)
            try simp only [Int.toNat_natCast]
            try simp only [Int.toNat_natCast] at b_10
            refine T_al d_X4_take_49 rfl ?_
            refine T_il d_X4_take_50 rfl ?_
            refine C_pt1 dt_X4_take_51 hw (hdF (by decide)) (hcF _) (R_J0_charAt hw (by omega)) ?_
            refine T_ieq d_X4_take_54 ⟨by omega, by omega⟩ ⟨by omega, by omega⟩ (fun h54 => ?_) (fun h54 => ?_)
            · skip
              refine F_incg d_X4_take_59 rfl (f := fun x_11 => [(0, vr 16), (1, vr (1010+w)), (2, vi x_1), (3, vi x_11)]) (fun _ => rfl) (fun x_11 ex_11 => ?_)
              refine T_go d_X4_take_62 ?_
              -- to 33 35f.54t@33
              obtain rfl : x_11 = ((k + 1) : Int) := by omega
              exact ih33 (k + 1) (by omega) (by first | assumption | omega) (fun i hi => by rcases Nat.lt_or_ge i k with h | h; exact hm i h; rw [show i = k by omega, ← hix]; exact h54)
            · skip
              refine T_k d_X4_take_57 ?_
              -- leaf 35f.54f@58
              refine T_zret0 d_X4_take_58 rfl ?_
              have hP : ¬ (wdb w (V 17) f (tokE (V 17) n f) = true) := fun z => by apply h54; rw [hix]; exact (wdb_iff.mp z).2 k (by omega)
              refine ⟨by rw [decide_eq_false hP], ?_, rfl, hB⟩
              rw [if_neg hP]
      exact L33 _ (0) (Nat.lt_succ_self _) (by first | assumption | omega) (fun i hi => by omega)
    · skip
      refine T_k d_X4_take_29 ?_
      -- leaf 13f.26f@30
      refine T_zret0 d_X4_take_30 rfl ?_
      have hP : ¬ (wdb w (V 17) f (tokE (V 17) n f) = true) := fun z => by have := (wdb_iff.mp z).1; have := he (by omega); omega
      refine ⟨by rw [decide_eq_false hP], ?_, rfl, hB⟩
      rw [if_neg hP]
