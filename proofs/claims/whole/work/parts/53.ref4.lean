/-! the reference's parser, by steps -/
theorem ps_31 (V0 : VV) (n f : Nat) (rf : Int) (rd : Nat) (lo hi : Nat → Int) : psV V0 n f rf rd lo hi 99 31 = (n : Int) := rfl
theorem ps_32 (V0 : VV) (n f : Nat) (rf : Int) (rd : Nat) (lo hi : Nat → Int) : psV V0 n f rf rd lo hi 99 32 = (f : Int) := rfl
theorem ps_33 (V0 : VV) (n f : Nat) (rf : Int) (rd : Nat) (lo hi : Nat → Int) : psV V0 n f rf rd lo hi 99 33 = (tokE (V0 120) n f : Int) := rfl
theorem ps_35 (V0 : VV) (n f : Nat) (rf : Int) (rd : Nat) (lo hi : Nat → Int) : psV V0 n f rf rd lo hi 99 35 = rf := rfl
theorem ps_37 (V0 : VV) (n f : Nat) (rf : Int) (rd : Nat) (lo hi : Nat → Int) : psV V0 n f rf rd lo hi 99 37 = (rd : Int) := rfl
theorem S_next {G : GG} {V : VV} {R : RR} {V0 : VV} {n f rd : Nat} {rf : Int} {lo hi : Nat → Int} (hB : Bd V) (hF : FinR R) (eV : V = psV V0 n f rf rd lo hi) (hfn : f ≤ n) (hn4 : n ≤ 400) : Runs G M_X11_next 3 162 162 [vr 99] V R (QU R (psV V0 n (nxt (V0 120) n f) rf rd lo hi)) := by
  have h := R_X11_next (G := G) (V := V) (R := R) (n := n) (p := tokE (V0 120) n f) hB hF (by rw [eV]; rfl) (by rw [eV]; rfl) (tokE_le hfn).2.1
  rw [eV, ps_next] at h
  rw [eV]
  exact h
theorem S_faults {G : GG} {V : VV} {R : RR} {V0 : VV} {n f rd : Nat} {rf : Int} {lo hi : Nat → Int} (hB : Bd V) (hF : FinR R) (eV : V = psV V0 n f rf rd lo hi) (hfn : f ≤ n) (hn4 : n ≤ 400) : Runs G M_X11_faults 2 162 162 [vr 99] V R (QU R (psV V0 n f (if rf = -1 then (f : Int) else rf) rd lo hi)) := by
  have h := R_X11_faults (G := G) (V := V) (R := R) hB hF
  have e1 : (if V 99 35 = -1 then uV V 99 35 (V 99 32) else V) = psV V0 n f (if rf = -1 then (f : Int) else rf) rd lo hi := by
    rw [eV, ps_35, ps_32]
    split
    · exact ps_fault _ _ _ _ _ _ _
    · rfl
  rw [e1] at h
  exact h
theorem S_good {G : GG} {V : VV} {R : RR} {V0 : VV} {n f rd : Nat} {rf : Int} {lo hi : Nat → Int} (hB : Bd V) (hF : FinR R) (eV : V = psV V0 n f rf rd lo hi) (hfn : f ≤ n) (hn4 : n ≤ 400) : RunsP G M_X11_good 1 [vr 99] V R (vi (bi (decide (rf = -1)))) := by
  have h := R_X11_good (G := G) (V := V) (R := R) hB hF
  have e1 : V 99 35 = rf := by rw [eV]; rfl
  simp only [e1] at h
  exact h
theorem S_isSign {G : GG} {V : VV} {R : RR} {c : Int} {V0 : VV} {n f rd : Nat} {rf : Int} {lo hi : Nat → Int} (hB : Bd V) (hF : FinR R) (eV : V = psV V0 n f rf rd lo hi) (hfn : f ≤ n) (hn4 : n ≤ 400) (hc : r32 c) : RunsP G M_X11_isSign 1 [vr 99, vi c] V R (vi (bi (decide (f < n ∧ V0 120 f = c)))) := by
  have h := R_X11_isSign (G := G) (V := V) (R := R) (c := c) hB hF hc
  have e1 : V 99 32 = f := by rw [eV]; rfl
  have e2 : V 99 31 = n := by rw [eV]; rfl
  have e3 : V 120 = V0 120 := by rw [eV]; rfl
  simp only [e1, e2, e3, Int.ofNat_lt, Int.toNat_natCast] at h
  exact h
def wK : List Nat := [646642, 20598256, 530067, 21562881, 11634067, 529572, 20522032, 642349, 170284, 9062903]
theorem land31 {a : Nat} (h : a < 2 ^ 62) : landZ (a : Int) 31 = ((a % 32 : Nat) : Int) := by
  have h1 := land_n (a := a) (b := 31) (by omega) (by omega)
  rw [Nat.and_two_pow_sub_one_eq_mod a 5] at h1
  exact h1
theorem lshr5 {a : Nat} (h : a < 2 ^ 62) : lshrZ (a : Int) 5 = ((a / 32 : Nat) : Int) := lshr_n (k := 5) (by decide) h
theorem div_pow {u g : Nat} (h : u < 32 ^ (g - 1)) (hg : 2 ≤ g) : u / 32 < 32 ^ (g - 1 - 1) := by
  apply Nat.div_lt_of_lt_mul
  rw [← Nat.pow_succ', show (g - 1 - 1).succ = g - 1 by omega]
  exact h
set_option maxHeartbeats 1000000 in
set_option maxRecDepth 100000 in
theorem R_X11_needSign {G : GG} {V : VV} {R : RR} {c : Int} {V0 : VV} {n f rd : Nat} {rf : Int} {lo hi : Nat → Int} (hB : Bd V) (hF : FinR R) (eV : V = psV V0 n f rf rd lo hi) (hfn : f ≤ n) (hn4 : n ≤ 400) (hc : r32 c) : Runs G M_X11_needSign 4 162 162 [vr 99, vi c] V R (QU R (if rf = -1 then (if f < n ∧ V0 120 f = c then psV V0 n (nxt (V0 120) n f) rf rd lo hi else psV V0 n f (f : Int) rd lo hi) else psV V0 n f rf rd lo hi)) := by
  refine Runs.of pn_X11 (Nat.le_of_ble_eq_true rfl) rfl ?_
  show TT G M_X11_needSign (rmd 4 162 162) 162 (Zm G 162 162 (QU R (if rf = -1 then (if f < n ∧ V0 120 f = c then psV V0 n (nxt (V0 120) n f) rf rd lo hi else psV V0 n f (f : Int) rd lo hi) else psV V0 n f rf rd lo hi))) 162 0 [(0, vr 99), (1, vi c)] [] V R
  obtain ⟨hc1, hc2⟩ := hc
  refine T_al d_X11_needSign_0 rfl ?_
  refine C_pv0 d_X11_needSign_1 rfl (hdF (by decide)) (hcF _) (S_good (by first | assumption | omega | exact ⟨by omega, by omega⟩ | (subst_vars; simp_all [uV]; done) | grind [uV]) (by first | assumption | omega | exact ⟨by omega, by omega⟩ | (subst_vars; simp_all [uV]; done) | grind [uV]) (by first | assumption | omega | exact ⟨by omega, by omega⟩ | (subst_vars; simp_all [uV]; done) | grind [uV]) (by first | assumption | omega | exact ⟨by omega, by omega⟩ | (subst_vars; simp_all [uV]; done) | grind [uV]) (by first | assumption | omega | exact ⟨by omega, by omega⟩ | (subst_vars; simp_all [uV]; done) | grind [uV])) ?_
  refine T_pz1 d_X11_needSign_4 (fun h4 => ?_) (fun h4 => ?_)
  · skip
    refine T_al d_X11_needSign_8 rfl ?_
    refine T_il d_X11_needSign_9 rfl ?_
    refine C_pv1 d_X11_needSign_10 rfl (hdF (by decide)) (hcF _) (S_isSign (by first | assumption | omega | exact ⟨by omega, by omega⟩ | (subst_vars; simp_all [uV]; done) | grind [uV]) (by first | assumption | omega | exact ⟨by omega, by omega⟩ | (subst_vars; simp_all [uV]; done) | grind [uV]) (by first | assumption | omega | exact ⟨by omega, by omega⟩ | (subst_vars; simp_all [uV]; done) | grind [uV]) (by first | assumption | omega | exact ⟨by omega, by omega⟩ | (subst_vars; simp_all [uV]; done) | grind [uV]) (by first | assumption | omega | exact ⟨by omega, by omega⟩ | (subst_vars; simp_all [uV]; done) | grind [uV]) (by first | assumption | omega | exact ⟨by omega, by omega⟩ | (subst_vars; simp_all [uV]; done) | grind [uV])) ?_
    refine T_pz0 d_X11_needSign_13 (fun h13 => ?_) (fun h13 => ?_)
    · skip
      refine T_al d_X11_needSign_23 rfl ?_
      refine C_v0 d_X11_needSign_24 rfl (hdF (by decide)) (hcF _) (S_faults (by first | assumption | omega | exact ⟨by omega, by omega⟩ | (subst_vars; simp_all [uV]; done) | grind [uV]) (by first | assumption | omega | exact ⟨by omega, by omega⟩ | (subst_vars; simp_all [uV]; done) | grind [uV]) (by first | assumption | omega | exact ⟨by omega, by omega⟩ | (subst_vars; simp_all [uV]; done) | grind [uV]) (by first | assumption | omega | exact ⟨by omega, by omega⟩ | (subst_vars; simp_all [uV]; done) | grind [uV]) (by first | assumption | omega | exact ⟨by omega, by omega⟩ | (subst_vars; simp_all [uV]; done) | grind [uV])) (fun r_1 V_2 R_3 qV_2 => ?_)
      obtain ⟨rfl, eV_2, rfl, hBV_2⟩ := qV_2
      -- leaf 4t.13t@27
      refine T_vret d_X11_needSign_27 rfl ?_
      refine ⟨rfl, ?_, rfl, hBV_2⟩
      simp_all
    · skip
      refine T_al d_X11_needSign_16 rfl ?_
      refine C_v0 d_X11_needSign_17 rfl (hdF (by decide)) (hcF _) (S_next (by first | assumption | omega | exact ⟨by omega, by omega⟩ | (subst_vars; simp_all [uV]; done) | grind [uV]) (by first | assumption | omega | exact ⟨by omega, by omega⟩ | (subst_vars; simp_all [uV]; done) | grind [uV]) (by first | assumption | omega | exact ⟨by omega, by omega⟩ | (subst_vars; simp_all [uV]; done) | grind [uV]) (by first | assumption | omega | exact ⟨by omega, by omega⟩ | (subst_vars; simp_all [uV]; done) | grind [uV]) (by first | assumption | omega | exact ⟨by omega, by omega⟩ | (subst_vars; simp_all [uV]; done) | grind [uV])) (fun r_4 V_5 R_6 qV_5 => ?_)
      obtain ⟨rfl, eV_5, rfl, hBV_5⟩ := qV_5
      refine T_go d_X11_needSign_20 ?_
      -- leaf 4t.13f@27
      refine T_vret d_X11_needSign_27 rfl ?_
      refine ⟨rfl, ?_, rfl, hBV_5⟩
      simp_all
  · skip
    -- leaf 4f@7
    refine T_vret d_X11_needSign_7 rfl ?_
    refine ⟨rfl, ?_, rfl, hB⟩
    simp_all
set_option maxHeartbeats 1000000 in
set_option maxRecDepth 100000 in
theorem R_X11_leastOf {G : GG} {V : VV} {R : RR} {s : Int}  (hs : 0 ≤ s ∧ s < 10) : RunsP G M_X11_leastOf 1 [vi s] V R (vi (lsB s.toNat)) := by
  unfold RunsP
  refine Runs.of pn_X11 (Nat.le_of_ble_eq_true rfl) rfl ?_
  show TT G M_X11_leastOf (rmd 1 162 162) 162 (Zm G 162 162 (QP V R (vi (lsB s.toNat)))) 162 0 [(0, vi s)] [] V R
  refine T_il d_X11_leastOf_0 rfl ?_
  refine T_k d_X11_leastOf_1 ?_
  refine T_ige d_X11_leastOf_2 ⟨by omega, by omega⟩ ⟨by omega, by omega⟩ (fun h2 => ?_) (fun h2 => ?_)
  · skip
    refine T_il d_X11_leastOf_9 rfl ?_
    refine T_k d_X11_leastOf_10 ?_
    refine T_ige d_X11_leastOf_11 ⟨by omega, by omega⟩ ⟨by omega, by omega⟩ (fun h11 => ?_) (fun h11 => ?_)
    · skip
      refine T_il d_X11_leastOf_18 rfl ?_
      refine T_k d_X11_leastOf_19 ?_
      refine T_ige d_X11_leastOf_21 ⟨by omega, by omega⟩ ⟨by omega, by omega⟩ (fun h21 => ?_) (fun h21 => ?_)
      · skip
        refine T_k d_X11_leastOf_28 ?_
        -- leaf 2t.11t.21t@29
        exact P_I d_X11_leastOf_29 (by obtain ⟨k, rfl⟩ := Int.eq_ofNat_of_zero_le hs.1; rcases (show k = 0 ∨ k = 1 ∨ k = 2 ∨ k = 3 ∨ k = 4 ∨ k = 5 ∨ k = 6 ∨ k = 7 ∨ k = 8 ∨ k = 9 by omega) with rfl | rfl | rfl | rfl | rfl | rfl | rfl | rfl | rfl | rfl <;> first | rfl | (exfalso; omega))
      · skip
        refine T_k d_X11_leastOf_24 ?_
        refine T_go d_X11_leastOf_25 ?_
        -- leaf 2t.11t.21f@29
        exact P_I d_X11_leastOf_29 (by obtain ⟨k, rfl⟩ := Int.eq_ofNat_of_zero_le hs.1; rcases (show k = 0 ∨ k = 1 ∨ k = 2 ∨ k = 3 ∨ k = 4 ∨ k = 5 ∨ k = 6 ∨ k = 7 ∨ k = 8 ∨ k = 9 by omega) with rfl | rfl | rfl | rfl | rfl | rfl | rfl | rfl | rfl | rfl <;> first | rfl | (exfalso; omega))
    · skip
      refine T_k d_X11_leastOf_14 ?_
      refine T_go d_X11_leastOf_15 ?_
      -- leaf 2t.11f@29
      exact P_I d_X11_leastOf_29 (by obtain ⟨k, rfl⟩ := Int.eq_ofNat_of_zero_le hs.1; rcases (show k = 0 ∨ k = 1 ∨ k = 2 ∨ k = 3 ∨ k = 4 ∨ k = 5 ∨ k = 6 ∨ k = 7 ∨ k = 8 ∨ k = 9 by omega) with rfl | rfl | rfl | rfl | rfl | rfl | rfl | rfl | rfl | rfl <;> first | rfl | (exfalso; omega))
  · skip
    refine T_k d_X11_leastOf_5 ?_
    refine T_go d_X11_leastOf_6 ?_
    -- leaf 2f@29
    exact P_I d_X11_leastOf_29 (by obtain ⟨k, rfl⟩ := Int.eq_ofNat_of_zero_le hs.1; rcases (show k = 0 ∨ k = 1 ∨ k = 2 ∨ k = 3 ∨ k = 4 ∨ k = 5 ∨ k = 6 ∨ k = 7 ∨ k = 8 ∨ k = 9 by omega) with rfl | rfl | rfl | rfl | rfl | rfl | rfl | rfl | rfl | rfl <;> first | rfl | (exfalso; omega))
set_option maxHeartbeats 1000000 in
set_option maxRecDepth 100000 in
theorem R_X11_mostOf {G : GG} {V : VV} {R : RR} {s : Int}  (hs : 0 ≤ s ∧ s < 10) : RunsP G M_X11_mostOf 1 [vi s] V R (vi (msB s.toNat)) := by
  unfold RunsP
  refine Runs.of pn_X11 (Nat.le_of_ble_eq_true rfl) rfl ?_
  show TT G M_X11_mostOf (rmd 1 162 162) 162 (Zm G 162 162 (QP V R (vi (msB s.toNat)))) 162 0 [(0, vi s)] [] V R
  refine T_il d_X11_mostOf_0 rfl ?_
  by_cases hs1 : s < 0 ∨ 8 < s
  · refine T_swo d_X11_mostOf_1 ⟨by omega, by omega⟩ hs1 (tg := 72) (by decide) ?_
    refine T_k d_X11_mostOf_72 ?_
    -- leaf 1o@74
    exact P_I d_X11_mostOf_74 (by (first | (have e : s = 0 := by omega) | skip); obtain ⟨k, rfl⟩ := Int.eq_ofNat_of_zero_le hs.1; rcases (show k = 0 ∨ k = 1 ∨ k = 2 ∨ k = 3 ∨ k = 4 ∨ k = 5 ∨ k = 6 ∨ k = 7 ∨ k = 8 ∨ k = 9 by omega) with rfl | rfl | rfl | rfl | rfl | rfl | rfl | rfl | rfl | rfl <;> first | rfl | (exfalso; omega))
  · have hq1 : s = 0 ∨ s = 1 ∨ s = 2 ∨ s = 3 ∨ s = 4 ∨ s = 5 ∨ s = 6 ∨ s = 7 ∨ s = 8 := by omega
    rcases hq1 with e1_0 | e1_1 | e1_2 | e1_3 | e1_4 | e1_5 | e1_6 | e1_7 | e1_8
    · refine T_swi d_X11_mostOf_1 ⟨by omega, by omega⟩ (by omega) (by omega) (tg := 52) (by rw [e1_0]; rfl) ?_
      refine T_k d_X11_mostOf_52 ?_
      -- leaf 1s0@53
      exact P_I d_X11_mostOf_53 (by (first | (have e : s = 0 := by omega) | skip); obtain ⟨k, rfl⟩ := Int.eq_ofNat_of_zero_le hs.1; rcases (show k = 0 ∨ k = 1 ∨ k = 2 ∨ k = 3 ∨ k = 4 ∨ k = 5 ∨ k = 6 ∨ k = 7 ∨ k = 8 ∨ k = 9 by omega) with rfl | rfl | rfl | rfl | rfl | rfl | rfl | rfl | rfl | rfl <;> first | rfl | (exfalso; omega))
    · refine T_swi d_X11_mostOf_1 ⟨by omega, by omega⟩ (by omega) (by omega) (tg := 54) (by rw [e1_1]; rfl) ?_
      refine T_k d_X11_mostOf_54 ?_
      -- leaf 1s1@56
      exact P_I d_X11_mostOf_56 (by (first | (have e : s = 0 := by omega) | skip); obtain ⟨k, rfl⟩ := Int.eq_ofNat_of_zero_le hs.1; rcases (show k = 0 ∨ k = 1 ∨ k = 2 ∨ k = 3 ∨ k = 4 ∨ k = 5 ∨ k = 6 ∨ k = 7 ∨ k = 8 ∨ k = 9 by omega) with rfl | rfl | rfl | rfl | rfl | rfl | rfl | rfl | rfl | rfl <;> first | rfl | (exfalso; omega))
    · refine T_swi d_X11_mostOf_1 ⟨by omega, by omega⟩ (by omega) (by omega) (tg := 72) (by rw [e1_2]; rfl) ?_
      refine T_k d_X11_mostOf_72 ?_
      -- leaf 1s2@74
      exact P_I d_X11_mostOf_74 (by (first | (have e : s = 0 := by omega) | skip); obtain ⟨k, rfl⟩ := Int.eq_ofNat_of_zero_le hs.1; rcases (show k = 0 ∨ k = 1 ∨ k = 2 ∨ k = 3 ∨ k = 4 ∨ k = 5 ∨ k = 6 ∨ k = 7 ∨ k = 8 ∨ k = 9 by omega) with rfl | rfl | rfl | rfl | rfl | rfl | rfl | rfl | rfl | rfl <;> first | rfl | (exfalso; omega))
    · refine T_swi d_X11_mostOf_1 ⟨by omega, by omega⟩ (by omega) (by omega) (tg := 57) (by rw [e1_3]; rfl) ?_
      refine T_k d_X11_mostOf_57 ?_
      -- leaf 1s3@60
      exact P_I d_X11_mostOf_60 (by (first | (have e : s = 0 := by omega) | skip); obtain ⟨k, rfl⟩ := Int.eq_ofNat_of_zero_le hs.1; rcases (show k = 0 ∨ k = 1 ∨ k = 2 ∨ k = 3 ∨ k = 4 ∨ k = 5 ∨ k = 6 ∨ k = 7 ∨ k = 8 ∨ k = 9 by omega) with rfl | rfl | rfl | rfl | rfl | rfl | rfl | rfl | rfl | rfl <;> first | rfl | (exfalso; omega))
    · refine T_swi d_X11_mostOf_1 ⟨by omega, by omega⟩ (by omega) (by omega) (tg := 61) (by rw [e1_4]; rfl) ?_
      refine T_k d_X11_mostOf_61 ?_
      -- leaf 1s4@63
      exact P_I d_X11_mostOf_63 (by (first | (have e : s = 0 := by omega) | skip); obtain ⟨k, rfl⟩ := Int.eq_ofNat_of_zero_le hs.1; rcases (show k = 0 ∨ k = 1 ∨ k = 2 ∨ k = 3 ∨ k = 4 ∨ k = 5 ∨ k = 6 ∨ k = 7 ∨ k = 8 ∨ k = 9 by omega) with rfl | rfl | rfl | rfl | rfl | rfl | rfl | rfl | rfl | rfl <;> first | rfl | (exfalso; omega))
    · refine T_swi d_X11_mostOf_1 ⟨by omega, by omega⟩ (by omega) (by omega) (tg := 64) (by rw [e1_5]; rfl) ?_
      refine T_k d_X11_mostOf_64 ?_
      -- leaf 1s5@67
      exact P_I d_X11_mostOf_67 (by (first | (have e : s = 0 := by omega) | skip); obtain ⟨k, rfl⟩ := Int.eq_ofNat_of_zero_le hs.1; rcases (show k = 0 ∨ k = 1 ∨ k = 2 ∨ k = 3 ∨ k = 4 ∨ k = 5 ∨ k = 6 ∨ k = 7 ∨ k = 8 ∨ k = 9 by omega) with rfl | rfl | rfl | rfl | rfl | rfl | rfl | rfl | rfl | rfl <;> first | rfl | (exfalso; omega))
    · refine T_swi d_X11_mostOf_1 ⟨by omega, by omega⟩ (by omega) (by omega) (tg := 64) (by rw [e1_6]; rfl) ?_
      refine T_k d_X11_mostOf_64 ?_
      -- leaf 1s6@67
      exact P_I d_X11_mostOf_67 (by (first | (have e : s = 0 := by omega) | skip); obtain ⟨k, rfl⟩ := Int.eq_ofNat_of_zero_le hs.1; rcases (show k = 0 ∨ k = 1 ∨ k = 2 ∨ k = 3 ∨ k = 4 ∨ k = 5 ∨ k = 6 ∨ k = 7 ∨ k = 8 ∨ k = 9 by omega) with rfl | rfl | rfl | rfl | rfl | rfl | rfl | rfl | rfl | rfl <;> first | rfl | (exfalso; omega))
    · refine T_swi d_X11_mostOf_1 ⟨by omega, by omega⟩ (by omega) (by omega) (tg := 52) (by rw [e1_7]; rfl) ?_
      refine T_k d_X11_mostOf_52 ?_
      -- leaf 1s7@53
      exact P_I d_X11_mostOf_53 (by (first | (have e : s = 0 := by omega) | skip); obtain ⟨k, rfl⟩ := Int.eq_ofNat_of_zero_le hs.1; rcases (show k = 0 ∨ k = 1 ∨ k = 2 ∨ k = 3 ∨ k = 4 ∨ k = 5 ∨ k = 6 ∨ k = 7 ∨ k = 8 ∨ k = 9 by omega) with rfl | rfl | rfl | rfl | rfl | rfl | rfl | rfl | rfl | rfl <;> first | rfl | (exfalso; omega))
    · refine T_swi d_X11_mostOf_1 ⟨by omega, by omega⟩ (by omega) (by omega) (tg := 68) (by rw [e1_8]; rfl) ?_
      refine T_k d_X11_mostOf_68 ?_
      -- leaf 1s8@71
      exact P_I d_X11_mostOf_71 (by (first | (have e : s = 0 := by omega) | skip); obtain ⟨k, rfl⟩ := Int.eq_ofNat_of_zero_le hs.1; rcases (show k = 0 ∨ k = 1 ∨ k = 2 ∨ k = 3 ∨ k = 4 ∨ k = 5 ∨ k = 6 ∨ k = 7 ∨ k = 8 ∨ k = 9 by omega) with rfl | rfl | rfl | rfl | rfl | rfl | rfl | rfl | rfl | rfl <;> first | rfl | (exfalso; omega))
set_option maxHeartbeats 1000000 in
set_option maxRecDepth 100000 in
theorem R_X11_isSpan {G : GG} {V : VV} {R : RR} {s : Int}  (hs : 0 ≤ s ∧ s < 10) : RunsP G M_X11_isSpan 1 [vi s] V R (vi (bi (decide (s = 1 ∨ s = 2 ∨ s = 3 ∨ s = 5)))) := by
  unfold RunsP
  refine Runs.of pn_X11 (Nat.le_of_ble_eq_true rfl) rfl ?_
  show TT G M_X11_isSpan (rmd 1 162 162) 162 (Zm G 162 162 (QP V R (vi (bi (decide (s = 1 ∨ s = 2 ∨ s = 3 ∨ s = 5)))))) 162 0 [(0, vi s)] [] V R
  refine T_il d_X11_isSpan_0 rfl ?_
  refine T_k d_X11_isSpan_1 ?_
  refine T_ieq d_X11_isSpan_2 ⟨by omega, by omega⟩ ⟨by omega, by omega⟩ (fun h2 => ?_) (fun h2 => ?_)
  · skip
    refine T_k d_X11_isSpan_20 ?_
    refine T_go d_X11_isSpan_21 ?_
    -- leaf 2t@25
    exact P_T d_X11_isSpan_25 (by first | omega | grind)
  · skip
    refine T_il d_X11_isSpan_5 rfl ?_
    refine T_k d_X11_isSpan_6 ?_
    refine T_ieq d_X11_isSpan_7 ⟨by omega, by omega⟩ ⟨by omega, by omega⟩ (fun h7 => ?_) (fun h7 => ?_)
    · skip
      refine T_k d_X11_isSpan_20 ?_
      refine T_go d_X11_isSpan_21 ?_
      -- leaf 2f.7t@25
      exact P_T d_X11_isSpan_25 (by first | omega | grind)
    · skip
      refine T_il d_X11_isSpan_10 rfl ?_
      refine T_k d_X11_isSpan_11 ?_
      refine T_ieq d_X11_isSpan_12 ⟨by omega, by omega⟩ ⟨by omega, by omega⟩ (fun h12 => ?_) (fun h12 => ?_)
      · skip
        refine T_k d_X11_isSpan_20 ?_
        refine T_go d_X11_isSpan_21 ?_
        -- leaf 2f.7f.12t@25
        exact P_T d_X11_isSpan_25 (by first | omega | grind)
      · skip
        refine T_il d_X11_isSpan_15 rfl ?_
        refine T_k d_X11_isSpan_16 ?_
        refine T_ine d_X11_isSpan_17 ⟨by omega, by omega⟩ ⟨by omega, by omega⟩ (fun h17 => ?_) (fun h17 => ?_)
        · skip
          refine T_k d_X11_isSpan_24 ?_
          -- leaf 2f.7f.12f.17t@25
          exact P_F d_X11_isSpan_25 (by first | omega | grind)
        · skip
          refine T_k d_X11_isSpan_20 ?_
          refine T_go d_X11_isSpan_21 ?_
          -- leaf 2f.7f.12f.17f@25
          exact P_T d_X11_isSpan_25 (by first | omega | grind)
set_option maxHeartbeats 1000000 in
set_option maxRecDepth 100000 in
theorem R_X11_wordOf {G : GG} {V : VV} {R : RR} {s : Int}  (hs : 0 ≤ s ∧ s < 10) : RunsP G M_X11_wordOf 1 [vi s] V R (vj ((wK.getD s.toNat 0 : Int))) := by
  unfold RunsP
  refine Runs.of pn_X11 (Nat.le_of_ble_eq_true rfl) rfl ?_
  show TT G M_X11_wordOf (rmd 1 162 162) 162 (Zm G 162 162 (QP V R (vj ((wK.getD s.toNat 0 : Int))))) 162 0 [(0, vi s)] [] V R
  refine T_il d_X11_wordOf_0 rfl ?_
  by_cases hs1 : s < 0 ∨ 8 < s
  · refine T_swo d_X11_wordOf_1 ⟨by omega, by omega⟩ hs1 (tg := 88) (by decide) ?_
    refine T_jk d_X11_wordOf_88 ?_
    -- leaf 1o@91
    exact P_J d_X11_wordOf_91 (by (obtain ⟨k, rfl⟩ := Int.eq_ofNat_of_zero_le hs.1); rcases (show k = 0 ∨ k = 1 ∨ k = 2 ∨ k = 3 ∨ k = 4 ∨ k = 5 ∨ k = 6 ∨ k = 7 ∨ k = 8 ∨ k = 9 by omega) with rfl | rfl | rfl | rfl | rfl | rfl | rfl | rfl | rfl | rfl <;> first | rfl | (exfalso; omega))
  · have hq1 : s = 0 ∨ s = 1 ∨ s = 2 ∨ s = 3 ∨ s = 4 ∨ s = 5 ∨ s = 6 ∨ s = 7 ∨ s = 8 := by omega
    rcases hq1 with e1_0 | e1_1 | e1_2 | e1_3 | e1_4 | e1_5 | e1_6 | e1_7 | e1_8
    · refine T_swi d_X11_wordOf_1 ⟨by omega, by omega⟩ (by omega) (by omega) (tg := 52) (by rw [e1_0]; rfl) ?_
      refine T_jk d_X11_wordOf_52 ?_
      -- leaf 1s0@55
      exact P_J d_X11_wordOf_55 (by (obtain ⟨k, rfl⟩ := Int.eq_ofNat_of_zero_le hs.1); rcases (show k = 0 ∨ k = 1 ∨ k = 2 ∨ k = 3 ∨ k = 4 ∨ k = 5 ∨ k = 6 ∨ k = 7 ∨ k = 8 ∨ k = 9 by omega) with rfl | rfl | rfl | rfl | rfl | rfl | rfl | rfl | rfl | rfl <;> first | rfl | (exfalso; omega))
    · refine T_swi d_X11_wordOf_1 ⟨by omega, by omega⟩ (by omega) (by omega) (tg := 56) (by rw [e1_1]; rfl) ?_
      refine T_jk d_X11_wordOf_56 ?_
      -- leaf 1s1@59
      exact P_J d_X11_wordOf_59 (by (obtain ⟨k, rfl⟩ := Int.eq_ofNat_of_zero_le hs.1); rcases (show k = 0 ∨ k = 1 ∨ k = 2 ∨ k = 3 ∨ k = 4 ∨ k = 5 ∨ k = 6 ∨ k = 7 ∨ k = 8 ∨ k = 9 by omega) with rfl | rfl | rfl | rfl | rfl | rfl | rfl | rfl | rfl | rfl <;> first | rfl | (exfalso; omega))
    · refine T_swi d_X11_wordOf_1 ⟨by omega, by omega⟩ (by omega) (by omega) (tg := 60) (by rw [e1_2]; rfl) ?_
      refine T_jk d_X11_wordOf_60 ?_
      -- leaf 1s2@63
      exact P_J d_X11_wordOf_63 (by (obtain ⟨k, rfl⟩ := Int.eq_ofNat_of_zero_le hs.1); rcases (show k = 0 ∨ k = 1 ∨ k = 2 ∨ k = 3 ∨ k = 4 ∨ k = 5 ∨ k = 6 ∨ k = 7 ∨ k = 8 ∨ k = 9 by omega) with rfl | rfl | rfl | rfl | rfl | rfl | rfl | rfl | rfl | rfl <;> first | rfl | (exfalso; omega))
    · refine T_swi d_X11_wordOf_1 ⟨by omega, by omega⟩ (by omega) (by omega) (tg := 64) (by rw [e1_3]; rfl) ?_
      refine T_jk d_X11_wordOf_64 ?_
      -- leaf 1s3@67
      exact P_J d_X11_wordOf_67 (by (obtain ⟨k, rfl⟩ := Int.eq_ofNat_of_zero_le hs.1); rcases (show k = 0 ∨ k = 1 ∨ k = 2 ∨ k = 3 ∨ k = 4 ∨ k = 5 ∨ k = 6 ∨ k = 7 ∨ k = 8 ∨ k = 9 by omega) with rfl | rfl | rfl | rfl | rfl | rfl | rfl | rfl | rfl | rfl <;> first | rfl | (exfalso; omega))
    · refine T_swi d_X11_wordOf_1 ⟨by omega, by omega⟩ (by omega) (by omega) (tg := 68) (by rw [e1_4]; rfl) ?_
      refine T_jk d_X11_wordOf_68 ?_
      -- leaf 1s4@71
      exact P_J d_X11_wordOf_71 (by (obtain ⟨k, rfl⟩ := Int.eq_ofNat_of_zero_le hs.1); rcases (show k = 0 ∨ k = 1 ∨ k = 2 ∨ k = 3 ∨ k = 4 ∨ k = 5 ∨ k = 6 ∨ k = 7 ∨ k = 8 ∨ k = 9 by omega) with rfl | rfl | rfl | rfl | rfl | rfl | rfl | rfl | rfl | rfl <;> first | rfl | (exfalso; omega))
    · refine T_swi d_X11_wordOf_1 ⟨by omega, by omega⟩ (by omega) (by omega) (tg := 72) (by rw [e1_5]; rfl) ?_
      refine T_jk d_X11_wordOf_72 ?_
      -- leaf 1s5@75
      exact P_J d_X11_wordOf_75 (by (obtain ⟨k, rfl⟩ := Int.eq_ofNat_of_zero_le hs.1); rcases (show k = 0 ∨ k = 1 ∨ k = 2 ∨ k = 3 ∨ k = 4 ∨ k = 5 ∨ k = 6 ∨ k = 7 ∨ k = 8 ∨ k = 9 by omega) with rfl | rfl | rfl | rfl | rfl | rfl | rfl | rfl | rfl | rfl <;> first | rfl | (exfalso; omega))
    · refine T_swi d_X11_wordOf_1 ⟨by omega, by omega⟩ (by omega) (by omega) (tg := 76) (by rw [e1_6]; rfl) ?_
      refine T_jk d_X11_wordOf_76 ?_
      -- leaf 1s6@79
      exact P_J d_X11_wordOf_79 (by (obtain ⟨k, rfl⟩ := Int.eq_ofNat_of_zero_le hs.1); rcases (show k = 0 ∨ k = 1 ∨ k = 2 ∨ k = 3 ∨ k = 4 ∨ k = 5 ∨ k = 6 ∨ k = 7 ∨ k = 8 ∨ k = 9 by omega) with rfl | rfl | rfl | rfl | rfl | rfl | rfl | rfl | rfl | rfl <;> first | rfl | (exfalso; omega))
    · refine T_swi d_X11_wordOf_1 ⟨by omega, by omega⟩ (by omega) (by omega) (tg := 80) (by rw [e1_7]; rfl) ?_
      refine T_jk d_X11_wordOf_80 ?_
      -- leaf 1s7@83
      exact P_J d_X11_wordOf_83 (by (obtain ⟨k, rfl⟩ := Int.eq_ofNat_of_zero_le hs.1); rcases (show k = 0 ∨ k = 1 ∨ k = 2 ∨ k = 3 ∨ k = 4 ∨ k = 5 ∨ k = 6 ∨ k = 7 ∨ k = 8 ∨ k = 9 by omega) with rfl | rfl | rfl | rfl | rfl | rfl | rfl | rfl | rfl | rfl <;> first | rfl | (exfalso; omega))
    · refine T_swi d_X11_wordOf_1 ⟨by omega, by omega⟩ (by omega) (by omega) (tg := 84) (by rw [e1_8]; rfl) ?_
      refine T_jk d_X11_wordOf_84 ?_
      -- leaf 1s8@87
      exact P_J d_X11_wordOf_87 (by (obtain ⟨k, rfl⟩ := Int.eq_ofNat_of_zero_le hs.1); rcases (show k = 0 ∨ k = 1 ∨ k = 2 ∨ k = 3 ∨ k = 4 ∨ k = 5 ∨ k = 6 ∨ k = 7 ∨ k = 8 ∨ k = 9 by omega) with rfl | rfl | rfl | rfl | rfl | rfl | rfl | rfl | rfl | rfl <;> first | rfl | (exfalso; omega))
set_option maxHeartbeats 1000000 in
set_option maxRecDepth 100000 in
theorem R_X11_isWord {G : GG} {V : VV} {R : RR} {w : Int} {V0 : VV} {n f rd : Nat} {rf : Int} {lo hi : Nat → Int} {u : Nat} (hB : Bd V) (hF : FinR R) (eV : V = psV V0 n f rf rd lo hi) (hfn : f ≤ n) (hn4 : n ≤ 400) (hw : w = (u : Int)) (hu : u < 1073741824) : RunsP G M_X11_isWord 1 [vr 99, vj w] V R (vi (bi (decide (wmB (V0 120) 8 u f (tokE (V0 120) n f) = true)))) := by
  unfold RunsP
  refine Runs.of pn_X11 (Nat.le_of_ble_eq_true rfl) rfl ?_
  show TT G M_X11_isWord (rmd 1 162 162) 162 (Zm G 162 162 (QP V R (vi (bi (decide (wmB (V0 120) 8 u f (tokE (V0 120) n f) = true)))))) 162 0 [(0, vr 99), (1, vj w)] [] V R
  have hte := tokE_le (t := V0 120) hfn
  refine T_ll d_X11_isWord_0 rfl ?_
  refine T_ls d_X11_isWord_1 (ls' := [(0, vr 99), (1, vj w), (3, vj w)]) rfl ?_
  refine T_al d_X11_isWord_2 rfl ?_
  refine F_gi d_X11_isWord_3 rfl hB rfl (fun b_1 => ?_)
  have pV_32 := (congrFun (congrFun eV 99) 32).trans (ps_32 _ _ _ _ _ _ _)
  rw [pV_32]
  rw [pV_32] at b_1
  refine F_isg d_X11_isWord_6 (f := fun x_2 => [(0, vr 99), (1, vj w), (3, vj w), (5, vi x_2)]) (fun _ => rfl) (fun x_2 ex_2 => ?_)
  -- to 8 @8
  have L8 : ∀ (fu : Nat) (g u2 c : Nat), g < fu → (1 ≤ g ∧ g ≤ 8) → (u2 < 32 ^ (g - 1)) → (f ≤ c ∧ c ≤ tokE (V0 120) n f) → (wmB (V0 120) g u2 c (tokE (V0 120) n f) = wmB (V0 120) 8 u f (tokE (V0 120) n f)) → TT G M_X11_isWord (rmd 1 162 162) 162 (Zm G 162 162 (QP V R (vi (bi (decide (wmB (V0 120) 8 u f (tokE (V0 120) n f) = true)))))) 162 8 [(0, vr 99), (1, vj w), (3, vj (u2 : Int)), (5, vi (c : Int))] [] V R := by
    intro fu
    induction fu with
    | zero => intro g u2 c hm; exact absurd hm (Nat.not_lt_zero _)
    | succ fu ih8 =>
      intro g u2 c hm8 hg hu2 hc hm
      have hu3 : u2 < 2 ^ 62 := Nat.lt_of_lt_of_le hu2 (Nat.le_trans (Nat.pow_le_pow_right (by decide) (show g - 1 ≤ 7 by omega)) (by decide))
      obtain ⟨g1, rfl⟩ : ∃ g1, g = g1 + 1 := ⟨g - 1, by omega⟩
      refine T_ll d_X11_isWord_8 rfl ?_
      refine T_jk d_X11_isWord_9 ?_
      refine T_lle d_X11_isWord_10 d_X11_isWord_11 ⟨by omega, by omega⟩ ⟨by omega, by omega⟩ (fun h10 => ?_) (fun h10 => ?_)
      · skip
        refine T_il d_X11_isWord_56 rfl ?_
        refine T_al d_X11_isWord_58 rfl ?_
        refine F_gi d_X11_isWord_59 rfl hB rfl (fun b_3 => ?_)
        have pV_33 := (congrFun (congrFun eV 99) 33).trans (ps_33 _ _ _ _ _ _ _)
        rw [pV_33]
        rw [pV_33] at b_3
        refine T_ine d_X11_isWord_62 ⟨by omega, by omega⟩ ⟨by omega, by omega⟩ (fun h62 => ?_) (fun h62 => ?_)
        · skip
          refine T_k d_X11_isWord_69 ?_
          -- leaf 10t.62t@70
          exact P_F d_X11_isWord_70 (by rw [← hm, wm_0 (by omega)]; simp; omega)
        · skip
          refine T_k d_X11_isWord_65 ?_
          refine T_go d_X11_isWord_66 ?_
          -- leaf 10t.62f@70
          exact P_T d_X11_isWord_70 (by rw [← hm, wm_0 (by omega)]; simp; omega)
      · skip
        have hg2 : 2 ≤ g1 + 1 := by
          rcases (show g1 = 0 ∨ 2 ≤ g1 + 1 by omega) with rfl | h
          · simp at hu2; omega
          · exact h
        refine T_il d_X11_isWord_14 rfl ?_
        refine T_al d_X11_isWord_16 rfl ?_
        refine F_gi d_X11_isWord_17 rfl hB rfl (fun b_4 => ?_)
        have pV_33 := (congrFun (congrFun eV 99) 33).trans (ps_33 _ _ _ _ _ _ _)
        rw [pV_33]
        rw [pV_33] at b_4
        refine T_ige d_X11_isWord_20 ⟨by omega, by omega⟩ ⟨by omega, by omega⟩ (fun h20 => ?_) (fun h20 => ?_)
        · skip
          refine T_k d_X11_isWord_44 ?_
          -- leaf 10f.20t@45
          exact P_F d_X11_isWord_45 (by rw [← hm, wm_s (by omega), decide_eq_false (show ¬ c < tokE (V0 120) n f by omega)]; simp)
        · skip
          refine T_al d_X11_isWord_23 rfl ?_
          refine F_gr (b := 120) d_X11_isWord_24 rfl hF rfl ?_
          refine T_il d_X11_isWord_27 rfl ?_
          refine F_ba d_X11_isWord_29 rfl hB rfl ⟨by omega, by omega⟩ (fun b_5 => ?_)
          have paV_120 : V 120 = V0 120 := by rw [eV]; rfl
          rw [paV_120]
          rw [paV_120] at b_5
          try simp only [Int.toNat_natCast]
          try simp only [Int.toNat_natCast] at b_5
          refine T_i2l d_X11_isWord_30 ⟨by omega, by omega⟩ ?_
          refine T_jk d_X11_isWord_31 ?_
          refine T_ll d_X11_isWord_34 rfl ?_
          refine T_jk d_X11_isWord_35 ?_
          refine T_land d_X11_isWord_38 ?_
          rw [land31 hu3]
          refine T_ladd d_X11_isWord_39 ?_
          refine T_leq d_X11_isWord_40 d_X11_isWord_41 ⟨by omega, by omega⟩ ⟨by omega, by omega⟩ (fun h40 => ?_) (fun h40 => ?_)
          · skip
            refine T_ll d_X11_isWord_46 rfl ?_
            refine T_k d_X11_isWord_47 ?_
            refine T_lshr d_X11_isWord_48 ?_
            rw [lshr5 hu3]
            refine F_lsg d_X11_isWord_49 (f := fun y_6 => [(0, vr 99), (1, vj w), (3, vj y_6), (5, vi (c : Int))]) (fun _ => rfl) (fun y_6 ey_6 => ?_)
            refine F_incg d_X11_isWord_50 rfl (f := fun x_7 => [(0, vr 99), (1, vj w), (3, vj y_6), (5, vi x_7)]) (fun _ => rfl) (fun x_7 ex_7 => ?_)
            refine T_go d_X11_isWord_53 ?_
            -- to 8 10f.20f.40t@8
            obtain rfl : y_6 = ((u2 / 32) : Int) := by omega
            obtain rfl : x_7 = ((c + 1) : Int) := by omega
            exact ih8 (g1) (u2 / 32) (c + 1) (by omega) (by omega) (by simpa using div_pow hu2 hg2) (by first | assumption | omega) (by rw [← hm, wm_s (by omega), decide_eq_true (show c < tokE (V0 120) n f by omega), decide_eq_true (show V0 120 c = 96 + ((u2 % 32 : Nat) : Int) by simpa using h40)]; rfl)
          · skip
            refine T_k d_X11_isWord_44 ?_
            -- leaf 10f.20f.40f@45
            exact P_F d_X11_isWord_45 (by rw [← hm, wm_s (by omega), decide_eq_false (show ¬ V0 120 c = 96 + ((u2 % 32 : Nat) : Int) by simpa using h40)]; simp)
  obtain rfl : w = (u : Int) := by omega
  obtain rfl : x_2 = (f : Int) := by omega
  exact L8 _ (8) (u) (f) (Nat.lt_succ_self _) (by first | assumption | omega) (by omega) (by first | assumption | omega) rfl
set_option maxHeartbeats 1000000 in
set_option maxRecDepth 100000 in
theorem R_X11_number {G : GG} {V : VV} {R : RR} {l : Int} {m : Int} {V0 : VV} {n f rd : Nat} {rf : Int} {lo hi : Nat → Int} (hB : Bd V) (hF : FinR R) (eV : V = psV V0 n f rf rd lo hi) (hfn : f ≤ n) (hn4 : n ≤ 400) (hl : 0 ≤ l ∧ l ≤ 500) (hm : 0 ≤ m ∧ m ≤ 500) : Runs G M_X11_number 4 162 162 [vr 99, vi l, vi m] V R (QV R (if rf = -1 ∧ numOK (V0 120) n f l m then exN (V0 120) f (tokE (V0 120) n f) else 0) (if rf = -1 then (if numOK (V0 120) n f l m then psV V0 n (nxt (V0 120) n f) rf rd lo hi else psV V0 n f (f : Int) rd lo hi) else psV V0 n f rf rd lo hi)) := by
  refine Runs.of pn_X11 (Nat.le_of_ble_eq_true rfl) rfl ?_
  show TT G M_X11_number (rmd 4 162 162) 162 (Zm G 162 162 (QV R (if rf = -1 ∧ numOK (V0 120) n f l m then exN (V0 120) f (tokE (V0 120) n f) else 0) (if rf = -1 then (if numOK (V0 120) n f l m then psV V0 n (nxt (V0 120) n f) rf rd lo hi else psV V0 n f (f : Int) rd lo hi) else psV V0 n f rf rd lo hi))) 162 0 [(0, vr 99), (1, vi l), (2, vi m)] [] V R
  have hte := tokE_le (t := V0 120) hfn
  have hp31 : V 99 31 = n := by rw [eV]; rfl
  have hp120 : V 120 = V0 120 := by rw [eV]; rfl
  refine T_al d_X11_number_0 rfl ?_
  refine C_pv0 d_X11_number_1 rfl (hdF (by decide)) (hcF _) (S_good (by first | assumption | omega | exact ⟨by omega, by omega⟩ | (subst_vars; simp_all [uV]; done) | grind [uV]) (by first | assumption | omega | exact ⟨by omega, by omega⟩ | (subst_vars; simp_all [uV]; done) | grind [uV]) (by first | assumption | omega | exact ⟨by omega, by omega⟩ | (subst_vars; simp_all [uV]; done) | grind [uV]) (by first | assumption | omega | exact ⟨by omega, by omega⟩ | (subst_vars; simp_all [uV]; done) | grind [uV]) (by first | assumption | omega | exact ⟨by omega, by omega⟩ | (subst_vars; simp_all [uV]; done) | grind [uV])) ?_
  refine T_pz1 d_X11_number_4 (fun h4 => ?_) (fun h4 => ?_)
  · skip
    refine T_al d_X11_number_9 rfl ?_
    refine T_al d_X11_number_10 rfl ?_
    refine F_gi d_X11_number_11 rfl hB rfl (fun b_1 => ?_)
    have pV_32 := (congrFun (congrFun eV 99) 32).trans (ps_32 _ _ _ _ _ _ _)
    rw [pV_32]
    rw [pV_32] at b_1
    refine T_k d_X11_number_14 ?_
    refine T_k d_X11_number_16 ?_
    refine C_pv3 d_X11_number_18 rfl (hdF (by decide)) (hcF _) (R_X11_isIn hB hF ⟨by omega, by omega⟩ ⟨by omega, by omega⟩ ⟨by omega, by omega⟩ (by omega)) ?_
    refine T_pz1 d_X11_number_21 (fun h21 => ?_) (fun h21 => ?_)
    · skip
      rw [hp31, hp120] at h21
      have hdg : isDb (V0 120 f) = true := decide_eq_true (by simpa using h21.2)
      have hfl : f < n := by omega
      have hdt : ∀ j : Nat, f ≤ j → j < tokE (V0 120) n f → 48 ≤ V0 120 j ∧ V0 120 j ≤ 57 := fun j h1 h2 => dig_tok hfl hdg h1 h2
      refine T_k d_X11_number_30 ?_
      refine T_is d_X11_number_31 (ls' := [(0, vr 99), (1, vi l), (2, vi m), (3, vi 0)]) rfl ?_
      refine T_al d_X11_number_32 rfl ?_
      refine F_gi d_X11_number_33 rfl hB rfl (fun b_2 => ?_)
      have pV_32 := (congrFun (congrFun eV 99) 32).trans (ps_32 _ _ _ _ _ _ _)
      rw [pV_32]
      rw [pV_32] at b_2
      refine F_isg d_X11_number_36 (f := fun x_3 => [(0, vr 99), (1, vi l), (2, vi m), (3, vi 0), (4, vi x_3)]) (fun _ => rfl) (fun x_3 ex_3 => ?_)
      -- to 38 4t.21t@38
      have L38 : ∀ (fu : Nat) (i : Nat) (v : Int), tokE (V0 120) n f - f - i < fu → (f + i ≤ tokE (V0 120) n f) → (0 ≤ v ∧ v ≤ 10 * m + 9) → (0 ≤ exF (V0 120) f i) → (v = exF (V0 120) f i ∨ (m < v ∧ m < exF (V0 120) f i)) → TT G M_X11_number (rmd 4 162 162) 162 (Zm G 162 162 (QV R (if rf = -1 ∧ numOK (V0 120) n f l m then exN (V0 120) f (tokE (V0 120) n f) else 0) (if rf = -1 then (if numOK (V0 120) n f l m then psV V0 n (nxt (V0 120) n f) rf rd lo hi else psV V0 n f (f : Int) rd lo hi) else psV V0 n f rf rd lo hi))) 162 38 [(0, vr 99), (1, vi l), (2, vi m), (3, vi v), (4, vi ((f + i : Nat) : Int))] [] V R := by
        intro fu
        induction fu with
        | zero => intro i v hm; exact absurd hm (Nat.not_lt_zero _)
        | succ fu ih38 =>
          intro i v hm38 hi hv0 hx0 hv
          refine T_il d_X11_number_38 rfl ?_
          refine T_al d_X11_number_40 rfl ?_
          refine F_gi d_X11_number_41 rfl hB rfl (fun b_4 => ?_)
          have pV_33 := (congrFun (congrFun eV 99) 33).trans (ps_33 _ _ _ _ _ _ _)
          rw [pV_33]
          rw [pV_33] at b_4
          refine T_ige d_X11_number_44 ⟨by omega, by omega⟩ ⟨by omega, by omega⟩ (fun h44 => ?_) (fun h44 => ?_)
          · skip
            have hie : exN (V0 120) f (tokE (V0 120) n f) = exF (V0 120) f i := by unfold exN; congr 1; omega
            refine T_il d_X11_number_78 rfl ?_
            refine T_il d_X11_number_79 rfl ?_
            refine T_ilt d_X11_number_80 ⟨by omega, by omega⟩ ⟨by omega, by omega⟩ (fun h80 => ?_) (fun h80 => ?_)
            · skip
              refine T_al d_X11_number_88 rfl ?_
              refine C_v0 d_X11_number_89 rfl (hdF (by decide)) (hcF _) (S_faults (by first | assumption | omega | exact ⟨by omega, by omega⟩ | (subst_vars; simp_all [uV]; done) | grind [uV]) (by first | assumption | omega | exact ⟨by omega, by omega⟩ | (subst_vars; simp_all [uV]; done) | grind [uV]) (by first | assumption | omega | exact ⟨by omega, by omega⟩ | (subst_vars; simp_all [uV]; done) | grind [uV]) (by first | assumption | omega | exact ⟨by omega, by omega⟩ | (subst_vars; simp_all [uV]; done) | grind [uV]) (by first | assumption | omega | exact ⟨by omega, by omega⟩ | (subst_vars; simp_all [uV]; done) | grind [uV])) (fun r_5 V_6 R_7 qV_6 => ?_)
              obtain ⟨rfl, eV_6, rfl, hBV_6⟩ := qV_6
              refine T_k d_X11_number_92 ?_
              -- leaf 44t.80t@93
              refine T_iret d_X11_number_93 rfl ?_
              have hno : ¬ numOK (V0 120) n f l m := fun z => by have := z.2.2; omega
              refine ⟨?_, ?_, rfl, hBV_6⟩
              · rw [if_neg (fun z => hno z.2)]
              · rw [eV_6, if_pos h4, if_neg hno, if_pos h4]
            · skip
              refine T_il d_X11_number_83 rfl ?_
              refine T_il d_X11_number_84 rfl ?_
              refine T_ile d_X11_number_85 ⟨by omega, by omega⟩ ⟨by omega, by omega⟩ (fun h85 => ?_) (fun h85 => ?_)
              · skip
                refine T_al d_X11_number_94 rfl ?_
                refine C_v0 d_X11_number_95 rfl (hdF (by decide)) (hcF _) (S_next (by first | assumption | omega | exact ⟨by omega, by omega⟩ | (subst_vars; simp_all [uV]; done) | grind [uV]) (by first | assumption | omega | exact ⟨by omega, by omega⟩ | (subst_vars; simp_all [uV]; done) | grind [uV]) (by first | assumption | omega | exact ⟨by omega, by omega⟩ | (subst_vars; simp_all [uV]; done) | grind [uV]) (by first | assumption | omega | exact ⟨by omega, by omega⟩ | (subst_vars; simp_all [uV]; done) | grind [uV]) (by first | assumption | omega | exact ⟨by omega, by omega⟩ | (subst_vars; simp_all [uV]; done) | grind [uV])) (fun r_8 V_9 R_10 qV_9 => ?_)
                obtain ⟨rfl, eV_9, rfl, hBV_9⟩ := qV_9
                refine T_il d_X11_number_98 rfl ?_
                -- leaf 44t.80f.85t@99
                refine T_iret d_X11_number_99 rfl ?_
                have hok : numOK (V0 120) n f l m := ⟨hfl, hdg, by omega, by omega⟩
                refine ⟨?_, ?_, rfl, hBV_9⟩
                · rw [if_pos ⟨h4, hok⟩]; congr 2; omega
                · rw [eV_9, if_pos h4, if_pos hok]
              · skip
                refine T_al d_X11_number_88 rfl ?_
                refine C_v0 d_X11_number_89 rfl (hdF (by decide)) (hcF _) (S_faults (by first | assumption | omega | exact ⟨by omega, by omega⟩ | (subst_vars; simp_all [uV]; done) | grind [uV]) (by first | assumption | omega | exact ⟨by omega, by omega⟩ | (subst_vars; simp_all [uV]; done) | grind [uV]) (by first | assumption | omega | exact ⟨by omega, by omega⟩ | (subst_vars; simp_all [uV]; done) | grind [uV]) (by first | assumption | omega | exact ⟨by omega, by omega⟩ | (subst_vars; simp_all [uV]; done) | grind [uV]) (by first | assumption | omega | exact ⟨by omega, by omega⟩ | (subst_vars; simp_all [uV]; done) | grind [uV])) (fun r_11 V_12 R_13 qV_12 => ?_)
                obtain ⟨rfl, eV_12, rfl, hBV_12⟩ := qV_12
                refine T_k d_X11_number_92 ?_
                -- leaf 44t.80f.85f@93
                refine T_iret d_X11_number_93 rfl ?_
                have hno : ¬ numOK (V0 120) n f l m := fun z => by have := z.2.2; omega
                refine ⟨?_, ?_, rfl, hBV_12⟩
                · rw [if_neg (fun z => hno z.2)]
                · rw [eV_12, if_pos h4, if_neg hno, if_pos h4]
          · skip
            have hde := hdt (f + i) (by omega) (by omega)
            have hes := ex_s (V0 120) f i
            refine T_il d_X11_number_47 rfl ?_
            refine T_il d_X11_number_48 rfl ?_
            refine T_ile d_X11_number_49 ⟨by omega, by omega⟩ ⟨by omega, by omega⟩ (fun h49 => ?_) (fun h49 => ?_)
            · skip
              refine T_k d_X11_number_56 ?_
              refine T_il d_X11_number_58 rfl ?_
              refine T_imul d_X11_number_59 ?_
              refine T_al d_X11_number_60 rfl ?_
              refine F_gr (b := 120) d_X11_number_61 rfl hF rfl ?_
              refine T_il d_X11_number_64 rfl ?_
              refine F_ba d_X11_number_66 rfl hB rfl ⟨by omega, by omega⟩ (fun b_14 => ?_)
              have paV_120 : V 120 = V0 120 := by rw [eV]; rfl
              rw [paV_120]
              rw [paV_120] at b_14
              try simp only [Int.toNat_natCast]
              try simp only [Int.toNat_natCast] at b_14
              refine T_iadd d_X11_number_67 ?_
              refine T_k d_X11_number_68 ?_
              refine T_isub d_X11_number_70 ?_
              refine F_isg d_X11_number_71 (f := fun x_15 => [(0, vr 99), (1, vi l), (2, vi m), (3, vi x_15), (4, vi ((f + i : Nat) : Int))]) (fun _ => rfl) (fun x_15 ex_15 => ?_)
              refine F_incg d_X11_number_72 rfl (f := fun x_16 => [(0, vr 99), (1, vi l), (2, vi m), (3, vi x_15), (4, vi x_16)]) (fun _ => rfl) (fun x_16 ex_16 => ?_)
              refine T_go d_X11_number_75 ?_
              -- to 38 44f.49t@38
              obtain rfl : x_16 = ((f + (i + 1) : Nat) : Int) := by omega
              exact ih38 (i + 1) x_15 (by omega) (by first | assumption | omega) (by omega) (by omega) (by omega)
            · skip
              refine T_il d_X11_number_52 rfl ?_
              refine T_go d_X11_number_53 ?_
              refine T_is d_X11_number_71 (ls' := [(0, vr 99), (1, vi l), (2, vi m), (3, vi v), (4, vi ((f + i : Nat) : Int))]) rfl ?_
              refine F_incg d_X11_number_72 rfl (f := fun x_17 => [(0, vr 99), (1, vi l), (2, vi m), (3, vi v), (4, vi x_17)]) (fun _ => rfl) (fun x_17 ex_17 => ?_)
              refine T_go d_X11_number_75 ?_
              -- to 38 44f.49f@38
              obtain rfl : x_17 = ((f + (i + 1) : Nat) : Int) := by omega
              exact ih38 (i + 1) v (by omega) (by first | assumption | omega) (by omega) (by omega) (by omega)
      obtain rfl : x_3 = ((f + 0 : Nat) : Int) := by omega
      exact L38 _ (0) 0 (Nat.lt_succ_self _) (by first | assumption | omega) (by omega) (Int.le_refl 0) (Or.inl rfl)
    · skip
      refine T_al d_X11_number_24 rfl ?_
      refine C_v0 d_X11_number_25 rfl (hdF (by decide)) (hcF _) (S_faults (by first | assumption | omega | exact ⟨by omega, by omega⟩ | (subst_vars; simp_all [uV]; done) | grind [uV]) (by first | assumption | omega | exact ⟨by omega, by omega⟩ | (subst_vars; simp_all [uV]; done) | grind [uV]) (by first | assumption | omega | exact ⟨by omega, by omega⟩ | (subst_vars; simp_all [uV]; done) | grind [uV]) (by first | assumption | omega | exact ⟨by omega, by omega⟩ | (subst_vars; simp_all [uV]; done) | grind [uV]) (by first | assumption | omega | exact ⟨by omega, by omega⟩ | (subst_vars; simp_all [uV]; done) | grind [uV])) (fun r_18 V_19 R_20 qV_19 => ?_)
      obtain ⟨rfl, eV_19, rfl, hBV_19⟩ := qV_19
      refine T_k d_X11_number_28 ?_
      -- leaf 4t.21f@29
      refine T_iret d_X11_number_29 rfl ?_
      rw [hp31, hp120] at h21
      have hno : ¬ numOK (V0 120) n f l m := fun z => h21 ⟨by omega, by have := of_decide_eq_true z.2.1; simpa using this⟩
      refine ⟨?_, ?_, rfl, hBV_19⟩
      · rw [if_neg (fun z => hno z.2)]
      · rw [eV_19, if_pos h4, if_neg hno, if_pos h4]
  · skip
    refine T_k d_X11_number_7 ?_
    -- leaf 4f@8
    refine T_iret d_X11_number_8 rfl ?_
    refine ⟨?_, ?_, rfl, hB⟩
    · rw [if_neg (fun z => h4 z.1)]
    · rw [if_neg h4, eV]
