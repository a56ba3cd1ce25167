/-! the reference's clauses -/
theorem ps_lo (V0 : VV) (n f : Nat) (rf : Int) (rd i : Nat) (lo hi : Nat → Int) (x : Int) : uV (psV V0 n f rf rd lo hi) 124 i x = psV V0 n f rf rd (up1 lo i x) hi := by
  funext k j
  unfold uV psV up1
  by_cases h : k = 124
  · subst h; simp
  · simp [h]
theorem ps_hi (V0 : VV) (n f : Nat) (rf : Int) (rd i : Nat) (lo hi : Nat → Int) (x : Int) : uV (psV V0 n f rf rd lo hi) 125 i x = psV V0 n f rf rd lo (up1 hi i x) := by
  funext k j
  unfold uV psV up1
  by_cases h : k = 125
  · subst h; simp
  · simp [h]
theorem wK_lt : ∀ k, k < 10 → wK.getD k 0 < 1073741824 := by decide +kernel
theorem ls_r : ∀ k, k < 10 → 0 ≤ lsB k ∧ lsB k ≤ 500 := by decide +kernel
theorem ms_r : ∀ k, k < 10 → 0 ≤ msB k ∧ msB k ≤ 500 := by decide +kernel
theorem sp_iff : ∀ k, k < 10 → ((k = 1 ∨ k = 2 ∨ k = 3 ∨ k = 5) ↔ spB k = true) := by decide +kernel
set_option maxHeartbeats 1000000 in
set_option maxRecDepth 100000 in
theorem R_X11_clause {G : GG} {V : VV} {R : RR}  {V0 : VV} {n f rd : Nat} {lo hi : Nat → Int} (hB : Bd V) (hF : FinR R) (eV : V = psV V0 n f (-1) rd lo hi) (hfn : f ≤ n) (hn4 : n ≤ 400) (hrd : rd < 5) : Runs G M_X11_clause 5 162 162 [vr 99] V R (QU R (psV V0 n (clS (V0 120) n f rd lo hi).1 (clS (V0 120) n f rd lo hi).2.1 rd (clS (V0 120) n f rd lo hi).2.2.1 (clS (V0 120) n f rd lo hi).2.2.2)) := by
  refine Runs.of pn_X11 (Nat.le_of_ble_eq_true rfl) rfl ?_
  show TT G M_X11_clause (rmd 5 162 162) 162 (Zm G 162 162 (QU R (psV V0 n (clS (V0 120) n f rd lo hi).1 (clS (V0 120) n f rd lo hi).2.1 rd (clS (V0 120) n f rd lo hi).2.2.1 (clS (V0 120) n f rd lo hi).2.2.2))) 162 0 [(0, vr 99)] [] V R
  refine T_k d_X11_clause_0 ?_
  refine T_is d_X11_clause_1 (ls' := [(0, vr 99), (1, vi (-1))]) rfl ?_
  refine T_k d_X11_clause_2 ?_
  refine T_is d_X11_clause_3 (ls' := [(0, vr 99), (1, vi (-1)), (2, vi 0)]) rfl ?_
  -- to 4 @4
  have L4 : ∀ (fu : Nat) (k : Nat) (x : Int), 10 - k < fu → (k ≤ 10) → ((x = -1 ∧ ∀ j, j < k → wdb (3 + j) (V0 120) f (tokE (V0 120) n f) = false) ∨ ∃ j : Nat, j < k ∧ x = (j : Int) ∧ wdb (3 + j) (V0 120) f (tokE (V0 120) n f) = true) → TT G M_X11_clause (rmd 5 162 162) 162 (Zm G 162 162 (QU R (psV V0 n (clS (V0 120) n f rd lo hi).1 (clS (V0 120) n f rd lo hi).2.1 rd (clS (V0 120) n f rd lo hi).2.2.1 (clS (V0 120) n f rd lo hi).2.2.2))) 162 4 [(0, vr 99), (1, vi x), (2, vi (k : Int))] [] V R := by
    intro fu
    induction fu with
    | zero => intro k x hm; exact absurd hm (Nat.not_lt_zero _)
    | succ fu ih4 =>
      intro k x hm4 hk hx
      refine T_il d_X11_clause_4 rfl ?_
      refine T_k d_X11_clause_5 ?_
      refine T_ige d_X11_clause_7 ⟨by omega, by omega⟩ ⟨by omega, by omega⟩ (fun h7 => ?_) (fun h7 => ?_)
      · skip
        have hxr : -1 ≤ x ∧ x < 10 := by rcases hx with h | ⟨j, h1, h2, -⟩ <;> omega
        refine T_il d_X11_clause_29 rfl ?_
        refine T_k d_X11_clause_30 ?_
        refine T_ine d_X11_clause_31 ⟨by omega, by omega⟩ ⟨by omega, by omega⟩ (fun h31 => ?_) (fun h31 => ?_)
        · skip
          obtain ⟨j, hj, hxj, hwj⟩ : ∃ j : Nat, j < 10 ∧ x = (j : Int) ∧ wdb (3 + j) (V0 120) f (tokE (V0 120) n f) = true := by
            rcases hx with h | ⟨j, h1, h2, h3⟩
            · exact absurd h.1 h31
            · exact ⟨j, by omega, h2, h3⟩
          have hsj : sortS (V0 120) f (tokE (V0 120) n f) = j := sortS_of hj hwj
          have hlr := ls_r j hj
          have hmr := ms_r j hj
          have hg1 := nxt_le (t := V0 120) hfn
          have hg2 := nxt_le (t := V0 120) hg1.2.1
          have hg3 := nxt_le (t := V0 120) hg2.2.1
          have hg4 := nxt_le (t := V0 120) hg3.2.1
          have hxn : x.toNat = j := by omega
          refine T_al d_X11_clause_39 rfl ?_
          refine C_v0 d_X11_clause_40 rfl (hdF (by decide)) (hcF _) (S_next (by first | assumption | omega | exact ⟨by omega, by omega⟩ | (subst_vars; simp_all [uV]; done) | grind [uV]) (by first | assumption | omega | exact ⟨by omega, by omega⟩ | (subst_vars; simp_all [uV]; done) | grind [uV]) (by first | assumption | omega | exact ⟨by omega, by omega⟩ | (subst_vars; simp_all [uV]; done) | grind [uV]) (by first | assumption | omega | exact ⟨by omega, by omega⟩ | (subst_vars; simp_all [uV]; done) | grind [uV]) (by first | assumption | omega | exact ⟨by omega, by omega⟩ | (subst_vars; simp_all [uV]; done) | grind [uV])) (fun r_1 V_2 R_3 qV_2 => ?_)
          obtain ⟨rfl, eV_2, rfl, hBV_2⟩ := qV_2
          refine T_al d_X11_clause_43 rfl ?_
          refine T_il d_X11_clause_44 rfl ?_
          refine C_ps1 d_X11_clause_45 (hdF (by decide)) (hcF _) (R_X11_leastOf (by first | assumption | omega | exact ⟨by omega, by omega⟩ | (subst_vars; simp_all [uV]; done) | grind [uV])) ?_
          rw [hxn]
          refine T_il d_X11_clause_48 rfl ?_
          refine C_ps1 d_X11_clause_49 (hdF (by decide)) (hcF _) (R_X11_mostOf (by first | assumption | omega | exact ⟨by omega, by omega⟩ | (subst_vars; simp_all [uV]; done) | grind [uV])) ?_
          rw [hxn]
          refine C_v2 d_X11_clause_52 rfl (hdF (by decide)) (hcF _) (R_X11_number hBV_2 hF (by assumption) (by omega) hn4 (by omega) (by omega)) (fun r_4 V_5 R_6 qV_5 => ?_)
          obtain ⟨rfl, eV_5, rfl, hBV_5⟩ := qV_5
          by_cases hN1 : numOK (V0 120) n (nxt (V0 120) n f) (lsB j) (msB j)
          · skip
            rw [if_pos rfl, if_pos hN1] at eV_5
            rw [if_pos ⟨rfl, hN1⟩]
            refine F_isg d_X11_clause_55 (f := fun x_7 => [(0, vr 99), (1, vi x), (2, vi x_7)]) (fun _ => rfl) (fun x_7 ex_7 => ?_)
            have hv1 := hN1.2.2
            refine T_il d_X11_clause_56 rfl ?_
            refine T_is d_X11_clause_57 (ls' := [(0, vr 99), (1, vi x), (2, vi x_7), (3, vi x_7)]) rfl ?_
            refine T_il d_X11_clause_58 rfl ?_
            refine C_ps1 d_X11_clause_59 (hdF (by decide)) (hcF _) (R_X11_isSpan (by first | assumption | omega | exact ⟨by omega, by omega⟩ | (subst_vars; simp_all [uV]; done) | grind [uV])) ?_
            refine T_pz0 d_X11_clause_62 (fun h62 => ?_) (fun h62 => ?_)
            · skip
              refine T_al d_X11_clause_122 rfl ?_
              refine C_pv0 d_X11_clause_123 rfl (hdF (by decide)) (hcF _) (S_good (by first | assumption | omega | exact ⟨by omega, by omega⟩ | (subst_vars; simp_all [uV]; done) | grind [uV]) (by first | assumption | omega | exact ⟨by omega, by omega⟩ | (subst_vars; simp_all [uV]; done) | grind [uV]) (by first | assumption | omega | exact ⟨by omega, by omega⟩ | (subst_vars; simp_all [uV]; done) | grind [uV]) (by first | assumption | omega | exact ⟨by omega, by omega⟩ | (subst_vars; simp_all [uV]; done) | grind [uV]) (by first | assumption | omega | exact ⟨by omega, by omega⟩ | (subst_vars; simp_all [uV]; done) | grind [uV])) ?_
              refine T_pz1 d_X11_clause_126 (fun h126 => ?_) (fun h126 => ?_)
              · skip
                refine T_al d_X11_clause_130 rfl ?_
                refine F_gr (b := 124) d_X11_clause_131 rfl hF rfl ?_
                refine T_k d_X11_clause_134 ?_
                refine T_al d_X11_clause_136 rfl ?_
                refine F_gi d_X11_clause_137 rfl hBV_5 rfl (fun b_8 => ?_)
                have pV_5_37 := (congrFun (congrFun eV_5 99) 37).trans (ps_37 _ _ _ _ _ _ _)
                rw [pV_5_37]
                rw [pV_5_37] at b_8
                refine T_imul d_X11_clause_140 ?_
                refine T_il d_X11_clause_141 rfl ?_
                refine T_iadd d_X11_clause_142 ?_
                refine T_il d_X11_clause_143 rfl ?_
                refine F_is d_X11_clause_144 rfl hBV_5 rfl ⟨by omega, by omega⟩ ⟨by omega, by omega⟩ (fun V_9 eV_9 hBV_9 => ?_)
                refine T_al d_X11_clause_145 rfl ?_
                refine F_gr (b := 125) d_X11_clause_146 rfl hF rfl ?_
                refine T_k d_X11_clause_149 ?_
                refine T_al d_X11_clause_151 rfl ?_
                refine F_gi d_X11_clause_152 rfl hBV_9 rfl (fun b_10 => ?_)
                have fV_9_99_37 : V_9 99 37 = V_5 99 37 := by rw [eV_9]; rfl
                rw [fV_9_99_37]
                rw [fV_9_99_37] at b_10
                refine T_imul d_X11_clause_155 ?_
                refine T_il d_X11_clause_156 rfl ?_
                refine T_iadd d_X11_clause_157 ?_
                refine T_il d_X11_clause_158 rfl ?_
                refine F_is d_X11_clause_159 rfl hBV_9 rfl ⟨by omega, by omega⟩ ⟨by omega, by omega⟩ (fun V_11 eV_11 hBV_11 => ?_)
                -- leaf 7t.31t.52c0.62t.126t@160
                refine T_vret d_X11_clause_160 rfl ?_
                have hspf : spB j = false := Bool.eq_false_iff.mpr (fun h => h62 (by have := (sp_iff j hj).mpr h; omega))
                refine ⟨rfl, ?_, rfl, hBV_11⟩
                have hq : V_5 99 37 = (rd : Int) := by rw [eV_5]; rfl
                rw [eV_11, eV_9, hq, eV_5, show (10 * (rd : Int) + x).toNat = 10 * rd + j by omega, ps_lo, ps_hi]
                have hcl : (clS (V0 120) n f rd lo hi) = ((nxt (V0 120) n (nxt (V0 120) n f)), -1, up1 lo (10 * rd + j) (exN (V0 120) (nxt (V0 120) n f) (tokE (V0 120) n (nxt (V0 120) n f))), up1 hi (10 * rd + j) (exN (V0 120) (nxt (V0 120) n f) (tokE (V0 120) n (nxt (V0 120) n f)))) := by
                  unfold clS
                  simp only [hsj]
                  rw [if_neg (show ¬ j = 10 by omega), if_neg (fun h => h hN1), if_pos hspf]
                rw [hcl]
                simp only [ex_7]
              · exact absurd rfl h126
            · skip
              have hsp : spB j = true := (sp_iff j hj).mp (by omega)
              refine T_al d_X11_clause_65 rfl ?_
              refine C_pv0 d_X11_clause_66 rfl (hdF (by decide)) (hcF _) (S_good (by first | assumption | omega | exact ⟨by omega, by omega⟩ | (subst_vars; simp_all [uV]; done) | grind [uV]) (by first | assumption | omega | exact ⟨by omega, by omega⟩ | (subst_vars; simp_all [uV]; done) | grind [uV]) (by first | assumption | omega | exact ⟨by omega, by omega⟩ | (subst_vars; simp_all [uV]; done) | grind [uV]) (by first | assumption | omega | exact ⟨by omega, by omega⟩ | (subst_vars; simp_all [uV]; done) | grind [uV]) (by first | assumption | omega | exact ⟨by omega, by omega⟩ | (subst_vars; simp_all [uV]; done) | grind [uV])) ?_
              refine T_pz0 d_X11_clause_69 (fun h69 => ?_) (fun h69 => ?_)
              · exact absurd rfl h69
              · skip
                refine T_al d_X11_clause_72 rfl ?_
                refine T_jk d_X11_clause_73 ?_
                refine C_pv1 d_X11_clause_76 rfl (hdF (by decide)) (hcF _) (R_X11_isWord (u := 500) hBV_5 hF (by assumption) (by omega) hn4 rfl (by decide)) ?_
                refine T_pz1 d_X11_clause_79 (fun h79 => ?_) (fun h79 => ?_)
                · skip
                  refine T_al d_X11_clause_86 rfl ?_
                  refine C_pv0 d_X11_clause_87 rfl (hdF (by decide)) (hcF _) (S_good (by first | assumption | omega | exact ⟨by omega, by omega⟩ | (subst_vars; simp_all [uV]; done) | grind [uV]) (by first | assumption | omega | exact ⟨by omega, by omega⟩ | (subst_vars; simp_all [uV]; done) | grind [uV]) (by first | assumption | omega | exact ⟨by omega, by omega⟩ | (subst_vars; simp_all [uV]; done) | grind [uV]) (by first | assumption | omega | exact ⟨by omega, by omega⟩ | (subst_vars; simp_all [uV]; done) | grind [uV]) (by first | assumption | omega | exact ⟨by omega, by omega⟩ | (subst_vars; simp_all [uV]; done) | grind [uV])) ?_
                  refine T_pz0 d_X11_clause_90 (fun h90 => ?_) (fun h90 => ?_)
                  · exact absurd rfl h90
                  · skip
                    refine T_al d_X11_clause_93 rfl ?_
                    refine C_v0 d_X11_clause_94 rfl (hdF (by decide)) (hcF _) (S_next (by first | assumption | omega | exact ⟨by omega, by omega⟩ | (subst_vars; simp_all [uV]; done) | grind [uV]) (by first | assumption | omega | exact ⟨by omega, by omega⟩ | (subst_vars; simp_all [uV]; done) | grind [uV]) (by first | assumption | omega | exact ⟨by omega, by omega⟩ | (subst_vars; simp_all [uV]; done) | grind [uV]) (by first | assumption | omega | exact ⟨by omega, by omega⟩ | (subst_vars; simp_all [uV]; done) | grind [uV]) (by first | assumption | omega | exact ⟨by omega, by omega⟩ | (subst_vars; simp_all [uV]; done) | grind [uV])) (fun r_12 V_13 R_14 qV_13 => ?_)
                    obtain ⟨rfl, eV_13, rfl, hBV_13⟩ := qV_13
                    refine T_al d_X11_clause_97 rfl ?_
                    refine T_il d_X11_clause_98 rfl ?_
                    refine T_il d_X11_clause_99 rfl ?_
                    refine C_ps1 d_X11_clause_100 (hdF (by decide)) (hcF _) (R_X11_leastOf (by first | assumption | omega | exact ⟨by omega, by omega⟩ | (subst_vars; simp_all [uV]; done) | grind [uV])) ?_
                    rw [hxn]
                    refine T_ige d_X11_clause_103 ⟨by omega, by omega⟩ ⟨by omega, by omega⟩ (fun h103 => ?_) (fun h103 => ?_)
                    · skip
                      refine T_il d_X11_clause_113 rfl ?_
                      refine T_il d_X11_clause_114 rfl ?_
                      refine C_ps1 d_X11_clause_115 (hdF (by decide)) (hcF _) (R_X11_mostOf (by first | assumption | omega | exact ⟨by omega, by omega⟩ | (subst_vars; simp_all [uV]; done) | grind [uV])) ?_
                      rw [hxn]
                      refine C_v2 d_X11_clause_118 rfl (hdF (by decide)) (hcF _) (R_X11_number hBV_13 hF (by assumption) (by omega) hn4 (by omega) (by omega)) (fun r_15 V_16 R_17 qV_16 => ?_)
                      obtain ⟨rfl, eV_16, rfl, hBV_16⟩ := qV_16
                      by_cases hN3 : numOK (V0 120) n (nxt (V0 120) n (nxt (V0 120) n (nxt (V0 120) n f))) x_7 (msB j)
                      · skip
                        rw [if_pos rfl, if_pos hN3] at eV_16
                        rw [if_pos ⟨rfl, hN3⟩]
                        refine F_isg d_X11_clause_121 (f := fun x_18 => [(0, vr 99), (1, vi x), (2, vi x_7), (3, vi x_18)]) (fun _ => rfl) (fun x_18 ex_18 => ?_)
                        refine T_al d_X11_clause_122 rfl ?_
                        refine C_pv0 d_X11_clause_123 rfl (hdF (by decide)) (hcF _) (S_good (by first | assumption | omega | exact ⟨by omega, by omega⟩ | (subst_vars; simp_all [uV]; done) | grind [uV]) (by first | assumption | omega | exact ⟨by omega, by omega⟩ | (subst_vars; simp_all [uV]; done) | grind [uV]) (by first | assumption | omega | exact ⟨by omega, by omega⟩ | (subst_vars; simp_all [uV]; done) | grind [uV]) (by first | assumption | omega | exact ⟨by omega, by omega⟩ | (subst_vars; simp_all [uV]; done) | grind [uV]) (by first | assumption | omega | exact ⟨by omega, by omega⟩ | (subst_vars; simp_all [uV]; done) | grind [uV])) ?_
                        refine T_pz1 d_X11_clause_126 (fun h126 => ?_) (fun h126 => ?_)
                        · skip
                          refine T_al d_X11_clause_130 rfl ?_
                          refine F_gr (b := 124) d_X11_clause_131 rfl hF rfl ?_
                          refine T_k d_X11_clause_134 ?_
                          refine T_al d_X11_clause_136 rfl ?_
                          refine F_gi d_X11_clause_137 rfl hBV_16 rfl (fun b_19 => ?_)
                          have pV_16_37 := (congrFun (congrFun eV_16 99) 37).trans (ps_37 _ _ _ _ _ _ _)
                          rw [pV_16_37]
                          rw [pV_16_37] at b_19
                          refine T_imul d_X11_clause_140 ?_
                          refine T_il d_X11_clause_141 rfl ?_
                          refine T_iadd d_X11_clause_142 ?_
                          refine T_il d_X11_clause_143 rfl ?_
                          refine F_is d_X11_clause_144 rfl hBV_16 rfl ⟨by omega, by omega⟩ ⟨by omega, by omega⟩ (fun V_20 eV_20 hBV_20 => ?_)
                          refine T_al d_X11_clause_145 rfl ?_
                          refine F_gr (b := 125) d_X11_clause_146 rfl hF rfl ?_
                          refine T_k d_X11_clause_149 ?_
                          refine T_al d_X11_clause_151 rfl ?_
                          refine F_gi d_X11_clause_152 rfl hBV_20 rfl (fun b_21 => ?_)
                          have fV_20_99_37 : V_20 99 37 = V_16 99 37 := by rw [eV_20]; rfl
                          rw [fV_20_99_37]
                          rw [fV_20_99_37] at b_21
                          refine T_imul d_X11_clause_155 ?_
                          refine T_il d_X11_clause_156 rfl ?_
                          refine T_iadd d_X11_clause_157 ?_
                          refine T_il d_X11_clause_158 rfl ?_
                          refine F_is d_X11_clause_159 rfl hBV_20 rfl ⟨by omega, by omega⟩ ⟨by omega, by omega⟩ (fun V_22 eV_22 hBV_22 => ?_)
                          -- leaf 7t.31t.52c0.62f.69f.79t.90f.103t.118c0.126t@160
                          refine T_vret d_X11_clause_160 rfl ?_
                          rw [ex_7] at hN3
                          refine ⟨rfl, ?_, rfl, hBV_22⟩
                          have hq : V_16 99 37 = (rd : Int) := by rw [eV_16]; rfl
                          rw [eV_22, eV_20, hq, eV_16, show (10 * (rd : Int) + x).toNat = 10 * rd + j by omega, ps_lo, ps_hi]
                          have hcl : (clS (V0 120) n f rd lo hi) = ((nxt (V0 120) n (nxt (V0 120) n (nxt (V0 120) n (nxt (V0 120) n f)))), -1, up1 lo (10 * rd + j) (exN (V0 120) (nxt (V0 120) n f) (tokE (V0 120) n (nxt (V0 120) n f))), up1 hi (10 * rd + j) (exN (V0 120) (nxt (V0 120) n (nxt (V0 120) n (nxt (V0 120) n f))) (tokE (V0 120) n (nxt (V0 120) n (nxt (V0 120) n (nxt (V0 120) n f)))))) := by
                            unfold clS
                            simp only [hsj]
                            rw [if_neg (show ¬ j = 10 by omega), if_neg (fun h => h hN1), if_neg (by rw [hsp]; decide), if_neg (fun h => h (show wdb 13 (V0 120) (nxt (V0 120) n (nxt (V0 120) n f)) (tokE (V0 120) n (nxt (V0 120) n (nxt (V0 120) n f))) = true from wk_to.mp h79)), if_neg (fun h => h hN3)]
                          rw [hcl]
                          simp_all
                        · exact absurd rfl h126
                      · skip
                        rw [if_pos rfl, if_neg hN3] at eV_16
                        rw [if_neg (fun z => hN3 z.2)]
                        refine F_isg d_X11_clause_121 (f := fun x_23 => [(0, vr 99), (1, vi x), (2, vi x_7), (3, vi x_23)]) (fun _ => rfl) (fun x_23 ex_23 => ?_)
                        refine T_al d_X11_clause_122 rfl ?_
                        refine C_pv0 d_X11_clause_123 rfl (hdF (by decide)) (hcF _) (S_good (by first | assumption | omega | exact ⟨by omega, by omega⟩ | (subst_vars; simp_all [uV]; done) | grind [uV]) (by first | assumption | omega | exact ⟨by omega, by omega⟩ | (subst_vars; simp_all [uV]; done) | grind [uV]) (by first | assumption | omega | exact ⟨by omega, by omega⟩ | (subst_vars; simp_all [uV]; done) | grind [uV]) (by first | assumption | omega | exact ⟨by omega, by omega⟩ | (subst_vars; simp_all [uV]; done) | grind [uV]) (by first | assumption | omega | exact ⟨by omega, by omega⟩ | (subst_vars; simp_all [uV]; done) | grind [uV])) ?_
                        refine T_pz1 d_X11_clause_126 (fun h126 => ?_) (fun h126 => ?_)
                        · exfalso; first | omega | (simp at h126; done) | (simp at h126; omega)
                        · skip
                          -- leaf 7t.31t.52c0.62f.69f.79t.90f.103t.118c1.126f@129
                          refine T_vret d_X11_clause_129 rfl ?_
                          rw [ex_7] at hN3
                          refine ⟨rfl, ?_, rfl, hBV_16⟩
                          rw [eV_16]
                          have hcl : (clS (V0 120) n f rd lo hi) = ((nxt (V0 120) n (nxt (V0 120) n (nxt (V0 120) n f))), ((nxt (V0 120) n (nxt (V0 120) n (nxt (V0 120) n f))) : Int), lo, hi) := by
                            unfold clS
                            simp only [hsj]
                            rw [if_neg (show ¬ j = 10 by omega), if_neg (fun h => h hN1), if_neg (by rw [hsp]; decide), if_neg (fun h => h (show wdb 13 (V0 120) (nxt (V0 120) n (nxt (V0 120) n f)) (tokE (V0 120) n (nxt (V0 120) n (nxt (V0 120) n f))) = true from wk_to.mp h79)), if_pos hN3]
                          rw [hcl]
                    · exfalso; omega
                · skip
                  refine T_al d_X11_clause_82 rfl ?_
                  refine C_v0 d_X11_clause_83 rfl (hdF (by decide)) (hcF _) (S_faults (by first | assumption | omega | exact ⟨by omega, by omega⟩ | (subst_vars; simp_all [uV]; done) | grind [uV]) (by first | assumption | omega | exact ⟨by omega, by omega⟩ | (subst_vars; simp_all [uV]; done) | grind [uV]) (by first | assumption | omega | exact ⟨by omega, by omega⟩ | (subst_vars; simp_all [uV]; done) | grind [uV]) (by first | assumption | omega | exact ⟨by omega, by omega⟩ | (subst_vars; simp_all [uV]; done) | grind [uV]) (by first | assumption | omega | exact ⟨by omega, by omega⟩ | (subst_vars; simp_all [uV]; done) | grind [uV])) (fun r_24 V_25 R_26 qV_25 => ?_)
                  obtain ⟨rfl, eV_25, rfl, hBV_25⟩ := qV_25
                  refine T_al d_X11_clause_86 rfl ?_
                  refine C_pv0 d_X11_clause_87 rfl (hdF (by decide)) (hcF _) (S_good (by first | assumption | omega | exact ⟨by omega, by omega⟩ | (subst_vars; simp_all [uV]; done) | grind [uV]) (by first | assumption | omega | exact ⟨by omega, by omega⟩ | (subst_vars; simp_all [uV]; done) | grind [uV]) (by first | assumption | omega | exact ⟨by omega, by omega⟩ | (subst_vars; simp_all [uV]; done) | grind [uV]) (by first | assumption | omega | exact ⟨by omega, by omega⟩ | (subst_vars; simp_all [uV]; done) | grind [uV]) (by first | assumption | omega | exact ⟨by omega, by omega⟩ | (subst_vars; simp_all [uV]; done) | grind [uV])) ?_
                  refine T_pz0 d_X11_clause_90 (fun h90 => ?_) (fun h90 => ?_)
                  · skip
                    refine T_al d_X11_clause_97 rfl ?_
                    refine T_il d_X11_clause_98 rfl ?_
                    refine T_il d_X11_clause_99 rfl ?_
                    refine C_ps1 d_X11_clause_100 (hdF (by decide)) (hcF _) (R_X11_leastOf (by first | assumption | omega | exact ⟨by omega, by omega⟩ | (subst_vars; simp_all [uV]; done) | grind [uV])) ?_
                    rw [hxn]
                    refine T_ige d_X11_clause_103 ⟨by omega, by omega⟩ ⟨by omega, by omega⟩ (fun h103 => ?_) (fun h103 => ?_)
                    · skip
                      refine T_il d_X11_clause_113 rfl ?_
                      refine T_il d_X11_clause_114 rfl ?_
                      refine C_ps1 d_X11_clause_115 (hdF (by decide)) (hcF _) (R_X11_mostOf (by first | assumption | omega | exact ⟨by omega, by omega⟩ | (subst_vars; simp_all [uV]; done) | grind [uV])) ?_
                      rw [hxn]
                      refine C_v2 d_X11_clause_118 rfl (hdF (by decide)) (hcF _) (R_X11_number hBV_25 hF (by assumption) (by omega) hn4 (by omega) (by omega)) (fun r_27 V_28 R_29 qV_28 => ?_)
                      obtain ⟨rfl, eV_28, rfl, hBV_28⟩ := qV_28
                      rw [if_neg (by first | omega | (simp; omega) | simp)] at eV_28
                      · skip
                        rw [if_neg (by first | (rintro ⟨h, -⟩; omega) | (rintro ⟨h, -⟩; simp at h; omega) | (rintro ⟨h, -⟩; simp at h))]
                        refine F_isg d_X11_clause_121 (f := fun x_30 => [(0, vr 99), (1, vi x), (2, vi x_7), (3, vi x_30)]) (fun _ => rfl) (fun x_30 ex_30 => ?_)
                        refine T_al d_X11_clause_122 rfl ?_
                        refine C_pv0 d_X11_clause_123 rfl (hdF (by decide)) (hcF _) (S_good (by first | assumption | omega | exact ⟨by omega, by omega⟩ | (subst_vars; simp_all [uV]; done) | grind [uV]) (by first | assumption | omega | exact ⟨by omega, by omega⟩ | (subst_vars; simp_all [uV]; done) | grind [uV]) (by first | assumption | omega | exact ⟨by omega, by omega⟩ | (subst_vars; simp_all [uV]; done) | grind [uV]) (by first | assumption | omega | exact ⟨by omega, by omega⟩ | (subst_vars; simp_all [uV]; done) | grind [uV]) (by first | assumption | omega | exact ⟨by omega, by omega⟩ | (subst_vars; simp_all [uV]; done) | grind [uV])) ?_
                        refine T_pz1 d_X11_clause_126 (fun h126 => ?_) (fun h126 => ?_)
                        · exfalso; first | omega | (simp at h126; done) | (simp at h126; omega)
                        · skip
                          -- leaf 7t.31t.52c0.62f.69f.79f.90t.103t.118c0.126f@129
                          refine T_vret d_X11_clause_129 rfl ?_
                          refine ⟨rfl, ?_, rfl, hBV_28⟩
                          rw [eV_28]
                          have hcl : (clS (V0 120) n f rd lo hi) = ((nxt (V0 120) n (nxt (V0 120) n f)), ((nxt (V0 120) n (nxt (V0 120) n f)) : Int), lo, hi) := by
                            unfold clS
                            simp only [hsj]
                            rw [if_neg (show ¬ j = 10 by omega), if_neg (fun h => h hN1), if_neg (by rw [hsp]; decide), if_pos (fun h => h79 (wk_to.mpr h))]
                          rw [hcl]
                          simp
                    · exfalso; omega
                  · exfalso; first | omega | (simp at h90; done) | (simp at h90; omega)
          · skip
            rw [if_pos rfl, if_neg hN1] at eV_5
            rw [if_neg (fun z => hN1 z.2)]
            refine F_isg d_X11_clause_55 (f := fun x_31 => [(0, vr 99), (1, vi x), (2, vi x_31)]) (fun _ => rfl) (fun x_31 ex_31 => ?_)
            refine T_il d_X11_clause_56 rfl ?_
            refine T_is d_X11_clause_57 (ls' := [(0, vr 99), (1, vi x), (2, vi x_31), (3, vi x_31)]) rfl ?_
            refine T_il d_X11_clause_58 rfl ?_
            refine C_ps1 d_X11_clause_59 (hdF (by decide)) (hcF _) (R_X11_isSpan (by first | assumption | omega | exact ⟨by omega, by omega⟩ | (subst_vars; simp_all [uV]; done) | grind [uV])) ?_
            refine T_pz0 d_X11_clause_62 (fun h62 => ?_) (fun h62 => ?_)
            · skip
              refine T_al d_X11_clause_122 rfl ?_
              refine C_pv0 d_X11_clause_123 rfl (hdF (by decide)) (hcF _) (S_good (by first | assumption | omega | exact ⟨by omega, by omega⟩ | (subst_vars; simp_all [uV]; done) | grind [uV]) (by first | assumption | omega | exact ⟨by omega, by omega⟩ | (subst_vars; simp_all [uV]; done) | grind [uV]) (by first | assumption | omega | exact ⟨by omega, by omega⟩ | (subst_vars; simp_all [uV]; done) | grind [uV]) (by first | assumption | omega | exact ⟨by omega, by omega⟩ | (subst_vars; simp_all [uV]; done) | grind [uV]) (by first | assumption | omega | exact ⟨by omega, by omega⟩ | (subst_vars; simp_all [uV]; done) | grind [uV])) ?_
              refine T_pz1 d_X11_clause_126 (fun h126 => ?_) (fun h126 => ?_)
              · exfalso; omega
              · skip
                -- leaf 7t.31t.52c1.62t.126f@129
                refine T_vret d_X11_clause_129 rfl ?_
                refine ⟨rfl, ?_, rfl, hBV_5⟩
                rw [eV_5]
                have hcl : (clS (V0 120) n f rd lo hi) = ((nxt (V0 120) n f), ((nxt (V0 120) n f) : Int), lo, hi) := by
                  unfold clS
                  simp only [hsj]
                  rw [if_neg (show ¬ j = 10 by omega), if_pos hN1]
                rw [hcl]
            · skip
              have hsp : spB j = true := (sp_iff j hj).mp (by omega)
              refine T_al d_X11_clause_65 rfl ?_
              refine C_pv0 d_X11_clause_66 rfl (hdF (by decide)) (hcF _) (S_good (by first | assumption | omega | exact ⟨by omega, by omega⟩ | (subst_vars; simp_all [uV]; done) | grind [uV]) (by first | assumption | omega | exact ⟨by omega, by omega⟩ | (subst_vars; simp_all [uV]; done) | grind [uV]) (by first | assumption | omega | exact ⟨by omega, by omega⟩ | (subst_vars; simp_all [uV]; done) | grind [uV]) (by first | assumption | omega | exact ⟨by omega, by omega⟩ | (subst_vars; simp_all [uV]; done) | grind [uV]) (by first | assumption | omega | exact ⟨by omega, by omega⟩ | (subst_vars; simp_all [uV]; done) | grind [uV])) ?_
              refine T_pz0 d_X11_clause_69 (fun h69 => ?_) (fun h69 => ?_)
              · skip
                refine T_al d_X11_clause_86 rfl ?_
                refine C_pv0 d_X11_clause_87 rfl (hdF (by decide)) (hcF _) (S_good (by first | assumption | omega | exact ⟨by omega, by omega⟩ | (subst_vars; simp_all [uV]; done) | grind [uV]) (by first | assumption | omega | exact ⟨by omega, by omega⟩ | (subst_vars; simp_all [uV]; done) | grind [uV]) (by first | assumption | omega | exact ⟨by omega, by omega⟩ | (subst_vars; simp_all [uV]; done) | grind [uV]) (by first | assumption | omega | exact ⟨by omega, by omega⟩ | (subst_vars; simp_all [uV]; done) | grind [uV]) (by first | assumption | omega | exact ⟨by omega, by omega⟩ | (subst_vars; simp_all [uV]; done) | grind [uV])) ?_
                refine T_pz0 d_X11_clause_90 (fun h90 => ?_) (fun h90 => ?_)
                · skip
                  refine T_al d_X11_clause_97 rfl ?_
                  refine T_il d_X11_clause_98 rfl ?_
                  refine T_il d_X11_clause_99 rfl ?_
                  refine C_ps1 d_X11_clause_100 (hdF (by decide)) (hcF _) (R_X11_leastOf (by first | assumption | omega | exact ⟨by omega, by omega⟩ | (subst_vars; simp_all [uV]; done) | grind [uV])) ?_
                  rw [hxn]
                  refine T_ige d_X11_clause_103 ⟨by omega, by omega⟩ ⟨by omega, by omega⟩ (fun h103 => ?_) (fun h103 => ?_)
                  · skip
                    refine T_il d_X11_clause_113 rfl ?_
                    refine T_il d_X11_clause_114 rfl ?_
                    refine C_ps1 d_X11_clause_115 (hdF (by decide)) (hcF _) (R_X11_mostOf (by first | assumption | omega | exact ⟨by omega, by omega⟩ | (subst_vars; simp_all [uV]; done) | grind [uV])) ?_
                    rw [hxn]
                    refine C_v2 d_X11_clause_118 rfl (hdF (by decide)) (hcF _) (R_X11_number hBV_5 hF (by assumption) (by omega) hn4 (by omega) (by omega)) (fun r_32 V_33 R_34 qV_33 => ?_)
                    obtain ⟨rfl, eV_33, rfl, hBV_33⟩ := qV_33
                    rw [if_neg (by first | omega | (simp; omega) | simp)] at eV_33
                    · skip
                      rw [if_neg (by first | (rintro ⟨h, -⟩; omega) | (rintro ⟨h, -⟩; simp at h; omega) | (rintro ⟨h, -⟩; simp at h))]
                      refine F_isg d_X11_clause_121 (f := fun x_35 => [(0, vr 99), (1, vi x), (2, vi x_31), (3, vi x_35)]) (fun _ => rfl) (fun x_35 ex_35 => ?_)
                      refine T_al d_X11_clause_122 rfl ?_
                      refine C_pv0 d_X11_clause_123 rfl (hdF (by decide)) (hcF _) (S_good (by first | assumption | omega | exact ⟨by omega, by omega⟩ | (subst_vars; simp_all [uV]; done) | grind [uV]) (by first | assumption | omega | exact ⟨by omega, by omega⟩ | (subst_vars; simp_all [uV]; done) | grind [uV]) (by first | assumption | omega | exact ⟨by omega, by omega⟩ | (subst_vars; simp_all [uV]; done) | grind [uV]) (by first | assumption | omega | exact ⟨by omega, by omega⟩ | (subst_vars; simp_all [uV]; done) | grind [uV]) (by first | assumption | omega | exact ⟨by omega, by omega⟩ | (subst_vars; simp_all [uV]; done) | grind [uV])) ?_
                      refine T_pz1 d_X11_clause_126 (fun h126 => ?_) (fun h126 => ?_)
                      · exfalso; omega
                      · skip
                        -- leaf 7t.31t.52c1.62f.69t.90t.103t.118c0.126f@129
                        refine T_vret d_X11_clause_129 rfl ?_
                        refine ⟨rfl, ?_, rfl, hBV_33⟩
                        rw [eV_33]
                        have hcl : (clS (V0 120) n f rd lo hi) = ((nxt (V0 120) n f), ((nxt (V0 120) n f) : Int), lo, hi) := by
                          unfold clS
                          simp only [hsj]
                          rw [if_neg (show ¬ j = 10 by omega), if_pos hN1]
                        rw [hcl]
                  · skip
                    refine T_il d_X11_clause_106 rfl ?_
                    refine C_ps1 d_X11_clause_107 (hdF (by decide)) (hcF _) (R_X11_leastOf (by first | assumption | omega | exact ⟨by omega, by omega⟩ | (subst_vars; simp_all [uV]; done) | grind [uV])) ?_
                    rw [hxn]
                    refine T_go d_X11_clause_110 ?_
                    refine T_il d_X11_clause_114 rfl ?_
                    refine C_ps1 d_X11_clause_115 (hdF (by decide)) (hcF _) (R_X11_mostOf (by first | assumption | omega | exact ⟨by omega, by omega⟩ | (subst_vars; simp_all [uV]; done) | grind [uV])) ?_
                    rw [hxn]
                    refine C_v2 d_X11_clause_118 rfl (hdF (by decide)) (hcF _) (R_X11_number hBV_5 hF (by assumption) (by omega) hn4 (by omega) (by omega)) (fun r_36 V_37 R_38 qV_37 => ?_)
                    obtain ⟨rfl, eV_37, rfl, hBV_37⟩ := qV_37
                    rw [if_neg (by first | omega | (simp; omega) | simp)] at eV_37
                    · skip
                      rw [if_neg (by first | (rintro ⟨h, -⟩; omega) | (rintro ⟨h, -⟩; simp at h; omega) | (rintro ⟨h, -⟩; simp at h))]
                      refine F_isg d_X11_clause_121 (f := fun x_39 => [(0, vr 99), (1, vi x), (2, vi x_31), (3, vi x_39)]) (fun _ => rfl) (fun x_39 ex_39 => ?_)
                      refine T_al d_X11_clause_122 rfl ?_
                      refine C_pv0 d_X11_clause_123 rfl (hdF (by decide)) (hcF _) (S_good (by first | assumption | omega | exact ⟨by omega, by omega⟩ | (subst_vars; simp_all [uV]; done) | grind [uV]) (by first | assumption | omega | exact ⟨by omega, by omega⟩ | (subst_vars; simp_all [uV]; done) | grind [uV]) (by first | assumption | omega | exact ⟨by omega, by omega⟩ | (subst_vars; simp_all [uV]; done) | grind [uV]) (by first | assumption | omega | exact ⟨by omega, by omega⟩ | (subst_vars; simp_all [uV]; done) | grind [uV]) (by first | assumption | omega | exact ⟨by omega, by omega⟩ | (subst_vars; simp_all [uV]; done) | grind [uV])) ?_
                      refine T_pz1 d_X11_clause_126 (fun h126 => ?_) (fun h126 => ?_)
                      · exfalso; omega
                      · skip
                        -- leaf 7t.31t.52c1.62f.69t.90t.103f.118c0.126f@129
                        refine T_vret d_X11_clause_129 rfl ?_
                        refine ⟨rfl, ?_, rfl, hBV_37⟩
                        rw [eV_37]
                        have hcl : (clS (V0 120) n f rd lo hi) = ((nxt (V0 120) n f), ((nxt (V0 120) n f) : Int), lo, hi) := by
                          unfold clS
                          simp only [hsj]
                          rw [if_neg (show ¬ j = 10 by omega), if_pos hN1]
                        rw [hcl]
                · exfalso; omega
              · exfalso; omega
        · skip
          refine T_al d_X11_clause_34 rfl ?_
          refine C_v0 d_X11_clause_35 rfl (hdF (by decide)) (hcF _) (S_faults (by first | assumption | omega | exact ⟨by omega, by omega⟩ | (subst_vars; simp_all [uV]; done) | grind [uV]) (by first | assumption | omega | exact ⟨by omega, by omega⟩ | (subst_vars; simp_all [uV]; done) | grind [uV]) (by first | assumption | omega | exact ⟨by omega, by omega⟩ | (subst_vars; simp_all [uV]; done) | grind [uV]) (by first | assumption | omega | exact ⟨by omega, by omega⟩ | (subst_vars; simp_all [uV]; done) | grind [uV]) (by first | assumption | omega | exact ⟨by omega, by omega⟩ | (subst_vars; simp_all [uV]; done) | grind [uV])) (fun r_40 V_41 R_42 qV_41 => ?_)
          obtain ⟨rfl, eV_41, rfl, hBV_41⟩ := qV_41
          -- leaf 7t.31f@38
          refine T_vret d_X11_clause_38 rfl ?_
          refine ⟨rfl, ?_, rfl, hBV_41⟩
          have hcl : (clS (V0 120) n f rd lo hi) = (f, (f : Int), lo, hi) := by
            unfold clS
            simp only [sortS_10 (t := V0 120) (p := f) (e := tokE (V0 120) n f) (by rcases hx with ⟨-, h2⟩ | ⟨j, h1, h2, h3⟩; exact fun j hj => h2 j (by omega); omega)]
            rw [if_pos trivial]
          rw [hcl, eV_41, if_pos rfl]
      · skip
        refine T_al d_X11_clause_10 rfl ?_
        refine T_il d_X11_clause_11 rfl ?_
        refine C_ps1 d_X11_clause_12 (hdF (by decide)) (hcF _) (R_X11_wordOf (by omega)) ?_
        refine C_pv1 d_X11_clause_15 rfl (hdF (by decide)) (hcF _) (R_X11_isWord (u := wK.getD (k : Int).toNat 0) hB hF eV hfn hn4 rfl (wK_lt _ (by omega))) ?_
        refine T_pz0 d_X11_clause_18 (fun h18 => ?_) (fun h18 => ?_)
        · skip
          refine F_incg d_X11_clause_23 rfl (f := fun x_43 => [(0, vr 99), (1, vi x), (2, vi x_43)]) (fun _ => rfl) (fun x_43 ex_43 => ?_)
          refine T_go d_X11_clause_26 ?_
          -- to 4 7f.18t@4
          obtain rfl : x_43 = ((k + 1) : Int) := by omega
          exact ih4 (k + 1) x (by omega) (by first | assumption | omega) (by rw [Int.toNat_natCast, wk_iff (by omega)] at h18; rcases hx with ⟨h1, h2⟩ | ⟨j, h1, h2, h3⟩; exact Or.inl ⟨h1, fun j hj => by rcases Nat.lt_or_ge j k with h | h; exact h2 j h; rw [show j = k by omega]; exact Bool.eq_false_iff.mpr h18⟩; exact Or.inr ⟨j, by omega, h2, h3⟩)
        · skip
          refine T_il d_X11_clause_21 rfl ?_
          refine F_isg d_X11_clause_22 (f := fun x_44 => [(0, vr 99), (1, vi x_44), (2, vi (k : Int))]) (fun _ => rfl) (fun x_44 ex_44 => ?_)
          refine F_incg d_X11_clause_23 rfl (f := fun x_45 => [(0, vr 99), (1, vi x_44), (2, vi x_45)]) (fun _ => rfl) (fun x_45 ex_45 => ?_)
          refine T_go d_X11_clause_26 ?_
          -- to 4 7f.18f@4
          obtain rfl : x_45 = ((k + 1) : Int) := by omega
          exact ih4 (k + 1) x_44 (by omega) (by first | assumption | omega) (by rw [Int.toNat_natCast, wk_iff (by omega)] at h18; exact Or.inr ⟨k, by omega, by omega, h18⟩)
  exact L4 _ (0) (-1) (Nat.lt_succ_self _) (by first | assumption | omega) (Or.inl ⟨rfl, fun j hj => by omega⟩)
