/-! the reference's kinds -/
def setDk (lo : Nat → Int) (rd : Nat) (d : List Int) (k : Nat) : Nat → Int := fun j => if 10 * rd ≤ j ∧ j < 10 * rd + k then d.getD (j - 10 * rd) 0 else lo j
theorem setDk_s {lo : Nat → Int} {rd k : Nat} {d : List Int} {x : Int} (hx : x = d.getD k 0) : up1 (setDk lo rd d k) (10 * rd + k) x = setDk lo rd d (k + 1) := by
  funext j
  unfold up1 setDk
  by_cases h : j = 10 * rd + k
  · subst h
    rw [if_pos rfl, if_pos ⟨by omega, by omega⟩, hx]
    congr 1
    omega
  · rw [if_neg h]
    by_cases h2 : 10 * rd ≤ j ∧ j < 10 * rd + k
    · rw [if_pos h2, if_pos ⟨h2.1, by omega⟩]
    · rw [if_neg h2, if_neg (by omega)]
theorem ps_rd (V0 : VV) (n f : Nat) (rf : Int) (rd : Nat) (lo hi : Nat → Int) : uV (psV V0 n f rf rd lo hi) 99 37 ((rd : Int) + 1) = psV V0 n f rf (rd + 1) lo hi := by
  funext k j
  unfold uV psV
  by_cases h : k = 99
  · subst h
    by_cases h1 : j = 37
    · subst h1; simp
    · simp [h1]
  · simp [h]
def ConM (V : VV) : Prop := ∀ j, j < 10 → V 126 j = dfL.getD j 0 ∧ V 127 j = dfH.getD j 0
theorem cls_s {t : Nat → Int} {n rd c g : Nat} {lo hi : Nat → Int} (h : (clS t n g rd lo hi).2.1 = -1 ∧ (clS t n g rd lo hi).1 < n ∧ t (clS t n g rd lo hi).1 = 44) : cls t n rd (c + 1) g lo hi = cls t n rd c (nxt t n (clS t n g rd lo hi).1) (clS t n g rd lo hi).2.2.1 (clS t n g rd lo hi).2.2.2 := by
  show (if _ then _ else _) = _
  rw [if_pos h]
theorem cls_e {t : Nat → Int} {n rd c g : Nat} {lo hi : Nat → Int} (h : ¬ ((clS t n g rd lo hi).2.1 = -1 ∧ (clS t n g rd lo hi).1 < n ∧ t (clS t n g rd lo hi).1 = 44)) : cls t n rd (c + 1) g lo hi = clS t n g rd lo hi := by
  show (if _ then _ else _) = _
  rw [if_neg h]
set_option maxHeartbeats 1000000 in
set_option maxRecDepth 100000 in
theorem R_X11_kind {G : GG} {V : VV} {R : RR}  {V0 : VV} {n f rd : Nat} {lo hi : Nat → Int} (hB : Bd V) (hF : FinR R) (eV : V = psV V0 n f (-1) rd lo hi) (hfn : f ≤ n) (hn4 : n ≤ 400) (hrd : rd ≤ 5) (hcm : ConM V0) : Runs G M_X11_kind 6 162 162 [vr 99] V R (QU R (psV V0 n (kdS (V0 120) n f rd lo hi).1 (kdS (V0 120) n f rd lo hi).2.1 (kdS (V0 120) n f rd lo hi).2.2.1 (kdS (V0 120) n f rd lo hi).2.2.2.1 (kdS (V0 120) n f rd lo hi).2.2.2.2)) := by
  refine Runs.of pn_X11 (Nat.le_of_ble_eq_true rfl) rfl ?_
  show TT G M_X11_kind (rmd 6 162 162) 162 (Zm G 162 162 (QU R (psV V0 n (kdS (V0 120) n f rd lo hi).1 (kdS (V0 120) n f rd lo hi).2.1 (kdS (V0 120) n f rd lo hi).2.2.1 (kdS (V0 120) n f rd lo hi).2.2.2.1 (kdS (V0 120) n f rd lo hi).2.2.2.2))) 162 0 [(0, vr 99)] [] V R
  have hg1 := nxt_le (t := V0 120) hfn
  have hg2 := nxt_le (t := V0 120) hg1.2.1
  refine T_al d_X11_kind_0 rfl ?_
  refine F_gi d_X11_kind_1 rfl hB rfl (fun b_1 => ?_)
  have pV_37 := (congrFun (congrFun eV 99) 37).trans (ps_37 _ _ _ _ _ _ _)
  rw [pV_37]
  rw [pV_37] at b_1
  refine T_k d_X11_kind_4 ?_
  refine T_ieq d_X11_kind_5 ⟨by omega, by omega⟩ ⟨by omega, by omega⟩ (fun h5 => ?_) (fun h5 => ?_)
  · skip
    refine T_al d_X11_kind_18 rfl ?_
    refine C_v0 d_X11_kind_19 rfl (hdF (by decide)) (hcF _) (S_faults (by first | assumption | omega | exact ⟨by omega, by omega⟩ | (subst_vars; simp_all [uV]; done) | grind [uV]) (by first | assumption | omega | exact ⟨by omega, by omega⟩ | (subst_vars; simp_all [uV]; done) | grind [uV]) (by first | assumption | omega | exact ⟨by omega, by omega⟩ | (subst_vars; simp_all [uV]; done) | grind [uV]) (by first | assumption | omega | exact ⟨by omega, by omega⟩ | (subst_vars; simp_all [uV]; done) | grind [uV]) (by first | assumption | omega | exact ⟨by omega, by omega⟩ | (subst_vars; simp_all [uV]; done) | grind [uV])) (fun r_2 V_3 R_4 qV_3 => ?_)
    obtain ⟨rfl, eV_3, rfl, hBV_3⟩ := qV_3
    -- leaf 5t@22
    refine T_vret d_X11_kind_22 rfl ?_
    refine ⟨rfl, ?_, rfl, hBV_3⟩
    rw [eV_3, if_pos rfl]
    have hkd : (kdS (V0 120) n f rd lo hi) = (f, (f : Int), rd, lo, hi) := by
      unfold kdS
      rw [if_pos (Or.inl (by omega))]
    rw [hkd]
  · skip
    refine T_al d_X11_kind_8 rfl ?_
    refine T_jk d_X11_kind_9 ?_
    refine C_pv1 d_X11_kind_12 rfl (hdF (by decide)) (hcF _) (R_X11_isWord (u := 145707) hB hF eV hfn hn4 rfl (by decide)) ?_
    refine T_pz1 d_X11_kind_15 (fun h15 => ?_) (fun h15 => ?_)
    · skip
      refine T_al d_X11_kind_23 rfl ?_
      refine C_v0 d_X11_kind_24 rfl (hdF (by decide)) (hcF _) (S_next hB hF (by assumption) (by omega) hn4) (fun r_5 V_6 R_7 qV_6 => ?_)
      obtain ⟨rfl, eV_6, rfl, hBV_6⟩ := qV_6
      have hrd5 : rd < 5 := by omega
      rw [wk_kind] at h15
      refine T_k d_X11_kind_27 ?_
      refine T_is d_X11_kind_28 (ls' := [(0, vr 99), (1, vi 0)]) rfl ?_
      -- to 29 5f.15t@29
      have L29 : ∀ (fu : Nat) (W : VV) (k : Nat), 10 - k < fu → (Bd W) → (k ≤ 10) → (W = psV V0 n (nxt (V0 120) n f) (-1) rd (setDk lo rd dfL k) (setDk hi rd dfH k)) → TT G M_X11_kind (rmd 6 162 162) 162 (Zm G 162 162 (QU R (psV V0 n (kdS (V0 120) n f rd lo hi).1 (kdS (V0 120) n f rd lo hi).2.1 (kdS (V0 120) n f rd lo hi).2.2.1 (kdS (V0 120) n f rd lo hi).2.2.2.1 (kdS (V0 120) n f rd lo hi).2.2.2.2))) 162 29 [(0, vr 99), (1, vi (k : Int))] [] W R := by
        intro fu
        induction fu with
        | zero => intro W k hm; exact absurd hm (Nat.not_lt_zero _)
        | succ fu ih29 =>
          intro W k hm29 hBW hk eW
          refine T_il d_X11_kind_29 rfl ?_
          refine T_k d_X11_kind_30 ?_
          refine T_ige d_X11_kind_32 ⟨by omega, by omega⟩ ⟨by omega, by omega⟩ (fun h32 => ?_) (fun h32 => ?_)
          · skip
            have L134 : ∀ (X : VV) (a : Nat) (rf : Int) (lo2 hi2 : Nat → Int), (Bd X) → (X = psV V0 n a rf rd lo2 hi2) → (a ≤ n) → (-1 ≤ rf ∧ rf ≤ n) → ((kdS (V0 120) n f rd lo hi) = (if ¬ rf = -1 then (a, rf, rd, lo2, hi2) else if a < n ∧ (V0 120) a = 125 then (nxt (V0 120) n a, -1, rd + 1, lo2, hi2) else (a, (a : Int), rd, lo2, hi2))) → TT G M_X11_kind (rmd 6 162 162) 162 (Zm G 162 162 (QU R (psV V0 n (kdS (V0 120) n f rd lo hi).1 (kdS (V0 120) n f rd lo hi).2.1 (kdS (V0 120) n f rd lo hi).2.2.1 (kdS (V0 120) n f rd lo hi).2.2.2.1 (kdS (V0 120) n f rd lo hi).2.2.2.2))) 162 134 [(0, vr 99)] [] X R := by
              intro X a rf lo2 hi2 hBX eX ha hrr hkk
              have ha2 := nxt_le (t := V0 120) ha
              refine T_al d_X11_kind_134 rfl ?_
              refine T_k d_X11_kind_135 ?_
              refine C_v1 d_X11_kind_137 rfl (hdF (by decide)) (hcF _) (R_X11_needSign hBX hF (by assumption) (by omega) hn4 ⟨by decide, by decide⟩) (fun r_8 V_9 R_10 qV_9 => ?_)
              obtain ⟨rfl, eV_9, rfl, hBV_9⟩ := qV_9
              have h3 : (rf = -1 ∧ (a < n ∧ V0 120 a = 125)) ∨ (rf = -1 ∧ ¬ (a < n ∧ V0 120 a = 125)) ∨ ¬ rf = -1 := by by_cases h1 : rf = -1 <;> by_cases h2 : a < n ∧ V0 120 a = 125 <;> simp [h1, h2]
              rcases h3 with ⟨h1, h2⟩ | ⟨h1, h2⟩ | h1
              · skip
                rw [if_pos h1, if_pos h2] at eV_9
                subst h1
                refine T_al d_X11_kind_140 rfl ?_
                refine C_pv0 d_X11_kind_141 rfl (hdF (by decide)) (hcF _) (S_good hBV_9 hF (by assumption) (by omega) hn4) ?_
                refine T_pz0 d_X11_kind_144 (fun h144 => ?_) (fun h144 => ?_)
                · exact absurd rfl h144
                · skip
                  refine T_al d_X11_kind_147 rfl ?_
                  refine T_dup d_X11_kind_148 rfl ?_
                  refine F_gi d_X11_kind_149 rfl hBV_9 rfl (fun b_11 => ?_)
                  have pV_9_37 := (congrFun (congrFun eV_9 99) 37).trans (ps_37 _ _ _ _ _ _ _)
                  rw [pV_9_37]
                  rw [pV_9_37] at b_11
                  refine T_k d_X11_kind_152 ?_
                  refine T_iadd d_X11_kind_153 ?_
                  refine F_pi d_X11_kind_154 rfl hBV_9 rfl ⟨by omega, by omega⟩ (fun V_12 eV_12 hBV_12 => ?_)
                  -- leaf 137c0.144f@157
                  refine T_vret d_X11_kind_157 rfl ?_
                  refine ⟨rfl, ?_, rfl, hBV_12⟩
                  rw [eV_12, eV_9, ps_rd, hkk, if_neg (fun h => h rfl), if_pos h2]
              · skip
                rw [if_pos h1, if_neg h2] at eV_9
                subst h1
                refine T_al d_X11_kind_140 rfl ?_
                refine C_pv0 d_X11_kind_141 rfl (hdF (by decide)) (hcF _) (S_good hBV_9 hF (by assumption) (by omega) hn4) ?_
                refine T_pz0 d_X11_kind_144 (fun h144 => ?_) (fun h144 => ?_)
                · skip
                  -- leaf 137c1.144t@157
                  refine T_vret d_X11_kind_157 rfl ?_
                  refine ⟨rfl, ?_, rfl, hBV_9⟩
                  rw [eV_9, hkk, if_neg (fun h => h rfl), if_neg h2]
                · exfalso; omega
              · skip
                rw [if_neg h1] at eV_9
                refine T_al d_X11_kind_140 rfl ?_
                refine C_pv0 d_X11_kind_141 rfl (hdF (by decide)) (hcF _) (S_good hBV_9 hF (by assumption) (by omega) hn4) ?_
                refine T_pz0 d_X11_kind_144 (fun h144 => ?_) (fun h144 => ?_)
                · skip
                  -- leaf 137c2.144t@157
                  refine T_vret d_X11_kind_157 rfl ?_
                  refine ⟨rfl, ?_, rfl, hBV_9⟩
                  rw [eV_9, hkk, if_pos h1]
                · exact absurd h144 h1
            have hk10 : k = 10 := by omega
            subst hk10
            rw [show setDk lo rd dfL 10 = setD lo rd dfL from rfl, show setDk hi rd dfH 10 = setD hi rd dfH from rfl] at eW
            refine T_al d_X11_kind_81 rfl ?_
            refine T_k d_X11_kind_82 ?_
            refine C_v1 d_X11_kind_84 rfl (hdF (by decide)) (hcF _) (R_X11_needSign hBW hF (by assumption) (by omega) hn4 ⟨by decide, by decide⟩) (fun r_13 V_14 R_15 qV_14 => ?_)
            obtain ⟨rfl, eV_14, rfl, hBV_14⟩ := qV_14
            by_cases hS1 : (nxt (V0 120) n f) < n ∧ (V0 120) (nxt (V0 120) n f) = 123
            · skip
              rw [if_pos rfl, if_pos hS1] at eV_14
              refine T_al d_X11_kind_87 rfl ?_
              refine C_pv0 d_X11_kind_88 rfl (hdF (by decide)) (hcF _) (S_good hBV_14 hF (by assumption) (by omega) hn4) ?_
              refine T_pz0 d_X11_kind_91 (fun h91 => ?_) (fun h91 => ?_)
              · exact absurd rfl h91
              · skip
                refine T_al d_X11_kind_94 rfl ?_
                refine T_k d_X11_kind_95 ?_
                refine C_pv1 d_X11_kind_97 rfl (hdF (by decide)) (hcF _) (S_isSign hBV_14 hF (by assumption) (by omega) hn4 ⟨by decide, by decide⟩) ?_
                refine T_pz1 d_X11_kind_100 (fun h100 => ?_) (fun h100 => ?_)
                · skip
                  -- to 134 32t.84c0.91f.100t@134
                  refine T_subp (ks := [0]) (ls' := [(0, vr 99)]) rfl ?_
                  exact L134 V_14 _ _ _ _ hBV_14 eV_14 hg2.2.1 (by omega) (by unfold kdS; rw [if_neg (fun h => h.elim (by omega) (fun h => h h15)), if_neg (fun h => h hS1)]; simp only [if_pos h100])
                · skip
                  refine T_al d_X11_kind_103 rfl ?_
                  refine C_v0 d_X11_kind_104 rfl (hdF (by decide)) (hcF _) (R_X11_clause hBV_14 hF (by assumption) (by omega) hn4 (by omega)) (fun r_16 V_17 R_18 qV_17 => ?_)
                  obtain ⟨rfl, eV_17, rfl, hBV_17⟩ := qV_17
                  -- to 107 32t.84c0.91f.100f@107
                  have L107 : ∀ (fu : Nat) (Y : VV) (c g : Nat) (lo2 hi2 : Nat → Int), c < fu → (Bd Y) → (g ≤ n ∧ n < g + c) → (Y = psV V0 n (clS (V0 120) n g rd lo2 hi2).1 (clS (V0 120) n g rd lo2 hi2).2.1 rd (clS (V0 120) n g rd lo2 hi2).2.2.1 (clS (V0 120) n g rd lo2 hi2).2.2.2) → (cls (V0 120) n rd c g lo2 hi2 = cls (V0 120) n rd 401 (nxt (V0 120) n (nxt (V0 120) n f)) (setD lo rd dfL) (setD hi rd dfH)) → TT G M_X11_kind (rmd 6 162 162) 162 (Zm G 162 162 (QU R (psV V0 n (kdS (V0 120) n f rd lo hi).1 (kdS (V0 120) n f rd lo hi).2.1 (kdS (V0 120) n f rd lo hi).2.2.1 (kdS (V0 120) n f rd lo hi).2.2.2.1 (kdS (V0 120) n f rd lo hi).2.2.2.2))) 162 107 [(0, vr 99)] [] Y R := by
                    intro fu
                    induction fu with
                    | zero => intro Y c g lo2 hi2 hm; exact absurd hm (Nat.not_lt_zero _)
                    | succ fu ih107 =>
                      intro Y c g lo2 hi2 hm107 hBY hg eY hcg
                      have hcl := clS_le (t := V0 120) (rd := rd) (lo := lo2) (hi := hi2) hg.1
                      have hcl2 := nxt_le (t := V0 120) hcl.2.1
                      obtain ⟨c1, rfl⟩ : ∃ c1, c = c1 + 1 := ⟨c - 1, by omega⟩
                      refine T_al d_X11_kind_107 rfl ?_
                      refine C_pv0 d_X11_kind_108 rfl (hdF (by decide)) (hcF _) (S_good hBY hF (by assumption) (by omega) hn4) ?_
                      refine T_pz0 d_X11_kind_111 (fun h111 => ?_) (fun h111 => ?_)
                      · skip
                        -- to 134 111t@134
                        exact L134 Y _ _ _ _ hBY eY hcl.2.1 hcl.2.2.2 (by unfold kdS; rw [if_neg (fun h => h.elim (by omega) (fun h => h h15)), if_neg (fun h => h hS1)]; simp only [if_neg h100, ← hcg, cls_e (fun h => h111 h.1)])
                      · skip
                        refine T_al d_X11_kind_114 rfl ?_
                        refine T_k d_X11_kind_115 ?_
                        refine C_pv1 d_X11_kind_117 rfl (hdF (by decide)) (hcF _) (S_isSign hBY hF (by assumption) (by omega) hn4 ⟨by decide, by decide⟩) ?_
                        refine T_pz0 d_X11_kind_120 (fun h120 => ?_) (fun h120 => ?_)
                        · skip
                          -- to 134 111f.120t@134
                          exact L134 Y _ _ _ _ hBY eY hcl.2.1 hcl.2.2.2 (by unfold kdS; rw [if_neg (fun h => h.elim (by omega) (fun h => h h15)), if_neg (fun h => h hS1)]; simp only [if_neg h100, ← hcg, cls_e (fun h => h120 h.2)])
                        · skip
                          refine T_al d_X11_kind_123 rfl ?_
                          refine C_v0 d_X11_kind_124 rfl (hdF (by decide)) (hcF _) (S_next hBY hF (by assumption) (by omega) hn4) (fun r_19 V_20 R_21 qV_20 => ?_)
                          obtain ⟨rfl, eV_20, rfl, hBV_20⟩ := qV_20
                          rw [h111] at eV_20
                          refine T_al d_X11_kind_127 rfl ?_
                          refine C_v0 d_X11_kind_128 rfl (hdF (by decide)) (hcF _) (R_X11_clause hBV_20 hF (by assumption) (by omega) hn4 (by omega)) (fun r_22 V_23 R_24 qV_23 => ?_)
                          obtain ⟨rfl, eV_23, rfl, hBV_23⟩ := qV_23
                          refine T_go d_X11_kind_131 ?_
                          -- to 107 111f.120f@107
                          exact ih107 V_23 (c1) _ _ _ (by omega) hBV_23 (by have := hcl.2.2.1 h111; omega) eV_23 (by rw [← hcg, cls_s ⟨h111, h120.1, h120.2⟩])
                  refine T_subp (ks := [0]) (ls' := [(0, vr 99)]) rfl ?_
                  exact L107 _ V_17 (401) ((nxt (V0 120) n (nxt (V0 120) n f))) _ _ (Nat.lt_succ_self _) hBV_17 (by omega) eV_17 rfl
            · skip
              rw [if_pos rfl, if_neg hS1] at eV_14
              refine T_al d_X11_kind_87 rfl ?_
              refine C_pv0 d_X11_kind_88 rfl (hdF (by decide)) (hcF _) (S_good hBV_14 hF (by assumption) (by omega) hn4) ?_
              refine T_pz0 d_X11_kind_91 (fun h91 => ?_) (fun h91 => ?_)
              · skip
                -- to 134 32t.84c1.91t@134
                refine T_subp (ks := [0]) (ls' := [(0, vr 99)]) rfl ?_
                exact L134 V_14 _ _ _ _ hBV_14 eV_14 hg1.2.1 (by omega) (by unfold kdS; rw [if_neg (fun h => h.elim (by omega) (fun h => h h15)), if_pos hS1, if_pos (by omega)])
              · exfalso; first | omega | (simp at h91; done) | (simp at h91; omega)
          · skip
            refine T_al d_X11_kind_35 rfl ?_
            refine F_gr (b := 124) d_X11_kind_36 rfl hF rfl ?_
            refine T_k d_X11_kind_39 ?_
            refine T_al d_X11_kind_41 rfl ?_
            refine F_gi d_X11_kind_42 rfl hBW rfl (fun b_25 => ?_)
            have pW_37 := (congrFun (congrFun eW 99) 37).trans (ps_37 _ _ _ _ _ _ _)
            rw [pW_37]
            rw [pW_37] at b_25
            refine T_imul d_X11_kind_45 ?_
            refine T_il d_X11_kind_46 rfl ?_
            refine T_iadd d_X11_kind_47 ?_
            refine T_al d_X11_kind_48 rfl ?_
            refine F_gr (b := 126) d_X11_kind_49 rfl hF rfl ?_
            refine T_il d_X11_kind_52 rfl ?_
            refine F_ia d_X11_kind_53 rfl hBW rfl ⟨by omega, by omega⟩ (fun b_26 => ?_)
            have paW_126 : W 126 = V0 126 := by rw [eW]; rfl
            rw [paW_126]
            rw [paW_126] at b_26
            try simp only [Int.toNat_natCast]
            try simp only [Int.toNat_natCast] at b_26
            refine F_is d_X11_kind_54 rfl hBW rfl ⟨by omega, by omega⟩ ⟨by omega, by omega⟩ (fun V_27 eV_27 hBV_27 => ?_)
            refine T_al d_X11_kind_55 rfl ?_
            refine F_gr (b := 125) d_X11_kind_56 rfl hF rfl ?_
            refine T_k d_X11_kind_59 ?_
            refine T_al d_X11_kind_61 rfl ?_
            refine F_gi d_X11_kind_62 rfl hBV_27 rfl (fun b_28 => ?_)
            have fV_27_99_37 : V_27 99 37 = W 99 37 := by rw [eV_27]; rfl
            rw [fV_27_99_37]
            rw [fV_27_99_37] at b_28
            refine T_imul d_X11_kind_65 ?_
            refine T_il d_X11_kind_66 rfl ?_
            refine T_iadd d_X11_kind_67 ?_
            refine T_al d_X11_kind_68 rfl ?_
            refine F_gr (b := 127) d_X11_kind_69 rfl hF rfl ?_
            refine T_il d_X11_kind_72 rfl ?_
            refine F_ia d_X11_kind_73 rfl hBV_27 rfl ⟨by omega, by omega⟩ (fun b_29 => ?_)
            have faV_27_127 : V_27 127 = W 127 := by rw [eV_27]; rfl
            rw [faV_27_127]
            rw [faV_27_127] at b_29
            try simp only [Int.toNat_natCast]
            try simp only [Int.toNat_natCast] at b_29
            refine F_is d_X11_kind_74 rfl hBV_27 rfl ⟨by omega, by omega⟩ ⟨by omega, by omega⟩ (fun V_30 eV_30 hBV_30 => ?_)
            refine F_incg d_X11_kind_75 rfl (f := fun x_31 => [(0, vr 99), (1, vi x_31)]) (fun _ => rfl) (fun x_31 ex_31 => ?_)
            refine T_go d_X11_kind_78 ?_
            -- to 29 32f@29
            obtain rfl : x_31 = ((k + 1) : Int) := by omega
            exact ih29 V_30 (k + 1) (by omega) hBV_30 (by first | assumption | omega) (by rw [eV_30, eV_27, show W 127 = V0 127 by rw [eW]; rfl, show W 99 37 = (rd : Int) by rw [eW]; rfl, show (10 * (rd : Int) + (k : Int)).toNat = 10 * rd + k by omega, eW, ps_lo, ps_hi, setDk_s (hcm k (by omega)).1, setDk_s (hcm k (by omega)).2])
      exact L29 _ V_6 (0) (Nat.lt_succ_self _) hBV_6 (by first | assumption | omega) (by rw [eV_6]; congr 1 <;> (funext j; unfold setDk; rw [if_neg (by omega)]))
    · skip
      refine T_al d_X11_kind_18 rfl ?_
      refine C_v0 d_X11_kind_19 rfl (hdF (by decide)) (hcF _) (S_faults (by first | assumption | omega | exact ⟨by omega, by omega⟩ | (subst_vars; simp_all [uV]; done) | grind [uV]) (by first | assumption | omega | exact ⟨by omega, by omega⟩ | (subst_vars; simp_all [uV]; done) | grind [uV]) (by first | assumption | omega | exact ⟨by omega, by omega⟩ | (subst_vars; simp_all [uV]; done) | grind [uV]) (by first | assumption | omega | exact ⟨by omega, by omega⟩ | (subst_vars; simp_all [uV]; done) | grind [uV]) (by first | assumption | omega | exact ⟨by omega, by omega⟩ | (subst_vars; simp_all [uV]; done) | grind [uV])) (fun r_32 V_33 R_34 qV_33 => ?_)
      obtain ⟨rfl, eV_33, rfl, hBV_33⟩ := qV_33
      -- leaf 5f.15f@22
      refine T_vret d_X11_kind_22 rfl ?_
      refine ⟨rfl, ?_, rfl, hBV_33⟩
      rw [eV_33, if_pos rfl]
      have hkd : (kdS (V0 120) n f rd lo hi) = (f, (f : Int), rd, lo, hi) := by
        unfold kdS
        rw [if_pos (Or.inr (fun h => h15 (wk_kind.mpr h)))]
      rw [hkd]
