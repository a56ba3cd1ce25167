/-! the class's kind -/
theorem kd_start {V V1 V2 V0 : VV} {f p a : Nat} {D : Nat → Nat → Int} (h1 : 25 ≤ a) (h2 : a ≤ 29) (eV : V = csV V0 f p D) (e1 : V1 = cV V a (cpF (fun i => (sCon 3).getD i 0) (V a) (0 : Int).toNat (0 : Int).toNat (10 : Int).toNat)) (e2 : V2 = cV V1 a (cpF (fun i => (sCon 4).getD i 0) (V1 a) (0 : Int).toNat (10 : Int).toNat (10 : Int).toNat)) : ∃ D1, V2 = csV V0 f p D1 ∧ (∀ k, k ≠ a → D1 k = D k) ∧ ∀ (rd : Nat) (lo hi : Nat → Int), dR rd (setD lo rd dfL) (setD hi rd dfH) (D1 a) := by
  have e3 : V1 a = cpF (fun i => (sCon 3).getD i 0) (V a) 0 0 10 := by
    rw [e1]
    funext j
    unfold cV
    rw [if_pos rfl]
    rfl
  rw [e3] at e2
  refine ⟨cV (cV D a (cpF (fun i => (sCon 3).getD i 0) (V a) 0 0 10)) a (cpF (fun i => (sCon 4).getD i 0) (cpF (fun i => (sCon 3).getD i 0) (V a) 0 0 10) 0 10 10), ?_, ?_, ?_⟩
  · rw [e2, e1, ← cs_cV h1 h2, ← cs_cV h1 h2, ← eV]
    rfl
  · intro k hk
    funext j
    unfold cV
    rw [if_neg hk, if_neg hk]
  · intro rd lo hi
    have e4 : cV (cV D a (cpF (fun i => (sCon 3).getD i 0) (V a) 0 0 10)) a (cpF (fun i => (sCon 4).getD i 0) (cpF (fun i => (sCon 3).getD i 0) (V a) 0 0 10) 0 10 10) a = cpF (fun i => (sCon 4).getD i 0) (cpF (fun i => (sCon 3).getD i 0) (V a) 0 0 10) 0 10 10 := by
      funext j
      unfold cV
      rw [if_pos rfl]
    rw [e4]
    exact dR_set
section KDS
variable {t lo hi : Nat → Int} {n f rd : Nat}
def kF (t : Nat → Int) (n rd : Nat) (r : Nat × Int × (Nat → Int) × (Nat → Int)) : Nat × Int × Nat × (Nat → Int) × (Nat → Int) := if ¬ r.2.1 = -1 then (r.1, r.2.1, rd, r.2.2.1, r.2.2.2) else if r.1 < n ∧ t r.1 = 125 then (nxt t n r.1, -1, rd + 1, r.2.2.1, r.2.2.2) else (r.1, (r.1 : Int), rd, r.2.2.1, r.2.2.2)
theorem kF_y {g : Nat} {a b : Nat → Int} (h : g < n ∧ t g = 125) : kF t n rd (g, -1, a, b) = (nxt t n g, -1, rd + 1, a, b) := by
  unfold kF
  rw [if_neg (fun z => z rfl), if_pos h]
theorem kd_w (h : ¬ wdb 0 t f (tokE t n f) = true) : kdS t n f rd lo hi = (f, (f : Int), rd, lo, hi) := by
  unfold kdS
  rw [if_pos (Or.inr h)]
theorem kd_b (hr : ¬ rd = 5) (h : wdb 0 t f (tokE t n f) = true) (h1 : ¬ (nxt t n f < n ∧ t (nxt t n f) = 123)) : kdS t n f rd lo hi = (nxt t n f, (nxt t n f : Int), rd, setD lo rd dfL, setD hi rd dfH) := by
  unfold kdS
  rw [if_neg (fun z => z.elim hr (fun z => z h)), if_pos h1]
theorem kd_k (hr : ¬ rd = 5) (h : wdb 0 t f (tokE t n f) = true) (h1 : nxt t n f < n ∧ t (nxt t n f) = 123) : kdS t n f rd lo hi = kF t n rd (if nxt t n (nxt t n f) < n ∧ t (nxt t n (nxt t n f)) = 125 then (nxt t n (nxt t n f), (-1 : Int), setD lo rd dfL, setD hi rd dfH) else cls t n rd 401 (nxt t n (nxt t n f)) (setD lo rd dfL) (setD hi rd dfH)) := by
  unfold kdS
  rw [if_neg (fun z => z.elim hr (fun z => z h)), if_neg (fun z => z h1)]
  rfl
end KDS
set_option maxHeartbeats 1000000 in
set_option maxRecDepth 100000 in
theorem R_X4_readKind_25 {G : GG} {V : VV} {R : RR}  {V0 : VV} {n f p : Nat} {D : Nat → Nat → Int} {lo hi : Nat → Int} (hB : Bd V) (hF : FinR R) (eV : V = csV V0 f p D) (hn : V0 16 1 = n) (hc : cO (V0 17) n f p) (hn4 : n ≤ 400) : Runs G M_X4_readKind 7 162 162 [vr 16, vr 25] V R (QK R V0 n (some (vi (bi (decide ((kdS (V0 17) n f 0 lo hi).2.1 = -1))))) (kdS (V0 17) n f 0 lo hi).1 25 D ((kdS (V0 17) n f 0 lo hi).2.1 = -1) 0 (kdS (V0 17) n f 0 lo hi).2.2.2.1 (kdS (V0 17) n f 0 lo hi).2.2.2.2) := by
  refine Runs.of pn_X4 (Nat.le_of_ble_eq_true rfl) rfl ?_
  show TT G M_X4_readKind (rmd 7 162 162) 162 (Zm G 162 162 (QK R V0 n (some (vi (bi (decide ((kdS (V0 17) n f 0 lo hi).2.1 = -1))))) (kdS (V0 17) n f 0 lo hi).1 25 D ((kdS (V0 17) n f 0 lo hi).2.1 = -1) 0 (kdS (V0 17) n f 0 lo hi).2.2.2.1 (kdS (V0 17) n f 0 lo hi).2.2.2.2)) 162 0 [(0, vr 16), (1, vr 25)] [] V R
  refine T_gs d_X4_readKind_0 ?_
  refine T_k d_X4_readKind_3 ?_
  refine T_al d_X4_readKind_4 rfl ?_
  refine T_k d_X4_readKind_5 ?_
  refine T_k d_X4_readKind_6 ?_
  refine F_acx (j := 3) dAC_rk8 (by decide) rfl hB rfl ⟨by decide, by decide⟩ ⟨by decide, by decide⟩ (by decide) ⟨by decide, by decide⟩ (fun V_1 eV_1 hBV_1 => ?_)
  refine T_gs d_X4_readKind_11 ?_
  refine T_k d_X4_readKind_14 ?_
  refine T_al d_X4_readKind_15 rfl ?_
  refine T_k d_X4_readKind_16 ?_
  refine T_k d_X4_readKind_18 ?_
  refine F_acx (j := 4) dAC_rk20 (by decide) rfl hBV_1 rfl ⟨by decide, by decide⟩ ⟨by decide, by decide⟩ (by decide) ⟨by decide, by decide⟩ (fun V_2 eV_2 hBV_2 => ?_)
  obtain ⟨D1, e23, hD1, hR1⟩ := kd_start (by decide) (by decide) eV eV_1 eV_2
  refine T_al d_X4_readKind_23 rfl ?_
  refine T_ldcS (i := 0) ⟨d_X4_readKind_24, rfl, by decide, rfl⟩ ?_
  refine C_v1 d_X4_readKind_26 rfl (hdF (by decide)) (hcF _) (Sc_take (w := 0) hBV_2 hF e23 hn hc (by decide)) (fun r_3 V_4 R_5 qV_4 => ?_)
  obtain ⟨rfl, ⟨p5, eV_4, cV_4⟩, rfl, hBV_4⟩ := qV_4
  refine T_pz0 d_X4_readKind_29 (fun h29 => ?_) (fun h29 => ?_)
  · skip
    refine T_k d_X4_readKind_41 ?_
    -- leaf 29t@42
    refine T_zret0 d_X4_readKind_42 rfl ?_
    rw [if_neg h29] at eV_4 cV_4
    rw [kd_w h29]
    exact QK_no eV_4 cV_4 hD1 hBV_4
  · skip
    have hkw := h29
    rw [if_pos h29] at eV_4 cV_4
    refine T_al d_X4_readKind_32 rfl ?_
    refine T_ldcS (i := 1) ⟨d_X4_readKind_33, rfl, by decide, rfl⟩ ?_
    refine C_v1 d_X4_readKind_35 rfl (hdF (by decide)) (hcF _) (Sc_take (w := 1) hBV_4 hF eV_4 hn cV_4 (by decide)) (fun r_6 V_7 R_8 qV_7 => ?_)
    obtain ⟨rfl, ⟨p8, eV_7, cV_7⟩, rfl, hBV_7⟩ := qV_7
    refine T_pz1 d_X4_readKind_38 (fun h38 => ?_) (fun h38 => ?_)
    · skip
      rw [if_pos h38] at eV_7 cV_7
      have hb1 := (wdb_sg (c := 123) rfl (by decide +kernel) (by decide)).mp h38
      refine T_al d_X4_readKind_43 rfl ?_
      refine T_ldcS (i := 2) ⟨d_X4_readKind_44, rfl, by decide, rfl⟩ ?_
      refine C_v1 d_X4_readKind_46 rfl (hdF (by decide)) (hcF _) (Sc_take (w := 2) hBV_7 hF eV_7 hn cV_7 (by decide)) (fun r_9 V_10 R_11 qV_10 => ?_)
      obtain ⟨rfl, ⟨p11, eV_10, cV_10⟩, rfl, hBV_10⟩ := qV_10
      refine T_pz0 d_X4_readKind_49 (fun h49 => ?_) (fun h49 => ?_)
      · skip
        rw [if_neg h49] at eV_10 cV_10
        have hb2 := fun z => h49 ((wdb_sg (c := 125) rfl (by decide +kernel) (by decide)).mpr z)
        refine T_k d_X4_readKind_54 ?_
        refine T_is d_X4_readKind_55 (ls' := [(0, vr 16), (1, vr 25), (2, vi 0)]) rfl ?_
        -- to 56 29f.38t.49t@56
        have L56 : ∀ (fu : Nat) (W : VV) (i g q : Nat) (D2 : Nat → Nat → Int) (lo2 hi2 : Nat → Int), 400 - i < fu → (Bd W) → (W = csV V0 g q D2) → (cO (V0 17) n g q) → (∀ k, k ≠ 25 → D2 k = D k) → (dR 0 lo2 hi2 (D2 25)) → (2 * i ≤ g ∧ i ≤ 400) → (cls (V0 17) n 0 (401 - i) g lo2 hi2 = cls (V0 17) n 0 401 (nxt (V0 17) n (nxt (V0 17) n f)) (setD lo 0 dfL) (setD hi 0 dfH)) → TT G M_X4_readKind (rmd 7 162 162) 162 (Zm G 162 162 (QK R V0 n (some (vi (bi (decide ((kdS (V0 17) n f 0 lo hi).2.1 = -1))))) (kdS (V0 17) n f 0 lo hi).1 25 D ((kdS (V0 17) n f 0 lo hi).2.1 = -1) 0 (kdS (V0 17) n f 0 lo hi).2.2.2.1 (kdS (V0 17) n f 0 lo hi).2.2.2.2)) 162 56 [(0, vr 16), (1, vr 25), (2, vi (i : Int))] [] W R := by
          intro fu
          induction fu with
          | zero => intro W i g q D2 lo2 hi2 hm; exact absurd hm (Nat.not_lt_zero _)
          | succ fu ih56 =>
            intro W i g q D2 lo2 hi2 hm56 hBW eW cW hk2 hd2 hig hcl
            have hgn := cW.1
            have hle := clS_le (t := V0 17) (rd := 0) (lo := lo2) (hi := hi2) hgn
            have hfl := clS_flt (t := V0 17) (n := n) (f := g) (rd := 0) (lo := lo2) (hi := hi2)
            have hnx := nxt_le (t := V0 17) hle.2.1
            refine T_il d_X4_readKind_56 rfl ?_
            refine T_k d_X4_readKind_57 ?_
            refine T_ige d_X4_readKind_60 ⟨by omega, by omega⟩ ⟨by omega, by omega⟩ (fun h60 => ?_) (fun h60 => ?_)
            · skip
              refine T_k d_X4_readKind_101 ?_
              -- leaf 60t@102
              refine T_zret0 d_X4_readKind_102 rfl ?_
              exfalso; omega
            · skip
              refine T_al d_X4_readKind_63 rfl ?_
              refine T_al d_X4_readKind_64 rfl ?_
              refine C_v1 d_X4_readKind_65 rfl (hdF (by decide)) (hcF _) (R_X4_readClause_25 hBW hF eW hn cW hd2) (fun r_12 V_13 R_14 qV_13 => ?_)
              obtain ⟨rfl, ⟨p14, D14, eV_13, cV_13, kV_13, dV_13⟩, rfl, hBV_13⟩ := qV_13
              refine T_pz1 d_X4_readKind_68 (fun h68 => ?_) (fun h68 => ?_)
              · skip
                have e73 := eV_13
                have c73 := cV_13
                have k73 := kV_13
                have d73 := dV_13 h68
                refine T_al d_X4_readKind_73 rfl ?_
                refine T_ldcS (i := 2) ⟨d_X4_readKind_74, rfl, by decide, rfl⟩ ?_
                refine C_v1 d_X4_readKind_76 rfl (hdF (by decide)) (hcF _) (Sc_take (w := 2) hBV_13 hF e73 hn c73 (by decide)) (fun r_15 V_16 R_17 qV_16 => ?_)
                obtain ⟨rfl, ⟨p17, eV_16, cV_16⟩, rfl, hBV_16⟩ := qV_16
                refine T_pz0 d_X4_readKind_79 (fun h79 => ?_) (fun h79 => ?_)
                · skip
                  rw [if_neg h79] at eV_16 cV_16
                  have hb3 := fun z => h79 ((wdb_sg (c := 125) rfl (by decide +kernel) (by decide)).mpr z)
                  refine T_al d_X4_readKind_84 rfl ?_
                  refine T_ldcS (i := 14) ⟨d_X4_readKind_85, rfl, by decide, rfl⟩ ?_
                  refine C_v1 d_X4_readKind_87 rfl (hdF (by decide)) (hcF _) (Sc_take (w := 14) hBV_16 hF eV_16 hn cV_16 (by decide)) (fun r_18 V_19 R_20 qV_19 => ?_)
                  obtain ⟨rfl, ⟨p20, eV_19, cV_19⟩, rfl, hBV_19⟩ := qV_19
                  refine T_pz1 d_X4_readKind_90 (fun h90 => ?_) (fun h90 => ?_)
                  · skip
                    refine F_incg d_X4_readKind_95 rfl (f := fun x_21 => [(0, vr 16), (1, vr 25), (2, vi x_21)]) (fun _ => rfl) (fun x_21 ex_21 => ?_)
                    refine T_go d_X4_readKind_98 ?_
                    -- to 56 60f.68t.79t.90t@56
                    rw [if_pos h90] at eV_19 cV_19
                    have hb4 := (wdb_sg (c := 44) rfl (by decide +kernel) (by decide)).mp h90
                    obtain rfl : x_21 = ((i + 1) : Int) := by omega
                    exact ih56 V_19 (i + 1) _ _ _ _ _ (by omega) hBV_19 eV_19 cV_19 (fun k hk => (k73 k hk).trans (hk2 k hk)) d73 (by have := hle.2.2.1 h68; omega) (by rw [← hcl, show 401 - i = (400 - i) + 1 by omega, cls_s ⟨h68, hb4⟩]; congr 1; omega)
                  · skip
                    refine T_k d_X4_readKind_93 ?_
                    -- leaf 60f.68t.79t.90f@94
                    refine T_zret0 d_X4_readKind_94 rfl ?_
                    rw [if_neg h90] at eV_19 cV_19
                    rw [kd_k (by decide) hkw hb1, if_neg hb2, ← hcl, show 401 - i = (400 - i) + 1 by omega, cls_e (fun z => h90 ((wdb_sg (c := 44) rfl (by decide +kernel) (by decide)).mpr z.2))]
                    unfold kF
                    rw [if_neg (fun z => z h68), if_neg hb3]
                    exact QK_no eV_19 cV_19 (fun k hk => (k73 k hk).trans (hk2 k hk)) hBV_19
                · skip
                  refine T_k d_X4_readKind_82 ?_
                  -- leaf 60f.68t.79f@83
                  refine T_zret1 d_X4_readKind_83 rfl ?_
                  rw [if_pos h79] at eV_16 cV_16
                  have hb3 := (wdb_sg (c := 125) rfl (by decide +kernel) (by decide)).mp h79
                  rw [kd_k (by decide) hkw hb1, if_neg hb2, ← hcl, show 401 - i = (400 - i) + 1 by omega, cls_e (fun z => by have := z.2.2; omega)]
                  unfold kF
                  rw [if_neg (fun z => z h68), if_pos hb3]
                  exact QK_ok eV_16 cV_16 (fun k hk => (k73 k hk).trans (hk2 k hk)) d73 hBV_16
              · skip
                refine T_k d_X4_readKind_71 ?_
                -- leaf 60f.68f@72
                refine T_zret0 d_X4_readKind_72 rfl ?_
                have hf2 := hfl.resolve_left h68
                rw [kd_k (by decide) hkw hb1, if_neg hb2, ← hcl, show 401 - i = (400 - i) + 1 by omega, cls_e (fun z => h68 z.1)]
                unfold kF
                rw [if_pos h68]
                simp only [hf2]
                exact QK_no eV_13 cV_13 (fun k hk => (kV_13 k hk).trans (hk2 k hk)) hBV_13
        exact L56 _ V_10 (0) ((nxt (V0 17) n (nxt (V0 17) n f))) _ _ _ _ (Nat.lt_succ_self _) hBV_10 eV_10 cV_10 hD1 (hR1 _ _ _) (by omega) rfl
      · skip
        refine T_k d_X4_readKind_52 ?_
        -- leaf 29f.38t.49f@53
        refine T_zret1 d_X4_readKind_53 rfl ?_
        rw [if_pos h49] at eV_10 cV_10
        have hb2 := (wdb_sg (c := 125) rfl (by decide +kernel) (by decide)).mp h49
        rw [kd_k (by decide) hkw hb1, if_pos hb2, kF_y hb2]
        exact QK_ok eV_10 cV_10 hD1 (hR1 _ _ _) hBV_10
    · skip
      refine T_k d_X4_readKind_41 ?_
      -- leaf 29f.38f@42
      refine T_zret0 d_X4_readKind_42 rfl ?_
      rw [if_neg h38] at eV_7 cV_7
      rw [kd_b (by decide) hkw (fun z => h38 ((wdb_sg (c := 123) rfl (by decide +kernel) (by decide)).mpr z))]
      exact QK_no eV_7 cV_7 hD1 hBV_7
set_option maxHeartbeats 1000000 in
set_option maxRecDepth 100000 in
theorem R_X4_readKind_26 {G : GG} {V : VV} {R : RR}  {V0 : VV} {n f p : Nat} {D : Nat → Nat → Int} {lo hi : Nat → Int} (hB : Bd V) (hF : FinR R) (eV : V = csV V0 f p D) (hn : V0 16 1 = n) (hc : cO (V0 17) n f p) (hn4 : n ≤ 400) : Runs G M_X4_readKind 7 162 162 [vr 16, vr 26] V R (QK R V0 n (some (vi (bi (decide ((kdS (V0 17) n f 1 lo hi).2.1 = -1))))) (kdS (V0 17) n f 1 lo hi).1 26 D ((kdS (V0 17) n f 1 lo hi).2.1 = -1) 1 (kdS (V0 17) n f 1 lo hi).2.2.2.1 (kdS (V0 17) n f 1 lo hi).2.2.2.2) := by
  refine Runs.of pn_X4 (Nat.le_of_ble_eq_true rfl) rfl ?_
  show TT G M_X4_readKind (rmd 7 162 162) 162 (Zm G 162 162 (QK R V0 n (some (vi (bi (decide ((kdS (V0 17) n f 1 lo hi).2.1 = -1))))) (kdS (V0 17) n f 1 lo hi).1 26 D ((kdS (V0 17) n f 1 lo hi).2.1 = -1) 1 (kdS (V0 17) n f 1 lo hi).2.2.2.1 (kdS (V0 17) n f 1 lo hi).2.2.2.2)) 162 0 [(0, vr 16), (1, vr 26)] [] V R
  refine T_gs d_X4_readKind_0 ?_
  refine T_k d_X4_readKind_3 ?_
  refine T_al d_X4_readKind_4 rfl ?_
  refine T_k d_X4_readKind_5 ?_
  refine T_k d_X4_readKind_6 ?_
  refine F_acx (j := 3) dAC_rk8 (by decide) rfl hB rfl ⟨by decide, by decide⟩ ⟨by decide, by decide⟩ (by decide) ⟨by decide, by decide⟩ (fun V_1 eV_1 hBV_1 => ?_)
  refine T_gs d_X4_readKind_11 ?_
  refine T_k d_X4_readKind_14 ?_
  refine T_al d_X4_readKind_15 rfl ?_
  refine T_k d_X4_readKind_16 ?_
  refine T_k d_X4_readKind_18 ?_
  refine F_acx (j := 4) dAC_rk20 (by decide) rfl hBV_1 rfl ⟨by decide, by decide⟩ ⟨by decide, by decide⟩ (by decide) ⟨by decide, by decide⟩ (fun V_2 eV_2 hBV_2 => ?_)
  obtain ⟨D1, e23, hD1, hR1⟩ := kd_start (by decide) (by decide) eV eV_1 eV_2
  refine T_al d_X4_readKind_23 rfl ?_
  refine T_ldcS (i := 0) ⟨d_X4_readKind_24, rfl, by decide, rfl⟩ ?_
  refine C_v1 d_X4_readKind_26 rfl (hdF (by decide)) (hcF _) (Sc_take (w := 0) hBV_2 hF e23 hn hc (by decide)) (fun r_3 V_4 R_5 qV_4 => ?_)
  obtain ⟨rfl, ⟨p5, eV_4, cV_4⟩, rfl, hBV_4⟩ := qV_4
  refine T_pz0 d_X4_readKind_29 (fun h29 => ?_) (fun h29 => ?_)
  · skip
    refine T_k d_X4_readKind_41 ?_
    -- leaf 29t@42
    refine T_zret0 d_X4_readKind_42 rfl ?_
    rw [if_neg h29] at eV_4 cV_4
    rw [kd_w h29]
    exact QK_no eV_4 cV_4 hD1 hBV_4
  · skip
    have hkw := h29
    rw [if_pos h29] at eV_4 cV_4
    refine T_al d_X4_readKind_32 rfl ?_
    refine T_ldcS (i := 1) ⟨d_X4_readKind_33, rfl, by decide, rfl⟩ ?_
    refine C_v1 d_X4_readKind_35 rfl (hdF (by decide)) (hcF _) (Sc_take (w := 1) hBV_4 hF eV_4 hn cV_4 (by decide)) (fun r_6 V_7 R_8 qV_7 => ?_)
    obtain ⟨rfl, ⟨p8, eV_7, cV_7⟩, rfl, hBV_7⟩ := qV_7
    refine T_pz1 d_X4_readKind_38 (fun h38 => ?_) (fun h38 => ?_)
    · skip
      rw [if_pos h38] at eV_7 cV_7
      have hb1 := (wdb_sg (c := 123) rfl (by decide +kernel) (by decide)).mp h38
      refine T_al d_X4_readKind_43 rfl ?_
      refine T_ldcS (i := 2) ⟨d_X4_readKind_44, rfl, by decide, rfl⟩ ?_
      refine C_v1 d_X4_readKind_46 rfl (hdF (by decide)) (hcF _) (Sc_take (w := 2) hBV_7 hF eV_7 hn cV_7 (by decide)) (fun r_9 V_10 R_11 qV_10 => ?_)
      obtain ⟨rfl, ⟨p11, eV_10, cV_10⟩, rfl, hBV_10⟩ := qV_10
      refine T_pz0 d_X4_readKind_49 (fun h49 => ?_) (fun h49 => ?_)
      · skip
        rw [if_neg h49] at eV_10 cV_10
        have hb2 := fun z => h49 ((wdb_sg (c := 125) rfl (by decide +kernel) (by decide)).mpr z)
        refine T_k d_X4_readKind_54 ?_
        refine T_is d_X4_readKind_55 (ls' := [(0, vr 16), (1, vr 26), (2, vi 0)]) rfl ?_
        -- to 56 29f.38t.49t@56
        have L56 : ∀ (fu : Nat) (W : VV) (i g q : Nat) (D2 : Nat → Nat → Int) (lo2 hi2 : Nat → Int), 400 - i < fu → (Bd W) → (W = csV V0 g q D2) → (cO (V0 17) n g q) → (∀ k, k ≠ 26 → D2 k = D k) → (dR 1 lo2 hi2 (D2 26)) → (2 * i ≤ g ∧ i ≤ 400) → (cls (V0 17) n 1 (401 - i) g lo2 hi2 = cls (V0 17) n 1 401 (nxt (V0 17) n (nxt (V0 17) n f)) (setD lo 1 dfL) (setD hi 1 dfH)) → TT G M_X4_readKind (rmd 7 162 162) 162 (Zm G 162 162 (QK R V0 n (some (vi (bi (decide ((kdS (V0 17) n f 1 lo hi).2.1 = -1))))) (kdS (V0 17) n f 1 lo hi).1 26 D ((kdS (V0 17) n f 1 lo hi).2.1 = -1) 1 (kdS (V0 17) n f 1 lo hi).2.2.2.1 (kdS (V0 17) n f 1 lo hi).2.2.2.2)) 162 56 [(0, vr 16), (1, vr 26), (2, vi (i : Int))] [] W R := by
          intro fu
          induction fu with
          | zero => intro W i g q D2 lo2 hi2 hm; exact absurd hm (Nat.not_lt_zero _)
          | succ fu ih56 =>
            intro W i g q D2 lo2 hi2 hm56 hBW eW cW hk2 hd2 hig hcl
            have hgn := cW.1
            have hle := clS_le (t := V0 17) (rd := 1) (lo := lo2) (hi := hi2) hgn
            have hfl := clS_flt (t := V0 17) (n := n) (f := g) (rd := 1) (lo := lo2) (hi := hi2)
            have hnx := nxt_le (t := V0 17) hle.2.1
            refine T_il d_X4_readKind_56 rfl ?_
            refine T_k d_X4_readKind_57 ?_
            refine T_ige d_X4_readKind_60 ⟨by omega, by omega⟩ ⟨by omega, by omega⟩ (fun h60 => ?_) (fun h60 => ?_)
            · skip
              refine T_k d_X4_readKind_101 ?_
              -- leaf 60t@102
              refine T_zret0 d_X4_readKind_102 rfl ?_
              exfalso; omega
            · skip
              refine T_al d_X4_readKind_63 rfl ?_
              refine T_al d_X4_readKind_64 rfl ?_
              refine C_v1 d_X4_readKind_65 rfl (hdF (by decide)) (hcF _) (R_X4_readClause_26 hBW hF eW hn cW hd2) (fun r_12 V_13 R_14 qV_13 => ?_)
              obtain ⟨rfl, ⟨p14, D14, eV_13, cV_13, kV_13, dV_13⟩, rfl, hBV_13⟩ := qV_13
              refine T_pz1 d_X4_readKind_68 (fun h68 => ?_) (fun h68 => ?_)
              · skip
                have e73 := eV_13
                have c73 := cV_13
                have k73 := kV_13
                have d73 := dV_13 h68
                refine T_al d_X4_readKind_73 rfl ?_
                refine T_ldcS (i := 2) ⟨d_X4_readKind_74, rfl, by decide, rfl⟩ ?_
                refine C_v1 d_X4_readKind_76 rfl (hdF (by decide)) (hcF _) (Sc_take (w := 2) hBV_13 hF e73 hn c73 (by decide)) (fun r_15 V_16 R_17 qV_16 => ?_)
                obtain ⟨rfl, ⟨p17, eV_16, cV_16⟩, rfl, hBV_16⟩ := qV_16
                refine T_pz0 d_X4_readKind_79 (fun h79 => ?_) (fun h79 => ?_)
                · skip
                  rw [if_neg h79] at eV_16 cV_16
                  have hb3 := fun z => h79 ((wdb_sg (c := 125) rfl (by decide +kernel) (by decide)).mpr z)
                  refine T_al d_X4_readKind_84 rfl ?_
                  refine T_ldcS (i := 14) ⟨d_X4_readKind_85, rfl, by decide, rfl⟩ ?_
                  refine C_v1 d_X4_readKind_87 rfl (hdF (by decide)) (hcF _) (Sc_take (w := 14) hBV_16 hF eV_16 hn cV_16 (by decide)) (fun r_18 V_19 R_20 qV_19 => ?_)
                  obtain ⟨rfl, ⟨p20, eV_19, cV_19⟩, rfl, hBV_19⟩ := qV_19
                  refine T_pz1 d_X4_readKind_90 (fun h90 => ?_) (fun h90 => ?_)
                  · skip
                    refine F_incg d_X4_readKind_95 rfl (f := fun x_21 => [(0, vr 16), (1, vr 26), (2, vi x_21)]) (fun _ => rfl) (fun x_21 ex_21 => ?_)
                    refine T_go d_X4_readKind_98 ?_
                    -- to 56 60f.68t.79t.90t@56
                    rw [if_pos h90] at eV_19 cV_19
                    have hb4 := (wdb_sg (c := 44) rfl (by decide +kernel) (by decide)).mp h90
                    obtain rfl : x_21 = ((i + 1) : Int) := by omega
                    exact ih56 V_19 (i + 1) _ _ _ _ _ (by omega) hBV_19 eV_19 cV_19 (fun k hk => (k73 k hk).trans (hk2 k hk)) d73 (by have := hle.2.2.1 h68; omega) (by rw [← hcl, show 401 - i = (400 - i) + 1 by omega, cls_s ⟨h68, hb4⟩]; congr 1; omega)
                  · skip
                    refine T_k d_X4_readKind_93 ?_
                    -- leaf 60f.68t.79t.90f@94
                    refine T_zret0 d_X4_readKind_94 rfl ?_
                    rw [if_neg h90] at eV_19 cV_19
                    rw [kd_k (by decide) hkw hb1, if_neg hb2, ← hcl, show 401 - i = (400 - i) + 1 by omega, cls_e (fun z => h90 ((wdb_sg (c := 44) rfl (by decide +kernel) (by decide)).mpr z.2))]
                    unfold kF
                    rw [if_neg (fun z => z h68), if_neg hb3]
                    exact QK_no eV_19 cV_19 (fun k hk => (k73 k hk).trans (hk2 k hk)) hBV_19
                · skip
                  refine T_k d_X4_readKind_82 ?_
                  -- leaf 60f.68t.79f@83
                  refine T_zret1 d_X4_readKind_83 rfl ?_
                  rw [if_pos h79] at eV_16 cV_16
                  have hb3 := (wdb_sg (c := 125) rfl (by decide +kernel) (by decide)).mp h79
                  rw [kd_k (by decide) hkw hb1, if_neg hb2, ← hcl, show 401 - i = (400 - i) + 1 by omega, cls_e (fun z => by have := z.2.2; omega)]
                  unfold kF
                  rw [if_neg (fun z => z h68), if_pos hb3]
                  exact QK_ok eV_16 cV_16 (fun k hk => (k73 k hk).trans (hk2 k hk)) d73 hBV_16
              · skip
                refine T_k d_X4_readKind_71 ?_
                -- leaf 60f.68f@72
                refine T_zret0 d_X4_readKind_72 rfl ?_
                have hf2 := hfl.resolve_left h68
                rw [kd_k (by decide) hkw hb1, if_neg hb2, ← hcl, show 401 - i = (400 - i) + 1 by omega, cls_e (fun z => h68 z.1)]
                unfold kF
                rw [if_pos h68]
                simp only [hf2]
                exact QK_no eV_13 cV_13 (fun k hk => (kV_13 k hk).trans (hk2 k hk)) hBV_13
        exact L56 _ V_10 (0) ((nxt (V0 17) n (nxt (V0 17) n f))) _ _ _ _ (Nat.lt_succ_self _) hBV_10 eV_10 cV_10 hD1 (hR1 _ _ _) (by omega) rfl
      · skip
        refine T_k d_X4_readKind_52 ?_
        -- leaf 29f.38t.49f@53
        refine T_zret1 d_X4_readKind_53 rfl ?_
        rw [if_pos h49] at eV_10 cV_10
        have hb2 := (wdb_sg (c := 125) rfl (by decide +kernel) (by decide)).mp h49
        rw [kd_k (by decide) hkw hb1, if_pos hb2, kF_y hb2]
        exact QK_ok eV_10 cV_10 hD1 (hR1 _ _ _) hBV_10
    · skip
      refine T_k d_X4_readKind_41 ?_
      -- leaf 29f.38f@42
      refine T_zret0 d_X4_readKind_42 rfl ?_
      rw [if_neg h38] at eV_7 cV_7
      rw [kd_b (by decide) hkw (fun z => h38 ((wdb_sg (c := 123) rfl (by decide +kernel) (by decide)).mpr z))]
      exact QK_no eV_7 cV_7 hD1 hBV_7
set_option maxHeartbeats 1000000 in
set_option maxRecDepth 100000 in
theorem R_X4_readKind_27 {G : GG} {V : VV} {R : RR}  {V0 : VV} {n f p : Nat} {D : Nat → Nat → Int} {lo hi : Nat → Int} (hB : Bd V) (hF : FinR R) (eV : V = csV V0 f p D) (hn : V0 16 1 = n) (hc : cO (V0 17) n f p) (hn4 : n ≤ 400) : Runs G M_X4_readKind 7 162 162 [vr 16, vr 27] V R (QK R V0 n (some (vi (bi (decide ((kdS (V0 17) n f 2 lo hi).2.1 = -1))))) (kdS (V0 17) n f 2 lo hi).1 27 D ((kdS (V0 17) n f 2 lo hi).2.1 = -1) 2 (kdS (V0 17) n f 2 lo hi).2.2.2.1 (kdS (V0 17) n f 2 lo hi).2.2.2.2) := by
  refine Runs.of pn_X4 (Nat.le_of_ble_eq_true rfl) rfl ?_
  show TT G M_X4_readKind (rmd 7 162 162) 162 (Zm G 162 162 (QK R V0 n (some (vi (bi (decide ((kdS (V0 17) n f 2 lo hi).2.1 = -1))))) (kdS (V0 17) n f 2 lo hi).1 27 D ((kdS (V0 17) n f 2 lo hi).2.1 = -1) 2 (kdS (V0 17) n f 2 lo hi).2.2.2.1 (kdS (V0 17) n f 2 lo hi).2.2.2.2)) 162 0 [(0, vr 16), (1, vr 27)] [] V R
  refine T_gs d_X4_readKind_0 ?_
  refine T_k d_X4_readKind_3 ?_
  refine T_al d_X4_readKind_4 rfl ?_
  refine T_k d_X4_readKind_5 ?_
  refine T_k d_X4_readKind_6 ?_
  refine F_acx (j := 3) dAC_rk8 (by decide) rfl hB rfl ⟨by decide, by decide⟩ ⟨by decide, by decide⟩ (by decide) ⟨by decide, by decide⟩ (fun V_1 eV_1 hBV_1 => ?_)
  refine T_gs d_X4_readKind_11 ?_
  refine T_k d_X4_readKind_14 ?_
  refine T_al d_X4_readKind_15 rfl ?_
  refine T_k d_X4_readKind_16 ?_
  refine T_k d_X4_readKind_18 ?_
  refine F_acx (j := 4) dAC_rk20 (by decide) rfl hBV_1 rfl ⟨by decide, by decide⟩ ⟨by decide, by decide⟩ (by decide) ⟨by decide, by decide⟩ (fun V_2 eV_2 hBV_2 => ?_)
  obtain ⟨D1, e23, hD1, hR1⟩ := kd_start (by decide) (by decide) eV eV_1 eV_2
  refine T_al d_X4_readKind_23 rfl ?_
  refine T_ldcS (i := 0) ⟨d_X4_readKind_24, rfl, by decide, rfl⟩ ?_
  refine C_v1 d_X4_readKind_26 rfl (hdF (by decide)) (hcF _) (Sc_take (w := 0) hBV_2 hF e23 hn hc (by decide)) (fun r_3 V_4 R_5 qV_4 => ?_)
  obtain ⟨rfl, ⟨p5, eV_4, cV_4⟩, rfl, hBV_4⟩ := qV_4
  refine T_pz0 d_X4_readKind_29 (fun h29 => ?_) (fun h29 => ?_)
  · skip
    refine T_k d_X4_readKind_41 ?_
    -- leaf 29t@42
    refine T_zret0 d_X4_readKind_42 rfl ?_
    rw [if_neg h29] at eV_4 cV_4
    rw [kd_w h29]
    exact QK_no eV_4 cV_4 hD1 hBV_4
  · skip
    have hkw := h29
    rw [if_pos h29] at eV_4 cV_4
    refine T_al d_X4_readKind_32 rfl ?_
    refine T_ldcS (i := 1) ⟨d_X4_readKind_33, rfl, by decide, rfl⟩ ?_
    refine C_v1 d_X4_readKind_35 rfl (hdF (by decide)) (hcF _) (Sc_take (w := 1) hBV_4 hF eV_4 hn cV_4 (by decide)) (fun r_6 V_7 R_8 qV_7 => ?_)
    obtain ⟨rfl, ⟨p8, eV_7, cV_7⟩, rfl, hBV_7⟩ := qV_7
    refine T_pz1 d_X4_readKind_38 (fun h38 => ?_) (fun h38 => ?_)
    · skip
      rw [if_pos h38] at eV_7 cV_7
      have hb1 := (wdb_sg (c := 123) rfl (by decide +kernel) (by decide)).mp h38
      refine T_al d_X4_readKind_43 rfl ?_
      refine T_ldcS (i := 2) ⟨d_X4_readKind_44, rfl, by decide, rfl⟩ ?_
      refine C_v1 d_X4_readKind_46 rfl (hdF (by decide)) (hcF _) (Sc_take (w := 2) hBV_7 hF eV_7 hn cV_7 (by decide)) (fun r_9 V_10 R_11 qV_10 => ?_)
      obtain ⟨rfl, ⟨p11, eV_10, cV_10⟩, rfl, hBV_10⟩ := qV_10
      refine T_pz0 d_X4_readKind_49 (fun h49 => ?_) (fun h49 => ?_)
      · skip
        rw [if_neg h49] at eV_10 cV_10
        have hb2 := fun z => h49 ((wdb_sg (c := 125) rfl (by decide +kernel) (by decide)).mpr z)
        refine T_k d_X4_readKind_54 ?_
        refine T_is d_X4_readKind_55 (ls' := [(0, vr 16), (1, vr 27), (2, vi 0)]) rfl ?_
        -- to 56 29f.38t.49t@56
        have L56 : ∀ (fu : Nat) (W : VV) (i g q : Nat) (D2 : Nat → Nat → Int) (lo2 hi2 : Nat → Int), 400 - i < fu → (Bd W) → (W = csV V0 g q D2) → (cO (V0 17) n g q) → (∀ k, k ≠ 27 → D2 k = D k) → (dR 2 lo2 hi2 (D2 27)) → (2 * i ≤ g ∧ i ≤ 400) → (cls (V0 17) n 2 (401 - i) g lo2 hi2 = cls (V0 17) n 2 401 (nxt (V0 17) n (nxt (V0 17) n f)) (setD lo 2 dfL) (setD hi 2 dfH)) → TT G M_X4_readKind (rmd 7 162 162) 162 (Zm G 162 162 (QK R V0 n (some (vi (bi (decide ((kdS (V0 17) n f 2 lo hi).2.1 = -1))))) (kdS (V0 17) n f 2 lo hi).1 27 D ((kdS (V0 17) n f 2 lo hi).2.1 = -1) 2 (kdS (V0 17) n f 2 lo hi).2.2.2.1 (kdS (V0 17) n f 2 lo hi).2.2.2.2)) 162 56 [(0, vr 16), (1, vr 27), (2, vi (i : Int))] [] W R := by
          intro fu
          induction fu with
          | zero => intro W i g q D2 lo2 hi2 hm; exact absurd hm (Nat.not_lt_zero _)
          | succ fu ih56 =>
            intro W i g q D2 lo2 hi2 hm56 hBW eW cW hk2 hd2 hig hcl
            have hgn := cW.1
            have hle := clS_le (t := V0 17) (rd := 2) (lo := lo2) (hi := hi2) hgn
            have hfl := clS_flt (t := V0 17) (n := n) (f := g) (rd := 2) (lo := lo2) (hi := hi2)
            have hnx := nxt_le (t := V0 17) hle.2.1
            refine T_il d_X4_readKind_56 rfl ?_
            refine T_k d_X4_readKind_57 ?_
            refine T_ige d_X4_readKind_60 ⟨by omega, by omega⟩ ⟨by omega, by omega⟩ (fun h60 => ?_) (fun h60 => ?_)
            · skip
              refine T_k d_X4_readKind_101 ?_
              -- leaf 60t@102
              refine T_zret0 d_X4_readKind_102 rfl ?_
              exfalso; omega
            · skip
              refine T_al d_X4_readKind_63 rfl ?_
              refine T_al d_X4_readKind_64 rfl ?_
              refine C_v1 d_X4_readKind_65 rfl (hdF (by decide)) (hcF _) (R_X4_readClause_27 hBW hF eW hn cW hd2) (fun r_12 V_13 R_14 qV_13 => ?_)
              obtain ⟨rfl, ⟨p14, D14, eV_13, cV_13, kV_13, dV_13⟩, rfl, hBV_13⟩ := qV_13
              refine T_pz1 d_X4_readKind_68 (fun h68 => ?_) (fun h68 => ?_)
              · skip
                have e73 := eV_13
                have c73 := cV_13
                have k73 := kV_13
                have d73 := dV_13 h68
                refine T_al d_X4_readKind_73 rfl ?_
                refine T_ldcS (i := 2) ⟨d_X4_readKind_74, rfl, by decide, rfl⟩ ?_
                refine C_v1 d_X4_readKind_76 rfl (hdF (by decide)) (hcF _) (Sc_take (w := 2) hBV_13 hF e73 hn c73 (by decide)) (fun r_15 V_16 R_17 qV_16 => ?_)
                obtain ⟨rfl, ⟨p17, eV_16, cV_16⟩, rfl, hBV_16⟩ := qV_16
                refine T_pz0 d_X4_readKind_79 (fun h79 => ?_) (fun h79 => ?_)
                · skip
                  rw [if_neg h79] at eV_16 cV_16
                  have hb3 := fun z => h79 ((wdb_sg (c := 125) rfl (by decide +kernel) (by decide)).mpr z)
                  refine T_al d_X4_readKind_84 rfl ?_
                  refine T_ldcS (i := 14) ⟨d_X4_readKind_85, rfl, by decide, rfl⟩ ?_
                  refine C_v1 d_X4_readKind_87 rfl (hdF (by decide)) (hcF _) (Sc_take (w := 14) hBV_16 hF eV_16 hn cV_16 (by decide)) (fun r_18 V_19 R_20 qV_19 => ?_)
                  obtain ⟨rfl, ⟨p20, eV_19, cV_19⟩, rfl, hBV_19⟩ := qV_19
                  refine T_pz1 d_X4_readKind_90 (fun h90 => ?_) (fun h90 => ?_)
                  · skip
                    refine F_incg d_X4_readKind_95 rfl (f := fun x_21 => [(0, vr 16), (1, vr 27), (2, vi x_21)]) (fun _ => rfl) (fun x_21 ex_21 => ?_)
                    refine T_go d_X4_readKind_98 ?_
                    -- to 56 60f.68t.79t.90t@56
                    rw [if_pos h90] at eV_19 cV_19
                    have hb4 := (wdb_sg (c := 44) rfl (by decide +kernel) (by decide)).mp h90
                    obtain rfl : x_21 = ((i + 1) : Int) := by omega
                    exact ih56 V_19 (i + 1) _ _ _ _ _ (by omega) hBV_19 eV_19 cV_19 (fun k hk => (k73 k hk).trans (hk2 k hk)) d73 (by have := hle.2.2.1 h68; omega) (by rw [← hcl, show 401 - i = (400 - i) + 1 by omega, cls_s ⟨h68, hb4⟩]; congr 1; omega)
                  · skip
                    refine T_k d_X4_readKind_93 ?_
                    -- leaf 60f.68t.79t.90f@94
                    refine T_zret0 d_X4_readKind_94 rfl ?_
                    rw [if_neg h90] at eV_19 cV_19
                    rw [kd_k (by decide) hkw hb1, if_neg hb2, ← hcl, show 401 - i = (400 - i) + 1 by omega, cls_e (fun z => h90 ((wdb_sg (c := 44) rfl (by decide +kernel) (by decide)).mpr z.2))]
                    unfold kF
                    rw [if_neg (fun z => z h68), if_neg hb3]
                    exact QK_no eV_19 cV_19 (fun k hk => (k73 k hk).trans (hk2 k hk)) hBV_19
                · skip
                  refine T_k d_X4_readKind_82 ?_
                  -- leaf 60f.68t.79f@83
                  refine T_zret1 d_X4_readKind_83 rfl ?_
                  rw [if_pos h79] at eV_16 cV_16
                  have hb3 := (wdb_sg (c := 125) rfl (by decide +kernel) (by decide)).mp h79
                  rw [kd_k (by decide) hkw hb1, if_neg hb2, ← hcl, show 401 - i = (400 - i) + 1 by omega, cls_e (fun z => by have := z.2.2; omega)]
                  unfold kF
                  rw [if_neg (fun z => z h68), if_pos hb3]
                  exact QK_ok eV_16 cV_16 (fun k hk => (k73 k hk).trans (hk2 k hk)) d73 hBV_16
              · skip
                refine T_k d_X4_readKind_71 ?_
                -- leaf 60f.68f@72
                refine T_zret0 d_X4_readKind_72 rfl ?_
                have hf2 := hfl.resolve_left h68
                rw [kd_k (by decide) hkw hb1, if_neg hb2, ← hcl, show 401 - i = (400 - i) + 1 by omega, cls_e (fun z => h68 z.1)]
                unfold kF
                rw [if_pos h68]
                simp only [hf2]
                exact QK_no eV_13 cV_13 (fun k hk => (kV_13 k hk).trans (hk2 k hk)) hBV_13
        exact L56 _ V_10 (0) ((nxt (V0 17) n (nxt (V0 17) n f))) _ _ _ _ (Nat.lt_succ_self _) hBV_10 eV_10 cV_10 hD1 (hR1 _ _ _) (by omega) rfl
      · skip
        refine T_k d_X4_readKind_52 ?_
        -- leaf 29f.38t.49f@53
        refine T_zret1 d_X4_readKind_53 rfl ?_
        rw [if_pos h49] at eV_10 cV_10
        have hb2 := (wdb_sg (c := 125) rfl (by decide +kernel) (by decide)).mp h49
        rw [kd_k (by decide) hkw hb1, if_pos hb2, kF_y hb2]
        exact QK_ok eV_10 cV_10 hD1 (hR1 _ _ _) hBV_10
    · skip
      refine T_k d_X4_readKind_41 ?_
      -- leaf 29f.38f@42
      refine T_zret0 d_X4_readKind_42 rfl ?_
      rw [if_neg h38] at eV_7 cV_7
      rw [kd_b (by decide) hkw (fun z => h38 ((wdb_sg (c := 123) rfl (by decide +kernel) (by decide)).mpr z))]
      exact QK_no eV_7 cV_7 hD1 hBV_7
set_option maxHeartbeats 1000000 in
set_option maxRecDepth 100000 in
theorem R_X4_readKind_28 {G : GG} {V : VV} {R : RR}  {V0 : VV} {n f p : Nat} {D : Nat → Nat → Int} {lo hi : Nat → Int} (hB : Bd V) (hF : FinR R) (eV : V = csV V0 f p D) (hn : V0 16 1 = n) (hc : cO (V0 17) n f p) (hn4 : n ≤ 400) : Runs G M_X4_readKind 7 162 162 [vr 16, vr 28] V R (QK R V0 n (some (vi (bi (decide ((kdS (V0 17) n f 3 lo hi).2.1 = -1))))) (kdS (V0 17) n f 3 lo hi).1 28 D ((kdS (V0 17) n f 3 lo hi).2.1 = -1) 3 (kdS (V0 17) n f 3 lo hi).2.2.2.1 (kdS (V0 17) n f 3 lo hi).2.2.2.2) := by
  refine Runs.of pn_X4 (Nat.le_of_ble_eq_true rfl) rfl ?_
  show TT G M_X4_readKind (rmd 7 162 162) 162 (Zm G 162 162 (QK R V0 n (some (vi (bi (decide ((kdS (V0 17) n f 3 lo hi).2.1 = -1))))) (kdS (V0 17) n f 3 lo hi).1 28 D ((kdS (V0 17) n f 3 lo hi).2.1 = -1) 3 (kdS (V0 17) n f 3 lo hi).2.2.2.1 (kdS (V0 17) n f 3 lo hi).2.2.2.2)) 162 0 [(0, vr 16), (1, vr 28)] [] V R
  refine T_gs d_X4_readKind_0 ?_
  refine T_k d_X4_readKind_3 ?_
  refine T_al d_X4_readKind_4 rfl ?_
  refine T_k d_X4_readKind_5 ?_
  refine T_k d_X4_readKind_6 ?_
  refine F_acx (j := 3) dAC_rk8 (by decide) rfl hB rfl ⟨by decide, by decide⟩ ⟨by decide, by decide⟩ (by decide) ⟨by decide, by decide⟩ (fun V_1 eV_1 hBV_1 => ?_)
  refine T_gs d_X4_readKind_11 ?_
  refine T_k d_X4_readKind_14 ?_
  refine T_al d_X4_readKind_15 rfl ?_
  refine T_k d_X4_readKind_16 ?_
  refine T_k d_X4_readKind_18 ?_
  refine F_acx (j := 4) dAC_rk20 (by decide) rfl hBV_1 rfl ⟨by decide, by decide⟩ ⟨by decide, by decide⟩ (by decide) ⟨by decide, by decide⟩ (fun V_2 eV_2 hBV_2 => ?_)
  obtain ⟨D1, e23, hD1, hR1⟩ := kd_start (by decide) (by decide) eV eV_1 eV_2
  refine T_al d_X4_readKind_23 rfl ?_
  refine T_ldcS (i := 0) ⟨d_X4_readKind_24, rfl, by decide, rfl⟩ ?_
  refine C_v1 d_X4_readKind_26 rfl (hdF (by decide)) (hcF _) (Sc_take (w := 0) hBV_2 hF e23 hn hc (by decide)) (fun r_3 V_4 R_5 qV_4 => ?_)
  obtain ⟨rfl, ⟨p5, eV_4, cV_4⟩, rfl, hBV_4⟩ := qV_4
  refine T_pz0 d_X4_readKind_29 (fun h29 => ?_) (fun h29 => ?_)
  · skip
    refine T_k d_X4_readKind_41 ?_
    -- leaf 29t@42
    refine T_zret0 d_X4_readKind_42 rfl ?_
    rw [if_neg h29] at eV_4 cV_4
    rw [kd_w h29]
    exact QK_no eV_4 cV_4 hD1 hBV_4
  · skip
    have hkw := h29
    rw [if_pos h29] at eV_4 cV_4
    refine T_al d_X4_readKind_32 rfl ?_
    refine T_ldcS (i := 1) ⟨d_X4_readKind_33, rfl, by decide, rfl⟩ ?_
    refine C_v1 d_X4_readKind_35 rfl (hdF (by decide)) (hcF _) (Sc_take (w := 1) hBV_4 hF eV_4 hn cV_4 (by decide)) (fun r_6 V_7 R_8 qV_7 => ?_)
    obtain ⟨rfl, ⟨p8, eV_7, cV_7⟩, rfl, hBV_7⟩ := qV_7
    refine T_pz1 d_X4_readKind_38 (fun h38 => ?_) (fun h38 => ?_)
    · skip
      rw [if_pos h38] at eV_7 cV_7
      have hb1 := (wdb_sg (c := 123) rfl (by decide +kernel) (by decide)).mp h38
      refine T_al d_X4_readKind_43 rfl ?_
      refine T_ldcS (i := 2) ⟨d_X4_readKind_44, rfl, by decide, rfl⟩ ?_
      refine C_v1 d_X4_readKind_46 rfl (hdF (by decide)) (hcF _) (Sc_take (w := 2) hBV_7 hF eV_7 hn cV_7 (by decide)) (fun r_9 V_10 R_11 qV_10 => ?_)
      obtain ⟨rfl, ⟨p11, eV_10, cV_10⟩, rfl, hBV_10⟩ := qV_10
      refine T_pz0 d_X4_readKind_49 (fun h49 => ?_) (fun h49 => ?_)
      · skip
        rw [if_neg h49] at eV_10 cV_10
        have hb2 := fun z => h49 ((wdb_sg (c := 125) rfl (by decide +kernel) (by decide)).mpr z)
        refine T_k d_X4_readKind_54 ?_
        refine T_is d_X4_readKind_55 (ls' := [(0, vr 16), (1, vr 28), (2, vi 0)]) rfl ?_
        -- to 56 29f.38t.49t@56
        have L56 : ∀ (fu : Nat) (W : VV) (i g q : Nat) (D2 : Nat → Nat → Int) (lo2 hi2 : Nat → Int), 400 - i < fu → (Bd W) → (W = csV V0 g q D2) → (cO (V0 17) n g q) → (∀ k, k ≠ 28 → D2 k = D k) → (dR 3 lo2 hi2 (D2 28)) → (2 * i ≤ g ∧ i ≤ 400) → (cls (V0 17) n 3 (401 - i) g lo2 hi2 = cls (V0 17) n 3 401 (nxt (V0 17) n (nxt (V0 17) n f)) (setD lo 3 dfL) (setD hi 3 dfH)) → TT G M_X4_readKind (rmd 7 162 162) 162 (Zm G 162 162 (QK R V0 n (some (vi (bi (decide ((kdS (V0 17) n f 3 lo hi).2.1 = -1))))) (kdS (V0 17) n f 3 lo hi).1 28 D ((kdS (V0 17) n f 3 lo hi).2.1 = -1) 3 (kdS (V0 17) n f 3 lo hi).2.2.2.1 (kdS (V0 17) n f 3 lo hi).2.2.2.2)) 162 56 [(0, vr 16), (1, vr 28), (2, vi (i : Int))] [] W R := by
          intro fu
          induction fu with
          | zero => intro W i g q D2 lo2 hi2 hm; exact absurd hm (Nat.not_lt_zero _)
          | succ fu ih56 =>
            intro W i g q D2 lo2 hi2 hm56 hBW eW cW hk2 hd2 hig hcl
            have hgn := cW.1
            have hle := clS_le (t := V0 17) (rd := 3) (lo := lo2) (hi := hi2) hgn
            have hfl := clS_flt (t := V0 17) (n := n) (f := g) (rd := 3) (lo := lo2) (hi := hi2)
            have hnx := nxt_le (t := V0 17) hle.2.1
            refine T_il d_X4_readKind_56 rfl ?_
            refine T_k d_X4_readKind_57 ?_
            refine T_ige d_X4_readKind_60 ⟨by omega, by omega⟩ ⟨by omega, by omega⟩ (fun h60 => ?_) (fun h60 => ?_)
            · skip
              refine T_k d_X4_readKind_101 ?_
              -- leaf 60t@102
              refine T_zret0 d_X4_readKind_102 rfl ?_
              exfalso; omega
            · skip
              refine T_al d_X4_readKind_63 rfl ?_
              refine T_al d_X4_readKind_64 rfl ?_
              refine C_v1 d_X4_readKind_65 rfl (hdF (by decide)) (hcF _) (R_X4_readClause_28 hBW hF eW hn cW hd2) (fun r_12 V_13 R_14 qV_13 => ?_)
              obtain ⟨rfl, ⟨p14, D14, eV_13, cV_13, kV_13, dV_13⟩, rfl, hBV_13⟩ := qV_13
              refine T_pz1 d_X4_readKind_68 (fun h68 => ?_) (fun h68 => ?_)
              · skip
                have e73 := eV_13
                have c73 := cV_13
                have k73 := kV_13
                have d73 := dV_13 h68
                refine T_al d_X4_readKind_73 rfl ?_
                refine T_ldcS (i := 2) ⟨d_X4_readKind_74, rfl, by decide, rfl⟩ ?_
                refine C_v1 d_X4_readKind_76 rfl (hdF (by decide)) (hcF _) (Sc_take (w := 2) hBV_13 hF e73 hn c73 (by decide)) (fun r_15 V_16 R_17 qV_16 => ?_)
                obtain ⟨rfl, ⟨p17, eV_16, cV_16⟩, rfl, hBV_16⟩ := qV_16
                refine T_pz0 d_X4_readKind_79 (fun h79 => ?_) (fun h79 => ?_)
                · skip
                  rw [if_neg h79] at eV_16 cV_16
                  have hb3 := fun z => h79 ((wdb_sg (c := 125) rfl (by decide +kernel) (by decide)).mpr z)
                  refine T_al d_X4_readKind_84 rfl ?_
                  refine T_ldcS (i := 14) ⟨d_X4_readKind_85, rfl, by decide, rfl⟩ ?_
                  refine C_v1 d_X4_readKind_87 rfl (hdF (by decide)) (hcF _) (Sc_take (w := 14) hBV_16 hF eV_16 hn cV_16 (by decide)) (fun r_18 V_19 R_20 qV_19 => ?_)
                  obtain ⟨rfl, ⟨p20, eV_19, cV_19⟩, rfl, hBV_19⟩ := qV_19
                  refine T_pz1 d_X4_readKind_90 (fun h90 => ?_) (fun h90 => ?_)
                  · skip
                    refine F_incg d_X4_readKind_95 rfl (f := fun x_21 => [(0, vr 16), (1, vr 28), (2, vi x_21)]) (fun _ => rfl) (fun x_21 ex_21 => ?_)
                    refine T_go d_X4_readKind_98 ?_
                    -- to 56 60f.68t.79t.90t@56
                    rw [if_pos h90] at eV_19 cV_19
                    have hb4 := (wdb_sg (c := 44) rfl (by decide +kernel) (by decide)).mp h90
                    obtain rfl : x_21 = ((i + 1) : Int) := by omega
                    exact ih56 V_19 (i + 1) _ _ _ _ _ (by omega) hBV_19 eV_19 cV_19 (fun k hk => (k73 k hk).trans (hk2 k hk)) d73 (by have := hle.2.2.1 h68; omega) (by rw [← hcl, show 401 - i = (400 - i) + 1 by omega, cls_s ⟨h68, hb4⟩]; congr 1; omega)
                  · skip
                    refine T_k d_X4_readKind_93 ?_
                    -- leaf 60f.68t.79t.90f@94
                    refine T_zret0 d_X4_readKind_94 rfl ?_
                    rw [if_neg h90] at eV_19 cV_19
                    rw [kd_k (by decide) hkw hb1, if_neg hb2, ← hcl, show 401 - i = (400 - i) + 1 by omega, cls_e (fun z => h90 ((wdb_sg (c := 44) rfl (by decide +kernel) (by decide)).mpr z.2))]
                    unfold kF
                    rw [if_neg (fun z => z h68), if_neg hb3]
                    exact QK_no eV_19 cV_19 (fun k hk => (k73 k hk).trans (hk2 k hk)) hBV_19
                · skip
                  refine T_k d_X4_readKind_82 ?_
                  -- leaf 60f.68t.79f@83
                  refine T_zret1 d_X4_readKind_83 rfl ?_
                  rw [if_pos h79] at eV_16 cV_16
                  have hb3 := (wdb_sg (c := 125) rfl (by decide +kernel) (by decide)).mp h79
                  rw [kd_k (by decide) hkw hb1, if_neg hb2, ← hcl, show 401 - i = (400 - i) + 1 by omega, cls_e (fun z => by have := z.2.2; omega)]
                  unfold kF
                  rw [if_neg (fun z => z h68), if_pos hb3]
                  exact QK_ok eV_16 cV_16 (fun k hk => (k73 k hk).trans (hk2 k hk)) d73 hBV_16
              · skip
                refine T_k d_X4_readKind_71 ?_
                -- leaf 60f.68f@72
                refine T_zret0 d_X4_readKind_72 rfl ?_
                have hf2 := hfl.resolve_left h68
                rw [kd_k (by decide) hkw hb1, if_neg hb2, ← hcl, show 401 - i = (400 - i) + 1 by omega, cls_e (fun z => h68 z.1)]
                unfold kF
                rw [if_pos h68]
                simp only [hf2]
                exact QK_no eV_13 cV_13 (fun k hk => (kV_13 k hk).trans (hk2 k hk)) hBV_13
        exact L56 _ V_10 (0) ((nxt (V0 17) n (nxt (V0 17) n f))) _ _ _ _ (Nat.lt_succ_self _) hBV_10 eV_10 cV_10 hD1 (hR1 _ _ _) (by omega) rfl
      · skip
        refine T_k d_X4_readKind_52 ?_
        -- leaf 29f.38t.49f@53
        refine T_zret1 d_X4_readKind_53 rfl ?_
        rw [if_pos h49] at eV_10 cV_10
        have hb2 := (wdb_sg (c := 125) rfl (by decide +kernel) (by decide)).mp h49
        rw [kd_k (by decide) hkw hb1, if_pos hb2, kF_y hb2]
        exact QK_ok eV_10 cV_10 hD1 (hR1 _ _ _) hBV_10
    · skip
      refine T_k d_X4_readKind_41 ?_
      -- leaf 29f.38f@42
      refine T_zret0 d_X4_readKind_42 rfl ?_
      rw [if_neg h38] at eV_7 cV_7
      rw [kd_b (by decide) hkw (fun z => h38 ((wdb_sg (c := 123) rfl (by decide +kernel) (by decide)).mpr z))]
      exact QK_no eV_7 cV_7 hD1 hBV_7
set_option maxHeartbeats 1000000 in
set_option maxRecDepth 100000 in
theorem R_X4_readKind_29 {G : GG} {V : VV} {R : RR}  {V0 : VV} {n f p : Nat} {D : Nat → Nat → Int} {lo hi : Nat → Int} (hB : Bd V) (hF : FinR R) (eV : V = csV V0 f p D) (hn : V0 16 1 = n) (hc : cO (V0 17) n f p) (hn4 : n ≤ 400) : Runs G M_X4_readKind 7 162 162 [vr 16, vr 29] V R (QK R V0 n (some (vi (bi (decide ((kdS (V0 17) n f 4 lo hi).2.1 = -1))))) (kdS (V0 17) n f 4 lo hi).1 29 D ((kdS (V0 17) n f 4 lo hi).2.1 = -1) 4 (kdS (V0 17) n f 4 lo hi).2.2.2.1 (kdS (V0 17) n f 4 lo hi).2.2.2.2) := by
  refine Runs.of pn_X4 (Nat.le_of_ble_eq_true rfl) rfl ?_
  show TT G M_X4_readKind (rmd 7 162 162) 162 (Zm G 162 162 (QK R V0 n (some (vi (bi (decide ((kdS (V0 17) n f 4 lo hi).2.1 = -1))))) (kdS (V0 17) n f 4 lo hi).1 29 D ((kdS (V0 17) n f 4 lo hi).2.1 = -1) 4 (kdS (V0 17) n f 4 lo hi).2.2.2.1 (kdS (V0 17) n f 4 lo hi).2.2.2.2)) 162 0 [(0, vr 16), (1, vr 29)] [] V R
  refine T_gs d_X4_readKind_0 ?_
  refine T_k d_X4_readKind_3 ?_
  refine T_al d_X4_readKind_4 rfl ?_
  refine T_k d_X4_readKind_5 ?_
  refine T_k d_X4_readKind_6 ?_
  refine F_acx (j := 3) dAC_rk8 (by decide) rfl hB rfl ⟨by decide, by decide⟩ ⟨by decide, by decide⟩ (by decide) ⟨by decide, by decide⟩ (fun V_1 eV_1 hBV_1 => ?_)
  refine T_gs d_X4_readKind_11 ?_
  refine T_k d_X4_readKind_14 ?_
  refine T_al d_X4_readKind_15 rfl ?_
  refine T_k d_X4_readKind_16 ?_
  refine T_k d_X4_readKind_18 ?_
  refine F_acx (j := 4) dAC_rk20 (by decide) rfl hBV_1 rfl ⟨by decide, by decide⟩ ⟨by decide, by decide⟩ (by decide) ⟨by decide, by decide⟩ (fun V_2 eV_2 hBV_2 => ?_)
  obtain ⟨D1, e23, hD1, hR1⟩ := kd_start (by decide) (by decide) eV eV_1 eV_2
  refine T_al d_X4_readKind_23 rfl ?_
  refine T_ldcS (i := 0) ⟨d_X4_readKind_24, rfl, by decide, rfl⟩ ?_
  refine C_v1 d_X4_readKind_26 rfl (hdF (by decide)) (hcF _) (Sc_take (w := 0) hBV_2 hF e23 hn hc (by decide)) (fun r_3 V_4 R_5 qV_4 => ?_)
  obtain ⟨rfl, ⟨p5, eV_4, cV_4⟩, rfl, hBV_4⟩ := qV_4
  refine T_pz0 d_X4_readKind_29 (fun h29 => ?_) (fun h29 => ?_)
  · skip
    refine T_k d_X4_readKind_41 ?_
    -- leaf 29t@42
    refine T_zret0 d_X4_readKind_42 rfl ?_
    rw [if_neg h29] at eV_4 cV_4
    rw [kd_w h29]
    exact QK_no eV_4 cV_4 hD1 hBV_4
  · skip
    have hkw := h29
    rw [if_pos h29] at eV_4 cV_4
    refine T_al d_X4_readKind_32 rfl ?_
    refine T_ldcS (i := 1) ⟨d_X4_readKind_33, rfl, by decide, rfl⟩ ?_
    refine C_v1 d_X4_readKind_35 rfl (hdF (by decide)) (hcF _) (Sc_take (w := 1) hBV_4 hF eV_4 hn cV_4 (by decide)) (fun r_6 V_7 R_8 qV_7 => ?_)
    obtain ⟨rfl, ⟨p8, eV_7, cV_7⟩, rfl, hBV_7⟩ := qV_7
    refine T_pz1 d_X4_readKind_38 (fun h38 => ?_) (fun h38 => ?_)
    · skip
      rw [if_pos h38] at eV_7 cV_7
      have hb1 := (wdb_sg (c := 123) rfl (by decide +kernel) (by decide)).mp h38
      refine T_al d_X4_readKind_43 rfl ?_
      refine T_ldcS (i := 2) ⟨d_X4_readKind_44, rfl, by decide, rfl⟩ ?_
      refine C_v1 d_X4_readKind_46 rfl (hdF (by decide)) (hcF _) (Sc_take (w := 2) hBV_7 hF eV_7 hn cV_7 (by decide)) (fun r_9 V_10 R_11 qV_10 => ?_)
      obtain ⟨rfl, ⟨p11, eV_10, cV_10⟩, rfl, hBV_10⟩ := qV_10
      refine T_pz0 d_X4_readKind_49 (fun h49 => ?_) (fun h49 => ?_)
      · skip
        rw [if_neg h49] at eV_10 cV_10
        have hb2 := fun z => h49 ((wdb_sg (c := 125) rfl (by decide +kernel) (by decide)).mpr z)
        refine T_k d_X4_readKind_54 ?_
        refine T_is d_X4_readKind_55 (ls' := [(0, vr 16), (1, vr 29), (2, vi 0)]) rfl ?_
        -- to 56 29f.38t.49t@56
        have L56 : ∀ (fu : Nat) (W : VV) (i g q : Nat) (D2 : Nat → Nat → Int) (lo2 hi2 : Nat → Int), 400 - i < fu → (Bd W) → (W = csV V0 g q D2) → (cO (V0 17) n g q) → (∀ k, k ≠ 29 → D2 k = D k) → (dR 4 lo2 hi2 (D2 29)) → (2 * i ≤ g ∧ i ≤ 400) → (cls (V0 17) n 4 (401 - i) g lo2 hi2 = cls (V0 17) n 4 401 (nxt (V0 17) n (nxt (V0 17) n f)) (setD lo 4 dfL) (setD hi 4 dfH)) → TT G M_X4_readKind (rmd 7 162 162) 162 (Zm G 162 162 (QK R V0 n (some (vi (bi (decide ((kdS (V0 17) n f 4 lo hi).2.1 = -1))))) (kdS (V0 17) n f 4 lo hi).1 29 D ((kdS (V0 17) n f 4 lo hi).2.1 = -1) 4 (kdS (V0 17) n f 4 lo hi).2.2.2.1 (kdS (V0 17) n f 4 lo hi).2.2.2.2)) 162 56 [(0, vr 16), (1, vr 29), (2, vi (i : Int))] [] W R := by
          intro fu
          induction fu with
          | zero => intro W i g q D2 lo2 hi2 hm; exact absurd hm (Nat.not_lt_zero _)
          | succ fu ih56 =>
            intro W i g q D2 lo2 hi2 hm56 hBW eW cW hk2 hd2 hig hcl
            have hgn := cW.1
            have hle := clS_le (t := V0 17) (rd := 4) (lo := lo2) (hi := hi2) hgn
            have hfl := clS_flt (t := V0 17) (n := n) (f := g) (rd := 4) (lo := lo2) (hi := hi2)
            have hnx := nxt_le (t := V0 17) hle.2.1
            refine T_il d_X4_readKind_56 rfl ?_
            refine T_k d_X4_readKind_57 ?_
            refine T_ige d_X4_readKind_60 ⟨by omega, by omega⟩ ⟨by omega, by omega⟩ (fun h60 => ?_) (fun h60 => ?_)
            · skip
              refine T_k d_X4_readKind_101 ?_
              -- leaf 60t@102
              refine T_zret0 d_X4_readKind_102 rfl ?_
              exfalso; omega
            · skip
              refine T_al d_X4_readKind_63 rfl ?_
              refine T_al d_X4_readKind_64 rfl ?_
              refine C_v1 d_X4_readKind_65 rfl (hdF (by decide)) (hcF _) (R_X4_readClause_29 hBW hF eW hn cW hd2) (fun r_12 V_13 R_14 qV_13 => ?_)
              obtain ⟨rfl, ⟨p14, D14, eV_13, cV_13, kV_13, dV_13⟩, rfl, hBV_13⟩ := qV_13
              refine T_pz1 d_X4_readKind_68 (fun h68 => ?_) (fun h68 => ?_)
              · skip
                have e73 := eV_13
                have c73 := cV_13
                have k73 := kV_13
                have d73 := dV_13 h68
                refine T_al d_X4_readKind_73 rfl ?_
                refine T_ldcS (i := 2) ⟨d_X4_readKind_74, rfl, by decide, rfl⟩ ?_
                refine C_v1 d_X4_readKind_76 rfl (hdF (by decide)) (hcF _) (Sc_take (w := 2) hBV_13 hF e73 hn c73 (by decide)) (fun r_15 V_16 R_17 qV_16 => ?_)
                obtain ⟨rfl, ⟨p17, eV_16, cV_16⟩, rfl, hBV_16⟩ := qV_16
                refine T_pz0 d_X4_readKind_79 (fun h79 => ?_) (fun h79 => ?_)
                · skip
                  rw [if_neg h79] at eV_16 cV_16
                  have hb3 := fun z => h79 ((wdb_sg (c := 125) rfl (by decide +kernel) (by decide)).mpr z)
                  refine T_al d_X4_readKind_84 rfl ?_
                  refine T_ldcS (i := 14) ⟨d_X4_readKind_85, rfl, by decide, rfl⟩ ?_
                  refine C_v1 d_X4_readKind_87 rfl (hdF (by decide)) (hcF _) (Sc_take (w := 14) hBV_16 hF eV_16 hn cV_16 (by decide)) (fun r_18 V_19 R_20 qV_19 => ?_)
                  obtain ⟨rfl, ⟨p20, eV_19, cV_19⟩, rfl, hBV_19⟩ := qV_19
                  refine T_pz1 d_X4_readKind_90 (fun h90 => ?_) (fun h90 => ?_)
                  · skip
                    refine F_incg d_X4_readKind_95 rfl (f := fun x_21 => [(0, vr 16), (1, vr 29), (2, vi x_21)]) (fun _ => rfl) (fun x_21 ex_21 => ?_)
                    refine T_go d_X4_readKind_98 ?_
                    -- to 56 60f.68t.79t.90t@56
                    rw [if_pos h90] at eV_19 cV_19
                    have hb4 := (wdb_sg (c := 44) rfl (by decide +kernel) (by decide)).mp h90
                    obtain rfl : x_21 = ((i + 1) : Int) := by omega
                    exact ih56 V_19 (i + 1) _ _ _ _ _ (by omega) hBV_19 eV_19 cV_19 (fun k hk => (k73 k hk).trans (hk2 k hk)) d73 (by have := hle.2.2.1 h68; omega) (by rw [← hcl, show 401 - i = (400 - i) + 1 by omega, cls_s ⟨h68, hb4⟩]; congr 1; omega)
                  · skip
                    refine T_k d_X4_readKind_93 ?_
                    -- leaf 60f.68t.79t.90f@94
                    refine T_zret0 d_X4_readKind_94 rfl ?_
                    rw [if_neg h90] at eV_19 cV_19
                    rw [kd_k (by decide) hkw hb1, if_neg hb2, ← hcl, show 401 - i = (400 - i) + 1 by omega, cls_e (fun z => h90 ((wdb_sg (c := 44) rfl (by decide +kernel) (by decide)).mpr z.2))]
                    unfold kF
                    rw [if_neg (fun z => z h68), if_neg hb3]
                    exact QK_no eV_19 cV_19 (fun k hk => (k73 k hk).trans (hk2 k hk)) hBV_19
                · skip
                  refine T_k d_X4_readKind_82 ?_
                  -- leaf 60f.68t.79f@83
                  refine T_zret1 d_X4_readKind_83 rfl ?_
                  rw [if_pos h79] at eV_16 cV_16
                  have hb3 := (wdb_sg (c := 125) rfl (by decide +kernel) (by decide)).mp h79
                  rw [kd_k (by decide) hkw hb1, if_neg hb2, ← hcl, show 401 - i = (400 - i) + 1 by omega, cls_e (fun z => by have := z.2.2; omega)]
                  unfold kF
                  rw [if_neg (fun z => z h68), if_pos hb3]
                  exact QK_ok eV_16 cV_16 (fun k hk => (k73 k hk).trans (hk2 k hk)) d73 hBV_16
              · skip
                refine T_k d_X4_readKind_71 ?_
                -- leaf 60f.68f@72
                refine T_zret0 d_X4_readKind_72 rfl ?_
                have hf2 := hfl.resolve_left h68
                rw [kd_k (by decide) hkw hb1, if_neg hb2, ← hcl, show 401 - i = (400 - i) + 1 by omega, cls_e (fun z => h68 z.1)]
                unfold kF
                rw [if_pos h68]
                simp only [hf2]
                exact QK_no eV_13 cV_13 (fun k hk => (kV_13 k hk).trans (hk2 k hk)) hBV_13
        exact L56 _ V_10 (0) ((nxt (V0 17) n (nxt (V0 17) n f))) _ _ _ _ (Nat.lt_succ_self _) hBV_10 eV_10 cV_10 hD1 (hR1 _ _ _) (by omega) rfl
      · skip
        refine T_k d_X4_readKind_52 ?_
        -- leaf 29f.38t.49f@53
        refine T_zret1 d_X4_readKind_53 rfl ?_
        rw [if_pos h49] at eV_10 cV_10
        have hb2 := (wdb_sg (c := 125) rfl (by decide +kernel) (by decide)).mp h49
        rw [kd_k (by decide) hkw hb1, if_pos hb2, kF_y hb2]
        exact QK_ok eV_10 cV_10 hD1 (hR1 _ _ _) hBV_10
    · skip
      refine T_k d_X4_readKind_41 ?_
      -- leaf 29f.38f@42
      refine T_zret0 d_X4_readKind_42 rfl ?_
      rw [if_neg h38] at eV_7 cV_7
      rw [kd_b (by decide) hkw (fun z => h38 ((wdb_sg (c := 123) rfl (by decide +kernel) (by decide)).mpr z))]
      exact QK_no eV_7 cV_7 hD1 hBV_7
