/-! the class's kinds -/
abbrev ksO (n : Nat) (k : Nat × Int × Nat × (Nat → Int) × (Nat → Int)) : Prop := k.2.1 = -1 ∧ ¬ k.1 < n
def QN (R : RR) (V0 : VV) (n : Nat) (k : Nat × Int × Nat × (Nat → Int) × (Nat → Int)) : Option AV → VV → RR → Prop := fun r V' R' => r = some (vi (if ksO n k then (k.2.2.1 : Int) else -1)) ∧ (∃ q D', V' = csV V0 k.1 q D' ∧ cO (V0 17) n k.1 q ∧ (ksO n k → dKs k.2.2.1 k.2.2.2.1 k.2.2.2.2 D')) ∧ R = R' ∧ Bd V'
theorem QN_no {R : RR} {V0 V' : VV} {n q : Nat} {k : Nat × Int × Nat × (Nat → Int) × (Nat → Int)} {D' : Nat → Nat → Int} (h : ¬ ksO n k) (eV : V' = csV V0 k.1 q D') (hc : cO (V0 17) n k.1 q) (hB : Bd V') : QN R V0 n k (some (vi (-1))) V' R := ⟨by rw [if_neg h], ⟨q, D', eV, hc, fun z => absurd z h⟩, rfl, hB⟩
theorem QN_ok {R : RR} {V0 V' : VV} {n q : Nat} {x : Int} {k : Nat × Int × Nat × (Nat → Int) × (Nat → Int)} {D' : Nat → Nat → Int} (h : ksO n k) (hx : x = k.2.2.1) (eV : V' = csV V0 k.1 q D') (hc : cO (V0 17) n k.1 q) (hd : dKs k.2.2.1 k.2.2.2.1 k.2.2.2.2 D') (hB : Bd V') : QN R V0 n k (some (vi x)) V' R := ⟨by rw [if_pos h, hx], ⟨q, D', eV, hc, fun _ => hd⟩, rfl, hB⟩
theorem kds_e {t lo hi : Nat → Int} {n c f rd : Nat} (h : ¬ ((kdS t n f rd lo hi).2.1 = -1 ∧ (kdS t n f rd lo hi).1 < n ∧ t (kdS t n f rd lo hi).1 = 59)) : kdsF t n (c + 1) f rd lo hi = kdS t n f rd lo hi := by
  show (if _ then _ else _) = _
  rw [if_neg h]
theorem kds_c {t lo hi : Nat → Int} {n c f rd : Nat} (h : (kdS t n f rd lo hi).2.1 = -1 ∧ (kdS t n f rd lo hi).1 < n ∧ t (kdS t n f rd lo hi).1 = 59) : kdsF t n (c + 1) f rd lo hi = kdsF t n c (nxt t n (kdS t n f rd lo hi).1) (kdS t n f rd lo hi).2.2.1 (kdS t n f rd lo hi).2.2.2.1 (kdS t n f rd lo hi).2.2.2.2 := by
  show (if _ then _ else _) = _
  rw [if_pos h]
theorem kF_rd {t : Nat → Int} {n rd : Nat} {r : Nat × Int × (Nat → Int) × (Nat → Int)} (h : (kF t n rd r).2.1 = -1) : (kF t n rd r).2.2.1 = rd + 1 := by
  unfold kF at h ⊢
  by_cases h2 : ¬ r.2.1 = -1
  · rw [if_pos h2] at h
    exact absurd h h2
  · rw [if_neg h2] at h ⊢
    by_cases h3 : r.1 < n ∧ t r.1 = 125
    · rw [if_pos h3]
    · rw [if_neg h3] at h
      have h4 : ((r.1 : Nat) : Int) = -1 := h
      omega
theorem kdS_rd {t lo hi : Nat → Int} {n f rd : Nat} (h : (kdS t n f rd lo hi).2.1 = -1) : (kdS t n f rd lo hi).2.2.1 = rd + 1 := by
  by_cases hr : rd = 5 ∨ ¬ wdb 0 t f (tokE t n f) = true
  · unfold kdS at h
    rw [if_pos hr] at h
    have h4 : ((f : Nat) : Int) = -1 := h
    omega
  · have hr5 : ¬ rd = 5 := fun z => hr (Or.inl z)
    have hw : wdb 0 t f (tokE t n f) = true := Classical.byContradiction fun z => hr (Or.inr z)
    by_cases h1 : nxt t n f < n ∧ t (nxt t n f) = 123
    · rw [kd_k hr5 hw h1] at h ⊢
      exact kF_rd h
    · rw [kd_b hr5 hw h1] at h
      have h4 : ((nxt t n f : Nat) : Int) = -1 := h
      omega
theorem kdS_5 {t lo hi : Nat → Int} {n f : Nat} : kdS t n f 5 lo hi = (f, (f : Int), 5, lo, hi) := by
  unfold kdS
  rw [if_pos (Or.inl rfl)]
theorem dKs_s {rd a : Nat} {lo hi lo' hi' : Nat → Int} {D D' : Nat → Nat → Int} (ha : a = 25 + rd) (h : dKs rd lo hi D) (hk : ∀ k, k ≠ a → D' k = D k) (hd : dR rd lo' hi' (D' a)) (h1 : frm (10 * rd) lo' lo) (h2 : frm (10 * rd) hi' hi) : dKs (rd + 1) lo' hi' D' := by
  intro r hr
  rcases Nat.lt_or_ge r rd with q | q
  · rw [hk _ (by omega)]
    exact dR_fr (h r q) (by omega) h1 h2
  · rw [show r = rd by omega, ← ha]
    exact hd
set_option maxHeartbeats 1000000 in
set_option maxRecDepth 100000 in
theorem R_X4_readKinds {G : GG} {V : VV} {R : RR}  {V0 : VV} {n f p : Nat} {D : Nat → Nat → Int} {lo hi : Nat → Int} (hB : Bd V) (hF : FinR R) (eV : V = csV V0 f p D) (hn : V0 16 1 = n) (hc : cO (V0 17) n f p) (hn4 : n ≤ 400) : Runs G M_X4_readKinds 8 162 162 [vr 16] V R (QN R V0 n (kdsF (V0 17) n 401 f 0 lo hi)) := by
  refine Runs.of pn_X4 (Nat.le_of_ble_eq_true rfl) rfl ?_
  show TT G M_X4_readKinds (rmd 8 162 162) 162 (Zm G 162 162 (QN R V0 n (kdsF (V0 17) n 401 f 0 lo hi))) 162 0 [(0, vr 16)] [] V R
  refine T_k d_X4_readKinds_0 ?_
  refine T_is d_X4_readKinds_1 (ls' := [(0, vr 16), (1, vi 0)]) rfl ?_
  -- to 2 @2
  have L2 : ∀ (fu : Nat) (W : VV) (i g q : Nat) (D2 : Nat → Nat → Int) (lo2 hi2 : Nat → Int), 5 - i < fu → (Bd W) → (W = csV V0 g q D2) → (cO (V0 17) n g q) → (dKs i lo2 hi2 D2) → (i ≤ 5) → (kdsF (V0 17) n (401 - i) g i lo2 hi2 = (kdsF (V0 17) n 401 f 0 lo hi)) → TT G M_X4_readKinds (rmd 8 162 162) 162 (Zm G 162 162 (QN R V0 n (kdsF (V0 17) n 401 f 0 lo hi))) 162 2 [(0, vr 16), (1, vi (i : Int))] [] W R := by
    intro fu
    induction fu with
    | zero => intro W i g q D2 lo2 hi2 hm; exact absurd hm (Nat.not_lt_zero _)
    | succ fu ih2 =>
      intro W i g q D2 lo2 hi2 hm2 hBW eW cW hd2 hi5 hks
      refine T_il d_X4_readKinds_2 rfl ?_
      refine T_k d_X4_readKinds_3 ?_
      refine T_ige d_X4_readKinds_4 ⟨by omega, by omega⟩ ⟨by omega, by omega⟩ (fun h4 => ?_) (fun h4 => ?_)
      · skip
        refine T_k d_X4_readKinds_54 ?_
        -- leaf 4t@55
        refine T_iret d_X4_readKinds_55 rfl ?_
        have hi6 : i = 5 := by omega
        subst hi6
        rw [← hks, show (401 - 5 : Nat) = 395 + 1 from rfl, kds_e (by rw [kdS_5]; intro z; have z1 : ((g : Nat) : Int) = -1 := z.1; omega), kdS_5]
        exact QN_no (fun z => by have z1 : ((g : Nat) : Int) = -1 := z.1; omega) eW cW hBW
      · skip
        rcases (show i = 0 ∨ i = 1 ∨ i = 2 ∨ i = 3 ∨ i = 4 by omega) with rfl | rfl | rfl | rfl | rfl
        · skip
          have hrd := fun h => kdS_rd (t := V0 17) (n := n) (f := g) (rd := 0) (lo := lo2) (hi := hi2) h
          have hfr := kdS_fr (t := V0 17) (n := n) (f := g) (rd := 0) (lo := lo2) (hi := hi2)
          refine T_al d_X4_readKinds_7 rfl ?_
          refine T_al d_X4_readKinds_8 rfl ?_
          refine F_gr (b := 24) d_X4_readKinds_9 rfl hF rfl ?_
          refine T_il d_X4_readKinds_12 rfl ?_
          refine F_aa2 d_X4_readKinds_13 rfl ⟨by omega, by omega⟩ ?_
          rw [show R 24 (((0 : Nat) : Int)).toNat = some 25 from hF 24 0 25 rfl]
          refine C_v1 d_X4_readKinds_14 rfl (hdF (by decide)) (hcF _) (R_X4_readKind_25 (lo := lo2) (hi := hi2) hBW hF eW hn cW hn4) (fun r_1 V_2 R_3 qV_2 => ?_)
          obtain ⟨rfl, ⟨p3, D3, eV_2, cV_2, kV_2, dV_2⟩, rfl, hBV_2⟩ := qV_2
          refine T_pz1 d_X4_readKinds_17 (fun h17 => ?_) (fun h17 => ?_)
          · skip
            have e22 := eV_2
            have c22 := cV_2
            have k22 := kV_2
            have d22 := dV_2 h17
            have hv6 : V_2 16 6 = ((kdS (V0 17) n g 0 lo2 hi2).1 : Int) := by rw [eV_2]; rfl
            have hv1 : V_2 16 1 = n := by rw [eV_2]; exact hn
            refine T_al d_X4_readKinds_22 rfl ?_
            refine F_gi d_X4_readKinds_23 rfl hBV_2 rfl (fun b_4 => ?_)
            refine T_al d_X4_readKinds_26 rfl ?_
            refine F_gi d_X4_readKinds_27 rfl hBV_2 rfl (fun b_5 => ?_)
            refine T_ilt d_X4_readKinds_30 ⟨by omega, by omega⟩ ⟨by omega, by omega⟩ (fun h30 => ?_) (fun h30 => ?_)
            · skip
              refine T_al d_X4_readKinds_37 rfl ?_
              refine T_ldcS (i := 15) ⟨d_X4_readKinds_38, rfl, by decide, rfl⟩ ?_
              refine C_v1 d_X4_readKinds_40 rfl (hdF (by decide)) (hcF _) (Sc_take (w := 15) hBV_2 hF e22 hn c22 (by decide)) (fun r_6 V_7 R_8 qV_7 => ?_)
              obtain ⟨rfl, ⟨p8, eV_7, cV_7⟩, rfl, hBV_7⟩ := qV_7
              refine T_pz1 d_X4_readKinds_43 (fun h43 => ?_) (fun h43 => ?_)
              · skip
                refine F_incg d_X4_readKinds_48 rfl (f := fun x_9 => [(0, vr 16), (1, vi x_9)]) (fun _ => rfl) (fun x_9 ex_9 => ?_)
                refine T_go d_X4_readKinds_51 ?_
                -- to 2 4f.7k0.17t.30t.43t@2
                rw [if_pos h43] at eV_7 cV_7
                have hb4 := (wdb_sg (c := 59) rfl (by decide +kernel) (by decide)).mp h43
                obtain rfl : x_9 = (1 : Int) := by omega
                exact ih2 V_7 (1) _ _ _ _ _ (by omega) hBV_7 eV_7 cV_7 (dKs_s rfl hd2 k22 d22 hfr.1 hfr.2) (by omega) (by rw [← hks, show (401 - 0 : Nat) = 400 + 1 from rfl, kds_c ⟨h17, hb4⟩, hrd h17])
              · skip
                refine T_k d_X4_readKinds_46 ?_
                -- leaf 4f.7k0.17t.30t.43f@47
                refine T_iret d_X4_readKinds_47 rfl ?_
                rw [if_neg h43] at eV_7 cV_7
                rw [← hks, show (401 - 0 : Nat) = 400 + 1 from rfl, kds_e (fun z => h43 ((wdb_sg (c := 59) rfl (by decide +kernel) (by decide)).mpr z.2))]
                exact QN_no (fun z => z.2 (by omega)) eV_7 cV_7 hBV_7
            · skip
              refine T_il d_X4_readKinds_33 rfl ?_
              refine T_k d_X4_readKinds_34 ?_
              refine T_iadd d_X4_readKinds_35 ?_
              -- leaf 4f.7k0.17t.30f@36
              refine T_iret d_X4_readKinds_36 rfl ?_
              rw [← hks, show (401 - 0 : Nat) = 400 + 1 from rfl, kds_e (fun z => by have := z.2.1; omega)]
              exact QN_ok ⟨h17, by omega⟩ (by rw [hrd h17]; rfl) e22 c22 (by rw [hrd h17]; exact dKs_s rfl hd2 k22 d22 hfr.1 hfr.2) hBV_2
          · skip
            refine T_k d_X4_readKinds_20 ?_
            -- leaf 4f.7k0.17f@21
            refine T_iret d_X4_readKinds_21 rfl ?_
            rw [← hks, show (401 - 0 : Nat) = 400 + 1 from rfl, kds_e (fun z => h17 z.1)]
            exact QN_no (fun z => h17 z.1) eV_2 cV_2 hBV_2
        · skip
          have hrd := fun h => kdS_rd (t := V0 17) (n := n) (f := g) (rd := 1) (lo := lo2) (hi := hi2) h
          have hfr := kdS_fr (t := V0 17) (n := n) (f := g) (rd := 1) (lo := lo2) (hi := hi2)
          refine T_al d_X4_readKinds_7 rfl ?_
          refine T_al d_X4_readKinds_8 rfl ?_
          refine F_gr (b := 24) d_X4_readKinds_9 rfl hF rfl ?_
          refine T_il d_X4_readKinds_12 rfl ?_
          refine F_aa2 d_X4_readKinds_13 rfl ⟨by omega, by omega⟩ ?_
          rw [show R 24 (((1 : Nat) : Int)).toNat = some 26 from hF 24 1 26 rfl]
          refine C_v1 d_X4_readKinds_14 rfl (hdF (by decide)) (hcF _) (R_X4_readKind_26 (lo := lo2) (hi := hi2) hBW hF eW hn cW hn4) (fun r_10 V_11 R_12 qV_11 => ?_)
          obtain ⟨rfl, ⟨p12, D12, eV_11, cV_11, kV_11, dV_11⟩, rfl, hBV_11⟩ := qV_11
          refine T_pz1 d_X4_readKinds_17 (fun h17 => ?_) (fun h17 => ?_)
          · skip
            have e22 := eV_11
            have c22 := cV_11
            have k22 := kV_11
            have d22 := dV_11 h17
            have hv6 : V_11 16 6 = ((kdS (V0 17) n g 1 lo2 hi2).1 : Int) := by rw [eV_11]; rfl
            have hv1 : V_11 16 1 = n := by rw [eV_11]; exact hn
            refine T_al d_X4_readKinds_22 rfl ?_
            refine F_gi d_X4_readKinds_23 rfl hBV_11 rfl (fun b_13 => ?_)
            refine T_al d_X4_readKinds_26 rfl ?_
            refine F_gi d_X4_readKinds_27 rfl hBV_11 rfl (fun b_14 => ?_)
            refine T_ilt d_X4_readKinds_30 ⟨by omega, by omega⟩ ⟨by omega, by omega⟩ (fun h30 => ?_) (fun h30 => ?_)
            · skip
              refine T_al d_X4_readKinds_37 rfl ?_
              refine T_ldcS (i := 15) ⟨d_X4_readKinds_38, rfl, by decide, rfl⟩ ?_
              refine C_v1 d_X4_readKinds_40 rfl (hdF (by decide)) (hcF _) (Sc_take (w := 15) hBV_11 hF e22 hn c22 (by decide)) (fun r_15 V_16 R_17 qV_16 => ?_)
              obtain ⟨rfl, ⟨p17, eV_16, cV_16⟩, rfl, hBV_16⟩ := qV_16
              refine T_pz1 d_X4_readKinds_43 (fun h43 => ?_) (fun h43 => ?_)
              · skip
                refine F_incg d_X4_readKinds_48 rfl (f := fun x_18 => [(0, vr 16), (1, vi x_18)]) (fun _ => rfl) (fun x_18 ex_18 => ?_)
                refine T_go d_X4_readKinds_51 ?_
                -- to 2 4f.7k1.17t.30t.43t@2
                rw [if_pos h43] at eV_16 cV_16
                have hb4 := (wdb_sg (c := 59) rfl (by decide +kernel) (by decide)).mp h43
                obtain rfl : x_18 = (2 : Int) := by omega
                exact ih2 V_16 (2) _ _ _ _ _ (by omega) hBV_16 eV_16 cV_16 (dKs_s rfl hd2 k22 d22 hfr.1 hfr.2) (by omega) (by rw [← hks, show (401 - 1 : Nat) = 399 + 1 from rfl, kds_c ⟨h17, hb4⟩, hrd h17])
              · skip
                refine T_k d_X4_readKinds_46 ?_
                -- leaf 4f.7k1.17t.30t.43f@47
                refine T_iret d_X4_readKinds_47 rfl ?_
                rw [if_neg h43] at eV_16 cV_16
                rw [← hks, show (401 - 1 : Nat) = 399 + 1 from rfl, kds_e (fun z => h43 ((wdb_sg (c := 59) rfl (by decide +kernel) (by decide)).mpr z.2))]
                exact QN_no (fun z => z.2 (by omega)) eV_16 cV_16 hBV_16
            · skip
              refine T_il d_X4_readKinds_33 rfl ?_
              refine T_k d_X4_readKinds_34 ?_
              refine T_iadd d_X4_readKinds_35 ?_
              -- leaf 4f.7k1.17t.30f@36
              refine T_iret d_X4_readKinds_36 rfl ?_
              rw [← hks, show (401 - 1 : Nat) = 399 + 1 from rfl, kds_e (fun z => by have := z.2.1; omega)]
              exact QN_ok ⟨h17, by omega⟩ (by rw [hrd h17]; rfl) e22 c22 (by rw [hrd h17]; exact dKs_s rfl hd2 k22 d22 hfr.1 hfr.2) hBV_11
          · skip
            refine T_k d_X4_readKinds_20 ?_
            -- leaf 4f.7k1.17f@21
            refine T_iret d_X4_readKinds_21 rfl ?_
            rw [← hks, show (401 - 1 : Nat) = 399 + 1 from rfl, kds_e (fun z => h17 z.1)]
            exact QN_no (fun z => h17 z.1) eV_11 cV_11 hBV_11
        · skip
          have hrd := fun h => kdS_rd (t := V0 17) (n := n) (f := g) (rd := 2) (lo := lo2) (hi := hi2) h
          have hfr := kdS_fr (t := V0 17) (n := n) (f := g) (rd := 2) (lo := lo2) (hi := hi2)
          refine T_al d_X4_readKinds_7 rfl ?_
          refine T_al d_X4_readKinds_8 rfl ?_
          refine F_gr (b := 24) d_X4_readKinds_9 rfl hF rfl ?_
          refine T_il d_X4_readKinds_12 rfl ?_
          refine F_aa2 d_X4_readKinds_13 rfl ⟨by omega, by omega⟩ ?_
          rw [show R 24 (((2 : Nat) : Int)).toNat = some 27 from hF 24 2 27 rfl]
          refine C_v1 d_X4_readKinds_14 rfl (hdF (by decide)) (hcF _) (R_X4_readKind_27 (lo := lo2) (hi := hi2) hBW hF eW hn cW hn4) (fun r_19 V_20 R_21 qV_20 => ?_)
          obtain ⟨rfl, ⟨p21, D21, eV_20, cV_20, kV_20, dV_20⟩, rfl, hBV_20⟩ := qV_20
          refine T_pz1 d_X4_readKinds_17 (fun h17 => ?_) (fun h17 => ?_)
          · skip
            have e22 := eV_20
            have c22 := cV_20
            have k22 := kV_20
            have d22 := dV_20 h17
            have hv6 : V_20 16 6 = ((kdS (V0 17) n g 2 lo2 hi2).1 : Int) := by rw [eV_20]; rfl
            have hv1 : V_20 16 1 = n := by rw [eV_20]; exact hn
            refine T_al d_X4_readKinds_22 rfl ?_
            refine F_gi d_X4_readKinds_23 rfl hBV_20 rfl (fun b_22 => ?_)
            refine T_al d_X4_readKinds_26 rfl ?_
            refine F_gi d_X4_readKinds_27 rfl hBV_20 rfl (fun b_23 => ?_)
            refine T_ilt d_X4_readKinds_30 ⟨by omega, by omega⟩ ⟨by omega, by omega⟩ (fun h30 => ?_) (fun h30 => ?_)
            · skip
              refine T_al d_X4_readKinds_37 rfl ?_
              refine T_ldcS (i := 15) ⟨d_X4_readKinds_38, rfl, by decide, rfl⟩ ?_
              refine C_v1 d_X4_readKinds_40 rfl (hdF (by decide)) (hcF _) (Sc_take (w := 15) hBV_20 hF e22 hn c22 (by decide)) (fun r_24 V_25 R_26 qV_25 => ?_)
              obtain ⟨rfl, ⟨p26, eV_25, cV_25⟩, rfl, hBV_25⟩ := qV_25
              refine T_pz1 d_X4_readKinds_43 (fun h43 => ?_) (fun h43 => ?_)
              · skip
                refine F_incg d_X4_readKinds_48 rfl (f := fun x_27 => [(0, vr 16), (1, vi x_27)]) (fun _ => rfl) (fun x_27 ex_27 => ?_)
                refine T_go d_X4_readKinds_51 ?_
                -- to 2 4f.7k2.17t.30t.43t@2
                rw [if_pos h43] at eV_25 cV_25
                have hb4 := (wdb_sg (c := 59) rfl (by decide +kernel) (by decide)).mp h43
                obtain rfl : x_27 = (3 : Int) := by omega
                exact ih2 V_25 (3) _ _ _ _ _ (by omega) hBV_25 eV_25 cV_25 (dKs_s rfl hd2 k22 d22 hfr.1 hfr.2) (by omega) (by rw [← hks, show (401 - 2 : Nat) = 398 + 1 from rfl, kds_c ⟨h17, hb4⟩, hrd h17])
              · skip
                refine T_k d_X4_readKinds_46 ?_
                -- leaf 4f.7k2.17t.30t.43f@47
                refine T_iret d_X4_readKinds_47 rfl ?_
                rw [if_neg h43] at eV_25 cV_25
                rw [← hks, show (401 - 2 : Nat) = 398 + 1 from rfl, kds_e (fun z => h43 ((wdb_sg (c := 59) rfl (by decide +kernel) (by decide)).mpr z.2))]
                exact QN_no (fun z => z.2 (by omega)) eV_25 cV_25 hBV_25
            · skip
              refine T_il d_X4_readKinds_33 rfl ?_
              refine T_k d_X4_readKinds_34 ?_
              refine T_iadd d_X4_readKinds_35 ?_
              -- leaf 4f.7k2.17t.30f@36
              refine T_iret d_X4_readKinds_36 rfl ?_
              rw [← hks, show (401 - 2 : Nat) = 398 + 1 from rfl, kds_e (fun z => by have := z.2.1; omega)]
              exact QN_ok ⟨h17, by omega⟩ (by rw [hrd h17]; rfl) e22 c22 (by rw [hrd h17]; exact dKs_s rfl hd2 k22 d22 hfr.1 hfr.2) hBV_20
          · skip
            refine T_k d_X4_readKinds_20 ?_
            -- leaf 4f.7k2.17f@21
            refine T_iret d_X4_readKinds_21 rfl ?_
            rw [← hks, show (401 - 2 : Nat) = 398 + 1 from rfl, kds_e (fun z => h17 z.1)]
            exact QN_no (fun z => h17 z.1) eV_20 cV_20 hBV_20
        · skip
          have hrd := fun h => kdS_rd (t := V0 17) (n := n) (f := g) (rd := 3) (lo := lo2) (hi := hi2) h
          have hfr := kdS_fr (t := V0 17) (n := n) (f := g) (rd := 3) (lo := lo2) (hi := hi2)
          refine T_al d_X4_readKinds_7 rfl ?_
          refine T_al d_X4_readKinds_8 rfl ?_
          refine F_gr (b := 24) d_X4_readKinds_9 rfl hF rfl ?_
          refine T_il d_X4_readKinds_12 rfl ?_
          refine F_aa2 d_X4_readKinds_13 rfl ⟨by omega, by omega⟩ ?_
          rw [show R 24 (((3 : Nat) : Int)).toNat = some 28 from hF 24 3 28 rfl]
          refine C_v1 d_X4_readKinds_14 rfl (hdF (by decide)) (hcF _) (R_X4_readKind_28 (lo := lo2) (hi := hi2) hBW hF eW hn cW hn4) (fun r_28 V_29 R_30 qV_29 => ?_)
          obtain ⟨rfl, ⟨p30, D30, eV_29, cV_29, kV_29, dV_29⟩, rfl, hBV_29⟩ := qV_29
          refine T_pz1 d_X4_readKinds_17 (fun h17 => ?_) (fun h17 => ?_)
          · skip
            have e22 := eV_29
            have c22 := cV_29
            have k22 := kV_29
            have d22 := dV_29 h17
            have hv6 : V_29 16 6 = ((kdS (V0 17) n g 3 lo2 hi2).1 : Int) := by rw [eV_29]; rfl
            have hv1 : V_29 16 1 = n := by rw [eV_29]; exact hn
            refine T_al d_X4_readKinds_22 rfl ?_
            refine F_gi d_X4_readKinds_23 rfl hBV_29 rfl (fun b_31 => ?_)
            refine T_al d_X4_readKinds_26 rfl ?_
            refine F_gi d_X4_readKinds_27 rfl hBV_29 rfl (fun b_32 => ?_)
            refine T_ilt d_X4_readKinds_30 ⟨by omega, by omega⟩ ⟨by omega, by omega⟩ (fun h30 => ?_) (fun h30 => ?_)
            · skip
              refine T_al d_X4_readKinds_37 rfl ?_
              refine T_ldcS (i := 15) ⟨d_X4_readKinds_38, rfl, by decide, rfl⟩ ?_
              refine C_v1 d_X4_readKinds_40 rfl (hdF (by decide)) (hcF _) (Sc_take (w := 15) hBV_29 hF e22 hn c22 (by decide)) (fun r_33 V_34 R_35 qV_34 => ?_)
              obtain ⟨rfl, ⟨p35, eV_34, cV_34⟩, rfl, hBV_34⟩ := qV_34
              refine T_pz1 d_X4_readKinds_43 (fun h43 => ?_) (fun h43 => ?_)
              · skip
                refine F_incg d_X4_readKinds_48 rfl (f := fun x_36 => [(0, vr 16), (1, vi x_36)]) (fun _ => rfl) (fun x_36 ex_36 => ?_)
                refine T_go d_X4_readKinds_51 ?_
                -- to 2 4f.7k3.17t.30t.43t@2
                rw [if_pos h43] at eV_34 cV_34
                have hb4 := (wdb_sg (c := 59) rfl (by decide +kernel) (by decide)).mp h43
                obtain rfl : x_36 = (4 : Int) := by omega
                exact ih2 V_34 (4) _ _ _ _ _ (by omega) hBV_34 eV_34 cV_34 (dKs_s rfl hd2 k22 d22 hfr.1 hfr.2) (by omega) (by rw [← hks, show (401 - 3 : Nat) = 397 + 1 from rfl, kds_c ⟨h17, hb4⟩, hrd h17])
              · skip
                refine T_k d_X4_readKinds_46 ?_
                -- leaf 4f.7k3.17t.30t.43f@47
                refine T_iret d_X4_readKinds_47 rfl ?_
                rw [if_neg h43] at eV_34 cV_34
                rw [← hks, show (401 - 3 : Nat) = 397 + 1 from rfl, kds_e (fun z => h43 ((wdb_sg (c := 59) rfl (by decide +kernel) (by decide)).mpr z.2))]
                exact QN_no (fun z => z.2 (by omega)) eV_34 cV_34 hBV_34
            · skip
              refine T_il d_X4_readKinds_33 rfl ?_
              refine T_k d_X4_readKinds_34 ?_
              refine T_iadd d_X4_readKinds_35 ?_
              -- leaf 4f.7k3.17t.30f@36
              refine T_iret d_X4_readKinds_36 rfl ?_
              rw [← hks, show (401 - 3 : Nat) = 397 + 1 from rfl, kds_e (fun z => by have := z.2.1; omega)]
              exact QN_ok ⟨h17, by omega⟩ (by rw [hrd h17]; rfl) e22 c22 (by rw [hrd h17]; exact dKs_s rfl hd2 k22 d22 hfr.1 hfr.2) hBV_29
          · skip
            refine T_k d_X4_readKinds_20 ?_
            -- leaf 4f.7k3.17f@21
            refine T_iret d_X4_readKinds_21 rfl ?_
            rw [← hks, show (401 - 3 : Nat) = 397 + 1 from rfl, kds_e (fun z => h17 z.1)]
            exact QN_no (fun z => h17 z.1) eV_29 cV_29 hBV_29
        · skip
          have hrd := fun h => kdS_rd (t := V0 17) (n := n) (f := g) (rd := 4) (lo := lo2) (hi := hi2) h
          have hfr := kdS_fr (t := V0 17) (n := n) (f := g) (rd := 4) (lo := lo2) (hi := hi2)
          refine T_al d_X4_readKinds_7 rfl ?_
          refine T_al d_X4_readKinds_8 rfl ?_
          refine F_gr (b := 24) d_X4_readKinds_9 rfl hF rfl ?_
          refine T_il d_X4_readKinds_12 rfl ?_
          refine F_aa2 d_X4_readKinds_13 rfl ⟨by omega, by omega⟩ ?_
          rw [show R 24 (((4 : Nat) : Int)).toNat = some 29 from hF 24 4 29 rfl]
          refine C_v1 d_X4_readKinds_14 rfl (hdF (by decide)) (hcF _) (R_X4_readKind_29 (lo := lo2) (hi := hi2) hBW hF eW hn cW hn4) (fun r_37 V_38 R_39 qV_38 => ?_)
          obtain ⟨rfl, ⟨p39, D39, eV_38, cV_38, kV_38, dV_38⟩, rfl, hBV_38⟩ := qV_38
          refine T_pz1 d_X4_readKinds_17 (fun h17 => ?_) (fun h17 => ?_)
          · skip
            have e22 := eV_38
            have c22 := cV_38
            have k22 := kV_38
            have d22 := dV_38 h17
            have hv6 : V_38 16 6 = ((kdS (V0 17) n g 4 lo2 hi2).1 : Int) := by rw [eV_38]; rfl
            have hv1 : V_38 16 1 = n := by rw [eV_38]; exact hn
            refine T_al d_X4_readKinds_22 rfl ?_
            refine F_gi d_X4_readKinds_23 rfl hBV_38 rfl (fun b_40 => ?_)
            refine T_al d_X4_readKinds_26 rfl ?_
            refine F_gi d_X4_readKinds_27 rfl hBV_38 rfl (fun b_41 => ?_)
            refine T_ilt d_X4_readKinds_30 ⟨by omega, by omega⟩ ⟨by omega, by omega⟩ (fun h30 => ?_) (fun h30 => ?_)
            · skip
              refine T_al d_X4_readKinds_37 rfl ?_
              refine T_ldcS (i := 15) ⟨d_X4_readKinds_38, rfl, by decide, rfl⟩ ?_
              refine C_v1 d_X4_readKinds_40 rfl (hdF (by decide)) (hcF _) (Sc_take (w := 15) hBV_38 hF e22 hn c22 (by decide)) (fun r_42 V_43 R_44 qV_43 => ?_)
              obtain ⟨rfl, ⟨p44, eV_43, cV_43⟩, rfl, hBV_43⟩ := qV_43
              refine T_pz1 d_X4_readKinds_43 (fun h43 => ?_) (fun h43 => ?_)
              · skip
                refine F_incg d_X4_readKinds_48 rfl (f := fun x_45 => [(0, vr 16), (1, vi x_45)]) (fun _ => rfl) (fun x_45 ex_45 => ?_)
                refine T_go d_X4_readKinds_51 ?_
                -- to 2 4f.7k4.17t.30t.43t@2
                rw [if_pos h43] at eV_43 cV_43
                have hb4 := (wdb_sg (c := 59) rfl (by decide +kernel) (by decide)).mp h43
                obtain rfl : x_45 = (5 : Int) := by omega
                exact ih2 V_43 (5) _ _ _ _ _ (by omega) hBV_43 eV_43 cV_43 (dKs_s rfl hd2 k22 d22 hfr.1 hfr.2) (by omega) (by rw [← hks, show (401 - 4 : Nat) = 396 + 1 from rfl, kds_c ⟨h17, hb4⟩, hrd h17])
              · skip
                refine T_k d_X4_readKinds_46 ?_
                -- leaf 4f.7k4.17t.30t.43f@47
                refine T_iret d_X4_readKinds_47 rfl ?_
                rw [if_neg h43] at eV_43 cV_43
                rw [← hks, show (401 - 4 : Nat) = 396 + 1 from rfl, kds_e (fun z => h43 ((wdb_sg (c := 59) rfl (by decide +kernel) (by decide)).mpr z.2))]
                exact QN_no (fun z => z.2 (by omega)) eV_43 cV_43 hBV_43
            · skip
              refine T_il d_X4_readKinds_33 rfl ?_
              refine T_k d_X4_readKinds_34 ?_
              refine T_iadd d_X4_readKinds_35 ?_
              -- leaf 4f.7k4.17t.30f@36
              refine T_iret d_X4_readKinds_36 rfl ?_
              rw [← hks, show (401 - 4 : Nat) = 396 + 1 from rfl, kds_e (fun z => by have := z.2.1; omega)]
              exact QN_ok ⟨h17, by omega⟩ (by rw [hrd h17]; rfl) e22 c22 (by rw [hrd h17]; exact dKs_s rfl hd2 k22 d22 hfr.1 hfr.2) hBV_38
          · skip
            refine T_k d_X4_readKinds_20 ?_
            -- leaf 4f.7k4.17f@21
            refine T_iret d_X4_readKinds_21 rfl ?_
            rw [← hks, show (401 - 4 : Nat) = 396 + 1 from rfl, kds_e (fun z => h17 z.1)]
            exact QN_no (fun z => h17 z.1) eV_38 cV_38 hBV_38
  exact L2 _ V (0) (f) (p) (D) (lo) (hi) (Nat.lt_succ_self _) hB eV hc (fun r hr => absurd hr (Nat.not_lt_zero _)) (by first | assumption | omega) rfl
