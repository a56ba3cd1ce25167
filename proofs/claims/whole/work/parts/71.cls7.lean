set_option maxHeartbeats 1000000 in
set_option maxRecDepth 100000 in
theorem R_X4_read {G : GG} {V : VV} {R : RR}  {n : Nat} {lo hi : Nat → Int} (hB : Bd V) (hF : FinR R) (hn : V 16 1 = n) (hn4 : n ≤ 400) : Runs G M_X4_read 9 162 162 [vr 16] V R (rdQ V R n lo hi) := by
  refine Runs.of pn_X4 (Nat.le_of_ble_eq_true rfl) rfl ?_
  show TT G M_X4_read (rmd 9 162 162) 162 (Zm G 162 162 (rdQ V R n lo hi)) 162 0 [(0, vr 16)] [] V R
  have hv6 : V 16 6 = ((V 16 6).toNat : Int) := by have := hB.2 16 4 6 0 400 rfl rfl; omega
  have L51 : ∀ (W : VV) (c : Int) (f q : Nat) (fl : Int) (D : Nat → Nat → Int), (Bd W) → (W = uV (uV (csV V f q D) 16 5 fl) 16 1 0) → (-1 ≤ c ∧ c ≤ 5) → (c = -1 → fl = (f : Int) ∧ kinF (V 17) n lo hi = f) → (¬ c = -1 → fl = -1 ∧ kinF (V 17) n lo hi = -1 ∧ ((kinR (V 17) n lo hi).2.2.1 : Int) = c ∧ dKs (kinR (V 17) n lo hi).2.2.1 (kinR (V 17) n lo hi).2.2.2.1 (kinR (V 17) n lo hi).2.2.2.2 D) → TT G M_X4_read (rmd 9 162 162) 162 (Zm G 162 162 (rdQ V R n lo hi)) 162 51 [(0, vr 16), (1, vi c)] [] W R := by
    intro W c f q fl D hBW eW hc1 hcn hcp
    refine T_il d_X4_read_51 rfl ?_
    refine T_k d_X4_read_52 ?_
    refine T_ine d_X4_read_53 ⟨by omega, by omega⟩ ⟨by omega, by omega⟩ (fun h53 => ?_) (fun h53 => ?_)
    · skip
      refine T_k d_X4_read_58 ?_
      refine T_is d_X4_read_59 (ls' := [(0, vr 16), (1, vi c), (2, vi 0)]) rfl ?_
      -- to 60 53t@60
      have L60 : ∀ (fu : Nat) (X : VV) (i : Nat), 5 - i < fu → (Bd X) → (tl W i X) → ((i : Int) ≤ c ∧ i ≤ 5) → TT G M_X4_read (rmd 9 162 162) 162 (Zm G 162 162 (rdQ V R n lo hi)) 162 60 [(0, vr 16), (1, vi c), (2, vi (i : Int))] [] X R := by
        intro fu
        induction fu with
        | zero => intro X i hm; exact absurd hm (Nat.not_lt_zero _)
        | succ fu ih60 =>
          intro X i hm60 hBX hX hi5
          refine T_il d_X4_read_60 rfl ?_
          refine T_il d_X4_read_61 rfl ?_
          refine T_ige d_X4_read_62 ⟨by omega, by omega⟩ ⟨by omega, by omega⟩ (fun h62 => ?_) (fun h62 => ?_)
          · skip
            refine T_al d_X4_read_95 rfl ?_
            refine T_il d_X4_read_96 rfl ?_
            refine F_pi d_X4_read_97 rfl hBX rfl ⟨by omega, by omega⟩ (fun V_1 eV_1 hBV_1 => ?_)
            refine T_k d_X4_read_100 ?_
            -- leaf 62t@101
            refine T_zret1 d_X4_read_101 rfl ?_
            obtain ⟨hfl, hk, hkc, hd⟩ := hcp h53
            have hic : i = (kinR (V 17) n lo hi).2.2.1 := by omega
            exact rd_T eW hfl hk rfl hd (hic ▸ hX) (by omega) (by rw [eV_1, hkc]) hBV_1
          · skip
            refine T_il d_X4_read_65 rfl ?_
            refine T_k d_X4_read_66 ?_
            refine T_ige d_X4_read_67 ⟨by omega, by omega⟩ ⟨by omega, by omega⟩ (fun h67 => ?_) (fun h67 => ?_)
            · skip
              refine T_al d_X4_read_95 rfl ?_
              refine T_il d_X4_read_96 rfl ?_
              refine F_pi d_X4_read_97 rfl hBX rfl ⟨by omega, by omega⟩ (fun V_2 eV_2 hBV_2 => ?_)
              refine T_k d_X4_read_100 ?_
              -- leaf 62f.67t@101
              refine T_zret1 d_X4_read_101 rfl ?_
              obtain ⟨hfl, hk, hkc, hd⟩ := hcp h53
              have hic : i = (kinR (V 17) n lo hi).2.2.1 := by omega
              exact rd_T eW hfl hk rfl hd (hic ▸ hX) (by omega) (by rw [eV_2, hkc]) hBV_2
            · skip
              rcases (show i = 0 ∨ i = 1 ∨ i = 2 ∨ i = 3 ∨ i = 4 by omega) with rfl | rfl | rfl | rfl | rfl
              · skip
                refine T_al d_X4_read_70 rfl ?_
                refine F_gr (b := 24) d_X4_read_71 rfl hF rfl ?_
                refine T_il d_X4_read_74 rfl ?_
                refine F_aa2 d_X4_read_75 rfl ⟨by omega, by omega⟩ ?_
                rw [show R 24 (((0 : Nat) : Int)).toNat = some 25 from hF 24 0 25 rfl]
                refine T_k d_X4_read_76 ?_
                refine T_al d_X4_read_77 rfl ?_
                refine F_gr (b := 18) d_X4_read_78 rfl hF rfl ?_
                refine T_il d_X4_read_81 rfl ?_
                refine F_aa2 d_X4_read_82 rfl ⟨by omega, by omega⟩ ?_
                rw [show R 18 (((0 : Nat) : Int)).toNat = some 19 from hF 18 0 19 rfl]
                refine T_k d_X4_read_83 ?_
                refine T_k d_X4_read_84 ?_
                refine F_acc dAC_r86 rfl rfl rfl hBX rfl ⟨by decide, by decide⟩ ⟨by decide, by decide⟩ (by decide) ⟨by decide, by decide⟩ (fun V_3 eV_3 hBV_3 => ?_)
                refine F_incg d_X4_read_89 rfl (f := fun x_4 => [(0, vr 16), (1, vi c), (2, vi x_4)]) (fun _ => rfl) (fun x_4 ex_4 => ?_)
                refine T_go d_X4_read_92 ?_
                -- to 60 62f.67f.70k0@60
                obtain rfl : x_4 = (1 : Int) := by omega
                exact ih60 V_3 (1) (by omega) hBV_3 (tl_s rfl rfl (by omega) hX eV_3) (by omega)
              · skip
                refine T_al d_X4_read_70 rfl ?_
                refine F_gr (b := 24) d_X4_read_71 rfl hF rfl ?_
                refine T_il d_X4_read_74 rfl ?_
                refine F_aa2 d_X4_read_75 rfl ⟨by omega, by omega⟩ ?_
                rw [show R 24 (((1 : Nat) : Int)).toNat = some 26 from hF 24 1 26 rfl]
                refine T_k d_X4_read_76 ?_
                refine T_al d_X4_read_77 rfl ?_
                refine F_gr (b := 18) d_X4_read_78 rfl hF rfl ?_
                refine T_il d_X4_read_81 rfl ?_
                refine F_aa2 d_X4_read_82 rfl ⟨by omega, by omega⟩ ?_
                rw [show R 18 (((1 : Nat) : Int)).toNat = some 20 from hF 18 1 20 rfl]
                refine T_k d_X4_read_83 ?_
                refine T_k d_X4_read_84 ?_
                refine F_acc dAC_r86 rfl rfl rfl hBX rfl ⟨by decide, by decide⟩ ⟨by decide, by decide⟩ (by decide) ⟨by decide, by decide⟩ (fun V_5 eV_5 hBV_5 => ?_)
                refine F_incg d_X4_read_89 rfl (f := fun x_6 => [(0, vr 16), (1, vi c), (2, vi x_6)]) (fun _ => rfl) (fun x_6 ex_6 => ?_)
                refine T_go d_X4_read_92 ?_
                -- to 60 62f.67f.70k1@60
                obtain rfl : x_6 = (2 : Int) := by omega
                exact ih60 V_5 (2) (by omega) hBV_5 (tl_s rfl rfl (by omega) hX eV_5) (by omega)
              · skip
                refine T_al d_X4_read_70 rfl ?_
                refine F_gr (b := 24) d_X4_read_71 rfl hF rfl ?_
                refine T_il d_X4_read_74 rfl ?_
                refine F_aa2 d_X4_read_75 rfl ⟨by omega, by omega⟩ ?_
                rw [show R 24 (((2 : Nat) : Int)).toNat = some 27 from hF 24 2 27 rfl]
                refine T_k d_X4_read_76 ?_
                refine T_al d_X4_read_77 rfl ?_
                refine F_gr (b := 18) d_X4_read_78 rfl hF rfl ?_
                refine T_il d_X4_read_81 rfl ?_
                refine F_aa2 d_X4_read_82 rfl ⟨by omega, by omega⟩ ?_
                rw [show R 18 (((2 : Nat) : Int)).toNat = some 21 from hF 18 2 21 rfl]
                refine T_k d_X4_read_83 ?_
                refine T_k d_X4_read_84 ?_
                refine F_acc dAC_r86 rfl rfl rfl hBX rfl ⟨by decide, by decide⟩ ⟨by decide, by decide⟩ (by decide) ⟨by decide, by decide⟩ (fun V_7 eV_7 hBV_7 => ?_)
                refine F_incg d_X4_read_89 rfl (f := fun x_8 => [(0, vr 16), (1, vi c), (2, vi x_8)]) (fun _ => rfl) (fun x_8 ex_8 => ?_)
                refine T_go d_X4_read_92 ?_
                -- to 60 62f.67f.70k2@60
                obtain rfl : x_8 = (3 : Int) := by omega
                exact ih60 V_7 (3) (by omega) hBV_7 (tl_s rfl rfl (by omega) hX eV_7) (by omega)
              · skip
                refine T_al d_X4_read_70 rfl ?_
                refine F_gr (b := 24) d_X4_read_71 rfl hF rfl ?_
                refine T_il d_X4_read_74 rfl ?_
                refine F_aa2 d_X4_read_75 rfl ⟨by omega, by omega⟩ ?_
                rw [show R 24 (((3 : Nat) : Int)).toNat = some 28 from hF 24 3 28 rfl]
                refine T_k d_X4_read_76 ?_
                refine T_al d_X4_read_77 rfl ?_
                refine F_gr (b := 18) d_X4_read_78 rfl hF rfl ?_
                refine T_il d_X4_read_81 rfl ?_
                refine F_aa2 d_X4_read_82 rfl ⟨by omega, by omega⟩ ?_
                rw [show R 18 (((3 : Nat) : Int)).toNat = some 22 from hF 18 3 22 rfl]
                refine T_k d_X4_read_83 ?_
                refine T_k d_X4_read_84 ?_
                refine F_acc dAC_r86 rfl rfl rfl hBX rfl ⟨by decide, by decide⟩ ⟨by decide, by decide⟩ (by decide) ⟨by decide, by decide⟩ (fun V_9 eV_9 hBV_9 => ?_)
                refine F_incg d_X4_read_89 rfl (f := fun x_10 => [(0, vr 16), (1, vi c), (2, vi x_10)]) (fun _ => rfl) (fun x_10 ex_10 => ?_)
                refine T_go d_X4_read_92 ?_
                -- to 60 62f.67f.70k3@60
                obtain rfl : x_10 = (4 : Int) := by omega
                exact ih60 V_9 (4) (by omega) hBV_9 (tl_s rfl rfl (by omega) hX eV_9) (by omega)
              · skip
                refine T_al d_X4_read_70 rfl ?_
                refine F_gr (b := 24) d_X4_read_71 rfl hF rfl ?_
                refine T_il d_X4_read_74 rfl ?_
                refine F_aa2 d_X4_read_75 rfl ⟨by omega, by omega⟩ ?_
                rw [show R 24 (((4 : Nat) : Int)).toNat = some 29 from hF 24 4 29 rfl]
                refine T_k d_X4_read_76 ?_
                refine T_al d_X4_read_77 rfl ?_
                refine F_gr (b := 18) d_X4_read_78 rfl hF rfl ?_
                refine T_il d_X4_read_81 rfl ?_
                refine F_aa2 d_X4_read_82 rfl ⟨by omega, by omega⟩ ?_
                rw [show R 18 (((4 : Nat) : Int)).toNat = some 23 from hF 18 4 23 rfl]
                refine T_k d_X4_read_83 ?_
                refine T_k d_X4_read_84 ?_
                refine F_acc dAC_r86 rfl rfl rfl hBX rfl ⟨by decide, by decide⟩ ⟨by decide, by decide⟩ (by decide) ⟨by decide, by decide⟩ (fun V_11 eV_11 hBV_11 => ?_)
                refine F_incg d_X4_read_89 rfl (f := fun x_12 => [(0, vr 16), (1, vi c), (2, vi x_12)]) (fun _ => rfl) (fun x_12 ex_12 => ?_)
                refine T_go d_X4_read_92 ?_
                -- to 60 62f.67f.70k4@60
                obtain rfl : x_12 = (5 : Int) := by omega
                exact ih60 V_11 (5) (by omega) hBV_11 (tl_s rfl rfl (by omega) hX eV_11) (by omega)
      exact L60 _ W (0) (Nat.lt_succ_self _) hBW tl_0 (by omega)
    · skip
      refine T_k d_X4_read_56 ?_
      -- leaf 53f@57
      refine T_zret0 d_X4_read_57 rfl ?_
      exact rd_F eW (hcn h53).1 (hcn h53).2 hBW
  refine T_al d_X4_read_0 rfl ?_
  refine T_k d_X4_read_1 ?_
  refine F_pi d_X4_read_2 rfl hB rfl ⟨by omega, by omega⟩ (fun V_13 eV_13 hBV_13 => ?_)
  have e5 := eV_13
  refine T_al d_X4_read_5 rfl ?_
  refine C_v0 d_X4_read_6 rfl (hdF (by decide)) (hcF _) (R_X4_next (n := n) (p := 0) hBV_13 hF (by rw [eV_13]; exact hn) (by rw [eV_13]; rfl) (Nat.zero_le _)) (fun r_14 V_15 R_16 qV_15 => ?_)
  obtain ⟨rfl, eV_15, rfl, hBV_15⟩ := qV_15
  obtain ⟨q9, e9, c9⟩ := rd_start (n := n) hv6
  rw [← e5] at e9
  have e9 := eV_15.trans e9
  have h96 : V_15 16 6 = (skipB (V 17) n 0 : Int) := by rw [e9]; rfl
  have h91 : V_15 16 1 = n := by rw [e9]; exact hn
  refine T_al d_X4_read_9 rfl ?_
  refine F_gi d_X4_read_10 rfl hBV_15 rfl (fun b_17 => ?_)
  refine T_al d_X4_read_13 rfl ?_
  refine F_gi d_X4_read_14 rfl hBV_15 rfl (fun b_18 => ?_)
  refine T_ilt d_X4_read_17 ⟨by omega, by omega⟩ ⟨by omega, by omega⟩ (fun h17 => ?_) (fun h17 => ?_)
  · skip
    refine T_al d_X4_read_24 rfl ?_
    refine C_v0 d_X4_read_25 rfl (hdF (by decide)) (hcF _) (R_X4_readKinds (lo := lo) (hi := hi) hBV_15 hF e9 hn c9 hn4) (fun r_19 V_20 R_21 qV_20 => ?_)
    obtain ⟨rfl, ⟨p21, D21, eV_20, cV_20, dV_20⟩, rfl, hBV_20⟩ := qV_20
    have ⟨q28, D28, e28, d28⟩ : ∃ q D, V_20 = csV V (kdsF (V 17) n 401 (skipB (V 17) n 0) 0 lo hi).1 q D ∧ (ksO n (kdsF (V 17) n 401 (skipB (V 17) n 0) 0 lo hi) → dKs (kdsF (V 17) n 401 (skipB (V 17) n 0) 0 lo hi).2.2.1 (kdsF (V 17) n 401 (skipB (V 17) n 0) 0 lo hi).2.2.2.1 (kdsF (V 17) n 401 (skipB (V 17) n 0) 0 lo hi).2.2.2.2 D) := ⟨_, _, eV_20, dV_20⟩
    have h286 : V_20 16 6 = ((kdsF (V 17) n 401 (skipB (V 17) n 0) 0 lo hi).1 : Int) := by rw [e28]; rfl
    refine F_isg d_X4_read_28 (f := fun x_22 => [(0, vr 16), (1, vi x_22)]) (fun _ => rfl) (fun x_22 ex_22 => ?_)
    have hc5 : -1 ≤ x_22 ∧ x_22 ≤ 5 := by have := kds_m5 (t := V 17) (n := n) (c := 401) (rd := 0) (lo := lo) (hi := hi) c9.1 (by omega); rw [ex_22]; split <;> omega
    refine T_al d_X4_read_29 rfl ?_
    refine T_il d_X4_read_30 rfl ?_
    refine T_k d_X4_read_31 ?_
    refine T_ine d_X4_read_32 ⟨by omega, by omega⟩ ⟨by omega, by omega⟩ (fun h32 => ?_) (fun h32 => ?_)
    · skip
      refine T_k d_X4_read_42 ?_
      refine F_pi d_X4_read_43 rfl hBV_20 rfl ⟨by omega, by omega⟩ (fun V_23 eV_23 hBV_23 => ?_)
      refine T_al d_X4_read_46 rfl ?_
      refine T_k d_X4_read_47 ?_
      refine F_pi d_X4_read_48 rfl hBV_23 rfl ⟨by omega, by omega⟩ (fun V_24 eV_24 hBV_24 => ?_)
      -- to 51 17t.32t@51
      have h0 : ¬ n ≤ skipB (V 17) n 0 := by omega
      have hkr : kinR (V 17) n lo hi = (kdsF (V 17) n 401 (skipB (V 17) n 0) 0 lo hi) := by unfold kinR; rw [if_neg h0]
      have hks : ksO n (kdsF (V 17) n 401 (skipB (V 17) n 0) 0 lo hi) := Classical.byContradiction fun z => h32 (by rw [ex_22, if_neg z])
      exact L51 V_24 x_22 ((kdsF (V 17) n 401 (skipB (V 17) n 0) 0 lo hi).1) (q28) (-1) (D28) hBV_24 (by rw [eV_24, eV_23, e28]) hc5 (fun z => absurd z h32) (fun _ => ⟨rfl, kF_o h0 hks, by rw [hkr, ex_22, if_pos hks], by rw [hkr]; exact d28 hks⟩)
    · skip
      refine T_al d_X4_read_35 rfl ?_
      refine F_gi d_X4_read_36 rfl hBV_20 rfl (fun b_25 => ?_)
      refine T_go d_X4_read_39 ?_
      refine F_pi d_X4_read_43 rfl hBV_20 rfl ⟨by omega, by omega⟩ (fun V_26 eV_26 hBV_26 => ?_)
      refine T_al d_X4_read_46 rfl ?_
      refine T_k d_X4_read_47 ?_
      refine F_pi d_X4_read_48 rfl hBV_26 rfl ⟨by omega, by omega⟩ (fun V_27 eV_27 hBV_27 => ?_)
      -- to 51 17t.32f@51
      have h0 : ¬ n ≤ skipB (V 17) n 0 := by omega
      have hkr : kinR (V 17) n lo hi = (kdsF (V 17) n 401 (skipB (V 17) n 0) 0 lo hi) := by unfold kinR; rw [if_neg h0]
      have hks : ¬ ksO n (kdsF (V 17) n 401 (skipB (V 17) n 0) 0 lo hi) := fun z => by rw [if_pos z] at ex_22; omega
      exact L51 V_27 x_22 ((kdsF (V 17) n 401 (skipB (V 17) n 0) 0 lo hi).1) (q28) (((kdsF (V 17) n 401 (skipB (V 17) n 0) 0 lo hi).1 : Int)) (D28) hBV_27 (by rw [eV_27, eV_26, h286, e28]) hc5 (fun _ => ⟨rfl, kF_n h0 hks⟩) (fun z => absurd h32 z)
  · skip
    refine T_k d_X4_read_20 ?_
    refine T_go d_X4_read_21 ?_
    refine T_is d_X4_read_28 (ls' := [(0, vr 16), (1, vi 0)]) rfl ?_
    refine T_al d_X4_read_29 rfl ?_
    refine T_il d_X4_read_30 rfl ?_
    refine T_k d_X4_read_31 ?_
    refine T_ine d_X4_read_32 ⟨by omega, by omega⟩ ⟨by omega, by omega⟩ (fun h32 => ?_) (fun h32 => ?_)
    · skip
      refine T_k d_X4_read_42 ?_
      refine F_pi d_X4_read_43 rfl hBV_15 rfl ⟨by omega, by omega⟩ (fun V_28 eV_28 hBV_28 => ?_)
      refine T_al d_X4_read_46 rfl ?_
      refine T_k d_X4_read_47 ?_
      refine F_pi d_X4_read_48 rfl hBV_28 rfl ⟨by omega, by omega⟩ (fun V_29 eV_29 hBV_29 => ?_)
      -- to 51 17f.32t@51
      have h0 : n ≤ skipB (V 17) n 0 := by omega
      exact L51 V_29 0 (skipB (V 17) n 0) (q9) (-1) (V) hBV_29 (by rw [eV_29, eV_28, e9]) (by omega) (fun z => absurd z (by decide)) (fun _ => ⟨rfl, (kF_0 h0).1, by rw [(kF_0 h0).2]; rfl, by rw [(kF_0 h0).2]; intro r hr; exact absurd hr (Nat.not_lt_zero _)⟩)
    · exact absurd h32 (by decide)
