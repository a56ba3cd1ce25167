set_option maxHeartbeats 1000000 in
set_option maxRecDepth 100000 in
theorem R_X6_pushLater {G : GG} {V : VV} {R : RR}  {rl : Nat → Nat → Bool} {f : Nat → Nat} {lf E0 E : Nat → Int} {r : Nat → Nat} {n p : Nat} (hB : Bd V) (hF : FinR R) (hn : n ≤ 13) (h0 : V 85 0 = (n : Int)) (h90 : rowC 90 rl n V) (hs : ∀ i j, rl i j = rl j i) (h96 : ∀ i, i < n → V 96 i = (f i : Int)) (hf : ∀ i, i < n → f i < n) (hr : ∀ i, i < n → R 86 i = some (r i) ∧ (60 ≤ r i ∧ r i ≤ 84) ∧ V (r i) 11 = lf i) (hlf : ∀ i, i < n → 0 ≤ lf i ∧ lf i ≤ 500) (hp : p < n) (hE : isE n rl f (fun _ j => lf j) E0 E) (hb : ∀ i, i < n → 0 ≤ E0 i ∧ E i ≤ 8500) (hst : stI n rl f (fun _ j => lf j) E0 E (fun t s => f s < p) (fun t =>  V 97 t)) : Runs G M_X6_pushLater 2 162 162 [vr 85, vi (p:Int)] V R (PQ [(97, 97)] [] V R (fun o X => o = none ∧ stI n rl f (fun _ j => lf j) E0 E (fun t s => f s ≤ p) (fun t =>  X 97 t))) := by
  refine Runs.of pn_X6 (Nat.le_of_ble_eq_true rfl) rfl ?_
  show TT G M_X6_pushLater (rmd 2 162 162) 162 (Zm G 162 162 (PQ [(97, 97)] [] V R (fun o X => o = none ∧ stI n rl f (fun _ j => lf j) E0 E (fun t s => f s ≤ p) (fun t =>  X 97 t)))) 162 0 [(0, vr 85), (1, vi (p:Int))] [] V R
  have fV : chg [(97, 97)] [] V V := chg_r
  refine T_k d_X6_pushLater_0 ?_
  refine T_is d_X6_pushLater_1 (ls' := [(0, vr 85), (1, vi (p:Int)), (2, vi 0)]) rfl ?_
  -- to 2 @2
  have L2 : ∀ (fu : Nat) (X : VV) (i : Nat), n - i < fu → (Bd X) → (chg [(97, 97)] [] V X) → (i ≤ n) → (stI n rl f (fun _ j => lf j) E0 E (fun t s => f s < p ∨ (f s = p ∧ s < i)) (fun t =>  X 97 t)) → TT G M_X6_pushLater (rmd 2 162 162) 162 (Zm G 162 162 (PQ [(97, 97)] [] V R (fun o X => o = none ∧ stI n rl f (fun _ j => lf j) E0 E (fun t s => f s ≤ p) (fun t =>  X 97 t)))) 162 2 [(0, vr 85), (1, vi (p:Int)), (2, vi (i : Int))] [] X R := by
    intro fu
    induction fu with
    | zero => intro X i hm; exact absurd hm (Nat.not_lt_zero _)
    | succ fu ih2 =>
      intro X i hm2 hBX fX hi xs
      have x0 : X 85 0 = (n : Int) := (fX 85 0 rfl rfl).trans h0
      refine T_il d_X6_pushLater_2 rfl ?_
      refine T_al d_X6_pushLater_3 rfl ?_
      refine F_gi d_X6_pushLater_4 rfl hBX rfl (fun b_1 => ?_)
      refine T_ige d_X6_pushLater_7 ⟨by omega, by omega⟩ ⟨by omega, by omega⟩ (fun h7 => ?_) (fun h7 => ?_)
      · skip
        -- leaf 7t@97
        refine T_vret d_X6_pushLater_97 rfl ?_
        exact ⟨rfl, hBX, fX, rfl, sti_w xs (fun t s _ hs2 hd _ _ => (Nat.lt_or_ge (f s) p).elim Or.inl (fun z => Or.inr ⟨by omega, by omega⟩))⟩
      · skip
        refine T_k d_X6_pushLater_10 ?_
        refine T_is d_X6_pushLater_11 (ls' := [(0, vr 85), (1, vi (p:Int)), (2, vi (i : Int)), (3, vi 0)]) rfl ?_
        -- to 12 7f@12
        have L12 : ∀ (fu : Nat) (Y : VV) (j : Nat), n - j < fu → (Bd Y) → (chg [(97, 97)] [] V Y) → (j ≤ n) → (stI n rl f (fun _ j => lf j) E0 E (fun t s => f s < p ∨ (f s = p ∧ (s < i ∨ (s = i ∧ t < j)))) (fun t =>  Y 97 t)) → TT G M_X6_pushLater (rmd 2 162 162) 162 (Zm G 162 162 (PQ [(97, 97)] [] V R (fun o X => o = none ∧ stI n rl f (fun _ j => lf j) E0 E (fun t s => f s ≤ p) (fun t =>  X 97 t)))) 162 12 [(0, vr 85), (1, vi (p:Int)), (2, vi (i : Int)), (3, vi (j : Int))] [] Y R := by
          intro fu
          induction fu with
          | zero => intro Y j hm; exact absurd hm (Nat.not_lt_zero _)
          | succ fu ih12 =>
            intro Y j hm12 hBY fY hj ys
            have y0 : Y 85 0 = (n : Int) := (fY 85 0 rfl rfl).trans h0
            have y90 := chg_k (c := 90) fY rfl
            have y96 := chg_k (c := 96) fY rfl
            have e96 := h96 i (by omega)
            refine T_al d_X6_pushLater_12 rfl ?_
            refine F_gr (b := 96) d_X6_pushLater_13 rfl hF rfl ?_
            refine T_il d_X6_pushLater_16 rfl ?_
            refine F_ia d_X6_pushLater_17 rfl hBY rfl ⟨by omega, by omega⟩ (fun b_2 => ?_)
            try simp only [Int.toNat_natCast, y96]
            try simp only [Int.toNat_natCast, y96] at b_2
            rw [e96]
            refine T_il d_X6_pushLater_18 rfl ?_
            refine T_ine d_X6_pushLater_19 ⟨by omega, by omega⟩ ⟨by omega, by omega⟩ (fun h19 => ?_) (fun h19 => ?_)
            · skip
              refine F_incg d_X6_pushLater_91 rfl (f := fun x_3 => [(0, vr 85), (1, vi (p:Int)), (2, vi x_3), (3, vi (j : Int))]) (fun _ => rfl) (fun x_3 ex_3 => ?_)
              refine T_go d_X6_pushLater_94 ?_
              -- to 2 19t@2
              refine T_subp (ks := [0, 1, 2]) (ls' := [(0, vr 85), (1, vi (p:Int)), (2, vi x_3)]) rfl ?_
              obtain rfl : x_3 = ((i + 1) : Int) := by omega
              exact ih2 Y (i + 1) (by omega) hBY fY (by first | assumption | omega) (sti_w ys (fun t s _ _ hd _ _ => hd.elim Or.inl (fun z => Or.inr ⟨z.1, Or.inl (by have z1 := z.1; have z2 := z.2; have z3 : s ≠ i := fun y => (by rw [y] at z1; omega); omega)⟩)))
            · skip
              refine T_il d_X6_pushLater_22 rfl ?_
              refine T_al d_X6_pushLater_23 rfl ?_
              refine F_gi d_X6_pushLater_24 rfl hBY rfl (fun b_4 => ?_)
              refine T_ige d_X6_pushLater_27 ⟨by omega, by omega⟩ ⟨by omega, by omega⟩ (fun h27 => ?_) (fun h27 => ?_)
              · skip
                refine F_incg d_X6_pushLater_91 rfl (f := fun x_5 => [(0, vr 85), (1, vi (p:Int)), (2, vi x_5), (3, vi (j : Int))]) (fun _ => rfl) (fun x_5 ex_5 => ?_)
                refine T_go d_X6_pushLater_94 ?_
                -- to 2 19f.27t@2
                refine T_subp (ks := [0, 1, 2]) (ls' := [(0, vr 85), (1, vi (p:Int)), (2, vi x_5)]) rfl ?_
                obtain rfl : x_5 = ((i + 1) : Int) := by omega
                exact ih2 Y (i + 1) (by omega) hBY fY (by first | assumption | omega) (sti_w ys (fun t s ht _ hd _ _ => hd.elim Or.inl (fun z => Or.inr ⟨z.1, by omega⟩)))
              · skip
                have fi : f i = p := by omega
                have b90 := h90 i (by omega)
                have kb := bn_13 (p := rl i) hn
                have et : (bitsN (rl i) n).testBit j = rl i j := by have z := bn_t (p := rl i) (n := n) (j := j); cases w : (bitsN (rl i) n).testBit j <;> cases w2 : rl i j <;> simp_all
                have e96j := h96 j (by omega)
                have fj := hf j (by omega)
                refine T_al d_X6_pushLater_30 rfl ?_
                refine F_gr (b := 90) d_X6_pushLater_31 rfl hF rfl ?_
                refine T_il d_X6_pushLater_34 rfl ?_
                refine F_ia d_X6_pushLater_35 rfl hBY rfl ⟨by omega, by omega⟩ (fun b_6 => ?_)
                try simp only [Int.toNat_natCast]
                try simp only [Int.toNat_natCast] at b_6
                refine T_il d_X6_pushLater_36 rfl ?_
                refine T_ishr d_X6_pushLater_37 ?_
                refine T_k d_X6_pushLater_38 ?_
                refine T_iand d_X6_pushLater_39 ?_
                rw [y90, b90, tbI (by omega) (by omega), et]
                refine T_k d_X6_pushLater_40 ?_
                refine T_ine d_X6_pushLater_41 (bi_r _) ⟨by omega, by omega⟩ (fun h41 => ?_) (fun h41 => ?_)
                · skip
                  refine F_incg d_X6_pushLater_85 rfl (f := fun x_7 => [(0, vr 85), (1, vi (p:Int)), (2, vi (i : Int)), (3, vi x_7)]) (fun _ => rfl) (fun x_7 ex_7 => ?_)
                  refine T_go d_X6_pushLater_88 ?_
                  -- to 12 19f.27f.41t@12
                  obtain rfl : x_7 = ((j + 1) : Int) := by omega
                  exact ih12 Y (j + 1) (by omega) hBY fY (by first | assumption | omega) (sti_w ys (fun t s ht _ hd hb2 _ => hd.elim Or.inl (fun z => (Nat.lt_or_ge s i).elim (fun y => Or.inr ⟨z.1, Or.inl y⟩) (fun y => by have es : s = i := (by omega); subst es; by_cases et2 : t = j; (subst et2; rw [hs t s] at hb2; exact absurd (bi_1.mpr hb2) h41); exact Or.inr ⟨z.1, by omega⟩))))
                · skip
                  refine T_al d_X6_pushLater_44 rfl ?_
                  refine F_gr (b := 96) d_X6_pushLater_45 rfl hF rfl ?_
                  refine T_il d_X6_pushLater_48 rfl ?_
                  refine F_ia d_X6_pushLater_49 rfl hBY rfl ⟨by omega, by omega⟩ (fun b_8 => ?_)
                  try simp only [Int.toNat_natCast, y96]
                  try simp only [Int.toNat_natCast, y96] at b_8
                  rw [e96j]
                  refine T_il d_X6_pushLater_50 rfl ?_
                  refine T_ile d_X6_pushLater_51 ⟨by omega, by omega⟩ ⟨by omega, by omega⟩ (fun h51 => ?_) (fun h51 => ?_)
                  · skip
                    refine F_incg d_X6_pushLater_85 rfl (f := fun x_9 => [(0, vr 85), (1, vi (p:Int)), (2, vi (i : Int)), (3, vi x_9)]) (fun _ => rfl) (fun x_9 ex_9 => ?_)
                    refine T_go d_X6_pushLater_88 ?_
                    -- to 12 19f.27f.41f.51t@12
                    obtain rfl : x_9 = ((j + 1) : Int) := by omega
                    exact ih12 Y (j + 1) (by omega) hBY fY (by first | assumption | omega) (sti_w ys (fun t s ht _ hd hb2 hff => hd.elim Or.inl (fun z => by have z1 := z.1; have z2 := z.2; by_cases et2 : t = j ∧ s = i; (obtain ⟨rfl, rfl⟩ := et2; exact absurd hff (by omega)); exact Or.inr ⟨z1, by omega⟩)))
                  · skip
                    have rij : rl j i = true := by rw [hs j i]; exact bi_1.mp h41
                    have ri := hr i (by omega)
                    have hli := lay_h ri.2.1
                    have bi_ := hb i (by omega)
                    have bj_ := hb j (by omega)
                    have mi : E0 i ≤  Y 97 i ∧  Y 97 i ≤ E i := ys.1 i (by omega)
                    have mj : E0 j ≤  Y 97 j ∧  Y 97 j ≤ E j := ys.1 j (by omega)
                    have l1 := hlf i (by omega)
                    have fin :  Y 97 i = E i := sti_fin hE ys (i := i) (by omega) (fun s h1 h2 h3 => Or.inl (by omega))
                    have ey : Y (r i) 11 = lf i := (fY _ _ (inA_no (by omega)) rfl).trans ri.2.2
                    refine T_al d_X6_pushLater_54 rfl ?_
                    refine F_gr (b := 97) d_X6_pushLater_55 rfl hF rfl ?_
                    refine T_il d_X6_pushLater_58 rfl ?_
                    refine T_al d_X6_pushLater_59 rfl ?_
                    refine F_gr (b := 97) d_X6_pushLater_60 rfl hF rfl ?_
                    refine T_il d_X6_pushLater_63 rfl ?_
                    refine F_ian d_X6_pushLater_64 rfl ⟨by omega, by omega⟩ ?_
                    try simp only [Int.toNat_natCast]
                    refine T_al d_X6_pushLater_65 rfl ?_
                    refine F_gr (b := 97) d_X6_pushLater_66 rfl hF rfl ?_
                    refine T_il d_X6_pushLater_69 rfl ?_
                    refine F_ian d_X6_pushLater_70 rfl ⟨by omega, by omega⟩ ?_
                    try simp only [Int.toNat_natCast]
                    refine T_al d_X6_pushLater_71 rfl ?_
                    refine F_gr (b := 86) d_X6_pushLater_72 rfl hF rfl ?_
                    refine T_il d_X6_pushLater_75 rfl ?_
                    refine F_aa d_X6_pushLater_76 rfl ⟨by omega, by omega⟩ ?_
                    rw [show R 86 ((i : Nat) : Int).toNat = some (r i) from ri.1]
                    refine F_gi d_X6_pushLater_77 hli hBY rfl (fun b_10 => ?_)
                    rw [ey]
                    refine T_iadd d_X6_pushLater_80 ?_
                    refine T_mmax d_X6_pushLater_81 ⟨by omega, by omega⟩ ⟨by omega, by omega⟩ (Nat.le_of_ble_eq_true rfl) (hmF _) ?_
                    refine F_isn d_X6_pushLater_84 rfl hBY rfl ⟨by omega, by omega⟩ (fun V_11 eV_11 hBV_11 => ?_)
                    have fV_11 := chg_u eV_11 rfl fY
                    refine F_incg d_X6_pushLater_85 rfl (f := fun x_12 => [(0, vr 85), (1, vi (p:Int)), (2, vi (i : Int)), (3, vi x_12)]) (fun _ => rfl) (fun x_12 ex_12 => ?_)
                    refine T_go d_X6_pushLater_88 ?_
                    -- to 12 19f.27f.41f.51f@12
                    obtain rfl : x_12 = ((j + 1) : Int) := by omega
                    exact ih12 V_11 (j + 1) (by omega) hBV_11 fV_11 (by first | assumption | omega) (sti_p hE ys (i := j) (j := i) (by omega) (by omega) rij (by omega) (fun t ht htj => by show  V_11 97 t = _; rw [eV_11, Int.toNat_natCast, uV_at, if_neg htj]) (by show _ ≤  V_11 97 j ∧ _ ≤  V_11 97 j ∧ ( V_11 97 j = _ ∨  V_11 97 j = _); rw [eV_11, Int.toNat_natCast, uV_self]; split <;> omega) (fun a d ha hd hdd hbb hff => by by_cases q : a = j ∧ d = i; (exact Or.inr ⟨q.1, q.2, fin⟩); exact Or.inl (by omega)))
        exact L12 _ X (0) (Nat.lt_succ_self _) hBX fX (by first | assumption | omega) (sti_w xs (fun t s _ _ hd _ _ => hd.elim Or.inl (fun z => Or.inr ⟨z.1, by omega⟩)))
  exact L2 _ V (0) (Nat.lt_succ_self _) hB fV (by first | assumption | omega) (sti_w hst (fun t s _ _ hd _ _ => hd.elim id (fun z => absurd z.2 (Nat.not_lt_zero _))))
set_option maxHeartbeats 1000000 in
set_option maxRecDepth 100000 in
theorem R_X6_pushEarlier {G : GG} {V : VV} {R : RR}  {rl : Nat → Nat → Bool} {f : Nat → Nat} {lf E0 E : Nat → Int} {r : Nat → Nat} {n p : Nat} (hB : Bd V) (hF : FinR R) (hn : n ≤ 13) (h0 : V 85 0 = (n : Int)) (h90 : rowC 90 rl n V) (hs : ∀ i j, rl i j = rl j i) (h96 : ∀ i, i < n → V 96 i = (f i : Int)) (hf : ∀ i, i < n → f i < n) (hr : ∀ i, i < n → R 86 i = some (r i) ∧ (60 ≤ r i ∧ r i ≤ 84) ∧ V (r i) 11 = lf i) (hlf : ∀ i, i < n → 0 ≤ lf i ∧ lf i ≤ 500) (hp : p < n) (hE : isE n rl (fun j => n - 1 - f j) (fun i _ => lf i) E0 E) (hb : ∀ i, i < n → -2000 ≤ E0 i ∧ E i ≤ 6500) (hst : stI n rl (fun j => n - 1 - f j) (fun i _ => lf i) E0 E (fun t s => p < f s) (fun t => - V 98 t)) : Runs G M_X6_pushEarlier 2 162 162 [vr 85, vi (p:Int)] V R (PQ [(98, 98)] [] V R (fun o X => o = none ∧ stI n rl (fun j => n - 1 - f j) (fun i _ => lf i) E0 E (fun t s => p ≤ f s) (fun t => - X 98 t))) := by
  refine Runs.of pn_X6 (Nat.le_of_ble_eq_true rfl) rfl ?_
  show TT G M_X6_pushEarlier (rmd 2 162 162) 162 (Zm G 162 162 (PQ [(98, 98)] [] V R (fun o X => o = none ∧ stI n rl (fun j => n - 1 - f j) (fun i _ => lf i) E0 E (fun t s => p ≤ f s) (fun t => - X 98 t)))) 162 0 [(0, vr 85), (1, vi (p:Int))] [] V R
  have fV : chg [(98, 98)] [] V V := chg_r
  refine T_k d_X6_pushEarlier_0 ?_
  refine T_is d_X6_pushEarlier_1 (ls' := [(0, vr 85), (1, vi (p:Int)), (2, vi 0)]) rfl ?_
  -- to 2 @2
  have L2 : ∀ (fu : Nat) (X : VV) (i : Nat), n - i < fu → (Bd X) → (chg [(98, 98)] [] V X) → (i ≤ n) → (stI n rl (fun j => n - 1 - f j) (fun i _ => lf i) E0 E (fun t s => p < f s ∨ (f s = p ∧ s < i)) (fun t => - X 98 t)) → TT G M_X6_pushEarlier (rmd 2 162 162) 162 (Zm G 162 162 (PQ [(98, 98)] [] V R (fun o X => o = none ∧ stI n rl (fun j => n - 1 - f j) (fun i _ => lf i) E0 E (fun t s => p ≤ f s) (fun t => - X 98 t)))) 162 2 [(0, vr 85), (1, vi (p:Int)), (2, vi (i : Int))] [] X R := by
    intro fu
    induction fu with
    | zero => intro X i hm; exact absurd hm (Nat.not_lt_zero _)
    | succ fu ih2 =>
      intro X i hm2 hBX fX hi xs
      have x0 : X 85 0 = (n : Int) := (fX 85 0 rfl rfl).trans h0
      refine T_il d_X6_pushEarlier_2 rfl ?_
      refine T_al d_X6_pushEarlier_3 rfl ?_
      refine F_gi d_X6_pushEarlier_4 rfl hBX rfl (fun b_1 => ?_)
      refine T_ige d_X6_pushEarlier_7 ⟨by omega, by omega⟩ ⟨by omega, by omega⟩ (fun h7 => ?_) (fun h7 => ?_)
      · skip
        -- leaf 7t@97
        refine T_vret d_X6_pushEarlier_97 rfl ?_
        exact ⟨rfl, hBX, fX, rfl, sti_w xs (fun t s _ hs2 hd _ _ => (Nat.lt_or_ge p (f s)).elim Or.inl (fun z => Or.inr ⟨by omega, by omega⟩))⟩
      · skip
        refine T_k d_X6_pushEarlier_10 ?_
        refine T_is d_X6_pushEarlier_11 (ls' := [(0, vr 85), (1, vi (p:Int)), (2, vi (i : Int)), (3, vi 0)]) rfl ?_
        -- to 12 7f@12
        have L12 : ∀ (fu : Nat) (Y : VV) (j : Nat), n - j < fu → (Bd Y) → (chg [(98, 98)] [] V Y) → (j ≤ n) → (stI n rl (fun j => n - 1 - f j) (fun i _ => lf i) E0 E (fun t s => p < f s ∨ (f s = p ∧ (s < i ∨ (s = i ∧ t < j)))) (fun t => - Y 98 t)) → TT G M_X6_pushEarlier (rmd 2 162 162) 162 (Zm G 162 162 (PQ [(98, 98)] [] V R (fun o X => o = none ∧ stI n rl (fun j => n - 1 - f j) (fun i _ => lf i) E0 E (fun t s => p ≤ f s) (fun t => - X 98 t)))) 162 12 [(0, vr 85), (1, vi (p:Int)), (2, vi (i : Int)), (3, vi (j : Int))] [] Y R := by
          intro fu
          induction fu with
          | zero => intro Y j hm; exact absurd hm (Nat.not_lt_zero _)
          | succ fu ih12 =>
            intro Y j hm12 hBY fY hj ys
            have y0 : Y 85 0 = (n : Int) := (fY 85 0 rfl rfl).trans h0
            have y90 := chg_k (c := 90) fY rfl
            have y96 := chg_k (c := 96) fY rfl
            have e96 := h96 i (by omega)
            refine T_al d_X6_pushEarlier_12 rfl ?_
            refine F_gr (b := 96) d_X6_pushEarlier_13 rfl hF rfl ?_
            refine T_il d_X6_pushEarlier_16 rfl ?_
            refine F_ia d_X6_pushEarlier_17 rfl hBY rfl ⟨by omega, by omega⟩ (fun b_2 => ?_)
            try simp only [Int.toNat_natCast, y96]
            try simp only [Int.toNat_natCast, y96] at b_2
            rw [e96]
            refine T_il d_X6_pushEarlier_18 rfl ?_
            refine T_ine d_X6_pushEarlier_19 ⟨by omega, by omega⟩ ⟨by omega, by omega⟩ (fun h19 => ?_) (fun h19 => ?_)
            · skip
              refine F_incg d_X6_pushEarlier_91 rfl (f := fun x_3 => [(0, vr 85), (1, vi (p:Int)), (2, vi x_3), (3, vi (j : Int))]) (fun _ => rfl) (fun x_3 ex_3 => ?_)
              refine T_go d_X6_pushEarlier_94 ?_
              -- to 2 19t@2
              refine T_subp (ks := [0, 1, 2]) (ls' := [(0, vr 85), (1, vi (p:Int)), (2, vi x_3)]) rfl ?_
              obtain rfl : x_3 = ((i + 1) : Int) := by omega
              exact ih2 Y (i + 1) (by omega) hBY fY (by first | assumption | omega) (sti_w ys (fun t s _ _ hd _ _ => hd.elim Or.inl (fun z => Or.inr ⟨z.1, Or.inl (by have z1 := z.1; have z2 := z.2; have z3 : s ≠ i := fun y => (by rw [y] at z1; omega); omega)⟩)))
            · skip
              refine T_il d_X6_pushEarlier_22 rfl ?_
              refine T_al d_X6_pushEarlier_23 rfl ?_
              refine F_gi d_X6_pushEarlier_24 rfl hBY rfl (fun b_4 => ?_)
              refine T_ige d_X6_pushEarlier_27 ⟨by omega, by omega⟩ ⟨by omega, by omega⟩ (fun h27 => ?_) (fun h27 => ?_)
              · skip
                refine F_incg d_X6_pushEarlier_91 rfl (f := fun x_5 => [(0, vr 85), (1, vi (p:Int)), (2, vi x_5), (3, vi (j : Int))]) (fun _ => rfl) (fun x_5 ex_5 => ?_)
                refine T_go d_X6_pushEarlier_94 ?_
                -- to 2 19f.27t@2
                refine T_subp (ks := [0, 1, 2]) (ls' := [(0, vr 85), (1, vi (p:Int)), (2, vi x_5)]) rfl ?_
                obtain rfl : x_5 = ((i + 1) : Int) := by omega
                exact ih2 Y (i + 1) (by omega) hBY fY (by first | assumption | omega) (sti_w ys (fun t s ht _ hd _ _ => hd.elim Or.inl (fun z => Or.inr ⟨z.1, by omega⟩)))
              · skip
                have fi : f i = p := by omega
                have b90 := h90 i (by omega)
                have kb := bn_13 (p := rl i) hn
                have et : (bitsN (rl i) n).testBit j = rl i j := by have z := bn_t (p := rl i) (n := n) (j := j); cases w : (bitsN (rl i) n).testBit j <;> cases w2 : rl i j <;> simp_all
                have e96j := h96 j (by omega)
                have fj := hf j (by omega)
                refine T_al d_X6_pushEarlier_30 rfl ?_
                refine F_gr (b := 90) d_X6_pushEarlier_31 rfl hF rfl ?_
                refine T_il d_X6_pushEarlier_34 rfl ?_
                refine F_ia d_X6_pushEarlier_35 rfl hBY rfl ⟨by omega, by omega⟩ (fun b_6 => ?_)
                try simp only [Int.toNat_natCast]
                try simp only [Int.toNat_natCast] at b_6
                refine T_il d_X6_pushEarlier_36 rfl ?_
                refine T_ishr d_X6_pushEarlier_37 ?_
                refine T_k d_X6_pushEarlier_38 ?_
                refine T_iand d_X6_pushEarlier_39 ?_
                rw [y90, b90, tbI (by omega) (by omega), et]
                refine T_k d_X6_pushEarlier_40 ?_
                refine T_ine d_X6_pushEarlier_41 (bi_r _) ⟨by omega, by omega⟩ (fun h41 => ?_) (fun h41 => ?_)
                · skip
                  refine F_incg d_X6_pushEarlier_85 rfl (f := fun x_7 => [(0, vr 85), (1, vi (p:Int)), (2, vi (i : Int)), (3, vi x_7)]) (fun _ => rfl) (fun x_7 ex_7 => ?_)
                  refine T_go d_X6_pushEarlier_88 ?_
                  -- to 12 19f.27f.41t@12
                  obtain rfl : x_7 = ((j + 1) : Int) := by omega
                  exact ih12 Y (j + 1) (by omega) hBY fY (by first | assumption | omega) (sti_w ys (fun t s ht _ hd hb2 _ => hd.elim Or.inl (fun z => (Nat.lt_or_ge s i).elim (fun y => Or.inr ⟨z.1, Or.inl y⟩) (fun y => by have es : s = i := (by omega); subst es; by_cases et2 : t = j; (subst et2; rw [hs t s] at hb2; exact absurd (bi_1.mpr hb2) h41); exact Or.inr ⟨z.1, by omega⟩))))
                · skip
                  refine T_al d_X6_pushEarlier_44 rfl ?_
                  refine F_gr (b := 96) d_X6_pushEarlier_45 rfl hF rfl ?_
                  refine T_il d_X6_pushEarlier_48 rfl ?_
                  refine F_ia d_X6_pushEarlier_49 rfl hBY rfl ⟨by omega, by omega⟩ (fun b_8 => ?_)
                  try simp only [Int.toNat_natCast, y96]
                  try simp only [Int.toNat_natCast, y96] at b_8
                  rw [e96j]
                  refine T_il d_X6_pushEarlier_50 rfl ?_
                  refine T_ige d_X6_pushEarlier_51 ⟨by omega, by omega⟩ ⟨by omega, by omega⟩ (fun h51 => ?_) (fun h51 => ?_)
                  · skip
                    refine F_incg d_X6_pushEarlier_85 rfl (f := fun x_9 => [(0, vr 85), (1, vi (p:Int)), (2, vi (i : Int)), (3, vi x_9)]) (fun _ => rfl) (fun x_9 ex_9 => ?_)
                    refine T_go d_X6_pushEarlier_88 ?_
                    -- to 12 19f.27f.41f.51t@12
                    obtain rfl : x_9 = ((j + 1) : Int) := by omega
                    exact ih12 Y (j + 1) (by omega) hBY fY (by first | assumption | omega) (sti_w ys (fun t s ht _ hd hb2 hff => hd.elim Or.inl (fun z => by have z1 := z.1; have z2 := z.2; by_cases et2 : t = j ∧ s = i; (obtain ⟨rfl, rfl⟩ := et2; have hff : n - 1 - f s < n - 1 - f t := hff; exact absurd hff (by omega)); exact Or.inr ⟨z1, by omega⟩)))
                  · skip
                    have rij : rl j i = true := by rw [hs j i]; exact bi_1.mp h41
                    have ri := hr j (by omega)
                    have hli := lay_h ri.2.1
                    have bi_ := hb i (by omega)
                    have bj_ := hb j (by omega)
                    have mi : E0 i ≤ - Y 98 i ∧ - Y 98 i ≤ E i := ys.1 i (by omega)
                    have mj : E0 j ≤ - Y 98 j ∧ - Y 98 j ≤ E j := ys.1 j (by omega)
                    have l1 := hlf j (by omega)
                    have fin : - Y 98 i = E i := sti_fin hE ys (i := i) (by omega) (fun s h1 h2 h3 => Or.inl (by have z : n - 1 - f s < n - 1 - f i := h3; omega))
                    have ey : Y (r j) 11 = lf j := (fY _ _ (inA_no (by omega)) rfl).trans ri.2.2
                    refine T_al d_X6_pushEarlier_54 rfl ?_
                    refine F_gr (b := 98) d_X6_pushEarlier_55 rfl hF rfl ?_
                    refine T_il d_X6_pushEarlier_58 rfl ?_
                    refine T_al d_X6_pushEarlier_59 rfl ?_
                    refine F_gr (b := 98) d_X6_pushEarlier_60 rfl hF rfl ?_
                    refine T_il d_X6_pushEarlier_63 rfl ?_
                    refine F_ian d_X6_pushEarlier_64 rfl ⟨by omega, by omega⟩ ?_
                    try simp only [Int.toNat_natCast]
                    refine T_al d_X6_pushEarlier_65 rfl ?_
                    refine F_gr (b := 98) d_X6_pushEarlier_66 rfl hF rfl ?_
                    refine T_il d_X6_pushEarlier_69 rfl ?_
                    refine F_ian d_X6_pushEarlier_70 rfl ⟨by omega, by omega⟩ ?_
                    try simp only [Int.toNat_natCast]
                    refine T_al d_X6_pushEarlier_71 rfl ?_
                    refine F_gr (b := 86) d_X6_pushEarlier_72 rfl hF rfl ?_
                    refine T_il d_X6_pushEarlier_75 rfl ?_
                    refine F_aa d_X6_pushEarlier_76 rfl ⟨by omega, by omega⟩ ?_
                    rw [show R 86 ((j : Nat) : Int).toNat = some (r j) from ri.1]
                    refine F_gi d_X6_pushEarlier_77 hli hBY rfl (fun b_10 => ?_)
                    rw [ey]
                    refine T_isub d_X6_pushEarlier_80 ?_
                    refine T_mmin d_X6_pushEarlier_81 ⟨by omega, by omega⟩ ⟨by omega, by omega⟩ (Nat.le_of_ble_eq_true rfl) (hmF _) ?_
                    refine F_isn d_X6_pushEarlier_84 rfl hBY rfl ⟨by omega, by omega⟩ (fun V_11 eV_11 hBV_11 => ?_)
                    have fV_11 := chg_u eV_11 rfl fY
                    refine F_incg d_X6_pushEarlier_85 rfl (f := fun x_12 => [(0, vr 85), (1, vi (p:Int)), (2, vi (i : Int)), (3, vi x_12)]) (fun _ => rfl) (fun x_12 ex_12 => ?_)
                    refine T_go d_X6_pushEarlier_88 ?_
                    -- to 12 19f.27f.41f.51f@12
                    obtain rfl : x_12 = ((j + 1) : Int) := by omega
                    exact ih12 V_11 (j + 1) (by omega) hBV_11 fV_11 (by first | assumption | omega) (sti_p hE ys (i := j) (j := i) (by omega) (by omega) rij (by show n - 1 - f i < n - 1 - f j; omega) (fun t ht htj => by show - V_11 98 t = _; rw [eV_11, Int.toNat_natCast, uV_at, if_neg htj]) (by show _ ≤ - V_11 98 j ∧ _ ≤ - V_11 98 j ∧ (- V_11 98 j = _ ∨ - V_11 98 j = _); rw [eV_11, Int.toNat_natCast, uV_self]; split <;> omega) (fun a d ha hd hdd hbb hff => by by_cases q : a = j ∧ d = i; (exact Or.inr ⟨q.1, q.2, fin⟩); exact Or.inl (by omega)))
        exact L12 _ X (0) (Nat.lt_succ_self _) hBX fX (by first | assumption | omega) (sti_w xs (fun t s _ _ hd _ _ => hd.elim Or.inl (fun z => Or.inr ⟨z.1, by omega⟩)))
  exact L2 _ V (0) (Nat.lt_succ_self _) hB fV (by first | assumption | omega) (sti_w hst (fun t s _ _ hd _ _ => hd.elim id (fun z => absurd z.2 (Nat.not_lt_zero _))))
set_option maxHeartbeats 1000000 in
set_option maxRecDepth 100000 in
theorem R_X6_setStarts {G : GG} {V : VV} {R : RR} {k : Int} {b : Bk} {k : Int} {c : Nat} {Ks : Nat → Kd} {l : Nat → Nat → Int} {N ch m : Nat} {ρ : Nat → Nat} {rl : Nat → Nat → Bool} {f : Nat → Nat} (hB : Bd V) (hF : FinR R) (bCV : bC b V) (ho : bO b) (hw : bW b) (hk : 0 ≤ k ∧ k ≤ 400) (h39 : ∀ h, h < b.n → V 39 h = owO b k c h) (h58 : ho58 b k c l ch N V) (h87 : ∀ i, i < 24 → V 87 i = mbI ch N i) (hN : N ≤ 24) (hrw : rwI R ρ) (hrl : rwL (spS b k c) Ks N l ρ V) (h13 : chN ch N ≤ 13) (h0 : V 85 0 = (chN ch N : Int)) (h90 : rowC 90 rl (chN ch N) V) (hs : ∀ i j, rl i j = rl j i) (hm : mmR ρ ch N (chN ch N) R) (hlf : ∀ i, i < chN ch N → 0 ≤ lfM Ks l ch N i ∧ lfM Ks l ch N i ≤ 500) (h11 : V 85 11 = 0 ∨ (V 85 11 = 1 ∧ V 85 12 = (m : Int) ∧ m ≤ chN ch N ∧ ∀ i, i < chN ch N → V 96 i = (f i : Int) ∧ f i < m)) : Runs G M_X6_setStarts 9 162 162 [vr 85, vr 1, vr 34, vr 56, vi k] V R (PQ [(97, 98)] [(85, 15, 15)] V R (fun o X => o = none ∧ (V 85 11 = 0 → X 85 15 = 0) ∧ (V 85 11 = 1 → X 85 15 = bi (!(hsB (chN ch N) (eaM (chN ch N) rl f (lfM Ks l ch N) (e0M b k c l ch N b.dn)) (naM (chN ch N) rl f (lfM Ks l ch N) (l0M b k c l ch N b.dn)))) ∧ ∀ i, i < chN ch N → X 97 i = (eaM (chN ch N) rl f (lfM Ks l ch N) (e0M b k c l ch N b.dn)) i ∧ X 98 i = - (naM (chN ch N) rl f (lfM Ks l ch N) (l0M b k c l ch N b.dn)) i))) := by
  refine Runs.of pn_X6 (Nat.le_of_ble_eq_true rfl) rfl ?_
  show TT G M_X6_setStarts (rmd 9 162 162) 162 (Zm G 162 162 (PQ [(97, 98)] [(85, 15, 15)] V R (fun o X => o = none ∧ (V 85 11 = 0 → X 85 15 = 0) ∧ (V 85 11 = 1 → X 85 15 = bi (!(hsB (chN ch N) (eaM (chN ch N) rl f (lfM Ks l ch N) (e0M b k c l ch N b.dn)) (naM (chN ch N) rl f (lfM Ks l ch N) (l0M b k c l ch N b.dn)))) ∧ ∀ i, i < chN ch N → X 97 i = (eaM (chN ch N) rl f (lfM Ks l ch N) (e0M b k c l ch N b.dn)) i ∧ X 98 i = - (naM (chN ch N) rl f (lfM Ks l ch N) (l0M b k c l ch N b.dn)) i)))) 162 0 [(0, vr 85), (1, vr 1), (2, vr 34), (3, vr 56), (4, vi k)] [] V R
  have fV : chg [(97, 98)] [(85, 15, 15)] V V := chg_r
  have hcN : cntB (fun x => ch.testBit x) N = chN ch N := rfl
  have mb : ∀ i, i < chN ch N → mbr ch N i < N := fun i hi => (nth_ok (p := fun x => ch.testBit x) (n := N) (i := i) hi).1
  have hdn := ho.dn
  have hn4 := ho.n
  refine T_al d_X6_setStarts_0 rfl ?_
  refine T_al d_X6_setStarts_1 rfl ?_
  refine F_gi d_X6_setStarts_2 rfl hB rfl (fun b_1 => ?_)
  refine F_pz d_X6_setStarts_5 rfl hB rfl ⟨by omega, by omega⟩ (fun V_2 eV_2 hBV_2 => ?_)
  have fV_2 := chg_u eV_2 rfl fV
  have bCV_2 := bC_c bCV fV_2 rfl
  refine T_al d_X6_setStarts_8 rfl ?_
  refine F_gi d_X6_setStarts_9 rfl hBV_2 rfl (fun b_3 => ?_)
  have fV_2_85_11 : V_2 85 11 = V 85 11 := by rw [eV_2]; rfl
  rw [fV_2_85_11]
  rw [fV_2_85_11] at b_3
  refine T_zne d_X6_setStarts_12 ⟨by omega, by omega⟩ (fun h12 => ?_) (fun h12 => ?_)
  · skip
    obtain ⟨q11, q12, qm, q96⟩ := h11.elim (fun z => absurd z h12) id
    have eb := ea_b (rl := rl) (f := f) (e0 := (e0M b k c l ch N b.dn)) h13 (fun i hi => by have := (q96 i hi).2; omega) hlf (fun i _ => e0_b ho b.dn i)
    have nb := na_b (rl := rl) (f := f) (l0 := (l0M b k c l ch N b.dn)) h13 hlf (fun i _ => l0_b ho b.dn i)
    refine T_al d_X6_setStarts_16 rfl ?_
    have a15 : V_2 85 15 = 1 := by rw [eV_2]; exact uV_self.trans q11
    refine F_gr (b := 97) d_X6_setStarts_17 rfl hF rfl ?_
    refine T_k d_X6_setStarts_20 ?_
    refine C_s2 d_X6_setStarts_21 (hdF (by omega)) (hcF _) (R_fill_97 (v := 0) hBV_2 hF ⟨by omega, by omega⟩) (fun r_4 V_5 R_6 qV_5 => ?_)
    obtain ⟨rfl, hBV_5, cV_5, rfl, pV_5⟩ := qV_5
    have fV_5 := chg_t (A := [(97, 98)]) (F := [(85, 15, 15)]) fV_2 cV_5 rfl
    have bCV_5 := bC_c bCV fV_5 rfl
    have p97 := pV_5
    have r15 : V_5 85 15 = 1 := (cV_5 85 15 rfl rfl).trans a15
    refine T_al d_X6_setStarts_24 rfl ?_
    refine F_gr (b := 98) d_X6_setStarts_25 rfl hF rfl ?_
    refine T_k d_X6_setStarts_28 ?_
    refine C_s2 d_X6_setStarts_31 (hdF (by omega)) (hcF _) (R_fill_98 (v := 2000) hBV_5 hF ⟨by omega, by omega⟩) (fun r_7 V_8 R_9 qV_8 => ?_)
    obtain ⟨rfl, hBV_8, cV_8, rfl, pV_8⟩ := qV_8
    have fV_8 := chg_t (A := [(97, 98)]) (F := [(85, 15, 15)]) fV_5 cV_8 rfl
    have bCV_8 := bC_c bCV fV_8 rfl
    have p98 := pV_8
    have s97 := chg_k (c := 97) cV_8 rfl
    have s15 : V_8 85 15 = 1 := (cV_8 85 15 rfl rfl).trans r15
    refine T_k d_X6_setStarts_34 ?_
    refine T_is d_X6_setStarts_35 (ls' := [(0, vr 85), (1, vr 1), (2, vr 34), (3, vr 56), (4, vi k), (5, vi 0)]) rfl ?_
    -- to 37 12t@37
    have L37 : ∀ (fu : Nat) (X : VV) (t : Nat), b.dn - t < fu → (Bd X) → (chg [(97, 98)] [(85, 15, 15)] V X) → (t ≤ b.dn) → (X 85 15 = 1) → (∀ i, i < chN ch N → X 97 i = e0M b k c l ch N t i) → (∀ i, i < chN ch N → X 98 i = - l0M b k c l ch N t i) → TT G M_X6_setStarts (rmd 9 162 162) 162 (Zm G 162 162 (PQ [(97, 98)] [(85, 15, 15)] V R (fun o X => o = none ∧ (V 85 11 = 0 → X 85 15 = 0) ∧ (V 85 11 = 1 → X 85 15 = bi (!(hsB (chN ch N) (eaM (chN ch N) rl f (lfM Ks l ch N) (e0M b k c l ch N b.dn)) (naM (chN ch N) rl f (lfM Ks l ch N) (l0M b k c l ch N b.dn)))) ∧ ∀ i, i < chN ch N → X 97 i = (eaM (chN ch N) rl f (lfM Ks l ch N) (e0M b k c l ch N b.dn)) i ∧ X 98 i = - (naM (chN ch N) rl f (lfM Ks l ch N) (l0M b k c l ch N b.dn)) i)))) 162 37 [(0, vr 85), (1, vr 1), (2, vr 34), (3, vr 56), (4, vi k), (5, vi (t : Int))] [] X R := by
      intro fu
      induction fu with
      | zero => intro X t hm; exact absurd hm (Nat.not_lt_zero _)
      | succ fu ih37 =>
        intro X t hm37 hBX fX ht x15 x97 x98
        have bCX := bC_c bCV fX rfl
        refine T_il d_X6_setStarts_37 rfl ?_
        refine T_al d_X6_setStarts_39 rfl ?_
        refine F_gr (b := 12) d_X6_setStarts_40 rfl hF rfl ?_
        refine F_gi d_X6_setStarts_43 rfl hBX rfl (fun b_10 => ?_)
        rw [bCX.dn]
        rw [bCX.dn] at b_10
        refine T_ige d_X6_setStarts_46 ⟨by omega, by omega⟩ ⟨by omega, by omega⟩ (fun h46 => ?_) (fun h46 => ?_)
        · skip
          refine T_k d_X6_setStarts_148 ?_
          refine T_is d_X6_setStarts_149 (ls' := [(0, vr 85), (1, vr 1), (2, vr 34), (3, vr 56), (4, vi k), (5, vi 0)]) rfl ?_
          -- to 151 46t@151
          have L151 : ∀ (fu : Nat) (Y : VV) (p : Nat), m - p < fu → (Bd Y) → (chg [(97, 98)] [(85, 15, 15)] V Y) → (p ≤ m) → (Y 85 15 = 1) → (stI (chN ch N) rl f (fun _ j => lfM Ks l ch N j) (e0M b k c l ch N b.dn) (eaM (chN ch N) rl f (lfM Ks l ch N) (e0M b k c l ch N b.dn)) (fun t s => f s < p) (fun t => Y 97 t)) → (∀ i, i < chN ch N → Y 98 i = - l0M b k c l ch N b.dn i) → TT G M_X6_setStarts (rmd 9 162 162) 162 (Zm G 162 162 (PQ [(97, 98)] [(85, 15, 15)] V R (fun o X => o = none ∧ (V 85 11 = 0 → X 85 15 = 0) ∧ (V 85 11 = 1 → X 85 15 = bi (!(hsB (chN ch N) (eaM (chN ch N) rl f (lfM Ks l ch N) (e0M b k c l ch N b.dn)) (naM (chN ch N) rl f (lfM Ks l ch N) (l0M b k c l ch N b.dn)))) ∧ ∀ i, i < chN ch N → X 97 i = (eaM (chN ch N) rl f (lfM Ks l ch N) (e0M b k c l ch N b.dn)) i ∧ X 98 i = - (naM (chN ch N) rl f (lfM Ks l ch N) (l0M b k c l ch N b.dn)) i)))) 162 151 [(0, vr 85), (5, vi (p : Int))] [] Y R := by
            intro fu
            induction fu with
            | zero => intro Y p hm; exact absurd hm (Nat.not_lt_zero _)
            | succ fu ih151 =>
              intro Y p hm151 hBY fY hp y15 y97 y98
              have bCY := bC_c bCV fY rfl
              refine T_il d_X6_setStarts_151 rfl ?_
              have y12 : Y 85 12 = (m : Int) := (fY 85 12 rfl rfl).trans q12
              refine T_al d_X6_setStarts_153 rfl ?_
              refine F_gi d_X6_setStarts_154 rfl hBY rfl (fun b_11 => ?_)
              refine T_ige d_X6_setStarts_157 ⟨by omega, by omega⟩ ⟨by omega, by omega⟩ (fun h157 => ?_) (fun h157 => ?_)
              · skip
                have y12 : Y 85 12 = (m : Int) := (fY 85 12 rfl rfl).trans q12
                have ep : p = m := by omega
                refine T_al d_X6_setStarts_172 rfl ?_
                refine F_gi d_X6_setStarts_173 rfl hBY rfl (fun b_12 => ?_)
                refine T_k d_X6_setStarts_176 ?_
                refine T_isub d_X6_setStarts_177 ?_
                refine F_isg d_X6_setStarts_178 (f := fun x_13 => [(0, vr 85), (5, vi x_13)]) (fun _ => rfl) (fun x_13 ex_13 => ?_)
                -- to 180 157t@180
                have L180 : ∀ (fu : Nat) (W : VV) (y : Int) (r : Nat), r < fu → (Bd W) → (chg [(97, 98)] [(85, 15, 15)] V W) → (y = (r : Int) - 1) → (r ≤ m) → (W 85 15 = 1) → (∀ i, i < chN ch N → W 97 i = (eaM (chN ch N) rl f (lfM Ks l ch N) (e0M b k c l ch N b.dn)) i) → (stI (chN ch N) rl (fun j => chN ch N - 1 - f j) (fun i _ => lfM Ks l ch N i) (l0M b k c l ch N b.dn) (naM (chN ch N) rl f (lfM Ks l ch N) (l0M b k c l ch N b.dn)) (fun t s => r ≤ f s) (fun t => - W 98 t)) → TT G M_X6_setStarts (rmd 9 162 162) 162 (Zm G 162 162 (PQ [(97, 98)] [(85, 15, 15)] V R (fun o X => o = none ∧ (V 85 11 = 0 → X 85 15 = 0) ∧ (V 85 11 = 1 → X 85 15 = bi (!(hsB (chN ch N) (eaM (chN ch N) rl f (lfM Ks l ch N) (e0M b k c l ch N b.dn)) (naM (chN ch N) rl f (lfM Ks l ch N) (l0M b k c l ch N b.dn)))) ∧ ∀ i, i < chN ch N → X 97 i = (eaM (chN ch N) rl f (lfM Ks l ch N) (e0M b k c l ch N b.dn)) i ∧ X 98 i = - (naM (chN ch N) rl f (lfM Ks l ch N) (l0M b k c l ch N b.dn)) i)))) 162 180 [(0, vr 85), (5, vi y)] [] W R := by
                  intro fu
                  induction fu with
                  | zero => intro W y r hm; exact absurd hm (Nat.not_lt_zero _)
                  | succ fu ih180 =>
                    intro W y r hm180 hBW fW ey hr w15 w97 w98
                    have bCW := bC_c bCV fW rfl
                    refine T_il d_X6_setStarts_180 rfl ?_
                    refine T_zlt d_X6_setStarts_182 ⟨by omega, by omega⟩ (fun h182 => ?_) (fun h182 => ?_)
                    · skip
                      refine T_k d_X6_setStarts_197 ?_
                      refine T_is d_X6_setStarts_198 (ls' := [(0, vr 85), (5, vi 0)]) rfl ?_
                      -- to 200 182t@200
                      have L200 : ∀ (fu : Nat) (U : VV) (i : Nat), chN ch N - i < fu → (Bd U) → (chg [(97, 98)] [(85, 15, 15)] V U) → (i ≤ chN ch N) → (∀ i, i < chN ch N → U 97 i = (eaM (chN ch N) rl f (lfM Ks l ch N) (e0M b k c l ch N b.dn)) i) → (∀ i, i < chN ch N → U 98 i = - (naM (chN ch N) rl f (lfM Ks l ch N) (l0M b k c l ch N b.dn)) i) → (U 85 15 = bi (!(hsB i (eaM (chN ch N) rl f (lfM Ks l ch N) (e0M b k c l ch N b.dn)) (naM (chN ch N) rl f (lfM Ks l ch N) (l0M b k c l ch N b.dn))))) → TT G M_X6_setStarts (rmd 9 162 162) 162 (Zm G 162 162 (PQ [(97, 98)] [(85, 15, 15)] V R (fun o X => o = none ∧ (V 85 11 = 0 → X 85 15 = 0) ∧ (V 85 11 = 1 → X 85 15 = bi (!(hsB (chN ch N) (eaM (chN ch N) rl f (lfM Ks l ch N) (e0M b k c l ch N b.dn)) (naM (chN ch N) rl f (lfM Ks l ch N) (l0M b k c l ch N b.dn)))) ∧ ∀ i, i < chN ch N → X 97 i = (eaM (chN ch N) rl f (lfM Ks l ch N) (e0M b k c l ch N b.dn)) i ∧ X 98 i = - (naM (chN ch N) rl f (lfM Ks l ch N) (l0M b k c l ch N b.dn)) i)))) 162 200 [(0, vr 85), (5, vi (i : Int))] [] U R := by
                        intro fu
                        induction fu with
                        | zero => intro U i hm; exact absurd hm (Nat.not_lt_zero _)
                        | succ fu ih200 =>
                          intro U i hm200 hBU fU hi u97 u98 u15
                          have bCU := bC_c bCV fU rfl
                          have u0 : U 85 0 = (chN ch N : Int) := (fU 85 0 rfl rfl).trans h0
                          refine T_il d_X6_setStarts_200 rfl ?_
                          refine T_al d_X6_setStarts_202 rfl ?_
                          refine F_gi d_X6_setStarts_203 rfl hBU rfl (fun b_14 => ?_)
                          refine T_ige d_X6_setStarts_206 ⟨by omega, by omega⟩ ⟨by omega, by omega⟩ (fun h206 => ?_) (fun h206 => ?_)
                          · skip
                            -- leaf 206t@248
                            refine T_vret d_X6_setStarts_248 rfl ?_
                            have ei : i = chN ch N := by omega
                            rw [ei] at u15
                            exact ⟨rfl, hBU, fU, rfl, fun z => absurd z (by omega), fun _ => ⟨u15, fun i hi => ⟨u97 i hi, u98 i hi⟩⟩⟩
                          · skip
                            refine T_al d_X6_setStarts_209 rfl ?_
                            refine T_al d_X6_setStarts_210 rfl ?_
                            refine F_gi d_X6_setStarts_211 rfl hBU rfl (fun b_15 => ?_)
                            refine T_zeq d_X6_setStarts_214 ⟨by omega, by omega⟩ (fun h214 => ?_) (fun h214 => ?_)
                            · skip
                              refine T_k d_X6_setStarts_238 ?_
                              refine F_pz d_X6_setStarts_239 rfl hBU rfl ⟨by omega, by omega⟩ (fun V_16 eV_16 hBV_16 => ?_)
                              have fV_16 := chg_u eV_16 rfl fU
                              have bCV_16 := bC_c bCV fV_16 rfl
                              refine F_incg d_X6_setStarts_242 rfl (f := fun x_17 => [(0, vr 85), (5, vi x_17)]) (fun _ => rfl) (fun x_17 ex_17 => ?_)
                              refine T_go d_X6_setStarts_245 ?_
                              -- to 200 206f.214t@200
                              obtain rfl : x_17 = ((i + 1) : Int) := by omega
                              exact ih200 V_16 (i + 1) (by omega) hBV_16 fV_16 (by first | assumption | omega) (fun i hi => by rw [eV_16, uV_cell (by decide)]; exact u97 i hi) (fun i hi => by rw [eV_16, uV_cell (by decide)]; exact u98 i hi) (hsB_s (n := 0) u15 (by rw [eV_16, uV_self]; exact ⟨fun z => absurd z (by decide), fun z => by omega⟩) (by rw [eV_16, uV_self]; exact Or.inl rfl))
                            · skip
                              refine T_al d_X6_setStarts_217 rfl ?_
                              refine F_gr (b := 97) d_X6_setStarts_218 rfl hF rfl ?_
                              refine T_il d_X6_setStarts_221 rfl ?_
                              refine F_ian d_X6_setStarts_223 rfl ⟨by omega, by omega⟩ ?_
                              try simp only [Int.toNat_natCast]
                              refine T_al d_X6_setStarts_224 rfl ?_
                              refine F_gr (b := 98) d_X6_setStarts_225 rfl hF rfl ?_
                              refine T_il d_X6_setStarts_228 rfl ?_
                              refine F_ian d_X6_setStarts_230 rfl ⟨by omega, by omega⟩ ?_
                              try simp only [Int.toNat_natCast]
                              rw [u97 i (by omega), u98 i (by omega)]
                              have eb1 := eb i (by omega)
                              have nb1 := nb i (by omega)
                              refine T_igt d_X6_setStarts_231 ⟨by omega, by omega⟩ ⟨by omega, by omega⟩ (fun h231 => ?_) (fun h231 => ?_)
                              · skip
                                refine T_k d_X6_setStarts_238 ?_
                                refine F_pz d_X6_setStarts_239 rfl hBU rfl ⟨by omega, by omega⟩ (fun V_18 eV_18 hBV_18 => ?_)
                                have fV_18 := chg_u eV_18 rfl fU
                                have bCV_18 := bC_c bCV fV_18 rfl
                                refine F_incg d_X6_setStarts_242 rfl (f := fun x_19 => [(0, vr 85), (5, vi x_19)]) (fun _ => rfl) (fun x_19 ex_19 => ?_)
                                refine T_go d_X6_setStarts_245 ?_
                                -- to 200 206f.214f.231t@200
                                obtain rfl : x_19 = ((i + 1) : Int) := by omega
                                exact ih200 V_18 (i + 1) (by omega) hBV_18 fV_18 (by first | assumption | omega) (fun i hi => by rw [eV_18, uV_cell (by decide)]; exact u97 i hi) (fun i hi => by rw [eV_18, uV_cell (by decide)]; exact u98 i hi) (hsB_s (n := 0) u15 (by rw [eV_18, uV_self]; exact ⟨fun z => absurd z (by decide), fun z => by omega⟩) (by rw [eV_18, uV_self]; exact Or.inl rfl))
                              · skip
                                refine T_k d_X6_setStarts_234 ?_
                                refine T_go d_X6_setStarts_235 ?_
                                refine F_pz d_X6_setStarts_239 rfl hBU rfl ⟨by omega, by omega⟩ (fun V_20 eV_20 hBV_20 => ?_)
                                have fV_20 := chg_u eV_20 rfl fU
                                have bCV_20 := bC_c bCV fV_20 rfl
                                refine F_incg d_X6_setStarts_242 rfl (f := fun x_21 => [(0, vr 85), (5, vi x_21)]) (fun _ => rfl) (fun x_21 ex_21 => ?_)
                                refine T_go d_X6_setStarts_245 ?_
                                -- to 200 206f.214f.231f@200
                                obtain rfl : x_21 = ((i + 1) : Int) := by omega
                                exact ih200 V_20 (i + 1) (by omega) hBV_20 fV_20 (by first | assumption | omega) (fun i hi => by rw [eV_20, uV_cell (by decide)]; exact u97 i hi) (fun i hi => by rw [eV_20, uV_cell (by decide)]; exact u98 i hi) (hsB_s (n := 0) u15 (by rw [eV_20, uV_self]; exact ⟨fun _ => ⟨by omega, by omega⟩, fun _ => rfl⟩) (by rw [eV_20, uV_self]; exact Or.inr rfl))
                      have er : r = 0 := by omega
                      exact L200 _ W (0) (Nat.lt_succ_self _) hBW fW (by first | assumption | omega) w97 (fun i hi => by have := sti_fin (na_E (chN ch N) rl f (lfM Ks l ch N) (l0M b k c l ch N b.dn)) w98 hi (fun j hj _ _ => by omega); omega) w15
                    · skip
                      obtain ⟨q, eq⟩ : ∃ q, r = q + 1 := ⟨r - 1, by omega⟩
                      obtain rfl : y = (q : Int) := by omega
                      refine T_al d_X6_setStarts_185 rfl ?_
                      refine T_il d_X6_setStarts_186 rfl ?_
                      refine C_v1 d_X6_setStarts_188 rfl (hdF (by omega)) (hcF _) (R_X6_pushEarlier (rl := rl) (f := f) (lf := lfM Ks l ch N) (r := fun i => ρ (mbr ch N i)) (n := chN ch N) (p := q) hBW hF h13 ((fW 85 0 rfl rfl).trans h0) (rowC_x h90 (chg_k (c := 90) fW rfl)) hs (fun i hi => by rw [chg_k (c := 96) fW rfl]; exact (q96 i hi).1) (fun i hi => by have := (q96 i hi).2; omega) (fun i hi => ⟨hm i hi, (hrw.1 _ (by have := mb i hi; omega)).2, (fW _ _ (inA_no (by have := (hrw.1 (mbr ch N i) (by have := mb i hi; omega)).2; omega)) (inF_1 (by have := (hrw.1 (mbr ch N i) (by have := mb i hi; omega)).2; omega))).trans (ho_11 (hrl _ (mb i hi)).1)⟩) hlf (by omega) (na_E (chN ch N) rl f (lfM Ks l ch N) (l0M b k c l ch N b.dn)) (fun i hi => ⟨(l0_b ho b.dn i).1, (nb i hi).2⟩) (sti_w w98 (fun t s _ _ hd _ _ => by omega))) (fun r_22 V_23 R_24 qV_23 => ?_)
                      obtain ⟨rfl, hBV_23, cV_23, rfl, pV_23⟩ := qV_23
                      have fV_23 := chg_t (A := [(97, 98)]) (F := [(85, 15, 15)]) fW cV_23 rfl
                      have bCV_23 := bC_c bCV fV_23 rfl
                      refine F_incg d_X6_setStarts_191 rfl (f := fun x_25 => [(0, vr 85), (5, vi x_25)]) (fun _ => rfl) (fun x_25 ex_25 => ?_)
                      refine T_go d_X6_setStarts_194 ?_
                      -- to 180 182f@180
                      exact ih180 V_23 x_25 (q) (by omega) hBV_23 fV_23 (by omega) (by first | assumption | omega) ((cV_23 85 15 rfl rfl).trans w15) (fun i hi => by rw [chg_k (c := 97) cV_23 rfl]; exact w97 i hi) pV_23
                exact L180 _ Y x_13 (m) (Nat.lt_succ_self _) hBY fY (by omega) (by first | assumption | omega) y15 (fun i hi => sti_fin (ea_E (chN ch N) rl f (lfM Ks l ch N) (e0M b k c l ch N b.dn)) y97 hi (fun j hj _ _ => by have := (q96 j hj).2; omega)) (sti_0 (na_E (chN ch N) rl f (lfM Ks l ch N) (l0M b k c l ch N b.dn)) (fun i hi => by show - Y 98 i = _; rw [y98 i hi]; omega) (fun i j _ hj h _ _ => by have := (q96 j hj).2; omega))
              · skip
                refine T_al d_X6_setStarts_160 rfl ?_
                refine T_il d_X6_setStarts_161 rfl ?_
                refine C_v1 d_X6_setStarts_163 rfl (hdF (by omega)) (hcF _) (R_X6_pushLater (rl := rl) (f := f) (lf := lfM Ks l ch N) (r := fun i => ρ (mbr ch N i)) (n := chN ch N) (p := p) hBY hF h13 ((fY 85 0 rfl rfl).trans h0) (rowC_x h90 (chg_k (c := 90) fY rfl)) hs (fun i hi => by rw [chg_k (c := 96) fY rfl]; exact (q96 i hi).1) (fun i hi => by have := (q96 i hi).2; omega) (fun i hi => ⟨hm i hi, (hrw.1 _ (by have := mb i hi; omega)).2, (fY _ _ (inA_no (by have := (hrw.1 (mbr ch N i) (by have := mb i hi; omega)).2; omega)) (inF_1 (by have := (hrw.1 (mbr ch N i) (by have := mb i hi; omega)).2; omega))).trans (ho_11 (hrl _ (mb i hi)).1)⟩) hlf (by omega) (ea_E (chN ch N) rl f (lfM Ks l ch N) (e0M b k c l ch N b.dn)) (fun i hi => ⟨(e0_b ho b.dn i).1, (eb i hi).2⟩) y97) (fun r_26 V_27 R_28 qV_27 => ?_)
                obtain ⟨rfl, hBV_27, cV_27, rfl, pV_27⟩ := qV_27
                have fV_27 := chg_t (A := [(97, 98)]) (F := [(85, 15, 15)]) fY cV_27 rfl
                have bCV_27 := bC_c bCV fV_27 rfl
                refine F_incg d_X6_setStarts_166 rfl (f := fun x_29 => [(0, vr 85), (5, vi x_29)]) (fun _ => rfl) (fun x_29 ex_29 => ?_)
                refine T_go d_X6_setStarts_169 ?_
                -- to 151 157f@151
                obtain rfl : x_29 = ((p + 1) : Int) := by omega
                exact ih151 V_27 (p + 1) (by omega) hBV_27 fV_27 (by first | assumption | omega) ((cV_27 85 15 rfl rfl).trans y15) (sti_w pV_27 (fun t s _ _ hd _ _ => by omega)) (fun i hi => by rw [chg_k (c := 98) cV_27 rfl]; exact y98 i hi)
          refine T_subp (ks := [0, 5]) (ls' := [(0, vr 85), (5, vi 0)]) rfl ?_
          have et : t = b.dn := by omega
          rw [et] at x97 x98
          exact L151 _ X (0) (Nat.lt_succ_self _) hBX fX (by first | assumption | omega) x15 (sti_0 (ea_E (chN ch N) rl f (lfM Ks l ch N) (e0M b k c l ch N b.dn)) x97 (fun i j _ _ h _ _ => absurd h (Nat.not_lt_zero _))) x98
        · skip
          have w1 := hw.2 t (by omega)
          have w2 := ho.dO t
          have w3 := ho.dK t
          have w4 := ho.dF t
          have w5 := ho.dT t
          have n1 : b.dO t = (((b.dO t).toNat : Nat) : Int) := by omega
          have qA : -1 ≤ memI b k c l ch N (b.dO t).toNat ∧ memI b k c l ch N (b.dO t).toNat ≤ 12 := by rcases memI_r (b := b) (k := k) (c := c) (l := l) (ch := ch) (N := N) (g := (b.dO t).toNat) with z | ⟨i, i1, i2⟩ <;> omega
          refine T_al d_X6_setStarts_49 rfl ?_
          refine T_al d_X6_setStarts_50 rfl ?_
          refine T_al d_X6_setStarts_51 rfl ?_
          refine T_al d_X6_setStarts_52 rfl ?_
          refine F_gr (b := 12) d_X6_setStarts_53 rfl hF rfl ?_
          refine T_il d_X6_setStarts_56 rfl ?_
          refine T_k d_X6_setStarts_58 ?_
          refine C_pv2 d_X6_setStarts_59 rfl (hdF (by omega)) (hcF _) (Gt12_0 hBX hF bCX ho (by omega)) ?_
          rw [n1]
          refine C_pv3 d_X6_setStarts_62 rfl (hdF (by omega)) (hcF _) (R_X6_memberWith (b := b) (k := k) (c := c) (l := l) (N := N) (ch := ch) (g := (b.dO t).toNat) hBX hF ho (by omega) (fun h hh => by rw [chg_k (c := 39) fX rfl]; exact h39 h hh) (ho58_x h58 (chg_k (c := 58) fX rfl)) (fun i hi => by rw [chg_k (c := 87) fX rfl]; exact h87 i hi) hN) ?_
          refine F_isg d_X6_setStarts_65 (f := fun x_30 => [(0, vr 85), (1, vr 1), (2, vr 34), (3, vr 56), (4, vi k), (5, vi (t : Int)), (6, vi x_30)]) (fun _ => rfl) (fun x_30 ex_30 => ?_)
          have e6 := ex_30
          refine T_il d_X6_setStarts_67 rfl ?_
          refine T_k d_X6_setStarts_69 ?_
          refine T_ieq d_X6_setStarts_70 ⟨by omega, by omega⟩ ⟨by omega, by omega⟩ (fun h70 => ?_) (fun h70 => ?_)
          · skip
            refine F_incg d_X6_setStarts_142 rfl (f := fun x_31 => [(0, vr 85), (1, vr 1), (2, vr 34), (3, vr 56), (4, vi k), (5, vi x_31), (6, vi x_30)]) (fun _ => rfl) (fun x_31 ex_31 => ?_)
            refine T_go d_X6_setStarts_145 ?_
            -- to 37 46f.70t@37
            refine T_subp (ks := [0, 1, 2, 3, 4, 5]) (ls' := [(0, vr 85), (1, vr 1), (2, vr 34), (3, vr 56), (4, vi k), (5, vi x_31)]) rfl ?_
            obtain rfl : x_31 = ((t + 1) : Int) := by omega
            exact ih37 X (t + 1) (by omega) hBX fX (by first | assumption | omega) (by first | assumption | omega) (fun i hi => (x97 i hi).trans (e0_no (fun z => by omega)).1.symm) (fun i hi => (x98 i hi).trans (by rw [(e0_no (fun z => by omega)).2]))
          · skip
            refine T_al d_X6_setStarts_73 rfl ?_
            refine F_gr (b := 12) d_X6_setStarts_74 rfl hF rfl ?_
            refine T_il d_X6_setStarts_77 rfl ?_
            refine T_k d_X6_setStarts_79 ?_
            refine C_pv2 d_X6_setStarts_80 rfl (hdF (by omega)) (hcF _) (Gt12_4 hBX hF bCX ho (by omega)) ?_
            refine T_il d_X6_setStarts_83 rfl ?_
            refine T_igt d_X6_setStarts_85 ⟨by omega, by omega⟩ ⟨by omega, by omega⟩ (fun h85 => ?_) (fun h85 => ?_)
            · skip
              refine F_incg d_X6_setStarts_142 rfl (f := fun x_32 => [(0, vr 85), (1, vr 1), (2, vr 34), (3, vr 56), (4, vi k), (5, vi x_32), (6, vi x_30)]) (fun _ => rfl) (fun x_32 ex_32 => ?_)
              refine T_go d_X6_setStarts_145 ?_
              -- to 37 46f.70f.85t@37
              refine T_subp (ks := [0, 1, 2, 3, 4, 5]) (ls' := [(0, vr 85), (1, vr 1), (2, vr 34), (3, vr 56), (4, vi k), (5, vi x_32)]) rfl ?_
              obtain rfl : x_32 = ((t + 1) : Int) := by omega
              exact ih37 X (t + 1) (by omega) hBX fX (by first | assumption | omega) (by first | assumption | omega) (fun i hi => (x97 i hi).trans (e0_no (fun z => by omega)).1.symm) (fun i hi => (x98 i hi).trans (by rw [(e0_no (fun z => by omega)).2]))
            · skip
              obtain ⟨A, A1, A2⟩  := (memI_r (b := b) (k := k) (c := c) (l := l) (ch := ch) (N := N) (g := (b.dO t).toNat)).elim (fun z => absurd z (by omega)) id
              have z6 : x_30 = (A : Int) := e6.trans A2
              rw [z6]
              have xA := x97 A A1
              have xB := x98 A A1
              have bA := e0_b (k := k) (c := c) (l := l) (ch := ch) (N := N) ho t A
              have bB := l0_b (k := k) (c := c) (l := l) (ch := ch) (N := N) ho t A
              have yy := e0_y (b := b) (k := k) (c := c) (l := l) (ch := ch) (N := N) (t := t) (i := A) ⟨by omega, A2⟩
              refine T_al d_X6_setStarts_88 rfl ?_
              refine F_gr (b := 97) d_X6_setStarts_89 rfl hF rfl ?_
              refine T_il d_X6_setStarts_92 rfl ?_
              refine T_al d_X6_setStarts_94 rfl ?_
              refine F_gr (b := 97) d_X6_setStarts_95 rfl hF rfl ?_
              refine T_il d_X6_setStarts_98 rfl ?_
              refine F_ian d_X6_setStarts_100 rfl ⟨by omega, by omega⟩ ?_
              try simp only [Int.toNat_natCast]
              rw [xA]
              refine T_al d_X6_setStarts_101 rfl ?_
              refine F_gr (b := 12) d_X6_setStarts_102 rfl hF rfl ?_
              refine T_il d_X6_setStarts_105 rfl ?_
              refine T_k d_X6_setStarts_107 ?_
              refine C_pv2 d_X6_setStarts_108 rfl (hdF (by omega)) (hcF _) (Gt12_1 hBX hF bCX ho (by omega)) ?_
              refine T_mmax d_X6_setStarts_111 ⟨by omega, by omega⟩ ⟨by omega, by omega⟩ (Nat.le_of_ble_eq_true rfl) (hmF _) ?_
              refine F_isn d_X6_setStarts_114 rfl hBX rfl ⟨by omega, by omega⟩ (fun V_33 eV_33 hBV_33 => ?_)
              have fV_33 := chg_u eV_33 rfl fX
              have bCV_33 := bC_c bCV fV_33 rfl
              refine T_al d_X6_setStarts_115 rfl ?_
              refine F_gr (b := 98) d_X6_setStarts_116 rfl hF rfl ?_
              refine T_il d_X6_setStarts_119 rfl ?_
              refine T_al d_X6_setStarts_121 rfl ?_
              refine F_gr (b := 98) d_X6_setStarts_122 rfl hF rfl ?_
              refine T_il d_X6_setStarts_125 rfl ?_
              refine F_ian d_X6_setStarts_127 rfl ⟨by omega, by omega⟩ ?_
              have faV_33_98 : V_33 98 = X 98 := by rw [eV_33]; rfl
              rw [faV_33_98]
              try simp only [Int.toNat_natCast]
              rw [xB]
              refine T_al d_X6_setStarts_128 rfl ?_
              refine F_gr (b := 12) d_X6_setStarts_129 rfl hF rfl ?_
              refine T_il d_X6_setStarts_132 rfl ?_
              refine T_k d_X6_setStarts_134 ?_
              refine C_pv2 d_X6_setStarts_135 rfl (hdF (by omega)) (hcF _) (Gt12_2 hBV_33 hF bCV_33 ho (by omega)) ?_
              refine T_mmin d_X6_setStarts_138 ⟨by omega, by omega⟩ ⟨by omega, by omega⟩ (Nat.le_of_ble_eq_true rfl) (hmF _) ?_
              refine F_isn d_X6_setStarts_141 rfl hBV_33 rfl ⟨by omega, by omega⟩ (fun V_34 eV_34 hBV_34 => ?_)
              have fV_34 := chg_u eV_34 rfl fV_33
              have bCV_34 := bC_c bCV fV_34 rfl
              refine F_incg d_X6_setStarts_142 rfl (f := fun x_35 => [(0, vr 85), (1, vr 1), (2, vr 34), (3, vr 56), (4, vi k), (5, vi x_35), (6, vi (A : Int))]) (fun _ => rfl) (fun x_35 ex_35 => ?_)
              refine T_go d_X6_setStarts_145 ?_
              -- to 37 46f.70f.85f@37
              refine T_subp (ks := [0, 1, 2, 3, 4, 5]) (ls' := [(0, vr 85), (1, vr 1), (2, vr 34), (3, vr 56), (4, vi k), (5, vi x_35)]) rfl ?_
              obtain rfl : x_35 = ((t + 1) : Int) := by omega
              exact ih37 V_34 (t + 1) (by omega) hBV_34 fV_34 (by first | assumption | omega) (by rw [eV_34, eV_33]; exact x15) (fun i hi => by rw [eV_34, uV_cell (by decide), eV_33, Int.toNat_natCast, uV_at]; by_cases q : i = A; (rw [if_pos q, q, yy.1]); (rw [if_neg q, (e0_no (fun z => by omega)).1]; exact x97 i hi)) (fun i hi => by rw [eV_34, Int.toNat_natCast, uV_at]; by_cases q : i = A; (rw [if_pos q, q, yy.2]; split <;> split <;> omega); (rw [if_neg q, (e0_no (fun z => by omega)).2, eV_33, uV_cell (by decide)]; exact x98 i hi))
    exact L37 _ V_8 (0) (Nat.lt_succ_self _) hBV_8 fV_8 (by first | assumption | omega) s15 (fun i hi => by rw [s97]; exact p97 i (by omega)) (fun i hi => p98 i (by omega))
  · skip
    -- leaf 12f@15
    refine T_vret d_X6_setStarts_15 rfl ?_
    exact ⟨rfl, hBV_2, fV_2, rfl, fun z => by rw [eV_2]; exact uV_self.trans z, fun z => absurd z (by rw [h12]; decide)⟩
