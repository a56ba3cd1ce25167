set_option maxHeartbeats 1000000 in
set_option maxRecDepth 100000 in
theorem R_X11_starts {G : GG} {V : VV} {R : RR} {k : Int} {b : Bk} {k : Int} {c : Nat} {S : Sp} {Ks : Nat → Kd} {nk N ch : Nat} {l : Nat → Nat → Int} {mt lt : Nat → Nat → Bool} {f : Nat → Nat} {v : Nat → Int} (hB : Bd V) (hF : FinR R) (bMV : bM b V) (hw : bW b) (hk : 0 ≤ k ∧ k ≤ 400) (hL : lstV N l V) (hN : N ≤ 24) (hR : allR (rowP b k S Ks nk) N l) (hKs : ∀ i, i < nk → kM (Ks i) i V ∧ kO (Ks i)) (hnk : nk ≤ 5) (hO : cOk v (bL l) N ch) (h13 : chN ch N ≤ 13) (h130 : ∀ g, g < b.n → V 130 g = soO b k c g) (hset : ∀ i, i < N → bL l i < 2 ^ 40 ∧ 0 ≤ l i 10) (h83 : V 99 83 = (chN ch N : Int)) (h151 : ∀ t, t < chN ch N → V 151 t = (mbr ch N t : Int)) (hrel : relM mt lt (chN ch N) V) (hs : ∀ i j, mt i j = mt j i) (h86 : V 99 86 = 0 ∨ (V 99 86 = 1 ∧ ∀ i, i < chN ch N → V 155 i = (f i : Int) ∧ f i < chN ch N)) : Runs G M_X11_starts 20 162 162 [vr 99, vi k] V R (PQ [(156, 157)] [(99, 87, 87)] V R (fun o X => o = none ∧ (V 99 86 = 0 → X 99 87 = 0) ∧ (V 99 86 = 1 → X 99 87 = bi (!(hsB (chN ch N) (eaM (chN ch N) (rlB mt lt) f (lfM Ks l ch N) (e0M b k c l ch N b.dn)) (naM (chN ch N) (rlB mt lt) f (lfM Ks l ch N) (l0M b k c l ch N b.dn)))) ∧ ∀ i, i < chN ch N → X 156 i = (eaM (chN ch N) (rlB mt lt) f (lfM Ks l ch N) (e0M b k c l ch N b.dn)) i ∧ X 157 i = - (naM (chN ch N) (rlB mt lt) f (lfM Ks l ch N) (l0M b k c l ch N b.dn)) i))) := by
  refine Runs.of pn_X11 (Nat.le_of_ble_eq_true rfl) rfl ?_
  show TT G M_X11_starts (rmd 20 162 162) 162 (Zm G 162 162 (PQ [(156, 157)] [(99, 87, 87)] V R (fun o X => o = none ∧ (V 99 86 = 0 → X 99 87 = 0) ∧ (V 99 86 = 1 → X 99 87 = bi (!(hsB (chN ch N) (eaM (chN ch N) (rlB mt lt) f (lfM Ks l ch N) (e0M b k c l ch N b.dn)) (naM (chN ch N) (rlB mt lt) f (lfM Ks l ch N) (l0M b k c l ch N b.dn)))) ∧ ∀ i, i < chN ch N → X 156 i = (eaM (chN ch N) (rlB mt lt) f (lfM Ks l ch N) (e0M b k c l ch N b.dn)) i ∧ X 157 i = - (naM (chN ch N) (rlB mt lt) f (lfM Ks l ch N) (l0M b k c l ch N b.dn)) i)))) 162 0 [(0, vr 99), (1, vi k)] [] V R
  have fV : chg [(156, 157)] [(99, 87, 87)] V V := chg_r
  have hcN : cntB (fun x => ch.testBit x) N = chN ch N := rfl
  have bo := bO_of bMV hB
  have bon := bo.n
  have bodn := bo.dn
  have hrs := rl_cm (mt := mt) (lt := lt) hs
  have kdf : ∀ i, i < chN ch N → 0 ≤ l (mbr ch N i) 0 ∧ (l (mbr ch N i) 0).toNat < nk := fun i hi => by obtain ⟨kd, p, q, r, ⟨z1, _⟩, _, ⟨z2, _⟩, _⟩ := row_f (hR (mbr ch N i) (nth_ok (p := fun x => ch.testBit x) (n := N) (i := i) hi).1) (fun x hx => (hKs x hx).2); omega
  have hlf : ∀ i, i < chN ch N → 0 ≤ lfM Ks l ch N i ∧ lfM Ks l ch N i ≤ 500 := fun i hi => by have z := (hKs _ (kdf i hi).2).2.2.2.2.2.2.2.2.2.1; unfold lfM; omega
  have LFc : ∀ (i : Nat) (X : VV), chg [(156, 157)] [(99, 87, 87)] V X → Bd X → i < chN ch N → RunsP G M_X11_lifeOf 1 [vr 99, vi (i : Int)] X R (vi (lfM Ks l ch N i)) := fun i X fX hBX hi => by
    have ni := nth_ok (p := fun x => ch.testBit x) (n := N) (i := i) hi
    have z := (lstV_c hL fX rfl).2 _ ni.1 0 (by omega)
    have kd := kdf i hi
    have mi : mbr ch N i < N := ni.1
    exact R_X11_lifeOf (Ks := Ks) (l := l) (N := N) (ch := ch) (i := i) (kd := (l (mbr ch N i) 0).toNat) hBX hF (by omega) (by rw [chg_k (c := 151) fX rfl]; exact h151 i hi) (by omega) (by rw [show X 135 (mbr ch N i) = l (mbr ch N i) 0 from z]; omega) (by omega) (by rw [chg_k (c := 122) fX rfl]; exact ((hKs _ kd.2).1 8 (by omega)).1)
  refine T_al d_X11_starts_0 rfl ?_
  refine T_al d_X11_starts_1 rfl ?_
  refine F_gi d_X11_starts_2 rfl hB rfl (fun b_1 => ?_)
  refine F_pz d_X11_starts_5 rfl hB rfl ⟨by omega, by omega⟩ (fun V_2 eV_2 hBV_2 => ?_)
  have fV_2 := chg_u eV_2 rfl fV
  have bMV_2 := bM_c bMV fV_2 rfl
  refine T_al d_X11_starts_8 rfl ?_
  refine F_gi d_X11_starts_9 rfl hBV_2 rfl (fun b_3 => ?_)
  have fV_2_99_86 : V_2 99 86 = V 99 86 := by rw [eV_2]; rfl
  rw [fV_2_99_86]
  rw [fV_2_99_86] at b_3
  refine T_zne d_X11_starts_12 ⟨by omega, by omega⟩ (fun h12 => ?_) (fun h12 => ?_)
  · skip
    obtain ⟨q86, q155⟩ := h86.elim (fun z => absurd z h12) id
    have eb := ea_b (rl := (rlB mt lt)) (f := f) (e0 := (e0M b k c l ch N b.dn)) h13 (fun i hi => (q155 i hi).2) hlf (fun i _ => e0_b bo b.dn i)
    have nb := na_b (rl := (rlB mt lt)) (f := f) (l0 := (l0M b k c l ch N b.dn)) h13 hlf (fun i _ => l0_b bo b.dn i)
    refine T_k d_X11_starts_16 ?_
    refine T_is d_X11_starts_17 (ls' := [(0, vr 99), (1, vi k), (2, vi 0)]) rfl ?_
    -- to 18 12t@18
    have L18 : ∀ (fu : Nat) (X : VV) (i : Nat), chN ch N - i < fu → (Bd X) → (chg [(156, 157)] [(99, 87, 87)] V X) → (i ≤ chN ch N) → (X 99 87 = 1) → (∀ x, x < i → X 156 x = e0M b k c l ch N b.dn x ∧ X 157 x = - l0M b k c l ch N b.dn x) → TT G M_X11_starts (rmd 20 162 162) 162 (Zm G 162 162 (PQ [(156, 157)] [(99, 87, 87)] V R (fun o X => o = none ∧ (V 99 86 = 0 → X 99 87 = 0) ∧ (V 99 86 = 1 → X 99 87 = bi (!(hsB (chN ch N) (eaM (chN ch N) (rlB mt lt) f (lfM Ks l ch N) (e0M b k c l ch N b.dn)) (naM (chN ch N) (rlB mt lt) f (lfM Ks l ch N) (l0M b k c l ch N b.dn)))) ∧ ∀ i, i < chN ch N → X 156 i = (eaM (chN ch N) (rlB mt lt) f (lfM Ks l ch N) (e0M b k c l ch N b.dn)) i ∧ X 157 i = - (naM (chN ch N) (rlB mt lt) f (lfM Ks l ch N) (l0M b k c l ch N b.dn)) i)))) 162 18 [(0, vr 99), (1, vi k), (2, vi (i : Int))] [] X R := by
      intro fu
      induction fu with
      | zero => intro X i hm; exact absurd hm (Nat.not_lt_zero _)
      | succ fu ih18 =>
        intro X i hm18 hBX fX hi x87 x1
        have bMX := bM_c bMV fX rfl
        have x83 : X 99 83 = (chN ch N : Int) := (fX 99 83 rfl rfl).trans h83
        refine T_il d_X11_starts_18 rfl ?_
        refine T_al d_X11_starts_19 rfl ?_
        refine F_gi d_X11_starts_20 rfl hBX rfl (fun b_4 => ?_)
        refine T_ige d_X11_starts_23 ⟨by omega, by omega⟩ ⟨by omega, by omega⟩ (fun h23 => ?_) (fun h23 => ?_)
        · skip
          refine T_k d_X11_starts_164 ?_
          refine T_is d_X11_starts_165 (ls' := [(0, vr 99), (1, vi k), (2, vi 0)]) rfl ?_
          -- to 166 23t@166
          have L166 : ∀ (fu : Nat) (W : VV) (r : Nat), chN ch N - r < fu → (Bd W) → (chg [(156, 157)] [(99, 87, 87)] V W) → (r ≤ chN ch N) → (W 99 87 = 1) → (stI (chN ch N) (rlB mt lt) f (fun _ j => lfM Ks l ch N j) (e0M b k c l ch N b.dn) (eaM (chN ch N) (rlB mt lt) f (lfM Ks l ch N) (e0M b k c l ch N b.dn)) (fun t s => f s < r) (fun t => W 156 t)) → (stI (chN ch N) (rlB mt lt) (fun j => chN ch N - 1 - f j) (fun i _ => lfM Ks l ch N i) (l0M b k c l ch N b.dn) (naM (chN ch N) (rlB mt lt) f (lfM Ks l ch N) (l0M b k c l ch N b.dn)) (fun t s => (chN ch N - 1 - f s) < r) (fun t => - W 157 t)) → TT G M_X11_starts (rmd 20 162 162) 162 (Zm G 162 162 (PQ [(156, 157)] [(99, 87, 87)] V R (fun o X => o = none ∧ (V 99 86 = 0 → X 99 87 = 0) ∧ (V 99 86 = 1 → X 99 87 = bi (!(hsB (chN ch N) (eaM (chN ch N) (rlB mt lt) f (lfM Ks l ch N) (e0M b k c l ch N b.dn)) (naM (chN ch N) (rlB mt lt) f (lfM Ks l ch N) (l0M b k c l ch N b.dn)))) ∧ ∀ i, i < chN ch N → X 156 i = (eaM (chN ch N) (rlB mt lt) f (lfM Ks l ch N) (e0M b k c l ch N b.dn)) i ∧ X 157 i = - (naM (chN ch N) (rlB mt lt) f (lfM Ks l ch N) (l0M b k c l ch N b.dn)) i)))) 162 166 [(0, vr 99), (2, vi (r : Int))] [] W R := by
            intro fu
            induction fu with
            | zero => intro W r hm; exact absurd hm (Nat.not_lt_zero _)
            | succ fu ih166 =>
              intro W r hm166 hBW fW hr w87 we wl
              have bMW := bM_c bMV fW rfl
              have w83 : W 99 83 = (chN ch N : Int) := (fW 99 83 rfl rfl).trans h83
              refine T_il d_X11_starts_166 rfl ?_
              refine T_al d_X11_starts_167 rfl ?_
              refine F_gi d_X11_starts_168 rfl hBW rfl (fun b_5 => ?_)
              refine T_ige d_X11_starts_171 ⟨by omega, by omega⟩ ⟨by omega, by omega⟩ (fun h171 => ?_) (fun h171 => ?_)
              · skip
                refine T_k d_X11_starts_329 ?_
                refine T_is d_X11_starts_330 (ls' := [(0, vr 99), (2, vi 0)]) rfl ?_
                -- to 331 171t@331
                have L331 : ∀ (fu : Nat) (T : VV) (i : Nat), chN ch N - i < fu → (Bd T) → (chg [(156, 157)] [(99, 87, 87)] V T) → (i ≤ chN ch N) → (∀ i, i < chN ch N → T 156 i = (eaM (chN ch N) (rlB mt lt) f (lfM Ks l ch N) (e0M b k c l ch N b.dn)) i) → (∀ i, i < chN ch N → T 157 i = - (naM (chN ch N) (rlB mt lt) f (lfM Ks l ch N) (l0M b k c l ch N b.dn)) i) → (T 99 87 = bi (!(hsB i (eaM (chN ch N) (rlB mt lt) f (lfM Ks l ch N) (e0M b k c l ch N b.dn)) (naM (chN ch N) (rlB mt lt) f (lfM Ks l ch N) (l0M b k c l ch N b.dn))))) → TT G M_X11_starts (rmd 20 162 162) 162 (Zm G 162 162 (PQ [(156, 157)] [(99, 87, 87)] V R (fun o X => o = none ∧ (V 99 86 = 0 → X 99 87 = 0) ∧ (V 99 86 = 1 → X 99 87 = bi (!(hsB (chN ch N) (eaM (chN ch N) (rlB mt lt) f (lfM Ks l ch N) (e0M b k c l ch N b.dn)) (naM (chN ch N) (rlB mt lt) f (lfM Ks l ch N) (l0M b k c l ch N b.dn)))) ∧ ∀ i, i < chN ch N → X 156 i = (eaM (chN ch N) (rlB mt lt) f (lfM Ks l ch N) (e0M b k c l ch N b.dn)) i ∧ X 157 i = - (naM (chN ch N) (rlB mt lt) f (lfM Ks l ch N) (l0M b k c l ch N b.dn)) i)))) 162 331 [(0, vr 99), (2, vi (i : Int))] [] T R := by
                  intro fu
                  induction fu with
                  | zero => intro T i hm; exact absurd hm (Nat.not_lt_zero _)
                  | succ fu ih331 =>
                    intro T i hm331 hBT fT hi u1 u2 u3
                    have bMT := bM_c bMV fT rfl
                    have u83 : T 99 83 = (chN ch N : Int) := (fT 99 83 rfl rfl).trans h83
                    refine T_il d_X11_starts_331 rfl ?_
                    refine T_al d_X11_starts_332 rfl ?_
                    refine F_gi d_X11_starts_333 rfl hBT rfl (fun b_6 => ?_)
                    refine T_ige d_X11_starts_336 ⟨by omega, by omega⟩ ⟨by omega, by omega⟩ (fun h336 => ?_) (fun h336 => ?_)
                    · skip
                      -- leaf 336t@376
                      refine T_vret d_X11_starts_376 rfl ?_
                      have ei : i = chN ch N := by omega
                      rw [ei] at u3
                      exact ⟨rfl, hBT, fT, rfl, fun z => absurd z (by omega), fun _ => ⟨u3, fun i hi => ⟨u1 i hi, u2 i hi⟩⟩⟩
                    · skip
                      refine T_al d_X11_starts_339 rfl ?_
                      refine T_al d_X11_starts_340 rfl ?_
                      refine F_gi d_X11_starts_341 rfl hBT rfl (fun b_7 => ?_)
                      refine T_zeq d_X11_starts_344 ⟨by omega, by omega⟩ (fun h344 => ?_) (fun h344 => ?_)
                      · skip
                        refine T_k d_X11_starts_366 ?_
                        refine F_pz d_X11_starts_367 rfl hBT rfl ⟨by omega, by omega⟩ (fun V_8 eV_8 hBV_8 => ?_)
                        have fV_8 := chg_u eV_8 rfl fT
                        have bMV_8 := bM_c bMV fV_8 rfl
                        refine F_incg d_X11_starts_370 rfl (f := fun x_9 => [(0, vr 99), (2, vi x_9)]) (fun _ => rfl) (fun x_9 ex_9 => ?_)
                        refine T_go d_X11_starts_373 ?_
                        -- to 331 336f.344t@331
                        obtain rfl : x_9 = ((i + 1) : Int) := by omega
                        exact ih331 V_8 (i + 1) (by omega) hBV_8 fV_8 (by first | assumption | omega) (fun i hi => by rw [eV_8, uV_cell (by decide)]; exact u1 i hi) (fun i hi => by rw [eV_8, uV_cell (by decide)]; exact u2 i hi) (hsB_s (n := 0) u3 (by rw [eV_8, uV_self]; exact ⟨fun z => absurd z (by decide), fun z => by omega⟩) (by rw [eV_8, uV_self]; exact Or.inl rfl))
                      · skip
                        refine T_al d_X11_starts_347 rfl ?_
                        refine F_gr (b := 156) d_X11_starts_348 rfl hF rfl ?_
                        refine T_il d_X11_starts_351 rfl ?_
                        refine F_ian d_X11_starts_352 rfl ⟨by omega, by omega⟩ ?_
                        try simp only [Int.toNat_natCast]
                        refine T_al d_X11_starts_353 rfl ?_
                        refine F_gr (b := 157) d_X11_starts_354 rfl hF rfl ?_
                        refine T_il d_X11_starts_357 rfl ?_
                        refine F_ian d_X11_starts_358 rfl ⟨by omega, by omega⟩ ?_
                        try simp only [Int.toNat_natCast]
                        rw [u1 i (by omega), u2 i (by omega)]
                        have eb1 := eb i (by omega)
                        have nb1 := nb i (by omega)
                        refine T_igt d_X11_starts_359 ⟨by omega, by omega⟩ ⟨by omega, by omega⟩ (fun h359 => ?_) (fun h359 => ?_)
                        · skip
                          refine T_k d_X11_starts_366 ?_
                          refine F_pz d_X11_starts_367 rfl hBT rfl ⟨by omega, by omega⟩ (fun V_10 eV_10 hBV_10 => ?_)
                          have fV_10 := chg_u eV_10 rfl fT
                          have bMV_10 := bM_c bMV fV_10 rfl
                          refine F_incg d_X11_starts_370 rfl (f := fun x_11 => [(0, vr 99), (2, vi x_11)]) (fun _ => rfl) (fun x_11 ex_11 => ?_)
                          refine T_go d_X11_starts_373 ?_
                          -- to 331 336f.344f.359t@331
                          obtain rfl : x_11 = ((i + 1) : Int) := by omega
                          exact ih331 V_10 (i + 1) (by omega) hBV_10 fV_10 (by first | assumption | omega) (fun i hi => by rw [eV_10, uV_cell (by decide)]; exact u1 i hi) (fun i hi => by rw [eV_10, uV_cell (by decide)]; exact u2 i hi) (hsB_s (n := 0) u3 (by rw [eV_10, uV_self]; exact ⟨fun z => absurd z (by decide), fun z => by omega⟩) (by rw [eV_10, uV_self]; exact Or.inl rfl))
                        · skip
                          refine T_k d_X11_starts_362 ?_
                          refine T_go d_X11_starts_363 ?_
                          refine F_pz d_X11_starts_367 rfl hBT rfl ⟨by omega, by omega⟩ (fun V_12 eV_12 hBV_12 => ?_)
                          have fV_12 := chg_u eV_12 rfl fT
                          have bMV_12 := bM_c bMV fV_12 rfl
                          refine F_incg d_X11_starts_370 rfl (f := fun x_13 => [(0, vr 99), (2, vi x_13)]) (fun _ => rfl) (fun x_13 ex_13 => ?_)
                          refine T_go d_X11_starts_373 ?_
                          -- to 331 336f.344f.359f@331
                          obtain rfl : x_13 = ((i + 1) : Int) := by omega
                          exact ih331 V_12 (i + 1) (by omega) hBV_12 fV_12 (by first | assumption | omega) (fun i hi => by rw [eV_12, uV_cell (by decide)]; exact u1 i hi) (fun i hi => by rw [eV_12, uV_cell (by decide)]; exact u2 i hi) (hsB_s (n := 0) u3 (by rw [eV_12, uV_self]; exact ⟨fun _ => ⟨by omega, by omega⟩, fun _ => rfl⟩) (by rw [eV_12, uV_self]; exact Or.inr rfl))
                have er : r = chN ch N := by omega
                exact L331 _ W (0) (Nat.lt_succ_self _) hBW fW (by first | assumption | omega) (fun i hi => sti_fin (ea_E (chN ch N) (rlB mt lt) f (lfM Ks l ch N) (e0M b k c l ch N b.dn)) we hi (fun j hj _ _ => by have := (q155 j hj).2; omega)) (fun i hi => by have := sti_fin (na_E (chN ch N) (rlB mt lt) f (lfM Ks l ch N) (l0M b k c l ch N b.dn)) wl hi (fun j hj _ _ => by omega); omega) w87
              · skip
                refine T_k d_X11_starts_174 ?_
                refine T_is d_X11_starts_175 (ls' := [(0, vr 99), (2, vi (r : Int)), (3, vi 0)]) rfl ?_
                -- to 176 171f@176
                have L176 : ∀ (fu : Nat) (U : VV) (i : Nat), chN ch N - i < fu → (Bd U) → (chg [(156, 157)] [(99, 87, 87)] V U) → (i ≤ chN ch N) → (U 99 87 = 1) → (stI (chN ch N) (rlB mt lt) f (fun _ j => lfM Ks l ch N j) (e0M b k c l ch N b.dn) (eaM (chN ch N) (rlB mt lt) f (lfM Ks l ch N) (e0M b k c l ch N b.dn)) (fun t s => f s < r ∨ (f s ≤ r ∧ t < i)) (fun t => U 156 t)) → (stI (chN ch N) (rlB mt lt) (fun j => chN ch N - 1 - f j) (fun i _ => lfM Ks l ch N i) (l0M b k c l ch N b.dn) (naM (chN ch N) (rlB mt lt) f (lfM Ks l ch N) (l0M b k c l ch N b.dn)) (fun t s => (chN ch N - 1 - f s) < r ∨ ((chN ch N - 1 - f s) ≤ r ∧ s < i)) (fun t => - U 157 t)) → TT G M_X11_starts (rmd 20 162 162) 162 (Zm G 162 162 (PQ [(156, 157)] [(99, 87, 87)] V R (fun o X => o = none ∧ (V 99 86 = 0 → X 99 87 = 0) ∧ (V 99 86 = 1 → X 99 87 = bi (!(hsB (chN ch N) (eaM (chN ch N) (rlB mt lt) f (lfM Ks l ch N) (e0M b k c l ch N b.dn)) (naM (chN ch N) (rlB mt lt) f (lfM Ks l ch N) (l0M b k c l ch N b.dn)))) ∧ ∀ i, i < chN ch N → X 156 i = (eaM (chN ch N) (rlB mt lt) f (lfM Ks l ch N) (e0M b k c l ch N b.dn)) i ∧ X 157 i = - (naM (chN ch N) (rlB mt lt) f (lfM Ks l ch N) (l0M b k c l ch N b.dn)) i)))) 162 176 [(0, vr 99), (2, vi (r : Int)), (3, vi (i : Int))] [] U R := by
                  intro fu
                  induction fu with
                  | zero => intro U i hm; exact absurd hm (Nat.not_lt_zero _)
                  | succ fu ih176 =>
                    intro U i hm176 hBU fU hi u87 ue ul
                    have bMU := bM_c bMV fU rfl
                    have u83 : U 99 83 = (chN ch N : Int) := (fU 99 83 rfl rfl).trans h83
                    refine T_il d_X11_starts_176 rfl ?_
                    refine T_al d_X11_starts_177 rfl ?_
                    refine F_gi d_X11_starts_178 rfl hBU rfl (fun b_14 => ?_)
                    refine T_ige d_X11_starts_181 ⟨by omega, by omega⟩ ⟨by omega, by omega⟩ (fun h181 => ?_) (fun h181 => ?_)
                    · skip
                      refine F_incg d_X11_starts_323 rfl (f := fun x_15 => [(0, vr 99), (2, vi x_15), (3, vi (i : Int))]) (fun _ => rfl) (fun x_15 ex_15 => ?_)
                      refine T_go d_X11_starts_326 ?_
                      -- to 166 181t@166
                      refine T_subp (ks := [0, 1]) (ls' := [(0, vr 99), (2, vi x_15)]) rfl ?_
                      obtain rfl : x_15 = ((r + 1) : Int) := by omega
                      exact ih166 U (r + 1) (by omega) hBU fU (by first | assumption | omega) u87 (sti_w ue (fun t s ht _ hd _ _ => by omega)) (sti_w ul (fun t s _ hs2 hd _ _ => by omega))
                    · skip
                      refine T_k d_X11_starts_184 ?_
                      refine T_is d_X11_starts_185 (ls' := [(0, vr 99), (2, vi (r : Int)), (3, vi (i : Int)), (4, vi 0)]) rfl ?_
                      -- to 187 181f@187
                      have L187 : ∀ (fu : Nat) (Z : VV) (j : Nat), chN ch N - j < fu → (Bd Z) → (chg [(156, 157)] [(99, 87, 87)] V Z) → (j ≤ chN ch N) → (Z 99 87 = 1) → (stI (chN ch N) (rlB mt lt) f (fun _ j => lfM Ks l ch N j) (e0M b k c l ch N b.dn) (eaM (chN ch N) (rlB mt lt) f (lfM Ks l ch N) (e0M b k c l ch N b.dn)) (fun t s => f s < r ∨ (f s ≤ r ∧ (t < i ∨ (t = i ∧ s < j)))) (fun t => Z 156 t)) → (stI (chN ch N) (rlB mt lt) (fun j => chN ch N - 1 - f j) (fun i _ => lfM Ks l ch N i) (l0M b k c l ch N b.dn) (naM (chN ch N) (rlB mt lt) f (lfM Ks l ch N) (l0M b k c l ch N b.dn)) (fun t s => (chN ch N - 1 - f s) < r ∨ ((chN ch N - 1 - f s) ≤ r ∧ (s < i ∨ (s = i ∧ t < j)))) (fun t => - Z 157 t)) → TT G M_X11_starts (rmd 20 162 162) 162 (Zm G 162 162 (PQ [(156, 157)] [(99, 87, 87)] V R (fun o X => o = none ∧ (V 99 86 = 0 → X 99 87 = 0) ∧ (V 99 86 = 1 → X 99 87 = bi (!(hsB (chN ch N) (eaM (chN ch N) (rlB mt lt) f (lfM Ks l ch N) (e0M b k c l ch N b.dn)) (naM (chN ch N) (rlB mt lt) f (lfM Ks l ch N) (l0M b k c l ch N b.dn)))) ∧ ∀ i, i < chN ch N → X 156 i = (eaM (chN ch N) (rlB mt lt) f (lfM Ks l ch N) (e0M b k c l ch N b.dn)) i ∧ X 157 i = - (naM (chN ch N) (rlB mt lt) f (lfM Ks l ch N) (l0M b k c l ch N b.dn)) i)))) 162 187 [(0, vr 99), (2, vi (r : Int)), (3, vi (i : Int)), (4, vi (j : Int))] [] Z R := by
                        intro fu
                        induction fu with
                        | zero => intro Z j hm; exact absurd hm (Nat.not_lt_zero _)
                        | succ fu ih187 =>
                          intro Z j hm187 hBZ fZ hj z87 ze zl
                          have bMZ := bM_c bMV fZ rfl
                          have z83 : Z 99 83 = (chN ch N : Int) := (fZ 99 83 rfl rfl).trans h83
                          refine T_il d_X11_starts_187 rfl ?_
                          refine T_al d_X11_starts_189 rfl ?_
                          refine F_gi d_X11_starts_190 rfl hBZ rfl (fun b_16 => ?_)
                          refine T_ige d_X11_starts_193 ⟨by omega, by omega⟩ ⟨by omega, by omega⟩ (fun h193 => ?_) (fun h193 => ?_)
                          · skip
                            refine F_incg d_X11_starts_317 rfl (f := fun x_17 => [(0, vr 99), (2, vi (r : Int)), (3, vi x_17), (4, vi (j : Int))]) (fun _ => rfl) (fun x_17 ex_17 => ?_)
                            refine T_go d_X11_starts_320 ?_
                            -- to 176 193t@176
                            refine T_subp (ks := [0, 1, 2]) (ls' := [(0, vr 99), (2, vi (r : Int)), (3, vi x_17)]) rfl ?_
                            obtain rfl : x_17 = ((i + 1) : Int) := by omega
                            exact ih176 Z (i + 1) (by omega) hBZ fZ (by first | assumption | omega) z87 (sti_w ze (fun t s _ hs2 hd _ _ => by omega)) (sti_w zl (fun t s ht _ hd _ _ => by omega))
                          · skip
                            have fi := q155 i (by omega)
                            have fj := q155 j (by omega)
                            have lj := hlf j (by omega)
                            have bi1 := eb i (by omega)
                            have bj1 := eb j (by omega)
                            have bi2 := nb i (by omega)
                            have bj2 := nb j (by omega)
                            have mi1 : e0M b k c l ch N b.dn i ≤ Z 156 i ∧ Z 156 i ≤ (eaM (chN ch N) (rlB mt lt) f (lfM Ks l ch N) (e0M b k c l ch N b.dn)) i := ze.1 i (by omega)
                            have mj1 : e0M b k c l ch N b.dn j ≤ Z 156 j ∧ Z 156 j ≤ (eaM (chN ch N) (rlB mt lt) f (lfM Ks l ch N) (e0M b k c l ch N b.dn)) j := ze.1 j (by omega)
                            have mi2 : l0M b k c l ch N b.dn i ≤ - Z 157 i ∧ - Z 157 i ≤ (naM (chN ch N) (rlB mt lt) f (lfM Ks l ch N) (l0M b k c l ch N b.dn)) i := zl.1 i (by omega)
                            have mj2 : l0M b k c l ch N b.dn j ≤ - Z 157 j ∧ - Z 157 j ≤ (naM (chN ch N) (rlB mt lt) f (lfM Ks l ch N) (l0M b k c l ch N b.dn)) j := zl.1 j (by omega)
                            have ei0 := e0_b (k := k) (c := c) (l := l) (ch := ch) (N := N) bo b.dn i
                            have ej0 := e0_b (k := k) (c := c) (l := l) (ch := ch) (N := N) bo b.dn j
                            have li0 := l0_b (k := k) (c := c) (l := l) (ch := ch) (N := N) bo b.dn i
                            have lj0 := l0_b (k := k) (c := c) (l := l) (ch := ch) (N := N) bo b.dn j
                            have finE : f j ≤ r → Z 156 j = (eaM (chN ch N) (rlB mt lt) f (lfM Ks l ch N) (e0M b k c l ch N b.dn)) j := fun hr => sti_fin (ea_E (chN ch N) (rlB mt lt) f (lfM Ks l ch N) (e0M b k c l ch N b.dn)) ze (i := j) (by omega) (fun s h1 h2 h3 => Or.inl (by omega))
                            have finL : chN ch N - 1 - f i ≤ r → - Z 157 i = (naM (chN ch N) (rlB mt lt) f (lfM Ks l ch N) (l0M b k c l ch N b.dn)) i := fun hr => sti_fin (na_E (chN ch N) (rlB mt lt) f (lfM Ks l ch N) (l0M b k c l ch N b.dn)) zl (i := i) (by omega) (fun s h1 h2 h3 => Or.inl (by have h3 : chN ch N - 1 - f s < chN ch N - 1 - f i := h3; omega))
                            refine T_al d_X11_starts_196 rfl ?_
                            refine T_il d_X11_starts_197 rfl ?_
                            refine T_il d_X11_starts_198 rfl ?_
                            refine C_pv2 d_X11_starts_200 rfl (hdF (by omega)) (hcF _) (R_X11_areBound (mt := mt) (lt := lt) (n := chN ch N) (i := i) (j := j) hBZ hF (relM_x hrel (chg_k (c := 152) fZ rfl) (chg_k (c := 153) fZ rfl)) h13 (by omega) (by omega)) ?_
                            refine T_pz0 d_X11_starts_203 (fun h203 => ?_) (fun h203 => ?_)
                            · skip
                              refine F_incg d_X11_starts_311 rfl (f := fun x_18 => [(0, vr 99), (2, vi (r : Int)), (3, vi (i : Int)), (4, vi x_18)]) (fun _ => rfl) (fun x_18 ex_18 => ?_)
                              refine T_go d_X11_starts_314 ?_
                              -- to 187 193f.203t@187
                              obtain rfl : x_18 = ((j + 1) : Int) := by omega
                              exact ih187 Z (j + 1) (by omega) hBZ fZ (by first | assumption | omega) z87 (sti_w ze (fun t s _ _ hd hbb hff => by by_cases q : t = i ∧ s = j; (obtain ⟨rfl, rfl⟩ := q; exact absurd hbb h203); omega)) (sti_w zl (fun t s _ _ hd hbb hff => by by_cases q : t = j ∧ s = i; (obtain ⟨rfl, rfl⟩ := q; exact absurd ((hrs s t).trans hbb) h203); omega))
                            · skip
                              refine T_al d_X11_starts_206 rfl ?_
                              refine F_gr (b := 155) d_X11_starts_207 rfl hF rfl ?_
                              refine T_il d_X11_starts_210 rfl ?_
                              refine F_ia d_X11_starts_211 rfl hBZ rfl ⟨by omega, by omega⟩ (fun b_19 => ?_)
                              try simp only [Int.toNat_natCast]
                              try simp only [Int.toNat_natCast] at b_19
                              rw [show Z 155 i = (f i : Int) from by rw [chg_k (c := 155) fZ rfl]; exact fi.1]
                              refine T_al d_X11_starts_212 rfl ?_
                              refine F_gr (b := 155) d_X11_starts_213 rfl hF rfl ?_
                              refine T_il d_X11_starts_216 rfl ?_
                              refine F_ia d_X11_starts_218 rfl hBZ rfl ⟨by omega, by omega⟩ (fun b_20 => ?_)
                              try simp only [Int.toNat_natCast]
                              try simp only [Int.toNat_natCast] at b_20
                              rw [show Z 155 j = (f j : Int) from by rw [chg_k (c := 155) fZ rfl]; exact fj.1]
                              refine T_igt d_X11_starts_219 ⟨by omega, by omega⟩ ⟨by omega, by omega⟩ (fun h219 => ?_) (fun h219 => ?_)
                              · skip
                                have rij : rlB mt lt i j = true := h203
                                have rji : rlB mt lt j i = true := (hrs j i).trans h203
                                have L268 : ∀ (Q : VV), (Bd Q) → (chg [(156, 157)] [(99, 87, 87)] V Q) → (Q 99 87 = 1) → (stI (chN ch N) (rlB mt lt) f (fun _ j => lfM Ks l ch N j) (e0M b k c l ch N b.dn) (eaM (chN ch N) (rlB mt lt) f (lfM Ks l ch N) (e0M b k c l ch N b.dn)) (fun t s => f s < r ∨ (f s ≤ r ∧ (t < i ∨ (t = i ∧ s < (j + 1))))) (fun t => Q 156 t)) → (stI (chN ch N) (rlB mt lt) (fun j => chN ch N - 1 - f j) (fun i _ => lfM Ks l ch N i) (l0M b k c l ch N b.dn) (naM (chN ch N) (rlB mt lt) f (lfM Ks l ch N) (l0M b k c l ch N b.dn)) (fun t s => (chN ch N - 1 - f s) < r ∨ ((chN ch N - 1 - f s) ≤ r ∧ (s < i ∨ (s = i ∧ t < j)))) (fun t => - Q 157 t)) → (Q 157 = Z 157) → TT G M_X11_starts (rmd 20 162 162) 162 (Zm G 162 162 (PQ [(156, 157)] [(99, 87, 87)] V R (fun o X => o = none ∧ (V 99 86 = 0 → X 99 87 = 0) ∧ (V 99 86 = 1 → X 99 87 = bi (!(hsB (chN ch N) (eaM (chN ch N) (rlB mt lt) f (lfM Ks l ch N) (e0M b k c l ch N b.dn)) (naM (chN ch N) (rlB mt lt) f (lfM Ks l ch N) (l0M b k c l ch N b.dn)))) ∧ ∀ i, i < chN ch N → X 156 i = (eaM (chN ch N) (rlB mt lt) f (lfM Ks l ch N) (e0M b k c l ch N b.dn)) i ∧ X 157 i = - (naM (chN ch N) (rlB mt lt) f (lfM Ks l ch N) (l0M b k c l ch N b.dn)) i)))) 162 268 [(0, vr 99), (2, vi (r : Int)), (3, vi (i : Int)), (4, vi (j : Int))] [] Q R := by
                                  intro Q hBQ fQ q87 qe ql q157
                                  have bMQ := bM_c bMV fQ rfl
                                  have qi : Q 157 i = Z 157 i := by rw [q157]
                                  have qj : Q 157 j = Z 157 j := by rw [q157]
                                  refine T_al d_X11_starts_268 rfl ?_
                                  refine F_gr (b := 157) d_X11_starts_269 rfl hF rfl ?_
                                  refine T_il d_X11_starts_272 rfl ?_
                                  refine F_ian d_X11_starts_273 rfl ⟨by omega, by omega⟩ ?_
                                  try simp only [Int.toNat_natCast]
                                  refine T_al d_X11_starts_274 rfl ?_
                                  refine T_il d_X11_starts_275 rfl ?_
                                  refine C_pv1 d_X11_starts_277 rfl (hdF (by omega)) (hcF _) (LFc j Q fQ hBQ (by omega)) ?_
                                  refine T_isub d_X11_starts_280 ?_
                                  refine T_al d_X11_starts_281 rfl ?_
                                  refine F_gr (b := 157) d_X11_starts_282 rfl hF rfl ?_
                                  refine T_il d_X11_starts_285 rfl ?_
                                  refine F_ian d_X11_starts_287 rfl ⟨by omega, by omega⟩ ?_
                                  try simp only [Int.toNat_natCast]
                                  refine T_ige d_X11_starts_288 ⟨by omega, by omega⟩ ⟨by omega, by omega⟩ (fun h288 => ?_) (fun h288 => ?_)
                                  · skip
                                    refine F_incg d_X11_starts_311 rfl (f := fun x_21 => [(0, vr 99), (2, vi (r : Int)), (3, vi (i : Int)), (4, vi x_21)]) (fun _ => rfl) (fun x_21 ex_21 => ?_)
                                    refine T_go d_X11_starts_314 ?_
                                    -- to 187 288t@187
                                    obtain rfl : x_21 = ((j + 1) : Int) := by omega
                                    exact ih187 Q (j + 1) (by omega) hBQ fQ (by first | assumption | omega) q87 qe (sti_p (na_E (chN ch N) (rlB mt lt) f (lfM Ks l ch N) (l0M b k c l ch N b.dn)) ql (i := j) (j := i) (by omega) (by omega) rji (show chN ch N - 1 - f i < chN ch N - 1 - f j by omega) (fun t ht htj => rfl) ⟨Int.le_refl _, by omega, Or.inl rfl⟩ (fun a d ha hd hdd hbb hff => by by_cases q : a = j ∧ d = i; (obtain ⟨rfl, rfl⟩ := q; by_cases q2 : chN ch N - 1 - f d ≤ r; exact Or.inr ⟨rfl, rfl, by rw [q157]; exact finL q2⟩; omega); exact Or.inl (by omega)))
                                  · skip
                                    refine T_al d_X11_starts_291 rfl ?_
                                    refine F_gr (b := 157) d_X11_starts_292 rfl hF rfl ?_
                                    refine T_il d_X11_starts_295 rfl ?_
                                    refine T_al d_X11_starts_297 rfl ?_
                                    refine F_gr (b := 157) d_X11_starts_298 rfl hF rfl ?_
                                    refine T_il d_X11_starts_301 rfl ?_
                                    refine F_ian d_X11_starts_302 rfl ⟨by omega, by omega⟩ ?_
                                    try simp only [Int.toNat_natCast]
                                    refine T_al d_X11_starts_303 rfl ?_
                                    refine T_il d_X11_starts_304 rfl ?_
                                    refine C_pv1 d_X11_starts_306 rfl (hdF (by omega)) (hcF _) (LFc j Q fQ hBQ (by omega)) ?_
                                    refine T_isub d_X11_starts_309 ?_
                                    refine F_isn d_X11_starts_310 rfl hBQ rfl ⟨by omega, by omega⟩ (fun V_22 eV_22 hBV_22 => ?_)
                                    have fV_22 := chg_u eV_22 rfl fQ
                                    have bMV_22 := bM_c bMV fV_22 rfl
                                    refine F_incg d_X11_starts_311 rfl (f := fun x_23 => [(0, vr 99), (2, vi (r : Int)), (3, vi (i : Int)), (4, vi x_23)]) (fun _ => rfl) (fun x_23 ex_23 => ?_)
                                    refine T_go d_X11_starts_314 ?_
                                    -- to 187 288f@187
                                    obtain rfl : x_23 = ((j + 1) : Int) := by omega
                                    exact ih187 V_22 (j + 1) (by omega) hBV_22 fV_22 (by first | assumption | omega) (by rw [eV_22]; exact q87) (sti_e qe (fun t ht => by show V_22 156 t = Q 156 t; rw [eV_22, uV_cell (by decide)])) (sti_p (na_E (chN ch N) (rlB mt lt) f (lfM Ks l ch N) (l0M b k c l ch N b.dn)) ql (i := j) (j := i) (by omega) (by omega) rji (show chN ch N - 1 - f i < chN ch N - 1 - f j by omega) (fun t ht htj => by show - V_22 157 t = _; rw [eV_22, Int.toNat_natCast, uV_at, if_neg htj]) (by show _ ≤ - V_22 157 j ∧ _ ≤ - V_22 157 j ∧ (- V_22 157 j = _ ∨ - V_22 157 j = _); rw [eV_22, Int.toNat_natCast, uV_self]; exact ⟨by omega, by omega, Or.inr (by omega)⟩) (fun a d ha hd hdd hbb hff => by by_cases q : a = j ∧ d = i; (obtain ⟨rfl, rfl⟩ := q; by_cases q2 : chN ch N - 1 - f d ≤ r; exact Or.inr ⟨rfl, rfl, by rw [q157]; exact finL q2⟩; omega); exact Or.inl (by omega)))
                                refine T_al d_X11_starts_225 rfl ?_
                                refine F_gr (b := 156) d_X11_starts_226 rfl hF rfl ?_
                                refine T_il d_X11_starts_229 rfl ?_
                                refine F_ian d_X11_starts_231 rfl ⟨by omega, by omega⟩ ?_
                                try simp only [Int.toNat_natCast]
                                refine T_al d_X11_starts_232 rfl ?_
                                refine T_il d_X11_starts_233 rfl ?_
                                refine C_pv1 d_X11_starts_235 rfl (hdF (by omega)) (hcF _) (LFc j Z fZ hBZ (by omega)) ?_
                                refine T_iadd d_X11_starts_238 ?_
                                refine T_al d_X11_starts_239 rfl ?_
                                refine F_gr (b := 156) d_X11_starts_240 rfl hF rfl ?_
                                refine T_il d_X11_starts_243 rfl ?_
                                refine F_ian d_X11_starts_244 rfl ⟨by omega, by omega⟩ ?_
                                try simp only [Int.toNat_natCast]
                                refine T_ile d_X11_starts_245 ⟨by omega, by omega⟩ ⟨by omega, by omega⟩ (fun h245 => ?_) (fun h245 => ?_)
                                · skip
                                  -- to 268 193f.203f.219t.245t@268
                                  exact L268 Z hBZ fZ z87 (sti_p (ea_E (chN ch N) (rlB mt lt) f (lfM Ks l ch N) (e0M b k c l ch N b.dn)) ze (i := i) (j := j) (by omega) (by omega) rij (by omega) (fun t ht htj => rfl) ⟨Int.le_refl _, by omega, Or.inl rfl⟩ (fun a d ha hd hdd hbb hff => by by_cases q : a = i ∧ d = j; (obtain ⟨rfl, rfl⟩ := q; by_cases q2 : f d ≤ r; exact Or.inr ⟨rfl, rfl, finE q2⟩; omega); exact Or.inl (by omega))) zl rfl
                                · skip
                                  refine T_al d_X11_starts_248 rfl ?_
                                  refine F_gr (b := 156) d_X11_starts_249 rfl hF rfl ?_
                                  refine T_il d_X11_starts_252 rfl ?_
                                  refine T_al d_X11_starts_253 rfl ?_
                                  refine F_gr (b := 156) d_X11_starts_254 rfl hF rfl ?_
                                  refine T_il d_X11_starts_257 rfl ?_
                                  refine F_ian d_X11_starts_259 rfl ⟨by omega, by omega⟩ ?_
                                  try simp only [Int.toNat_natCast]
                                  refine T_al d_X11_starts_260 rfl ?_
                                  refine T_il d_X11_starts_261 rfl ?_
                                  refine C_pv1 d_X11_starts_263 rfl (hdF (by omega)) (hcF _) (LFc j Z fZ hBZ (by omega)) ?_
                                  refine T_iadd d_X11_starts_266 ?_
                                  refine F_isn d_X11_starts_267 rfl hBZ rfl ⟨by omega, by omega⟩ (fun V_24 eV_24 hBV_24 => ?_)
                                  have fV_24 := chg_u eV_24 rfl fZ
                                  have bMV_24 := bM_c bMV fV_24 rfl
                                  -- to 268 193f.203f.219t.245f@268
                                  exact L268 V_24 hBV_24 fV_24 (by rw [eV_24]; exact z87) (sti_p (ea_E (chN ch N) (rlB mt lt) f (lfM Ks l ch N) (e0M b k c l ch N b.dn)) ze (i := i) (j := j) (by omega) (by omega) rij (by omega) (fun t ht htj => by show V_24 156 t = _; rw [eV_24, Int.toNat_natCast, uV_at, if_neg htj]) (by show _ ≤ V_24 156 i ∧ _ ≤ V_24 156 i ∧ (V_24 156 i = _ ∨ V_24 156 i = _); rw [eV_24, Int.toNat_natCast, uV_self]; exact ⟨by omega, by omega, Or.inr rfl⟩) (fun a d ha hd hdd hbb hff => by by_cases q : a = i ∧ d = j; (obtain ⟨rfl, rfl⟩ := q; by_cases q2 : f d ≤ r; exact Or.inr ⟨rfl, rfl, finE q2⟩; omega); exact Or.inl (by omega))) (sti_e zl (fun t ht => by show - V_24 157 t = - Z 157 t; rw [eV_24, uV_cell (by decide)])) (by rw [eV_24, uV_cell (by decide)])
                              · skip
                                refine T_go d_X11_starts_222 ?_
                                refine F_incg d_X11_starts_311 rfl (f := fun x_25 => [(0, vr 99), (2, vi (r : Int)), (3, vi (i : Int)), (4, vi x_25)]) (fun _ => rfl) (fun x_25 ex_25 => ?_)
                                refine T_go d_X11_starts_314 ?_
                                -- to 187 193f.203f.219f@187
                                obtain rfl : x_25 = ((j + 1) : Int) := by omega
                                exact ih187 Z (j + 1) (by omega) hBZ fZ (by first | assumption | omega) z87 (sti_w ze (fun t s _ _ hd hbb hff => by by_cases q : t = i ∧ s = j; (obtain ⟨rfl, rfl⟩ := q; exact absurd hff (by omega)); omega)) (sti_w zl (fun t s _ _ hd hbb hff => by by_cases q : t = j ∧ s = i; (obtain ⟨rfl, rfl⟩ := q; exact absurd hff (show ¬ chN ch N - 1 - f s < chN ch N - 1 - f t by omega)); omega))
                      exact L187 _ U (0) (Nat.lt_succ_self _) hBU fU (by first | assumption | omega) u87 (sti_w ue (fun t s _ _ hd _ _ => by omega)) (sti_w ul (fun t s _ _ hd _ _ => by omega))
                exact L176 _ W (0) (Nat.lt_succ_self _) hBW fW (by first | assumption | omega) w87 (sti_w we (fun t s _ _ hd _ _ => by omega)) (sti_w wl (fun t s _ _ hd _ _ => by omega))
          refine T_subp (ks := [0, 2]) (ls' := [(0, vr 99), (2, vi 0)]) rfl ?_
          have ei : i = chN ch N := by omega
          rw [ei] at x1
          exact L166 _ X (0) (Nat.lt_succ_self _) hBX fX (by first | assumption | omega) x87 (sti_0 (ea_E (chN ch N) (rlB mt lt) f (lfM Ks l ch N) (e0M b k c l ch N b.dn)) (fun x hx => (x1 x hx).1) (fun i j _ _ h _ _ => absurd h (Nat.not_lt_zero _))) (sti_0 (na_E (chN ch N) (rlB mt lt) f (lfM Ks l ch N) (l0M b k c l ch N b.dn)) (fun x hx => by show - X 157 x = _; rw [(x1 x hx).2]; omega) (fun i j _ _ h _ _ => absurd h (Nat.not_lt_zero _)))
        · skip
          refine T_al d_X11_starts_26 rfl ?_
          refine F_gr (b := 156) d_X11_starts_27 rfl hF rfl ?_
          refine T_il d_X11_starts_30 rfl ?_
          refine T_k d_X11_starts_31 ?_
          refine F_isn d_X11_starts_32 rfl hBX rfl ⟨by omega, by omega⟩ (fun V_26 eV_26 hBV_26 => ?_)
          have fV_26 := chg_u eV_26 rfl fX
          have bMV_26 := bM_c bMV fV_26 rfl
          refine T_al d_X11_starts_33 rfl ?_
          refine F_gr (b := 157) d_X11_starts_34 rfl hF rfl ?_
          refine T_il d_X11_starts_37 rfl ?_
          refine T_k d_X11_starts_38 ?_
          refine F_isn d_X11_starts_41 rfl hBV_26 rfl ⟨by omega, by omega⟩ (fun V_27 eV_27 hBV_27 => ?_)
          have fV_27 := chg_u eV_27 rfl fV_26
          have bMV_27 := bM_c bMV fV_27 rfl
          refine T_k d_X11_starts_42 ?_
          refine T_is d_X11_starts_43 (ls' := [(0, vr 99), (1, vi k), (2, vi (i : Int)), (3, vi 0)]) rfl ?_
          -- to 44 23f@44
          have L44 : ∀ (fu : Nat) (Y : VV) (t : Nat), b.dn - t < fu → (Bd Y) → (chg [(156, 157)] [(99, 87, 87)] V Y) → (t ≤ b.dn) → (Y 99 87 = 1) → (∀ x, x < i → Y 156 x = e0M b k c l ch N b.dn x ∧ Y 157 x = - l0M b k c l ch N b.dn x) → (Y 156 i = e0M b k c l ch N t i) → (Y 157 i = - l0M b k c l ch N t i) → TT G M_X11_starts (rmd 20 162 162) 162 (Zm G 162 162 (PQ [(156, 157)] [(99, 87, 87)] V R (fun o X => o = none ∧ (V 99 86 = 0 → X 99 87 = 0) ∧ (V 99 86 = 1 → X 99 87 = bi (!(hsB (chN ch N) (eaM (chN ch N) (rlB mt lt) f (lfM Ks l ch N) (e0M b k c l ch N b.dn)) (naM (chN ch N) (rlB mt lt) f (lfM Ks l ch N) (l0M b k c l ch N b.dn)))) ∧ ∀ i, i < chN ch N → X 156 i = (eaM (chN ch N) (rlB mt lt) f (lfM Ks l ch N) (e0M b k c l ch N b.dn)) i ∧ X 157 i = - (naM (chN ch N) (rlB mt lt) f (lfM Ks l ch N) (l0M b k c l ch N b.dn)) i)))) 162 44 [(0, vr 99), (1, vi k), (2, vi (i : Int)), (3, vi (t : Int))] [] Y R := by
            intro fu
            induction fu with
            | zero => intro Y t hm; exact absurd hm (Nat.not_lt_zero _)
            | succ fu ih44 =>
              intro Y t hm44 hBY fY ht y87 y1 y2 y3
              have bMY := bM_c bMV fY rfl
              refine T_il d_X11_starts_44 rfl ?_
              refine T_al d_X11_starts_45 rfl ?_
              refine F_gi d_X11_starts_46 rfl hBY rfl (fun b_28 => ?_)
              rw [bMY.dn]
              rw [bMY.dn] at b_28
              refine T_ige d_X11_starts_49 ⟨by omega, by omega⟩ ⟨by omega, by omega⟩ (fun h49 => ?_) (fun h49 => ?_)
              · skip
                refine F_incg d_X11_starts_158 rfl (f := fun x_29 => [(0, vr 99), (1, vi k), (2, vi x_29), (3, vi (t : Int))]) (fun _ => rfl) (fun x_29 ex_29 => ?_)
                refine T_go d_X11_starts_161 ?_
                -- to 18 49t@18
                refine T_subp (ks := [0, 1, 2]) (ls' := [(0, vr 99), (1, vi k), (2, vi x_29)]) rfl ?_
                have et : t = b.dn := by omega
                rw [et] at y2 y3
                obtain rfl : x_29 = ((i + 1) : Int) := by omega
                exact ih18 Y (i + 1) (by omega) hBY fY (by first | assumption | omega) y87 (up_all y1 ⟨y2, y3⟩)
              · skip
                have w1 := hw.2 t (by omega)
                have w2 := bo.dO t
                have w3 := bo.dK t
                have w4 := bo.dF t
                have w5 := bo.dT t
                have n1 : b.dO t = (((b.dO t).toNat : Nat) : Int) := by omega
                have ni := nth_ok (p := fun x => ch.testBit x) (n := N) (i := i) (show i < cntB (fun x => ch.testBit x) N by omega)
                have mi : mbr ch N i < N := ni.1
                have bA := e0_b (k := k) (c := c) (l := l) (ch := ch) (N := N) bo t i
                have bB := l0_b (k := k) (c := c) (l := l) (ch := ch) (N := N) bo t i
                have mo := mem_of (b := b) (k := k) (c := c) (g := (b.dO t).toNat) hO (show i < cntB (fun x => ch.testBit x) N by omega)
                refine T_al d_X11_starts_52 rfl ?_
                refine F_gr (b := 119) d_X11_starts_53 rfl hF rfl ?_
                refine T_il d_X11_starts_56 rfl ?_
                refine F_ia d_X11_starts_57 rfl hBY rfl ⟨by omega, by omega⟩ (fun b_30 => ?_)
                rw [bMY.dK]
                rw [bMY.dK] at b_30
                try simp only [Int.toNat_natCast]
                try simp only [Int.toNat_natCast] at b_30
                refine T_il d_X11_starts_58 rfl ?_
                refine T_igt d_X11_starts_59 ⟨by omega, by omega⟩ ⟨by omega, by omega⟩ (fun h59 => ?_) (fun h59 => ?_)
                · skip
                  refine F_incg d_X11_starts_152 rfl (f := fun x_31 => [(0, vr 99), (1, vi k), (2, vi (i : Int)), (3, vi x_31)]) (fun _ => rfl) (fun x_31 ex_31 => ?_)
                  refine T_go d_X11_starts_155 ?_
                  -- to 44 49f.59t@44
                  obtain rfl : x_31 = ((t + 1) : Int) := by omega
                  exact ih44 Y (t + 1) (by omega) hBY fY (by first | assumption | omega) y87 y1 (y2.trans (e0_no (fun z => by omega)).1.symm) (y3.trans (by rw [(e0_no (fun z => by omega)).2]))
                · skip
                  refine T_al d_X11_starts_62 rfl ?_
                  refine T_al d_X11_starts_63 rfl ?_
                  refine F_gr (b := 116) d_X11_starts_64 rfl hF rfl ?_
                  refine T_il d_X11_starts_67 rfl ?_
                  refine F_ia d_X11_starts_68 rfl hBY rfl ⟨by omega, by omega⟩ (fun b_32 => ?_)
                  rw [bMY.dO]
                  rw [bMY.dO] at b_32
                  try simp only [Int.toNat_natCast]
                  try simp only [Int.toNat_natCast] at b_32
                  rw [n1]
                  refine T_il d_X11_starts_69 rfl ?_
                  refine C_pv2 d_X11_starts_70 rfl (hdF (by omega)) (hcF _) (R_X11_isThere (b := b) hBY hF bMY (h := (b.dO t).toNat) (by omega) ⟨by omega, by omega⟩) ?_
                  refine T_pz0 d_X11_starts_73 (fun h73 => ?_) (fun h73 => ?_)
                  · skip
                    refine F_incg d_X11_starts_152 rfl (f := fun x_33 => [(0, vr 99), (1, vi k), (2, vi (i : Int)), (3, vi x_33)]) (fun _ => rfl) (fun x_33 ex_33 => ?_)
                    refine T_go d_X11_starts_155 ?_
                    -- to 44 49f.59f.73t@44
                    obtain rfl : x_33 = ((t + 1) : Int) := by omega
                    exact ih44 Y (t + 1) (by omega) hBY fY (by first | assumption | omega) y87 y1 (y2.trans (e0_no (fun z => h73 (of_thr (mo.mpr z.2)))).1.symm) (y3.trans (by rw [(e0_no (fun z => h73 (of_thr (mo.mpr z.2)))).2]))
                  · skip
                    refine T_al d_X11_starts_76 rfl ?_
                    refine T_al d_X11_starts_77 rfl ?_
                    refine F_gr (b := 116) d_X11_starts_78 rfl hF rfl ?_
                    refine T_il d_X11_starts_81 rfl ?_
                    refine F_ia d_X11_starts_82 rfl hBY rfl ⟨by omega, by omega⟩ (fun b_34 => ?_)
                    rw [bMY.dO]
                    rw [bMY.dO] at b_34
                    try simp only [Int.toNat_natCast]
                    try simp only [Int.toNat_natCast] at b_34
                    rw [n1]
                    refine T_al d_X11_starts_83 rfl ?_
                    refine F_gr (b := 151) d_X11_starts_84 rfl hF rfl ?_
                    refine T_il d_X11_starts_87 rfl ?_
                    refine F_ia d_X11_starts_88 rfl hBY rfl ⟨by omega, by omega⟩ (fun b_35 => ?_)
                    try simp only [Int.toNat_natCast]
                    try simp only [Int.toNat_natCast] at b_35
                    rw [show Y 151 i = (mbr ch N i : Int) from by rw [chg_k (c := 151) fY rfl]; exact h151 i (by omega)]
                    refine C_pv2 d_X11_starts_89 rfl (hdF (by omega)) (hcF _) (R_X11_isOf (b := b) (k := k) (c := c) (l := l) (g := (b.dO t).toNat) (i := mbr ch N i) hBY hF (by omega) (by omega) (by rw [chg_k (c := 130) fY rfl]; exact h130 _ (by omega)) (by have z := (lstV_c hL fY rfl).2 _ ni.1 10 (by omega); have z2 := (hset _ ni.1).2; show Y 145 (mbr ch N i) = _; rw [show Y 145 (mbr ch N i) = l (mbr ch N i) 10 from z]; exact (Int.toNat_of_nonneg z2).symm) (hset _ ni.1).1) ?_
                    refine T_pz1 d_X11_starts_92 (fun h92 => ?_) (fun h92 => ?_)
                    · skip
                      have yy := e0_y (b := b) (k := k) (c := c) (l := l) (ch := ch) (N := N) (t := t) (i := i) ⟨by omega, mo.mp h92⟩
                      refine T_al d_X11_starts_98 rfl ?_
                      refine F_gr (b := 117) d_X11_starts_99 rfl hF rfl ?_
                      refine T_il d_X11_starts_102 rfl ?_
                      refine F_ia d_X11_starts_103 rfl hBY rfl ⟨by omega, by omega⟩ (fun b_36 => ?_)
                      rw [bMY.dF]
                      rw [bMY.dF] at b_36
                      try simp only [Int.toNat_natCast]
                      try simp only [Int.toNat_natCast] at b_36
                      refine T_al d_X11_starts_104 rfl ?_
                      refine F_gr (b := 156) d_X11_starts_105 rfl hF rfl ?_
                      refine T_il d_X11_starts_108 rfl ?_
                      refine F_ian d_X11_starts_109 rfl ⟨by omega, by omega⟩ ?_
                      try simp only [Int.toNat_natCast]
                      rw [y2]
                      refine T_ile d_X11_starts_110 ⟨by omega, by omega⟩ ⟨by omega, by omega⟩ (fun h110 => ?_) (fun h110 => ?_)
                      · skip
                        refine T_al d_X11_starts_125 rfl ?_
                        refine F_gr (b := 118) d_X11_starts_126 rfl hF rfl ?_
                        refine T_il d_X11_starts_129 rfl ?_
                        refine F_ia d_X11_starts_130 rfl hBY rfl ⟨by omega, by omega⟩ (fun b_37 => ?_)
                        rw [bMY.dT]
                        rw [bMY.dT] at b_37
                        try simp only [Int.toNat_natCast]
                        try simp only [Int.toNat_natCast] at b_37
                        refine T_al d_X11_starts_131 rfl ?_
                        refine F_gr (b := 157) d_X11_starts_132 rfl hF rfl ?_
                        refine T_il d_X11_starts_135 rfl ?_
                        refine F_ian d_X11_starts_136 rfl ⟨by omega, by omega⟩ ?_
                        try simp only [Int.toNat_natCast]
                        rw [y3]
                        refine T_ige d_X11_starts_137 ⟨by omega, by omega⟩ ⟨by omega, by omega⟩ (fun h137 => ?_) (fun h137 => ?_)
                        · skip
                          refine F_incg d_X11_starts_152 rfl (f := fun x_38 => [(0, vr 99), (1, vi k), (2, vi (i : Int)), (3, vi x_38)]) (fun _ => rfl) (fun x_38 ex_38 => ?_)
                          refine T_go d_X11_starts_155 ?_
                          -- to 44 49f.59f.73f.92t.110t.137t@44
                          obtain rfl : x_38 = ((t + 1) : Int) := by omega
                          exact ih44 Y (t + 1) (by omega) hBY fY (by first | assumption | omega) y87 (fun x hx => ⟨by exact (y1 x hx).1, by exact (y1 x hx).2⟩) (by rw [yy.1, if_neg (by omega)]; exact y2) (by rw [yy.2, if_neg (by omega)]; exact y3)
                        · skip
                          refine T_al d_X11_starts_140 rfl ?_
                          refine F_gr (b := 157) d_X11_starts_141 rfl hF rfl ?_
                          refine T_il d_X11_starts_144 rfl ?_
                          refine T_al d_X11_starts_145 rfl ?_
                          refine F_gr (b := 118) d_X11_starts_146 rfl hF rfl ?_
                          refine T_il d_X11_starts_149 rfl ?_
                          refine F_ia d_X11_starts_150 rfl hBY rfl ⟨by omega, by omega⟩ (fun b_39 => ?_)
                          rw [bMY.dT]
                          rw [bMY.dT] at b_39
                          try simp only [Int.toNat_natCast]
                          try simp only [Int.toNat_natCast] at b_39
                          refine F_isn d_X11_starts_151 rfl hBY rfl ⟨by omega, by omega⟩ (fun V_40 eV_40 hBV_40 => ?_)
                          have fV_40 := chg_u eV_40 rfl fY
                          have bMV_40 := bM_c bMV fV_40 rfl
                          refine F_incg d_X11_starts_152 rfl (f := fun x_41 => [(0, vr 99), (1, vi k), (2, vi (i : Int)), (3, vi x_41)]) (fun _ => rfl) (fun x_41 ex_41 => ?_)
                          refine T_go d_X11_starts_155 ?_
                          -- to 44 49f.59f.73f.92t.110t.137f@44
                          obtain rfl : x_41 = ((t + 1) : Int) := by omega
                          exact ih44 V_40 (t + 1) (by omega) hBV_40 fV_40 (by first | assumption | omega) (by rw [eV_40]; exact y87) (fun x hx => ⟨by rw [eV_40]; rw [uV_cell (by decide)]; exact (y1 x hx).1, by rw [eV_40]; rw [Int.toNat_natCast, uV_at, if_neg (by omega)]; exact (y1 x hx).2⟩) (by rw [eV_40]; rw [uV_cell (by decide)]; rw [yy.1, if_neg (by omega)]; exact y2) (by rw [eV_40]; rw [Int.toNat_natCast, uV_at, if_pos rfl]; rw [yy.2, if_pos (by omega)]; omega)
                      · skip
                        refine T_al d_X11_starts_113 rfl ?_
                        refine F_gr (b := 156) d_X11_starts_114 rfl hF rfl ?_
                        refine T_il d_X11_starts_117 rfl ?_
                        refine T_al d_X11_starts_118 rfl ?_
                        refine F_gr (b := 117) d_X11_starts_119 rfl hF rfl ?_
                        refine T_il d_X11_starts_122 rfl ?_
                        refine F_ia d_X11_starts_123 rfl hBY rfl ⟨by omega, by omega⟩ (fun b_42 => ?_)
                        rw [bMY.dF]
                        rw [bMY.dF] at b_42
                        try simp only [Int.toNat_natCast]
                        try simp only [Int.toNat_natCast] at b_42
                        refine F_isn d_X11_starts_124 rfl hBY rfl ⟨by omega, by omega⟩ (fun V_43 eV_43 hBV_43 => ?_)
                        have fV_43 := chg_u eV_43 rfl fY
                        have bMV_43 := bM_c bMV fV_43 rfl
                        refine T_al d_X11_starts_125 rfl ?_
                        refine F_gr (b := 118) d_X11_starts_126 rfl hF rfl ?_
                        refine T_il d_X11_starts_129 rfl ?_
                        refine F_ia d_X11_starts_130 rfl hBV_43 rfl ⟨by omega, by omega⟩ (fun b_44 => ?_)
                        rw [bMV_43.dT]
                        rw [bMV_43.dT] at b_44
                        try simp only [Int.toNat_natCast]
                        try simp only [Int.toNat_natCast] at b_44
                        refine T_al d_X11_starts_131 rfl ?_
                        refine F_gr (b := 157) d_X11_starts_132 rfl hF rfl ?_
                        refine T_il d_X11_starts_135 rfl ?_
                        refine F_ian d_X11_starts_136 rfl ⟨by omega, by omega⟩ ?_
                        have faV_43_157 : V_43 157 = Y 157 := by rw [eV_43]; rfl
                        rw [faV_43_157]
                        try simp only [Int.toNat_natCast]
                        rw [y3]
                        refine T_ige d_X11_starts_137 ⟨by omega, by omega⟩ ⟨by omega, by omega⟩ (fun h137 => ?_) (fun h137 => ?_)
                        · skip
                          refine F_incg d_X11_starts_152 rfl (f := fun x_45 => [(0, vr 99), (1, vi k), (2, vi (i : Int)), (3, vi x_45)]) (fun _ => rfl) (fun x_45 ex_45 => ?_)
                          refine T_go d_X11_starts_155 ?_
                          -- to 44 49f.59f.73f.92t.110f.137t@44
                          obtain rfl : x_45 = ((t + 1) : Int) := by omega
                          exact ih44 V_43 (t + 1) (by omega) hBV_43 fV_43 (by first | assumption | omega) (by rw [eV_43]; exact y87) (fun x hx => ⟨by rw [eV_43]; rw [Int.toNat_natCast, uV_at, if_neg (by omega)]; exact (y1 x hx).1, by rw [eV_43]; rw [uV_cell (by decide)]; exact (y1 x hx).2⟩) (by rw [eV_43]; rw [Int.toNat_natCast, uV_at, if_pos rfl]; rw [yy.1, if_pos (by omega)]) (by rw [eV_43]; rw [uV_cell (by decide)]; rw [yy.2, if_neg (by omega)]; exact y3)
                        · skip
                          refine T_al d_X11_starts_140 rfl ?_
                          refine F_gr (b := 157) d_X11_starts_141 rfl hF rfl ?_
                          refine T_il d_X11_starts_144 rfl ?_
                          refine T_al d_X11_starts_145 rfl ?_
                          refine F_gr (b := 118) d_X11_starts_146 rfl hF rfl ?_
                          refine T_il d_X11_starts_149 rfl ?_
                          refine F_ia d_X11_starts_150 rfl hBV_43 rfl ⟨by omega, by omega⟩ (fun b_46 => ?_)
                          rw [bMV_43.dT]
                          rw [bMV_43.dT] at b_46
                          try simp only [Int.toNat_natCast]
                          try simp only [Int.toNat_natCast] at b_46
                          refine F_isn d_X11_starts_151 rfl hBV_43 rfl ⟨by omega, by omega⟩ (fun V_47 eV_47 hBV_47 => ?_)
                          have fV_47 := chg_u eV_47 rfl fV_43
                          have bMV_47 := bM_c bMV fV_47 rfl
                          refine F_incg d_X11_starts_152 rfl (f := fun x_48 => [(0, vr 99), (1, vi k), (2, vi (i : Int)), (3, vi x_48)]) (fun _ => rfl) (fun x_48 ex_48 => ?_)
                          refine T_go d_X11_starts_155 ?_
                          -- to 44 49f.59f.73f.92t.110f.137f@44
                          obtain rfl : x_48 = ((t + 1) : Int) := by omega
                          exact ih44 V_47 (t + 1) (by omega) hBV_47 fV_47 (by first | assumption | omega) (by rw [eV_47, eV_43]; exact y87) (fun x hx => ⟨by rw [eV_47]; rw [uV_cell (by decide)]; rw [eV_43]; rw [Int.toNat_natCast, uV_at, if_neg (by omega)]; exact (y1 x hx).1, by rw [eV_47]; rw [Int.toNat_natCast, uV_at, if_neg (by omega)]; rw [eV_43]; rw [uV_cell (by decide)]; exact (y1 x hx).2⟩) (by rw [eV_47]; rw [uV_cell (by decide)]; rw [eV_43]; rw [Int.toNat_natCast, uV_at, if_pos rfl]; rw [yy.1, if_pos (by omega)]) (by rw [eV_47]; rw [Int.toNat_natCast, uV_at, if_pos rfl]; rw [yy.2, if_pos (by omega)]; omega)
                    · skip
                      refine T_go d_X11_starts_95 ?_
                      refine F_incg d_X11_starts_152 rfl (f := fun x_49 => [(0, vr 99), (1, vi k), (2, vi (i : Int)), (3, vi x_49)]) (fun _ => rfl) (fun x_49 ex_49 => ?_)
                      refine T_go d_X11_starts_155 ?_
                      -- to 44 49f.59f.73f.92f@44
                      obtain rfl : x_49 = ((t + 1) : Int) := by omega
                      exact ih44 Y (t + 1) (by omega) hBY fY (by first | assumption | omega) y87 y1 (y2.trans (e0_no (fun z => h92 (mo.mpr z.2))).1.symm) (y3.trans (by rw [(e0_no (fun z => h92 (mo.mpr z.2))).2]))
          exact L44 _ V_27 (0) (Nat.lt_succ_self _) hBV_27 fV_27 (by first | assumption | omega) (by rw [eV_27, eV_26]; exact x87) (fun x hx => ⟨by rw [eV_27, uV_cell (by decide), eV_26, Int.toNat_natCast, uV_at, if_neg (by omega)]; exact (x1 x hx).1, by rw [eV_27, Int.toNat_natCast, uV_at, if_neg (by omega), eV_26, uV_cell (by decide)]; exact (x1 x hx).2⟩) (by rw [eV_27, uV_cell (by decide), eV_26, Int.toNat_natCast]; exact uV_self) (by rw [eV_27, Int.toNat_natCast]; exact uV_self)
    exact L18 _ V_2 (0) (Nat.lt_succ_self _) hBV_2 fV_2 (by first | assumption | omega) (by rw [eV_2]; exact uV_self.trans q86) (fun x hx => absurd hx (Nat.not_lt_zero _))
  · skip
    -- leaf 12f@15
    refine T_vret d_X11_starts_15 rfl ?_
    exact ⟨rfl, hBV_2, fV_2, rfl, fun z => by rw [eV_2]; exact uV_self.trans z, fun z => absurd z (by rw [h12]; decide)⟩
