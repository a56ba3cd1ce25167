set_option maxHeartbeats 1000000 in
set_option maxRecDepth 100000 in
theorem R_X11_orders {G : GG} {V : VV} {R : RR} {k : Int} {b : Bk} {k : Int} {c : Nat} {S : Sp} {Ks : Nat → Kd} {nk N ch : Nat} {l : Nat → Nat → Int} (hB : Bd V) (hF : FinR R) (bMV : bM b V) (hw : bW b) (hk : 0 ≤ k ∧ k ≤ 400) (so : sO S) (sMV : sM S V) (hL : lstV N l V) (hN : N ≤ 24) (hR : allR (rowP b k S Ks nk) N l) (hKs : ∀ i, i < nk → kM (Ks i) i V ∧ kO (Ks i)) (hnk : nk ≤ 5) (hch : ∀ i, i < N → V 147 i = bi (ch.testBit i)) (h13 : chN ch N ≤ 13) (h130 : ∀ g, g < b.n → V 130 g = soO b k c g) (hset : ∀ i, i < N → bL l i < 2 ^ 40 ∧ 0 ≤ l i 10) : Runs G M_X11_orders 20 162 162 [vr 99, vi k] V R (PQ [(151, 155), (158, 159)] [(99, 83, 86)] V R (fun o X => o = none ∧ X 99 83 = (chN ch N : Int) ∧ (∀ t, t < cntB (fun x => ch.testBit x) N → X 151 t = (mbr ch N t : Int)) ∧ relM (mtM S Ks l ch N) (ltM b k c l ch N) (chN ch N) X ∧ phM (mtM S Ks l ch N) (ltM b k c l ch N) (chN ch N) X)) := by
  refine Runs.of pn_X11 (Nat.le_of_ble_eq_true rfl) rfl ?_
  show TT G M_X11_orders (rmd 20 162 162) 162 (Zm G 162 162 (PQ [(151, 155), (158, 159)] [(99, 83, 86)] V R (fun o X => o = none ∧ X 99 83 = (chN ch N : Int) ∧ (∀ t, t < cntB (fun x => ch.testBit x) N → X 151 t = (mbr ch N t : Int)) ∧ relM (mtM S Ks l ch N) (ltM b k c l ch N) (chN ch N) X ∧ phM (mtM S Ks l ch N) (ltM b k c l ch N) (chN ch N) X))) 162 0 [(0, vr 99), (1, vi k)] [] V R
  have fV : chg [(151, 155), (158, 159)] [(99, 83, 86)] V V := chg_r
  have lLV := hL
  have hm4 := so.1
  have hcN : cntB (fun x => ch.testBit x) N = chN ch N := rfl
  have b4 : ∀ (X : VV), Bd X → X 99 83 ≤ 24 := fun X hX => (hX.2 99 11 83 0 24 rfl rfl).2
  refine T_al d_X11_orders_0 rfl ?_
  refine T_k d_X11_orders_1 ?_
  refine F_pi d_X11_orders_2 rfl hB rfl ⟨by omega, by omega⟩ (fun V_1 eV_1 hBV_1 => ?_)
  have fV_1 := chg_u eV_1 rfl fV
  have bMV_1 := bM_c bMV fV_1 rfl
  have lLV_1 := lstV_c hL fV_1 rfl
  have sMV_1 := sM_c sMV fV_1 rfl
  refine T_k d_X11_orders_5 ?_
  refine T_is d_X11_orders_6 (ls' := [(0, vr 99), (1, vi k), (2, vi 0)]) rfl ?_
  -- to 7 @7
  have L7 : ∀ (fu : Nat) (X : VV) (h : Nat), N - h < fu → (Bd X) → (chg [(151, 155), (158, 159)] [(99, 83, 86)] V X) → (h ≤ N) → (X 99 83 = (cntB (fun x => ch.testBit x) h : Int)) → (∀ t, t < cntB (fun x => ch.testBit x) h → X 151 t = (mbr ch N t : Int)) → TT G M_X11_orders (rmd 20 162 162) 162 (Zm G 162 162 (PQ [(151, 155), (158, 159)] [(99, 83, 86)] V R (fun o X => o = none ∧ X 99 83 = (chN ch N : Int) ∧ (∀ t, t < cntB (fun x => ch.testBit x) N → X 151 t = (mbr ch N t : Int)) ∧ relM (mtM S Ks l ch N) (ltM b k c l ch N) (chN ch N) X ∧ phM (mtM S Ks l ch N) (ltM b k c l ch N) (chN ch N) X))) 162 7 [(0, vr 99), (1, vi k), (2, vi (h : Int))] [] X R := by
    intro fu
    induction fu with
    | zero => intro X h hm; exact absurd hm (Nat.not_lt_zero _)
    | succ fu ih7 =>
      intro X h hm7 hBX fX hh x83 x151
      have bMX := bM_c bMV fX rfl
      have lLX := lstV_c hL fX rfl
      have sMX := sM_c sMV fX rfl
      have x147 := chg_k (c := 147) fX rfl
      have x57 := lLX.1
      have xc : cntB (fun x => ch.testBit x) h ≤ h := cntB_le
      refine T_il d_X11_orders_7 rfl ?_
      refine T_al d_X11_orders_8 rfl ?_
      refine F_gi d_X11_orders_9 rfl hBX rfl (fun b_2 => ?_)
      refine T_ige d_X11_orders_12 ⟨by omega, by omega⟩ ⟨by omega, by omega⟩ (fun h12 => ?_) (fun h12 => ?_)
      · skip
        refine T_k d_X11_orders_47 ?_
        refine T_is d_X11_orders_48 (ls' := [(0, vr 99), (1, vi k), (2, vi 0)]) rfl ?_
        -- to 49 12t@49
        have L49 : ∀ (fu : Nat) (Y : VV) (i : Nat), chN ch N - i < fu → (Bd Y) → (chg [(151, 155), (158, 159)] [(99, 83, 86)] V Y) → (i ≤ chN ch N) → (Y 99 83 = (chN ch N : Int)) → (∀ t, t < cntB (fun x => ch.testBit x) N → Y 151 t = (mbr ch N t : Int)) → (mrI 153 (mtM S Ks l ch N) (chN ch N) i 0 Y) → (mrI 152 (ltM b k c l ch N) (chN ch N) i 0 Y) → TT G M_X11_orders (rmd 20 162 162) 162 (Zm G 162 162 (PQ [(151, 155), (158, 159)] [(99, 83, 86)] V R (fun o X => o = none ∧ X 99 83 = (chN ch N : Int) ∧ (∀ t, t < cntB (fun x => ch.testBit x) N → X 151 t = (mbr ch N t : Int)) ∧ relM (mtM S Ks l ch N) (ltM b k c l ch N) (chN ch N) X ∧ phM (mtM S Ks l ch N) (ltM b k c l ch N) (chN ch N) X))) 162 49 [(0, vr 99), (1, vi k), (2, vi (i : Int))] [] Y R := by
          intro fu
          induction fu with
          | zero => intro Y i hm; exact absurd hm (Nat.not_lt_zero _)
          | succ fu ih49 =>
            intro Y i hm49 hBY fY hi y83 y151 ym yl
            have bMY := bM_c bMV fY rfl
            have lLY := lstV_c hL fY rfl
            have sMY := sM_c sMV fY rfl
            refine T_il d_X11_orders_49 rfl ?_
            refine T_al d_X11_orders_50 rfl ?_
            refine F_gi d_X11_orders_51 rfl hBY rfl (fun b_3 => ?_)
            refine T_ige d_X11_orders_54 ⟨by omega, by omega⟩ ⟨by omega, by omega⟩ (fun h54 => ?_) (fun h54 => ?_)
            · skip
              have ei : i = chN ch N := by omega
              rw [ei] at ym yl
              have yr : relM (mtM S Ks l ch N) (ltM b k c l ch N) (chN ch N) Y := ⟨mr_f ym, mr_f yl⟩
              have L221 : ∀ (fu : Nat) (U : VV) (m : Nat), chN ch N + 1 - m < fu → (Bd U) → (chg [(151, 155), (158, 159)] [(99, 83, 86)] V U) → (U 99 83 = (chN ch N : Int)) → (∀ t, t < cntB (fun x => ch.testBit x) N → U 151 t = (mbr ch N t : Int)) → (relM (mtM S Ks l ch N) (ltM b k c l ch N) (chN ch N) U) → ((U 99 86 = 0 ∧ ∀ m f, ¬ phO (mtM S Ks l ch N) (ltM b k c l ch N) (chN ch N) m f) ∨ (U 99 86 = 1 ∧ ∃ M0 f, M0 ≤ chN ch N ∧ phO (mtM S Ks l ch N) (ltM b k c l ch N) (chN ch N) M0 f)) → (U 99 84 = (m : Int)) → (stN (chN ch N) (nbL (mtM S Ks l ch N) (ltM b k c l ch N) m (chN ch N) 0 (fun _ => 0)) U) → (∀ m', m' < m → nbL (mtM S Ks l ch N) (ltM b k c l ch N) m' (chN ch N) 0 (fun _ => 0) = []) → TT G M_X11_orders (rmd 20 162 162) 162 (Zm G 162 162 (PQ [(151, 155), (158, 159)] [(99, 83, 86)] V R (fun o X => o = none ∧ X 99 83 = (chN ch N : Int) ∧ (∀ t, t < cntB (fun x => ch.testBit x) N → X 151 t = (mbr ch N t : Int)) ∧ relM (mtM S Ks l ch N) (ltM b k c l ch N) (chN ch N) X ∧ phM (mtM S Ks l ch N) (ltM b k c l ch N) (chN ch N) X))) 162 221 [(0, vr 99)] [] U R := by
                intro fu
                induction fu with
                | zero => intro U m hm; exact absurd hm (Nat.not_lt_zero _)
                | succ fu ih221 =>
                  intro U m hm221 hBU fU u83 u151 ur u86 u84 ust uno
                  have bMU := bM_c bMV fU rfl
                  have lLU := lstV_c hL fU rfl
                  have sMU := sM_c sMV fU rfl
                  have u85 := ust.1
                  refine T_al d_X11_orders_221 rfl ?_
                  refine F_gi d_X11_orders_222 rfl hBU rfl (fun b_4 => ?_)
                  refine T_zeq d_X11_orders_225 ⟨by omega, by omega⟩ (fun h225 => ?_) (fun h225 => ?_)
                  · skip
                    -- leaf 225t@257
                    refine T_vret d_X11_orders_257 rfl ?_
                    exact ⟨rfl, hBU, fU, rfl, u83, u151, ur, Or.inl ⟨h225, u86.elim (fun z => z.2) (fun z => absurd z.1 (by omega))⟩⟩
                  · skip
                    refine T_al d_X11_orders_228 rfl ?_
                    refine F_gi d_X11_orders_229 rfl hBU rfl (fun b_5 => ?_)
                    refine T_zne d_X11_orders_232 ⟨by omega, by omega⟩ (fun h232 => ?_) (fun h232 => ?_)
                    · skip
                      -- leaf 225f.232t@257
                      refine T_vret d_X11_orders_257 rfl ?_
                      obtain ⟨f0, t0, el⟩ := min_cons (by rw [← u85]; exact h232)
                      exact ⟨rfl, hBU, fU, rfl, u83, u151, ur, Or.inr ⟨u86.elim (fun z => absurd z.1 h225) (fun z => z.1), m, f0, t0, uno, el, u84, u85, fun j hj => ust.2 f0 t0 el j hj⟩⟩
                    · skip
                      have em : nbL (mtM S Ks l ch N) (ltM b k c l ch N) m (chN ch N) 0 (fun _ => 0) = [] := min_nil (by rw [← u85]; exact h232)
                      obtain ⟨M0, f1, q1, q2⟩ := u86.elim (fun z => absurd z.1 h225) (fun z => z.2)
                      have lm : m < M0 := Classical.byContradiction fun z => nb_has mtM_cm q2 ((Nat.lt_or_ge M0 m).elim (fun w => uno M0 w) (fun w => by rw [show M0 = m by omega]; exact em))
                      refine T_al d_X11_orders_235 rfl ?_
                      refine T_dup d_X11_orders_236 rfl ?_
                      refine F_gi d_X11_orders_237 rfl hBU rfl (fun b_6 => ?_)
                      refine T_k d_X11_orders_240 ?_
                      refine T_iadd d_X11_orders_241 ?_
                      rw [u84]
                      refine F_pi d_X11_orders_242 rfl hBU rfl ⟨by omega, by omega⟩ (fun V_7 eV_7 hBV_7 => ?_)
                      have fV_7 := chg_u eV_7 rfl fU
                      have bMV_7 := bM_c bMV fV_7 rfl
                      have lLV_7 := lstV_c hL fV_7 rfl
                      have sMV_7 := sM_c sMV fV_7 rfl
                      refine T_al d_X11_orders_245 rfl ?_
                      refine T_k d_X11_orders_246 ?_
                      refine T_al d_X11_orders_247 rfl ?_
                      refine F_gi d_X11_orders_248 rfl hBV_7 rfl (fun b_8 => ?_)
                      have gV_7_99_84 := (congrFun (congrFun eV_7 99) 84).trans uV_self
                      rw [gV_7_99_84]
                      rw [gV_7_99_84] at b_8
                      rw [show (m : Int) + 1 = ((m + 1 : Nat) : Int) from rfl]
                      have k83 : V_7 99 83 = (chN ch N : Int) := by rw [eV_7]; exact u83
                      have k84 : V_7 99 84 = ((m + 1 : Nat) : Int) := by rw [eV_7]; exact uV_self
                      have k86 : V_7 99 86 = U 99 86 := by rw [eV_7]; rfl
                      have k151 : V_7 151 = U 151 := by rw [eV_7, uV_cell (by decide)]
                      have k152 : V_7 152 = U 152 := by rw [eV_7, uV_cell (by decide)]
                      have k153 : V_7 153 = U 153 := by rw [eV_7, uV_cell (by decide)]
                      refine C_v2 d_X11_orders_251 rfl (hdF (by omega)) (hcF _) (nb_all hF h13 (by omega) (chN ch N) V_7 0 (fun _ => 0) [] (by omega) hBV_7 (relM_x ur (by rw [eV_7]; rfl) (by rw [eV_7]; rfl)) (by rw [eV_7]; exact u83) (fun j hj => absurd hj (Nat.not_lt_zero _)) ⟨by rw [eV_7]; exact (by omega : U 99 85 = _), fun g t e => by cases e⟩) (fun r_9 V_10 R_11 qV_10 => ?_)
                      obtain ⟨rfl, hBV_10, cV_10, rfl, pV_10⟩ := qV_10
                      have fV_10 := chg_t (A := [(151, 155), (158, 159)]) (F := [(99, 83, 86)]) fV_7 cV_10 rfl
                      have bMV_10 := bM_c bMV fV_10 rfl
                      have lLV_10 := lstV_c hL fV_10 rfl
                      have sMV_10 := sM_c sMV fV_10 rfl
                      refine T_go d_X11_orders_254 ?_
                      -- to 221 225f.232f@221
                      exact ih221 V_10 (m + 1) (by omega) hBV_10 fV_10 ((cV_10 99 83 rfl rfl).trans k83) (fun t ht => by rw [chg_k (c := 151) cV_10 rfl, k151]; exact u151 t ht) (relM_x ur ((chg_k (c := 152) cV_10 rfl).trans k152) ((chg_k (c := 153) cV_10 rfl).trans k153)) (by rw [cV_10 99 86 rfl rfl, k86]; exact u86) ((cV_10 99 84 rfl rfl).trans k84) pV_10.2 (fun m2 h => (Nat.lt_or_ge m2 m).elim (uno m2) (fun w => by rw [show m2 = m by omega]; exact em))
              refine T_al d_X11_orders_184 rfl ?_
              refine T_al d_X11_orders_185 rfl ?_
              refine C_v0 d_X11_orders_186 rfl (hdF (by omega)) (hcF _) (R_X11_isRound (mt := (mtM S Ks l ch N)) (lt := (ltM b k c l ch N)) (n := (chN ch N)) hBY hF h13 y83 yr) (fun r_12 V_13 R_14 qV_13 => ?_)
              obtain ⟨rfl, hBV_13, cV_13, rfl⟩ := qV_13
              have fV_13 := chg_t (A := [(151, 155), (158, 159)]) (F := [(99, 83, 86)]) fY cV_13 rfl
              have bMV_13 := bM_c bMV fV_13 rfl
              have lLV_13 := lstV_c hL fV_13 rfl
              have sMV_13 := sM_c sMV fV_13 rfl
              have rc := cV_13
              have r83 : V_13 99 83 = (chN ch N : Int) := (cV_13 99 83 rfl rfl).trans y83
              refine T_pz1 d_X11_orders_189 (fun h189 => ?_) (fun h189 => ?_)
              · skip
                refine T_k d_X11_orders_196 ?_
                refine F_pz d_X11_orders_197 rfl hBV_13 rfl ⟨by omega, by omega⟩ (fun V_15 eV_15 hBV_15 => ?_)
                have fV_15 := chg_u eV_15 rfl fV_13
                have bMV_15 := bM_c bMV fV_15 rfl
                have lLV_15 := lstV_c hL fV_15 rfl
                have sMV_15 := sM_c sMV fV_15 rfl
                refine T_al d_X11_orders_200 rfl ?_
                refine T_k d_X11_orders_201 ?_
                refine F_pi d_X11_orders_202 rfl hBV_15 rfl ⟨by omega, by omega⟩ (fun V_16 eV_16 hBV_16 => ?_)
                have fV_16 := chg_u eV_16 rfl fV_15
                have bMV_16 := bM_c bMV fV_16 rfl
                have lLV_16 := lstV_c hL fV_16 rfl
                have sMV_16 := sM_c sMV fV_16 rfl
                refine T_al d_X11_orders_205 rfl ?_
                refine T_al d_X11_orders_206 rfl ?_
                refine F_gi d_X11_orders_207 rfl hBV_16 rfl (fun b_17 => ?_)
                have fV_16_99_83 : V_16 99 83 = V_13 99 83 := by rw [eV_16, eV_15]; rfl
                rw [fV_16_99_83]
                rw [fV_16_99_83] at b_17
                rw [r83]
                refine T_zne d_X11_orders_210 ⟨by omega, by omega⟩ (fun h210 => ?_) (fun h210 => ?_)
                · skip
                  refine T_k d_X11_orders_217 ?_
                  refine F_pi d_X11_orders_218 rfl hBV_16 rfl ⟨by omega, by omega⟩ (fun V_18 eV_18 hBV_18 => ?_)
                  have fV_18 := chg_u eV_18 rfl fV_16
                  have bMV_18 := bM_c bMV fV_18 rfl
                  have lLV_18 := lstV_c hL fV_18 rfl
                  have sMV_18 := sM_c sMV fV_18 rfl
                  -- to 221 54t.189t.210t@221
                  refine T_subp (ks := [0]) (ls' := [(0, vr 99)]) rfl ?_
                  exact L221 _ V_18 (0) (Nat.lt_succ_self _) hBV_18 fV_18 (by rw [eV_18, eV_16, eV_15]; exact r83) (fun t ht => by rw [eV_18, eV_16, eV_15, uV_cell (by decide), uV_cell (by decide), uV_cell (by decide), chg_k (c := 151) rc rfl]; exact y151 t ht) (relM_x yr (by rw [eV_18, eV_16, eV_15, uV_cell (by decide), uV_cell (by decide), uV_cell (by decide)]; exact chg_k (c := 152) rc rfl) (by rw [eV_18, eV_16, eV_15, uV_cell (by decide), uV_cell (by decide), uV_cell (by decide)]; exact chg_k (c := 153) rc rfl)) (Or.inl ⟨by rw [eV_18, eV_16, eV_15]; rfl, rnd_no (fun i => ltM_ir i) h189⟩) (by rw [eV_18, eV_16]; rfl) (st_0 (by rw [eV_18, if_neg (by omega)]; rfl)) (fun m2 h => absurd h (Nat.not_lt_zero _))
                · skip
                  refine T_k d_X11_orders_213 ?_
                  refine T_go d_X11_orders_214 ?_
                  refine F_pi d_X11_orders_218 rfl hBV_16 rfl ⟨by omega, by omega⟩ (fun V_19 eV_19 hBV_19 => ?_)
                  have fV_19 := chg_u eV_19 rfl fV_16
                  have bMV_19 := bM_c bMV fV_19 rfl
                  have lLV_19 := lstV_c hL fV_19 rfl
                  have sMV_19 := sM_c sMV fV_19 rfl
                  -- to 221 54t.189t.210f@221
                  refine T_subp (ks := [0]) (ls' := [(0, vr 99)]) rfl ?_
                  exact L221 _ V_19 (0) (Nat.lt_succ_self _) hBV_19 fV_19 (by rw [eV_19, eV_16, eV_15]; exact r83) (fun t ht => by rw [eV_19, eV_16, eV_15, uV_cell (by decide), uV_cell (by decide), uV_cell (by decide), chg_k (c := 151) rc rfl]; exact y151 t ht) (relM_x yr (by rw [eV_19, eV_16, eV_15, uV_cell (by decide), uV_cell (by decide), uV_cell (by decide)]; exact chg_k (c := 152) rc rfl) (by rw [eV_19, eV_16, eV_15, uV_cell (by decide), uV_cell (by decide), uV_cell (by decide)]; exact chg_k (c := 153) rc rfl)) (Or.inl ⟨by rw [eV_19, eV_16, eV_15]; rfl, rnd_no (fun i => ltM_ir i) h189⟩) (by rw [eV_19, eV_16]; rfl) (st_0 (by rw [eV_19, if_pos (by omega)]; rfl)) (fun m2 h => absurd h (Nat.not_lt_zero _))
              · skip
                refine T_k d_X11_orders_192 ?_
                refine T_go d_X11_orders_193 ?_
                refine F_pz d_X11_orders_197 rfl hBV_13 rfl ⟨by omega, by omega⟩ (fun V_20 eV_20 hBV_20 => ?_)
                have fV_20 := chg_u eV_20 rfl fV_13
                have bMV_20 := bM_c bMV fV_20 rfl
                have lLV_20 := lstV_c hL fV_20 rfl
                have sMV_20 := sM_c sMV fV_20 rfl
                refine T_al d_X11_orders_200 rfl ?_
                refine T_k d_X11_orders_201 ?_
                refine F_pi d_X11_orders_202 rfl hBV_20 rfl ⟨by omega, by omega⟩ (fun V_21 eV_21 hBV_21 => ?_)
                have fV_21 := chg_u eV_21 rfl fV_20
                have bMV_21 := bM_c bMV fV_21 rfl
                have lLV_21 := lstV_c hL fV_21 rfl
                have sMV_21 := sM_c sMV fV_21 rfl
                refine T_al d_X11_orders_205 rfl ?_
                refine T_al d_X11_orders_206 rfl ?_
                refine F_gi d_X11_orders_207 rfl hBV_21 rfl (fun b_22 => ?_)
                have fV_21_99_83 : V_21 99 83 = V_13 99 83 := by rw [eV_21, eV_20]; rfl
                rw [fV_21_99_83]
                rw [fV_21_99_83] at b_22
                rw [r83]
                refine T_zne d_X11_orders_210 ⟨by omega, by omega⟩ (fun h210 => ?_) (fun h210 => ?_)
                · skip
                  refine T_k d_X11_orders_217 ?_
                  refine F_pi d_X11_orders_218 rfl hBV_21 rfl ⟨by omega, by omega⟩ (fun V_23 eV_23 hBV_23 => ?_)
                  have fV_23 := chg_u eV_23 rfl fV_21
                  have bMV_23 := bM_c bMV fV_23 rfl
                  have lLV_23 := lstV_c hL fV_23 rfl
                  have sMV_23 := sM_c sMV fV_23 rfl
                  -- to 221 54t.189f.210t@221
                  refine T_subp (ks := [0]) (ls' := [(0, vr 99)]) rfl ?_
                  exact L221 _ V_23 (0) (Nat.lt_succ_self _) hBV_23 fV_23 (by rw [eV_23, eV_21, eV_20]; exact r83) (fun t ht => by rw [eV_23, eV_21, eV_20, uV_cell (by decide), uV_cell (by decide), uV_cell (by decide), chg_k (c := 151) rc rfl]; exact y151 t ht) (relM_x yr (by rw [eV_23, eV_21, eV_20, uV_cell (by decide), uV_cell (by decide), uV_cell (by decide)]; exact chg_k (c := 152) rc rfl) (by rw [eV_23, eV_21, eV_20, uV_cell (by decide), uV_cell (by decide), uV_cell (by decide)]; exact chg_k (c := 153) rc rfl)) (Or.inr ⟨by rw [eV_23, eV_21, eV_20]; rfl, rnd_ex h189⟩) (by rw [eV_23, eV_21]; rfl) (st_0 (by rw [eV_23, if_neg (by omega)]; rfl)) (fun m2 h => absurd h (Nat.not_lt_zero _))
                · skip
                  refine T_k d_X11_orders_213 ?_
                  refine T_go d_X11_orders_214 ?_
                  refine F_pi d_X11_orders_218 rfl hBV_21 rfl ⟨by omega, by omega⟩ (fun V_24 eV_24 hBV_24 => ?_)
                  have fV_24 := chg_u eV_24 rfl fV_21
                  have bMV_24 := bM_c bMV fV_24 rfl
                  have lLV_24 := lstV_c hL fV_24 rfl
                  have sMV_24 := sM_c sMV fV_24 rfl
                  -- to 221 54t.189f.210f@221
                  refine T_subp (ks := [0]) (ls' := [(0, vr 99)]) rfl ?_
                  exact L221 _ V_24 (0) (Nat.lt_succ_self _) hBV_24 fV_24 (by rw [eV_24, eV_21, eV_20]; exact r83) (fun t ht => by rw [eV_24, eV_21, eV_20, uV_cell (by decide), uV_cell (by decide), uV_cell (by decide), chg_k (c := 151) rc rfl]; exact y151 t ht) (relM_x yr (by rw [eV_24, eV_21, eV_20, uV_cell (by decide), uV_cell (by decide), uV_cell (by decide)]; exact chg_k (c := 152) rc rfl) (by rw [eV_24, eV_21, eV_20, uV_cell (by decide), uV_cell (by decide), uV_cell (by decide)]; exact chg_k (c := 153) rc rfl)) (Or.inr ⟨by rw [eV_24, eV_21, eV_20]; rfl, rnd_ex h189⟩) (by rw [eV_24, eV_21]; rfl) (st_0 (by rw [eV_24, if_pos (by omega)]; rfl)) (fun m2 h => absurd h (Nat.not_lt_zero _))
            · skip
              refine T_k d_X11_orders_57 ?_
              refine T_is d_X11_orders_58 (ls' := [(0, vr 99), (1, vi k), (2, vi (i : Int)), (3, vi 0)]) rfl ?_
              -- to 59 54f@59
              have L59 : ∀ (fu : Nat) (W : VV) (j : Nat), chN ch N - j < fu → (Bd W) → (chg [(151, 155), (158, 159)] [(99, 83, 86)] V W) → (j ≤ chN ch N) → (W 99 83 = (chN ch N : Int)) → (∀ t, t < cntB (fun x => ch.testBit x) N → W 151 t = (mbr ch N t : Int)) → (mrI 153 (mtM S Ks l ch N) (chN ch N) i j W) → (mrI 152 (ltM b k c l ch N) (chN ch N) i j W) → TT G M_X11_orders (rmd 20 162 162) 162 (Zm G 162 162 (PQ [(151, 155), (158, 159)] [(99, 83, 86)] V R (fun o X => o = none ∧ X 99 83 = (chN ch N : Int) ∧ (∀ t, t < cntB (fun x => ch.testBit x) N → X 151 t = (mbr ch N t : Int)) ∧ relM (mtM S Ks l ch N) (ltM b k c l ch N) (chN ch N) X ∧ phM (mtM S Ks l ch N) (ltM b k c l ch N) (chN ch N) X))) 162 59 [(0, vr 99), (1, vi k), (2, vi (i : Int)), (3, vi (j : Int))] [] W R := by
                intro fu
                induction fu with
                | zero => intro W j hm; exact absurd hm (Nat.not_lt_zero _)
                | succ fu ih59 =>
                  intro W j hm59 hBW fW hj w83 w151 wm wl
                  have bMW := bM_c bMV fW rfl
                  have lLW := lstV_c hL fW rfl
                  have sMW := sM_c sMV fW rfl
                  refine T_il d_X11_orders_59 rfl ?_
                  refine T_al d_X11_orders_60 rfl ?_
                  refine F_gi d_X11_orders_61 rfl hBW rfl (fun b_25 => ?_)
                  refine T_ige d_X11_orders_64 ⟨by omega, by omega⟩ ⟨by omega, by omega⟩ (fun h64 => ?_) (fun h64 => ?_)
                  · skip
                    refine F_incg d_X11_orders_178 rfl (f := fun x_26 => [(0, vr 99), (1, vi k), (2, vi x_26), (3, vi (j : Int))]) (fun _ => rfl) (fun x_26 ex_26 => ?_)
                    refine T_go d_X11_orders_181 ?_
                    -- to 49 64t@49
                    refine T_subp (ks := [0, 1, 2]) (ls' := [(0, vr 99), (1, vi k), (2, vi x_26)]) rfl ?_
                    have ej : j = chN ch N := by omega
                    rw [ej] at wm wl
                    obtain rfl : x_26 = ((i + 1) : Int) := by omega
                    exact ih49 W (i + 1) (by omega) hBW fW (by first | assumption | omega) w83 w151 (mr_r wm) (mr_r wl)
                  · skip
                    have ni := nth_ok (p := fun x => ch.testBit x) (n := N) (i := i) (show i < cntB (fun x => ch.testBit x) N by omega)
                    have mi : mbr ch N i < N := ni.1
                    obtain ⟨kdi, pi, qi, ri, ⟨i1, i2, i3, i4⟩, _, ⟨i5, i6, i7, i8⟩, ⟨i9, i10⟩, _⟩ := row_f (hR (mbr ch N i) ni.1) (fun x hx => (hKs x hx).2)
                    have nj := nth_ok (p := fun x => ch.testBit x) (n := N) (i := j) (show j < cntB (fun x => ch.testBit x) N by omega)
                    have mj : mbr ch N j < N := nj.1
                    obtain ⟨kdj, pj, qj, rj, ⟨j1, j2, j3, j4⟩, _, ⟨j5, j6, j7, j8⟩, ⟨j9, j10⟩, _⟩ := row_f (hR (mbr ch N j) nj.1) (fun x hx => (hKs x hx).2)
                    have ei := w151 i (by omega)
                    have ej := w151 j (by omega)
                    have oi := (hKs kdi i1).2.1
                    have oj := (hKs kdj j1).2.1
                    have L131 : ∀ (T : VV), (Bd T) → (chg [(151, 155), (158, 159)] [(99, 83, 86)] V T) → (T 99 83 = (chN ch N : Int)) → (∀ t, t < cntB (fun x => ch.testBit x) N → T 151 t = (mbr ch N t : Int)) → (mrI 153 (mtM S Ks l ch N) (chN ch N) i (j + 1) T) → (mrI 152 (ltM b k c l ch N) (chN ch N) i j T) → TT G M_X11_orders (rmd 20 162 162) 162 (Zm G 162 162 (PQ [(151, 155), (158, 159)] [(99, 83, 86)] V R (fun o X => o = none ∧ X 99 83 = (chN ch N : Int) ∧ (∀ t, t < cntB (fun x => ch.testBit x) N → X 151 t = (mbr ch N t : Int)) ∧ relM (mtM S Ks l ch N) (ltM b k c l ch N) (chN ch N) X ∧ phM (mtM S Ks l ch N) (ltM b k c l ch N) (chN ch N) X))) 162 131 [(0, vr 99), (1, vi k), (2, vi (i : Int)), (3, vi (j : Int))] [] T R := by
                      intro T hBT fT t83 t151 tm tl
                      have bMT := bM_c bMV fT rfl
                      have lLT := lstV_c hL fT rfl
                      have sMT := sM_c sMV fT rfl
                      refine T_al d_X11_orders_131 rfl ?_
                      refine F_gr (b := 152) d_X11_orders_132 rfl hF rfl ?_
                      refine T_k d_X11_orders_135 ?_
                      refine T_il d_X11_orders_137 rfl ?_
                      refine T_imul d_X11_orders_138 ?_
                      refine T_il d_X11_orders_139 rfl ?_
                      refine T_iadd d_X11_orders_140 ?_
                      refine T_il d_X11_orders_141 rfl ?_
                      refine T_il d_X11_orders_142 rfl ?_
                      refine T_ieq d_X11_orders_143 ⟨by omega, by omega⟩ ⟨by omega, by omega⟩ (fun h143 => ?_) (fun h143 => ?_)
                      · skip
                        refine T_k d_X11_orders_170 ?_
                        refine F_zs d_X11_orders_171 rfl hBT rfl ⟨by omega, by omega⟩ ⟨by omega, by omega⟩ (fun V_27 eV_27 hBV_27 => ?_)
                        have fV_27 := chg_u eV_27 rfl fT
                        have bMV_27 := bM_c bMV fV_27 rfl
                        have lLV_27 := lstV_c hL fV_27 rfl
                        have sMV_27 := sM_c sMV fV_27 rfl
                        refine F_incg d_X11_orders_172 rfl (f := fun x_28 => [(0, vr 99), (1, vi k), (2, vi (i : Int)), (3, vi x_28)]) (fun _ => rfl) (fun x_28 ex_28 => ?_)
                        refine T_go d_X11_orders_175 ?_
                        -- to 59 143t@59
                        obtain rfl : x_28 = ((j + 1) : Int) := by omega
                        exact ih59 V_27 (j + 1) (by omega) hBV_27 fV_27 (by first | assumption | omega) (by rw [eV_27]; exact t83) (fun t ht => by rw [eV_27, uV_cell (by decide)]; exact t151 t ht) (mr_x tm (by rw [eV_27, uV_cell (by decide)])) (mr_s tl (by rw [eV_27, show (24 * (i : Int) + (j : Int)).toNat = 24 * i + j by omega]) (by rw [lt_eq (by omega)]; rfl) h13 (by omega))
                      · skip
                        refine T_al d_X11_orders_146 rfl ?_
                        refine T_al d_X11_orders_147 rfl ?_
                        refine F_gr (b := 151) d_X11_orders_148 rfl hF rfl ?_
                        refine T_il d_X11_orders_151 rfl ?_
                        refine F_ia d_X11_orders_152 rfl hBT rfl ⟨by omega, by omega⟩ (fun b_29 => ?_)
                        try simp only [Int.toNat_natCast]
                        try simp only [Int.toNat_natCast] at b_29
                        rw [t151 i (by omega)]
                        refine T_al d_X11_orders_153 rfl ?_
                        refine F_gr (b := 151) d_X11_orders_154 rfl hF rfl ?_
                        refine T_il d_X11_orders_157 rfl ?_
                        refine F_ia d_X11_orders_158 rfl hBT rfl ⟨by omega, by omega⟩ (fun b_30 => ?_)
                        try simp only [Int.toNat_natCast]
                        try simp only [Int.toNat_natCast] at b_30
                        rw [t151 j (by omega)]
                        refine T_il d_X11_orders_159 rfl ?_
                        refine C_pv3 d_X11_orders_160 rfl (hdF (by omega)) (hcF _) (R_X11_isLaterThan (b := b) (k := k) (c := c) (l := l) (i := mbr ch N i) (j := mbr ch N j) hBT hF bMT hw hk (by omega) (by omega) (fun g hg => by rw [chg_k (c := 130) fT rfl]; exact h130 g hg) (by have z := lLT.2 _ ni.1 10 (by omega); have z2 := (hset _ ni.1).2; show T 145 (mbr ch N i) = _; rw [show T 145 (mbr ch N i) = l (mbr ch N i) 10 from z]; exact (Int.toNat_of_nonneg z2).symm) (hset _ ni.1).1 (by have z := lLT.2 _ nj.1 10 (by omega); have z2 := (hset _ nj.1).2; show T 145 (mbr ch N j) = _; rw [show T 145 (mbr ch N j) = l (mbr ch N j) 10 from z]; exact (Int.toNat_of_nonneg z2).symm) (hset _ nj.1).1) ?_
                        refine T_pz0 d_X11_orders_163 (fun h163 => ?_) (fun h163 => ?_)
                        · skip
                          refine T_k d_X11_orders_170 ?_
                          refine F_zs d_X11_orders_171 rfl hBT rfl ⟨by omega, by omega⟩ ⟨by omega, by omega⟩ (fun V_31 eV_31 hBV_31 => ?_)
                          have fV_31 := chg_u eV_31 rfl fT
                          have bMV_31 := bM_c bMV fV_31 rfl
                          have lLV_31 := lstV_c hL fV_31 rfl
                          have sMV_31 := sM_c sMV fV_31 rfl
                          refine F_incg d_X11_orders_172 rfl (f := fun x_32 => [(0, vr 99), (1, vi k), (2, vi (i : Int)), (3, vi x_32)]) (fun _ => rfl) (fun x_32 ex_32 => ?_)
                          refine T_go d_X11_orders_175 ?_
                          -- to 59 143f.163t@59
                          obtain rfl : x_32 = ((j + 1) : Int) := by omega
                          exact ih59 V_31 (j + 1) (by omega) hBV_31 fV_31 (by first | assumption | omega) (by rw [eV_31]; exact t83) (fun t ht => by rw [eV_31, uV_cell (by decide)]; exact t151 t ht) (mr_x tm (by rw [eV_31, uV_cell (by decide)])) (mr_s tl (by rw [eV_31, show (24 * (i : Int) + (j : Int)).toNat = 24 * i + j by omega]) (by rw [lt_ne (by omega), Bool.eq_false_iff.mpr h163]; rfl) h13 (by omega))
                        · skip
                          refine T_k d_X11_orders_166 ?_
                          refine T_go d_X11_orders_167 ?_
                          refine F_zs d_X11_orders_171 rfl hBT rfl ⟨by omega, by omega⟩ ⟨by omega, by omega⟩ (fun V_33 eV_33 hBV_33 => ?_)
                          have fV_33 := chg_u eV_33 rfl fT
                          have bMV_33 := bM_c bMV fV_33 rfl
                          have lLV_33 := lstV_c hL fV_33 rfl
                          have sMV_33 := sM_c sMV fV_33 rfl
                          refine F_incg d_X11_orders_172 rfl (f := fun x_34 => [(0, vr 99), (1, vi k), (2, vi (i : Int)), (3, vi x_34)]) (fun _ => rfl) (fun x_34 ex_34 => ?_)
                          refine T_go d_X11_orders_175 ?_
                          -- to 59 143f.163f@59
                          obtain rfl : x_34 = ((j + 1) : Int) := by omega
                          exact ih59 V_33 (j + 1) (by omega) hBV_33 fV_33 (by first | assumption | omega) (by rw [eV_33]; exact t83) (fun t ht => by rw [eV_33, uV_cell (by decide)]; exact t151 t ht) (mr_x tm (by rw [eV_33, uV_cell (by decide)])) (mr_s tl (by rw [eV_33, show (24 * (i : Int) + (j : Int)).toNat = 24 * i + j by omega]) (by rw [lt_ne (by omega), h163]; rfl) h13 (by omega))
                    refine T_al d_X11_orders_67 rfl ?_
                    refine T_al d_X11_orders_68 rfl ?_
                    refine F_gr (b := 151) d_X11_orders_69 rfl hF rfl ?_
                    refine T_il d_X11_orders_72 rfl ?_
                    refine F_ia d_X11_orders_73 rfl hBW rfl ⟨by omega, by omega⟩ (fun b_35 => ?_)
                    try simp only [Int.toNat_natCast]
                    try simp only [Int.toNat_natCast] at b_35
                    rw [ei]
                    refine T_k d_X11_orders_74 ?_
                    refine C_v2 d_X11_orders_75 rfl (hdF (by omega)) (hcF _) (R_X11_corners (h := mbr ch N i) (a := 0) (p := pi) (q := qi) (r := ri) (kd := kdi) hBW hF (by omega) (Or.inl rfl) ((lLW.2 _ ni.1 0 (by omega)).trans i5) ((lLW.2 _ ni.1 1 (by omega)).trans i6) ((lLW.2 _ ni.1 2 (by omega)).trans i7) ((lLW.2 _ ni.1 3 (by omega)).trans i8) (by omega) (by omega) (by omega) (by omega)) (fun r_36 V_37 R_38 qV_37 => ?_)
                    obtain ⟨rfl, hBV_37, cV_37, rfl, pV_37⟩ := qV_37
                    have fV_37 := chg_t (A := [(151, 155), (158, 159)]) (F := [(99, 83, 86)]) fW cV_37 rfl
                    have bMV_37 := bM_c bMV fV_37 rfl
                    have lLV_37 := lstV_c hL fV_37 rfl
                    have sMV_37 := sM_c sMV fV_37 rfl
                    have cI := corR_of (e := l (mbr ch N i)) pV_37 sMW i2 i3 i4 i5 i6 i7 i8 (lLW.2 _ ni.1 4 (by omega)) (by rw [chg_k (c := 122) fW rfl]; exact ((hKs kdi i1).1 0 (by omega)).1)
                    have sMa := sMV_37
                    have lLa := lLV_37
                    have fa := fV_37
                    have a83 : V_37 99 83 = (chN ch N : Int) := (cV_37 99 83 rfl rfl).trans w83
                    have a151 := chg_k (c := 151) cV_37 rfl
                    have a152 := chg_k (c := 152) cV_37 rfl
                    have a153 := chg_k (c := 153) cV_37 rfl
                    refine T_al d_X11_orders_78 rfl ?_
                    refine T_al d_X11_orders_79 rfl ?_
                    refine F_gr (b := 151) d_X11_orders_80 rfl hF rfl ?_
                    refine T_il d_X11_orders_83 rfl ?_
                    refine F_ia d_X11_orders_84 rfl hBV_37 rfl ⟨by omega, by omega⟩ (fun b_39 => ?_)
                    try simp only [Int.toNat_natCast]
                    try simp only [Int.toNat_natCast] at b_39
                    rw [show V_37 151 j = (mbr ch N j : Int) from by rw [chg_k (c := 151) cV_37 rfl]; exact ej]
                    refine T_k d_X11_orders_85 ?_
                    refine C_v2 d_X11_orders_87 rfl (hdF (by omega)) (hcF _) (R_X11_corners (h := mbr ch N j) (a := 8) (p := pj) (q := qj) (r := rj) (kd := kdj) hBV_37 hF (by omega) (Or.inr rfl) ((lLV_37.2 _ nj.1 0 (by omega)).trans j5) ((lLV_37.2 _ nj.1 1 (by omega)).trans j6) ((lLV_37.2 _ nj.1 2 (by omega)).trans j7) ((lLV_37.2 _ nj.1 3 (by omega)).trans j8) (by omega) (by omega) (by omega) (by omega)) (fun r_40 V_41 R_42 qV_41 => ?_)
                    obtain ⟨rfl, hBV_41, cV_41, rfl, pV_41⟩ := qV_41
                    have fV_41 := chg_t (A := [(151, 155), (158, 159)]) (F := [(99, 83, 86)]) fV_37 cV_41 rfl
                    have bMV_41 := bM_c bMV fV_41 rfl
                    have lLV_41 := lstV_c hL fV_41 rfl
                    have sMV_41 := sM_c sMV fV_41 rfl
                    have cJ := corR_of (e := l (mbr ch N j)) pV_41 sMa j2 j3 j4 j5 j6 j7 j8 (lLa.2 _ nj.1 4 (by omega)) (by rw [chg_k (c := 122) fa rfl]; exact ((hKs kdj j1).1 0 (by omega)).1)
                    have cI2 := corR_k cI (fun x hx => pV_41.2 x (Or.inl hx))
                    have d83 : V_41 99 83 = (chN ch N : Int) := (cV_41 99 83 rfl rfl).trans a83
                    have d151 := (chg_k (c := 151) cV_41 rfl).trans a151
                    have d152 := (chg_k (c := 152) cV_41 rfl).trans a152
                    have d153 := (chg_k (c := 153) cV_41 rfl).trans a153
                    have g1 := gap_o cI2 cJ i9 (by rw [i5, Int.toNat_natCast]; exact oi.1)
                    have g2 := gap_o cJ cI2 j9 (by rw [j5, Int.toNat_natCast]; exact oj.1)
                    refine T_al d_X11_orders_90 rfl ?_
                    refine F_gr (b := 153) d_X11_orders_91 rfl hF rfl ?_
                    refine T_k d_X11_orders_94 ?_
                    refine T_il d_X11_orders_96 rfl ?_
                    refine T_imul d_X11_orders_97 ?_
                    refine T_il d_X11_orders_98 rfl ?_
                    refine T_iadd d_X11_orders_99 ?_
                    refine T_il d_X11_orders_100 rfl ?_
                    refine T_il d_X11_orders_101 rfl ?_
                    refine T_ieq d_X11_orders_102 ⟨by omega, by omega⟩ ⟨by omega, by omega⟩ (fun h102 => ?_) (fun h102 => ?_)
                    · skip
                      refine T_k d_X11_orders_129 ?_
                      refine F_zs d_X11_orders_130 rfl hBV_41 rfl ⟨by omega, by omega⟩ ⟨by omega, by omega⟩ (fun V_43 eV_43 hBV_43 => ?_)
                      have fV_43 := chg_u eV_43 rfl fV_41
                      have bMV_43 := bM_c bMV fV_43 rfl
                      have lLV_43 := lstV_c hL fV_43 rfl
                      have sMV_43 := sM_c sMV fV_43 rfl
                      -- to 131 64f.102t@131
                      exact L131 V_43 hBV_43 fV_43 (by rw [eV_43]; exact d83) (fun t ht => by rw [eV_43, uV_cell (by decide), d151]; exact w151 t ht) (mr_s (mr_x wm d153) (by rw [eV_43, show (24 * (i : Int) + (j : Int)).toNat = 24 * i + j by omega]) (by rw [mt_eq (by omega)]; rfl) h13 (by omega)) (mr_x wl (by rw [eV_43, uV_cell (by decide)]; exact d152))
                    · skip
                      refine T_al d_X11_orders_105 rfl ?_
                      refine T_k d_X11_orders_106 ?_
                      refine T_k d_X11_orders_107 ?_
                      refine C_pv2 d_X11_orders_109 rfl (hdF (by omega)) (hcF _) (R_X11_parts (a := 0) (b := 8) hBV_41 hF (by omega) (by omega)) ?_
                      refine T_pz1 d_X11_orders_112 (fun h112 => ?_) (fun h112 => ?_)
                      · skip
                        refine T_k d_X11_orders_129 ?_
                        refine F_zs d_X11_orders_130 rfl hBV_41 rfl ⟨by omega, by omega⟩ ⟨by omega, by omega⟩ (fun V_44 eV_44 hBV_44 => ?_)
                        have fV_44 := chg_u eV_44 rfl fV_41
                        have bMV_44 := bM_c bMV fV_44 rfl
                        have lLV_44 := lstV_c hL fV_44 rfl
                        have sMV_44 := sM_c sMV fV_44 rfl
                        -- to 131 64f.102f.112t@131
                        exact L131 V_44 hBV_44 fV_44 (by rw [eV_44]; exact d83) (fun t ht => by rw [eV_44, uV_cell (by decide), d151]; exact w151 t ht) (mr_s (mr_x wm d153) (by rw [eV_44, show (24 * (i : Int) + (j : Int)).toNat = 24 * i + j by omega]) (by rw [mt_f1 (Or.inl (g1.mp h112))]; rfl) h13 (by omega)) (mr_x wl (by rw [eV_44, uV_cell (by decide)]; exact d152))
                      · skip
                        refine T_al d_X11_orders_115 rfl ?_
                        refine T_k d_X11_orders_116 ?_
                        refine T_k d_X11_orders_118 ?_
                        refine C_pv2 d_X11_orders_119 rfl (hdF (by omega)) (hcF _) (R_X11_parts (a := 8) (b := 0) hBV_41 hF (by omega) (by omega)) ?_
                        refine T_pz1 d_X11_orders_122 (fun h122 => ?_) (fun h122 => ?_)
                        · skip
                          refine T_k d_X11_orders_129 ?_
                          refine F_zs d_X11_orders_130 rfl hBV_41 rfl ⟨by omega, by omega⟩ ⟨by omega, by omega⟩ (fun V_45 eV_45 hBV_45 => ?_)
                          have fV_45 := chg_u eV_45 rfl fV_41
                          have bMV_45 := bM_c bMV fV_45 rfl
                          have lLV_45 := lstV_c hL fV_45 rfl
                          have sMV_45 := sM_c sMV fV_45 rfl
                          -- to 131 64f.102f.112f.122t@131
                          exact L131 V_45 hBV_45 fV_45 (by rw [eV_45]; exact d83) (fun t ht => by rw [eV_45, uV_cell (by decide), d151]; exact w151 t ht) (mr_s (mr_x wm d153) (by rw [eV_45, show (24 * (i : Int) + (j : Int)).toNat = 24 * i + j by omega]) (by rw [mt_f1 (Or.inr (g2.mp h122))]; rfl) h13 (by omega)) (mr_x wl (by rw [eV_45, uV_cell (by decide)]; exact d152))
                        · skip
                          refine T_k d_X11_orders_125 ?_
                          refine T_go d_X11_orders_126 ?_
                          refine F_zs d_X11_orders_130 rfl hBV_41 rfl ⟨by omega, by omega⟩ ⟨by omega, by omega⟩ (fun V_46 eV_46 hBV_46 => ?_)
                          have fV_46 := chg_u eV_46 rfl fV_41
                          have bMV_46 := bM_c bMV fV_46 rfl
                          have lLV_46 := lstV_c hL fV_46 rfl
                          have sMV_46 := sM_c sMV fV_46 rfl
                          -- to 131 64f.102f.112f.122f@131
                          exact L131 V_46 hBV_46 fV_46 (by rw [eV_46]; exact d83) (fun t ht => by rw [eV_46, uV_cell (by decide), d151]; exact w151 t ht) (mr_s (mr_x wm d153) (by rw [eV_46, show (24 * (i : Int) + (j : Int)).toNat = 24 * i + j by omega]) (by rw [mt_t (by omega) (fun z => h112 (g1.mpr z)) (fun z => h122 (g2.mpr z))]; rfl) h13 (by omega)) (mr_x wl (by rw [eV_46, uV_cell (by decide)]; exact d152))
              exact L59 _ Y (0) (Nat.lt_succ_self _) hBY fY (by first | assumption | omega) y83 y151 ym yl
        have eh : h = N := by omega
        rw [eh] at x83 x151
        exact L49 _ X (0) (Nat.lt_succ_self _) hBX fX (by first | assumption | omega) x83 x151 mr_0 mr_0
      · skip
        refine T_al d_X11_orders_15 rfl ?_
        refine F_gr (b := 147) d_X11_orders_16 rfl hF rfl ?_
        refine T_il d_X11_orders_19 rfl ?_
        refine F_za d_X11_orders_20 rfl hBX rfl ⟨by omega, by omega⟩ (fun b_47 => ?_)
        try simp only [Int.toNat_natCast]
        try simp only [Int.toNat_natCast] at b_47
        rw [show X 147 h = bi (ch.testBit h) from by rw [x147]; exact hch h (by omega)]
        refine T_zeq d_X11_orders_21 (bi_r _) (fun h21 => ?_) (fun h21 => ?_)
        · skip
          refine F_incg d_X11_orders_41 rfl (f := fun x_48 => [(0, vr 99), (1, vi k), (2, vi x_48)]) (fun _ => rfl) (fun x_48 ex_48 => ?_)
          refine T_go d_X11_orders_44 ?_
          -- to 7 12f.21t@7
          have zb : ¬ ch.testBit h = true := by rw [bi_0.mp h21]; decide
          obtain rfl : x_48 = ((h + 1) : Int) := by omega
          exact ih7 X (h + 1) (by omega) hBX fX (by first | assumption | omega) (by rw [cntB_f (p := fun x => ch.testBit x) (n := h) zb]; exact x83) (fun t ht => x151 t (by rw [cntB_f (p := fun x => ch.testBit x) (n := h) zb] at ht; exact ht))
        · skip
          refine T_al d_X11_orders_24 rfl ?_
          refine F_gr (b := 151) d_X11_orders_25 rfl hF rfl ?_
          refine T_al d_X11_orders_28 rfl ?_
          refine T_dup d_X11_orders_29 rfl ?_
          refine F_gi d_X11_orders_30 rfl hBX rfl (fun b_49 => ?_)
          refine T_dupx1 d_X11_orders_33 rfl rfl ?_
          refine T_k d_X11_orders_34 ?_
          refine T_iadd d_X11_orders_35 ?_
          refine F_pi d_X11_orders_36 rfl hBX rfl ⟨by omega, by omega⟩ (fun V_50 eV_50 hBV_50 => ?_)
          have fV_50 := chg_u eV_50 rfl fX
          have bMV_50 := bM_c bMV fV_50 rfl
          have lLV_50 := lstV_c hL fV_50 rfl
          have sMV_50 := sM_c sMV fV_50 rfl
          refine T_il d_X11_orders_39 rfl ?_
          refine F_is d_X11_orders_40 rfl hBV_50 rfl ⟨by omega, by omega⟩ ⟨by omega, by omega⟩ (fun V_51 eV_51 hBV_51 => ?_)
          have fV_51 := chg_u eV_51 rfl fV_50
          have bMV_51 := bM_c bMV fV_51 rfl
          have lLV_51 := lstV_c hL fV_51 rfl
          have sMV_51 := sM_c sMV fV_51 rfl
          refine F_incg d_X11_orders_41 rfl (f := fun x_52 => [(0, vr 99), (1, vi k), (2, vi x_52)]) (fun _ => rfl) (fun x_52 ex_52 => ?_)
          refine T_go d_X11_orders_44 ?_
          -- to 7 12f.21f@7
          have zb : ch.testBit h = true := bi_n.mp h21
          have tn : (X 99 83).toNat = cntB (fun x => ch.testBit x) h := by rw [x83]; rfl
          obtain rfl : x_52 = ((h + 1) : Int) := by omega
          exact ih7 V_51 (h + 1) (by omega) hBV_51 fV_51 (by first | assumption | omega) (by rw [eV_51, uV_cell (by decide), eV_50, cntB_t (p := fun x => ch.testBit x) (n := h) zb]; exact uV_self.trans (by rw [x83]; rfl)) (fun t ht => by rw [cntB_t (p := fun x => ch.testBit x) (n := h) zb] at ht; rw [eV_51, tn, uV_at]; by_cases y : t = cntB (fun x => ch.testBit x) h; (rw [if_pos y, y]; exact congrArg (fun z : Nat => (z : Int)) (nth_cnt (p := fun x => ch.testBit x) (n := N) (h := h) (by omega) zb).symm); (rw [if_neg y, eV_50, uV_cell (by decide)]; exact x151 t (by omega)))
  exact L7 _ V_1 (0) (Nat.lt_succ_self _) hBV_1 fV_1 (by first | assumption | omega) (by rw [eV_1]; rfl) (fun t ht => absurd ht (Nat.not_lt_zero _))
