def frA (rl : Nat → Nat → Bool) (s n : Nat) : Bool := anyB (fun i => s.testBit i && anyB (fun j => s.testBit j && rl i j) i) n
theorem frA_s {rl : Nat → Nat → Bool} {s n : Nat} : frA rl s (n + 1) = (frA rl s n || (s.testBit n && anyB (fun j => s.testBit j && rl n j) n)) := rfl
theorem anyB_s {p : Nat → Bool} {n : Nat} : anyB p (n + 1) = (anyB p n || p n) := rfl
theorem frB_A {rl : Nat → Nat → Bool} {s n : Nat} : frB rl n s = !(frA rl s n) := rfl
theorem fl_0 {x p : Bool} (h : (0 : Int) = bi (!(x))) : (0 : Int) = bi (!(x || p)) := by
  cases x
  · exact absurd h (by decide)
  · exact h
theorem fl_1 {a x p : Bool} (h : bi (!(a || x)) = 1) (hp : p = false) : (1 : Int) = bi (!(a || (x || p))) := by
  rw [hp, Bool.or_false]; exact h.symm
theorem fl_2 {a x p : Bool} (hp : p = true) : (0 : Int) = bi (!(a || (x || p))) := by
  rw [hp, Bool.or_true, Bool.or_true]; rfl
set_option maxHeartbeats 1000000 in
set_option maxRecDepth 100000 in
theorem R_X11_stands {G : GG} {V : VV} {R : RR} {k : Int} {y : Int} {w : Int} {b : Bk} {Ks : Nat → Kd} {nk : Nat} (hB : Bd V) (hF : FinR R) (bMV : bM b V) (hob : okB b Ks nk) (him : imB Ks nk V) (hld : ldM b Ks nk V) (h_k : r32 k) (h_y : r32 y) (h_w : r32 w) : Runs G M_X11_stands 44 162 162 [vr 99, vi k, vi y, vi w] V R (obsM b Ks nk V R (gd ((0 ≤ y ∧ y ≤ 2500) ∧ (0 ≤ w ∧ w ≤ 1) ∧ K4 k) (-1) (o8 b Ks nk k y w))) := by
  refine Runs.of pn_X11 (Nat.le_of_ble_eq_true rfl) rfl ?_
  show TT G M_X11_stands (rmd 44 162 162) 162 (Zm G 162 162 (obsM b Ks nk V R (gd ((0 ≤ y ∧ y ≤ 2500) ∧ (0 ≤ w ∧ w ≤ 1) ∧ K4 k) (-1) (o8 b Ks nk k y w)))) 162 0 [(0, vr 99), (1, vi k), (2, vi y), (3, vi w)] [] V R
  obtain ⟨h_k1, h_k2⟩ := h_k
  obtain ⟨h_y1, h_y2⟩ := h_y
  obtain ⟨h_w1, h_w2⟩ := h_w
  have fV : chg [(128, 161)] [(99, 1, 1), (99, 45, 49), (99, 57, 57), (99, 72, 87), (99, 97, 97)] V V := chg_r
  refine T_il d_X11_stands_0 rfl ?_
  refine C_ps1 d_X11_stands_1 (hdF (by omega)) (hcF _) (R_X11_isWeek ⟨by omega, by omega⟩) ?_
  refine T_pz0 d_X11_stands_4 (fun h4 => ?_) (fun h4 => ?_)
  · skip
    refine T_k d_X11_stands_27 ?_
    -- leaf 4t@28
    refine T_iret d_X11_stands_28 rfl ?_
    exact ⟨rfl, hB, fV, hld, _, rfl, ⟨by omega, by omega⟩, gd_n (fun z => h4 z.2.2)⟩
  · skip
    refine T_il d_X11_stands_7 rfl ?_
    refine T_k d_X11_stands_8 ?_
    refine T_k d_X11_stands_9 ?_
    refine C_ps3 d_X11_stands_12 (hdF (by omega)) (hcF _) (R_X11_in ⟨by omega, by omega⟩ ⟨by omega, by omega⟩ ⟨by omega, by omega⟩) ?_
    refine T_pz0 d_X11_stands_15 (fun h15 => ?_) (fun h15 => ?_)
    · skip
      refine T_k d_X11_stands_27 ?_
      -- leaf 4f.15t@28
      refine T_iret d_X11_stands_28 rfl ?_
      exact ⟨rfl, hB, fV, hld, _, rfl, ⟨by omega, by omega⟩, gd_n (fun z => h15 z.1)⟩
    · skip
      refine T_il d_X11_stands_18 rfl ?_
      refine T_k d_X11_stands_19 ?_
      refine T_k d_X11_stands_20 ?_
      refine C_ps3 d_X11_stands_21 (hdF (by omega)) (hcF _) (R_X11_in ⟨by omega, by omega⟩ ⟨by omega, by omega⟩ ⟨by omega, by omega⟩) ?_
      refine T_pz1 d_X11_stands_24 (fun h24 => ?_) (fun h24 => ?_)
      · skip
        refine T_al d_X11_stands_29 rfl ?_
        refine T_il d_X11_stands_30 rfl ?_
        refine C_v1 d_X11_stands_31 rfl (hdF (by omega)) (hcF _) (R_X11_lays (b := b) (Ks := Ks) (nk := nk) (k := k) hB hF bMV hob him h4 (ld_h hld h4.1)) (fun r_1 V_2 R_3 qV_2 => ?_)
        obtain ⟨rfl, hBV_2, cV_2, rfl, pV_2⟩ := qV_2
        have fV_2 := chg_t (A := [(128, 161)]) (F := [(99, 1, 1), (99, 45, 49), (99, 57, 57), (99, 72, 87), (99, 97, 97)]) fV cV_2 rfl
        have bMV_2 := bM_c bMV fV_2 rfl
        have lk := pV_2
        have ld := ld_n h4 lk.1 lk.2
        obtain ⟨_, c, ch, l1, l2, l3, l4, l5, l6, l7, l8, l9, l10, l11⟩ := lk
        have sl : sel b Ks nk k c ch := ⟨l1, l4⟩
        have lv := lstV_of l3
        have XB := hBV_2
        have fX := fV_2
        have sl_ := sl
        have h13 := a_13 (ch := ch) hob.1 hob.2.2.2 l4.1
        have s5n := st_neg l10
        have im := imB_c him fV_2
        have hN4 := l3.1
        have LFc : ∀ (i : Nat), i < (aC b k Ks nk c ch) → RunsP G M_X11_lifeOf 1 [vr 99, vi (i : Int)] V_2 R (vi ((lfM Ks (aL b k Ks nk c) ch (aN b k Ks nk c)) i)) := fun i hi => by have ni := nth_ok (p := fun x => ch.testBit x) (n := aN b k Ks nk c) (i := i) hi; have z := lv.2 _ ni.1 0 (by omega); obtain ⟨kd, p, q, r, ⟨z1, _⟩, _, ⟨z2, _⟩, _⟩ := row_f (a_row (b := b) (k := k) (Ks := Ks) (nk := nk) (c := c) (mbr ch (aN b k Ks nk c) i) ni.1) hob.2.2.2; have mi : mbr ch (aN b k Ks nk c) i < aN b k Ks nk c := ni.1; have n5 := hob.2.2.1; have el : (lfM Ks (aL b k Ks nk c) ch (aN b k Ks nk c)) i = (Ks kd).l 8 := (by unfold lfM; rw [z2, Int.toNat_natCast]); rw [el]; exact R_X11_lifeOf (Ks := Ks) (l := aL b k Ks nk c) (N := aN b k Ks nk c) (ch := ch) (i := i) (kd := kd) hBV_2 hF (by have h13c : aC b k Ks nk c ch ≤ 13 := h13; omega) (l7.2 i hi) (by omega) (z.trans z2) (by omega) (im.2 kd z1 8 (by omega)).1
        refine T_al d_X11_stands_34 rfl ?_
        refine F_gi d_X11_stands_35 rfl hBV_2 rfl (fun b_4 => ?_)
        refine T_zne d_X11_stands_38 ⟨by omega, by omega⟩ (fun h38 => ?_) (fun h38 => ?_)
        · skip
          have rg := (sta_r hob l9 l10 h38 h13).2
          obtain ⟨ea, hea⟩ : ∃ ea : Nat → Int, V_2 156 = ea := ⟨_, rfl⟩
          obtain ⟨na, hna⟩ : ∃ na : Nat → Int, (fun i => - V_2 157 i) = na := ⟨_, rfl⟩
          have x157 : ∀ i, V_2 157 i = - na i := fun i => by rw [← hna]; show _ = - - _; omega
          replace s5n : aSt b Ks nk k c ch (V_2 99 86) (V_2 99 87) ea (fun i => - na i) := by rw [show (fun i => - na i) = V_2 157 from funext (fun i => (x157 i).symm), ← hea]; exact l10
          rw [hea] at rg
          have lfb := a_lf (b := b) (k := k) (c := c) (ch := ch) hob.2.2.2
          have l71 := l7.1
          have h8192 : 2 ^ (aC b k Ks nk c ch) ≤ 8192 := Nat.pow_le_pow_right (n := 2) (by decide) h13
          have rlc := rl_cm (mt := aMt b k Ks nk c ch) (lt := aLt b k Ks nk c ch) mtM_cm
          refine T_k d_X11_stands_43 ?_
          refine T_is d_X11_stands_44 (ls' := [(0, vr 99), (1, vi k), (2, vi y), (3, vi w), (4, vi 0)]) rfl ?_
          refine T_k d_X11_stands_46 ?_
          refine T_is d_X11_stands_47 (ls' := [(0, vr 99), (1, vi k), (2, vi y), (3, vi w), (4, vi 0), (5, vi 0)]) rfl ?_
          refine T_k d_X11_stands_49 ?_
          refine T_is d_X11_stands_50 (ls' := [(0, vr 99), (1, vi k), (2, vi y), (3, vi w), (4, vi 0), (5, vi 0), (6, vi 0)]) rfl ?_
          -- to 52 4f.15f.24t.38t@52
          have L52 : ∀ (fu : Nat) (i : Nat), (aC b k Ks nk c ch) - i < fu → (i ≤ (aC b k Ks nk c ch)) → TT G M_X11_stands (rmd 44 162 162) 162 (Zm G 162 162 (obsM b Ks nk V R (gd ((0 ≤ y ∧ y ≤ 2500) ∧ (0 ≤ w ∧ w ≤ 1) ∧ K4 k) (-1) (o8 b Ks nk k y w)))) 162 52 [(0, vr 99), (2, vi y), (3, vi w), (4, vi (cntB (suP ea na (lfM Ks (aL b k Ks nk c) ch (aN b k Ks nk c)) y) i : Int)), (5, vi (bitsN (abP ea na (lfM Ks (aL b k Ks nk c) ch (aN b k Ks nk c)) y) i : Int)), (6, vi (i : Int))] [] V_2 R := by
            intro fu
            induction fu with
            | zero => intro i hm; exact absurd hm (Nat.not_lt_zero _)
            | succ fu ih52 =>
              intro i hm52 hi
              have bo := bn_13 (p := abP ea na (lfM Ks (aL b k Ks nk c) ch (aN b k Ks nk c)) y) (n := i) (by omega)
              have cl0 := cntB_le (p := suP ea na (lfM Ks (aL b k Ks nk c) ch (aN b k Ks nk c)) y) (n := i)
              refine T_il d_X11_stands_52 rfl ?_
              refine T_al d_X11_stands_54 rfl ?_
              refine F_gi d_X11_stands_55 rfl hBV_2 rfl (fun b_5 => ?_)
              rw [l71]
              refine T_ige d_X11_stands_58 ⟨by omega, by omega⟩ ⟨by omega, by omega⟩ (fun h58 => ?_) (fun h58 => ?_)
              · skip
                have ein : i = (aC b k Ks nk c ch) := by omega
                rw [ein]
                have bA := bn_lt (p := abP ea na (lfM Ks (aL b k Ks nk c) ch (aN b k Ks nk c)) y) (n := (aC b k Ks nk c ch))
                have sl := cntB_le (p := suP ea na (lfM Ks (aL b k Ks nk c) ch (aN b k Ks nk c)) y) (n := (aC b k Ks nk c ch))
                refine T_il d_X11_stands_137 rfl ?_
                refine T_zne d_X11_stands_138 ⟨by omega, by omega⟩ (fun h138 => ?_) (fun h138 => ?_)
                · skip
                  refine T_k d_X11_stands_144 ?_
                  refine T_is d_X11_stands_145 (ls' := [(0, vr 99), (2, vi y), (3, vi w), (4, vi (cntB (suP ea na (lfM Ks (aL b k Ks nk c) ch (aN b k Ks nk c)) y) (aC b k Ks nk c ch) : Int)), (5, vi (bitsN (abP ea na (lfM Ks (aL b k Ks nk c) ch (aN b k Ks nk c)) y) (aC b k Ks nk c ch) : Int)), (6, vi 0)]) rfl ?_
                  refine T_il d_X11_stands_147 rfl ?_
                  refine F_isg d_X11_stands_149 (f := fun x_6 => [(0, vr 99), (2, vi y), (3, vi w), (4, vi (cntB (suP ea na (lfM Ks (aL b k Ks nk c) ch (aN b k Ks nk c)) y) (aC b k Ks nk c ch) : Int)), (5, vi (bitsN (abP ea na (lfM Ks (aL b k Ks nk c) ch (aN b k Ks nk c)) y) (aC b k Ks nk c ch) : Int)), (6, vi 0), (7, vi x_6)]) (fun _ => rfl) (fun x_6 ex_6 => ?_)
                  -- to 151 58t.138t@151
                  have L151 : ∀ (fu : Nat) (q s : Nat), s < fu → (s ≤ (bitsN (abP ea na (lfM Ks (aL b k Ks nk c) ch (aN b k Ks nk c)) y) (aC b k Ks nk c ch))) → (q ≤ 13) → (mxW (gM (rlB (aMt b k Ks nk c ch) (aLt b k Ks nk c ch)) (aC b k Ks nk c ch)) (bitsN (abP ea na (lfM Ks (aL b k Ks nk c) ch (aN b k Ks nk c)) y) (aC b k Ks nk c ch)) s q = mxW (gM (rlB (aMt b k Ks nk c ch) (aLt b k Ks nk c ch)) (aC b k Ks nk c ch)) (bitsN (abP ea na (lfM Ks (aL b k Ks nk c) ch (aN b k Ks nk c)) y) (aC b k Ks nk c ch)) (bitsN (abP ea na (lfM Ks (aL b k Ks nk c) ch (aN b k Ks nk c)) y) (aC b k Ks nk c ch)) 0) → TT G M_X11_stands (rmd 44 162 162) 162 (Zm G 162 162 (obsM b Ks nk V R (gd ((0 ≤ y ∧ y ≤ 2500) ∧ (0 ≤ w ∧ w ≤ 1) ∧ K4 k) (-1) (o8 b Ks nk k y w)))) 162 151 [(0, vr 99), (5, vi (bitsN (abP ea na (lfM Ks (aL b k Ks nk c) ch (aN b k Ks nk c)) y) (aC b k Ks nk c ch) : Int)), (6, vi (q : Int)), (7, vi (s : Int))] [] V_2 R := by
                    intro fu
                    induction fu with
                    | zero => intro q s hm; exact absurd hm (Nat.not_lt_zero _)
                    | succ fu ih151 =>
                      intro q s hm151 hs2 hq hx
                      refine T_il d_X11_stands_151 rfl ?_
                      refine T_zle d_X11_stands_153 ⟨by omega, by omega⟩ (fun h153 => ?_) (fun h153 => ?_)
                      · skip
                        refine T_il d_X11_stands_273 rfl ?_
                        -- leaf 153t@275
                        refine T_iret d_X11_stands_275 rfl ?_
                        exact ⟨rfl, hBV_2, fV_2, ld, _, rfl, ⟨by omega, by omega⟩, gd_y ⟨h15, h24, h4⟩ ⟨c, ch, _, _, _, _, _, _, _, sl_, l9, s5n, by rw [if_neg h38, if_neg h138, ← hx, show s = 0 by omega, mxW_0]⟩⟩
                      · skip
                        have gb := gM_b (rl := (rlB (aMt b k Ks nk c ch) (aLt b k Ks nk c ch))) (n := (aC b k Ks nk c ch)) (s := s)
                        have ms := mxW_s (g := (gM (rlB (aMt b k Ks nk c ch) (aLt b k Ks nk c ch)) (aC b k Ks nk c ch))) (a := (bitsN (abP ea na (lfM Ks (aL b k Ks nk c) ch (aN b k Ks nk c)) y) (aC b k Ks nk c ch))) (s := s) (m := q) (by omega)
                        have ia : iandZ ((s : Int) - 1) (bitsN (abP ea na (lfM Ks (aL b k Ks nk c) ch (aN b k Ks nk c)) y) (aC b k Ks nk c ch) : Int) = (((s - 1) &&& (bitsN (abP ea na (lfM Ks (aL b k Ks nk c) ch (aN b k Ks nk c)) y) (aC b k Ks nk c ch)) : Nat) : Int) := by rw [show (s : Int) - 1 = ((s - 1 : Nat) : Int) by omega]; exact iand_n (by omega)
                        have al : (s - 1) &&& (bitsN (abP ea na (lfM Ks (aL b k Ks nk c) ch (aN b k Ks nk c)) y) (aC b k Ks nk c ch)) ≤ s - 1 := Nat.and_le_left
                        refine T_k d_X11_stands_156 ?_
                        refine T_is d_X11_stands_157 (ls' := [(0, vr 99), (5, vi (bitsN (abP ea na (lfM Ks (aL b k Ks nk c) ch (aN b k Ks nk c)) y) (aC b k Ks nk c ch) : Int)), (6, vi (q : Int)), (7, vi (s : Int)), (8, vi 0)]) rfl ?_
                        refine T_k d_X11_stands_159 ?_
                        refine T_is d_X11_stands_160 (ls' := [(0, vr 99), (5, vi (bitsN (abP ea na (lfM Ks (aL b k Ks nk c) ch (aN b k Ks nk c)) y) (aC b k Ks nk c ch) : Int)), (6, vi (q : Int)), (7, vi (s : Int)), (8, vi 0), (9, vi 1)]) rfl ?_
                        refine T_k d_X11_stands_162 ?_
                        refine T_is d_X11_stands_163 (ls' := [(0, vr 99), (5, vi (bitsN (abP ea na (lfM Ks (aL b k Ks nk c) ch (aN b k Ks nk c)) y) (aC b k Ks nk c ch) : Int)), (6, vi (q : Int)), (7, vi (s : Int)), (8, vi 0), (9, vi 1), (10, vi 0)]) rfl ?_
                        -- to 165 153f@165
                        have L165 : ∀ (fu : Nat) (i : Nat) (g : Int), (aC b k Ks nk c ch) - i < fu → (i ≤ (aC b k Ks nk c ch)) → (g = bi (!(frA (rlB (aMt b k Ks nk c ch) (aLt b k Ks nk c ch)) s i))) → TT G M_X11_stands (rmd 44 162 162) 162 (Zm G 162 162 (obsM b Ks nk V R (gd ((0 ≤ y ∧ y ≤ 2500) ∧ (0 ≤ w ∧ w ≤ 1) ∧ K4 k) (-1) (o8 b Ks nk k y w)))) 162 165 [(0, vr 99), (5, vi (bitsN (abP ea na (lfM Ks (aL b k Ks nk c) ch (aN b k Ks nk c)) y) (aC b k Ks nk c ch) : Int)), (6, vi (q : Int)), (7, vi (s : Int)), (8, vi (cntB (fun x => s.testBit x) i : Int)), (9, vi g), (10, vi (i : Int))] [] V_2 R := by
                          intro fu
                          induction fu with
                          | zero => intro i g hm; exact absurd hm (Nat.not_lt_zero _)
                          | succ fu ih165 =>
                            intro i g hm165 hi hg
                            have cl1 := cntB_le (p := fun x => s.testBit x) (n := i)
                            refine T_il d_X11_stands_165 rfl ?_
                            refine T_al d_X11_stands_167 rfl ?_
                            refine F_gi d_X11_stands_168 rfl hBV_2 rfl (fun b_7 => ?_)
                            rw [l71]
                            refine T_ige d_X11_stands_171 ⟨by omega, by omega⟩ ⟨by omega, by omega⟩ (fun h171 => ?_) (fun h171 => ?_)
                            · skip
                              have eis : i = (aC b k Ks nk c ch) := by omega
                              rw [eis] at hg
                              have ge : (gM (rlB (aMt b k Ks nk c ch) (aLt b k Ks nk c ch)) (aC b k Ks nk c ch)) s = if g = 1 then cntB (fun x => s.testBit x) (aC b k Ks nk c ch) else 0 := by unfold gM; rw [frB_A, hg]; cases frA (rlB (aMt b k Ks nk c ch) (aLt b k Ks nk c ch)) s (aC b k Ks nk c ch) <;> rfl
                              have g01 : g = 0 ∨ g = 1 := by rw [hg]; cases frA (rlB (aMt b k Ks nk c ch) (aLt b k Ks nk c ch)) s (aC b k Ks nk c ch); exact Or.inr rfl; exact Or.inl rfl
                              have cl := cntB_le (p := fun x => s.testBit x) (n := (aC b k Ks nk c ch))
                              rw [eis]
                              refine T_il d_X11_stands_245 rfl ?_
                              refine T_zeq d_X11_stands_247 ⟨by omega, by omega⟩ (fun h247 => ?_) (fun h247 => ?_)
                              · skip
                                refine T_il d_X11_stands_261 rfl ?_
                                refine T_k d_X11_stands_263 ?_
                                refine T_isub d_X11_stands_264 ?_
                                refine T_il d_X11_stands_265 rfl ?_
                                refine T_iand d_X11_stands_267 ?_
                                refine F_isg d_X11_stands_268 (f := fun x_8 => [(0, vr 99), (5, vi (bitsN (abP ea na (lfM Ks (aL b k Ks nk c) ch (aN b k Ks nk c)) y) (aC b k Ks nk c ch) : Int)), (6, vi (q : Int)), (7, vi x_8), (8, vi (cntB (fun x => s.testBit x) (aC b k Ks nk c ch) : Int)), (9, vi g), (10, vi ((aC b k Ks nk c ch) : Int))]) (fun _ => rfl) (fun x_8 ex_8 => ?_)
                                obtain rfl : x_8 = (((s - 1) &&& (bitsN (abP ea na (lfM Ks (aL b k Ks nk c) ch (aN b k Ks nk c)) y) (aC b k Ks nk c ch)) : Nat) : Int) := by rw [ex_8]; exact ia
                                refine T_go d_X11_stands_270 ?_
                                -- to 151 171t.247t@151
                                refine T_subp (ks := [0, 1, 2, 3]) (ls' := [(0, vr 99), (5, vi (bitsN (abP ea na (lfM Ks (aL b k Ks nk c) ch (aN b k Ks nk c)) y) (aC b k Ks nk c ch) : Int)), (6, vi (q : Int)), (7, vi (((s - 1) &&& (bitsN (abP ea na (lfM Ks (aL b k Ks nk c) ch (aN b k Ks nk c)) y) (aC b k Ks nk c ch)) : Nat) : Int))]) rfl ?_
                                exact ih151 (q) ((s - 1) &&& (bitsN (abP ea na (lfM Ks (aL b k Ks nk c) ch (aN b k Ks nk c)) y) (aC b k Ks nk c ch))) (by omega) (by omega) hq (by rw [← hx, ms, show (gM (rlB (aMt b k Ks nk c ch) (aLt b k Ks nk c ch)) (aC b k Ks nk c ch)) s = 0 from by rw [ge, if_neg (by omega)], if_neg (Nat.not_lt_zero _)])
                              · skip
                                refine T_il d_X11_stands_250 rfl ?_
                                refine T_il d_X11_stands_252 rfl ?_
                                refine T_ile d_X11_stands_254 ⟨by omega, by omega⟩ ⟨by omega, by omega⟩ (fun h254 => ?_) (fun h254 => ?_)
                                · skip
                                  refine T_il d_X11_stands_261 rfl ?_
                                  refine T_k d_X11_stands_263 ?_
                                  refine T_isub d_X11_stands_264 ?_
                                  refine T_il d_X11_stands_265 rfl ?_
                                  refine T_iand d_X11_stands_267 ?_
                                  refine F_isg d_X11_stands_268 (f := fun x_9 => [(0, vr 99), (5, vi (bitsN (abP ea na (lfM Ks (aL b k Ks nk c) ch (aN b k Ks nk c)) y) (aC b k Ks nk c ch) : Int)), (6, vi (q : Int)), (7, vi x_9), (8, vi (cntB (fun x => s.testBit x) (aC b k Ks nk c ch) : Int)), (9, vi g), (10, vi ((aC b k Ks nk c ch) : Int))]) (fun _ => rfl) (fun x_9 ex_9 => ?_)
                                  obtain rfl : x_9 = (((s - 1) &&& (bitsN (abP ea na (lfM Ks (aL b k Ks nk c) ch (aN b k Ks nk c)) y) (aC b k Ks nk c ch)) : Nat) : Int) := by rw [ex_9]; exact ia
                                  refine T_go d_X11_stands_270 ?_
                                  -- to 151 171t.247f.254t@151
                                  refine T_subp (ks := [0, 1, 2, 3]) (ls' := [(0, vr 99), (5, vi (bitsN (abP ea na (lfM Ks (aL b k Ks nk c) ch (aN b k Ks nk c)) y) (aC b k Ks nk c ch) : Int)), (6, vi (q : Int)), (7, vi (((s - 1) &&& (bitsN (abP ea na (lfM Ks (aL b k Ks nk c) ch (aN b k Ks nk c)) y) (aC b k Ks nk c ch)) : Nat) : Int))]) rfl ?_
                                  exact ih151 (q) ((s - 1) &&& (bitsN (abP ea na (lfM Ks (aL b k Ks nk c) ch (aN b k Ks nk c)) y) (aC b k Ks nk c ch))) (by omega) (by omega) hq (by rw [← hx, ms, show (gM (rlB (aMt b k Ks nk c ch) (aLt b k Ks nk c ch)) (aC b k Ks nk c ch)) s = cntB (fun x => s.testBit x) (aC b k Ks nk c ch) from by rw [ge, if_pos (by omega)], if_neg (by omega)])
                                · skip
                                  refine T_il d_X11_stands_257 rfl ?_
                                  refine F_isg d_X11_stands_259 (f := fun x_10 => [(0, vr 99), (5, vi (bitsN (abP ea na (lfM Ks (aL b k Ks nk c) ch (aN b k Ks nk c)) y) (aC b k Ks nk c ch) : Int)), (6, vi x_10), (7, vi (s : Int)), (8, vi (cntB (fun x => s.testBit x) (aC b k Ks nk c ch) : Int)), (9, vi g), (10, vi ((aC b k Ks nk c ch) : Int))]) (fun _ => rfl) (fun x_10 ex_10 => ?_)
                                  obtain rfl : x_10 = (cntB (fun x => s.testBit x) (aC b k Ks nk c ch) : Int) := ex_10
                                  refine T_il d_X11_stands_261 rfl ?_
                                  refine T_k d_X11_stands_263 ?_
                                  refine T_isub d_X11_stands_264 ?_
                                  refine T_il d_X11_stands_265 rfl ?_
                                  refine T_iand d_X11_stands_267 ?_
                                  refine F_isg d_X11_stands_268 (f := fun x_11 => [(0, vr 99), (5, vi (bitsN (abP ea na (lfM Ks (aL b k Ks nk c) ch (aN b k Ks nk c)) y) (aC b k Ks nk c ch) : Int)), (6, vi (cntB (fun x => s.testBit x) (aC b k Ks nk c ch) : Int)), (7, vi x_11), (8, vi (cntB (fun x => s.testBit x) (aC b k Ks nk c ch) : Int)), (9, vi g), (10, vi ((aC b k Ks nk c ch) : Int))]) (fun _ => rfl) (fun x_11 ex_11 => ?_)
                                  obtain rfl : x_11 = (((s - 1) &&& (bitsN (abP ea na (lfM Ks (aL b k Ks nk c) ch (aN b k Ks nk c)) y) (aC b k Ks nk c ch)) : Nat) : Int) := by rw [ex_11]; exact ia
                                  refine T_go d_X11_stands_270 ?_
                                  -- to 151 171t.247f.254f@151
                                  refine T_subp (ks := [0, 1, 2, 3]) (ls' := [(0, vr 99), (5, vi (bitsN (abP ea na (lfM Ks (aL b k Ks nk c) ch (aN b k Ks nk c)) y) (aC b k Ks nk c ch) : Int)), (6, vi (cntB (fun x => s.testBit x) (aC b k Ks nk c ch) : Int)), (7, vi (((s - 1) &&& (bitsN (abP ea na (lfM Ks (aL b k Ks nk c) ch (aN b k Ks nk c)) y) (aC b k Ks nk c ch)) : Nat) : Int))]) rfl ?_
                                  exact ih151 (cntB (fun x => s.testBit x) (aC b k Ks nk c ch)) ((s - 1) &&& (bitsN (abP ea na (lfM Ks (aL b k Ks nk c) ch (aN b k Ks nk c)) y) (aC b k Ks nk c ch))) (by omega) (by omega) (by omega) (by rw [← hx, ms, show (gM (rlB (aMt b k Ks nk c ch) (aLt b k Ks nk c ch)) (aC b k Ks nk c ch)) s = cntB (fun x => s.testBit x) (aC b k Ks nk c ch) from by rw [ge, if_pos (by omega)], if_pos (by omega)])
                            · skip
                              refine T_il d_X11_stands_174 rfl ?_
                              refine T_il d_X11_stands_176 rfl ?_
                              refine T_ishr d_X11_stands_178 ?_
                              refine T_k d_X11_stands_179 ?_
                              refine T_iand d_X11_stands_180 ?_
                              rw [tbI (by omega) (by omega)]
                              refine T_zne d_X11_stands_181 (bi_r _) (fun h181 => ?_) (fun h181 => ?_)
                              · skip
                                have ti := bi_n.mp h181
                                refine F_incg d_X11_stands_187 rfl (f := fun x_12 => [(0, vr 99), (5, vi (bitsN (abP ea na (lfM Ks (aL b k Ks nk c) ch (aN b k Ks nk c)) y) (aC b k Ks nk c ch) : Int)), (6, vi (q : Int)), (7, vi (s : Int)), (8, vi x_12), (9, vi g), (10, vi (i : Int))]) (fun _ => rfl) (fun x_12 ex_12 => ?_)
                                obtain rfl : x_12 = (cntB (fun x => s.testBit x) (i + 1) : Int) := by rw [ex_12, cntB_t (p := fun x => s.testBit x) (n := i) ti]; rfl
                                refine T_k d_X11_stands_190 ?_
                                refine T_is d_X11_stands_191 (ls' := [(0, vr 99), (5, vi (bitsN (abP ea na (lfM Ks (aL b k Ks nk c) ch (aN b k Ks nk c)) y) (aC b k Ks nk c ch) : Int)), (6, vi (q : Int)), (7, vi (s : Int)), (8, vi (cntB (fun x => s.testBit x) (i + 1) : Int)), (9, vi g), (10, vi (i : Int)), (11, vi 0)]) rfl ?_
                                -- to 193 171f.181t@193
                                have L193 : ∀ (fu : Nat) (j : Nat) (e : Int), i - j < fu → (j ≤ i) → (e = bi (!(frA (rlB (aMt b k Ks nk c ch) (aLt b k Ks nk c ch)) s i || anyB (fun j => s.testBit j && (rlB (aMt b k Ks nk c ch) (aLt b k Ks nk c ch)) i j) j))) → TT G M_X11_stands (rmd 44 162 162) 162 (Zm G 162 162 (obsM b Ks nk V R (gd ((0 ≤ y ∧ y ≤ 2500) ∧ (0 ≤ w ∧ w ≤ 1) ∧ K4 k) (-1) (o8 b Ks nk k y w)))) 162 193 [(0, vr 99), (5, vi (bitsN (abP ea na (lfM Ks (aL b k Ks nk c) ch (aN b k Ks nk c)) y) (aC b k Ks nk c ch) : Int)), (6, vi (q : Int)), (7, vi (s : Int)), (8, vi (cntB (fun x => s.testBit x) (i + 1) : Int)), (9, vi e), (10, vi (i : Int)), (11, vi (j : Int))] [] V_2 R := by
                                  intro fu
                                  induction fu with
                                  | zero => intro j e hm; exact absurd hm (Nat.not_lt_zero _)
                                  | succ fu ih193 =>
                                    intro j e hm193 hj hgj
                                    have e01 : e = 0 ∨ e = 1 := by rw [hgj]; cases (frA (rlB (aMt b k Ks nk c ch) (aLt b k Ks nk c ch)) s i || anyB (fun j => s.testBit j && (rlB (aMt b k Ks nk c ch) (aLt b k Ks nk c ch)) i j) j); exact Or.inr rfl; exact Or.inl rfl
                                    refine T_il d_X11_stands_193 rfl ?_
                                    refine T_il d_X11_stands_195 rfl ?_
                                    refine T_ige d_X11_stands_197 ⟨by omega, by omega⟩ ⟨by omega, by omega⟩ (fun h197 => ?_) (fun h197 => ?_)
                                    · skip
                                      refine F_incg d_X11_stands_239 rfl (f := fun x_13 => [(0, vr 99), (5, vi (bitsN (abP ea na (lfM Ks (aL b k Ks nk c) ch (aN b k Ks nk c)) y) (aC b k Ks nk c ch) : Int)), (6, vi (q : Int)), (7, vi (s : Int)), (8, vi (cntB (fun x => s.testBit x) (i + 1) : Int)), (9, vi e), (10, vi x_13), (11, vi (j : Int))]) (fun _ => rfl) (fun x_13 ex_13 => ?_)
                                      refine T_go d_X11_stands_242 ?_
                                      -- to 165 197t@165
                                      refine T_subp (ks := [0, 1, 2, 3, 4, 5, 6]) (ls' := [(0, vr 99), (5, vi (bitsN (abP ea na (lfM Ks (aL b k Ks nk c) ch (aN b k Ks nk c)) y) (aC b k Ks nk c ch) : Int)), (6, vi (q : Int)), (7, vi (s : Int)), (8, vi (cntB (fun x => s.testBit x) (i + 1) : Int)), (9, vi e), (10, vi x_13)]) rfl ?_
                                      obtain rfl : x_13 = ((i + 1) : Int) := by omega
                                      exact ih165 (i + 1) e (by omega) (by first | assumption | omega) (by rw [hgj, frA_s, ti, Bool.true_and, show j = i by omega])
                                    · skip
                                      refine T_il d_X11_stands_200 rfl ?_
                                      refine T_zeq d_X11_stands_202 ⟨by omega, by omega⟩ (fun h202 => ?_) (fun h202 => ?_)
                                      · skip
                                        refine T_k d_X11_stands_230 ?_
                                        refine T_is d_X11_stands_231 (ls' := [(0, vr 99), (5, vi (bitsN (abP ea na (lfM Ks (aL b k Ks nk c) ch (aN b k Ks nk c)) y) (aC b k Ks nk c ch) : Int)), (6, vi (q : Int)), (7, vi (s : Int)), (8, vi (cntB (fun x => s.testBit x) (i + 1) : Int)), (9, vi 0), (10, vi (i : Int)), (11, vi (j : Int))]) rfl ?_
                                        refine F_incg d_X11_stands_233 rfl (f := fun x_14 => [(0, vr 99), (5, vi (bitsN (abP ea na (lfM Ks (aL b k Ks nk c) ch (aN b k Ks nk c)) y) (aC b k Ks nk c ch) : Int)), (6, vi (q : Int)), (7, vi (s : Int)), (8, vi (cntB (fun x => s.testBit x) (i + 1) : Int)), (9, vi 0), (10, vi (i : Int)), (11, vi x_14)]) (fun _ => rfl) (fun x_14 ex_14 => ?_)
                                        refine T_go d_X11_stands_236 ?_
                                        -- to 193 197f.202t@193
                                        obtain rfl : x_14 = ((j + 1) : Int) := by omega
                                        exact ih193 (j + 1) 0 (by omega) (by first | assumption | omega) (by rw [anyB_s, ← Bool.or_assoc]; exact fl_0 (h202.symm.trans hgj))
                                      · skip
                                        refine T_il d_X11_stands_205 rfl ?_
                                        refine T_il d_X11_stands_207 rfl ?_
                                        refine T_ishr d_X11_stands_209 ?_
                                        refine T_k d_X11_stands_210 ?_
                                        refine T_iand d_X11_stands_211 ?_
                                        rw [tbI (by omega) (by omega)]
                                        refine T_zeq d_X11_stands_212 (bi_r _) (fun h212 => ?_) (fun h212 => ?_)
                                        · skip
                                          refine T_k d_X11_stands_226 ?_
                                          refine T_go d_X11_stands_227 ?_
                                          refine T_is d_X11_stands_231 (ls' := [(0, vr 99), (5, vi (bitsN (abP ea na (lfM Ks (aL b k Ks nk c) ch (aN b k Ks nk c)) y) (aC b k Ks nk c ch) : Int)), (6, vi (q : Int)), (7, vi (s : Int)), (8, vi (cntB (fun x => s.testBit x) (i + 1) : Int)), (9, vi 1), (10, vi (i : Int)), (11, vi (j : Int))]) rfl ?_
                                          refine F_incg d_X11_stands_233 rfl (f := fun x_15 => [(0, vr 99), (5, vi (bitsN (abP ea na (lfM Ks (aL b k Ks nk c) ch (aN b k Ks nk c)) y) (aC b k Ks nk c ch) : Int)), (6, vi (q : Int)), (7, vi (s : Int)), (8, vi (cntB (fun x => s.testBit x) (i + 1) : Int)), (9, vi 1), (10, vi (i : Int)), (11, vi x_15)]) (fun _ => rfl) (fun x_15 ex_15 => ?_)
                                          refine T_go d_X11_stands_236 ?_
                                          -- to 193 197f.202f.212t@193
                                          obtain rfl : x_15 = ((j + 1) : Int) := by omega
                                          exact ih193 (j + 1) 1 (by omega) (by first | assumption | omega) (by rw [anyB_s]; exact fl_1 (by rw [← hgj]; omega) (by rw [bi_0.mp h212]; rfl))
                                        · skip
                                          refine T_al d_X11_stands_215 rfl ?_
                                          refine T_il d_X11_stands_216 rfl ?_
                                          refine T_il d_X11_stands_218 rfl ?_
                                          refine C_pv2 d_X11_stands_220 rfl (hdF (by omega)) (hcF _) (R_X11_areBound (mt := aMt b k Ks nk c ch) (lt := aLt b k Ks nk c ch) (n := (aC b k Ks nk c ch)) (i := i) (j := j) hBV_2 hF l8 h13 (by omega) (by omega)) ?_
                                          refine T_pz1 d_X11_stands_223 (fun h223 => ?_) (fun h223 => ?_)
                                          · skip
                                            refine T_k d_X11_stands_230 ?_
                                            refine T_is d_X11_stands_231 (ls' := [(0, vr 99), (5, vi (bitsN (abP ea na (lfM Ks (aL b k Ks nk c) ch (aN b k Ks nk c)) y) (aC b k Ks nk c ch) : Int)), (6, vi (q : Int)), (7, vi (s : Int)), (8, vi (cntB (fun x => s.testBit x) (i + 1) : Int)), (9, vi 0), (10, vi (i : Int)), (11, vi (j : Int))]) rfl ?_
                                            refine F_incg d_X11_stands_233 rfl (f := fun x_16 => [(0, vr 99), (5, vi (bitsN (abP ea na (lfM Ks (aL b k Ks nk c) ch (aN b k Ks nk c)) y) (aC b k Ks nk c ch) : Int)), (6, vi (q : Int)), (7, vi (s : Int)), (8, vi (cntB (fun x => s.testBit x) (i + 1) : Int)), (9, vi 0), (10, vi (i : Int)), (11, vi x_16)]) (fun _ => rfl) (fun x_16 ex_16 => ?_)
                                            refine T_go d_X11_stands_236 ?_
                                            -- to 193 197f.202f.212f.223t@193
                                            obtain rfl : x_16 = ((j + 1) : Int) := by omega
                                            exact ih193 (j + 1) 0 (by omega) (by first | assumption | omega) (by rw [anyB_s]; exact fl_2 (by rw [bi_n.mp h212, h223]; rfl))
                                          · skip
                                            refine T_k d_X11_stands_226 ?_
                                            refine T_go d_X11_stands_227 ?_
                                            refine T_is d_X11_stands_231 (ls' := [(0, vr 99), (5, vi (bitsN (abP ea na (lfM Ks (aL b k Ks nk c) ch (aN b k Ks nk c)) y) (aC b k Ks nk c ch) : Int)), (6, vi (q : Int)), (7, vi (s : Int)), (8, vi (cntB (fun x => s.testBit x) (i + 1) : Int)), (9, vi 1), (10, vi (i : Int)), (11, vi (j : Int))]) rfl ?_
                                            refine F_incg d_X11_stands_233 rfl (f := fun x_17 => [(0, vr 99), (5, vi (bitsN (abP ea na (lfM Ks (aL b k Ks nk c) ch (aN b k Ks nk c)) y) (aC b k Ks nk c ch) : Int)), (6, vi (q : Int)), (7, vi (s : Int)), (8, vi (cntB (fun x => s.testBit x) (i + 1) : Int)), (9, vi 1), (10, vi (i : Int)), (11, vi x_17)]) (fun _ => rfl) (fun x_17 ex_17 => ?_)
                                            refine T_go d_X11_stands_236 ?_
                                            -- to 193 197f.202f.212f.223f@193
                                            obtain rfl : x_17 = ((j + 1) : Int) := by omega
                                            exact ih193 (j + 1) 1 (by omega) (by first | assumption | omega) (by rw [anyB_s]; exact fl_1 (by rw [← hgj]; omega) (by rw [Bool.eq_false_iff.mpr h223, Bool.and_false]))
                                exact L193 _ (0) g (Nat.lt_succ_self _) (by first | assumption | omega) (by rw [hg]; show _ = bi (!(frA (rlB (aMt b k Ks nk c ch) (aLt b k Ks nk c ch)) s i || false)); rw [Bool.or_false])
                              · skip
                                refine T_go d_X11_stands_184 ?_
                                refine F_incg d_X11_stands_239 rfl (f := fun x_18 => [(0, vr 99), (5, vi (bitsN (abP ea na (lfM Ks (aL b k Ks nk c) ch (aN b k Ks nk c)) y) (aC b k Ks nk c ch) : Int)), (6, vi (q : Int)), (7, vi (s : Int)), (8, vi (cntB (fun x => s.testBit x) i : Int)), (9, vi g), (10, vi x_18)]) (fun _ => rfl) (fun x_18 ex_18 => ?_)
                                refine T_go d_X11_stands_242 ?_
                                -- to 165 171f.181f@165
                                rw [← cntB_f (p := fun x => s.testBit x) (n := i) (by rw [bi_0.mp h181]; decide)]
                                obtain rfl : x_18 = ((i + 1) : Int) := by omega
                                exact ih165 (i + 1) g (by omega) (by first | assumption | omega) (by rw [hg, frA_s, bi_0.mp h181, Bool.false_and, Bool.or_false])
                        exact L165 _ (0) 1 (Nat.lt_succ_self _) (by first | assumption | omega) rfl
                  refine T_subp (ks := [0, 4, 5, 6]) (ls' := [(0, vr 99), (5, vi (bitsN (abP ea na (lfM Ks (aL b k Ks nk c) ch (aN b k Ks nk c)) y) (aC b k Ks nk c ch) : Int)), (6, vi 0), (7, vi x_6)]) rfl ?_
                  obtain rfl : x_6 = (((bitsN (abP ea na (lfM Ks (aL b k Ks nk c) ch (aN b k Ks nk c)) y) (aC b k Ks nk c ch))) : Int) := by omega
                  exact L151 _ (0) ((bitsN (abP ea na (lfM Ks (aL b k Ks nk c) ch (aN b k Ks nk c)) y) (aC b k Ks nk c ch))) (Nat.lt_succ_self _) (Nat.le_refl _) (by omega) rfl
                · skip
                  refine T_il d_X11_stands_141 rfl ?_
                  -- leaf 58t.138f@143
                  refine T_iret d_X11_stands_143 rfl ?_
                  exact ⟨rfl, hBV_2, fV_2, ld, _, rfl, ⟨by omega, by omega⟩, gd_y ⟨h15, h24, h4⟩ ⟨c, ch, _, _, _, _, _, _, _, sl_, l9, s5n, by rw [if_neg h38, if_pos h138]⟩⟩
              · skip
                have ri := rg i (by omega)
                have fi := lfb i (by omega)
                have xi := x157 i
                have ei : V_2 156 i = ea i := by rw [hea]
                refine T_al d_X11_stands_61 rfl ?_
                refine F_gr (b := 157) d_X11_stands_62 rfl hF rfl ?_
                refine T_il d_X11_stands_65 rfl ?_
                refine F_ian d_X11_stands_67 rfl ⟨by omega, by omega⟩ ?_
                try simp only [Int.toNat_natCast]
                rw [xi]
                refine T_il d_X11_stands_68 rfl ?_
                refine T_igt d_X11_stands_69 ⟨by omega, by omega⟩ ⟨by omega, by omega⟩ (fun h69 => ?_) (fun h69 => ?_)
                · skip
                  rw [← cntB_f (p := suP ea na (lfM Ks (aL b k Ks nk c) ch (aN b k Ks nk c)) y) (n := i) (fun z => by have := of_decide_eq_true z; omega)]
                  refine T_al d_X11_stands_93 rfl ?_
                  refine F_gr (b := 156) d_X11_stands_94 rfl hF rfl ?_
                  refine T_il d_X11_stands_97 rfl ?_
                  refine F_ian d_X11_stands_99 rfl ⟨by omega, by omega⟩ ?_
                  try simp only [Int.toNat_natCast]
                  rw [ei]
                  refine T_il d_X11_stands_100 rfl ?_
                  refine T_igt d_X11_stands_101 ⟨by omega, by omega⟩ ⟨by omega, by omega⟩ (fun h101 => ?_) (fun h101 => ?_)
                  · skip
                    rw [← bits_f (p := abP ea na (lfM Ks (aL b k Ks nk c) ch (aN b k Ks nk c)) y) (j := i) (decide_eq_false (fun z => by omega))]
                    refine F_incg d_X11_stands_131 rfl (f := fun x_19 => [(0, vr 99), (2, vi y), (3, vi w), (4, vi (cntB (suP ea na (lfM Ks (aL b k Ks nk c) ch (aN b k Ks nk c)) y) (i + 1) : Int)), (5, vi (bitsN (abP ea na (lfM Ks (aL b k Ks nk c) ch (aN b k Ks nk c)) y) (i + 1) : Int)), (6, vi x_19)]) (fun _ => rfl) (fun x_19 ex_19 => ?_)
                    refine T_go d_X11_stands_134 ?_
                    -- to 52 58f.69t.101t@52
                    obtain rfl : x_19 = ((i + 1) : Int) := by omega
                    exact ih52 (i + 1) (by omega) (by first | assumption | omega)
                  · skip
                    refine T_al d_X11_stands_104 rfl ?_
                    refine F_gr (b := 157) d_X11_stands_105 rfl hF rfl ?_
                    refine T_il d_X11_stands_108 rfl ?_
                    refine F_ian d_X11_stands_110 rfl ⟨by omega, by omega⟩ ?_
                    try simp only [Int.toNat_natCast]
                    rw [xi]
                    refine T_al d_X11_stands_111 rfl ?_
                    refine T_il d_X11_stands_112 rfl ?_
                    refine C_pv1 d_X11_stands_114 rfl (hdF (by omega)) (hcF _) (LFc i (by omega)) ?_
                    refine T_iadd d_X11_stands_117 ?_
                    refine T_il d_X11_stands_118 rfl ?_
                    refine T_ile d_X11_stands_119 ⟨by omega, by omega⟩ ⟨by omega, by omega⟩ (fun h119 => ?_) (fun h119 => ?_)
                    · skip
                      rw [← bits_f (p := abP ea na (lfM Ks (aL b k Ks nk c) ch (aN b k Ks nk c)) y) (j := i) (decide_eq_false (fun z => by omega))]
                      refine F_incg d_X11_stands_131 rfl (f := fun x_20 => [(0, vr 99), (2, vi y), (3, vi w), (4, vi (cntB (suP ea na (lfM Ks (aL b k Ks nk c) ch (aN b k Ks nk c)) y) (i + 1) : Int)), (5, vi (bitsN (abP ea na (lfM Ks (aL b k Ks nk c) ch (aN b k Ks nk c)) y) (i + 1) : Int)), (6, vi x_20)]) (fun _ => rfl) (fun x_20 ex_20 => ?_)
                      refine T_go d_X11_stands_134 ?_
                      -- to 52 58f.69t.101f.119t@52
                      obtain rfl : x_20 = ((i + 1) : Int) := by omega
                      exact ih52 (i + 1) (by omega) (by first | assumption | omega)
                    · skip
                      refine T_il d_X11_stands_122 rfl ?_
                      refine T_k d_X11_stands_124 ?_
                      refine T_il d_X11_stands_125 rfl ?_
                      refine T_ishl d_X11_stands_127 ?_
                      refine T_ior d_X11_stands_128 ?_
                      refine F_isg d_X11_stands_129 (f := fun x_21 => [(0, vr 99), (2, vi y), (3, vi w), (4, vi (cntB (suP ea na (lfM Ks (aL b k Ks nk c) ch (aN b k Ks nk c)) y) (i + 1) : Int)), (5, vi x_21), (6, vi (i : Int))]) (fun _ => rfl) (fun x_21 ex_21 => ?_)
                      obtain rfl : x_21 = (bitsN (abP ea na (lfM Ks (aL b k Ks nk c) ch (aN b k Ks nk c)) y) (i + 1) : Int) := by rw [ex_21, (or_13 bo (show i < 13 by omega)).1, bits_t (p := abP ea na (lfM Ks (aL b k Ks nk c) ch (aN b k Ks nk c)) y) (decide_eq_true ⟨by omega, by omega⟩)]
                      refine F_incg d_X11_stands_131 rfl (f := fun x_22 => [(0, vr 99), (2, vi y), (3, vi w), (4, vi (cntB (suP ea na (lfM Ks (aL b k Ks nk c) ch (aN b k Ks nk c)) y) (i + 1) : Int)), (5, vi (bitsN (abP ea na (lfM Ks (aL b k Ks nk c) ch (aN b k Ks nk c)) y) (i + 1) : Int)), (6, vi x_22)]) (fun _ => rfl) (fun x_22 ex_22 => ?_)
                      refine T_go d_X11_stands_134 ?_
                      -- to 52 58f.69t.101f.119f@52
                      obtain rfl : x_22 = ((i + 1) : Int) := by omega
                      exact ih52 (i + 1) (by omega) (by first | assumption | omega)
                · skip
                  refine T_al d_X11_stands_72 rfl ?_
                  refine F_gr (b := 156) d_X11_stands_73 rfl hF rfl ?_
                  refine T_il d_X11_stands_76 rfl ?_
                  refine F_ian d_X11_stands_78 rfl ⟨by omega, by omega⟩ ?_
                  try simp only [Int.toNat_natCast]
                  rw [ei]
                  refine T_al d_X11_stands_79 rfl ?_
                  refine T_il d_X11_stands_80 rfl ?_
                  refine C_pv1 d_X11_stands_82 rfl (hdF (by omega)) (hcF _) (LFc i (by omega)) ?_
                  refine T_iadd d_X11_stands_85 ?_
                  refine T_il d_X11_stands_86 rfl ?_
                  refine T_ile d_X11_stands_87 ⟨by omega, by omega⟩ ⟨by omega, by omega⟩ (fun h87 => ?_) (fun h87 => ?_)
                  · skip
                    rw [← cntB_f (p := suP ea na (lfM Ks (aL b k Ks nk c) ch (aN b k Ks nk c)) y) (n := i) (fun z => by have := of_decide_eq_true z; omega)]
                    refine T_al d_X11_stands_93 rfl ?_
                    refine F_gr (b := 156) d_X11_stands_94 rfl hF rfl ?_
                    refine T_il d_X11_stands_97 rfl ?_
                    refine F_ian d_X11_stands_99 rfl ⟨by omega, by omega⟩ ?_
                    try simp only [Int.toNat_natCast]
                    rw [ei]
                    refine T_il d_X11_stands_100 rfl ?_
                    refine T_igt d_X11_stands_101 ⟨by omega, by omega⟩ ⟨by omega, by omega⟩ (fun h101 => ?_) (fun h101 => ?_)
                    · skip
                      rw [← bits_f (p := abP ea na (lfM Ks (aL b k Ks nk c) ch (aN b k Ks nk c)) y) (j := i) (decide_eq_false (fun z => by omega))]
                      refine F_incg d_X11_stands_131 rfl (f := fun x_23 => [(0, vr 99), (2, vi y), (3, vi w), (4, vi (cntB (suP ea na (lfM Ks (aL b k Ks nk c) ch (aN b k Ks nk c)) y) (i + 1) : Int)), (5, vi (bitsN (abP ea na (lfM Ks (aL b k Ks nk c) ch (aN b k Ks nk c)) y) (i + 1) : Int)), (6, vi x_23)]) (fun _ => rfl) (fun x_23 ex_23 => ?_)
                      refine T_go d_X11_stands_134 ?_
                      -- to 52 58f.69f.87t.101t@52
                      obtain rfl : x_23 = ((i + 1) : Int) := by omega
                      exact ih52 (i + 1) (by omega) (by first | assumption | omega)
                    · skip
                      refine T_al d_X11_stands_104 rfl ?_
                      refine F_gr (b := 157) d_X11_stands_105 rfl hF rfl ?_
                      refine T_il d_X11_stands_108 rfl ?_
                      refine F_ian d_X11_stands_110 rfl ⟨by omega, by omega⟩ ?_
                      try simp only [Int.toNat_natCast]
                      rw [xi]
                      refine T_al d_X11_stands_111 rfl ?_
                      refine T_il d_X11_stands_112 rfl ?_
                      refine C_pv1 d_X11_stands_114 rfl (hdF (by omega)) (hcF _) (LFc i (by omega)) ?_
                      refine T_iadd d_X11_stands_117 ?_
                      refine T_il d_X11_stands_118 rfl ?_
                      refine T_ile d_X11_stands_119 ⟨by omega, by omega⟩ ⟨by omega, by omega⟩ (fun h119 => ?_) (fun h119 => ?_)
                      · skip
                        rw [← bits_f (p := abP ea na (lfM Ks (aL b k Ks nk c) ch (aN b k Ks nk c)) y) (j := i) (decide_eq_false (fun z => by omega))]
                        refine F_incg d_X11_stands_131 rfl (f := fun x_24 => [(0, vr 99), (2, vi y), (3, vi w), (4, vi (cntB (suP ea na (lfM Ks (aL b k Ks nk c) ch (aN b k Ks nk c)) y) (i + 1) : Int)), (5, vi (bitsN (abP ea na (lfM Ks (aL b k Ks nk c) ch (aN b k Ks nk c)) y) (i + 1) : Int)), (6, vi x_24)]) (fun _ => rfl) (fun x_24 ex_24 => ?_)
                        refine T_go d_X11_stands_134 ?_
                        -- to 52 58f.69f.87t.101f.119t@52
                        obtain rfl : x_24 = ((i + 1) : Int) := by omega
                        exact ih52 (i + 1) (by omega) (by first | assumption | omega)
                      · skip
                        refine T_il d_X11_stands_122 rfl ?_
                        refine T_k d_X11_stands_124 ?_
                        refine T_il d_X11_stands_125 rfl ?_
                        refine T_ishl d_X11_stands_127 ?_
                        refine T_ior d_X11_stands_128 ?_
                        refine F_isg d_X11_stands_129 (f := fun x_25 => [(0, vr 99), (2, vi y), (3, vi w), (4, vi (cntB (suP ea na (lfM Ks (aL b k Ks nk c) ch (aN b k Ks nk c)) y) (i + 1) : Int)), (5, vi x_25), (6, vi (i : Int))]) (fun _ => rfl) (fun x_25 ex_25 => ?_)
                        obtain rfl : x_25 = (bitsN (abP ea na (lfM Ks (aL b k Ks nk c) ch (aN b k Ks nk c)) y) (i + 1) : Int) := by rw [ex_25, (or_13 bo (show i < 13 by omega)).1, bits_t (p := abP ea na (lfM Ks (aL b k Ks nk c) ch (aN b k Ks nk c)) y) (decide_eq_true ⟨by omega, by omega⟩)]
                        refine F_incg d_X11_stands_131 rfl (f := fun x_26 => [(0, vr 99), (2, vi y), (3, vi w), (4, vi (cntB (suP ea na (lfM Ks (aL b k Ks nk c) ch (aN b k Ks nk c)) y) (i + 1) : Int)), (5, vi (bitsN (abP ea na (lfM Ks (aL b k Ks nk c) ch (aN b k Ks nk c)) y) (i + 1) : Int)), (6, vi x_26)]) (fun _ => rfl) (fun x_26 ex_26 => ?_)
                        refine T_go d_X11_stands_134 ?_
                        -- to 52 58f.69f.87t.101f.119f@52
                        obtain rfl : x_26 = ((i + 1) : Int) := by omega
                        exact ih52 (i + 1) (by omega) (by first | assumption | omega)
                  · skip
                    refine F_incg d_X11_stands_90 rfl (f := fun x_27 => [(0, vr 99), (2, vi y), (3, vi w), (4, vi x_27), (5, vi (bitsN (abP ea na (lfM Ks (aL b k Ks nk c) ch (aN b k Ks nk c)) y) i : Int)), (6, vi (i : Int))]) (fun _ => rfl) (fun x_27 ex_27 => ?_)
                    obtain rfl : x_27 = (cntB (suP ea na (lfM Ks (aL b k Ks nk c) ch (aN b k Ks nk c)) y) (i + 1) : Int) := by rw [ex_27, cntB_t (p := suP ea na (lfM Ks (aL b k Ks nk c) ch (aN b k Ks nk c)) y) (n := i) (decide_eq_true ⟨by omega, by omega⟩)]; rfl
                    refine T_al d_X11_stands_93 rfl ?_
                    refine F_gr (b := 156) d_X11_stands_94 rfl hF rfl ?_
                    refine T_il d_X11_stands_97 rfl ?_
                    refine F_ian d_X11_stands_99 rfl ⟨by omega, by omega⟩ ?_
                    try simp only [Int.toNat_natCast]
                    rw [ei]
                    refine T_il d_X11_stands_100 rfl ?_
                    refine T_igt d_X11_stands_101 ⟨by omega, by omega⟩ ⟨by omega, by omega⟩ (fun h101 => ?_) (fun h101 => ?_)
                    · skip
                      rw [← bits_f (p := abP ea na (lfM Ks (aL b k Ks nk c) ch (aN b k Ks nk c)) y) (j := i) (decide_eq_false (fun z => by omega))]
                      refine F_incg d_X11_stands_131 rfl (f := fun x_28 => [(0, vr 99), (2, vi y), (3, vi w), (4, vi (cntB (suP ea na (lfM Ks (aL b k Ks nk c) ch (aN b k Ks nk c)) y) (i + 1) : Int)), (5, vi (bitsN (abP ea na (lfM Ks (aL b k Ks nk c) ch (aN b k Ks nk c)) y) (i + 1) : Int)), (6, vi x_28)]) (fun _ => rfl) (fun x_28 ex_28 => ?_)
                      refine T_go d_X11_stands_134 ?_
                      -- to 52 58f.69f.87f.101t@52
                      obtain rfl : x_28 = ((i + 1) : Int) := by omega
                      exact ih52 (i + 1) (by omega) (by first | assumption | omega)
                    · skip
                      refine T_al d_X11_stands_104 rfl ?_
                      refine F_gr (b := 157) d_X11_stands_105 rfl hF rfl ?_
                      refine T_il d_X11_stands_108 rfl ?_
                      refine F_ian d_X11_stands_110 rfl ⟨by omega, by omega⟩ ?_
                      try simp only [Int.toNat_natCast]
                      rw [xi]
                      refine T_al d_X11_stands_111 rfl ?_
                      refine T_il d_X11_stands_112 rfl ?_
                      refine C_pv1 d_X11_stands_114 rfl (hdF (by omega)) (hcF _) (LFc i (by omega)) ?_
                      refine T_iadd d_X11_stands_117 ?_
                      refine T_il d_X11_stands_118 rfl ?_
                      refine T_ile d_X11_stands_119 ⟨by omega, by omega⟩ ⟨by omega, by omega⟩ (fun h119 => ?_) (fun h119 => ?_)
                      · skip
                        rw [← bits_f (p := abP ea na (lfM Ks (aL b k Ks nk c) ch (aN b k Ks nk c)) y) (j := i) (decide_eq_false (fun z => by omega))]
                        refine F_incg d_X11_stands_131 rfl (f := fun x_29 => [(0, vr 99), (2, vi y), (3, vi w), (4, vi (cntB (suP ea na (lfM Ks (aL b k Ks nk c) ch (aN b k Ks nk c)) y) (i + 1) : Int)), (5, vi (bitsN (abP ea na (lfM Ks (aL b k Ks nk c) ch (aN b k Ks nk c)) y) (i + 1) : Int)), (6, vi x_29)]) (fun _ => rfl) (fun x_29 ex_29 => ?_)
                        refine T_go d_X11_stands_134 ?_
                        -- to 52 58f.69f.87f.101f.119t@52
                        obtain rfl : x_29 = ((i + 1) : Int) := by omega
                        exact ih52 (i + 1) (by omega) (by first | assumption | omega)
                      · skip
                        refine T_il d_X11_stands_122 rfl ?_
                        refine T_k d_X11_stands_124 ?_
                        refine T_il d_X11_stands_125 rfl ?_
                        refine T_ishl d_X11_stands_127 ?_
                        refine T_ior d_X11_stands_128 ?_
                        refine F_isg d_X11_stands_129 (f := fun x_30 => [(0, vr 99), (2, vi y), (3, vi w), (4, vi (cntB (suP ea na (lfM Ks (aL b k Ks nk c) ch (aN b k Ks nk c)) y) (i + 1) : Int)), (5, vi x_30), (6, vi (i : Int))]) (fun _ => rfl) (fun x_30 ex_30 => ?_)
                        obtain rfl : x_30 = (bitsN (abP ea na (lfM Ks (aL b k Ks nk c) ch (aN b k Ks nk c)) y) (i + 1) : Int) := by rw [ex_30, (or_13 bo (show i < 13 by omega)).1, bits_t (p := abP ea na (lfM Ks (aL b k Ks nk c) ch (aN b k Ks nk c)) y) (decide_eq_true ⟨by omega, by omega⟩)]
                        refine F_incg d_X11_stands_131 rfl (f := fun x_31 => [(0, vr 99), (2, vi y), (3, vi w), (4, vi (cntB (suP ea na (lfM Ks (aL b k Ks nk c) ch (aN b k Ks nk c)) y) (i + 1) : Int)), (5, vi (bitsN (abP ea na (lfM Ks (aL b k Ks nk c) ch (aN b k Ks nk c)) y) (i + 1) : Int)), (6, vi x_31)]) (fun _ => rfl) (fun x_31 ex_31 => ?_)
                        refine T_go d_X11_stands_134 ?_
                        -- to 52 58f.69f.87f.101f.119f@52
                        obtain rfl : x_31 = ((i + 1) : Int) := by omega
                        exact ih52 (i + 1) (by omega) (by first | assumption | omega)
          refine T_subp (ks := [0, 2, 3, 4, 5, 6]) (ls' := [(0, vr 99), (2, vi y), (3, vi w), (4, vi 0), (5, vi 0), (6, vi 0)]) rfl ?_
          exact L52 _ (0) (Nat.lt_succ_self _) (by first | assumption | omega)
        · skip
          refine T_k d_X11_stands_41 ?_
          -- leaf 4f.15f.24t.38f@42
          refine T_iret d_X11_stands_42 rfl ?_
          exact ⟨rfl, hBV_2, fV_2, ld, _, rfl, ⟨by omega, by omega⟩, gd_y ⟨h15, h24, h4⟩ ⟨c, ch, _, _, _, _, _, _, _, sl, l9, s5n, (if_pos h38).symm⟩⟩
      · skip
        refine T_k d_X11_stands_27 ?_
        -- leaf 4f.15f.24f@28
        refine T_iret d_X11_stands_28 rfl ?_
        exact ⟨rfl, hB, fV, hld, _, rfl, ⟨by omega, by omega⟩, gd_n (fun z => h24 z.2.1)⟩
