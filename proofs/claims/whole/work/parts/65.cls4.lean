/-! the class's clauses -/
theorem cs_row {V0 : VV} {f p a i : Nat} {D : Nat → Nat → Int} {x : Int} (h1 : 25 ≤ a) (h2 : a ≤ 29) : uV (csV V0 f p D) a i x = csV V0 f p (uV D a i x) := by
  funext k j
  unfold uV csV
  by_cases h : k = 16
  · subst h
    have : ¬ (16 = a ∧ j = i) := by omega
    simp [this]
  · by_cases h3 : 25 ≤ k ∧ k ≤ 29
    · simp [h, h3]
    · have : ¬ (k = a ∧ j = i) := by omega
      simp [h, h3, this]
section CLS
variable {t lo hi : Nat → Int} {n f rd s : Nat}
theorem cl_10 (h : sortS t f (tokE t n f) = 10) : clS t n f rd lo hi = (f, (f : Int), lo, hi) := by
  unfold clS
  simp only [h, if_true]
theorem cl_n (h : sortS t f (tokE t n f) = s) (hs : s < 10) (h1 : ¬ numOK t n (nxt t n f) (lsB s) (msB s)) : clS t n f rd lo hi = (nxt t n f, (nxt t n f : Int), lo, hi) := by
  unfold clS
  simp only [h]
  rw [if_neg (by omega), if_pos h1]
theorem cl_1 (h : sortS t f (tokE t n f) = s) (hs : s < 10) (h1 : numOK t n (nxt t n f) (lsB s) (msB s)) (h2 : spB s = false) : clS t n f rd lo hi = (nxt t n (nxt t n f), -1, up1 lo (10 * rd + s) (exN t (nxt t n f) (tokE t n (nxt t n f))), up1 hi (10 * rd + s) (exN t (nxt t n f) (tokE t n (nxt t n f)))) := by
  unfold clS
  simp only [h]
  rw [if_neg (by omega), if_neg (fun z => z h1), if_pos h2]
theorem cl_t (h : sortS t f (tokE t n f) = s) (hs : s < 10) (h1 : numOK t n (nxt t n f) (lsB s) (msB s)) (h2 : ¬ spB s = false) (h3 : ¬ wdb 13 t (nxt t n (nxt t n f)) (tokE t n (nxt t n (nxt t n f))) = true) : clS t n f rd lo hi = (nxt t n (nxt t n f), (nxt t n (nxt t n f) : Int), lo, hi) := by
  unfold clS
  simp only [h]
  rw [if_neg (by omega), if_neg (fun z => z h1), if_neg h2, if_pos h3]
theorem cl_m (h : sortS t f (tokE t n f) = s) (hs : s < 10) (h1 : numOK t n (nxt t n f) (lsB s) (msB s)) (h2 : ¬ spB s = false) (h3 : wdb 13 t (nxt t n (nxt t n f)) (tokE t n (nxt t n (nxt t n f))) = true) (h4 : ¬ numOK t n (nxt t n (nxt t n (nxt t n f))) (exN t (nxt t n f) (tokE t n (nxt t n f))) (msB s)) : clS t n f rd lo hi = (nxt t n (nxt t n (nxt t n f)), (nxt t n (nxt t n (nxt t n f)) : Int), lo, hi) := by
  unfold clS
  simp only [h]
  rw [if_neg (by omega), if_neg (fun z => z h1), if_neg h2, if_neg (fun z => z h3), if_pos h4]
theorem cl_2 (h : sortS t f (tokE t n f) = s) (hs : s < 10) (h1 : numOK t n (nxt t n f) (lsB s) (msB s)) (h2 : ¬ spB s = false) (h3 : wdb 13 t (nxt t n (nxt t n f)) (tokE t n (nxt t n (nxt t n f))) = true) (h4 : numOK t n (nxt t n (nxt t n (nxt t n f))) (exN t (nxt t n f) (tokE t n (nxt t n f))) (msB s)) : clS t n f rd lo hi = (nxt t n (nxt t n (nxt t n (nxt t n f))), -1, up1 lo (10 * rd + s) (exN t (nxt t n f) (tokE t n (nxt t n f))), up1 hi (10 * rd + s) (exN t (nxt t n (nxt t n (nxt t n f))) (tokE t n (nxt t n (nxt t n (nxt t n f)))))) := by
  unfold clS
  simp only [h]
  rw [if_neg (by omega), if_neg (fun z => z h1), if_neg h2, if_neg (fun z => z h3), if_neg (fun z => z h4)]
theorem dR_1 {r r' : Nat → Int} {x y : Int} (h : dR rd lo hi r) (hs : s < 10) (h2 : spB s = false) (e : ∀ j, r' j = if j = s then x else r j) : dR rd (up1 lo (10 * rd + s) x) (up1 hi (10 * rd + s) y) r' := by
  intro j hj
  have h3 := h j hj
  rw [e, e, if_neg (show ¬ 10 + j = s by omega)]
  unfold up1
  by_cases q : j = s
  · subst q
    rw [if_pos rfl, if_pos rfl]
    refine ⟨rfl, ?_⟩
    rw [h3.2, if_neg (by rw [h2]; decide), if_neg (by rw [h2]; decide)]
  · have q2 : ¬ (10 * rd + j = 10 * rd + s) := by omega
    rw [if_neg q, if_neg q2, if_neg q2]
    exact h3
theorem dR_2 {r r' : Nat → Int} {x y : Int} (h : dR rd lo hi r) (hs : s < 10) (h2 : ¬ spB s = false) (e : ∀ j, r' j = if j = 10 + s then y else if j = s then x else r j) : dR rd (up1 lo (10 * rd + s) x) (up1 hi (10 * rd + s) y) r' := by
  intro j hj
  have h3 := h j hj
  have h4 : spB s = true := by cases hh : spB s with | false => exact absurd hh h2 | true => rfl
  rw [e, e, if_neg (show ¬ j = 10 + s by omega), if_neg (show ¬ 10 + j = s by omega)]
  unfold up1
  by_cases q : j = s
  · subst q
    simp [h4]
  · have q2 : ¬ (10 * rd + j = 10 * rd + s) := by omega
    have q3 : ¬ (10 + j = 10 + s) := by omega
    rw [if_neg q, if_neg q3, if_neg q2, if_neg q2]
    exact h3
end CLS
theorem QK_no {R : RR} {V0 V' : VV} {n g a q rd : Nat} {D D' : Nat → Nat → Int} {lo hi : Nat → Int} (eV : V' = csV V0 g q D') (hc : cO (V0 17) n g q) (hk : ∀ k, k ≠ a → D' k = D k) (hB : Bd V') : QK R V0 n (some (vi (bi (decide ((g : Int) = -1))))) g a D ((g : Int) = -1) rd lo hi (some (vi (bi false))) V' R := by
  have h : ¬ ((g : Int) = -1) := by omega
  exact ⟨by rw [decide_eq_false h], ⟨q, D', eV, hc, hk, fun z => absurd z h⟩, rfl, hB⟩
theorem QK_ok {R : RR} {V0 V' : VV} {n g a q rd : Nat} {D D' : Nat → Nat → Int} {lo hi : Nat → Int} (eV : V' = csV V0 g q D') (hc : cO (V0 17) n g q) (hk : ∀ k, k ≠ a → D' k = D k) (hd : dR rd lo hi (D' a)) (hB : Bd V') : QK R V0 n (some (vi (bi (decide ((-1 : Int) = -1))))) g a D ((-1 : Int) = -1) rd lo hi (some (vi (bi true))) V' R := ⟨rfl, ⟨q, D', eV, hc, hk, fun _ => hd⟩, rfl, hB⟩
theorem nu_b {t : Nat → Int} {n f : Nat} : -1 ≤ nuC t n f ∧ nuC t n f ≤ 100000 := by
  unfold nuC
  by_cases h : f < n ∧ isDb (t f) = true
  · have := ex_tok0 h.1 h.2
    rw [if_pos h]
    split <;> omega
  · rw [if_neg h]; omega
theorem sc4_b : ∀ s, s < 10 → -1 ≤ (sCon 4).getD s 0 ∧ (sCon 4).getD s 0 ≤ 500 := by decide
theorem uV_row {D : Nat → Nat → Int} {a i k : Nat} {x : Int} (h : k ≠ a) : uV D a i x k = D k := by
  funext j
  exact uV_ne (fun z => h z.1)
set_option maxHeartbeats 1000000 in
set_option maxRecDepth 100000 in
theorem R_X4_readClause_25 {G : GG} {V : VV} {R : RR}  {V0 : VV} {n f p : Nat} {D : Nat → Nat → Int} {lo hi : Nat → Int} (hB : Bd V) (hF : FinR R) (eV : V = csV V0 f p D) (hn : V0 16 1 = n) (hc : cO (V0 17) n f p) (hdr : dR 0 lo hi (D 25)) : Runs G M_X4_readClause 6 162 162 [vr 16, vr 25] V R (QK R V0 n (some (vi (bi (decide ((clS (V0 17) n f 0 lo hi).2.1 = -1))))) (clS (V0 17) n f 0 lo hi).1 25 D ((clS (V0 17) n f 0 lo hi).2.1 = -1) 0 (clS (V0 17) n f 0 lo hi).2.2.1 (clS (V0 17) n f 0 lo hi).2.2.2) := by
  refine Runs.of pn_X4 (Nat.le_of_ble_eq_true rfl) rfl ?_
  show TT G M_X4_readClause (rmd 6 162 162) 162 (Zm G 162 162 (QK R V0 n (some (vi (bi (decide ((clS (V0 17) n f 0 lo hi).2.1 = -1))))) (clS (V0 17) n f 0 lo hi).1 25 D ((clS (V0 17) n f 0 lo hi).2.1 = -1) 0 (clS (V0 17) n f 0 lo hi).2.2.1 (clS (V0 17) n f 0 lo hi).2.2.2)) 162 0 [(0, vr 16), (1, vr 25)] [] V R
  have hso := sortS_lt (t := V0 17) (p := f) (e := tokE (V0 17) n f)
  have L25 : ∀ (X : VV) (s g q : Nat), (Bd X) → (X = csV V0 g q D) → (cO (V0 17) n g q) → ((s = 10 ∧ sortS (V0 17) f (tokE (V0 17) n f) = 10 ∧ g = f) ∨ (s < 10 ∧ sortS (V0 17) f (tokE (V0 17) n f) = s ∧ g = (nxt (V0 17) n f))) → TT G M_X4_readClause (rmd 6 162 162) 162 (Zm G 162 162 (QK R V0 n (some (vi (bi (decide ((clS (V0 17) n f 0 lo hi).2.1 = -1))))) (clS (V0 17) n f 0 lo hi).1 25 D ((clS (V0 17) n f 0 lo hi).2.1 = -1) 0 (clS (V0 17) n f 0 lo hi).2.2.1 (clS (V0 17) n f 0 lo hi).2.2.2)) 162 25 [(0, vr 16), (1, vr 25), (2, vi (s : Int))] [] X R := by
    intro X s g q hBX eX cX hsg
    refine T_al d_X4_readClause_25 rfl ?_
    refine C_pv0 d_X4_readClause_26 rfl (hdF (by decide)) (hcF _) (Sc_num hBX hF eX hn cX) ?_
    refine F_isg d_X4_readClause_29 (f := fun x_1 => [(0, vr 16), (1, vr 25), (2, vi (s : Int)), (3, vi x_1)]) (fun _ => rfl) (fun x_1 ex_1 => ?_)
    have hnb := nu_b (t := V0 17) (n := n) (f := g)
    refine T_il d_X4_readClause_30 rfl ?_
    refine T_k d_X4_readClause_31 ?_
    refine T_ige d_X4_readClause_33 ⟨by omega, by omega⟩ ⟨by omega, by omega⟩ (fun h33 => ?_) (fun h33 => ?_)
    · skip
      refine T_k d_X4_readClause_54 ?_
      -- leaf 33t@55
      refine T_zret0 d_X4_readClause_55 rfl ?_
      obtain ⟨z1, z2, rfl⟩ := hsg.resolve_right (fun z => by omega)
      rw [cl_10 z2]
      exact QK_no eX cX (fun _ _ => rfl) hBX
    · skip
      have hs9 : s < 10 := by omega
      have hsg2 := hsg.resolve_left (fun z => by omega)
      have hlb := ls_b s hs9
      refine T_il d_X4_readClause_36 rfl ?_
      refine T_gs d_X4_readClause_37 ?_
      refine T_il d_X4_readClause_40 rfl ?_
      refine T_sald (n := 10) d_X4_readClause_41 (by decide) rfl (by decide) ⟨by omega, by omega⟩ (show sVal _ 1 _ = Int32.ofInt (lsB s) by rw [Int.toNat_natCast]; rfl) ?_
      refine T_ilt d_X4_readClause_42 ⟨by omega, by omega⟩ ⟨by omega, by omega⟩ (fun h42 => ?_) (fun h42 => ?_)
      · skip
        refine T_k d_X4_readClause_54 ?_
        -- leaf 33f.42t@55
        refine T_zret0 d_X4_readClause_55 rfl ?_
        have hnn : ¬ numOK (V0 17) n g (lsB s) (msB s) := fun z => by have := (nu_ok (by omega) (by omega)).mpr z; omega
        obtain ⟨z1, z2, rfl⟩ := hsg2
        rw [cl_n z2 z1 hnn]
        exact QK_no eX cX (fun _ _ => rfl) hBX
      · skip
        refine T_il d_X4_readClause_45 rfl ?_
        refine T_gs d_X4_readClause_46 ?_
        refine T_il d_X4_readClause_49 rfl ?_
        refine T_sald (n := 10) d_X4_readClause_50 (by decide) rfl (by decide) ⟨by omega, by omega⟩ (show sVal _ 2 _ = Int32.ofInt (msB s) by rw [Int.toNat_natCast]; rfl) ?_
        refine T_ile d_X4_readClause_51 ⟨by omega, by omega⟩ ⟨by omega, by omega⟩ (fun h51 => ?_) (fun h51 => ?_)
        · skip
          have hnum : numOK (V0 17) n g (lsB s) (msB s) := (nu_ok (by omega) (by omega)).mp ⟨by omega, by omega⟩
          have hxv : x_1 = exN (V0 17) g (tokE (V0 17) n g) := by rw [ex_1]; exact nu_val (by omega) hnum
          have hx0 := ex_tok0 hnum.1 hnum.2.1
          refine T_al d_X4_readClause_56 rfl ?_
          refine C_v0 d_X4_readClause_57 rfl (hdF (by decide)) (hcF _) (Sc_next hBX hF eX hn cX hnum.1) (fun r_2 V_3 R_4 qV_3 => ?_)
          obtain ⟨rfl, ⟨p4, eV_3, cV_3⟩, rfl, hBV_3⟩ := qV_3
          refine T_al d_X4_readClause_60 rfl ?_
          refine T_il d_X4_readClause_61 rfl ?_
          refine T_il d_X4_readClause_62 rfl ?_
          refine F_is d_X4_readClause_63 rfl hBV_3 rfl ⟨by omega, by omega⟩ ⟨by omega, by omega⟩ (fun V_5 eV_5 hBV_5 => ?_)
          have e64 := eV_5
          rw [eV_3, Int.toNat_natCast, cs_row (by decide) (by decide), hxv] at e64
          have c64 := cV_3
          have hsc : -1 ≤ (sCon 4).getD s 0 ∧ (sCon 4).getD s 0 ≤ 500 := sc4_b s hs9
          refine T_gs d_X4_readClause_64 ?_
          refine T_il d_X4_readClause_67 rfl ?_
          refine T_sald (n := 10) d_X4_readClause_68 (by decide) rfl (by decide) ⟨by omega, by omega⟩ (show sVal _ 4 _ = Int32.ofInt ((sCon 4).getD s 0) by rw [Int.toNat_natCast]; rfl) ?_
          refine T_k d_X4_readClause_69 ?_
          refine T_ine d_X4_readClause_70 ⟨by omega, by omega⟩ ⟨by omega, by omega⟩ (fun h70 => ?_) (fun h70 => ?_)
          · skip
            refine T_al d_X4_readClause_75 rfl ?_
            refine T_ldcS (i := 13) ⟨d_X4_readClause_76, rfl, by decide, rfl⟩ ?_
            refine C_v1 d_X4_readClause_78 rfl (hdF (by decide)) (hcF _) (Sc_take (w := 13) hBV_5 hF e64 hn c64 (by decide)) (fun r_6 V_7 R_8 qV_7 => ?_)
            obtain ⟨rfl, ⟨p8, eV_7, cV_7⟩, rfl, hBV_7⟩ := qV_7
            refine T_pz1 d_X4_readClause_81 (fun h81 => ?_) (fun h81 => ?_)
            · skip
              rw [if_pos h81] at eV_7 cV_7
              refine T_al d_X4_readClause_86 rfl ?_
              refine C_pv0 d_X4_readClause_87 rfl (hdF (by decide)) (hcF _) (Sc_num hBV_7 hF eV_7 hn cV_7) ?_
              refine F_isg d_X4_readClause_90 (f := fun x_9 => [(0, vr 16), (1, vr 25), (2, vi (s : Int)), (3, vi x_1), (4, vi x_9)]) (fun _ => rfl) (fun x_9 ex_9 => ?_)
              have hnb2 := nu_b (t := V0 17) (n := n) (f := (nxt (V0 17) n (nxt (V0 17) n g)))
              refine T_il d_X4_readClause_92 rfl ?_
              refine T_il d_X4_readClause_94 rfl ?_
              refine T_ilt d_X4_readClause_95 ⟨by omega, by omega⟩ ⟨by omega, by omega⟩ (fun h95 => ?_) (fun h95 => ?_)
              · skip
                refine T_k d_X4_readClause_108 ?_
                -- leaf 33f.42f.51t.70t.81t.95t@109
                refine T_zret0 d_X4_readClause_109 rfl ?_
                have hnn : ¬ numOK (V0 17) n (nxt (V0 17) n (nxt (V0 17) n g)) (exN (V0 17) g (tokE (V0 17) n g)) (msB s) := fun z => by have := (nu_ok (by omega) (by omega)).mpr z; omega
                obtain ⟨z1, z2, rfl⟩ := hsg2
                rw [cl_m z2 z1 hnum (fun z => h70 ((sp_b s z1).mpr z)) h81 hnn]
                exact QK_no eV_7 cV_7 (fun k hk => uV_row hk) hBV_7
              · skip
                refine T_il d_X4_readClause_98 rfl ?_
                refine T_gs d_X4_readClause_100 ?_
                refine T_il d_X4_readClause_103 rfl ?_
                refine T_sald (n := 10) d_X4_readClause_104 (by decide) rfl (by decide) ⟨by omega, by omega⟩ (show sVal _ 2 _ = Int32.ofInt (msB s) by rw [Int.toNat_natCast]; rfl) ?_
                refine T_ile d_X4_readClause_105 ⟨by omega, by omega⟩ ⟨by omega, by omega⟩ (fun h105 => ?_) (fun h105 => ?_)
                · skip
                  have hnum2 : numOK (V0 17) n (nxt (V0 17) n (nxt (V0 17) n g)) (exN (V0 17) g (tokE (V0 17) n g)) (msB s) := (nu_ok (by omega) (by omega)).mp ⟨by omega, by omega⟩
                  have hyv : x_9 = exN (V0 17) (nxt (V0 17) n (nxt (V0 17) n g)) (tokE (V0 17) n (nxt (V0 17) n (nxt (V0 17) n g))) := by rw [ex_9]; exact nu_val (by omega) hnum2
                  refine T_al d_X4_readClause_110 rfl ?_
                  refine C_v0 d_X4_readClause_111 rfl (hdF (by decide)) (hcF _) (Sc_next hBV_7 hF eV_7 hn cV_7 hnum2.1) (fun r_10 V_11 R_12 qV_11 => ?_)
                  obtain ⟨rfl, ⟨p12, eV_11, cV_11⟩, rfl, hBV_11⟩ := qV_11
                  refine T_al d_X4_readClause_114 rfl ?_
                  refine T_k d_X4_readClause_115 ?_
                  refine T_il d_X4_readClause_117 rfl ?_
                  refine T_iadd d_X4_readClause_118 ?_
                  refine T_il d_X4_readClause_119 rfl ?_
                  refine F_is d_X4_readClause_121 rfl hBV_11 rfl ⟨by omega, by omega⟩ ⟨by omega, by omega⟩ (fun V_13 eV_13 hBV_13 => ?_)
                  refine T_k d_X4_readClause_122 ?_
                  -- leaf 33f.42f.51t.70t.81t.95f.105t@123
                  refine T_zret1 d_X4_readClause_123 rfl ?_
                  have e65 := eV_13
                  rw [eV_11, show (10 + (s : Int)).toNat = 10 + s by omega, cs_row (by decide) (by decide), hyv] at e65
                  have c65 := cV_11
                  obtain ⟨z1, z2, rfl⟩ := hsg2
                  rw [cl_2 z2 z1 hnum (fun z => h70 ((sp_b s z1).mpr z)) h81 hnum2]
                  exact QK_ok e65 c65 (fun k hk => by rw [uV_row hk, uV_row hk]) (dR_2 hdr z1 (fun z => h70 ((sp_b s z1).mpr z)) (fun j => by unfold uV; simp)) hBV_13
                · skip
                  refine T_k d_X4_readClause_108 ?_
                  -- leaf 33f.42f.51t.70t.81t.95f.105f@109
                  refine T_zret0 d_X4_readClause_109 rfl ?_
                  have hnn : ¬ numOK (V0 17) n (nxt (V0 17) n (nxt (V0 17) n g)) (exN (V0 17) g (tokE (V0 17) n g)) (msB s) := fun z => by have := (nu_ok (by omega) (by omega)).mpr z; omega
                  obtain ⟨z1, z2, rfl⟩ := hsg2
                  rw [cl_m z2 z1 hnum (fun z => h70 ((sp_b s z1).mpr z)) h81 hnn]
                  exact QK_no eV_7 cV_7 (fun k hk => uV_row hk) hBV_7
            · skip
              refine T_k d_X4_readClause_84 ?_
              -- leaf 33f.42f.51t.70t.81f@85
              refine T_zret0 d_X4_readClause_85 rfl ?_
              rw [if_neg h81] at eV_7 cV_7
              obtain ⟨z1, z2, rfl⟩ := hsg2
              rw [cl_t z2 z1 hnum (fun z => h70 ((sp_b s z1).mpr z)) h81]
              exact QK_no eV_7 cV_7 (fun k hk => uV_row hk) hBV_7
          · skip
            refine T_k d_X4_readClause_73 ?_
            -- leaf 33f.42f.51t.70f@74
            refine T_zret1 d_X4_readClause_74 rfl ?_
            obtain ⟨z1, z2, rfl⟩ := hsg2
            rw [cl_1 z2 z1 hnum ((sp_b s z1).mp h70)]
            exact QK_ok e64 c64 (fun k hk => uV_row hk) (dR_1 hdr z1 ((sp_b s z1).mp h70) (fun j => by unfold uV; simp)) hBV_5
        · skip
          refine T_k d_X4_readClause_54 ?_
          -- leaf 33f.42f.51f@55
          refine T_zret0 d_X4_readClause_55 rfl ?_
          have hnn : ¬ numOK (V0 17) n g (lsB s) (msB s) := fun z => by have := (nu_ok (by omega) (by omega)).mpr z; omega
          obtain ⟨z1, z2, rfl⟩ := hsg2
          rw [cl_n z2 z1 hnn]
          exact QK_no eX cX (fun _ _ => rfl) hBX
  refine T_k d_X4_readClause_0 ?_
  refine T_is d_X4_readClause_1 (ls' := [(0, vr 16), (1, vr 25), (2, vi 0)]) rfl ?_
  -- to 2 @2
  have L2 : ∀ (fu : Nat) (W : VV) (s q : Nat), 10 - s < fu → (Bd W) → (W = csV V0 f q D) → (cO (V0 17) n f q) → (s ≤ 10 ∧ ∀ j, j < s → wdb (3 + j) (V0 17) f (tokE (V0 17) n f) = false) → TT G M_X4_readClause (rmd 6 162 162) 162 (Zm G 162 162 (QK R V0 n (some (vi (bi (decide ((clS (V0 17) n f 0 lo hi).2.1 = -1))))) (clS (V0 17) n f 0 lo hi).1 25 D ((clS (V0 17) n f 0 lo hi).2.1 = -1) 0 (clS (V0 17) n f 0 lo hi).2.2.1 (clS (V0 17) n f 0 lo hi).2.2.2)) 162 2 [(0, vr 16), (1, vr 25), (2, vi (s : Int))] [] W R := by
    intro fu
    induction fu with
    | zero => intro W s q hm; exact absurd hm (Nat.not_lt_zero _)
    | succ fu ih2 =>
      intro W s q hm2 hBW eW cW hs
      refine T_il d_X4_readClause_2 rfl ?_
      refine T_k d_X4_readClause_3 ?_
      refine T_ige d_X4_readClause_5 ⟨by omega, by omega⟩ ⟨by omega, by omega⟩ (fun h5 => ?_) (fun h5 => ?_)
      · skip
        -- to 25 5t@25
        exact L25 W (s) (f) _ hBW eW cW (Or.inl ⟨by omega, sortS_10 (fun j hj => hs.2 j (by omega)), rfl⟩)
      · skip
        refine T_al d_X4_readClause_8 rfl ?_
        refine T_il d_X4_readClause_9 rfl ?_
        refine C_ps1 d_X4_readClause_10 (hdF (by decide)) (hcF _) (R_X4_wordOf (s := s) (by omega)) ?_
        refine C_v1 d_X4_readClause_13 rfl (hdF (by decide)) (hcF _) (Sc_take (w := 3 + s) hBW hF eW hn cW (by omega)) (fun r_14 V_15 R_16 qV_15 => ?_)
        obtain ⟨rfl, ⟨p16, eV_15, cV_15⟩, rfl, hBV_15⟩ := qV_15
        refine T_pz1 d_X4_readClause_16 (fun h16 => ?_) (fun h16 => ?_)
        · skip
          -- to 25 5f.16t@25
          rw [if_pos h16] at eV_15 cV_15
          exact L25 V_15 (s) ((nxt (V0 17) n f)) _ hBV_15 eV_15 cV_15 (Or.inr ⟨by omega, sortS_of (by omega) h16, rfl⟩)
        · skip
          refine F_incg d_X4_readClause_19 rfl (f := fun x_17 => [(0, vr 16), (1, vr 25), (2, vi x_17)]) (fun _ => rfl) (fun x_17 ex_17 => ?_)
          refine T_go d_X4_readClause_22 ?_
          -- to 2 5f.16f@2
          rw [if_neg h16] at eV_15 cV_15
          obtain rfl : x_17 = ((s + 1) : Int) := by omega
          exact ih2 V_15 (s + 1) _ (by omega) hBV_15 eV_15 cV_15 ⟨by omega, fun j hj => by rcases Nat.lt_or_ge j s with z | z; exact hs.2 j z; rw [show j = s by omega]; simpa using h16⟩
  exact L2 _ V (0) (p) (Nat.lt_succ_self _) hB eV hc ⟨by omega, fun j hj => by omega⟩
set_option maxHeartbeats 1000000 in
set_option maxRecDepth 100000 in
theorem R_X4_readClause_26 {G : GG} {V : VV} {R : RR}  {V0 : VV} {n f p : Nat} {D : Nat → Nat → Int} {lo hi : Nat → Int} (hB : Bd V) (hF : FinR R) (eV : V = csV V0 f p D) (hn : V0 16 1 = n) (hc : cO (V0 17) n f p) (hdr : dR 1 lo hi (D 26)) : Runs G M_X4_readClause 6 162 162 [vr 16, vr 26] V R (QK R V0 n (some (vi (bi (decide ((clS (V0 17) n f 1 lo hi).2.1 = -1))))) (clS (V0 17) n f 1 lo hi).1 26 D ((clS (V0 17) n f 1 lo hi).2.1 = -1) 1 (clS (V0 17) n f 1 lo hi).2.2.1 (clS (V0 17) n f 1 lo hi).2.2.2) := by
  refine Runs.of pn_X4 (Nat.le_of_ble_eq_true rfl) rfl ?_
  show TT G M_X4_readClause (rmd 6 162 162) 162 (Zm G 162 162 (QK R V0 n (some (vi (bi (decide ((clS (V0 17) n f 1 lo hi).2.1 = -1))))) (clS (V0 17) n f 1 lo hi).1 26 D ((clS (V0 17) n f 1 lo hi).2.1 = -1) 1 (clS (V0 17) n f 1 lo hi).2.2.1 (clS (V0 17) n f 1 lo hi).2.2.2)) 162 0 [(0, vr 16), (1, vr 26)] [] V R
  have hso := sortS_lt (t := V0 17) (p := f) (e := tokE (V0 17) n f)
  have L25 : ∀ (X : VV) (s g q : Nat), (Bd X) → (X = csV V0 g q D) → (cO (V0 17) n g q) → ((s = 10 ∧ sortS (V0 17) f (tokE (V0 17) n f) = 10 ∧ g = f) ∨ (s < 10 ∧ sortS (V0 17) f (tokE (V0 17) n f) = s ∧ g = (nxt (V0 17) n f))) → TT G M_X4_readClause (rmd 6 162 162) 162 (Zm G 162 162 (QK R V0 n (some (vi (bi (decide ((clS (V0 17) n f 1 lo hi).2.1 = -1))))) (clS (V0 17) n f 1 lo hi).1 26 D ((clS (V0 17) n f 1 lo hi).2.1 = -1) 1 (clS (V0 17) n f 1 lo hi).2.2.1 (clS (V0 17) n f 1 lo hi).2.2.2)) 162 25 [(0, vr 16), (1, vr 26), (2, vi (s : Int))] [] X R := by
    intro X s g q hBX eX cX hsg
    refine T_al d_X4_readClause_25 rfl ?_
    refine C_pv0 d_X4_readClause_26 rfl (hdF (by decide)) (hcF _) (Sc_num hBX hF eX hn cX) ?_
    refine F_isg d_X4_readClause_29 (f := fun x_1 => [(0, vr 16), (1, vr 26), (2, vi (s : Int)), (3, vi x_1)]) (fun _ => rfl) (fun x_1 ex_1 => ?_)
    have hnb := nu_b (t := V0 17) (n := n) (f := g)
    refine T_il d_X4_readClause_30 rfl ?_
    refine T_k d_X4_readClause_31 ?_
    refine T_ige d_X4_readClause_33 ⟨by omega, by omega⟩ ⟨by omega, by omega⟩ (fun h33 => ?_) (fun h33 => ?_)
    · skip
      refine T_k d_X4_readClause_54 ?_
      -- leaf 33t@55
      refine T_zret0 d_X4_readClause_55 rfl ?_
      obtain ⟨z1, z2, rfl⟩ := hsg.resolve_right (fun z => by omega)
      rw [cl_10 z2]
      exact QK_no eX cX (fun _ _ => rfl) hBX
    · skip
      have hs9 : s < 10 := by omega
      have hsg2 := hsg.resolve_left (fun z => by omega)
      have hlb := ls_b s hs9
      refine T_il d_X4_readClause_36 rfl ?_
      refine T_gs d_X4_readClause_37 ?_
      refine T_il d_X4_readClause_40 rfl ?_
      refine T_sald (n := 10) d_X4_readClause_41 (by decide) rfl (by decide) ⟨by omega, by omega⟩ (show sVal _ 1 _ = Int32.ofInt (lsB s) by rw [Int.toNat_natCast]; rfl) ?_
      refine T_ilt d_X4_readClause_42 ⟨by omega, by omega⟩ ⟨by omega, by omega⟩ (fun h42 => ?_) (fun h42 => ?_)
      · skip
        refine T_k d_X4_readClause_54 ?_
        -- leaf 33f.42t@55
        refine T_zret0 d_X4_readClause_55 rfl ?_
        have hnn : ¬ numOK (V0 17) n g (lsB s) (msB s) := fun z => by have := (nu_ok (by omega) (by omega)).mpr z; omega
        obtain ⟨z1, z2, rfl⟩ := hsg2
        rw [cl_n z2 z1 hnn]
        exact QK_no eX cX (fun _ _ => rfl) hBX
      · skip
        refine T_il d_X4_readClause_45 rfl ?_
        refine T_gs d_X4_readClause_46 ?_
        refine T_il d_X4_readClause_49 rfl ?_
        refine T_sald (n := 10) d_X4_readClause_50 (by decide) rfl (by decide) ⟨by omega, by omega⟩ (show sVal _ 2 _ = Int32.ofInt (msB s) by rw [Int.toNat_natCast]; rfl) ?_
        refine T_ile d_X4_readClause_51 ⟨by omega, by omega⟩ ⟨by omega, by omega⟩ (fun h51 => ?_) (fun h51 => ?_)
        · skip
          have hnum : numOK (V0 17) n g (lsB s) (msB s) := (nu_ok (by omega) (by omega)).mp ⟨by omega, by omega⟩
          have hxv : x_1 = exN (V0 17) g (tokE (V0 17) n g) := by rw [ex_1]; exact nu_val (by omega) hnum
          have hx0 := ex_tok0 hnum.1 hnum.2.1
          refine T_al d_X4_readClause_56 rfl ?_
          refine C_v0 d_X4_readClause_57 rfl (hdF (by decide)) (hcF _) (Sc_next hBX hF eX hn cX hnum.1) (fun r_2 V_3 R_4 qV_3 => ?_)
          obtain ⟨rfl, ⟨p4, eV_3, cV_3⟩, rfl, hBV_3⟩ := qV_3
          refine T_al d_X4_readClause_60 rfl ?_
          refine T_il d_X4_readClause_61 rfl ?_
          refine T_il d_X4_readClause_62 rfl ?_
          refine F_is d_X4_readClause_63 rfl hBV_3 rfl ⟨by omega, by omega⟩ ⟨by omega, by omega⟩ (fun V_5 eV_5 hBV_5 => ?_)
          have e64 := eV_5
          rw [eV_3, Int.toNat_natCast, cs_row (by decide) (by decide), hxv] at e64
          have c64 := cV_3
          have hsc : -1 ≤ (sCon 4).getD s 0 ∧ (sCon 4).getD s 0 ≤ 500 := sc4_b s hs9
          refine T_gs d_X4_readClause_64 ?_
          refine T_il d_X4_readClause_67 rfl ?_
          refine T_sald (n := 10) d_X4_readClause_68 (by decide) rfl (by decide) ⟨by omega, by omega⟩ (show sVal _ 4 _ = Int32.ofInt ((sCon 4).getD s 0) by rw [Int.toNat_natCast]; rfl) ?_
          refine T_k d_X4_readClause_69 ?_
          refine T_ine d_X4_readClause_70 ⟨by omega, by omega⟩ ⟨by omega, by omega⟩ (fun h70 => ?_) (fun h70 => ?_)
          · skip
            refine T_al d_X4_readClause_75 rfl ?_
            refine T_ldcS (i := 13) ⟨d_X4_readClause_76, rfl, by decide, rfl⟩ ?_
            refine C_v1 d_X4_readClause_78 rfl (hdF (by decide)) (hcF _) (Sc_take (w := 13) hBV_5 hF e64 hn c64 (by decide)) (fun r_6 V_7 R_8 qV_7 => ?_)
            obtain ⟨rfl, ⟨p8, eV_7, cV_7⟩, rfl, hBV_7⟩ := qV_7
            refine T_pz1 d_X4_readClause_81 (fun h81 => ?_) (fun h81 => ?_)
            · skip
              rw [if_pos h81] at eV_7 cV_7
              refine T_al d_X4_readClause_86 rfl ?_
              refine C_pv0 d_X4_readClause_87 rfl (hdF (by decide)) (hcF _) (Sc_num hBV_7 hF eV_7 hn cV_7) ?_
              refine F_isg d_X4_readClause_90 (f := fun x_9 => [(0, vr 16), (1, vr 26), (2, vi (s : Int)), (3, vi x_1), (4, vi x_9)]) (fun _ => rfl) (fun x_9 ex_9 => ?_)
              have hnb2 := nu_b (t := V0 17) (n := n) (f := (nxt (V0 17) n (nxt (V0 17) n g)))
              refine T_il d_X4_readClause_92 rfl ?_
              refine T_il d_X4_readClause_94 rfl ?_
              refine T_ilt d_X4_readClause_95 ⟨by omega, by omega⟩ ⟨by omega, by omega⟩ (fun h95 => ?_) (fun h95 => ?_)
              · skip
                refine T_k d_X4_readClause_108 ?_
                -- leaf 33f.42f.51t.70t.81t.95t@109
                refine T_zret0 d_X4_readClause_109 rfl ?_
                have hnn : ¬ numOK (V0 17) n (nxt (V0 17) n (nxt (V0 17) n g)) (exN (V0 17) g (tokE (V0 17) n g)) (msB s) := fun z => by have := (nu_ok (by omega) (by omega)).mpr z; omega
                obtain ⟨z1, z2, rfl⟩ := hsg2
                rw [cl_m z2 z1 hnum (fun z => h70 ((sp_b s z1).mpr z)) h81 hnn]
                exact QK_no eV_7 cV_7 (fun k hk => uV_row hk) hBV_7
              · skip
                refine T_il d_X4_readClause_98 rfl ?_
                refine T_gs d_X4_readClause_100 ?_
                refine T_il d_X4_readClause_103 rfl ?_
                refine T_sald (n := 10) d_X4_readClause_104 (by decide) rfl (by decide) ⟨by omega, by omega⟩ (show sVal _ 2 _ = Int32.ofInt (msB s) by rw [Int.toNat_natCast]; rfl) ?_
                refine T_ile d_X4_readClause_105 ⟨by omega, by omega⟩ ⟨by omega, by omega⟩ (fun h105 => ?_) (fun h105 => ?_)
                · skip
                  have hnum2 : numOK (V0 17) n (nxt (V0 17) n (nxt (V0 17) n g)) (exN (V0 17) g (tokE (V0 17) n g)) (msB s) := (nu_ok (by omega) (by omega)).mp ⟨by omega, by omega⟩
                  have hyv : x_9 = exN (V0 17) (nxt (V0 17) n (nxt (V0 17) n g)) (tokE (V0 17) n (nxt (V0 17) n (nxt (V0 17) n g))) := by rw [ex_9]; exact nu_val (by omega) hnum2
                  refine T_al d_X4_readClause_110 rfl ?_
                  refine C_v0 d_X4_readClause_111 rfl (hdF (by decide)) (hcF _) (Sc_next hBV_7 hF eV_7 hn cV_7 hnum2.1) (fun r_10 V_11 R_12 qV_11 => ?_)
                  obtain ⟨rfl, ⟨p12, eV_11, cV_11⟩, rfl, hBV_11⟩ := qV_11
                  refine T_al d_X4_readClause_114 rfl ?_
                  refine T_k d_X4_readClause_115 ?_
                  refine T_il d_X4_readClause_117 rfl ?_
                  refine T_iadd d_X4_readClause_118 ?_
                  refine T_il d_X4_readClause_119 rfl ?_
                  refine F_is d_X4_readClause_121 rfl hBV_11 rfl ⟨by omega, by omega⟩ ⟨by omega, by omega⟩ (fun V_13 eV_13 hBV_13 => ?_)
                  refine T_k d_X4_readClause_122 ?_
                  -- leaf 33f.42f.51t.70t.81t.95f.105t@123
                  refine T_zret1 d_X4_readClause_123 rfl ?_
                  have e65 := eV_13
                  rw [eV_11, show (10 + (s : Int)).toNat = 10 + s by omega, cs_row (by decide) (by decide), hyv] at e65
                  have c65 := cV_11
                  obtain ⟨z1, z2, rfl⟩ := hsg2
                  rw [cl_2 z2 z1 hnum (fun z => h70 ((sp_b s z1).mpr z)) h81 hnum2]
                  exact QK_ok e65 c65 (fun k hk => by rw [uV_row hk, uV_row hk]) (dR_2 hdr z1 (fun z => h70 ((sp_b s z1).mpr z)) (fun j => by unfold uV; simp)) hBV_13
                · skip
                  refine T_k d_X4_readClause_108 ?_
                  -- leaf 33f.42f.51t.70t.81t.95f.105f@109
                  refine T_zret0 d_X4_readClause_109 rfl ?_
                  have hnn : ¬ numOK (V0 17) n (nxt (V0 17) n (nxt (V0 17) n g)) (exN (V0 17) g (tokE (V0 17) n g)) (msB s) := fun z => by have := (nu_ok (by omega) (by omega)).mpr z; omega
                  obtain ⟨z1, z2, rfl⟩ := hsg2
                  rw [cl_m z2 z1 hnum (fun z => h70 ((sp_b s z1).mpr z)) h81 hnn]
                  exact QK_no eV_7 cV_7 (fun k hk => uV_row hk) hBV_7
            · skip
              refine T_k d_X4_readClause_84 ?_
              -- leaf 33f.42f.51t.70t.81f@85
              refine T_zret0 d_X4_readClause_85 rfl ?_
              rw [if_neg h81] at eV_7 cV_7
              obtain ⟨z1, z2, rfl⟩ := hsg2
              rw [cl_t z2 z1 hnum (fun z => h70 ((sp_b s z1).mpr z)) h81]
              exact QK_no eV_7 cV_7 (fun k hk => uV_row hk) hBV_7
          · skip
            refine T_k d_X4_readClause_73 ?_
            -- leaf 33f.42f.51t.70f@74
            refine T_zret1 d_X4_readClause_74 rfl ?_
            obtain ⟨z1, z2, rfl⟩ := hsg2
            rw [cl_1 z2 z1 hnum ((sp_b s z1).mp h70)]
            exact QK_ok e64 c64 (fun k hk => uV_row hk) (dR_1 hdr z1 ((sp_b s z1).mp h70) (fun j => by unfold uV; simp)) hBV_5
        · skip
          refine T_k d_X4_readClause_54 ?_
          -- leaf 33f.42f.51f@55
          refine T_zret0 d_X4_readClause_55 rfl ?_
          have hnn : ¬ numOK (V0 17) n g (lsB s) (msB s) := fun z => by have := (nu_ok (by omega) (by omega)).mpr z; omega
          obtain ⟨z1, z2, rfl⟩ := hsg2
          rw [cl_n z2 z1 hnn]
          exact QK_no eX cX (fun _ _ => rfl) hBX
  refine T_k d_X4_readClause_0 ?_
  refine T_is d_X4_readClause_1 (ls' := [(0, vr 16), (1, vr 26), (2, vi 0)]) rfl ?_
  -- to 2 @2
  have L2 : ∀ (fu : Nat) (W : VV) (s q : Nat), 10 - s < fu → (Bd W) → (W = csV V0 f q D) → (cO (V0 17) n f q) → (s ≤ 10 ∧ ∀ j, j < s → wdb (3 + j) (V0 17) f (tokE (V0 17) n f) = false) → TT G M_X4_readClause (rmd 6 162 162) 162 (Zm G 162 162 (QK R V0 n (some (vi (bi (decide ((clS (V0 17) n f 1 lo hi).2.1 = -1))))) (clS (V0 17) n f 1 lo hi).1 26 D ((clS (V0 17) n f 1 lo hi).2.1 = -1) 1 (clS (V0 17) n f 1 lo hi).2.2.1 (clS (V0 17) n f 1 lo hi).2.2.2)) 162 2 [(0, vr 16), (1, vr 26), (2, vi (s : Int))] [] W R := by
    intro fu
    induction fu with
    | zero => intro W s q hm; exact absurd hm (Nat.not_lt_zero _)
    | succ fu ih2 =>
      intro W s q hm2 hBW eW cW hs
      refine T_il d_X4_readClause_2 rfl ?_
      refine T_k d_X4_readClause_3 ?_
      refine T_ige d_X4_readClause_5 ⟨by omega, by omega⟩ ⟨by omega, by omega⟩ (fun h5 => ?_) (fun h5 => ?_)
      · skip
        -- to 25 5t@25
        exact L25 W (s) (f) _ hBW eW cW (Or.inl ⟨by omega, sortS_10 (fun j hj => hs.2 j (by omega)), rfl⟩)
      · skip
        refine T_al d_X4_readClause_8 rfl ?_
        refine T_il d_X4_readClause_9 rfl ?_
        refine C_ps1 d_X4_readClause_10 (hdF (by decide)) (hcF _) (R_X4_wordOf (s := s) (by omega)) ?_
        refine C_v1 d_X4_readClause_13 rfl (hdF (by decide)) (hcF _) (Sc_take (w := 3 + s) hBW hF eW hn cW (by omega)) (fun r_14 V_15 R_16 qV_15 => ?_)
        obtain ⟨rfl, ⟨p16, eV_15, cV_15⟩, rfl, hBV_15⟩ := qV_15
        refine T_pz1 d_X4_readClause_16 (fun h16 => ?_) (fun h16 => ?_)
        · skip
          -- to 25 5f.16t@25
          rw [if_pos h16] at eV_15 cV_15
          exact L25 V_15 (s) ((nxt (V0 17) n f)) _ hBV_15 eV_15 cV_15 (Or.inr ⟨by omega, sortS_of (by omega) h16, rfl⟩)
        · skip
          refine F_incg d_X4_readClause_19 rfl (f := fun x_17 => [(0, vr 16), (1, vr 26), (2, vi x_17)]) (fun _ => rfl) (fun x_17 ex_17 => ?_)
          refine T_go d_X4_readClause_22 ?_
          -- to 2 5f.16f@2
          rw [if_neg h16] at eV_15 cV_15
          obtain rfl : x_17 = ((s + 1) : Int) := by omega
          exact ih2 V_15 (s + 1) _ (by omega) hBV_15 eV_15 cV_15 ⟨by omega, fun j hj => by rcases Nat.lt_or_ge j s with z | z; exact hs.2 j z; rw [show j = s by omega]; simpa using h16⟩
  exact L2 _ V (0) (p) (Nat.lt_succ_self _) hB eV hc ⟨by omega, fun j hj => by omega⟩
set_option maxHeartbeats 1000000 in
set_option maxRecDepth 100000 in
theorem R_X4_readClause_27 {G : GG} {V : VV} {R : RR}  {V0 : VV} {n f p : Nat} {D : Nat → Nat → Int} {lo hi : Nat → Int} (hB : Bd V) (hF : FinR R) (eV : V = csV V0 f p D) (hn : V0 16 1 = n) (hc : cO (V0 17) n f p) (hdr : dR 2 lo hi (D 27)) : Runs G M_X4_readClause 6 162 162 [vr 16, vr 27] V R (QK R V0 n (some (vi (bi (decide ((clS (V0 17) n f 2 lo hi).2.1 = -1))))) (clS (V0 17) n f 2 lo hi).1 27 D ((clS (V0 17) n f 2 lo hi).2.1 = -1) 2 (clS (V0 17) n f 2 lo hi).2.2.1 (clS (V0 17) n f 2 lo hi).2.2.2) := by
  refine Runs.of pn_X4 (Nat.le_of_ble_eq_true rfl) rfl ?_
  show TT G M_X4_readClause (rmd 6 162 162) 162 (Zm G 162 162 (QK R V0 n (some (vi (bi (decide ((clS (V0 17) n f 2 lo hi).2.1 = -1))))) (clS (V0 17) n f 2 lo hi).1 27 D ((clS (V0 17) n f 2 lo hi).2.1 = -1) 2 (clS (V0 17) n f 2 lo hi).2.2.1 (clS (V0 17) n f 2 lo hi).2.2.2)) 162 0 [(0, vr 16), (1, vr 27)] [] V R
  have hso := sortS_lt (t := V0 17) (p := f) (e := tokE (V0 17) n f)
  have L25 : ∀ (X : VV) (s g q : Nat), (Bd X) → (X = csV V0 g q D) → (cO (V0 17) n g q) → ((s = 10 ∧ sortS (V0 17) f (tokE (V0 17) n f) = 10 ∧ g = f) ∨ (s < 10 ∧ sortS (V0 17) f (tokE (V0 17) n f) = s ∧ g = (nxt (V0 17) n f))) → TT G M_X4_readClause (rmd 6 162 162) 162 (Zm G 162 162 (QK R V0 n (some (vi (bi (decide ((clS (V0 17) n f 2 lo hi).2.1 = -1))))) (clS (V0 17) n f 2 lo hi).1 27 D ((clS (V0 17) n f 2 lo hi).2.1 = -1) 2 (clS (V0 17) n f 2 lo hi).2.2.1 (clS (V0 17) n f 2 lo hi).2.2.2)) 162 25 [(0, vr 16), (1, vr 27), (2, vi (s : Int))] [] X R := by
    intro X s g q hBX eX cX hsg
    refine T_al d_X4_readClause_25 rfl ?_
    refine C_pv0 d_X4_readClause_26 rfl (hdF (by decide)) (hcF _) (Sc_num hBX hF eX hn cX) ?_
    refine F_isg d_X4_readClause_29 (f := fun x_1 => [(0, vr 16), (1, vr 27), (2, vi (s : Int)), (3, vi x_1)]) (fun _ => rfl) (fun x_1 ex_1 => ?_)
    have hnb := nu_b (t := V0 17) (n := n) (f := g)
    refine T_il d_X4_readClause_30 rfl ?_
    refine T_k d_X4_readClause_31 ?_
    refine T_ige d_X4_readClause_33 ⟨by omega, by omega⟩ ⟨by omega, by omega⟩ (fun h33 => ?_) (fun h33 => ?_)
    · skip
      refine T_k d_X4_readClause_54 ?_
      -- leaf 33t@55
      refine T_zret0 d_X4_readClause_55 rfl ?_
      obtain ⟨z1, z2, rfl⟩ := hsg.resolve_right (fun z => by omega)
      rw [cl_10 z2]
      exact QK_no eX cX (fun _ _ => rfl) hBX
    · skip
      have hs9 : s < 10 := by omega
      have hsg2 := hsg.resolve_left (fun z => by omega)
      have hlb := ls_b s hs9
      refine T_il d_X4_readClause_36 rfl ?_
      refine T_gs d_X4_readClause_37 ?_
      refine T_il d_X4_readClause_40 rfl ?_
      refine T_sald (n := 10) d_X4_readClause_41 (by decide) rfl (by decide) ⟨by omega, by omega⟩ (show sVal _ 1 _ = Int32.ofInt (lsB s) by rw [Int.toNat_natCast]; rfl) ?_
      refine T_ilt d_X4_readClause_42 ⟨by omega, by omega⟩ ⟨by omega, by omega⟩ (fun h42 => ?_) (fun h42 => ?_)
      · skip
        refine T_k d_X4_readClause_54 ?_
        -- leaf 33f.42t@55
        refine T_zret0 d_X4_readClause_55 rfl ?_
        have hnn : ¬ numOK (V0 17) n g (lsB s) (msB s) := fun z => by have := (nu_ok (by omega) (by omega)).mpr z; omega
        obtain ⟨z1, z2, rfl⟩ := hsg2
        rw [cl_n z2 z1 hnn]
        exact QK_no eX cX (fun _ _ => rfl) hBX
      · skip
        refine T_il d_X4_readClause_45 rfl ?_
        refine T_gs d_X4_readClause_46 ?_
        refine T_il d_X4_readClause_49 rfl ?_
        refine T_sald (n := 10) d_X4_readClause_50 (by decide) rfl (by decide) ⟨by omega, by omega⟩ (show sVal _ 2 _ = Int32.ofInt (msB s) by rw [Int.toNat_natCast]; rfl) ?_
        refine T_ile d_X4_readClause_51 ⟨by omega, by omega⟩ ⟨by omega, by omega⟩ (fun h51 => ?_) (fun h51 => ?_)
        · skip
          have hnum : numOK (V0 17) n g (lsB s) (msB s) := (nu_ok (by omega) (by omega)).mp ⟨by omega, by omega⟩
          have hxv : x_1 = exN (V0 17) g (tokE (V0 17) n g) := by rw [ex_1]; exact nu_val (by omega) hnum
          have hx0 := ex_tok0 hnum.1 hnum.2.1
          refine T_al d_X4_readClause_56 rfl ?_
          refine C_v0 d_X4_readClause_57 rfl (hdF (by decide)) (hcF _) (Sc_next hBX hF eX hn cX hnum.1) (fun r_2 V_3 R_4 qV_3 => ?_)
          obtain ⟨rfl, ⟨p4, eV_3, cV_3⟩, rfl, hBV_3⟩ := qV_3
          refine T_al d_X4_readClause_60 rfl ?_
          refine T_il d_X4_readClause_61 rfl ?_
          refine T_il d_X4_readClause_62 rfl ?_
          refine F_is d_X4_readClause_63 rfl hBV_3 rfl ⟨by omega, by omega⟩ ⟨by omega, by omega⟩ (fun V_5 eV_5 hBV_5 => ?_)
          have e64 := eV_5
          rw [eV_3, Int.toNat_natCast, cs_row (by decide) (by decide), hxv] at e64
          have c64 := cV_3
          have hsc : -1 ≤ (sCon 4).getD s 0 ∧ (sCon 4).getD s 0 ≤ 500 := sc4_b s hs9
          refine T_gs d_X4_readClause_64 ?_
          refine T_il d_X4_readClause_67 rfl ?_
          refine T_sald (n := 10) d_X4_readClause_68 (by decide) rfl (by decide) ⟨by omega, by omega⟩ (show sVal _ 4 _ = Int32.ofInt ((sCon 4).getD s 0) by rw [Int.toNat_natCast]; rfl) ?_
          refine T_k d_X4_readClause_69 ?_
          refine T_ine d_X4_readClause_70 ⟨by omega, by omega⟩ ⟨by omega, by omega⟩ (fun h70 => ?_) (fun h70 => ?_)
          · skip
            refine T_al d_X4_readClause_75 rfl ?_
            refine T_ldcS (i := 13) ⟨d_X4_readClause_76, rfl, by decide, rfl⟩ ?_
            refine C_v1 d_X4_readClause_78 rfl (hdF (by decide)) (hcF _) (Sc_take (w := 13) hBV_5 hF e64 hn c64 (by decide)) (fun r_6 V_7 R_8 qV_7 => ?_)
            obtain ⟨rfl, ⟨p8, eV_7, cV_7⟩, rfl, hBV_7⟩ := qV_7
            refine T_pz1 d_X4_readClause_81 (fun h81 => ?_) (fun h81 => ?_)
            · skip
              rw [if_pos h81] at eV_7 cV_7
              refine T_al d_X4_readClause_86 rfl ?_
              refine C_pv0 d_X4_readClause_87 rfl (hdF (by decide)) (hcF _) (Sc_num hBV_7 hF eV_7 hn cV_7) ?_
              refine F_isg d_X4_readClause_90 (f := fun x_9 => [(0, vr 16), (1, vr 27), (2, vi (s : Int)), (3, vi x_1), (4, vi x_9)]) (fun _ => rfl) (fun x_9 ex_9 => ?_)
              have hnb2 := nu_b (t := V0 17) (n := n) (f := (nxt (V0 17) n (nxt (V0 17) n g)))
              refine T_il d_X4_readClause_92 rfl ?_
              refine T_il d_X4_readClause_94 rfl ?_
              refine T_ilt d_X4_readClause_95 ⟨by omega, by omega⟩ ⟨by omega, by omega⟩ (fun h95 => ?_) (fun h95 => ?_)
              · skip
                refine T_k d_X4_readClause_108 ?_
                -- leaf 33f.42f.51t.70t.81t.95t@109
                refine T_zret0 d_X4_readClause_109 rfl ?_
                have hnn : ¬ numOK (V0 17) n (nxt (V0 17) n (nxt (V0 17) n g)) (exN (V0 17) g (tokE (V0 17) n g)) (msB s) := fun z => by have := (nu_ok (by omega) (by omega)).mpr z; omega
                obtain ⟨z1, z2, rfl⟩ := hsg2
                rw [cl_m z2 z1 hnum (fun z => h70 ((sp_b s z1).mpr z)) h81 hnn]
                exact QK_no eV_7 cV_7 (fun k hk => uV_row hk) hBV_7
              · skip
                refine T_il d_X4_readClause_98 rfl ?_
                refine T_gs d_X4_readClause_100 ?_
                refine T_il d_X4_readClause_103 rfl ?_
                refine T_sald (n := 10) d_X4_readClause_104 (by decide) rfl (by decide) ⟨by omega, by omega⟩ (show sVal _ 2 _ = Int32.ofInt (msB s) by rw [Int.toNat_natCast]; rfl) ?_
                refine T_ile d_X4_readClause_105 ⟨by omega, by omega⟩ ⟨by omega, by omega⟩ (fun h105 => ?_) (fun h105 => ?_)
                · skip
                  have hnum2 : numOK (V0 17) n (nxt (V0 17) n (nxt (V0 17) n g)) (exN (V0 17) g (tokE (V0 17) n g)) (msB s) := (nu_ok (by omega) (by omega)).mp ⟨by omega, by omega⟩
                  have hyv : x_9 = exN (V0 17) (nxt (V0 17) n (nxt (V0 17) n g)) (tokE (V0 17) n (nxt (V0 17) n (nxt (V0 17) n g))) := by rw [ex_9]; exact nu_val (by omega) hnum2
                  refine T_al d_X4_readClause_110 rfl ?_
                  refine C_v0 d_X4_readClause_111 rfl (hdF (by decide)) (hcF _) (Sc_next hBV_7 hF eV_7 hn cV_7 hnum2.1) (fun r_10 V_11 R_12 qV_11 => ?_)
                  obtain ⟨rfl, ⟨p12, eV_11, cV_11⟩, rfl, hBV_11⟩ := qV_11
                  refine T_al d_X4_readClause_114 rfl ?_
                  refine T_k d_X4_readClause_115 ?_
                  refine T_il d_X4_readClause_117 rfl ?_
                  refine T_iadd d_X4_readClause_118 ?_
                  refine T_il d_X4_readClause_119 rfl ?_
                  refine F_is d_X4_readClause_121 rfl hBV_11 rfl ⟨by omega, by omega⟩ ⟨by omega, by omega⟩ (fun V_13 eV_13 hBV_13 => ?_)
                  refine T_k d_X4_readClause_122 ?_
                  -- leaf 33f.42f.51t.70t.81t.95f.105t@123
                  refine T_zret1 d_X4_readClause_123 rfl ?_
                  have e65 := eV_13
                  rw [eV_11, show (10 + (s : Int)).toNat = 10 + s by omega, cs_row (by decide) (by decide), hyv] at e65
                  have c65 := cV_11
                  obtain ⟨z1, z2, rfl⟩ := hsg2
                  rw [cl_2 z2 z1 hnum (fun z => h70 ((sp_b s z1).mpr z)) h81 hnum2]
                  exact QK_ok e65 c65 (fun k hk => by rw [uV_row hk, uV_row hk]) (dR_2 hdr z1 (fun z => h70 ((sp_b s z1).mpr z)) (fun j => by unfold uV; simp)) hBV_13
                · skip
                  refine T_k d_X4_readClause_108 ?_
                  -- leaf 33f.42f.51t.70t.81t.95f.105f@109
                  refine T_zret0 d_X4_readClause_109 rfl ?_
                  have hnn : ¬ numOK (V0 17) n (nxt (V0 17) n (nxt (V0 17) n g)) (exN (V0 17) g (tokE (V0 17) n g)) (msB s) := fun z => by have := (nu_ok (by omega) (by omega)).mpr z; omega
                  obtain ⟨z1, z2, rfl⟩ := hsg2
                  rw [cl_m z2 z1 hnum (fun z => h70 ((sp_b s z1).mpr z)) h81 hnn]
                  exact QK_no eV_7 cV_7 (fun k hk => uV_row hk) hBV_7
            · skip
              refine T_k d_X4_readClause_84 ?_
              -- leaf 33f.42f.51t.70t.81f@85
              refine T_zret0 d_X4_readClause_85 rfl ?_
              rw [if_neg h81] at eV_7 cV_7
              obtain ⟨z1, z2, rfl⟩ := hsg2
              rw [cl_t z2 z1 hnum (fun z => h70 ((sp_b s z1).mpr z)) h81]
              exact QK_no eV_7 cV_7 (fun k hk => uV_row hk) hBV_7
          · skip
            refine T_k d_X4_readClause_73 ?_
            -- leaf 33f.42f.51t.70f@74
            refine T_zret1 d_X4_readClause_74 rfl ?_
            obtain ⟨z1, z2, rfl⟩ := hsg2
            rw [cl_1 z2 z1 hnum ((sp_b s z1).mp h70)]
            exact QK_ok e64 c64 (fun k hk => uV_row hk) (dR_1 hdr z1 ((sp_b s z1).mp h70) (fun j => by unfold uV; simp)) hBV_5
        · skip
          refine T_k d_X4_readClause_54 ?_
          -- leaf 33f.42f.51f@55
          refine T_zret0 d_X4_readClause_55 rfl ?_
          have hnn : ¬ numOK (V0 17) n g (lsB s) (msB s) := fun z => by have := (nu_ok (by omega) (by omega)).mpr z; omega
          obtain ⟨z1, z2, rfl⟩ := hsg2
          rw [cl_n z2 z1 hnn]
          exact QK_no eX cX (fun _ _ => rfl) hBX
  refine T_k d_X4_readClause_0 ?_
  refine T_is d_X4_readClause_1 (ls' := [(0, vr 16), (1, vr 27), (2, vi 0)]) rfl ?_
  -- to 2 @2
  have L2 : ∀ (fu : Nat) (W : VV) (s q : Nat), 10 - s < fu → (Bd W) → (W = csV V0 f q D) → (cO (V0 17) n f q) → (s ≤ 10 ∧ ∀ j, j < s → wdb (3 + j) (V0 17) f (tokE (V0 17) n f) = false) → TT G M_X4_readClause (rmd 6 162 162) 162 (Zm G 162 162 (QK R V0 n (some (vi (bi (decide ((clS (V0 17) n f 2 lo hi).2.1 = -1))))) (clS (V0 17) n f 2 lo hi).1 27 D ((clS (V0 17) n f 2 lo hi).2.1 = -1) 2 (clS (V0 17) n f 2 lo hi).2.2.1 (clS (V0 17) n f 2 lo hi).2.2.2)) 162 2 [(0, vr 16), (1, vr 27), (2, vi (s : Int))] [] W R := by
    intro fu
    induction fu with
    | zero => intro W s q hm; exact absurd hm (Nat.not_lt_zero _)
    | succ fu ih2 =>
      intro W s q hm2 hBW eW cW hs
      refine T_il d_X4_readClause_2 rfl ?_
      refine T_k d_X4_readClause_3 ?_
      refine T_ige d_X4_readClause_5 ⟨by omega, by omega⟩ ⟨by omega, by omega⟩ (fun h5 => ?_) (fun h5 => ?_)
      · skip
        -- to 25 5t@25
        exact L25 W (s) (f) _ hBW eW cW (Or.inl ⟨by omega, sortS_10 (fun j hj => hs.2 j (by omega)), rfl⟩)
      · skip
        refine T_al d_X4_readClause_8 rfl ?_
        refine T_il d_X4_readClause_9 rfl ?_
        refine C_ps1 d_X4_readClause_10 (hdF (by decide)) (hcF _) (R_X4_wordOf (s := s) (by omega)) ?_
        refine C_v1 d_X4_readClause_13 rfl (hdF (by decide)) (hcF _) (Sc_take (w := 3 + s) hBW hF eW hn cW (by omega)) (fun r_14 V_15 R_16 qV_15 => ?_)
        obtain ⟨rfl, ⟨p16, eV_15, cV_15⟩, rfl, hBV_15⟩ := qV_15
        refine T_pz1 d_X4_readClause_16 (fun h16 => ?_) (fun h16 => ?_)
        · skip
          -- to 25 5f.16t@25
          rw [if_pos h16] at eV_15 cV_15
          exact L25 V_15 (s) ((nxt (V0 17) n f)) _ hBV_15 eV_15 cV_15 (Or.inr ⟨by omega, sortS_of (by omega) h16, rfl⟩)
        · skip
          refine F_incg d_X4_readClause_19 rfl (f := fun x_17 => [(0, vr 16), (1, vr 27), (2, vi x_17)]) (fun _ => rfl) (fun x_17 ex_17 => ?_)
          refine T_go d_X4_readClause_22 ?_
          -- to 2 5f.16f@2
          rw [if_neg h16] at eV_15 cV_15
          obtain rfl : x_17 = ((s + 1) : Int) := by omega
          exact ih2 V_15 (s + 1) _ (by omega) hBV_15 eV_15 cV_15 ⟨by omega, fun j hj => by rcases Nat.lt_or_ge j s with z | z; exact hs.2 j z; rw [show j = s by omega]; simpa using h16⟩
  exact L2 _ V (0) (p) (Nat.lt_succ_self _) hB eV hc ⟨by omega, fun j hj => by omega⟩
set_option maxHeartbeats 1000000 in
set_option maxRecDepth 100000 in
theorem R_X4_readClause_28 {G : GG} {V : VV} {R : RR}  {V0 : VV} {n f p : Nat} {D : Nat → Nat → Int} {lo hi : Nat → Int} (hB : Bd V) (hF : FinR R) (eV : V = csV V0 f p D) (hn : V0 16 1 = n) (hc : cO (V0 17) n f p) (hdr : dR 3 lo hi (D 28)) : Runs G M_X4_readClause 6 162 162 [vr 16, vr 28] V R (QK R V0 n (some (vi (bi (decide ((clS (V0 17) n f 3 lo hi).2.1 = -1))))) (clS (V0 17) n f 3 lo hi).1 28 D ((clS (V0 17) n f 3 lo hi).2.1 = -1) 3 (clS (V0 17) n f 3 lo hi).2.2.1 (clS (V0 17) n f 3 lo hi).2.2.2) := by
  refine Runs.of pn_X4 (Nat.le_of_ble_eq_true rfl) rfl ?_
  show TT G M_X4_readClause (rmd 6 162 162) 162 (Zm G 162 162 (QK R V0 n (some (vi (bi (decide ((clS (V0 17) n f 3 lo hi).2.1 = -1))))) (clS (V0 17) n f 3 lo hi).1 28 D ((clS (V0 17) n f 3 lo hi).2.1 = -1) 3 (clS (V0 17) n f 3 lo hi).2.2.1 (clS (V0 17) n f 3 lo hi).2.2.2)) 162 0 [(0, vr 16), (1, vr 28)] [] V R
  have hso := sortS_lt (t := V0 17) (p := f) (e := tokE (V0 17) n f)
  have L25 : ∀ (X : VV) (s g q : Nat), (Bd X) → (X = csV V0 g q D) → (cO (V0 17) n g q) → ((s = 10 ∧ sortS (V0 17) f (tokE (V0 17) n f) = 10 ∧ g = f) ∨ (s < 10 ∧ sortS (V0 17) f (tokE (V0 17) n f) = s ∧ g = (nxt (V0 17) n f))) → TT G M_X4_readClause (rmd 6 162 162) 162 (Zm G 162 162 (QK R V0 n (some (vi (bi (decide ((clS (V0 17) n f 3 lo hi).2.1 = -1))))) (clS (V0 17) n f 3 lo hi).1 28 D ((clS (V0 17) n f 3 lo hi).2.1 = -1) 3 (clS (V0 17) n f 3 lo hi).2.2.1 (clS (V0 17) n f 3 lo hi).2.2.2)) 162 25 [(0, vr 16), (1, vr 28), (2, vi (s : Int))] [] X R := by
    intro X s g q hBX eX cX hsg
    refine T_al d_X4_readClause_25 rfl ?_
    refine C_pv0 d_X4_readClause_26 rfl (hdF (by decide)) (hcF _) (Sc_num hBX hF eX hn cX) ?_
    refine F_isg d_X4_readClause_29 (f := fun x_1 => [(0, vr 16), (1, vr 28), (2, vi (s : Int)), (3, vi x_1)]) (fun _ => rfl) (fun x_1 ex_1 => ?_)
    have hnb := nu_b (t := V0 17) (n := n) (f := g)
    refine T_il d_X4_readClause_30 rfl ?_
    refine T_k d_X4_readClause_31 ?_
    refine T_ige d_X4_readClause_33 ⟨by omega, by omega⟩ ⟨by omega, by omega⟩ (fun h33 => ?_) (fun h33 => ?_)
    · skip
      refine T_k d_X4_readClause_54 ?_
      -- leaf 33t@55
      refine T_zret0 d_X4_readClause_55 rfl ?_
      obtain ⟨z1, z2, rfl⟩ := hsg.resolve_right (fun z => by omega)
      rw [cl_10 z2]
      exact QK_no eX cX (fun _ _ => rfl) hBX
    · skip
      have hs9 : s < 10 := by omega
      have hsg2 := hsg.resolve_left (fun z => by omega)
      have hlb := ls_b s hs9
      refine T_il d_X4_readClause_36 rfl ?_
      refine T_gs d_X4_readClause_37 ?_
      refine T_il d_X4_readClause_40 rfl ?_
      refine T_sald (n := 10) d_X4_readClause_41 (by decide) rfl (by decide) ⟨by omega, by omega⟩ (show sVal _ 1 _ = Int32.ofInt (lsB s) by rw [Int.toNat_natCast]; rfl) ?_
      refine T_ilt d_X4_readClause_42 ⟨by omega, by omega⟩ ⟨by omega, by omega⟩ (fun h42 => ?_) (fun h42 => ?_)
      · skip
        refine T_k d_X4_readClause_54 ?_
        -- leaf 33f.42t@55
        refine T_zret0 d_X4_readClause_55 rfl ?_
        have hnn : ¬ numOK (V0 17) n g (lsB s) (msB s) := fun z => by have := (nu_ok (by omega) (by omega)).mpr z; omega
        obtain ⟨z1, z2, rfl⟩ := hsg2
        rw [cl_n z2 z1 hnn]
        exact QK_no eX cX (fun _ _ => rfl) hBX
      · skip
        refine T_il d_X4_readClause_45 rfl ?_
        refine T_gs d_X4_readClause_46 ?_
        refine T_il d_X4_readClause_49 rfl ?_
        refine T_sald (n := 10) d_X4_readClause_50 (by decide) rfl (by decide) ⟨by omega, by omega⟩ (show sVal _ 2 _ = Int32.ofInt (msB s) by rw [Int.toNat_natCast]; rfl) ?_
        refine T_ile d_X4_readClause_51 ⟨by omega, by omega⟩ ⟨by omega, by omega⟩ (fun h51 => ?_) (fun h51 => ?_)
        · skip
          have hnum : numOK (V0 17) n g (lsB s) (msB s) := (nu_ok (by omega) (by omega)).mp ⟨by omega, by omega⟩
          have hxv : x_1 = exN (V0 17) g (tokE (V0 17) n g) := by rw [ex_1]; exact nu_val (by omega) hnum
          have hx0 := ex_tok0 hnum.1 hnum.2.1
          refine T_al d_X4_readClause_56 rfl ?_
          refine C_v0 d_X4_readClause_57 rfl (hdF (by decide)) (hcF _) (Sc_next hBX hF eX hn cX hnum.1) (fun r_2 V_3 R_4 qV_3 => ?_)
          obtain ⟨rfl, ⟨p4, eV_3, cV_3⟩, rfl, hBV_3⟩ := qV_3
          refine T_al d_X4_readClause_60 rfl ?_
          refine T_il d_X4_readClause_61 rfl ?_
          refine T_il d_X4_readClause_62 rfl ?_
          refine F_is d_X4_readClause_63 rfl hBV_3 rfl ⟨by omega, by omega⟩ ⟨by omega, by omega⟩ (fun V_5 eV_5 hBV_5 => ?_)
          have e64 := eV_5
          rw [eV_3, Int.toNat_natCast, cs_row (by decide) (by decide), hxv] at e64
          have c64 := cV_3
          have hsc : -1 ≤ (sCon 4).getD s 0 ∧ (sCon 4).getD s 0 ≤ 500 := sc4_b s hs9
          refine T_gs d_X4_readClause_64 ?_
          refine T_il d_X4_readClause_67 rfl ?_
          refine T_sald (n := 10) d_X4_readClause_68 (by decide) rfl (by decide) ⟨by omega, by omega⟩ (show sVal _ 4 _ = Int32.ofInt ((sCon 4).getD s 0) by rw [Int.toNat_natCast]; rfl) ?_
          refine T_k d_X4_readClause_69 ?_
          refine T_ine d_X4_readClause_70 ⟨by omega, by omega⟩ ⟨by omega, by omega⟩ (fun h70 => ?_) (fun h70 => ?_)
          · skip
            refine T_al d_X4_readClause_75 rfl ?_
            refine T_ldcS (i := 13) ⟨d_X4_readClause_76, rfl, by decide, rfl⟩ ?_
            refine C_v1 d_X4_readClause_78 rfl (hdF (by decide)) (hcF _) (Sc_take (w := 13) hBV_5 hF e64 hn c64 (by decide)) (fun r_6 V_7 R_8 qV_7 => ?_)
            obtain ⟨rfl, ⟨p8, eV_7, cV_7⟩, rfl, hBV_7⟩ := qV_7
            refine T_pz1 d_X4_readClause_81 (fun h81 => ?_) (fun h81 => ?_)
            · skip
              rw [if_pos h81] at eV_7 cV_7
              refine T_al d_X4_readClause_86 rfl ?_
              refine C_pv0 d_X4_readClause_87 rfl (hdF (by decide)) (hcF _) (Sc_num hBV_7 hF eV_7 hn cV_7) ?_
              refine F_isg d_X4_readClause_90 (f := fun x_9 => [(0, vr 16), (1, vr 28), (2, vi (s : Int)), (3, vi x_1), (4, vi x_9)]) (fun _ => rfl) (fun x_9 ex_9 => ?_)
              have hnb2 := nu_b (t := V0 17) (n := n) (f := (nxt (V0 17) n (nxt (V0 17) n g)))
              refine T_il d_X4_readClause_92 rfl ?_
              refine T_il d_X4_readClause_94 rfl ?_
              refine T_ilt d_X4_readClause_95 ⟨by omega, by omega⟩ ⟨by omega, by omega⟩ (fun h95 => ?_) (fun h95 => ?_)
              · skip
                refine T_k d_X4_readClause_108 ?_
                -- leaf 33f.42f.51t.70t.81t.95t@109
                refine T_zret0 d_X4_readClause_109 rfl ?_
                have hnn : ¬ numOK (V0 17) n (nxt (V0 17) n (nxt (V0 17) n g)) (exN (V0 17) g (tokE (V0 17) n g)) (msB s) := fun z => by have := (nu_ok (by omega) (by omega)).mpr z; omega
                obtain ⟨z1, z2, rfl⟩ := hsg2
                rw [cl_m z2 z1 hnum (fun z => h70 ((sp_b s z1).mpr z)) h81 hnn]
                exact QK_no eV_7 cV_7 (fun k hk => uV_row hk) hBV_7
              · skip
                refine T_il d_X4_readClause_98 rfl ?_
                refine T_gs d_X4_readClause_100 ?_
                refine T_il d_X4_readClause_103 rfl ?_
                refine T_sald (n := 10) d_X4_readClause_104 (by decide) rfl (by decide) ⟨by omega, by omega⟩ (show sVal _ 2 _ = Int32.ofInt (msB s) by rw [Int.toNat_natCast]; rfl) ?_
                refine T_ile d_X4_readClause_105 ⟨by omega, by omega⟩ ⟨by omega, by omega⟩ (fun h105 => ?_) (fun h105 => ?_)
                · skip
                  have hnum2 : numOK (V0 17) n (nxt (V0 17) n (nxt (V0 17) n g)) (exN (V0 17) g (tokE (V0 17) n g)) (msB s) := (nu_ok (by omega) (by omega)).mp ⟨by omega, by omega⟩
                  have hyv : x_9 = exN (V0 17) (nxt (V0 17) n (nxt (V0 17) n g)) (tokE (V0 17) n (nxt (V0 17) n (nxt (V0 17) n g))) := by rw [ex_9]; exact nu_val (by omega) hnum2
                  refine T_al d_X4_readClause_110 rfl ?_
                  refine C_v0 d_X4_readClause_111 rfl (hdF (by decide)) (hcF _) (Sc_next hBV_7 hF eV_7 hn cV_7 hnum2.1) (fun r_10 V_11 R_12 qV_11 => ?_)
                  obtain ⟨rfl, ⟨p12, eV_11, cV_11⟩, rfl, hBV_11⟩ := qV_11
                  refine T_al d_X4_readClause_114 rfl ?_
                  refine T_k d_X4_readClause_115 ?_
                  refine T_il d_X4_readClause_117 rfl ?_
                  refine T_iadd d_X4_readClause_118 ?_
                  refine T_il d_X4_readClause_119 rfl ?_
                  refine F_is d_X4_readClause_121 rfl hBV_11 rfl ⟨by omega, by omega⟩ ⟨by omega, by omega⟩ (fun V_13 eV_13 hBV_13 => ?_)
                  refine T_k d_X4_readClause_122 ?_
                  -- leaf 33f.42f.51t.70t.81t.95f.105t@123
                  refine T_zret1 d_X4_readClause_123 rfl ?_
                  have e65 := eV_13
                  rw [eV_11, show (10 + (s : Int)).toNat = 10 + s by omega, cs_row (by decide) (by decide), hyv] at e65
                  have c65 := cV_11
                  obtain ⟨z1, z2, rfl⟩ := hsg2
                  rw [cl_2 z2 z1 hnum (fun z => h70 ((sp_b s z1).mpr z)) h81 hnum2]
                  exact QK_ok e65 c65 (fun k hk => by rw [uV_row hk, uV_row hk]) (dR_2 hdr z1 (fun z => h70 ((sp_b s z1).mpr z)) (fun j => by unfold uV; simp)) hBV_13
                · skip
                  refine T_k d_X4_readClause_108 ?_
                  -- leaf 33f.42f.51t.70t.81t.95f.105f@109
                  refine T_zret0 d_X4_readClause_109 rfl ?_
                  have hnn : ¬ numOK (V0 17) n (nxt (V0 17) n (nxt (V0 17) n g)) (exN (V0 17) g (tokE (V0 17) n g)) (msB s) := fun z => by have := (nu_ok (by omega) (by omega)).mpr z; omega
                  obtain ⟨z1, z2, rfl⟩ := hsg2
                  rw [cl_m z2 z1 hnum (fun z => h70 ((sp_b s z1).mpr z)) h81 hnn]
                  exact QK_no eV_7 cV_7 (fun k hk => uV_row hk) hBV_7
            · skip
              refine T_k d_X4_readClause_84 ?_
              -- leaf 33f.42f.51t.70t.81f@85
              refine T_zret0 d_X4_readClause_85 rfl ?_
              rw [if_neg h81] at eV_7 cV_7
              obtain ⟨z1, z2, rfl⟩ := hsg2
              rw [cl_t z2 z1 hnum (fun z => h70 ((sp_b s z1).mpr z)) h81]
              exact QK_no eV_7 cV_7 (fun k hk => uV_row hk) hBV_7
          · skip
            refine T_k d_X4_readClause_73 ?_
            -- leaf 33f.42f.51t.70f@74
            refine T_zret1 d_X4_readClause_74 rfl ?_
            obtain ⟨z1, z2, rfl⟩ := hsg2
            rw [cl_1 z2 z1 hnum ((sp_b s z1).mp h70)]
            exact QK_ok e64 c64 (fun k hk => uV_row hk) (dR_1 hdr z1 ((sp_b s z1).mp h70) (fun j => by unfold uV; simp)) hBV_5
        · skip
          refine T_k d_X4_readClause_54 ?_
          -- leaf 33f.42f.51f@55
          refine T_zret0 d_X4_readClause_55 rfl ?_
          have hnn : ¬ numOK (V0 17) n g (lsB s) (msB s) := fun z => by have := (nu_ok (by omega) (by omega)).mpr z; omega
          obtain ⟨z1, z2, rfl⟩ := hsg2
          rw [cl_n z2 z1 hnn]
          exact QK_no eX cX (fun _ _ => rfl) hBX
  refine T_k d_X4_readClause_0 ?_
  refine T_is d_X4_readClause_1 (ls' := [(0, vr 16), (1, vr 28), (2, vi 0)]) rfl ?_
  -- to 2 @2
  have L2 : ∀ (fu : Nat) (W : VV) (s q : Nat), 10 - s < fu → (Bd W) → (W = csV V0 f q D) → (cO (V0 17) n f q) → (s ≤ 10 ∧ ∀ j, j < s → wdb (3 + j) (V0 17) f (tokE (V0 17) n f) = false) → TT G M_X4_readClause (rmd 6 162 162) 162 (Zm G 162 162 (QK R V0 n (some (vi (bi (decide ((clS (V0 17) n f 3 lo hi).2.1 = -1))))) (clS (V0 17) n f 3 lo hi).1 28 D ((clS (V0 17) n f 3 lo hi).2.1 = -1) 3 (clS (V0 17) n f 3 lo hi).2.2.1 (clS (V0 17) n f 3 lo hi).2.2.2)) 162 2 [(0, vr 16), (1, vr 28), (2, vi (s : Int))] [] W R := by
    intro fu
    induction fu with
    | zero => intro W s q hm; exact absurd hm (Nat.not_lt_zero _)
    | succ fu ih2 =>
      intro W s q hm2 hBW eW cW hs
      refine T_il d_X4_readClause_2 rfl ?_
      refine T_k d_X4_readClause_3 ?_
      refine T_ige d_X4_readClause_5 ⟨by omega, by omega⟩ ⟨by omega, by omega⟩ (fun h5 => ?_) (fun h5 => ?_)
      · skip
        -- to 25 5t@25
        exact L25 W (s) (f) _ hBW eW cW (Or.inl ⟨by omega, sortS_10 (fun j hj => hs.2 j (by omega)), rfl⟩)
      · skip
        refine T_al d_X4_readClause_8 rfl ?_
        refine T_il d_X4_readClause_9 rfl ?_
        refine C_ps1 d_X4_readClause_10 (hdF (by decide)) (hcF _) (R_X4_wordOf (s := s) (by omega)) ?_
        refine C_v1 d_X4_readClause_13 rfl (hdF (by decide)) (hcF _) (Sc_take (w := 3 + s) hBW hF eW hn cW (by omega)) (fun r_14 V_15 R_16 qV_15 => ?_)
        obtain ⟨rfl, ⟨p16, eV_15, cV_15⟩, rfl, hBV_15⟩ := qV_15
        refine T_pz1 d_X4_readClause_16 (fun h16 => ?_) (fun h16 => ?_)
        · skip
          -- to 25 5f.16t@25
          rw [if_pos h16] at eV_15 cV_15
          exact L25 V_15 (s) ((nxt (V0 17) n f)) _ hBV_15 eV_15 cV_15 (Or.inr ⟨by omega, sortS_of (by omega) h16, rfl⟩)
        · skip
          refine F_incg d_X4_readClause_19 rfl (f := fun x_17 => [(0, vr 16), (1, vr 28), (2, vi x_17)]) (fun _ => rfl) (fun x_17 ex_17 => ?_)
          refine T_go d_X4_readClause_22 ?_
          -- to 2 5f.16f@2
          rw [if_neg h16] at eV_15 cV_15
          obtain rfl : x_17 = ((s + 1) : Int) := by omega
          exact ih2 V_15 (s + 1) _ (by omega) hBV_15 eV_15 cV_15 ⟨by omega, fun j hj => by rcases Nat.lt_or_ge j s with z | z; exact hs.2 j z; rw [show j = s by omega]; simpa using h16⟩
  exact L2 _ V (0) (p) (Nat.lt_succ_self _) hB eV hc ⟨by omega, fun j hj => by omega⟩
set_option maxHeartbeats 1000000 in
set_option maxRecDepth 100000 in
theorem R_X4_readClause_29 {G : GG} {V : VV} {R : RR}  {V0 : VV} {n f p : Nat} {D : Nat → Nat → Int} {lo hi : Nat → Int} (hB : Bd V) (hF : FinR R) (eV : V = csV V0 f p D) (hn : V0 16 1 = n) (hc : cO (V0 17) n f p) (hdr : dR 4 lo hi (D 29)) : Runs G M_X4_readClause 6 162 162 [vr 16, vr 29] V R (QK R V0 n (some (vi (bi (decide ((clS (V0 17) n f 4 lo hi).2.1 = -1))))) (clS (V0 17) n f 4 lo hi).1 29 D ((clS (V0 17) n f 4 lo hi).2.1 = -1) 4 (clS (V0 17) n f 4 lo hi).2.2.1 (clS (V0 17) n f 4 lo hi).2.2.2) := by
  refine Runs.of pn_X4 (Nat.le_of_ble_eq_true rfl) rfl ?_
  show TT G M_X4_readClause (rmd 6 162 162) 162 (Zm G 162 162 (QK R V0 n (some (vi (bi (decide ((clS (V0 17) n f 4 lo hi).2.1 = -1))))) (clS (V0 17) n f 4 lo hi).1 29 D ((clS (V0 17) n f 4 lo hi).2.1 = -1) 4 (clS (V0 17) n f 4 lo hi).2.2.1 (clS (V0 17) n f 4 lo hi).2.2.2)) 162 0 [(0, vr 16), (1, vr 29)] [] V R
  have hso := sortS_lt (t := V0 17) (p := f) (e := tokE (V0 17) n f)
  have L25 : ∀ (X : VV) (s g q : Nat), (Bd X) → (X = csV V0 g q D) → (cO (V0 17) n g q) → ((s = 10 ∧ sortS (V0 17) f (tokE (V0 17) n f) = 10 ∧ g = f) ∨ (s < 10 ∧ sortS (V0 17) f (tokE (V0 17) n f) = s ∧ g = (nxt (V0 17) n f))) → TT G M_X4_readClause (rmd 6 162 162) 162 (Zm G 162 162 (QK R V0 n (some (vi (bi (decide ((clS (V0 17) n f 4 lo hi).2.1 = -1))))) (clS (V0 17) n f 4 lo hi).1 29 D ((clS (V0 17) n f 4 lo hi).2.1 = -1) 4 (clS (V0 17) n f 4 lo hi).2.2.1 (clS (V0 17) n f 4 lo hi).2.2.2)) 162 25 [(0, vr 16), (1, vr 29), (2, vi (s : Int))] [] X R := by
    intro X s g q hBX eX cX hsg
    refine T_al d_X4_readClause_25 rfl ?_
    refine C_pv0 d_X4_readClause_26 rfl (hdF (by decide)) (hcF _) (Sc_num hBX hF eX hn cX) ?_
    refine F_isg d_X4_readClause_29 (f := fun x_1 => [(0, vr 16), (1, vr 29), (2, vi (s : Int)), (3, vi x_1)]) (fun _ => rfl) (fun x_1 ex_1 => ?_)
    have hnb := nu_b (t := V0 17) (n := n) (f := g)
    refine T_il d_X4_readClause_30 rfl ?_
    refine T_k d_X4_readClause_31 ?_
    refine T_ige d_X4_readClause_33 ⟨by omega, by omega⟩ ⟨by omega, by omega⟩ (fun h33 => ?_) (fun h33 => ?_)
    · skip
      refine T_k d_X4_readClause_54 ?_
      -- leaf 33t@55
      refine T_zret0 d_X4_readClause_55 rfl ?_
      obtain ⟨z1, z2, rfl⟩ := hsg.resolve_right (fun z => by omega)
      rw [cl_10 z2]
      exact QK_no eX cX (fun _ _ => rfl) hBX
    · skip
      have hs9 : s < 10 := by omega
      have hsg2 := hsg.resolve_left (fun z => by omega)
      have hlb := ls_b s hs9
      refine T_il d_X4_readClause_36 rfl ?_
      refine T_gs d_X4_readClause_37 ?_
      refine T_il d_X4_readClause_40 rfl ?_
      refine T_sald (n := 10) d_X4_readClause_41 (by decide) rfl (by decide) ⟨by omega, by omega⟩ (show sVal _ 1 _ = Int32.ofInt (lsB s) by rw [Int.toNat_natCast]; rfl) ?_
      refine T_ilt d_X4_readClause_42 ⟨by omega, by omega⟩ ⟨by omega, by omega⟩ (fun h42 => ?_) (fun h42 => ?_)
      · skip
        refine T_k d_X4_readClause_54 ?_
        -- leaf 33f.42t@55
        refine T_zret0 d_X4_readClause_55 rfl ?_
        have hnn : ¬ numOK (V0 17) n g (lsB s) (msB s) := fun z => by have := (nu_ok (by omega) (by omega)).mpr z; omega
        obtain ⟨z1, z2, rfl⟩ := hsg2
        rw [cl_n z2 z1 hnn]
        exact QK_no eX cX (fun _ _ => rfl) hBX
      · skip
        refine T_il d_X4_readClause_45 rfl ?_
        refine T_gs d_X4_readClause_46 ?_
        refine T_il d_X4_readClause_49 rfl ?_
        refine T_sald (n := 10) d_X4_readClause_50 (by decide) rfl (by decide) ⟨by omega, by omega⟩ (show sVal _ 2 _ = Int32.ofInt (msB s) by rw [Int.toNat_natCast]; rfl) ?_
        refine T_ile d_X4_readClause_51 ⟨by omega, by omega⟩ ⟨by omega, by omega⟩ (fun h51 => ?_) (fun h51 => ?_)
        · skip
          have hnum : numOK (V0 17) n g (lsB s) (msB s) := (nu_ok (by omega) (by omega)).mp ⟨by omega, by omega⟩
          have hxv : x_1 = exN (V0 17) g (tokE (V0 17) n g) := by rw [ex_1]; exact nu_val (by omega) hnum
          have hx0 := ex_tok0 hnum.1 hnum.2.1
          refine T_al d_X4_readClause_56 rfl ?_
          refine C_v0 d_X4_readClause_57 rfl (hdF (by decide)) (hcF _) (Sc_next hBX hF eX hn cX hnum.1) (fun r_2 V_3 R_4 qV_3 => ?_)
          obtain ⟨rfl, ⟨p4, eV_3, cV_3⟩, rfl, hBV_3⟩ := qV_3
          refine T_al d_X4_readClause_60 rfl ?_
          refine T_il d_X4_readClause_61 rfl ?_
          refine T_il d_X4_readClause_62 rfl ?_
          refine F_is d_X4_readClause_63 rfl hBV_3 rfl ⟨by omega, by omega⟩ ⟨by omega, by omega⟩ (fun V_5 eV_5 hBV_5 => ?_)
          have e64 := eV_5
          rw [eV_3, Int.toNat_natCast, cs_row (by decide) (by decide), hxv] at e64
          have c64 := cV_3
          have hsc : -1 ≤ (sCon 4).getD s 0 ∧ (sCon 4).getD s 0 ≤ 500 := sc4_b s hs9
          refine T_gs d_X4_readClause_64 ?_
          refine T_il d_X4_readClause_67 rfl ?_
          refine T_sald (n := 10) d_X4_readClause_68 (by decide) rfl (by decide) ⟨by omega, by omega⟩ (show sVal _ 4 _ = Int32.ofInt ((sCon 4).getD s 0) by rw [Int.toNat_natCast]; rfl) ?_
          refine T_k d_X4_readClause_69 ?_
          refine T_ine d_X4_readClause_70 ⟨by omega, by omega⟩ ⟨by omega, by omega⟩ (fun h70 => ?_) (fun h70 => ?_)
          · skip
            refine T_al d_X4_readClause_75 rfl ?_
            refine T_ldcS (i := 13) ⟨d_X4_readClause_76, rfl, by decide, rfl⟩ ?_
            refine C_v1 d_X4_readClause_78 rfl (hdF (by decide)) (hcF _) (Sc_take (w := 13) hBV_5 hF e64 hn c64 (by decide)) (fun r_6 V_7 R_8 qV_7 => ?_)
            obtain ⟨rfl, ⟨p8, eV_7, cV_7⟩, rfl, hBV_7⟩ := qV_7
            refine T_pz1 d_X4_readClause_81 (fun h81 => ?_) (fun h81 => ?_)
            · skip
              rw [if_pos h81] at eV_7 cV_7
              refine T_al d_X4_readClause_86 rfl ?_
              refine C_pv0 d_X4_readClause_87 rfl (hdF (by decide)) (hcF _) (Sc_num hBV_7 hF eV_7 hn cV_7) ?_
              refine F_isg d_X4_readClause_90 (f := fun x_9 => [(0, vr 16), (1, vr 29), (2, vi (s : Int)), (3, vi x_1), (4, vi x_9)]) (fun _ => rfl) (fun x_9 ex_9 => ?_)
              have hnb2 := nu_b (t := V0 17) (n := n) (f := (nxt (V0 17) n (nxt (V0 17) n g)))
              refine T_il d_X4_readClause_92 rfl ?_
              refine T_il d_X4_readClause_94 rfl ?_
              refine T_ilt d_X4_readClause_95 ⟨by omega, by omega⟩ ⟨by omega, by omega⟩ (fun h95 => ?_) (fun h95 => ?_)
              · skip
                refine T_k d_X4_readClause_108 ?_
                -- leaf 33f.42f.51t.70t.81t.95t@109
                refine T_zret0 d_X4_readClause_109 rfl ?_
                have hnn : ¬ numOK (V0 17) n (nxt (V0 17) n (nxt (V0 17) n g)) (exN (V0 17) g (tokE (V0 17) n g)) (msB s) := fun z => by have := (nu_ok (by omega) (by omega)).mpr z; omega
                obtain ⟨z1, z2, rfl⟩ := hsg2
                rw [cl_m z2 z1 hnum (fun z => h70 ((sp_b s z1).mpr z)) h81 hnn]
                exact QK_no eV_7 cV_7 (fun k hk => uV_row hk) hBV_7
              · skip
                refine T_il d_X4_readClause_98 rfl ?_
                refine T_gs d_X4_readClause_100 ?_
                refine T_il d_X4_readClause_103 rfl ?_
                refine T_sald (n := 10) d_X4_readClause_104 (by decide) rfl (by decide) ⟨by omega, by omega⟩ (show sVal _ 2 _ = Int32.ofInt (msB s) by rw [Int.toNat_natCast]; rfl) ?_
                refine T_ile d_X4_readClause_105 ⟨by omega, by omega⟩ ⟨by omega, by omega⟩ (fun h105 => ?_) (fun h105 => ?_)
                · skip
                  have hnum2 : numOK (V0 17) n (nxt (V0 17) n (nxt (V0 17) n g)) (exN (V0 17) g (tokE (V0 17) n g)) (msB s) := (nu_ok (by omega) (by omega)).mp ⟨by omega, by omega⟩
                  have hyv : x_9 = exN (V0 17) (nxt (V0 17) n (nxt (V0 17) n g)) (tokE (V0 17) n (nxt (V0 17) n (nxt (V0 17) n g))) := by rw [ex_9]; exact nu_val (by omega) hnum2
                  refine T_al d_X4_readClause_110 rfl ?_
                  refine C_v0 d_X4_readClause_111 rfl (hdF (by decide)) (hcF _) (Sc_next hBV_7 hF eV_7 hn cV_7 hnum2.1) (fun r_10 V_11 R_12 qV_11 => ?_)
                  obtain ⟨rfl, ⟨p12, eV_11, cV_11⟩, rfl, hBV_11⟩ := qV_11
                  refine T_al d_X4_readClause_114 rfl ?_
                  refine T_k d_X4_readClause_115 ?_
                  refine T_il d_X4_readClause_117 rfl ?_
                  refine T_iadd d_X4_readClause_118 ?_
                  refine T_il d_X4_readClause_119 rfl ?_
                  refine F_is d_X4_readClause_121 rfl hBV_11 rfl ⟨by omega, by omega⟩ ⟨by omega, by omega⟩ (fun V_13 eV_13 hBV_13 => ?_)
                  refine T_k d_X4_readClause_122 ?_
                  -- leaf 33f.42f.51t.70t.81t.95f.105t@123
                  refine T_zret1 d_X4_readClause_123 rfl ?_
                  have e65 := eV_13
                  rw [eV_11, show (10 + (s : Int)).toNat = 10 + s by omega, cs_row (by decide) (by decide), hyv] at e65
                  have c65 := cV_11
                  obtain ⟨z1, z2, rfl⟩ := hsg2
                  rw [cl_2 z2 z1 hnum (fun z => h70 ((sp_b s z1).mpr z)) h81 hnum2]
                  exact QK_ok e65 c65 (fun k hk => by rw [uV_row hk, uV_row hk]) (dR_2 hdr z1 (fun z => h70 ((sp_b s z1).mpr z)) (fun j => by unfold uV; simp)) hBV_13
                · skip
                  refine T_k d_X4_readClause_108 ?_
                  -- leaf 33f.42f.51t.70t.81t.95f.105f@109
                  refine T_zret0 d_X4_readClause_109 rfl ?_
                  have hnn : ¬ numOK (V0 17) n (nxt (V0 17) n (nxt (V0 17) n g)) (exN (V0 17) g (tokE (V0 17) n g)) (msB s) := fun z => by have := (nu_ok (by omega) (by omega)).mpr z; omega
                  obtain ⟨z1, z2, rfl⟩ := hsg2
                  rw [cl_m z2 z1 hnum (fun z => h70 ((sp_b s z1).mpr z)) h81 hnn]
                  exact QK_no eV_7 cV_7 (fun k hk => uV_row hk) hBV_7
            · skip
              refine T_k d_X4_readClause_84 ?_
              -- leaf 33f.42f.51t.70t.81f@85
              refine T_zret0 d_X4_readClause_85 rfl ?_
              rw [if_neg h81] at eV_7 cV_7
              obtain ⟨z1, z2, rfl⟩ := hsg2
              rw [cl_t z2 z1 hnum (fun z => h70 ((sp_b s z1).mpr z)) h81]
              exact QK_no eV_7 cV_7 (fun k hk => uV_row hk) hBV_7
          · skip
            refine T_k d_X4_readClause_73 ?_
            -- leaf 33f.42f.51t.70f@74
            refine T_zret1 d_X4_readClause_74 rfl ?_
            obtain ⟨z1, z2, rfl⟩ := hsg2
            rw [cl_1 z2 z1 hnum ((sp_b s z1).mp h70)]
            exact QK_ok e64 c64 (fun k hk => uV_row hk) (dR_1 hdr z1 ((sp_b s z1).mp h70) (fun j => by unfold uV; simp)) hBV_5
        · skip
          refine T_k d_X4_readClause_54 ?_
          -- leaf 33f.42f.51f@55
          refine T_zret0 d_X4_readClause_55 rfl ?_
          have hnn : ¬ numOK (V0 17) n g (lsB s) (msB s) := fun z => by have := (nu_ok (by omega) (by omega)).mpr z; omega
          obtain ⟨z1, z2, rfl⟩ := hsg2
          rw [cl_n z2 z1 hnn]
          exact QK_no eX cX (fun _ _ => rfl) hBX
  refine T_k d_X4_readClause_0 ?_
  refine T_is d_X4_readClause_1 (ls' := [(0, vr 16), (1, vr 29), (2, vi 0)]) rfl ?_
  -- to 2 @2
  have L2 : ∀ (fu : Nat) (W : VV) (s q : Nat), 10 - s < fu → (Bd W) → (W = csV V0 f q D) → (cO (V0 17) n f q) → (s ≤ 10 ∧ ∀ j, j < s → wdb (3 + j) (V0 17) f (tokE (V0 17) n f) = false) → TT G M_X4_readClause (rmd 6 162 162) 162 (Zm G 162 162 (QK R V0 n (some (vi (bi (decide ((clS (V0 17) n f 4 lo hi).2.1 = -1))))) (clS (V0 17) n f 4 lo hi).1 29 D ((clS (V0 17) n f 4 lo hi).2.1 = -1) 4 (clS (V0 17) n f 4 lo hi).2.2.1 (clS (V0 17) n f 4 lo hi).2.2.2)) 162 2 [(0, vr 16), (1, vr 29), (2, vi (s : Int))] [] W R := by
    intro fu
    induction fu with
    | zero => intro W s q hm; exact absurd hm (Nat.not_lt_zero _)
    | succ fu ih2 =>
      intro W s q hm2 hBW eW cW hs
      refine T_il d_X4_readClause_2 rfl ?_
      refine T_k d_X4_readClause_3 ?_
      refine T_ige d_X4_readClause_5 ⟨by omega, by omega⟩ ⟨by omega, by omega⟩ (fun h5 => ?_) (fun h5 => ?_)
      · skip
        -- to 25 5t@25
        exact L25 W (s) (f) _ hBW eW cW (Or.inl ⟨by omega, sortS_10 (fun j hj => hs.2 j (by omega)), rfl⟩)
      · skip
        refine T_al d_X4_readClause_8 rfl ?_
        refine T_il d_X4_readClause_9 rfl ?_
        refine C_ps1 d_X4_readClause_10 (hdF (by decide)) (hcF _) (R_X4_wordOf (s := s) (by omega)) ?_
        refine C_v1 d_X4_readClause_13 rfl (hdF (by decide)) (hcF _) (Sc_take (w := 3 + s) hBW hF eW hn cW (by omega)) (fun r_14 V_15 R_16 qV_15 => ?_)
        obtain ⟨rfl, ⟨p16, eV_15, cV_15⟩, rfl, hBV_15⟩ := qV_15
        refine T_pz1 d_X4_readClause_16 (fun h16 => ?_) (fun h16 => ?_)
        · skip
          -- to 25 5f.16t@25
          rw [if_pos h16] at eV_15 cV_15
          exact L25 V_15 (s) ((nxt (V0 17) n f)) _ hBV_15 eV_15 cV_15 (Or.inr ⟨by omega, sortS_of (by omega) h16, rfl⟩)
        · skip
          refine F_incg d_X4_readClause_19 rfl (f := fun x_17 => [(0, vr 16), (1, vr 29), (2, vi x_17)]) (fun _ => rfl) (fun x_17 ex_17 => ?_)
          refine T_go d_X4_readClause_22 ?_
          -- to 2 5f.16f@2
          rw [if_neg h16] at eV_15 cV_15
          obtain rfl : x_17 = ((s + 1) : Int) := by omega
          exact ih2 V_15 (s + 1) _ (by omega) hBV_15 eV_15 cV_15 ⟨by omega, fun j hj => by rcases Nat.lt_or_ge j s with z | z; exact hs.2 j z; rw [show j = s by omega]; simpa using h16⟩
  exact L2 _ V (0) (p) (Nat.lt_succ_self _) hB eV hc ⟨by omega, fun j hj => by omega⟩
