/-! the reference's kinds(), whole -/
theorem cls_le {t : Nat → Int} {n rd : Nat} : ∀ {c f : Nat} {lo hi : Nat → Int}, f ≤ n → f ≤ (cls t n rd c f lo hi).1 ∧ (cls t n rd c f lo hi).1 ≤ n ∧ -1 ≤ (cls t n rd c f lo hi).2.1 ∧ (cls t n rd c f lo hi).2.1 ≤ n
  | 0, f, lo, hi, h => by
    show f ≤ f ∧ f ≤ n ∧ (-1 : Int) ≤ f ∧ (f : Int) ≤ n
    omega
  | c + 1, f, lo, hi, h => by
    have h1 := clS_le (t := t) (rd := rd) (lo := lo) (hi := hi) h
    by_cases q : (clS t n f rd lo hi).2.1 = -1 ∧ (clS t n f rd lo hi).1 < n ∧ t (clS t n f rd lo hi).1 = 44
    · rw [cls_s q]
      have h2 := nxt_le (t := t) h1.2.1
      have h3 := cls_le (t := t) (rd := rd) (c := c) (lo := (clS t n f rd lo hi).2.2.1) (hi := (clS t n f rd lo hi).2.2.2) h2.2.1
      omega
    · rw [cls_e q]
      omega
theorem kdS_le {t : Nat → Int} {n f rd : Nat} {lo hi : Nat → Int} (h : f ≤ n) (hr : rd ≤ 5) : f ≤ (kdS t n f rd lo hi).1 ∧ (kdS t n f rd lo hi).1 ≤ n ∧ (-1 ≤ (kdS t n f rd lo hi).2.1 ∧ (kdS t n f rd lo hi).2.1 ≤ n) ∧ (kdS t n f rd lo hi).2.2.1 ≤ 5 := by
  have h1 := nxt_le (t := t) h
  have h2 := nxt_le (t := t) h1.2.1
  unfold kdS
  split
  · simp; omega
  · rename_i h5
    have h5 : ¬ rd = 5 := fun q => h5 (Or.inl q)
    split
    · simp; omega
    · simp only []
      have h3 : ∃ r : Nat × Int × (Nat → Int) × (Nat → Int), r = (if nxt t n (nxt t n f) < n ∧ t (nxt t n (nxt t n f)) = 125 then (nxt t n (nxt t n f), (-1 : Int), setD lo rd dfL, setD hi rd dfH) else cls t n rd 401 (nxt t n (nxt t n f)) (setD lo rd dfL) (setD hi rd dfH)) ∧ nxt t n (nxt t n f) ≤ r.1 ∧ r.1 ≤ n ∧ -1 ≤ r.2.1 ∧ r.2.1 ≤ n := by
        refine ⟨_, rfl, ?_⟩
        split
        · simp; omega
        · exact cls_le h2.2.1
      obtain ⟨r, er, hr2⟩ := h3
      rw [← er]
      have h4 := nxt_le (t := t) hr2.2.1
      split
      · simp; omega
      · split
        · simp; omega
        · simp; omega
def kcon (t : Nat → Int) (n c a : Nat) (rf : Int) (rd : Nat) (lo hi : Nat → Int) : Nat × Int × Nat × (Nat → Int) × (Nat → Int) := if rf = -1 ∧ a < n ∧ t a = 59 then kdsF t n c (nxt t n a) rd lo hi else (a, rf, rd, lo, hi)
theorem kds_s {t : Nat → Int} {n c f rd : Nat} {lo hi : Nat → Int} : kdsF t n (c + 1) f rd lo hi = kcon t n c (kdS t n f rd lo hi).1 (kdS t n f rd lo hi).2.1 (kdS t n f rd lo hi).2.2.1 (kdS t n f rd lo hi).2.2.2.1 (kdS t n f rd lo hi).2.2.2.2 := rfl
/-- the whole text: where it ends, a fault or -1, how many, the numbers -/
def kinR (t : Nat → Int) (n : Nat) (lo hi : Nat → Int) : Nat × Int × Nat × (Nat → Int) × (Nat → Int) := if n ≤ skipB t n 0 then (skipB t n 0, -1, 0, lo, hi) else kdsF t n 401 (skipB t n 0) 0 lo hi
def kinF (t : Nat → Int) (n : Nat) (lo hi : Nat → Int) : Int := if (kinR t n lo hi).2.1 = -1 ∧ (kinR t n lo hi).1 < n then ((kinR t n lo hi).1 : Int) else (kinR t n lo hi).2.1
theorem ps_start (V : VV) (n : Nat) : nextV (uV (uV (uV (uV (uV V 99 31 (n : Int)) 99 30 0) 99 33 0) 99 35 (-1)) 99 37 0) n 0 = psV (uV V 99 30 0) n (skipB (V 120) n 0) (-1) 0 (V 124) (V 125) := by
  funext k j
  have e : (uV (uV (uV (uV (uV V 99 31 (n : Int)) 99 30 0) 99 33 0) 99 35 (-1)) 99 37 0) 120 = V 120 := rfl
  have e2 : (uV V 99 30 0) 120 = V 120 := rfl
  unfold nextV psV
  rw [e, e2]
  unfold uV
  by_cases h : k = 99
  · subst h
    by_cases h1 : j = 33
    · subst h1; simp
    · by_cases h2 : j = 32
      · subst h2; simp
      · by_cases h3 : j = 37
        · subst h3; simp
        · by_cases h4 : j = 35
          · subst h4; simp
          · by_cases h5 : j = 31
            · subst h5; simp
            · simp [h1, h2, h3, h4, h5]
  · by_cases h6 : k = 124
    · subst h6; simp
    · by_cases h7 : k = 125
      · subst h7; simp
      · simp [h, h6, h7]
/-- what kinds() leaves -/
def kinQ (V : VV) (R : RR) (n : Nat) : Option AV → VV → RR → Prop := fun r V' R' => R = R' ∧ Bd V' ∧ (∀ k j : Nat, k ≠ 99 → k ≠ 122 → k ≠ 123 → k ≠ 124 → k ≠ 125 → V' k j = V k j) ∧ (∀ j : Nat, ¬ (j ≤ 1) → ¬ (30 ≤ j ∧ j ≤ 37) → V' 99 j = V 99 j) ∧ V' 99 30 = 0 ∧ V' 99 34 = kinF (V 120) n (V 124) (V 125) ∧
  (if kinF (V 120) n (V 124) (V 125) = -1 then r = some (vi ((kinR (V 120) n (V 124) (V 125)).2.2.1 : Int)) ∧ V' 99 36 = ((kinR (V 120) n (V 124) (V 125)).2.2.1 : Int) ∧ V' 99 0 = 0 ∧ V' 99 1 = -1 ∧ ∀ j : Nat, j < 50 → V' 122 j = (kinR (V 120) n (V 124) (V 125)).2.2.2.1 j ∧ V' 123 j = (kinR (V 120) n (V 124) (V 125)).2.2.2.2 j
   else r = some (vi (-6)) ∧ V' 99 36 = V 99 36 ∧ V' 99 0 = -6 ∧ V' 99 1 = V 99 1 ∧ V' 122 = V 122 ∧ V' 123 = V 123)
def cpV (W : VV) (k : Nat) (lo hi : Nat → Int) : VV := fun c j => if c = 122 then (if j < k then lo j else W 122 j) else if c = 123 then (if j < k then hi j else W 123 j) else W c j
theorem cp_0 {W : VV} {lo hi : Nat → Int} : cpV W 0 lo hi = W := by
  funext c j
  unfold cpV
  by_cases h : c = 122
  · subst h; simp
  · by_cases h2 : c = 123
    · subst h2; simp
    · simp [h, h2]
theorem cp_s {W : VV} {k : Nat} {lo hi : Nat → Int} : uV (uV (cpV W k lo hi) 122 k (lo k)) 123 k (hi k) = cpV W (k + 1) lo hi := by
  funext c j
  unfold uV cpV
  by_cases h : c = 122
  · subst h
    by_cases h1 : j = k
    · subst h1; simp
    · have e : (j < k + 1) = (j < k) := by apply propext; omega
      simp [h1, e]
  · by_cases h2 : c = 123
    · subst h2
      by_cases h1 : j = k
      · subst h1; simp
      · have e : (j < k + 1) = (j < k) := by apply propext; omega
        simp [h1, e]
    · simp [h, h2]
theorem kin_lF {V V0 V' : VV} {R : RR} {n a rd : Nat} {rf : Int} {lo hi : Nat → Int} (e0 : V0 = uV V 99 30 0) (h : kinF (V0 120) n (V0 124) (V0 125) = rf) (hne : ¬ rf = -1) (hB : Bd V') (e : V' = endsV (uV (psV V0 n a rf rd lo hi) 99 34 rf) (-6)) : kinQ V R n (some (vi (-6))) V' R := by
  subst e0
  have h : kinF (V 120) n (V 124) (V 125) = rf := h
  have e' : V' = uV (uV (psV (uV V 99 30 0) n a rf rd lo hi) 99 34 rf) 99 0 (-6) := e
  refine ⟨rfl, hB, ?_, ?_, ?_, ?_, ?_⟩
  · intro k j h1 h2 h3 h4 h5
    rw [e']
    unfold uV psV
    simp [h1, h4, h5]
  · intro j h1 h2
    rw [e']
    unfold uV psV
    have q0 : ¬ j = 0 := by omega
    have q1 : ¬ j = 34 := by omega
    have q2 : ¬ j = 31 := by omega
    have q3 : ¬ j = 32 := by omega
    have q4 : ¬ j = 33 := by omega
    have q5 : ¬ j = 35 := by omega
    have q6 : ¬ j = 37 := by omega
    have q7 : ¬ j = 30 := by omega
    simp [q0, q1, q2, q3, q4, q5, q6, q7]
  · rw [e']; rfl
  · rw [h, e']; rfl
  · rw [h, if_neg hne]
    refine ⟨rfl, ?_, ?_, ?_, ?_, ?_⟩ <;> (rw [e']; rfl)
theorem kin_lT {V V0 V' : VV} {R : RR} {n a rd : Nat} {rf : Int} {lo hi : Nat → Int} (e0 : V0 = uV V 99 30 0) (h : kinF (V0 120) n (V0 124) (V0 125) = rf) (hne : rf = -1) (hk : (kinR (V0 120) n (V0 124) (V0 125)).2.2 = (rd, lo, hi)) (hB : Bd V') (e : V' = endsV (cpV (uV (uV (psV V0 n a rf rd lo hi) 99 34 rf) 99 36 (rd : Int)) 50 lo hi) (rd : Int)) : kinQ V R n (some (vi (rd : Int))) V' R := by
  subst e0
  have h : kinF (V 120) n (V 124) (V 125) = rf := h
  have hk : (kinR (V 120) n (V 124) (V 125)).2.2 = (rd, lo, hi) := hk
  have e' : V' = uV (uV (cpV (uV (uV (psV (uV V 99 30 0) n a rf rd lo hi) 99 34 rf) 99 36 (rd : Int)) 50 lo hi) 99 0 0) 99 1 (-1) := by
    rw [e]; unfold endsV; rw [if_neg (by omega)]
  refine ⟨rfl, hB, ?_, ?_, ?_, ?_, ?_⟩
  · intro k j h1 h2 h3 h4 h5
    rw [e']
    unfold uV cpV psV
    simp [h1, h2, h3, h4, h5]
  · intro j h1 h2
    rw [e']
    unfold uV cpV psV
    have q0 : ¬ j = 0 := by omega
    have q8 : ¬ j = 1 := by omega
    have q9 : ¬ j = 36 := by omega
    have q1 : ¬ j = 34 := by omega
    have q2 : ¬ j = 31 := by omega
    have q3 : ¬ j = 32 := by omega
    have q4 : ¬ j = 33 := by omega
    have q5 : ¬ j = 35 := by omega
    have q6 : ¬ j = 37 := by omega
    have q7 : ¬ j = 30 := by omega
    simp [q0, q1, q2, q3, q4, q5, q6, q7, q8, q9]
  · rw [e']; rfl
  · rw [h, e']; rfl
  · rw [h, if_pos hne, hk]
    refine ⟨rfl, ?_, ?_, ?_, ?_⟩
    · rw [e']; rfl
    · rw [e']; rfl
    · rw [e']; rfl
    · intro j hj
      rw [e']
      unfold uV cpV
      simp [hj]
theorem kcon_e {t : Nat → Int} {n c a rd : Nat} {rf : Int} {lo hi : Nat → Int} (h : ¬ (rf = -1 ∧ a < n ∧ t a = 59)) : kcon t n c a rf rd lo hi = (a, rf, rd, lo, hi) := by
  unfold kcon
  rw [if_neg h]
theorem kcon_s {t : Nat → Int} {n c a rd : Nat} {rf : Int} {lo hi : Nat → Int} (h : rf = -1 ∧ a < n ∧ t a = 59) : kcon t n c a rf rd lo hi = kdsF t n c (nxt t n a) rd lo hi := by
  unfold kcon
  rw [if_pos h]
set_option maxHeartbeats 1000000 in
set_option maxRecDepth 100000 in
theorem R_X11_kinds {G : GG} {V : VV} {R : RR}  {n : Nat} (hB : Bd V) (hF : FinR R) (hn : V 99 30 = n) (hn4 : n ≤ 400) (hcm : ConM V) : Runs G M_X11_kinds 7 162 162 [vr 99] V R (kinQ V R n) := by
  refine Runs.of pn_X11 (Nat.le_of_ble_eq_true rfl) rfl ?_
  show TT G M_X11_kinds (rmd 7 162 162) 162 (Zm G 162 162 (kinQ V R n)) 162 0 [(0, vr 99)] [] V R
  obtain ⟨V0, eV0⟩ : ∃ V0, V0 = uV V 99 30 0 := ⟨_, rfl⟩
  have hg0 := skipB_le (t := V0 120) (Nat.zero_le n)
  have hcm0 : ConM V0 := by rw [eV0]; exact hcm
  have hkd0 := kdS_le (t := V0 120) (lo := V0 124) (hi := V0 125) hg0.2 (Nat.zero_le 5)
  have L96 : ∀ (Y : VV) (a : Nat) (rf : Int) (rd : Nat) (lo hi : Nat → Int), (Bd Y) → (Y = psV V0 n a rf rd lo hi) → (a ≤ n) → ((-1 ≤ rf ∧ rf ≤ n) ∧ rd ≤ 5) → (kinF (V0 120) n (V0 124) (V0 125) = rf) → (rf = -1 → (kinR (V0 120) n (V0 124) (V0 125)).2.2 = (rd, lo, hi)) → TT G M_X11_kinds (rmd 7 162 162) 162 (Zm G 162 162 (kinQ V R n)) 162 96 [(0, vr 99)] [] Y R := by
    intro Y a rf rd lo hi hBY eY ha hrr hkf hkk
    refine T_al d_X11_kinds_96 rfl ?_
    refine T_al d_X11_kinds_97 rfl ?_
    refine F_gi d_X11_kinds_98 rfl hBY rfl (fun b_1 => ?_)
    have pY_35 := (congrFun (congrFun eY 99) 35).trans (ps_35 _ _ _ _ _ _ _)
    rw [pY_35]
    rw [pY_35] at b_1
    refine F_pi d_X11_kinds_101 rfl hBY rfl ⟨by omega, by omega⟩ (fun V_2 eV_2 hBV_2 => ?_)
    refine T_al d_X11_kinds_104 rfl ?_
    refine C_pv0 d_X11_kinds_105 rfl (hdF (by decide)) (hcF _) (R_X11_good hBV_2 hF) ?_
    have h35 : V_2 99 35 = rf := by rw [eV_2, eY]; rfl
    rw [h35]
    have e5 : V_2 = uV (psV V0 n a rf rd lo hi) 99 34 rf := by rw [eV_2, eY]
    refine T_pz1 d_X11_kinds_108 (fun h108 => ?_) (fun h108 => ?_)
    · skip
      refine T_al d_X11_kinds_118 rfl ?_
      refine T_al d_X11_kinds_119 rfl ?_
      refine F_gi d_X11_kinds_120 rfl hBV_2 rfl (fun b_3 => ?_)
      have fV_2_99_37 : V_2 99 37 = Y 99 37 := by rw [eV_2]; rfl
      rw [fV_2_99_37]
      rw [fV_2_99_37] at b_3
      refine F_pi d_X11_kinds_123 rfl hBV_2 rfl ⟨by omega, by omega⟩ (fun V_4 eV_4 hBV_4 => ?_)
      obtain ⟨X0, eX0⟩ : ∃ X0, X0 = V_4 := ⟨_, rfl⟩
      have hX4 : X0 124 = lo := by rw [eX0, eV_4, eV_2, eY]; rfl
      have hX5 : X0 125 = hi := by rw [eX0, eV_4, eV_2, eY]; rfl
      have hX6 : X0 99 36 = rd := by rw [eX0, eV_4, eY]; rfl
      have e7 : X0 = uV (uV (psV V0 n a rf rd lo hi) 99 34 rf) 99 36 (rd : Int) := by rw [eX0, eV_4, e5, eY]; rfl
      refine T_k d_X11_kinds_126 ?_
      refine T_is d_X11_kinds_127 (ls' := [(0, vr 99), (1, vi 0)]) rfl ?_
      -- to 128 108t@128
      have L128 : ∀ (fu : Nat) (X : VV) (k : Nat), 50 - k < fu → (Bd X) → (k ≤ 50) → (X = cpV X0 k lo hi) → TT G M_X11_kinds (rmd 7 162 162) 162 (Zm G 162 162 (kinQ V R n)) 162 128 [(0, vr 99), (1, vi (k : Int))] [] X R := by
        intro fu
        induction fu with
        | zero => intro X k hm; exact absurd hm (Nat.not_lt_zero _)
        | succ fu ih128 =>
          intro X k hm128 hBX hk hx1
          have hx4 : X 124 = lo := by rw [hx1]; exact hX4
          have hx5 : X 125 = hi := by rw [hx1]; exact hX5
          have hx6 : X 99 36 = rd := by rw [hx1]; exact hX6
          refine T_il d_X11_kinds_128 rfl ?_
          refine T_k d_X11_kinds_129 ?_
          refine T_ige d_X11_kinds_131 ⟨by omega, by omega⟩ ⟨by omega, by omega⟩ (fun h131 => ?_) (fun h131 => ?_)
          · skip
            refine T_al d_X11_kinds_164 rfl ?_
            refine T_al d_X11_kinds_165 rfl ?_
            refine F_gi d_X11_kinds_166 rfl hBX rfl (fun b_5 => ?_)
            refine C_v1 d_X11_kinds_169 rfl (hdF (by decide)) (hcF _) (R_X11_ends hBX hF ⟨by omega, by omega⟩ (by omega)) (fun r_6 V_7 R_8 qV_7 => ?_)
            obtain ⟨rfl, eV_7, rfl, hBV_7⟩ := qV_7
            -- leaf 131t@172
            refine T_iret d_X11_kinds_172 rfl ?_
            have hk50 : k = 50 := by omega
            subst hk50
            rw [hx6]
            rw [hx6] at eV_7
            exact kin_lT eV0 hkf h108 (hkk h108) hBV_7 (by rw [eV_7, hx1, e7])
          · skip
            refine T_al d_X11_kinds_134 rfl ?_
            refine F_gr (b := 122) d_X11_kinds_135 rfl hF rfl ?_
            refine T_il d_X11_kinds_138 rfl ?_
            refine T_al d_X11_kinds_139 rfl ?_
            refine F_gr (b := 124) d_X11_kinds_140 rfl hF rfl ?_
            refine T_il d_X11_kinds_143 rfl ?_
            refine F_ia d_X11_kinds_144 rfl hBX rfl ⟨by omega, by omega⟩ (fun b_9 => ?_)
            try simp only [Int.toNat_natCast]
            try simp only [Int.toNat_natCast] at b_9
            refine F_is d_X11_kinds_145 rfl hBX rfl ⟨by omega, by omega⟩ ⟨by omega, by omega⟩ (fun V_10 eV_10 hBV_10 => ?_)
            refine T_al d_X11_kinds_146 rfl ?_
            refine F_gr (b := 123) d_X11_kinds_147 rfl hF rfl ?_
            refine T_il d_X11_kinds_150 rfl ?_
            refine T_al d_X11_kinds_151 rfl ?_
            refine F_gr (b := 125) d_X11_kinds_152 rfl hF rfl ?_
            refine T_il d_X11_kinds_155 rfl ?_
            refine F_ia d_X11_kinds_156 rfl hBV_10 rfl ⟨by omega, by omega⟩ (fun b_11 => ?_)
            have faV_10_125 : V_10 125 = X 125 := by rw [eV_10]; rfl
            rw [faV_10_125]
            rw [faV_10_125] at b_11
            try simp only [Int.toNat_natCast]
            try simp only [Int.toNat_natCast] at b_11
            refine F_is d_X11_kinds_157 rfl hBV_10 rfl ⟨by omega, by omega⟩ ⟨by omega, by omega⟩ (fun V_12 eV_12 hBV_12 => ?_)
            refine F_incg d_X11_kinds_158 rfl (f := fun x_13 => [(0, vr 99), (1, vi x_13)]) (fun _ => rfl) (fun x_13 ex_13 => ?_)
            refine T_go d_X11_kinds_161 ?_
            -- to 128 131f@128
            obtain rfl : x_13 = ((k + 1) : Int) := by omega
            exact ih128 V_12 (k + 1) (by omega) hBV_12 (by omega) (by rw [eV_12, eV_10, hx4, hx5, hx1]; exact cp_s)
      exact L128 _ V_4 (0) (Nat.lt_succ_self _) hBV_4 (by omega) (by rw [cp_0, eX0])
    · skip
      refine T_al d_X11_kinds_111 rfl ?_
      refine T_k d_X11_kinds_112 ?_
      refine C_v1 d_X11_kinds_114 rfl (hdF (by decide)) (hcF _) (R_X11_ends hBV_2 hF ⟨by omega, by omega⟩ (by omega)) (fun r_14 V_15 R_16 qV_15 => ?_)
      obtain ⟨rfl, eV_15, rfl, hBV_15⟩ := qV_15
      -- leaf 108f@117
      refine T_iret d_X11_kinds_117 rfl ?_
      exact kin_lF eV0 hkf h108 hBV_15 (by rw [eV_15, e5])
  have L74 : ∀ (X : VV) (a : Nat) (rf : Int) (rd : Nat) (lo hi : Nat → Int), (Bd X) → (X = psV V0 n a rf rd lo hi) → (a ≤ n) → ((-1 ≤ rf ∧ rf ≤ n) ∧ rd ≤ 5) → ((kinR (V0 120) n (V0 124) (V0 125)) = (a, rf, rd, lo, hi)) → TT G M_X11_kinds (rmd 7 162 162) 162 (Zm G 162 162 (kinQ V R n)) 162 74 [(0, vr 99)] [] X R := by
    intro X a rf rd lo hi hBX eX ha hrr hkk
    refine T_al d_X11_kinds_74 rfl ?_
    refine C_pv0 d_X11_kinds_75 rfl (hdF (by decide)) (hcF _) (S_good hBX hF (by assumption) (by omega) hn4) ?_
    refine T_pz0 d_X11_kinds_78 (fun h78 => ?_) (fun h78 => ?_)
    · skip
      -- to 96 78t@96
      exact L96 X _ _ _ _ _ hBX eX (by first | assumption | omega) (by first | assumption | omega) (by unfold kinF; rw [hkk, if_neg (fun h => h78 h.1)]) (fun h => absurd h h78)
    · skip
      refine T_al d_X11_kinds_81 rfl ?_
      refine F_gi d_X11_kinds_82 rfl hBX rfl (fun b_17 => ?_)
      have pX_32 := (congrFun (congrFun eX 99) 32).trans (ps_32 _ _ _ _ _ _ _)
      rw [pX_32]
      rw [pX_32] at b_17
      refine T_al d_X11_kinds_85 rfl ?_
      refine F_gi d_X11_kinds_86 rfl hBX rfl (fun b_18 => ?_)
      have pX_31 := (congrFun (congrFun eX 99) 31).trans (ps_31 _ _ _ _ _ _ _)
      rw [pX_31]
      rw [pX_31] at b_18
      refine T_ige d_X11_kinds_89 ⟨by omega, by omega⟩ ⟨by omega, by omega⟩ (fun h89 => ?_) (fun h89 => ?_)
      · skip
        -- to 96 78f.89t@96
        exact L96 X _ _ _ _ _ hBX eX (by first | assumption | omega) (by first | assumption | omega) (by unfold kinF; rw [hkk, if_neg (fun h => by have := h.2; omega)]) (fun _ => by rw [hkk])
      · skip
        refine T_al d_X11_kinds_92 rfl ?_
        refine C_v0 d_X11_kinds_93 rfl (hdF (by decide)) (hcF _) (S_faults hBX hF (by assumption) (by omega) hn4) (fun r_19 V_20 R_21 qV_20 => ?_)
        obtain ⟨rfl, eV_20, rfl, hBV_20⟩ := qV_20
        -- to 96 78f.89f@96
        rw [if_pos h78] at eV_20
        exact L96 V_20 _ _ _ _ _ hBV_20 eV_20 (by first | assumption | omega) (by omega) (by unfold kinF; rw [hkk, if_pos ⟨h78, by omega⟩]) (fun h => by omega)
  have L47 : ∀ (fu : Nat) (W : VV) (c : Nat) (a : Nat) (rf : Int) (rd : Nat) (lo hi : Nat → Int), c < fu → (Bd W) → (W = psV V0 n a rf rd lo hi) → (a ≤ n ∧ n < a + c) → ((-1 ≤ rf ∧ rf ≤ n) ∧ rd ≤ 5) → (kcon (V0 120) n (c - 1) a rf rd lo hi = (kinR (V0 120) n (V0 124) (V0 125))) → TT G M_X11_kinds (rmd 7 162 162) 162 (Zm G 162 162 (kinQ V R n)) 162 47 [(0, vr 99)] [] W R := by
    intro fu
    induction fu with
    | zero => intro W c a rf rd lo hi hm; exact absurd hm (Nat.not_lt_zero _)
    | succ fu ih47 =>
      intro W c a rf rd lo hi hm47 hBW eW ha hrr hkc
      obtain ⟨c1, rfl⟩ : ∃ c1, c = c1 + 1 := ⟨c - 1, by omega⟩
      have ha2 := nxt_le (t := V0 120) ha.1
      have hkd := kdS_le (t := V0 120) (lo := lo) (hi := hi) ha2.2.1 hrr.2
      refine T_al d_X11_kinds_47 rfl ?_
      refine C_pv0 d_X11_kinds_48 rfl (hdF (by decide)) (hcF _) (S_good hBW hF (by assumption) (by omega) hn4) ?_
      refine T_pz0 d_X11_kinds_51 (fun h51 => ?_) (fun h51 => ?_)
      · skip
        -- to 74 51t@74
        exact L74 W _ _ _ _ _ hBW eW ha.1 hrr (by rw [← hkc, kcon_e (fun h => h51 h.1)])
      · skip
        refine T_al d_X11_kinds_54 rfl ?_
        refine T_k d_X11_kinds_55 ?_
        refine C_pv1 d_X11_kinds_57 rfl (hdF (by decide)) (hcF _) (S_isSign hBW hF (by assumption) (by omega) hn4 ⟨by decide, by decide⟩) ?_
        refine T_pz0 d_X11_kinds_60 (fun h60 => ?_) (fun h60 => ?_)
        · skip
          -- to 74 51f.60t@74
          exact L74 W _ _ _ _ _ hBW eW ha.1 hrr (by rw [← hkc, kcon_e (fun h => h60 h.2)])
        · skip
          refine T_al d_X11_kinds_63 rfl ?_
          refine C_v0 d_X11_kinds_64 rfl (hdF (by decide)) (hcF _) (S_next hBW hF (by assumption) (by omega) hn4) (fun r_22 V_23 R_24 qV_23 => ?_)
          obtain ⟨rfl, eV_23, rfl, hBV_23⟩ := qV_23
          rw [h51] at eV_23
          refine T_al d_X11_kinds_67 rfl ?_
          refine C_v0 d_X11_kinds_68 rfl (hdF (by decide)) (hcF _) (R_X11_kind hBV_23 hF (by assumption) (by omega) hn4 (by omega) hcm0) (fun r_25 V_26 R_27 qV_26 => ?_)
          obtain ⟨rfl, eV_26, rfl, hBV_26⟩ := qV_26
          refine T_go d_X11_kinds_71 ?_
          -- to 47 51f.60f@47
          obtain ⟨c2, rfl⟩ : ∃ c2, c1 = c2 + 1 := ⟨c1 - 1, by omega⟩
          exact ih47 V_26 (c2 + 1) _ _ _ _ _ (by omega) hBV_26 (by assumption) (by omega) (by omega) (by rw [← hkc, kcon_s (c := c2 + 1 + 1 - 1) ⟨h51, h60⟩]; exact (kds_s (c := c2)).symm)
  refine T_al d_X11_kinds_0 rfl ?_
  refine T_al d_X11_kinds_1 rfl ?_
  refine F_gi d_X11_kinds_2 rfl hB rfl (fun b_28 => ?_)
  refine F_pi d_X11_kinds_5 rfl hB rfl ⟨by omega, by omega⟩ (fun V_29 eV_29 hBV_29 => ?_)
  refine T_al d_X11_kinds_8 rfl ?_
  refine T_k d_X11_kinds_9 ?_
  refine F_pi d_X11_kinds_10 rfl hBV_29 rfl ⟨by omega, by omega⟩ (fun V_30 eV_30 hBV_30 => ?_)
  refine T_al d_X11_kinds_13 rfl ?_
  refine T_k d_X11_kinds_14 ?_
  refine F_pi d_X11_kinds_15 rfl hBV_30 rfl ⟨by omega, by omega⟩ (fun V_31 eV_31 hBV_31 => ?_)
  refine T_al d_X11_kinds_18 rfl ?_
  refine T_k d_X11_kinds_19 ?_
  refine F_pi d_X11_kinds_20 rfl hBV_31 rfl ⟨by omega, by omega⟩ (fun V_32 eV_32 hBV_32 => ?_)
  refine T_al d_X11_kinds_23 rfl ?_
  refine T_k d_X11_kinds_24 ?_
  refine F_pi d_X11_kinds_25 rfl hBV_32 rfl ⟨by omega, by omega⟩ (fun V_33 eV_33 hBV_33 => ?_)
  refine T_al d_X11_kinds_28 rfl ?_
  have e6 : V_33 = uV (uV (uV (uV (uV V 99 31 (n : Int)) 99 30 0) 99 33 0) 99 35 (-1)) 99 37 0 := by rw [eV_33, eV_32, eV_31, eV_30, eV_29, hn]
  refine C_v0 d_X11_kinds_29 rfl (hdF (by decide)) (hcF _) (R_X11_next (n := n) (p := 0) hBV_33 hF (by rw [eV_33, eV_32, eV_31, eV_30, eV_29]; exact hn) (by rw [eV_33, eV_32, eV_31]; rfl) (Nat.zero_le _)) (fun r_34 V_35 R_36 qV_35 => ?_)
  obtain ⟨rfl, eV_35, rfl, hBV_35⟩ := qV_35
  -- to 32 @32
  have L32 : ∀ (P : VV), (Bd P) → (P = psV V0 n (skipB (V0 120) n 0) (-1) 0 (V0 124) (V0 125)) → TT G M_X11_kinds (rmd 7 162 162) 162 (Zm G 162 162 (kinQ V R n)) 162 32 [(0, vr 99)] [] P R := by
    intro P hBP eP
    refine T_al d_X11_kinds_32 rfl ?_
    refine F_gi d_X11_kinds_33 rfl hBP rfl (fun b_37 => ?_)
    have pP_32 := (congrFun (congrFun eP 99) 32).trans (ps_32 _ _ _ _ _ _ _)
    rw [pP_32]
    rw [pP_32] at b_37
    refine T_al d_X11_kinds_36 rfl ?_
    refine F_gi d_X11_kinds_37 rfl hBP rfl (fun b_38 => ?_)
    have pP_31 := (congrFun (congrFun eP 99) 31).trans (ps_31 _ _ _ _ _ _ _)
    rw [pP_31]
    rw [pP_31] at b_38
    refine T_ige d_X11_kinds_40 ⟨by omega, by omega⟩ ⟨by omega, by omega⟩ (fun h40 => ?_) (fun h40 => ?_)
    · skip
      -- to 47 40t@47
      exact L47 _ P (1) _ _ _ _ _ (Nat.lt_succ_self _) hBP (by assumption) (by omega) (by omega) (by rw [kcon_e (by omega)]; unfold kinR; rw [if_pos (by omega)])
    · skip
      refine T_al d_X11_kinds_43 rfl ?_
      refine C_v0 d_X11_kinds_44 rfl (hdF (by decide)) (hcF _) (R_X11_kind hBP hF (by assumption) (by omega) hn4 (by omega) hcm0) (fun r_39 V_40 R_41 qV_40 => ?_)
      obtain ⟨rfl, eV_40, rfl, hBV_40⟩ := qV_40
      -- to 47 40f@47
      exact L47 _ V_40 (401) _ _ _ _ _ (Nat.lt_succ_self _) hBV_40 (by assumption) (by omega) (by omega) (by unfold kinR; rw [if_neg (by omega)]; exact (kds_s (c := 400)).symm)
  exact L32 V_35 hBV_35 (by rw [eV_35, e6, eV0]; exact ps_start V n)
