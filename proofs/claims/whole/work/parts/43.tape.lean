/-! counts, the tape -/
def cntC (V : VV) (w : Int) : Int := if w = 0 then V 2 2 else if w = 1 then V 4 2 else if w = 2 then V 6 2 else if w = 3 then V 8 2 else if w = 4 then V 16 4 else if w = 5 then V 10 2 else if w = 6 then V 12 2 else if w = 7 then V 16 1 else -1
def cntM (V : VV) (w : Int) : Int := if w = 0 then V 99 2 else if w = 1 then V 99 3 else if w = 2 then V 99 4 else if w = 3 then V 99 5 else if w = 4 then V 99 36 else if w = 5 then V 99 6 else if w = 6 then V 99 7 else if w = 7 then V 99 30 else -1
def bS (x s : Int) : Int := i2bZ (ishrZ x s)
def bU (x s : Int) : Int := iandZ (ishrZ x s) 255
theorem i2b_r (x : Int) : -128 ≤ i2bZ x ∧ i2bZ x ≤ 127 := by
  unfold i2bZ
  rw [Int8.toInt_toInt32]
  have h1 := Int8.le_toInt (Int32.ofInt x).toInt8
  have h2 := Int8.toInt_lt (Int32.ofInt x).toInt8
  omega
theorem i2b_r2 (x : Int) : -128 ≤ i2bZ x ∧ i2bZ x < 128 := by have := i2b_r x; omega
theorem i2b_eq (x : Int) : i2bZ x = Int.bmod x 256 := by
  unfold i2bZ
  rw [Int8.toInt_toInt32]
  have : (Int32.ofInt x).toInt8 = Int8.ofInt x := by simp
  rw [this, Int8.toInt_ofInt]
theorem iand_255 (x : Int) : iandZ x 255 = x % 256 := by
  unfold iandZ
  have e1 : (Int32.ofInt x &&& Int32.ofInt 255).toBitVec = (BitVec.ofInt 32 x) &&& 255#32 := rfl
  have e2 : ((BitVec.ofInt 32 x) &&& 255#32).toNat = (BitVec.ofInt 32 x).toNat % 256 := by
    rw [BitVec.toNat_and]
    exact Nat.and_two_pow_sub_one_eq_mod _ 8
  have e3 : (Int32.ofInt x &&& Int32.ofInt 255).toInt = ((BitVec.ofInt 32 x) &&& 255#32).toInt := rfl
  rw [e3, BitVec.toInt_eq_toNat_of_lt (by rw [e2]; have := Nat.mod_lt (BitVec.ofInt 32 x).toNat (show 0 < 256 by decide); omega), e2, BitVec.toNat_ofInt]
  omega
theorem bU_bS (x s : Int) : bU x s = if bS x s < 0 then bS x s + 256 else bS x s := by
  unfold bU bS
  rw [iand_255, i2b_eq]
  have := Int.bmod_def (ishrZ x s) 256
  omega
theorem bU_r (x s : Int) : 0 ≤ bU x s ∧ bU x s ≤ 255 := by
  unfold bU
  rw [iand_255]
  omega
theorem upS {V V' : VV} {a i ix : Nat} {x : Int} {f : Nat → Nat} {s : Nat → Int} (h : ∀ j, j < i → V a (f j) = s j) (e : V' = uV V a ix x) (hi : ix = f i) (hx : x = s i) (hf : ∀ j, j < i → f j ≠ f i) : ∀ j, j < i + 1 → V' a (f j) = s j := by
  intro j hj
  rw [e]
  by_cases q : j = i
  · rw [q, hi, uV_self, hx]
  · rw [uV_ne (fun z => hf j (by omega) (by rw [z.2, hi]))]
    exact h j (by omega)
def five (a b c d e : Int) (j : Nat) : Int := if j = 0 then a else if j = 1 then b else if j = 2 then c else if j = 3 then d else e
def feedQ (V : VV) (R : RR) (a b c d e : Int) : Option AV → VV → RR → Prop := fun r V' R' => R = R' ∧ Bd V' ∧ if 400 < V 99 30 + 20 then r = some (vi (-1)) ∧ V' = V else r = some (vi (V 99 30 + 20)) ∧ V' 99 30 = V 99 30 + 20 ∧ (∀ j : Nat, j < 20 → V' 120 ((V 99 30).toNat + j) = bS (five a b c d e (j / 4)) (24 - 8 * ((j : Int) % 4))) ∧ ∀ k j : Nat, k ≠ 121 → ¬ (k = 99 ∧ j = 30) → ¬ (k = 120 ∧ (V 99 30).toNat ≤ j ∧ j < (V 99 30).toNat + 20) → V' k j = V k j
def pushQ (V : VV) (R : RR) (x : Int) : Option AV → VV → RR → Prop := fun r V' R' => R = R' ∧ Bd V' ∧ r = none ∧ V' 16 1 = V 16 1 + 4 ∧ (∀ j : Nat, j < 4 → V' 17 ((V 16 1).toNat + j) = bU x (24 - 8 * (j : Int))) ∧ ∀ k j : Nat, ¬ (k = 16 ∧ j = 1) → ¬ (k = 17 ∧ (V 16 1).toNat ≤ j ∧ j < (V 16 1).toNat + 4) → V' k j = V k j
def feedC (V : VV) (R : RR) (a b c d e : Int) : Option AV → VV → RR → Prop := fun r V' R' => R = R' ∧ Bd V' ∧ if 400 < V 16 1 + 20 then r = some (vi (-1)) ∧ V' = V else r = some (vi (V 16 1 + 20)) ∧ V' 16 1 = V 16 1 + 20 ∧ (∀ j : Nat, j < 20 → V' 17 ((V 16 1).toNat + j) = bU (five a b c d e (j / 4)) (24 - 8 * ((j : Int) % 4))) ∧ ∀ k j : Nat, ¬ (k = 16 ∧ j = 1) → ¬ (k = 17 ∧ (V 16 1).toNat ≤ j ∧ j < (V 16 1).toNat + 20) → V' k j = V k j
set_option maxHeartbeats 1000000 in
set_option maxRecDepth 100000 in
theorem R_X11_count {G : GG} {V : VV} {R : RR} {w : Int}  (hB : Bd V) (hF : FinR R) (hw : r32 w) : RunsP G M_X11_count 1 [vr 99, vi w] V R (vi (cntM V w)) := by
  unfold RunsP
  refine Runs.of pn_X11 (Nat.le_of_ble_eq_true rfl) rfl ?_
  show TT G M_X11_count (rmd 1 162 162) 162 (Zm G 162 162 (QP V R (vi (cntM V w)))) 162 0 [(0, vr 99), (1, vi w)] [] V R
  obtain ⟨hw1, hw2⟩ := hw
  refine T_il d_X11_count_0 rfl ?_
  by_cases hs1 : w < 0 ∨ 7 < w
  · refine T_swo d_X11_count_1 ⟨by omega, by omega⟩ hs1 (tg := 88) (by decide) ?_
    refine T_k d_X11_count_88 ?_
    -- leaf 1o@89
    exact P_I d_X11_count_89 (by unfold cntM; grind)
  · have hq1 : w = 0 ∨ w = 1 ∨ w = 2 ∨ w = 3 ∨ w = 4 ∨ w = 5 ∨ w = 6 ∨ w = 7 := by omega
    rcases hq1 with e1_0 | e1_1 | e1_2 | e1_3 | e1_4 | e1_5 | e1_6 | e1_7
    · refine T_swi d_X11_count_1 ⟨by omega, by omega⟩ (by omega) (by omega) (tg := 48) (by rw [e1_0]; rfl) ?_
      refine T_al d_X11_count_48 rfl ?_
      refine F_gi d_X11_count_49 rfl hB rfl (fun b_1 => ?_)
      -- leaf 1s0@52
      exact P_I d_X11_count_52 (by unfold cntM; grind)
    · refine T_swi d_X11_count_1 ⟨by omega, by omega⟩ (by omega) (by omega) (tg := 53) (by rw [e1_1]; rfl) ?_
      refine T_al d_X11_count_53 rfl ?_
      refine F_gi d_X11_count_54 rfl hB rfl (fun b_2 => ?_)
      -- leaf 1s1@57
      exact P_I d_X11_count_57 (by unfold cntM; grind)
    · refine T_swi d_X11_count_1 ⟨by omega, by omega⟩ (by omega) (by omega) (tg := 58) (by rw [e1_2]; rfl) ?_
      refine T_al d_X11_count_58 rfl ?_
      refine F_gi d_X11_count_59 rfl hB rfl (fun b_3 => ?_)
      -- leaf 1s2@62
      exact P_I d_X11_count_62 (by unfold cntM; grind)
    · refine T_swi d_X11_count_1 ⟨by omega, by omega⟩ (by omega) (by omega) (tg := 63) (by rw [e1_3]; rfl) ?_
      refine T_al d_X11_count_63 rfl ?_
      refine F_gi d_X11_count_64 rfl hB rfl (fun b_4 => ?_)
      -- leaf 1s3@67
      exact P_I d_X11_count_67 (by unfold cntM; grind)
    · refine T_swi d_X11_count_1 ⟨by omega, by omega⟩ (by omega) (by omega) (tg := 68) (by rw [e1_4]; rfl) ?_
      refine T_al d_X11_count_68 rfl ?_
      refine F_gi d_X11_count_69 rfl hB rfl (fun b_5 => ?_)
      -- leaf 1s4@72
      exact P_I d_X11_count_72 (by unfold cntM; grind)
    · refine T_swi d_X11_count_1 ⟨by omega, by omega⟩ (by omega) (by omega) (tg := 73) (by rw [e1_5]; rfl) ?_
      refine T_al d_X11_count_73 rfl ?_
      refine F_gi d_X11_count_74 rfl hB rfl (fun b_6 => ?_)
      -- leaf 1s5@77
      exact P_I d_X11_count_77 (by unfold cntM; grind)
    · refine T_swi d_X11_count_1 ⟨by omega, by omega⟩ (by omega) (by omega) (tg := 78) (by rw [e1_6]; rfl) ?_
      refine T_al d_X11_count_78 rfl ?_
      refine F_gi d_X11_count_79 rfl hB rfl (fun b_7 => ?_)
      -- leaf 1s6@82
      exact P_I d_X11_count_82 (by unfold cntM; grind)
    · refine T_swi d_X11_count_1 ⟨by omega, by omega⟩ (by omega) (by omega) (tg := 83) (by rw [e1_7]; rfl) ?_
      refine T_al d_X11_count_83 rfl ?_
      refine F_gi d_X11_count_84 rfl hB rfl (fun b_8 => ?_)
      -- leaf 1s7@87
      exact P_I d_X11_count_87 (by unfold cntM; grind)
set_option maxHeartbeats 1000000 in
set_option maxRecDepth 100000 in
theorem R_X10_count {G : GG} {V : VV} {R : RR} {w : Int}  (hB : Bd V) (hF : FinR R) (hw : r32 w) : RunsP G M_X10_count 1 [vr 0, vi w] V R (vi (cntC V w)) := by
  unfold RunsP
  refine Runs.of pn_X10 (Nat.le_of_ble_eq_true rfl) rfl ?_
  show TT G M_X10_count (rmd 1 162 162) 162 (Zm G 162 162 (QP V R (vi (cntC V w)))) 162 0 [(0, vr 0), (1, vi w)] [] V R
  obtain ⟨hw1, hw2⟩ := hw
  refine T_il d_X10_count_0 rfl ?_
  by_cases hs1 : w < 0 ∨ 7 < w
  · refine T_swo d_X10_count_1 ⟨by omega, by omega⟩ hs1 (tg := 130) (by decide) ?_
    refine T_k d_X10_count_130 ?_
    -- leaf 1o@131
    exact P_I d_X10_count_131 (by unfold cntC; grind)
  · have hq1 : w = 0 ∨ w = 1 ∨ w = 2 ∨ w = 3 ∨ w = 4 ∨ w = 5 ∨ w = 6 ∨ w = 7 := by omega
    rcases hq1 with e1_0 | e1_1 | e1_2 | e1_3 | e1_4 | e1_5 | e1_6 | e1_7
    · refine T_swi d_X10_count_1 ⟨by omega, by omega⟩ (by omega) (by omega) (tg := 48) (by rw [e1_0]; rfl) ?_
      refine T_al d_X10_count_48 rfl ?_
      refine F_gr (b := 1) d_X10_count_49 rfl hF rfl ?_
      refine F_gr (b := 2) d_X10_count_52 rfl hF rfl ?_
      refine F_gi d_X10_count_55 rfl hB rfl (fun b_1 => ?_)
      -- leaf 1s0@58
      exact P_I d_X10_count_58 (by unfold cntC; grind)
    · refine T_swi d_X10_count_1 ⟨by omega, by omega⟩ (by omega) (by omega) (tg := 59) (by rw [e1_1]; rfl) ?_
      refine T_al d_X10_count_59 rfl ?_
      refine F_gr (b := 1) d_X10_count_60 rfl hF rfl ?_
      refine F_gr (b := 4) d_X10_count_63 rfl hF rfl ?_
      refine F_gi d_X10_count_66 rfl hB rfl (fun b_2 => ?_)
      -- leaf 1s1@69
      exact P_I d_X10_count_69 (by unfold cntC; grind)
    · refine T_swi d_X10_count_1 ⟨by omega, by omega⟩ (by omega) (by omega) (tg := 70) (by rw [e1_2]; rfl) ?_
      refine T_al d_X10_count_70 rfl ?_
      refine F_gr (b := 1) d_X10_count_71 rfl hF rfl ?_
      refine F_gr (b := 6) d_X10_count_74 rfl hF rfl ?_
      refine F_gi d_X10_count_77 rfl hB rfl (fun b_3 => ?_)
      -- leaf 1s2@80
      exact P_I d_X10_count_80 (by unfold cntC; grind)
    · refine T_swi d_X10_count_1 ⟨by omega, by omega⟩ (by omega) (by omega) (tg := 81) (by rw [e1_3]; rfl) ?_
      refine T_al d_X10_count_81 rfl ?_
      refine F_gr (b := 1) d_X10_count_82 rfl hF rfl ?_
      refine F_gr (b := 8) d_X10_count_85 rfl hF rfl ?_
      refine F_gi d_X10_count_88 rfl hB rfl (fun b_4 => ?_)
      -- leaf 1s3@91
      exact P_I d_X10_count_91 (by unfold cntC; grind)
    · refine T_swi d_X10_count_1 ⟨by omega, by omega⟩ (by omega) (by omega) (tg := 92) (by rw [e1_4]; rfl) ?_
      refine T_al d_X10_count_92 rfl ?_
      refine F_gr (b := 16) d_X10_count_93 rfl hF rfl ?_
      refine F_gi d_X10_count_96 rfl hB rfl (fun b_5 => ?_)
      -- leaf 1s4@99
      exact P_I d_X10_count_99 (by unfold cntC; grind)
    · refine T_swi d_X10_count_1 ⟨by omega, by omega⟩ (by omega) (by omega) (tg := 100) (by rw [e1_5]; rfl) ?_
      refine T_al d_X10_count_100 rfl ?_
      refine F_gr (b := 1) d_X10_count_101 rfl hF rfl ?_
      refine F_gr (b := 10) d_X10_count_104 rfl hF rfl ?_
      refine F_gi d_X10_count_107 rfl hB rfl (fun b_6 => ?_)
      -- leaf 1s5@110
      exact P_I d_X10_count_110 (by unfold cntC; grind)
    · refine T_swi d_X10_count_1 ⟨by omega, by omega⟩ (by omega) (by omega) (tg := 111) (by rw [e1_6]; rfl) ?_
      refine T_al d_X10_count_111 rfl ?_
      refine F_gr (b := 1) d_X10_count_112 rfl hF rfl ?_
      refine F_gr (b := 12) d_X10_count_115 rfl hF rfl ?_
      refine F_gi d_X10_count_118 rfl hB rfl (fun b_7 => ?_)
      -- leaf 1s6@121
      exact P_I d_X10_count_121 (by unfold cntC; grind)
    · refine T_swi d_X10_count_1 ⟨by omega, by omega⟩ (by omega) (by omega) (tg := 122) (by rw [e1_7]; rfl) ?_
      refine T_al d_X10_count_122 rfl ?_
      refine F_gr (b := 16) d_X10_count_123 rfl hF rfl ?_
      refine F_gi d_X10_count_126 rfl hB rfl (fun b_8 => ?_)
      -- leaf 1s7@129
      exact P_I d_X10_count_129 (by unfold cntC; grind)
set_option maxHeartbeats 1000000 in
set_option maxRecDepth 100000 in
theorem R_X11_status {G : GG} {V : VV} {R : RR}   (hB : Bd V) (hF : FinR R) : RunsP G M_X11_status 1 [vr 99] V R (vi (V 99 0)) := by
  unfold RunsP
  refine Runs.of pn_X11 (Nat.le_of_ble_eq_true rfl) rfl ?_
  show TT G M_X11_status (rmd 1 162 162) 162 (Zm G 162 162 (QP V R (vi (V 99 0)))) 162 0 [(0, vr 99)] [] V R
  refine T_al d_X11_status_0 rfl ?_
  refine F_gi d_X11_status_1 rfl hB rfl (fun b_1 => ?_)
  -- leaf @4
  exact P_I d_X11_status_4 (by first | omega | grind)
set_option maxHeartbeats 1000000 in
set_option maxRecDepth 100000 in
theorem R_X10_status {G : GG} {V : VV} {R : RR}   (hB : Bd V) (hF : FinR R) : RunsP G M_X10_status 1 [vr 0] V R (vi (V 0 3)) := by
  unfold RunsP
  refine Runs.of pn_X10 (Nat.le_of_ble_eq_true rfl) rfl ?_
  show TT G M_X10_status (rmd 1 162 162) 162 (Zm G 162 162 (QP V R (vi (V 0 3)))) 162 0 [(0, vr 0)] [] V R
  refine T_al d_X10_status_0 rfl ?_
  refine F_gi d_X10_status_1 rfl hB rfl (fun b_1 => ?_)
  -- leaf @4
  exact P_I d_X10_status_4 (by first | omega | grind)
set_option maxHeartbeats 1000000 in
set_option maxRecDepth 100000 in
theorem R_X11_fault {G : GG} {V : VV} {R : RR}   (hB : Bd V) (hF : FinR R) : RunsP G M_X11_fault 1 [vr 99] V R (vi (V 99 34)) := by
  unfold RunsP
  refine Runs.of pn_X11 (Nat.le_of_ble_eq_true rfl) rfl ?_
  show TT G M_X11_fault (rmd 1 162 162) 162 (Zm G 162 162 (QP V R (vi (V 99 34)))) 162 0 [(0, vr 99)] [] V R
  refine T_al d_X11_fault_0 rfl ?_
  refine F_gi d_X11_fault_1 rfl hB rfl (fun b_1 => ?_)
  -- leaf @4
  exact P_I d_X11_fault_4 (by first | omega | grind)
set_option maxHeartbeats 1000000 in
set_option maxRecDepth 100000 in
theorem R_X10_fault {G : GG} {V : VV} {R : RR}   (hB : Bd V) (hF : FinR R) : RunsP G M_X10_fault 1 [vr 0] V R (vi (V 16 5)) := by
  unfold RunsP
  refine Runs.of pn_X10 (Nat.le_of_ble_eq_true rfl) rfl ?_
  show TT G M_X10_fault (rmd 1 162 162) 162 (Zm G 162 162 (QP V R (vi (V 16 5)))) 162 0 [(0, vr 0)] [] V R
  refine T_al d_X10_fault_0 rfl ?_
  refine F_gr (b := 16) d_X10_fault_1 rfl hF rfl ?_
  refine F_gi d_X10_fault_4 rfl hB rfl (fun b_1 => ?_)
  -- leaf @7
  exact P_I d_X10_fault_7 (by first | omega | grind)
set_option maxHeartbeats 1000000 in
set_option maxRecDepth 100000 in
theorem R_X11_end {G : GG} {V : VV} {R : RR} {n : Int}  (hB : Bd V) (hF : FinR R) (hn : r32 n) : Runs G M_X11_end 2 162 162 [vr 99, vi n] V R (QV R (if 0 ≤ n ∧ n ≤ V 99 30 then n else -1) (if 0 ≤ n ∧ n ≤ V 99 30 then uV V 99 30 n else V)) := by
  refine Runs.of pn_X11 (Nat.le_of_ble_eq_true rfl) rfl ?_
  show TT G M_X11_end (rmd 2 162 162) 162 (Zm G 162 162 (QV R (if 0 ≤ n ∧ n ≤ V 99 30 then n else -1) (if 0 ≤ n ∧ n ≤ V 99 30 then uV V 99 30 n else V))) 162 0 [(0, vr 99), (1, vi n)] [] V R
  obtain ⟨hn1, hn2⟩ := hn
  refine T_il d_X11_end_0 rfl ?_
  refine T_k d_X11_end_1 ?_
  refine T_al d_X11_end_2 rfl ?_
  refine F_gi d_X11_end_3 rfl hB rfl (fun b_1 => ?_)
  refine C_ps3 d_X11_end_6 (hdF (by decide)) (hcF _) (R_X11_in (by first | assumption | omega | exact ⟨by omega, by omega⟩ | (subst_vars; simp_all [uV]; done) | grind [uV]) (by first | assumption | omega | exact ⟨by omega, by omega⟩ | (subst_vars; simp_all [uV]; done) | grind [uV]) (by first | assumption | omega | exact ⟨by omega, by omega⟩ | (subst_vars; simp_all [uV]; done) | grind [uV])) ?_
  refine T_pz1 d_X11_end_9 (fun h9 => ?_) (fun h9 => ?_)
  · skip
    refine T_al d_X11_end_14 rfl ?_
    refine T_il d_X11_end_15 rfl ?_
    refine F_pi d_X11_end_16 rfl hB rfl ⟨by omega, by omega⟩ (fun V_2 eV_2 hBV_2 => ?_)
    refine T_il d_X11_end_19 rfl ?_
    -- leaf 9t@20
    refine T_iret d_X11_end_20 rfl ?_
    refine ⟨?_, ?_, rfl, hBV_2⟩ <;> (subst_vars; grind)
  · skip
    refine T_k d_X11_end_12 ?_
    -- leaf 9f@13
    refine T_iret d_X11_end_13 rfl ?_
    refine ⟨?_, ?_, rfl, hB⟩ <;> (subst_vars; grind)
set_option maxHeartbeats 1000000 in
set_option maxRecDepth 100000 in
theorem R_X10_end {G : GG} {V : VV} {R : RR} {n : Int}  (hB : Bd V) (hF : FinR R) (hn : r32 n) : Runs G M_X10_end 2 162 162 [vr 0, vi n] V R (QV R (if 0 ≤ n ∧ n ≤ V 16 1 then n else -1) (if 0 ≤ n ∧ n ≤ V 16 1 then uV V 16 1 n else V)) := by
  refine Runs.of pn_X10 (Nat.le_of_ble_eq_true rfl) rfl ?_
  show TT G M_X10_end (rmd 2 162 162) 162 (Zm G 162 162 (QV R (if 0 ≤ n ∧ n ≤ V 16 1 then n else -1) (if 0 ≤ n ∧ n ≤ V 16 1 then uV V 16 1 n else V))) 162 0 [(0, vr 0), (1, vi n)] [] V R
  obtain ⟨hn1, hn2⟩ := hn
  refine T_il d_X10_end_0 rfl ?_
  refine T_zlt d_X10_end_1 ⟨by omega, by omega⟩ (fun h1 => ?_) (fun h1 => ?_)
  · skip
    refine T_k d_X10_end_15 ?_
    -- leaf 1t@16
    refine T_iret d_X10_end_16 rfl ?_
    refine ⟨?_, ?_, rfl, hB⟩ <;> (subst_vars; grind)
  · skip
    refine T_il d_X10_end_4 rfl ?_
    refine T_al d_X10_end_5 rfl ?_
    refine F_gr (b := 16) d_X10_end_6 rfl hF rfl ?_
    refine F_gi d_X10_end_9 rfl hB rfl (fun b_1 => ?_)
    refine T_ile d_X10_end_12 ⟨by omega, by omega⟩ ⟨by omega, by omega⟩ (fun h12 => ?_) (fun h12 => ?_)
    · skip
      refine T_al d_X10_end_17 rfl ?_
      refine F_gr (b := 16) d_X10_end_18 rfl hF rfl ?_
      refine T_il d_X10_end_21 rfl ?_
      refine F_pi d_X10_end_22 rfl hB rfl ⟨by omega, by omega⟩ (fun V_2 eV_2 hBV_2 => ?_)
      refine T_il d_X10_end_25 rfl ?_
      -- leaf 1f.12t@26
      refine T_iret d_X10_end_26 rfl ?_
      refine ⟨?_, ?_, rfl, hBV_2⟩ <;> (subst_vars; grind)
    · skip
      refine T_k d_X10_end_15 ?_
      -- leaf 1f.12f@16
      refine T_iret d_X10_end_16 rfl ?_
      refine ⟨?_, ?_, rfl, hB⟩ <;> (subst_vars; grind)
set_option maxHeartbeats 1000000 in
set_option maxRecDepth 100000 in
theorem R_X11_feed {G : GG} {V : VV} {R : RR} {a : Int} {b : Int} {c : Int} {d : Int} {e : Int}  (hB : Bd V) (hF : FinR R) : Runs G M_X11_feed 1 162 162 [vr 99, vi a, vi b, vi c, vi d, vi e] V R (feedQ V R a b c d e) := by
  refine Runs.of pn_X11 (Nat.le_of_ble_eq_true rfl) rfl ?_
  show TT G M_X11_feed (rmd 1 162 162) 162 (Zm G 162 162 (feedQ V R a b c d e)) 162 0 [(0, vr 99), (1, vi a), (2, vi b), (3, vi c), (4, vi d), (5, vi e)] [] V R
  refine T_al d_X11_feed_0 rfl ?_
  refine F_gi d_X11_feed_1 rfl hB rfl (fun b_1 => ?_)
  refine T_k d_X11_feed_4 ?_
  refine T_iadd d_X11_feed_6 ?_
  refine T_k d_X11_feed_7 ?_
  refine T_ile d_X11_feed_10 ⟨by omega, by omega⟩ ⟨by omega, by omega⟩ (fun h10 => ?_) (fun h10 => ?_)
  · skip
    refine T_al d_X11_feed_15 rfl ?_
    refine F_gr (b := 121) d_X11_feed_16 rfl hF rfl ?_
    refine T_k d_X11_feed_19 ?_
    refine T_il d_X11_feed_20 rfl ?_
    refine F_isn d_X11_feed_21 rfl hB rfl ⟨by omega, by omega⟩ (fun V_2 eV_2 hBV_2 => ?_)
    refine T_al d_X11_feed_22 rfl ?_
    refine F_gr (b := 121) d_X11_feed_23 rfl hF rfl ?_
    refine T_k d_X11_feed_26 ?_
    refine T_il d_X11_feed_27 rfl ?_
    refine F_isn d_X11_feed_28 rfl hBV_2 rfl ⟨by omega, by omega⟩ (fun V_3 eV_3 hBV_3 => ?_)
    refine T_al d_X11_feed_29 rfl ?_
    refine F_gr (b := 121) d_X11_feed_30 rfl hF rfl ?_
    refine T_k d_X11_feed_33 ?_
    refine T_il d_X11_feed_34 rfl ?_
    refine F_isn d_X11_feed_35 rfl hBV_3 rfl ⟨by omega, by omega⟩ (fun V_4 eV_4 hBV_4 => ?_)
    refine T_al d_X11_feed_36 rfl ?_
    refine F_gr (b := 121) d_X11_feed_37 rfl hF rfl ?_
    refine T_k d_X11_feed_40 ?_
    refine T_il d_X11_feed_41 rfl ?_
    refine F_isn d_X11_feed_43 rfl hBV_4 rfl ⟨by omega, by omega⟩ (fun V_5 eV_5 hBV_5 => ?_)
    refine T_al d_X11_feed_44 rfl ?_
    refine F_gr (b := 121) d_X11_feed_45 rfl hF rfl ?_
    refine T_k d_X11_feed_48 ?_
    refine T_il d_X11_feed_49 rfl ?_
    refine F_isn d_X11_feed_51 rfl hBV_5 rfl ⟨by omega, by omega⟩ (fun V_6 eV_6 hBV_6 => ?_)
    refine T_k d_X11_feed_52 ?_
    refine T_is d_X11_feed_53 (ls' := [(0, vr 99), (1, vi a), (2, vi b), (3, vi c), (4, vi d), (5, vi e), (6, vi 0)]) rfl ?_
    -- to 55 10t@55
    have L55 : ∀ (fu : Nat) (W : VV) (i : Nat), 20 - i < fu → (Bd W) → (i ≤ 20) → (W 99 30 = V 99 30) → (∀ j : Nat, j < 5 → W 121 j = five a b c d e j) → (∀ j : Nat, j < i → W 120 ((V 99 30).toNat + j) = bS (five a b c d e (j / 4)) (24 - 8 * ((j : Int) % 4))) → (∀ k j : Nat, k ≠ 121 → ¬ (k = 120 ∧ (V 99 30).toNat ≤ j ∧ j < (V 99 30).toNat + i) → W k j = V k j) → TT G M_X11_feed (rmd 1 162 162) 162 (Zm G 162 162 (feedQ V R a b c d e)) 162 55 [(0, vr 99), (1, vi a), (2, vi b), (3, vi c), (4, vi d), (5, vi e), (6, vi (i : Int))] [] W R := by
      intro fu
      induction fu with
      | zero => intro W i hm; exact absurd hm (Nat.not_lt_zero _)
      | succ fu ih55 =>
        intro W i hm55 hBW hi ht hf hw hk
        refine T_il d_X11_feed_55 rfl ?_
        refine T_k d_X11_feed_57 ?_
        refine T_ige d_X11_feed_59 ⟨by omega, by omega⟩ ⟨by omega, by omega⟩ (fun h59 => ?_) (fun h59 => ?_)
        · skip
          refine T_al d_X11_feed_101 rfl ?_
          refine T_dup d_X11_feed_102 rfl ?_
          refine F_gi d_X11_feed_103 rfl hBW rfl (fun b_7 => ?_)
          refine T_k d_X11_feed_106 ?_
          refine T_iadd d_X11_feed_108 ?_
          refine F_pi d_X11_feed_109 rfl hBW rfl ⟨by omega, by omega⟩ (fun V_8 eV_8 hBV_8 => ?_)
          refine T_al d_X11_feed_112 rfl ?_
          refine F_gi d_X11_feed_113 rfl hBV_8 rfl (fun b_9 => ?_)
          have gV_8_99_30 := (congrFun (congrFun eV_8 99) 30).trans uV_self
          -- leaf 59t@116
          refine T_iret d_X11_feed_116 rfl ?_
          refine ⟨rfl, hBV_8, ?_⟩
          rw [if_neg (by omega)]
          subst_vars
          refine ⟨?_, ?_, ?_, ?_⟩
          · simp only [uV]; simp [ht]
          · simp only [uV]; simp [ht]
          · intro j hj
            have := hw j (by omega)
            rw [uV_ne (by omega)]; exact this
          · intro k j h1 h2 h3
            rw [uV_ne (by omega)]
            exact hk k j h1 (by omega)
        · skip
          refine T_al d_X11_feed_62 rfl ?_
          refine F_gr (b := 120) d_X11_feed_63 rfl hF rfl ?_
          refine T_al d_X11_feed_66 rfl ?_
          refine F_gi d_X11_feed_67 rfl hBW rfl (fun b_10 => ?_)
          refine T_il d_X11_feed_70 rfl ?_
          refine T_iadd d_X11_feed_72 ?_
          refine T_al d_X11_feed_73 rfl ?_
          refine F_gr (b := 121) d_X11_feed_74 rfl hF rfl ?_
          refine T_il d_X11_feed_77 rfl ?_
          refine T_k d_X11_feed_79 ?_
          refine T_idiv d_X11_feed_80 ⟨by omega, by omega⟩ ⟨by omega, by omega⟩ ?_
          refine F_ian d_X11_feed_81 rfl ⟨by omega, by omega⟩ ?_
          refine T_k d_X11_feed_82 ?_
          refine T_k d_X11_feed_84 ?_
          refine T_il d_X11_feed_86 rfl ?_
          refine T_k d_X11_feed_88 ?_
          refine T_irem d_X11_feed_89 ⟨by omega, by omega⟩ ⟨by omega, by omega⟩ ?_
          refine T_imul d_X11_feed_90 ?_
          refine T_isub d_X11_feed_91 ?_
          refine T_ishr d_X11_feed_92 ?_
          refine T_i2b d_X11_feed_93 ?_
          refine F_bs d_X11_feed_94 rfl hBW rfl ⟨by omega, by omega⟩ (i2b_r _) (i2b_r2 _) (fun V_11 eV_11 hBV_11 => ?_)
          refine F_incg d_X11_feed_95 rfl (f := fun x_12 => [(0, vr 99), (1, vi a), (2, vi b), (3, vi c), (4, vi d), (5, vi e), (6, vi x_12)]) (fun _ => rfl) (fun x_12 ex_12 => ?_)
          refine T_go d_X11_feed_98 ?_
          -- to 55 59f@55
          obtain rfl : x_12 = ((i + 1) : Int) := by omega
          exact ih55 V_11 (i + 1) (by omega) hBV_11 (by first | assumption | omega) (by rw [eV_11, uV_ne (by omega)]; exact ht) (by intro j hj; rw [eV_11, uV_ne (by omega)]; exact hf j hj) (upS hw eV_11 (by omega) (by rw [hf _ (by omega), show ((i : Int) / 4).toNat = i / 4 by omega]; rfl) (by intro j hj; omega)) (by intro k j h1 h2; rw [eV_11, uV_ne (by omega)]; exact hk k j h1 (by omega))
    exact L55 _ V_6 (0) (Nat.lt_succ_self _) hBV_6 (by first | assumption | omega) (by subst_vars; rfl) (by intro j hj; subst_vars; rcases (show j = 0 ∨ j = 1 ∨ j = 2 ∨ j = 3 ∨ j = 4 by omega) with rfl | rfl | rfl | rfl | rfl <;> rfl) (by intro j hj; omega) (by intro k j h1 _; subst_vars; simp [uV, h1])
  · skip
    refine T_k d_X11_feed_13 ?_
    -- leaf 10f@14
    refine T_iret d_X11_feed_14 rfl ?_
    refine ⟨rfl, hB, ?_⟩
    rw [if_pos (by omega)]
    exact ⟨rfl, rfl⟩
set_option maxHeartbeats 1000000 in
set_option maxRecDepth 100000 in
theorem R_X4_push {G : GG} {V : VV} {R : RR} {x : Int}  (hB : Bd V) (hF : FinR R) (hx : r32 x) (hl : V 16 1 ≤ 396) : Runs G M_X4_push 1 162 162 [vr 16, vi x] V R (pushQ V R x) := by
  refine Runs.of pn_X4 (Nat.le_of_ble_eq_true rfl) rfl ?_
  show TT G M_X4_push (rmd 1 162 162) 162 (Zm G 162 162 (pushQ V R x)) 162 0 [(0, vr 16), (1, vi x)] [] V R
  obtain ⟨hx1, hx2⟩ := hx
  have hb0 := hB.2 16 4 1 0 400 rfl rfl
  refine T_k d_X4_push_0 ?_
  refine T_is d_X4_push_2 (ls' := [(0, vr 16), (1, vi x), (2, vi 24)]) rfl ?_
  -- to 3 @3
  have L3 : ∀ (fu : Nat) (W : VV) (i : Nat), 4 - i < fu → (Bd W) → (i ≤ 4) → (W 16 1 = V 16 1 + i) → (∀ j : Nat, j < i → W 17 ((V 16 1).toNat + j) = bU x (24 - 8 * (j : Int))) → (∀ k j : Nat, ¬ (k = 16 ∧ j = 1) → ¬ (k = 17 ∧ (V 16 1).toNat ≤ j ∧ j < (V 16 1).toNat + i) → W k j = V k j) → TT G M_X4_push (rmd 1 162 162) 162 (Zm G 162 162 (pushQ V R x)) 162 3 [(0, vr 16), (1, vi x), (2, vi (24 - 8 * (i : Int)))] [] W R := by
    intro fu
    induction fu with
    | zero => intro W i hm; exact absurd hm (Nat.not_lt_zero _)
    | succ fu ih3 =>
      intro W i hm3 hBW hi ht hw hk
      refine T_il d_X4_push_3 rfl ?_
      refine T_zlt d_X4_push_4 ⟨by omega, by omega⟩ (fun h4 => ?_) (fun h4 => ?_)
      · skip
        -- leaf 4t@49
        refine T_vret d_X4_push_49 rfl ?_
        refine ⟨rfl, hBW, rfl, ?_, ?_, ?_⟩
        · omega
        · intro j hj; exact hw j (by omega)
        · intro k j h1 h2; exact hk k j h1 (by omega)
      · skip
        refine T_al d_X4_push_7 rfl ?_
        refine F_gi d_X4_push_8 rfl hBW rfl (fun b_1 => ?_)
        refine T_k d_X4_push_11 ?_
        refine T_ige d_X4_push_14 ⟨by omega, by omega⟩ ⟨by omega, by omega⟩ (fun h14 => ?_) (fun h14 => ?_)
        · skip
          refine F_incg d_X4_push_43 rfl (f := fun x_2 => [(0, vr 16), (1, vi x), (2, vi x_2)]) (fun _ => rfl) (fun x_2 ex_2 => ?_)
          refine T_go d_X4_push_46 ?_
          -- to 3 4f.14t@3
          obtain rfl : x_2 = (24 - 8 * ((i + 1) : Int)) := by omega
          exact ih3 W (i + 1) (by omega) hBW (by first | assumption | omega) (by first | assumption | omega) (by first | assumption | omega) (by first | assumption | omega)
        · skip
          refine T_al d_X4_push_17 rfl ?_
          refine F_gr (b := 17) d_X4_push_18 rfl hF rfl ?_
          refine T_al d_X4_push_21 rfl ?_
          refine F_gi d_X4_push_22 rfl hBW rfl (fun b_3 => ?_)
          refine T_il d_X4_push_25 rfl ?_
          refine T_il d_X4_push_26 rfl ?_
          refine T_ishr d_X4_push_27 ?_
          refine T_k d_X4_push_28 ?_
          refine T_iand d_X4_push_31 ?_
          refine F_is d_X4_push_32 rfl hBW rfl ⟨by omega, by omega⟩ (bU_r _ _) (fun V_4 eV_4 hBV_4 => ?_)
          refine T_al d_X4_push_33 rfl ?_
          refine T_dup d_X4_push_34 rfl ?_
          refine F_gi d_X4_push_35 rfl hBV_4 rfl (fun b_5 => ?_)
          have fV_4_16_1 : V_4 16 1 = W 16 1 := by rw [eV_4]; rfl
          refine T_k d_X4_push_38 ?_
          refine T_iadd d_X4_push_39 ?_
          refine F_pi d_X4_push_40 rfl hBV_4 rfl ⟨by omega, by omega⟩ (fun V_6 eV_6 hBV_6 => ?_)
          refine F_incg d_X4_push_43 rfl (f := fun x_7 => [(0, vr 16), (1, vi x), (2, vi x_7)]) (fun _ => rfl) (fun x_7 ex_7 => ?_)
          refine T_go d_X4_push_46 ?_
          -- to 3 4f.14f@3
          have e5 := congrFun (congrFun eV_6 16) 1
          obtain rfl : x_7 = (24 - 8 * ((i + 1) : Int)) := by omega
          exact ih3 V_6 (i + 1) (by omega) hBV_6 (by first | assumption | omega) (by grind [uV]) (fun j hj => by rw [eV_6, uV_ne (by omega)]; exact upS hw eV_4 (by omega) rfl (by intro j hj; omega) j hj) (by intro k j h1 h2; rw [eV_6, uV_ne h1, eV_4, uV_ne (by omega)]; exact hk k j h1 (by omega))
  exact L3 _ V (0) (Nat.lt_succ_self _) hB (by first | assumption | omega) (by simp) (by intro j hj; omega) (by intro k j _ _; rfl)
set_option maxHeartbeats 1000000 in
set_option maxRecDepth 100000 in
theorem R_X10_feed {G : GG} {V : VV} {R : RR} {a : Int} {b : Int} {c : Int} {d : Int} {e : Int}  (hB : Bd V) (hF : FinR R) (ha : r32 a) (hb : r32 b) (hc : r32 c) (hd : r32 d) (he : r32 e) : Runs G M_X10_feed 3 162 162 [vr 0, vi a, vi b, vi c, vi d, vi e] V R (feedC V R a b c d e) := by
  refine Runs.of pn_X10 (Nat.le_of_ble_eq_true rfl) rfl ?_
  show TT G M_X10_feed (rmd 3 162 162) 162 (Zm G 162 162 (feedC V R a b c d e)) 162 0 [(0, vr 0), (1, vi a), (2, vi b), (3, vi c), (4, vi d), (5, vi e)] [] V R
  obtain ⟨ha1, ha2⟩ := ha
  obtain ⟨hb1, hb2⟩ := hb
  obtain ⟨hc1, hc2⟩ := hc
  obtain ⟨hd1, hd2⟩ := hd
  obtain ⟨he1, he2⟩ := he
  have hb0 := hB.2 16 4 1 0 400 rfl rfl
  refine T_al d_X10_feed_0 rfl ?_
  refine F_gr (b := 16) d_X10_feed_1 rfl hF rfl ?_
  refine F_gi d_X10_feed_4 rfl hB rfl (fun b_1 => ?_)
  refine T_k d_X10_feed_7 ?_
  refine T_iadd d_X10_feed_9 ?_
  refine T_k d_X10_feed_10 ?_
  refine T_ile d_X10_feed_13 ⟨by omega, by omega⟩ ⟨by omega, by omega⟩ (fun h13 => ?_) (fun h13 => ?_)
  · skip
    refine T_al d_X10_feed_18 rfl ?_
    refine F_gr (b := 16) d_X10_feed_19 rfl hF rfl ?_
    refine T_il d_X10_feed_22 rfl ?_
    refine C_v1 d_X10_feed_23 rfl (hdF (by decide)) (hcF _) (R_X4_push (by first | assumption | omega | exact ⟨by omega, by omega⟩ | (subst_vars; simp_all [uV]; done) | grind [uV]) (by first | assumption | omega | exact ⟨by omega, by omega⟩ | (subst_vars; simp_all [uV]; done) | grind [uV]) (by first | assumption | omega | exact ⟨by omega, by omega⟩ | (subst_vars; simp_all [uV]; done) | grind [uV]) (by first | assumption | omega | exact ⟨by omega, by omega⟩ | (subst_vars; simp_all [uV]; done) | grind [uV])) (fun r_2 V_3 R_4 qV_3 => ?_)
    obtain ⟨rfl, hBV_3, rfl, hpV_31, hpV_32, hpV_33⟩ := qV_3
    refine T_al d_X10_feed_26 rfl ?_
    refine F_gr (b := 16) d_X10_feed_27 rfl hF rfl ?_
    refine T_il d_X10_feed_30 rfl ?_
    refine C_v1 d_X10_feed_31 rfl (hdF (by decide)) (hcF _) (R_X4_push (by first | assumption | omega | exact ⟨by omega, by omega⟩ | (subst_vars; simp_all [uV]; done) | grind [uV]) (by first | assumption | omega | exact ⟨by omega, by omega⟩ | (subst_vars; simp_all [uV]; done) | grind [uV]) (by first | assumption | omega | exact ⟨by omega, by omega⟩ | (subst_vars; simp_all [uV]; done) | grind [uV]) (by first | assumption | omega | exact ⟨by omega, by omega⟩ | (subst_vars; simp_all [uV]; done) | grind [uV])) (fun r_5 V_6 R_7 qV_6 => ?_)
    obtain ⟨rfl, hBV_6, rfl, hpV_61, hpV_62, hpV_63⟩ := qV_6
    refine T_al d_X10_feed_34 rfl ?_
    refine F_gr (b := 16) d_X10_feed_35 rfl hF rfl ?_
    refine T_il d_X10_feed_38 rfl ?_
    refine C_v1 d_X10_feed_39 rfl (hdF (by decide)) (hcF _) (R_X4_push (by first | assumption | omega | exact ⟨by omega, by omega⟩ | (subst_vars; simp_all [uV]; done) | grind [uV]) (by first | assumption | omega | exact ⟨by omega, by omega⟩ | (subst_vars; simp_all [uV]; done) | grind [uV]) (by first | assumption | omega | exact ⟨by omega, by omega⟩ | (subst_vars; simp_all [uV]; done) | grind [uV]) (by first | assumption | omega | exact ⟨by omega, by omega⟩ | (subst_vars; simp_all [uV]; done) | grind [uV])) (fun r_8 V_9 R_10 qV_9 => ?_)
    obtain ⟨rfl, hBV_9, rfl, hpV_91, hpV_92, hpV_93⟩ := qV_9
    refine T_al d_X10_feed_42 rfl ?_
    refine F_gr (b := 16) d_X10_feed_43 rfl hF rfl ?_
    refine T_il d_X10_feed_46 rfl ?_
    refine C_v1 d_X10_feed_48 rfl (hdF (by decide)) (hcF _) (R_X4_push (by first | assumption | omega | exact ⟨by omega, by omega⟩ | (subst_vars; simp_all [uV]; done) | grind [uV]) (by first | assumption | omega | exact ⟨by omega, by omega⟩ | (subst_vars; simp_all [uV]; done) | grind [uV]) (by first | assumption | omega | exact ⟨by omega, by omega⟩ | (subst_vars; simp_all [uV]; done) | grind [uV]) (by first | assumption | omega | exact ⟨by omega, by omega⟩ | (subst_vars; simp_all [uV]; done) | grind [uV])) (fun r_11 V_12 R_13 qV_12 => ?_)
    obtain ⟨rfl, hBV_12, rfl, hpV_121, hpV_122, hpV_123⟩ := qV_12
    refine T_al d_X10_feed_51 rfl ?_
    refine F_gr (b := 16) d_X10_feed_52 rfl hF rfl ?_
    refine T_il d_X10_feed_55 rfl ?_
    refine C_v1 d_X10_feed_57 rfl (hdF (by decide)) (hcF _) (R_X4_push (by first | assumption | omega | exact ⟨by omega, by omega⟩ | (subst_vars; simp_all [uV]; done) | grind [uV]) (by first | assumption | omega | exact ⟨by omega, by omega⟩ | (subst_vars; simp_all [uV]; done) | grind [uV]) (by first | assumption | omega | exact ⟨by omega, by omega⟩ | (subst_vars; simp_all [uV]; done) | grind [uV]) (by first | assumption | omega | exact ⟨by omega, by omega⟩ | (subst_vars; simp_all [uV]; done) | grind [uV])) (fun r_14 V_15 R_16 qV_15 => ?_)
    obtain ⟨rfl, hBV_15, rfl, hpV_151, hpV_152, hpV_153⟩ := qV_15
    refine T_al d_X10_feed_60 rfl ?_
    refine F_gr (b := 16) d_X10_feed_61 rfl hF rfl ?_
    refine F_gi d_X10_feed_64 rfl hBV_15 rfl (fun b_17 => ?_)
    -- leaf 13t@67
    refine T_iret d_X10_feed_67 rfl ?_
    refine ⟨rfl, hBV_15, ?_⟩
    rw [if_neg (by omega)]
    refine ⟨?_, ?_, ?_, ?_⟩
    · rw [show V_15 16 1 = V 16 1 + 20 by omega]
    · omega
    · intro j hj
      have e3 : (V_3 16 1).toNat = (V 16 1).toNat + 4 := by omega
      have e6 : (V_6 16 1).toNat = (V 16 1).toNat + 8 := by omega
      have e9 : (V_9 16 1).toNat = (V 16 1).toNat + 12 := by omega
      have e12 : (V_12 16 1).toNat = (V 16 1).toNat + 16 := by omega
      rw [e3] at hpV_62 hpV_63
      rw [e6] at hpV_92 hpV_93
      rw [e9] at hpV_122 hpV_123
      rw [e12] at hpV_152 hpV_153
      rcases (show j < 4 ∨ (4 ≤ j ∧ j < 8) ∨ (8 ≤ j ∧ j < 12) ∨ (12 ≤ j ∧ j < 16) ∨ (16 ≤ j ∧ j < 20) by omega) with h | h | h | h | h
      · rw [hpV_153 17 _ (by omega) (by omega), hpV_123 17 _ (by omega) (by omega), hpV_93 17 _ (by omega) (by omega), hpV_63 17 _ (by omega) (by omega), hpV_32 j h, show j / 4 = 0 by omega, show (j : Int) % 4 = j by omega]
        rfl
      · rw [hpV_153 17 _ (by omega) (by omega), hpV_123 17 _ (by omega) (by omega), hpV_93 17 _ (by omega) (by omega), show (V 16 1).toNat + j = (V 16 1).toNat + 4 + (j - 4) by omega, hpV_62 (j - 4) (by omega), show j / 4 = 1 by omega, show (j : Int) % 4 = ((j - 4 : Nat) : Int) by omega]
        rfl
      · rw [hpV_153 17 _ (by omega) (by omega), hpV_123 17 _ (by omega) (by omega), show (V 16 1).toNat + j = (V 16 1).toNat + 8 + (j - 8) by omega, hpV_92 (j - 8) (by omega), show j / 4 = 2 by omega, show (j : Int) % 4 = ((j - 8 : Nat) : Int) by omega]
        rfl
      · rw [hpV_153 17 _ (by omega) (by omega), show (V 16 1).toNat + j = (V 16 1).toNat + 12 + (j - 12) by omega, hpV_122 (j - 12) (by omega), show j / 4 = 3 by omega, show (j : Int) % 4 = ((j - 12 : Nat) : Int) by omega]
        rfl
      · rw [show (V 16 1).toNat + j = (V 16 1).toNat + 16 + (j - 16) by omega, hpV_152 (j - 16) (by omega), show j / 4 = 4 by omega, show (j : Int) % 4 = ((j - 16 : Nat) : Int) by omega]
        rfl
    · intro k j h1 h2
      rw [hpV_153 k j h1 (by omega), hpV_123 k j h1 (by omega), hpV_93 k j h1 (by omega), hpV_63 k j h1 (by omega), hpV_33 k j h1 (by omega)]
  · skip
    refine T_k d_X10_feed_16 ?_
    -- leaf 13f@17
    refine T_iret d_X10_feed_17 rfl ?_
    refine ⟨rfl, hB, ?_⟩
    rw [if_pos (by omega)]
    exact ⟨rfl, rfl⟩
