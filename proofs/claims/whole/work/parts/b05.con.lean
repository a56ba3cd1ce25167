/-! constructors: what they leave -/
def lkI : List (Nat × Int) → Nat → Int
  | [], _ => 0
  | q :: t, i => if i = q.1 then q.2 else lkI t i
def lkR : List (Nat × Nat) → Nat → Option Nat
  | [], _ => none
  | q :: t, i => if i = q.1 then some q.2 else lkR t i
theorem lkI_out {n : Nat} : ∀ {l : List (Nat × Int)} {i : Nat}, l.all (fun q => decide (q.1 < n)) = true → n ≤ i → lkI l i = 0
  | [], _, _, _ => rfl
  | q :: t, i, h, hi => by
    simp only [List.all_cons, Bool.and_eq_true, decide_eq_true_eq] at h
    unfold lkI
    rw [if_neg (by omega)]
    exact lkI_out h.2 hi
theorem lkR_out {n : Nat} : ∀ {l : List (Nat × Nat)} {i : Nat}, l.all (fun q => decide (q.1 < n)) = true → n ≤ i → lkR l i = none
  | [], _, _, _ => rfl
  | q :: t, i, h, hi => by
    simp only [List.all_cons, Bool.and_eq_true, decide_eq_true_eq] at h
    unfold lkR
    rw [if_neg (by omega)]
    exact lkR_out h.2 hi

def ivL (k : Nat) : List (Nat × Int) :=
  bif Nat.beq k 0 then [(3, 0)] else
  bif Nat.beq k 1 then [(8, 2)] else
  bif Nat.beq k 2 then [(2, 0), (1, 40)] else
  bif Nat.beq k 4 then [(2, 0), (1, 60)] else
  bif Nat.beq k 6 then [(2, 0), (1, 20)] else
  bif Nat.beq k 8 then [(2, 0), (1, 20)] else
  bif Nat.beq k 10 then [(2, 0), (1, 60)] else
  bif Nat.beq k 12 then [(2, 0), (1, 60)] else
  bif Nat.beq k 16 then [(7, 0), (6, 0), (5, -1), (4, 0), (1, 0)] else
  bif Nat.beq k 30 then [(13, 0), (12, 0), (8, 0), (7, 0)] else
  bif Nat.beq k 34 then [(12, 0), (11, 0), (10, 0), (9, 0), (8, 0)] else
  bif Nat.beq k 44 then [(4, 0)] else
  bif Nat.beq k 52 then [(15, 0), (14, 0), (13, 0), (12, 0), (11, 0), (10, 0), (9, 0), (7, 0), (5, 0), (2, 0)] else
  bif Nat.beq k 56 then [(5, 0), (4, 0), (3, 0), (1, 0)] else
  bif Nat.beq k 85 then [(15, 1), (13, 1), (12, 0), (11, 1), (0, 0)] else
  bif Nat.beq k 99 then [(34, -1), (8, 2), (1, -1)] else
  bif Nat.beq k 126 then [(9, 10), (8, 30), (7, 0), (6, 300), (5, 0), (4, 3), (3, 20), (2, 10), (1, 2), (0, 2)] else
  bif Nat.beq k 127 then [(9, 10), (8, 30), (7, 0), (6, 300), (5, 300), (4, 3), (3, 80), (2, 40), (1, 8), (0, 2)] else
  []
def irL (k : Nat) : List (Nat × Nat) :=
  bif Nat.beq k 0 then [(2, 30), (1, 16), (0, 1)] else
  bif Nat.beq k 1 then [(7, 15), (6, 14), (5, 12), (4, 10), (3, 8), (2, 6), (1, 4), (0, 2)] else
  bif Nat.beq k 2 then [(0, 3)] else
  bif Nat.beq k 4 then [(0, 5)] else
  bif Nat.beq k 6 then [(0, 7)] else
  bif Nat.beq k 8 then [(0, 9)] else
  bif Nat.beq k 10 then [(0, 11)] else
  bif Nat.beq k 12 then [(0, 13)] else
  bif Nat.beq k 16 then [(3, 24), (2, 18), (0, 17)] else
  bif Nat.beq k 18 then [(4, 23), (3, 22), (2, 21), (1, 20), (0, 19)] else
  bif Nat.beq k 24 then [(4, 29), (3, 28), (2, 27), (1, 26), (0, 25)] else
  bif Nat.beq k 30 then [(6, 85), (5, 56), (4, 52), (3, 44), (2, 34), (1, 16), (0, 1), (11, 33), (10, 32), (9, 31)] else
  bif Nat.beq k 34 then [(0, 1), (14, 43), (13, 42), (7, 41), (6, 40), (5, 39), (4, 38), (3, 37), (2, 36), (1, 35)] else
  bif Nat.beq k 44 then [(7, 51), (6, 50), (5, 49), (3, 48), (2, 47), (1, 46), (0, 45)] else
  bif Nat.beq k 52 then [(1, 44), (0, 1), (8, 55), (6, 54), (4, 53)] else
  bif Nat.beq k 56 then [(6, 59), (2, 58), (0, 57)] else
  bif Nat.beq k 57 then [(24, 84), (23, 83), (22, 82), (21, 81), (20, 80), (19, 79), (18, 78), (17, 77), (16, 76), (15, 75), (14, 74), (13, 73), (12, 72), (11, 71), (10, 70), (9, 69), (8, 68), (7, 67), (6, 66), (5, 65), (4, 64), (3, 63), (2, 62), (1, 61), (0, 60)] else
  bif Nat.beq k 85 then [(17, 98), (16, 97), (14, 96), (10, 95), (9, 94), (8, 93), (7, 92), (6, 91), (5, 90), (4, 89), (3, 88), (2, 87), (1, 86)] else
  bif Nat.beq k 99 then [(99, 161), (98, 160), (96, 159), (95, 158), (94, 157), (93, 156), (92, 155), (91, 154), (90, 153), (89, 152), (88, 151), (79, 150), (78, 149), (71, 148), (70, 147), (69, 146), (68, 145), (67, 144), (66, 143), (65, 142), (64, 141), (63, 140), (62, 139), (61, 138), (60, 137), (59, 136), (58, 135), (56, 134), (55, 133), (54, 132), (53, 131), (52, 130), (51, 129), (50, 128), (44, 127), (43, 126), (42, 125), (41, 124), (40, 123), (39, 122), (38, 121), (29, 120), (28, 119), (27, 118), (26, 117), (25, 116), (24, 115), (23, 114), (22, 113), (21, 112), (20, 111), (19, 110), (18, 109), (17, 108), (16, 107), (15, 106), (14, 105), (13, 104), (12, 103), (11, 102), (10, 101), (9, 100)] else
  []
def iv (k : Nat) : Nat → Int := lkI (ivL k)
def ir (k : Nat) : Nat → Option Nat := lkR (irL k)
def kpI (a : Nat) (V : VV) (R : RR) (V' : VV) (R' : RR) : Prop := ∀ k, k < a → V' k = V k ∧ R' k = R k
def agI (lo hi : Nat) (V : VV) (R : RR) : Prop := ∀ k, lo ≤ k → k < hi → V k = iv k ∧ R k = ir k
/-- a cell on its way -/
def obI (a : Nat) (f : List (Nat × Int)) (g : List (Nat × Nat)) (V : VV) (R : RR) : Prop := V a = lkI f ∧ R a = lkR g
section
variable {a lo nx n1 j b n : Nat} {V V' W : VV} {R R' T : RR} {x : Int} {f : List (Nat × Int)} {g : List (Nat × Nat)}
theorem kpI_r : kpI a V R V R := fun _ _ => ⟨rfl, rfl⟩
theorem kpI_zz : kpI nx V R (zV V nx) (zR R nx) := fun k hk => ⟨funext fun i => cV_lt hk, funext fun i => cR_lt hk⟩
theorem kpI_c (h : kpI a V R V' R') (g : kpI nx V' R' W T) (hn : a ≤ nx) : kpI a V R W T := fun k hk => ⟨(g k (by omega)).1.trans (h k hk).1, (g k (by omega)).2.trans (h k hk).2⟩
theorem kpI_z (h : kpI a V R V' R') (hn : a ≤ nx) : kpI a V R (zV V' nx) (zR R' nx) := kpI_c h kpI_zz hn
theorem kpI_m (h : kpI a V R V' R') (hn : a ≤ nx) : kpI a V R (mnV V' nx n) (mnR R' nx n) := kpI_c h (fun k hk => ⟨funext fun i => by unfold mnV; rw [if_neg (by omega)], funext fun i => by unfold mnR; rw [if_neg (by omega), if_neg (by omega)]⟩) hn
theorem kpI_v (h : kpI a V R V' R') (hb : a ≤ b) : kpI a V R (uV V' b j x) R' := fun k hk => ⟨by rw [← (h k hk).1]; exact funext fun i => uV_ne (fun z => by omega), (h k hk).2⟩
theorem kpI_q {y : Option Nat} (h : kpI a V R V' R') (hb : a ≤ b) : kpI a V R V' (uR R' b j y) := fun k hk => ⟨(h k hk).1, by rw [← (h k hk).2]; exact funext fun i => uR_ne (fun z => by omega)⟩
theorem agI_0 : agI lo lo V R := fun k h1 h2 => by omega
theorem agI_k (h : agI lo nx V R) (g : kpI nx V R W T) : agI lo nx W T := fun k h1 h2 => ⟨(g k h2).1.trans (h k h1 h2).1, (g k h2).2.trans (h k h1 h2).2⟩
theorem agI_c (h : agI lo nx V R) (g : kpI nx V R W T) (g2 : agI nx n1 W T) : agI lo n1 W T := fun k h1 h2 => by
  by_cases q : k < nx
  · exact agI_k h g k h1 q
  · exact g2 k (by omega) h2
theorem agI_o (h : agI lo nx V R) (o : obI nx f g V R) (e1 : lkI f = iv nx) (e2 : lkR g = ir nx) : agI lo (nx + 1) V R := fun k h1 h2 => by
  by_cases q : k = nx
  · subst q
    exact ⟨o.1.trans e1, o.2.trans e2⟩
  · exact h k h1 (by omega)
theorem obI_n : obI nx [] [] (zV V nx) (zR R nx) := ⟨funext fun i => by simp [cV, lkI], funext fun i => by simp [cR, lkR]⟩
theorem obI_na (_ : agI lo n1 V R) : obI nx [] [] (zV V nx) (zR R nx) := obI_n
theorem agI_0o (_ : obI a f g V R) : agI lo lo V R := agI_0
theorem agI_z (h : agI lo nx V R) (e1 : lkI [] = iv nx) (e2 : lkR [] = ir nx) : agI lo (nx + 1) (zV V nx) (zR R nx) := agI_o (agI_k h kpI_zz) obI_n e1 e2
theorem agI_v (h : agI lo nx V R) (ha : a < lo ∨ nx ≤ a) : agI lo nx (uV V a j x) R := fun k h1 h2 => ⟨by rw [← (h k h1 h2).1]; exact funext fun i => uV_ne (fun z => by omega), (h k h1 h2).2⟩
theorem agI_q {y : Option Nat} (h : agI lo nx V R) (ha : a < lo ∨ nx ≤ a) : agI lo nx V (uR R a j y) := fun k h1 h2 => ⟨(h k h1 h2).1, by rw [← (h k h1 h2).2]; exact funext fun i => uR_ne (fun z => by omega)⟩
theorem agI_m (h : agI lo nx V R) (e1 : ∀ k, nx ≤ k → k ≤ nx + n → iv k = fun _ => 0) (e2 : ∀ j, ir nx j = if j < n then some (nx + 1 + j) else none) (e3 : ∀ k, nx < k → k ≤ nx + n → ir k = fun _ => none) : agI lo (nx + 1 + n) (mnV V nx n) (mnR R nx n) := fun k h1 h2 => by
  by_cases q : k < nx
  · refine ⟨?_, ?_⟩
    · rw [← (h k h1 q).1]; funext i; unfold mnV; rw [if_neg (by omega)]
    · rw [← (h k h1 q).2]; funext i; unfold mnR; rw [if_neg (by omega), if_neg (by omega)]
  · refine ⟨?_, ?_⟩
    · rw [e1 k (by omega) (by omega)]; funext i; unfold mnV; rw [if_pos (by omega)]
    · by_cases z : k = nx
      · subst z; funext i; rw [e2]; unfold mnR; rw [if_pos rfl]
      · rw [e3 k (by omega) (by omega)]; funext i; unfold mnR; rw [if_neg z, if_pos (by omega)]
theorem obI_k (h : obI a f g V R) (k : kpI nx V R W T) (hn : a < nx) : obI a f g W T := ⟨(k a hn).1.trans h.1, (k a hn).2.trans h.2⟩
theorem obI_v (h : obI a f g V R) : obI a ((j, x) :: f) g (uV V a j x) R := ⟨funext fun i => by unfold lkI; rw [← h.1]; unfold uV; simp, h.2⟩
theorem obI_q {y : Nat} (h : obI a f g V R) : obI a f ((j, y) :: g) V (uR R a j (some y)) := ⟨h.1, funext fun i => by unfold lkR; rw [← h.2]; unfold uR; simp⟩
theorem obI_q0 (h : obI a f g V R) (e : lkR g j = none) : obI a f g V (uR R a j none) := ⟨h.1, funext fun i => by
  rw [← h.2]; unfold uR
  by_cases z : a = a ∧ i = j
  · rw [if_pos z, h.2, z.2, e]
  · rw [if_neg z]⟩
theorem obI_ov (h : obI a f g V R) (hb : b ≠ a) : obI a f g (uV V b j x) R := ⟨by rw [← h.1]; exact funext fun i => uV_ne (fun z => hb z.1.symm), h.2⟩
theorem obI_oq {y : Option Nat} (h : obI a f g V R) (hb : b ≠ a) : obI a f g V (uR R b j y) := ⟨h.1, by rw [← h.2]; exact funext fun i => uR_ne (fun z => hb z.1.symm)⟩
theorem agI_f (h : obI a f g V R) (k : agI (a + 1) n1 V R) (e1 : lkI f = iv a) (e2 : lkR g = ir a) : agI a n1 V R := fun i h1 h2 => by
  by_cases q : i = a
  · subst q; exact ⟨h.1.trans e1, h.2.trans e2⟩
  · exact k i (by omega) h2
end
def cnQ (a n1 : Nat) (V : VV) (R : RR) : Option AV → VV → RR → Prop := fun r V' R' => r = none ∧ kpI a V R V' R' ∧ agI a n1 V' R'
theorem K_House {a : Nat} {G : GG} {V : VV} {R : RR} (hz : obI a [] [] V R) (e1 : lkI [] = iv a) (e2 : lkR [] = ir a) : Runs G M_X2_init 1 (a + 1) (a + 1) [vr a] V R (cnQ a (a + 1) V R) := by
  refine Runs.of pn_X2 (Nat.le_of_ble_eq_true rfl) rfl ?_
  show TT G M_X2_init (rmd 1 (a + 1) (a + 1)) (a + 1) (Zm G (a + 1) (a + 1) (cnQ a (a + 1) V R)) (a + 1) 0 [(0, vr a)] [] V R
  refine T_al d_X2_init_0 rfl ?_
  refine T_oi (x := vi 0) d_X2_init_1 (Nat.le_of_ble_eq_true rfl) ⟨by show 1 ≤ 9; decide, by show 20 ≤ 540; decide⟩ ?_
  exact T_vret d_X2_init_4 rfl ⟨rfl, kpI_r, agI_f hz agI_0 e1 e2⟩

theorem iv_m18 : ∀ k, 18 ≤ k → k ≤ 18 + 5 → iv k = fun _ => 0 := fun k h1 h2 => by
  obtain rfl | rfl | rfl | rfl | rfl | rfl : k = 18 ∨ k = 19 ∨ k = 20 ∨ k = 21 ∨ k = 22 ∨ k = 23 := by omega
  all_goals exact funext fun i => rfl
theorem ir_n18 : ∀ j, ir 18 j = if j < 5 then some (18 + 1 + j) else none := fun j => by
  by_cases h : j < 5
  · rw [if_pos h]
    obtain rfl | rfl | rfl | rfl | rfl : j = 0 ∨ j = 1 ∨ j = 2 ∨ j = 3 ∨ j = 4 := by omega
    all_goals rfl
  · rw [if_neg h]
    exact lkR_out (n := 5) rfl (by omega)
theorem ir_m18 : ∀ k, 18 < k → k ≤ 18 + 5 → ir k = fun _ => none := fun k h1 h2 => by
  obtain rfl | rfl | rfl | rfl | rfl : k = 19 ∨ k = 20 ∨ k = 21 ∨ k = 22 ∨ k = 23 := by omega
  all_goals exact funext fun i => rfl
theorem iv_m24 : ∀ k, 24 ≤ k → k ≤ 24 + 5 → iv k = fun _ => 0 := fun k h1 h2 => by
  obtain rfl | rfl | rfl | rfl | rfl | rfl : k = 24 ∨ k = 25 ∨ k = 26 ∨ k = 27 ∨ k = 28 ∨ k = 29 := by omega
  all_goals exact funext fun i => rfl
theorem ir_n24 : ∀ j, ir 24 j = if j < 5 then some (24 + 1 + j) else none := fun j => by
  by_cases h : j < 5
  · rw [if_pos h]
    obtain rfl | rfl | rfl | rfl | rfl : j = 0 ∨ j = 1 ∨ j = 2 ∨ j = 3 ∨ j = 4 := by omega
    all_goals rfl
  · rw [if_neg h]
    exact lkR_out (n := 5) rfl (by omega)
theorem ir_m24 : ∀ k, 24 < k → k ≤ 24 + 5 → ir k = fun _ => none := fun k h1 h2 => by
  obtain rfl | rfl | rfl | rfl | rfl : k = 25 ∨ k = 26 ∨ k = 27 ∨ k = 28 ∨ k = 29 := by omega
  all_goals exact funext fun i => rfl
set_option maxRecDepth 100000 in
set_option maxHeartbeats 4000000 in
theorem K_X5_init_2 {G : GG} {V : VV} {R : RR} (hz : obI 2 [] [] V R) : Runs G M_X5_init 1 3 4 [vr 2, vi 40] V R (cnQ 2 4 V R) := by
  refine Runs.of pn_X5 (Nat.le_of_ble_eq_true rfl) rfl ?_
  show TT G M_X5_init (rmd 1 3 4) 3 (Zm G 3 4 (cnQ 2 4 V R)) 3 0 [(0, vr 2), (1, vi 40)] [] V R
  have kp : kpI 2 V R V R := kpI_r
  have ag : agI 3 3 V R := agI_0
  have ob := hz
  refine T_al d_X5_init_0 rfl ?_
  refine T_oi (x := vi 0) d_X5_init_1 (Nat.le_of_ble_eq_true rfl) ⟨by decide, by decide⟩ ?_
  refine T_al d_X5_init_4 rfl ?_
  refine T_il d_X5_init_5 rfl ?_
  refine T_pi uws_ok d_X5_init_6 rfl (by decide) ?_
  have kp := kpI_v (j := 1) (x := 40) (b := 2) kp (by decide)
  have ag := agI_v (j := 1) (x := 40) (a := 2) ag (by decide)
  have ob := obI_v (j := 1) (x := 40) ob
  refine T_al d_X5_init_9 rfl ?_
  refine T_il d_X5_init_10 rfl ?_
  refine T_k d_X5_init_11 ?_
  refine T_imul d_X5_init_12 ?_
  rw [show (40 * 5 : Int) = 200 from rfl]
  refine T_newa (cd := 1) (ti := 0) d_X5_init_13 rfl rfl w1_56 rfl (Or.inl ⟨rfl, rfl⟩) ⟨by decide, by decide⟩ (by decide) (by decide +kernel) ?_
  have kp := kpI_z (nx := 3) kp (by decide)
  have ob := obI_k ob (kpI_zz (nx := 3)) (by decide)
  have ag := agI_z ag (nx := 3) rfl rfl
  refine T_pq (x := some 3) uws_ok d_X5_init_15 (fun v => by cases v <;> exact ⟨rfl, rfl⟩) rfl (by decide) ?_
  have kp := kpI_q (j := 0) (y := some 3) (b := 2) kp (by decide)
  have ag := agI_q (j := 0) (y := some 3) (a := 2) ag (by decide)
  have ob := obI_q (j := 0) (y := 3) ob
  refine T_al d_X5_init_18 rfl ?_
  refine T_k d_X5_init_19 ?_
  refine T_pi uws_ok d_X5_init_20 rfl (by decide) ?_
  have kp := kpI_v (j := 2) (x := 0) (b := 2) kp (by decide)
  have ag := agI_v (j := 2) (x := 0) (a := 2) ag (by decide)
  have ob := obI_v (j := 2) (x := 0) ob
  exact T_vret d_X5_init_23 rfl ⟨rfl, kp, agI_f ob ag rfl rfl⟩
set_option maxRecDepth 100000 in
set_option maxHeartbeats 4000000 in
theorem K_X5_init_4 {G : GG} {V : VV} {R : RR} (hz : obI 4 [] [] V R) : Runs G M_X5_init 1 5 6 [vr 4, vi 60] V R (cnQ 4 6 V R) := by
  refine Runs.of pn_X5 (Nat.le_of_ble_eq_true rfl) rfl ?_
  show TT G M_X5_init (rmd 1 5 6) 5 (Zm G 5 6 (cnQ 4 6 V R)) 5 0 [(0, vr 4), (1, vi 60)] [] V R
  have kp : kpI 4 V R V R := kpI_r
  have ag : agI 5 5 V R := agI_0
  have ob := hz
  refine T_al d_X5_init_0 rfl ?_
  refine T_oi (x := vi 0) d_X5_init_1 (Nat.le_of_ble_eq_true rfl) ⟨by decide, by decide⟩ ?_
  refine T_al d_X5_init_4 rfl ?_
  refine T_il d_X5_init_5 rfl ?_
  refine T_pi uws_ok d_X5_init_6 rfl (by decide) ?_
  have kp := kpI_v (j := 1) (x := 60) (b := 4) kp (by decide)
  have ag := agI_v (j := 1) (x := 60) (a := 4) ag (by decide)
  have ob := obI_v (j := 1) (x := 60) ob
  refine T_al d_X5_init_9 rfl ?_
  refine T_il d_X5_init_10 rfl ?_
  refine T_k d_X5_init_11 ?_
  refine T_imul d_X5_init_12 ?_
  rw [show (60 * 5 : Int) = 300 from rfl]
  refine T_newa (cd := 1) (ti := 0) d_X5_init_13 rfl rfl w1_56 rfl (Or.inl ⟨rfl, rfl⟩) ⟨by decide, by decide⟩ (by decide) (by decide +kernel) ?_
  have kp := kpI_z (nx := 5) kp (by decide)
  have ob := obI_k ob (kpI_zz (nx := 5)) (by decide)
  have ag := agI_z ag (nx := 5) rfl rfl
  refine T_pq (x := some 5) uws_ok d_X5_init_15 (fun v => by cases v <;> exact ⟨rfl, rfl⟩) rfl (by decide) ?_
  have kp := kpI_q (j := 0) (y := some 5) (b := 4) kp (by decide)
  have ag := agI_q (j := 0) (y := some 5) (a := 4) ag (by decide)
  have ob := obI_q (j := 0) (y := 5) ob
  refine T_al d_X5_init_18 rfl ?_
  refine T_k d_X5_init_19 ?_
  refine T_pi uws_ok d_X5_init_20 rfl (by decide) ?_
  have kp := kpI_v (j := 2) (x := 0) (b := 4) kp (by decide)
  have ag := agI_v (j := 2) (x := 0) (a := 4) ag (by decide)
  have ob := obI_v (j := 2) (x := 0) ob
  exact T_vret d_X5_init_23 rfl ⟨rfl, kp, agI_f ob ag rfl rfl⟩
set_option maxRecDepth 100000 in
set_option maxHeartbeats 4000000 in
theorem K_X5_init_6 {G : GG} {V : VV} {R : RR} (hz : obI 6 [] [] V R) : Runs G M_X5_init 1 7 8 [vr 6, vi 20] V R (cnQ 6 8 V R) := by
  refine Runs.of pn_X5 (Nat.le_of_ble_eq_true rfl) rfl ?_
  show TT G M_X5_init (rmd 1 7 8) 7 (Zm G 7 8 (cnQ 6 8 V R)) 7 0 [(0, vr 6), (1, vi 20)] [] V R
  have kp : kpI 6 V R V R := kpI_r
  have ag : agI 7 7 V R := agI_0
  have ob := hz
  refine T_al d_X5_init_0 rfl ?_
  refine T_oi (x := vi 0) d_X5_init_1 (Nat.le_of_ble_eq_true rfl) ⟨by decide, by decide⟩ ?_
  refine T_al d_X5_init_4 rfl ?_
  refine T_il d_X5_init_5 rfl ?_
  refine T_pi uws_ok d_X5_init_6 rfl (by decide) ?_
  have kp := kpI_v (j := 1) (x := 20) (b := 6) kp (by decide)
  have ag := agI_v (j := 1) (x := 20) (a := 6) ag (by decide)
  have ob := obI_v (j := 1) (x := 20) ob
  refine T_al d_X5_init_9 rfl ?_
  refine T_il d_X5_init_10 rfl ?_
  refine T_k d_X5_init_11 ?_
  refine T_imul d_X5_init_12 ?_
  rw [show (20 * 5 : Int) = 100 from rfl]
  refine T_newa (cd := 1) (ti := 0) d_X5_init_13 rfl rfl w1_56 rfl (Or.inl ⟨rfl, rfl⟩) ⟨by decide, by decide⟩ (by decide) (by decide +kernel) ?_
  have kp := kpI_z (nx := 7) kp (by decide)
  have ob := obI_k ob (kpI_zz (nx := 7)) (by decide)
  have ag := agI_z ag (nx := 7) rfl rfl
  refine T_pq (x := some 7) uws_ok d_X5_init_15 (fun v => by cases v <;> exact ⟨rfl, rfl⟩) rfl (by decide) ?_
  have kp := kpI_q (j := 0) (y := some 7) (b := 6) kp (by decide)
  have ag := agI_q (j := 0) (y := some 7) (a := 6) ag (by decide)
  have ob := obI_q (j := 0) (y := 7) ob
  refine T_al d_X5_init_18 rfl ?_
  refine T_k d_X5_init_19 ?_
  refine T_pi uws_ok d_X5_init_20 rfl (by decide) ?_
  have kp := kpI_v (j := 2) (x := 0) (b := 6) kp (by decide)
  have ag := agI_v (j := 2) (x := 0) (a := 6) ag (by decide)
  have ob := obI_v (j := 2) (x := 0) ob
  exact T_vret d_X5_init_23 rfl ⟨rfl, kp, agI_f ob ag rfl rfl⟩
set_option maxRecDepth 100000 in
set_option maxHeartbeats 4000000 in
theorem K_X5_init_8 {G : GG} {V : VV} {R : RR} (hz : obI 8 [] [] V R) : Runs G M_X5_init 1 9 10 [vr 8, vi 20] V R (cnQ 8 10 V R) := by
  refine Runs.of pn_X5 (Nat.le_of_ble_eq_true rfl) rfl ?_
  show TT G M_X5_init (rmd 1 9 10) 9 (Zm G 9 10 (cnQ 8 10 V R)) 9 0 [(0, vr 8), (1, vi 20)] [] V R
  have kp : kpI 8 V R V R := kpI_r
  have ag : agI 9 9 V R := agI_0
  have ob := hz
  refine T_al d_X5_init_0 rfl ?_
  refine T_oi (x := vi 0) d_X5_init_1 (Nat.le_of_ble_eq_true rfl) ⟨by decide, by decide⟩ ?_
  refine T_al d_X5_init_4 rfl ?_
  refine T_il d_X5_init_5 rfl ?_
  refine T_pi uws_ok d_X5_init_6 rfl (by decide) ?_
  have kp := kpI_v (j := 1) (x := 20) (b := 8) kp (by decide)
  have ag := agI_v (j := 1) (x := 20) (a := 8) ag (by decide)
  have ob := obI_v (j := 1) (x := 20) ob
  refine T_al d_X5_init_9 rfl ?_
  refine T_il d_X5_init_10 rfl ?_
  refine T_k d_X5_init_11 ?_
  refine T_imul d_X5_init_12 ?_
  rw [show (20 * 5 : Int) = 100 from rfl]
  refine T_newa (cd := 1) (ti := 0) d_X5_init_13 rfl rfl w1_56 rfl (Or.inl ⟨rfl, rfl⟩) ⟨by decide, by decide⟩ (by decide) (by decide +kernel) ?_
  have kp := kpI_z (nx := 9) kp (by decide)
  have ob := obI_k ob (kpI_zz (nx := 9)) (by decide)
  have ag := agI_z ag (nx := 9) rfl rfl
  refine T_pq (x := some 9) uws_ok d_X5_init_15 (fun v => by cases v <;> exact ⟨rfl, rfl⟩) rfl (by decide) ?_
  have kp := kpI_q (j := 0) (y := some 9) (b := 8) kp (by decide)
  have ag := agI_q (j := 0) (y := some 9) (a := 8) ag (by decide)
  have ob := obI_q (j := 0) (y := 9) ob
  refine T_al d_X5_init_18 rfl ?_
  refine T_k d_X5_init_19 ?_
  refine T_pi uws_ok d_X5_init_20 rfl (by decide) ?_
  have kp := kpI_v (j := 2) (x := 0) (b := 8) kp (by decide)
  have ag := agI_v (j := 2) (x := 0) (a := 8) ag (by decide)
  have ob := obI_v (j := 2) (x := 0) ob
  exact T_vret d_X5_init_23 rfl ⟨rfl, kp, agI_f ob ag rfl rfl⟩
set_option maxRecDepth 100000 in
set_option maxHeartbeats 4000000 in
theorem K_X5_init_10 {G : GG} {V : VV} {R : RR} (hz : obI 10 [] [] V R) : Runs G M_X5_init 1 11 12 [vr 10, vi 60] V R (cnQ 10 12 V R) := by
  refine Runs.of pn_X5 (Nat.le_of_ble_eq_true rfl) rfl ?_
  show TT G M_X5_init (rmd 1 11 12) 11 (Zm G 11 12 (cnQ 10 12 V R)) 11 0 [(0, vr 10), (1, vi 60)] [] V R
  have kp : kpI 10 V R V R := kpI_r
  have ag : agI 11 11 V R := agI_0
  have ob := hz
  refine T_al d_X5_init_0 rfl ?_
  refine T_oi (x := vi 0) d_X5_init_1 (Nat.le_of_ble_eq_true rfl) ⟨by decide, by decide⟩ ?_
  refine T_al d_X5_init_4 rfl ?_
  refine T_il d_X5_init_5 rfl ?_
  refine T_pi uws_ok d_X5_init_6 rfl (by decide) ?_
  have kp := kpI_v (j := 1) (x := 60) (b := 10) kp (by decide)
  have ag := agI_v (j := 1) (x := 60) (a := 10) ag (by decide)
  have ob := obI_v (j := 1) (x := 60) ob
  refine T_al d_X5_init_9 rfl ?_
  refine T_il d_X5_init_10 rfl ?_
  refine T_k d_X5_init_11 ?_
  refine T_imul d_X5_init_12 ?_
  rw [show (60 * 5 : Int) = 300 from rfl]
  refine T_newa (cd := 1) (ti := 0) d_X5_init_13 rfl rfl w1_56 rfl (Or.inl ⟨rfl, rfl⟩) ⟨by decide, by decide⟩ (by decide) (by decide +kernel) ?_
  have kp := kpI_z (nx := 11) kp (by decide)
  have ob := obI_k ob (kpI_zz (nx := 11)) (by decide)
  have ag := agI_z ag (nx := 11) rfl rfl
  refine T_pq (x := some 11) uws_ok d_X5_init_15 (fun v => by cases v <;> exact ⟨rfl, rfl⟩) rfl (by decide) ?_
  have kp := kpI_q (j := 0) (y := some 11) (b := 10) kp (by decide)
  have ag := agI_q (j := 0) (y := some 11) (a := 10) ag (by decide)
  have ob := obI_q (j := 0) (y := 11) ob
  refine T_al d_X5_init_18 rfl ?_
  refine T_k d_X5_init_19 ?_
  refine T_pi uws_ok d_X5_init_20 rfl (by decide) ?_
  have kp := kpI_v (j := 2) (x := 0) (b := 10) kp (by decide)
  have ag := agI_v (j := 2) (x := 0) (a := 10) ag (by decide)
  have ob := obI_v (j := 2) (x := 0) ob
  exact T_vret d_X5_init_23 rfl ⟨rfl, kp, agI_f ob ag rfl rfl⟩
set_option maxRecDepth 100000 in
set_option maxHeartbeats 4000000 in
theorem K_X5_init_12 {G : GG} {V : VV} {R : RR} (hz : obI 12 [] [] V R) : Runs G M_X5_init 1 13 14 [vr 12, vi 60] V R (cnQ 12 14 V R) := by
  refine Runs.of pn_X5 (Nat.le_of_ble_eq_true rfl) rfl ?_
  show TT G M_X5_init (rmd 1 13 14) 13 (Zm G 13 14 (cnQ 12 14 V R)) 13 0 [(0, vr 12), (1, vi 60)] [] V R
  have kp : kpI 12 V R V R := kpI_r
  have ag : agI 13 13 V R := agI_0
  have ob := hz
  refine T_al d_X5_init_0 rfl ?_
  refine T_oi (x := vi 0) d_X5_init_1 (Nat.le_of_ble_eq_true rfl) ⟨by decide, by decide⟩ ?_
  refine T_al d_X5_init_4 rfl ?_
  refine T_il d_X5_init_5 rfl ?_
  refine T_pi uws_ok d_X5_init_6 rfl (by decide) ?_
  have kp := kpI_v (j := 1) (x := 60) (b := 12) kp (by decide)
  have ag := agI_v (j := 1) (x := 60) (a := 12) ag (by decide)
  have ob := obI_v (j := 1) (x := 60) ob
  refine T_al d_X5_init_9 rfl ?_
  refine T_il d_X5_init_10 rfl ?_
  refine T_k d_X5_init_11 ?_
  refine T_imul d_X5_init_12 ?_
  rw [show (60 * 5 : Int) = 300 from rfl]
  refine T_newa (cd := 1) (ti := 0) d_X5_init_13 rfl rfl w1_56 rfl (Or.inl ⟨rfl, rfl⟩) ⟨by decide, by decide⟩ (by decide) (by decide +kernel) ?_
  have kp := kpI_z (nx := 13) kp (by decide)
  have ob := obI_k ob (kpI_zz (nx := 13)) (by decide)
  have ag := agI_z ag (nx := 13) rfl rfl
  refine T_pq (x := some 13) uws_ok d_X5_init_15 (fun v => by cases v <;> exact ⟨rfl, rfl⟩) rfl (by decide) ?_
  have kp := kpI_q (j := 0) (y := some 13) (b := 12) kp (by decide)
  have ag := agI_q (j := 0) (y := some 13) (a := 12) ag (by decide)
  have ob := obI_q (j := 0) (y := 13) ob
  refine T_al d_X5_init_18 rfl ?_
  refine T_k d_X5_init_19 ?_
  refine T_pi uws_ok d_X5_init_20 rfl (by decide) ?_
  have kp := kpI_v (j := 2) (x := 0) (b := 12) kp (by decide)
  have ag := agI_v (j := 2) (x := 0) (a := 12) ag (by decide)
  have ob := obI_v (j := 2) (x := 0) ob
  exact T_vret d_X5_init_23 rfl ⟨rfl, kp, agI_f ob ag rfl rfl⟩
set_option maxRecDepth 100000 in
set_option maxHeartbeats 4000000 in
theorem K_X0_init_1 {G : GG} {V : VV} {R : RR} (hz : obI 1 [] [] V R) : Runs G M_X0_init 12 2 16 [vr 1] V R (cnQ 1 16 V R) := by
  refine Runs.of pn_X0 (Nat.le_of_ble_eq_true rfl) rfl ?_
  show TT G M_X0_init (rmd 12 2 16) 2 (Zm G 2 16 (cnQ 1 16 V R)) 2 0 [(0, vr 1)] [] V R
  have kp : kpI 1 V R V R := kpI_r
  have ag : agI 2 2 V R := agI_0
  have ob := hz
  refine T_al d_X0_init_0 rfl ?_
  refine T_oi (x := vi 0) d_X0_init_1 (Nat.le_of_ble_eq_true rfl) ⟨by decide, by decide⟩ ?_
  refine T_al d_X0_init_4 rfl ?_
  refine T_new uws_ok d_X0_init_5 rfl (by decide) (by decide +kernel) ?_
  refine T_dup d_X0_init_8 rfl ?_
  refine T_k d_X0_init_9 ?_
  refine T_callI (As := [vi 40]) d_X0_init_11 (K_X5_init_2 obI_n) rfl (Nat.le_of_ble_eq_true rfl) ⟨by decide, by decide⟩ ⟨by decide, by decide⟩ (by decide +kernel) (fun r W T q => ?_)
  obtain ⟨rfl, k1, k2⟩ := q
  have k3 := kpI_c kpI_zz k1 (Nat.le_refl _)
  have ag := agI_c (nx := 2) (n1 := 4) ag k3 k2
  have ob := obI_k ob k3 (by decide)
  have kp := kpI_c kp k3 (by decide)
  refine T_pq (x := some 2) uws_ok d_X0_init_14 (fun v => by cases v <;> exact ⟨rfl, rfl⟩) rfl (by decide) ?_
  have kp := kpI_q (j := 0) (y := some 2) (b := 1) kp (by decide)
  have ag := agI_q (j := 0) (y := some 2) (a := 1) ag (by decide)
  have ob := obI_q (j := 0) (y := 2) ob
  refine T_al d_X0_init_17 rfl ?_
  refine T_new uws_ok d_X0_init_18 rfl (by decide) (by decide +kernel) ?_
  refine T_dup d_X0_init_21 rfl ?_
  refine T_k d_X0_init_22 ?_
  refine T_callI (As := [vi 60]) d_X0_init_24 (K_X5_init_4 obI_n) rfl (Nat.le_of_ble_eq_true rfl) ⟨by decide, by decide⟩ ⟨by decide, by decide⟩ (by decide +kernel) (fun r W T q => ?_)
  obtain ⟨rfl, k1, k2⟩ := q
  have k3 := kpI_c kpI_zz k1 (Nat.le_refl _)
  have ag := agI_c (nx := 4) (n1 := 6) ag k3 k2
  have ob := obI_k ob k3 (by decide)
  have kp := kpI_c kp k3 (by decide)
  refine T_pq (x := some 4) uws_ok d_X0_init_27 (fun v => by cases v <;> exact ⟨rfl, rfl⟩) rfl (by decide) ?_
  have kp := kpI_q (j := 1) (y := some 4) (b := 1) kp (by decide)
  have ag := agI_q (j := 1) (y := some 4) (a := 1) ag (by decide)
  have ob := obI_q (j := 1) (y := 4) ob
  refine T_al d_X0_init_30 rfl ?_
  refine T_new uws_ok d_X0_init_31 rfl (by decide) (by decide +kernel) ?_
  refine T_dup d_X0_init_34 rfl ?_
  refine T_k d_X0_init_35 ?_
  refine T_callI (As := [vi 20]) d_X0_init_37 (K_X5_init_6 obI_n) rfl (Nat.le_of_ble_eq_true rfl) ⟨by decide, by decide⟩ ⟨by decide, by decide⟩ (by decide +kernel) (fun r W T q => ?_)
  obtain ⟨rfl, k1, k2⟩ := q
  have k3 := kpI_c kpI_zz k1 (Nat.le_refl _)
  have ag := agI_c (nx := 6) (n1 := 8) ag k3 k2
  have ob := obI_k ob k3 (by decide)
  have kp := kpI_c kp k3 (by decide)
  refine T_pq (x := some 6) uws_ok d_X0_init_40 (fun v => by cases v <;> exact ⟨rfl, rfl⟩) rfl (by decide) ?_
  have kp := kpI_q (j := 2) (y := some 6) (b := 1) kp (by decide)
  have ag := agI_q (j := 2) (y := some 6) (a := 1) ag (by decide)
  have ob := obI_q (j := 2) (y := 6) ob
  refine T_al d_X0_init_43 rfl ?_
  refine T_new uws_ok d_X0_init_44 rfl (by decide) (by decide +kernel) ?_
  refine T_dup d_X0_init_47 rfl ?_
  refine T_k d_X0_init_48 ?_
  refine T_callI (As := [vi 20]) d_X0_init_50 (K_X5_init_8 obI_n) rfl (Nat.le_of_ble_eq_true rfl) ⟨by decide, by decide⟩ ⟨by decide, by decide⟩ (by decide +kernel) (fun r W T q => ?_)
  obtain ⟨rfl, k1, k2⟩ := q
  have k3 := kpI_c kpI_zz k1 (Nat.le_refl _)
  have ag := agI_c (nx := 8) (n1 := 10) ag k3 k2
  have ob := obI_k ob k3 (by decide)
  have kp := kpI_c kp k3 (by decide)
  refine T_pq (x := some 8) uws_ok d_X0_init_53 (fun v => by cases v <;> exact ⟨rfl, rfl⟩) rfl (by decide) ?_
  have kp := kpI_q (j := 3) (y := some 8) (b := 1) kp (by decide)
  have ag := agI_q (j := 3) (y := some 8) (a := 1) ag (by decide)
  have ob := obI_q (j := 3) (y := 8) ob
  refine T_al d_X0_init_56 rfl ?_
  refine T_new uws_ok d_X0_init_57 rfl (by decide) (by decide +kernel) ?_
  refine T_dup d_X0_init_60 rfl ?_
  refine T_k d_X0_init_61 ?_
  refine T_callI (As := [vi 60]) d_X0_init_63 (K_X5_init_10 obI_n) rfl (Nat.le_of_ble_eq_true rfl) ⟨by decide, by decide⟩ ⟨by decide, by decide⟩ (by decide +kernel) (fun r W T q => ?_)
  obtain ⟨rfl, k1, k2⟩ := q
  have k3 := kpI_c kpI_zz k1 (Nat.le_refl _)
  have ag := agI_c (nx := 10) (n1 := 12) ag k3 k2
  have ob := obI_k ob k3 (by decide)
  have kp := kpI_c kp k3 (by decide)
  refine T_pq (x := some 10) uws_ok d_X0_init_66 (fun v => by cases v <;> exact ⟨rfl, rfl⟩) rfl (by decide) ?_
  have kp := kpI_q (j := 4) (y := some 10) (b := 1) kp (by decide)
  have ag := agI_q (j := 4) (y := some 10) (a := 1) ag (by decide)
  have ob := obI_q (j := 4) (y := 10) ob
  refine T_al d_X0_init_69 rfl ?_
  refine T_new uws_ok d_X0_init_70 rfl (by decide) (by decide +kernel) ?_
  refine T_dup d_X0_init_73 rfl ?_
  refine T_k d_X0_init_74 ?_
  refine T_callI (As := [vi 60]) d_X0_init_76 (K_X5_init_12 obI_n) rfl (Nat.le_of_ble_eq_true rfl) ⟨by decide, by decide⟩ ⟨by decide, by decide⟩ (by decide +kernel) (fun r W T q => ?_)
  obtain ⟨rfl, k1, k2⟩ := q
  have k3 := kpI_c kpI_zz k1 (Nat.le_refl _)
  have ag := agI_c (nx := 12) (n1 := 14) ag k3 k2
  have ob := obI_k ob k3 (by decide)
  have kp := kpI_c kp k3 (by decide)
  refine T_pq (x := some 12) uws_ok d_X0_init_79 (fun v => by cases v <;> exact ⟨rfl, rfl⟩) rfl (by decide) ?_
  have kp := kpI_q (j := 5) (y := some 12) (b := 1) kp (by decide)
  have ag := agI_q (j := 5) (y := some 12) (a := 1) ag (by decide)
  have ob := obI_q (j := 5) (y := 12) ob
  refine T_al d_X0_init_82 rfl ?_
  refine T_k d_X0_init_83 ?_
  refine T_newa (cd := 1) (ti := 0) d_X0_init_85 rfl rfl w1_56 rfl (Or.inl ⟨rfl, rfl⟩) ⟨by decide, by decide⟩ (by decide) (by decide +kernel) ?_
  have kp := kpI_z (nx := 14) kp (by decide)
  have ob := obI_k ob (kpI_zz (nx := 14)) (by decide)
  have ag := agI_z ag (nx := 14) rfl rfl
  refine T_pq (x := some 14) uws_ok d_X0_init_87 (fun v => by cases v <;> exact ⟨rfl, rfl⟩) rfl (by decide) ?_
  have kp := kpI_q (j := 6) (y := some 14) (b := 1) kp (by decide)
  have ag := agI_q (j := 6) (y := some 14) (a := 1) ag (by decide)
  have ob := obI_q (j := 6) (y := 14) ob
  refine T_al d_X0_init_90 rfl ?_
  refine T_k d_X0_init_91 ?_
  refine T_newa (cd := 3) (ti := 0) d_X0_init_94 rfl rfl w1_97 rfl (Or.inr (Or.inr (Or.inl ⟨rfl, rfl⟩))) ⟨by decide, by decide⟩ (by decide) (by decide +kernel) ?_
  have kp := kpI_z (nx := 15) kp (by decide)
  have ob := obI_k ob (kpI_zz (nx := 15)) (by decide)
  have ag := agI_z ag (nx := 15) rfl rfl
  refine T_pq (x := some 15) uws_ok d_X0_init_96 (fun v => by cases v <;> exact ⟨rfl, rfl⟩) rfl (by decide) ?_
  have kp := kpI_q (j := 7) (y := some 15) (b := 1) kp (by decide)
  have ag := agI_q (j := 7) (y := some 15) (a := 1) ag (by decide)
  have ob := obI_q (j := 7) (y := 15) ob
  refine T_al d_X0_init_99 rfl ?_
  refine T_k d_X0_init_100 ?_
  refine T_pi uws_ok d_X0_init_101 rfl (by decide) ?_
  have kp := kpI_v (j := 8) (x := 2) (b := 1) kp (by decide)
  have ag := agI_v (j := 8) (x := 2) (a := 1) ag (by decide)
  have ob := obI_v (j := 8) (x := 2) ob
  exact T_vret d_X0_init_104 rfl ⟨rfl, kp, agI_f ob ag rfl rfl⟩
set_option maxRecDepth 100000 in
set_option maxHeartbeats 4000000 in
theorem K_X4_init_16 {G : GG} {V : VV} {R : RR} (hz : obI 16 [] [] V R) : Runs G M_X4_init 1 17 30 [vr 16] V R (cnQ 16 30 V R) := by
  refine Runs.of pn_X4 (Nat.le_of_ble_eq_true rfl) rfl ?_
  show TT G M_X4_init (rmd 1 17 30) 17 (Zm G 17 30 (cnQ 16 30 V R)) 17 0 [(0, vr 16)] [] V R
  have kp : kpI 16 V R V R := kpI_r
  have ag : agI 17 17 V R := agI_0
  have ob := hz
  refine T_al d_X4_init_0 rfl ?_
  refine T_oi (x := vi 0) d_X4_init_1 (Nat.le_of_ble_eq_true rfl) ⟨by decide, by decide⟩ ?_
  refine T_al d_X4_init_4 rfl ?_
  refine T_k d_X4_init_5 ?_
  refine T_newa (cd := 1) (ti := 0) d_X4_init_8 rfl rfl w1_56 rfl (Or.inl ⟨rfl, rfl⟩) ⟨by decide, by decide⟩ (by decide) (by decide +kernel) ?_
  have kp := kpI_z (nx := 17) kp (by decide)
  have ob := obI_k ob (kpI_zz (nx := 17)) (by decide)
  have ag := agI_z ag (nx := 17) rfl rfl
  refine T_pq (x := some 17) uws_ok d_X4_init_10 (fun v => by cases v <;> exact ⟨rfl, rfl⟩) rfl (by decide) ?_
  have kp := kpI_q (j := 0) (y := some 17) (b := 16) kp (by decide)
  have ag := agI_q (j := 0) (y := some 17) (a := 16) ag (by decide)
  have ob := obI_q (j := 0) (y := 17) ob
  refine T_al d_X4_init_13 rfl ?_
  refine T_k d_X4_init_14 ?_
  refine T_pi uws_ok d_X4_init_15 rfl (by decide) ?_
  have kp := kpI_v (j := 1) (x := 0) (b := 16) kp (by decide)
  have ag := agI_v (j := 1) (x := 0) (a := 16) ag (by decide)
  have ob := obI_v (j := 1) (x := 0) ob
  refine T_al d_X4_init_18 rfl ?_
  refine T_k d_X4_init_19 ?_
  refine T_k d_X4_init_20 ?_
  refine T_mna (N := 5) (K := 20) d_X4_init_22 rfl w1_104 w1_56 rfl rfl rfl (by decide) ⟨by decide, by decide⟩ ⟨by decide, by decide⟩ (by decide) (by decide +kernel) (by decide +kernel) ?_
  have kp := kpI_m (nx := 18) (n := 5) kp (by decide)
  have ob := obI_k ob (kpI_m (nx := 18) (n := 5) kpI_r (Nat.le_refl _)) (by decide)
  have ag := agI_m (nx := 18) (n := 5) ag iv_m18 ir_n18 ir_m18
  refine T_pq (x := some 18) uws_ok d_X4_init_26 (fun v => by cases v <;> exact ⟨rfl, rfl⟩) rfl (by decide) ?_
  have kp := kpI_q (j := 2) (y := some 18) (b := 16) kp (by decide)
  have ag := agI_q (j := 2) (y := some 18) (a := 16) ag (by decide)
  have ob := obI_q (j := 2) (y := 18) ob
  refine T_al d_X4_init_29 rfl ?_
  refine T_k d_X4_init_30 ?_
  refine T_k d_X4_init_31 ?_
  refine T_mna (N := 5) (K := 20) d_X4_init_33 rfl w1_104 w1_56 rfl rfl rfl (by decide) ⟨by decide, by decide⟩ ⟨by decide, by decide⟩ (by decide) (by decide +kernel) (by decide +kernel) ?_
  have kp := kpI_m (nx := 24) (n := 5) kp (by decide)
  have ob := obI_k ob (kpI_m (nx := 24) (n := 5) kpI_r (Nat.le_refl _)) (by decide)
  have ag := agI_m (nx := 24) (n := 5) ag iv_m24 ir_n24 ir_m24
  refine T_pq (x := some 24) uws_ok d_X4_init_37 (fun v => by cases v <;> exact ⟨rfl, rfl⟩) rfl (by decide) ?_
  have kp := kpI_q (j := 3) (y := some 24) (b := 16) kp (by decide)
  have ag := agI_q (j := 3) (y := some 24) (a := 16) ag (by decide)
  have ob := obI_q (j := 3) (y := 24) ob
  refine T_al d_X4_init_40 rfl ?_
  refine T_k d_X4_init_41 ?_
  refine T_pi uws_ok d_X4_init_42 rfl (by decide) ?_
  have kp := kpI_v (j := 4) (x := 0) (b := 16) kp (by decide)
  have ag := agI_v (j := 4) (x := 0) (a := 16) ag (by decide)
  have ob := obI_v (j := 4) (x := 0) ob
  refine T_al d_X4_init_45 rfl ?_
  refine T_k d_X4_init_46 ?_
  refine T_pi uws_ok d_X4_init_47 rfl (by decide) ?_
  have kp := kpI_v (j := 5) (x := (-1)) (b := 16) kp (by decide)
  have ag := agI_v (j := 5) (x := (-1)) (a := 16) ag (by decide)
  have ob := obI_v (j := 5) (x := (-1)) ob
  refine T_al d_X4_init_50 rfl ?_
  refine T_k d_X4_init_51 ?_
  refine T_pi uws_ok d_X4_init_52 rfl (by decide) ?_
  have kp := kpI_v (j := 6) (x := 0) (b := 16) kp (by decide)
  have ag := agI_v (j := 6) (x := 0) (a := 16) ag (by decide)
  have ob := obI_v (j := 6) (x := 0) ob
  refine T_al d_X4_init_55 rfl ?_
  refine T_k d_X4_init_56 ?_
  refine T_pi uws_ok d_X4_init_57 rfl (by decide) ?_
  have kp := kpI_v (j := 7) (x := 0) (b := 16) kp (by decide)
  have ag := agI_v (j := 7) (x := 0) (a := 16) ag (by decide)
  have ob := obI_v (j := 7) (x := 0) ob
  exact T_vret d_X4_init_60 rfl ⟨rfl, kp, agI_f ob ag rfl rfl⟩
set_option maxRecDepth 100000 in
set_option maxHeartbeats 4000000 in
theorem K_X7_init_34 {G : GG} {V : VV} {R : RR} (hz : obI 34 [] [] V R) : Runs G M_X7_init 1 35 44 [vr 34, vr 1] V R (cnQ 34 44 V R) := by
  refine Runs.of pn_X7 (Nat.le_of_ble_eq_true rfl) rfl ?_
  show TT G M_X7_init (rmd 1 35 44) 35 (Zm G 35 44 (cnQ 34 44 V R)) 35 0 [(0, vr 34), (1, vr 1)] [] V R
  have kp : kpI 34 V R V R := kpI_r
  have ag : agI 35 35 V R := agI_0
  have ob := hz
  refine T_al d_X7_init_0 rfl ?_
  refine T_oi (x := vi 0) d_X7_init_1 (Nat.le_of_ble_eq_true rfl) ⟨by decide, by decide⟩ ?_
  refine T_al d_X7_init_4 rfl ?_
  refine T_k d_X7_init_5 ?_
  refine T_newa (cd := 3) (ti := 0) d_X7_init_7 rfl rfl w1_97 rfl (Or.inr (Or.inr (Or.inl ⟨rfl, rfl⟩))) ⟨by decide, by decide⟩ (by decide) (by decide +kernel) ?_
  have kp := kpI_z (nx := 35) kp (by decide)
  have ob := obI_k ob (kpI_zz (nx := 35)) (by decide)
  have ag := agI_z ag (nx := 35) rfl rfl
  refine T_pq (x := some 35) uws_ok d_X7_init_9 (fun v => by cases v <;> exact ⟨rfl, rfl⟩) rfl (by decide) ?_
  have kp := kpI_q (j := 1) (y := some 35) (b := 34) kp (by decide)
  have ag := agI_q (j := 1) (y := some 35) (a := 34) ag (by decide)
  have ob := obI_q (j := 1) (y := 35) ob
  refine T_al d_X7_init_12 rfl ?_
  refine T_k d_X7_init_13 ?_
  refine T_newa (cd := 1) (ti := 0) d_X7_init_15 rfl rfl w1_56 rfl (Or.inl ⟨rfl, rfl⟩) ⟨by decide, by decide⟩ (by decide) (by decide +kernel) ?_
  have kp := kpI_z (nx := 36) kp (by decide)
  have ob := obI_k ob (kpI_zz (nx := 36)) (by decide)
  have ag := agI_z ag (nx := 36) rfl rfl
  refine T_pq (x := some 36) uws_ok d_X7_init_17 (fun v => by cases v <;> exact ⟨rfl, rfl⟩) rfl (by decide) ?_
  have kp := kpI_q (j := 2) (y := some 36) (b := 34) kp (by decide)
  have ag := agI_q (j := 2) (y := some 36) (a := 34) ag (by decide)
  have ob := obI_q (j := 2) (y := 36) ob
  refine T_al d_X7_init_20 rfl ?_
  refine T_k d_X7_init_21 ?_
  refine T_newa (cd := 1) (ti := 0) d_X7_init_23 rfl rfl w1_56 rfl (Or.inl ⟨rfl, rfl⟩) ⟨by decide, by decide⟩ (by decide) (by decide +kernel) ?_
  have kp := kpI_z (nx := 37) kp (by decide)
  have ob := obI_k ob (kpI_zz (nx := 37)) (by decide)
  have ag := agI_z ag (nx := 37) rfl rfl
  refine T_pq (x := some 37) uws_ok d_X7_init_25 (fun v => by cases v <;> exact ⟨rfl, rfl⟩) rfl (by decide) ?_
  have kp := kpI_q (j := 3) (y := some 37) (b := 34) kp (by decide)
  have ag := agI_q (j := 3) (y := some 37) (a := 34) ag (by decide)
  have ob := obI_q (j := 3) (y := 37) ob
  refine T_al d_X7_init_28 rfl ?_
  refine T_k d_X7_init_29 ?_
  refine T_newa (cd := 1) (ti := 0) d_X7_init_31 rfl rfl w1_56 rfl (Or.inl ⟨rfl, rfl⟩) ⟨by decide, by decide⟩ (by decide) (by decide +kernel) ?_
  have kp := kpI_z (nx := 38) kp (by decide)
  have ob := obI_k ob (kpI_zz (nx := 38)) (by decide)
  have ag := agI_z ag (nx := 38) rfl rfl
  refine T_pq (x := some 38) uws_ok d_X7_init_33 (fun v => by cases v <;> exact ⟨rfl, rfl⟩) rfl (by decide) ?_
  have kp := kpI_q (j := 4) (y := some 38) (b := 34) kp (by decide)
  have ag := agI_q (j := 4) (y := some 38) (a := 34) ag (by decide)
  have ob := obI_q (j := 4) (y := 38) ob
  refine T_al d_X7_init_36 rfl ?_
  refine T_k d_X7_init_37 ?_
  refine T_newa (cd := 1) (ti := 0) d_X7_init_39 rfl rfl w1_56 rfl (Or.inl ⟨rfl, rfl⟩) ⟨by decide, by decide⟩ (by decide) (by decide +kernel) ?_
  have kp := kpI_z (nx := 39) kp (by decide)
  have ob := obI_k ob (kpI_zz (nx := 39)) (by decide)
  have ag := agI_z ag (nx := 39) rfl rfl
  refine T_pq (x := some 39) uws_ok d_X7_init_41 (fun v => by cases v <;> exact ⟨rfl, rfl⟩) rfl (by decide) ?_
  have kp := kpI_q (j := 5) (y := some 39) (b := 34) kp (by decide)
  have ag := agI_q (j := 5) (y := some 39) (a := 34) ag (by decide)
  have ob := obI_q (j := 5) (y := 39) ob
  refine T_al d_X7_init_44 rfl ?_
  refine T_k d_X7_init_45 ?_
  refine T_newa (cd := 1) (ti := 0) d_X7_init_47 rfl rfl w1_56 rfl (Or.inl ⟨rfl, rfl⟩) ⟨by decide, by decide⟩ (by decide) (by decide +kernel) ?_
  have kp := kpI_z (nx := 40) kp (by decide)
  have ob := obI_k ob (kpI_zz (nx := 40)) (by decide)
  have ag := agI_z ag (nx := 40) rfl rfl
  refine T_pq (x := some 40) uws_ok d_X7_init_49 (fun v => by cases v <;> exact ⟨rfl, rfl⟩) rfl (by decide) ?_
  have kp := kpI_q (j := 6) (y := some 40) (b := 34) kp (by decide)
  have ag := agI_q (j := 6) (y := some 40) (a := 34) ag (by decide)
  have ob := obI_q (j := 6) (y := 40) ob
  refine T_al d_X7_init_52 rfl ?_
  refine T_k d_X7_init_53 ?_
  refine T_newa (cd := 1) (ti := 0) d_X7_init_55 rfl rfl w1_56 rfl (Or.inl ⟨rfl, rfl⟩) ⟨by decide, by decide⟩ (by decide) (by decide +kernel) ?_
  have kp := kpI_z (nx := 41) kp (by decide)
  have ob := obI_k ob (kpI_zz (nx := 41)) (by decide)
  have ag := agI_z ag (nx := 41) rfl rfl
  refine T_pq (x := some 41) uws_ok d_X7_init_57 (fun v => by cases v <;> exact ⟨rfl, rfl⟩) rfl (by decide) ?_
  have kp := kpI_q (j := 7) (y := some 41) (b := 34) kp (by decide)
  have ag := agI_q (j := 7) (y := some 41) (a := 34) ag (by decide)
  have ob := obI_q (j := 7) (y := 41) ob
  refine T_al d_X7_init_60 rfl ?_
  refine T_k d_X7_init_61 ?_
  refine T_pi uws_ok d_X7_init_62 rfl (by decide) ?_
  have kp := kpI_v (j := 8) (x := 0) (b := 34) kp (by decide)
  have ag := agI_v (j := 8) (x := 0) (a := 34) ag (by decide)
  have ob := obI_v (j := 8) (x := 0) ob
  refine T_al d_X7_init_65 rfl ?_
  refine T_k d_X7_init_66 ?_
  refine T_pi uws_ok d_X7_init_67 rfl (by decide) ?_
  have kp := kpI_v (j := 9) (x := 0) (b := 34) kp (by decide)
  have ag := agI_v (j := 9) (x := 0) (a := 34) ag (by decide)
  have ob := obI_v (j := 9) (x := 0) ob
  refine T_al d_X7_init_70 rfl ?_
  refine T_k d_X7_init_71 ?_
  refine T_pi uws_ok d_X7_init_72 rfl (by decide) ?_
  have kp := kpI_v (j := 10) (x := 0) (b := 34) kp (by decide)
  have ag := agI_v (j := 10) (x := 0) (a := 34) ag (by decide)
  have ob := obI_v (j := 10) (x := 0) ob
  refine T_al d_X7_init_75 rfl ?_
  refine T_k d_X7_init_76 ?_
  refine T_pi uws_ok d_X7_init_77 rfl (by decide) ?_
  have kp := kpI_v (j := 11) (x := 0) (b := 34) kp (by decide)
  have ag := agI_v (j := 11) (x := 0) (a := 34) ag (by decide)
  have ob := obI_v (j := 11) (x := 0) ob
  refine T_al d_X7_init_80 rfl ?_
  refine T_k d_X7_init_81 ?_
  refine T_pi uws_ok d_X7_init_82 rfl (by decide) ?_
  have kp := kpI_v (j := 12) (x := 0) (b := 34) kp (by decide)
  have ag := agI_v (j := 12) (x := 0) (a := 34) ag (by decide)
  have ob := obI_v (j := 12) (x := 0) ob
  refine T_al d_X7_init_85 rfl ?_
  refine T_k d_X7_init_86 ?_
  refine T_newa (cd := 1) (ti := 0) d_X7_init_89 rfl rfl w1_56 rfl (Or.inl ⟨rfl, rfl⟩) ⟨by decide, by decide⟩ (by decide) (by decide +kernel) ?_
  have kp := kpI_z (nx := 42) kp (by decide)
  have ob := obI_k ob (kpI_zz (nx := 42)) (by decide)
  have ag := agI_z ag (nx := 42) rfl rfl
  refine T_pq (x := some 42) uws_ok d_X7_init_91 (fun v => by cases v <;> exact ⟨rfl, rfl⟩) rfl (by decide) ?_
  have kp := kpI_q (j := 13) (y := some 42) (b := 34) kp (by decide)
  have ag := agI_q (j := 13) (y := some 42) (a := 34) ag (by decide)
  have ob := obI_q (j := 13) (y := 42) ob
  refine T_al d_X7_init_94 rfl ?_
  refine T_k d_X7_init_95 ?_
  refine T_newa (cd := 1) (ti := 0) d_X7_init_98 rfl rfl w1_56 rfl (Or.inl ⟨rfl, rfl⟩) ⟨by decide, by decide⟩ (by decide) (by decide +kernel) ?_
  have kp := kpI_z (nx := 43) kp (by decide)
  have ob := obI_k ob (kpI_zz (nx := 43)) (by decide)
  have ag := agI_z ag (nx := 43) rfl rfl
  refine T_pq (x := some 43) uws_ok d_X7_init_100 (fun v => by cases v <;> exact ⟨rfl, rfl⟩) rfl (by decide) ?_
  have kp := kpI_q (j := 14) (y := some 43) (b := 34) kp (by decide)
  have ag := agI_q (j := 14) (y := some 43) (a := 34) ag (by decide)
  have ob := obI_q (j := 14) (y := 43) ob
  refine T_al d_X7_init_103 rfl ?_
  refine T_al d_X7_init_104 rfl ?_
  refine T_pq (x := some 1) uws_ok d_X7_init_105 (fun v => by cases v <;> exact ⟨rfl, rfl⟩) rfl (by decide) ?_
  have kp := kpI_q (j := 0) (y := some 1) (b := 34) kp (by decide)
  have ag := agI_q (j := 0) (y := some 1) (a := 34) ag (by decide)
  have ob := obI_q (j := 0) (y := 1) ob
  exact T_vret d_X7_init_108 rfl ⟨rfl, kp, agI_f ob ag rfl rfl⟩
set_option maxRecDepth 100000 in
set_option maxHeartbeats 4000000 in
theorem K_X8_init_44 {G : GG} {V : VV} {R : RR} (hz : obI 44 [] [] V R) : Runs G M_X8_init 1 45 52 [vr 44] V R (cnQ 44 52 V R) := by
  refine Runs.of pn_X8 (Nat.le_of_ble_eq_true rfl) rfl ?_
  show TT G M_X8_init (rmd 1 45 52) 45 (Zm G 45 52 (cnQ 44 52 V R)) 45 0 [(0, vr 44)] [] V R
  have kp : kpI 44 V R V R := kpI_r
  have ag : agI 45 45 V R := agI_0
  have ob := hz
  refine T_al d_X8_init_0 rfl ?_
  refine T_oi (x := vi 0) d_X8_init_1 (Nat.le_of_ble_eq_true rfl) ⟨by decide, by decide⟩ ?_
  refine T_al d_X8_init_4 rfl ?_
  refine T_k d_X8_init_5 ?_
  refine T_newa (cd := 1) (ti := 0) d_X8_init_7 rfl rfl w1_56 rfl (Or.inl ⟨rfl, rfl⟩) ⟨by decide, by decide⟩ (by decide) (by decide +kernel) ?_
  have kp := kpI_z (nx := 45) kp (by decide)
  have ob := obI_k ob (kpI_zz (nx := 45)) (by decide)
  have ag := agI_z ag (nx := 45) rfl rfl
  refine T_pq (x := some 45) uws_ok d_X8_init_9 (fun v => by cases v <;> exact ⟨rfl, rfl⟩) rfl (by decide) ?_
  have kp := kpI_q (j := 0) (y := some 45) (b := 44) kp (by decide)
  have ag := agI_q (j := 0) (y := some 45) (a := 44) ag (by decide)
  have ob := obI_q (j := 0) (y := 45) ob
  refine T_al d_X8_init_12 rfl ?_
  refine T_k d_X8_init_13 ?_
  refine T_newa (cd := 1) (ti := 0) d_X8_init_15 rfl rfl w1_56 rfl (Or.inl ⟨rfl, rfl⟩) ⟨by decide, by decide⟩ (by decide) (by decide +kernel) ?_
  have kp := kpI_z (nx := 46) kp (by decide)
  have ob := obI_k ob (kpI_zz (nx := 46)) (by decide)
  have ag := agI_z ag (nx := 46) rfl rfl
  refine T_pq (x := some 46) uws_ok d_X8_init_17 (fun v => by cases v <;> exact ⟨rfl, rfl⟩) rfl (by decide) ?_
  have kp := kpI_q (j := 1) (y := some 46) (b := 44) kp (by decide)
  have ag := agI_q (j := 1) (y := some 46) (a := 44) ag (by decide)
  have ob := obI_q (j := 1) (y := 46) ob
  refine T_al d_X8_init_20 rfl ?_
  refine T_k d_X8_init_21 ?_
  refine T_newa (cd := 1) (ti := 0) d_X8_init_23 rfl rfl w1_56 rfl (Or.inl ⟨rfl, rfl⟩) ⟨by decide, by decide⟩ (by decide) (by decide +kernel) ?_
  have kp := kpI_z (nx := 47) kp (by decide)
  have ob := obI_k ob (kpI_zz (nx := 47)) (by decide)
  have ag := agI_z ag (nx := 47) rfl rfl
  refine T_pq (x := some 47) uws_ok d_X8_init_25 (fun v => by cases v <;> exact ⟨rfl, rfl⟩) rfl (by decide) ?_
  have kp := kpI_q (j := 2) (y := some 47) (b := 44) kp (by decide)
  have ag := agI_q (j := 2) (y := some 47) (a := 44) ag (by decide)
  have ob := obI_q (j := 2) (y := 47) ob
  refine T_al d_X8_init_28 rfl ?_
  refine T_k d_X8_init_29 ?_
  refine T_newa (cd := 1) (ti := 0) d_X8_init_31 rfl rfl w1_56 rfl (Or.inl ⟨rfl, rfl⟩) ⟨by decide, by decide⟩ (by decide) (by decide +kernel) ?_
  have kp := kpI_z (nx := 48) kp (by decide)
  have ob := obI_k ob (kpI_zz (nx := 48)) (by decide)
  have ag := agI_z ag (nx := 48) rfl rfl
  refine T_pq (x := some 48) uws_ok d_X8_init_33 (fun v => by cases v <;> exact ⟨rfl, rfl⟩) rfl (by decide) ?_
  have kp := kpI_q (j := 3) (y := some 48) (b := 44) kp (by decide)
  have ag := agI_q (j := 3) (y := some 48) (a := 44) ag (by decide)
  have ob := obI_q (j := 3) (y := 48) ob
  refine T_al d_X8_init_36 rfl ?_
  refine T_k d_X8_init_37 ?_
  refine T_pi uws_ok d_X8_init_38 rfl (by decide) ?_
  have kp := kpI_v (j := 4) (x := 0) (b := 44) kp (by decide)
  have ag := agI_v (j := 4) (x := 0) (a := 44) ag (by decide)
  have ob := obI_v (j := 4) (x := 0) ob
  refine T_al d_X8_init_41 rfl ?_
  refine T_k d_X8_init_42 ?_
  refine T_newa (cd := 1) (ti := 0) d_X8_init_44 rfl rfl w1_56 rfl (Or.inl ⟨rfl, rfl⟩) ⟨by decide, by decide⟩ (by decide) (by decide +kernel) ?_
  have kp := kpI_z (nx := 49) kp (by decide)
  have ob := obI_k ob (kpI_zz (nx := 49)) (by decide)
  have ag := agI_z ag (nx := 49) rfl rfl
  refine T_pq (x := some 49) uws_ok d_X8_init_46 (fun v => by cases v <;> exact ⟨rfl, rfl⟩) rfl (by decide) ?_
  have kp := kpI_q (j := 5) (y := some 49) (b := 44) kp (by decide)
  have ag := agI_q (j := 5) (y := some 49) (a := 44) ag (by decide)
  have ob := obI_q (j := 5) (y := 49) ob
  refine T_al d_X8_init_49 rfl ?_
  refine T_k d_X8_init_50 ?_
  refine T_newa (cd := 1) (ti := 0) d_X8_init_52 rfl rfl w1_56 rfl (Or.inl ⟨rfl, rfl⟩) ⟨by decide, by decide⟩ (by decide) (by decide +kernel) ?_
  have kp := kpI_z (nx := 50) kp (by decide)
  have ob := obI_k ob (kpI_zz (nx := 50)) (by decide)
  have ag := agI_z ag (nx := 50) rfl rfl
  refine T_pq (x := some 50) uws_ok d_X8_init_54 (fun v => by cases v <;> exact ⟨rfl, rfl⟩) rfl (by decide) ?_
  have kp := kpI_q (j := 6) (y := some 50) (b := 44) kp (by decide)
  have ag := agI_q (j := 6) (y := some 50) (a := 44) ag (by decide)
  have ob := obI_q (j := 6) (y := 50) ob
  refine T_al d_X8_init_57 rfl ?_
  refine T_k d_X8_init_58 ?_
  refine T_newa (cd := 1) (ti := 0) d_X8_init_61 rfl rfl w1_56 rfl (Or.inl ⟨rfl, rfl⟩) ⟨by decide, by decide⟩ (by decide) (by decide +kernel) ?_
  have kp := kpI_z (nx := 51) kp (by decide)
  have ob := obI_k ob (kpI_zz (nx := 51)) (by decide)
  have ag := agI_z ag (nx := 51) rfl rfl
  refine T_pq (x := some 51) uws_ok d_X8_init_63 (fun v => by cases v <;> exact ⟨rfl, rfl⟩) rfl (by decide) ?_
  have kp := kpI_q (j := 7) (y := some 51) (b := 44) kp (by decide)
  have ag := agI_q (j := 7) (y := some 51) (a := 44) ag (by decide)
  have ob := obI_q (j := 7) (y := 51) ob
  exact T_vret d_X8_init_66 rfl ⟨rfl, kp, agI_f ob ag rfl rfl⟩
set_option maxRecDepth 100000 in
set_option maxHeartbeats 4000000 in
theorem K_X1_init_52 {G : GG} {V : VV} {R : RR} (hz : obI 52 [] [] V R) : Runs G M_X1_init 12 53 56 [vr 52, vr 1, vr 44] V R (cnQ 52 56 V R) := by
  refine Runs.of pn_X1 (Nat.le_of_ble_eq_true rfl) rfl ?_
  show TT G M_X1_init (rmd 12 53 56) 53 (Zm G 53 56 (cnQ 52 56 V R)) 53 0 [(0, vr 52), (1, vr 1), (2, vr 44)] [] V R
  have kp : kpI 52 V R V R := kpI_r
  have ag : agI 53 53 V R := agI_0
  have ob := hz
  refine T_al d_X1_init_0 rfl ?_
  refine T_oi (x := vi 0) d_X1_init_1 (Nat.le_of_ble_eq_true rfl) ⟨by decide, by decide⟩ ?_
  refine T_al d_X1_init_4 rfl ?_
  refine T_k d_X1_init_5 ?_
  refine T_pi uws_ok d_X1_init_6 rfl (by decide) ?_
  have kp := kpI_v (j := 2) (x := 0) (b := 52) kp (by decide)
  have ag := agI_v (j := 2) (x := 0) (a := 52) ag (by decide)
  have ob := obI_v (j := 2) (x := 0) ob
  refine T_al d_X1_init_9 rfl ?_
  refine T_null d_X1_init_10 ?_
  refine T_pq (x := none) uws_ok d_X1_init_11 (fun v => by cases v <;> exact ⟨rfl, rfl⟩) rfl (by decide) ?_
  have kp := kpI_q (j := 3) (y := none) (b := 52) kp (by decide)
  have ag := agI_q (j := 3) (y := none) (a := 52) ag (by decide)
  have ob := obI_q0 (j := 3) ob rfl
  refine T_al d_X1_init_14 rfl ?_
  refine T_k d_X1_init_15 ?_
  refine T_newa (cd := 1) (ti := 0) d_X1_init_17 rfl rfl w1_56 rfl (Or.inl ⟨rfl, rfl⟩) ⟨by decide, by decide⟩ (by decide) (by decide +kernel) ?_
  have kp := kpI_z (nx := 53) kp (by decide)
  have ob := obI_k ob (kpI_zz (nx := 53)) (by decide)
  have ag := agI_z ag (nx := 53) rfl rfl
  refine T_pq (x := some 53) uws_ok d_X1_init_19 (fun v => by cases v <;> exact ⟨rfl, rfl⟩) rfl (by decide) ?_
  have kp := kpI_q (j := 4) (y := some 53) (b := 52) kp (by decide)
  have ag := agI_q (j := 4) (y := some 53) (a := 52) ag (by decide)
  have ob := obI_q (j := 4) (y := 53) ob
  refine T_al d_X1_init_22 rfl ?_
  refine T_k d_X1_init_23 ?_
  refine T_pi uws_ok d_X1_init_24 rfl (by decide) ?_
  have kp := kpI_v (j := 5) (x := 0) (b := 52) kp (by decide)
  have ag := agI_v (j := 5) (x := 0) (a := 52) ag (by decide)
  have ob := obI_v (j := 5) (x := 0) ob
  refine T_al d_X1_init_27 rfl ?_
  refine T_k d_X1_init_28 ?_
  refine T_newa (cd := 1) (ti := 0) d_X1_init_30 rfl rfl w1_56 rfl (Or.inl ⟨rfl, rfl⟩) ⟨by decide, by decide⟩ (by decide) (by decide +kernel) ?_
  have kp := kpI_z (nx := 54) kp (by decide)
  have ob := obI_k ob (kpI_zz (nx := 54)) (by decide)
  have ag := agI_z ag (nx := 54) rfl rfl
  refine T_pq (x := some 54) uws_ok d_X1_init_32 (fun v => by cases v <;> exact ⟨rfl, rfl⟩) rfl (by decide) ?_
  have kp := kpI_q (j := 6) (y := some 54) (b := 52) kp (by decide)
  have ag := agI_q (j := 6) (y := some 54) (a := 52) ag (by decide)
  have ob := obI_q (j := 6) (y := 54) ob
  refine T_al d_X1_init_35 rfl ?_
  refine T_k d_X1_init_36 ?_
  refine T_pi uws_ok d_X1_init_37 rfl (by decide) ?_
  have kp := kpI_v (j := 7) (x := 0) (b := 52) kp (by decide)
  have ag := agI_v (j := 7) (x := 0) (a := 52) ag (by decide)
  have ob := obI_v (j := 7) (x := 0) ob
  refine T_al d_X1_init_40 rfl ?_
  refine T_new uws_ok d_X1_init_41 rfl (by decide) (by decide +kernel) ?_
  refine T_dup d_X1_init_44 rfl ?_
  refine T_callI (As := []) d_X1_init_45 (K_House (a := 55) obI_n rfl rfl) rfl (Nat.le_of_ble_eq_true rfl) ⟨by decide, by decide⟩ ⟨by decide, by decide⟩ (by decide +kernel) (fun r W T q => ?_)
  obtain ⟨rfl, k1, k2⟩ := q
  have k3 := kpI_c kpI_zz k1 (Nat.le_refl _)
  have ag := agI_c (nx := 55) (n1 := 56) ag k3 k2
  have ob := obI_k ob k3 (by decide)
  have kp := kpI_c kp k3 (by decide)
  refine T_pq (x := some 55) uws_ok d_X1_init_48 (fun v => by cases v <;> exact ⟨rfl, rfl⟩) rfl (by decide) ?_
  have kp := kpI_q (j := 8) (y := some 55) (b := 52) kp (by decide)
  have ag := agI_q (j := 8) (y := some 55) (a := 52) ag (by decide)
  have ob := obI_q (j := 8) (y := 55) ob
  refine T_al d_X1_init_51 rfl ?_
  refine T_k d_X1_init_52 ?_
  refine T_pi uws_ok d_X1_init_53 rfl (by decide) ?_
  have kp := kpI_v (j := 9) (x := 0) (b := 52) kp (by decide)
  have ag := agI_v (j := 9) (x := 0) (a := 52) ag (by decide)
  have ob := obI_v (j := 9) (x := 0) ob
  refine T_al d_X1_init_56 rfl ?_
  refine T_k d_X1_init_57 ?_
  refine T_pi uws_ok d_X1_init_58 rfl (by decide) ?_
  have kp := kpI_v (j := 10) (x := 0) (b := 52) kp (by decide)
  have ag := agI_v (j := 10) (x := 0) (a := 52) ag (by decide)
  have ob := obI_v (j := 10) (x := 0) ob
  refine T_al d_X1_init_61 rfl ?_
  refine T_k d_X1_init_62 ?_
  refine T_pi uws_ok d_X1_init_63 rfl (by decide) ?_
  have kp := kpI_v (j := 11) (x := 0) (b := 52) kp (by decide)
  have ag := agI_v (j := 11) (x := 0) (a := 52) ag (by decide)
  have ob := obI_v (j := 11) (x := 0) ob
  refine T_al d_X1_init_66 rfl ?_
  refine T_k d_X1_init_67 ?_
  refine T_pi uws_ok d_X1_init_68 rfl (by decide) ?_
  have kp := kpI_v (j := 12) (x := 0) (b := 52) kp (by decide)
  have ag := agI_v (j := 12) (x := 0) (a := 52) ag (by decide)
  have ob := obI_v (j := 12) (x := 0) ob
  refine T_al d_X1_init_71 rfl ?_
  refine T_jk d_X1_init_72 ?_
  refine T_pj uws_ok d_X1_init_73 rfl (by decide) ?_
  have kp := kpI_v (j := 13) (x := 0) (b := 52) kp (by decide)
  have ag := agI_v (j := 13) (x := 0) (a := 52) ag (by decide)
  have ob := obI_v (j := 13) (x := 0) ob
  refine T_al d_X1_init_76 rfl ?_
  refine T_k d_X1_init_77 ?_
  refine T_pz uws_ok d_X1_init_78 rfl (by decide) (Or.inl rfl) ?_
  have kp := kpI_v (j := 14) (x := 0) (b := 52) kp (by decide)
  have ag := agI_v (j := 14) (x := 0) (a := 52) ag (by decide)
  have ob := obI_v (j := 14) (x := 0) ob
  refine T_al d_X1_init_81 rfl ?_
  refine T_k d_X1_init_82 ?_
  refine T_pi uws_ok d_X1_init_83 rfl (by decide) ?_
  have kp := kpI_v (j := 15) (x := 0) (b := 52) kp (by decide)
  have ag := agI_v (j := 15) (x := 0) (a := 52) ag (by decide)
  have ob := obI_v (j := 15) (x := 0) ob
  refine T_al d_X1_init_86 rfl ?_
  refine T_al d_X1_init_87 rfl ?_
  refine T_pq (x := some 1) uws_ok d_X1_init_88 (fun v => by cases v <;> exact ⟨rfl, rfl⟩) rfl (by decide) ?_
  have kp := kpI_q (j := 0) (y := some 1) (b := 52) kp (by decide)
  have ag := agI_q (j := 0) (y := some 1) (a := 52) ag (by decide)
  have ob := obI_q (j := 0) (y := 1) ob
  refine T_al d_X1_init_91 rfl ?_
  refine T_al d_X1_init_92 rfl ?_
  refine T_pq (x := some 44) uws_ok d_X1_init_93 (fun v => by cases v <;> exact ⟨rfl, rfl⟩) rfl (by decide) ?_
  have kp := kpI_q (j := 1) (y := some 44) (b := 52) kp (by decide)
  have ag := agI_q (j := 1) (y := some 44) (a := 52) ag (by decide)
  have ob := obI_q (j := 1) (y := 44) ob
  exact T_vret d_X1_init_96 rfl ⟨rfl, kp, agI_f ob ag rfl rfl⟩
set_option maxRecDepth 100000 in
set_option maxHeartbeats 4000000 in
theorem K_X3_init_56 {G : GG} {V : VV} {R : RR} (hz : obI 56 [] [] V R) : Runs G M_X3_init 12 57 85 [vr 56] V R (cnQ 56 85 V R) := by
  refine Runs.of pn_X3 (Nat.le_of_ble_eq_true rfl) rfl ?_
  show TT G M_X3_init (rmd 12 57 85) 57 (Zm G 57 85 (cnQ 56 85 V R)) 57 0 [(0, vr 56)] [] V R
  have kp : kpI 56 V R V R := kpI_r
  have ag : agI 57 57 V R := agI_0
  have ob := hz
  refine T_al d_X3_init_0 rfl ?_
  refine T_oi (x := vi 0) d_X3_init_1 (Nat.le_of_ble_eq_true rfl) ⟨by decide, by decide⟩ ?_
  refine T_al d_X3_init_4 rfl ?_
  refine T_k d_X3_init_5 ?_
  refine T_newq ⟨_, d_X3_init_7, w2_175⟩ rfl rfl ⟨by decide, by decide⟩ (by decide) (by decide +kernel) ?_
  have kp := kpI_z (nx := 57) kp (by decide)
  have ob := obI_k ob (kpI_zz (nx := 57)) (by decide)
  have oc := obI_na (nx := 57) ag
  have agb := agI_0o (lo := 58) oc
  refine T_pq (x := some 57) uws_ok d_X3_init_10 (fun v => by cases v <;> exact ⟨rfl, rfl⟩) rfl (by decide) ?_
  have kp := kpI_q (j := 0) (y := some 57) (b := 56) kp (by decide)
  have agb := agI_q (j := 0) (y := some 57) (a := 56) agb (by decide)
  have ob := obI_q (j := 0) (y := 57) ob
  have oc := obI_oq (j := 0) (y := some 57) (b := 56) oc (by decide)
  refine T_al d_X3_init_13 rfl ?_
  refine T_k d_X3_init_14 ?_
  refine T_pi uws_ok d_X3_init_15 rfl (by decide) ?_
  have kp := kpI_v (j := 1) (x := 0) (b := 56) kp (by decide)
  have agb := agI_v (j := 1) (x := 0) (a := 56) agb (by decide)
  have ob := obI_v (j := 1) (x := 0) ob
  have oc := obI_ov (j := 1) (x := 0) (b := 56) oc (by decide)
  refine T_al d_X3_init_18 rfl ?_
  refine T_k d_X3_init_19 ?_
  refine T_newa (cd := 1) (ti := 0) d_X3_init_21 rfl rfl w1_56 rfl (Or.inl ⟨rfl, rfl⟩) ⟨by decide, by decide⟩ (by decide) (by decide +kernel) ?_
  have kp := kpI_z (nx := 58) kp (by decide)
  have ob := obI_k ob (kpI_zz (nx := 58)) (by decide)
  have oc := obI_k oc (kpI_zz (nx := 58)) (by decide)
  have agb := agI_z agb (nx := 58) rfl rfl
  refine T_pq (x := some 58) uws_ok d_X3_init_23 (fun v => by cases v <;> exact ⟨rfl, rfl⟩) rfl (by decide) ?_
  have kp := kpI_q (j := 2) (y := some 58) (b := 56) kp (by decide)
  have agb := agI_q (j := 2) (y := some 58) (a := 56) agb (by decide)
  have ob := obI_q (j := 2) (y := 58) ob
  have oc := obI_oq (j := 2) (y := some 58) (b := 56) oc (by decide)
  refine T_al d_X3_init_26 rfl ?_
  refine T_k d_X3_init_27 ?_
  refine T_pi uws_ok d_X3_init_28 rfl (by decide) ?_
  have kp := kpI_v (j := 3) (x := 0) (b := 56) kp (by decide)
  have agb := agI_v (j := 3) (x := 0) (a := 56) agb (by decide)
  have ob := obI_v (j := 3) (x := 0) ob
  have oc := obI_ov (j := 3) (x := 0) (b := 56) oc (by decide)
  refine T_al d_X3_init_31 rfl ?_
  refine T_k d_X3_init_32 ?_
  refine T_pi uws_ok d_X3_init_33 rfl (by decide) ?_
  have kp := kpI_v (j := 4) (x := 0) (b := 56) kp (by decide)
  have agb := agI_v (j := 4) (x := 0) (a := 56) agb (by decide)
  have ob := obI_v (j := 4) (x := 0) ob
  have oc := obI_ov (j := 4) (x := 0) (b := 56) oc (by decide)
  refine T_al d_X3_init_36 rfl ?_
  refine T_k d_X3_init_37 ?_
  refine T_pi uws_ok d_X3_init_38 rfl (by decide) ?_
  have kp := kpI_v (j := 5) (x := 0) (b := 56) kp (by decide)
  have agb := agI_v (j := 5) (x := 0) (a := 56) agb (by decide)
  have ob := obI_v (j := 5) (x := 0) ob
  have oc := obI_ov (j := 5) (x := 0) (b := 56) oc (by decide)
  refine T_al d_X3_init_41 rfl ?_
  refine T_k d_X3_init_42 ?_
  refine T_newa (cd := 1) (ti := 0) d_X3_init_44 rfl rfl w1_56 rfl (Or.inl ⟨rfl, rfl⟩) ⟨by decide, by decide⟩ (by decide) (by decide +kernel) ?_
  have kp := kpI_z (nx := 59) kp (by decide)
  have ob := obI_k ob (kpI_zz (nx := 59)) (by decide)
  have oc := obI_k oc (kpI_zz (nx := 59)) (by decide)
  have agb := agI_z agb (nx := 59) rfl rfl
  refine T_pq (x := some 59) uws_ok d_X3_init_46 (fun v => by cases v <;> exact ⟨rfl, rfl⟩) rfl (by decide) ?_
  have kp := kpI_q (j := 6) (y := some 59) (b := 56) kp (by decide)
  have agb := agI_q (j := 6) (y := some 59) (a := 56) agb (by decide)
  have ob := obI_q (j := 6) (y := 59) ob
  have oc := obI_oq (j := 6) (y := some 59) (b := 56) oc (by decide)
  refine T_k d_X3_init_49 ?_
  refine T_is d_X3_init_50 (show _ = [(0, vr 56), (1, vi 0)] from rfl) ?_
  refine T_il d_X3_init_51 rfl ?_
  refine T_k d_X3_init_52 ?_
  refine T_igt d_X3_init_54 ⟨by decide, by decide⟩ ⟨by decide, by decide⟩ (fun z => absurd z (by decide)) (fun _ => ?_)
  refine T_al d_X3_init_57 rfl ?_
  refine T_gr uws_ok d_X3_init_58 rfl (by decide) (b := 57) (by rw [ob.2]; rfl) ?_
  refine T_il d_X3_init_61 rfl ?_
  refine T_new uws_ok d_X3_init_62 rfl (by decide) (by decide +kernel) ?_
  refine T_dup d_X3_init_65 rfl ?_
  refine T_callI (As := []) d_X3_init_66 (K_House (a := 60) obI_n rfl rfl) rfl (Nat.le_of_ble_eq_true rfl) ⟨by decide, by decide⟩ ⟨by decide, by decide⟩ (by decide +kernel) (fun r W T q => ?_)
  obtain ⟨rfl, k1, k2⟩ := q
  have k3 := kpI_c kpI_zz k1 (Nat.le_refl _)
  have oc := obI_k oc k3 (by decide)
  have agb := agI_c (nx := 60) (n1 := 61) agb k3 k2
  have ob := obI_k ob k3 (by decide)
  have kp := kpI_c kp k3 (by decide)
  refine T_aast d_X3_init_69 rfl (by decide) ⟨by decide, by decide⟩ rfl (by decide) ?_
  rw [show ((0 : Int)).toNat = 0 from rfl]
  have kp := kpI_q (j := 0) (y := some 60) (b := 57) kp (by decide)
  have agb := agI_q (j := 0) (y := some 60) (a := 57) agb (by decide)
  have ob := obI_oq (j := 0) (y := some 60) (b := 57) ob (by decide)
  have oc := obI_q (j := 0) (y := 60) oc
  refine T_inc (y := 1) d_X3_init_70 rfl rfl (show _ = [(0, vr 56), (1, vi 1)] from rfl) ?_
  refine T_go d_X3_init_73 ?_
  refine T_il d_X3_init_51 rfl ?_
  refine T_k d_X3_init_52 ?_
  refine T_igt d_X3_init_54 ⟨by decide, by decide⟩ ⟨by decide, by decide⟩ (fun z => absurd z (by decide)) (fun _ => ?_)
  refine T_al d_X3_init_57 rfl ?_
  refine T_gr uws_ok d_X3_init_58 rfl (by decide) (b := 57) (by rw [ob.2]; rfl) ?_
  refine T_il d_X3_init_61 rfl ?_
  refine T_new uws_ok d_X3_init_62 rfl (by decide) (by decide +kernel) ?_
  refine T_dup d_X3_init_65 rfl ?_
  refine T_callI (As := []) d_X3_init_66 (K_House (a := 61) obI_n rfl rfl) rfl (Nat.le_of_ble_eq_true rfl) ⟨by decide, by decide⟩ ⟨by decide, by decide⟩ (by decide +kernel) (fun r W T q => ?_)
  obtain ⟨rfl, k1, k2⟩ := q
  have k3 := kpI_c kpI_zz k1 (Nat.le_refl _)
  have oc := obI_k oc k3 (by decide)
  have agb := agI_c (nx := 61) (n1 := 62) agb k3 k2
  have ob := obI_k ob k3 (by decide)
  have kp := kpI_c kp k3 (by decide)
  refine T_aast d_X3_init_69 rfl (by decide) ⟨by decide, by decide⟩ rfl (by decide) ?_
  rw [show ((1 : Int)).toNat = 1 from rfl]
  have kp := kpI_q (j := 1) (y := some 61) (b := 57) kp (by decide)
  have agb := agI_q (j := 1) (y := some 61) (a := 57) agb (by decide)
  have ob := obI_oq (j := 1) (y := some 61) (b := 57) ob (by decide)
  have oc := obI_q (j := 1) (y := 61) oc
  refine T_inc (y := 2) d_X3_init_70 rfl rfl (show _ = [(0, vr 56), (1, vi 2)] from rfl) ?_
  refine T_go d_X3_init_73 ?_
  refine T_il d_X3_init_51 rfl ?_
  refine T_k d_X3_init_52 ?_
  refine T_igt d_X3_init_54 ⟨by decide, by decide⟩ ⟨by decide, by decide⟩ (fun z => absurd z (by decide)) (fun _ => ?_)
  refine T_al d_X3_init_57 rfl ?_
  refine T_gr uws_ok d_X3_init_58 rfl (by decide) (b := 57) (by rw [ob.2]; rfl) ?_
  refine T_il d_X3_init_61 rfl ?_
  refine T_new uws_ok d_X3_init_62 rfl (by decide) (by decide +kernel) ?_
  refine T_dup d_X3_init_65 rfl ?_
  refine T_callI (As := []) d_X3_init_66 (K_House (a := 62) obI_n rfl rfl) rfl (Nat.le_of_ble_eq_true rfl) ⟨by decide, by decide⟩ ⟨by decide, by decide⟩ (by decide +kernel) (fun r W T q => ?_)
  obtain ⟨rfl, k1, k2⟩ := q
  have k3 := kpI_c kpI_zz k1 (Nat.le_refl _)
  have oc := obI_k oc k3 (by decide)
  have agb := agI_c (nx := 62) (n1 := 63) agb k3 k2
  have ob := obI_k ob k3 (by decide)
  have kp := kpI_c kp k3 (by decide)
  refine T_aast d_X3_init_69 rfl (by decide) ⟨by decide, by decide⟩ rfl (by decide) ?_
  rw [show ((2 : Int)).toNat = 2 from rfl]
  have kp := kpI_q (j := 2) (y := some 62) (b := 57) kp (by decide)
  have agb := agI_q (j := 2) (y := some 62) (a := 57) agb (by decide)
  have ob := obI_oq (j := 2) (y := some 62) (b := 57) ob (by decide)
  have oc := obI_q (j := 2) (y := 62) oc
  refine T_inc (y := 3) d_X3_init_70 rfl rfl (show _ = [(0, vr 56), (1, vi 3)] from rfl) ?_
  refine T_go d_X3_init_73 ?_
  refine T_il d_X3_init_51 rfl ?_
  refine T_k d_X3_init_52 ?_
  refine T_igt d_X3_init_54 ⟨by decide, by decide⟩ ⟨by decide, by decide⟩ (fun z => absurd z (by decide)) (fun _ => ?_)
  refine T_al d_X3_init_57 rfl ?_
  refine T_gr uws_ok d_X3_init_58 rfl (by decide) (b := 57) (by rw [ob.2]; rfl) ?_
  refine T_il d_X3_init_61 rfl ?_
  refine T_new uws_ok d_X3_init_62 rfl (by decide) (by decide +kernel) ?_
  refine T_dup d_X3_init_65 rfl ?_
  refine T_callI (As := []) d_X3_init_66 (K_House (a := 63) obI_n rfl rfl) rfl (Nat.le_of_ble_eq_true rfl) ⟨by decide, by decide⟩ ⟨by decide, by decide⟩ (by decide +kernel) (fun r W T q => ?_)
  obtain ⟨rfl, k1, k2⟩ := q
  have k3 := kpI_c kpI_zz k1 (Nat.le_refl _)
  have oc := obI_k oc k3 (by decide)
  have agb := agI_c (nx := 63) (n1 := 64) agb k3 k2
  have ob := obI_k ob k3 (by decide)
  have kp := kpI_c kp k3 (by decide)
  refine T_aast d_X3_init_69 rfl (by decide) ⟨by decide, by decide⟩ rfl (by decide) ?_
  rw [show ((3 : Int)).toNat = 3 from rfl]
  have kp := kpI_q (j := 3) (y := some 63) (b := 57) kp (by decide)
  have agb := agI_q (j := 3) (y := some 63) (a := 57) agb (by decide)
  have ob := obI_oq (j := 3) (y := some 63) (b := 57) ob (by decide)
  have oc := obI_q (j := 3) (y := 63) oc
  refine T_inc (y := 4) d_X3_init_70 rfl rfl (show _ = [(0, vr 56), (1, vi 4)] from rfl) ?_
  refine T_go d_X3_init_73 ?_
  refine T_il d_X3_init_51 rfl ?_
  refine T_k d_X3_init_52 ?_
  refine T_igt d_X3_init_54 ⟨by decide, by decide⟩ ⟨by decide, by decide⟩ (fun z => absurd z (by decide)) (fun _ => ?_)
  refine T_al d_X3_init_57 rfl ?_
  refine T_gr uws_ok d_X3_init_58 rfl (by decide) (b := 57) (by rw [ob.2]; rfl) ?_
  refine T_il d_X3_init_61 rfl ?_
  refine T_new uws_ok d_X3_init_62 rfl (by decide) (by decide +kernel) ?_
  refine T_dup d_X3_init_65 rfl ?_
  refine T_callI (As := []) d_X3_init_66 (K_House (a := 64) obI_n rfl rfl) rfl (Nat.le_of_ble_eq_true rfl) ⟨by decide, by decide⟩ ⟨by decide, by decide⟩ (by decide +kernel) (fun r W T q => ?_)
  obtain ⟨rfl, k1, k2⟩ := q
  have k3 := kpI_c kpI_zz k1 (Nat.le_refl _)
  have oc := obI_k oc k3 (by decide)
  have agb := agI_c (nx := 64) (n1 := 65) agb k3 k2
  have ob := obI_k ob k3 (by decide)
  have kp := kpI_c kp k3 (by decide)
  refine T_aast d_X3_init_69 rfl (by decide) ⟨by decide, by decide⟩ rfl (by decide) ?_
  rw [show ((4 : Int)).toNat = 4 from rfl]
  have kp := kpI_q (j := 4) (y := some 64) (b := 57) kp (by decide)
  have agb := agI_q (j := 4) (y := some 64) (a := 57) agb (by decide)
  have ob := obI_oq (j := 4) (y := some 64) (b := 57) ob (by decide)
  have oc := obI_q (j := 4) (y := 64) oc
  refine T_inc (y := 5) d_X3_init_70 rfl rfl (show _ = [(0, vr 56), (1, vi 5)] from rfl) ?_
  refine T_go d_X3_init_73 ?_
  refine T_il d_X3_init_51 rfl ?_
  refine T_k d_X3_init_52 ?_
  refine T_igt d_X3_init_54 ⟨by decide, by decide⟩ ⟨by decide, by decide⟩ (fun z => absurd z (by decide)) (fun _ => ?_)
  refine T_al d_X3_init_57 rfl ?_
  refine T_gr uws_ok d_X3_init_58 rfl (by decide) (b := 57) (by rw [ob.2]; rfl) ?_
  refine T_il d_X3_init_61 rfl ?_
  refine T_new uws_ok d_X3_init_62 rfl (by decide) (by decide +kernel) ?_
  refine T_dup d_X3_init_65 rfl ?_
  refine T_callI (As := []) d_X3_init_66 (K_House (a := 65) obI_n rfl rfl) rfl (Nat.le_of_ble_eq_true rfl) ⟨by decide, by decide⟩ ⟨by decide, by decide⟩ (by decide +kernel) (fun r W T q => ?_)
  obtain ⟨rfl, k1, k2⟩ := q
  have k3 := kpI_c kpI_zz k1 (Nat.le_refl _)
  have oc := obI_k oc k3 (by decide)
  have agb := agI_c (nx := 65) (n1 := 66) agb k3 k2
  have ob := obI_k ob k3 (by decide)
  have kp := kpI_c kp k3 (by decide)
  refine T_aast d_X3_init_69 rfl (by decide) ⟨by decide, by decide⟩ rfl (by decide) ?_
  rw [show ((5 : Int)).toNat = 5 from rfl]
  have kp := kpI_q (j := 5) (y := some 65) (b := 57) kp (by decide)
  have agb := agI_q (j := 5) (y := some 65) (a := 57) agb (by decide)
  have ob := obI_oq (j := 5) (y := some 65) (b := 57) ob (by decide)
  have oc := obI_q (j := 5) (y := 65) oc
  refine T_inc (y := 6) d_X3_init_70 rfl rfl (show _ = [(0, vr 56), (1, vi 6)] from rfl) ?_
  refine T_go d_X3_init_73 ?_
  refine T_il d_X3_init_51 rfl ?_
  refine T_k d_X3_init_52 ?_
  refine T_igt d_X3_init_54 ⟨by decide, by decide⟩ ⟨by decide, by decide⟩ (fun z => absurd z (by decide)) (fun _ => ?_)
  refine T_al d_X3_init_57 rfl ?_
  refine T_gr uws_ok d_X3_init_58 rfl (by decide) (b := 57) (by rw [ob.2]; rfl) ?_
  refine T_il d_X3_init_61 rfl ?_
  refine T_new uws_ok d_X3_init_62 rfl (by decide) (by decide +kernel) ?_
  refine T_dup d_X3_init_65 rfl ?_
  refine T_callI (As := []) d_X3_init_66 (K_House (a := 66) obI_n rfl rfl) rfl (Nat.le_of_ble_eq_true rfl) ⟨by decide, by decide⟩ ⟨by decide, by decide⟩ (by decide +kernel) (fun r W T q => ?_)
  obtain ⟨rfl, k1, k2⟩ := q
  have k3 := kpI_c kpI_zz k1 (Nat.le_refl _)
  have oc := obI_k oc k3 (by decide)
  have agb := agI_c (nx := 66) (n1 := 67) agb k3 k2
  have ob := obI_k ob k3 (by decide)
  have kp := kpI_c kp k3 (by decide)
  refine T_aast d_X3_init_69 rfl (by decide) ⟨by decide, by decide⟩ rfl (by decide) ?_
  rw [show ((6 : Int)).toNat = 6 from rfl]
  have kp := kpI_q (j := 6) (y := some 66) (b := 57) kp (by decide)
  have agb := agI_q (j := 6) (y := some 66) (a := 57) agb (by decide)
  have ob := obI_oq (j := 6) (y := some 66) (b := 57) ob (by decide)
  have oc := obI_q (j := 6) (y := 66) oc
  refine T_inc (y := 7) d_X3_init_70 rfl rfl (show _ = [(0, vr 56), (1, vi 7)] from rfl) ?_
  refine T_go d_X3_init_73 ?_
  refine T_il d_X3_init_51 rfl ?_
  refine T_k d_X3_init_52 ?_
  refine T_igt d_X3_init_54 ⟨by decide, by decide⟩ ⟨by decide, by decide⟩ (fun z => absurd z (by decide)) (fun _ => ?_)
  refine T_al d_X3_init_57 rfl ?_
  refine T_gr uws_ok d_X3_init_58 rfl (by decide) (b := 57) (by rw [ob.2]; rfl) ?_
  refine T_il d_X3_init_61 rfl ?_
  refine T_new uws_ok d_X3_init_62 rfl (by decide) (by decide +kernel) ?_
  refine T_dup d_X3_init_65 rfl ?_
  refine T_callI (As := []) d_X3_init_66 (K_House (a := 67) obI_n rfl rfl) rfl (Nat.le_of_ble_eq_true rfl) ⟨by decide, by decide⟩ ⟨by decide, by decide⟩ (by decide +kernel) (fun r W T q => ?_)
  obtain ⟨rfl, k1, k2⟩ := q
  have k3 := kpI_c kpI_zz k1 (Nat.le_refl _)
  have oc := obI_k oc k3 (by decide)
  have agb := agI_c (nx := 67) (n1 := 68) agb k3 k2
  have ob := obI_k ob k3 (by decide)
  have kp := kpI_c kp k3 (by decide)
  refine T_aast d_X3_init_69 rfl (by decide) ⟨by decide, by decide⟩ rfl (by decide) ?_
  rw [show ((7 : Int)).toNat = 7 from rfl]
  have kp := kpI_q (j := 7) (y := some 67) (b := 57) kp (by decide)
  have agb := agI_q (j := 7) (y := some 67) (a := 57) agb (by decide)
  have ob := obI_oq (j := 7) (y := some 67) (b := 57) ob (by decide)
  have oc := obI_q (j := 7) (y := 67) oc
  refine T_inc (y := 8) d_X3_init_70 rfl rfl (show _ = [(0, vr 56), (1, vi 8)] from rfl) ?_
  refine T_go d_X3_init_73 ?_
  refine T_il d_X3_init_51 rfl ?_
  refine T_k d_X3_init_52 ?_
  refine T_igt d_X3_init_54 ⟨by decide, by decide⟩ ⟨by decide, by decide⟩ (fun z => absurd z (by decide)) (fun _ => ?_)
  refine T_al d_X3_init_57 rfl ?_
  refine T_gr uws_ok d_X3_init_58 rfl (by decide) (b := 57) (by rw [ob.2]; rfl) ?_
  refine T_il d_X3_init_61 rfl ?_
  refine T_new uws_ok d_X3_init_62 rfl (by decide) (by decide +kernel) ?_
  refine T_dup d_X3_init_65 rfl ?_
  refine T_callI (As := []) d_X3_init_66 (K_House (a := 68) obI_n rfl rfl) rfl (Nat.le_of_ble_eq_true rfl) ⟨by decide, by decide⟩ ⟨by decide, by decide⟩ (by decide +kernel) (fun r W T q => ?_)
  obtain ⟨rfl, k1, k2⟩ := q
  have k3 := kpI_c kpI_zz k1 (Nat.le_refl _)
  have oc := obI_k oc k3 (by decide)
  have agb := agI_c (nx := 68) (n1 := 69) agb k3 k2
  have ob := obI_k ob k3 (by decide)
  have kp := kpI_c kp k3 (by decide)
  refine T_aast d_X3_init_69 rfl (by decide) ⟨by decide, by decide⟩ rfl (by decide) ?_
  rw [show ((8 : Int)).toNat = 8 from rfl]
  have kp := kpI_q (j := 8) (y := some 68) (b := 57) kp (by decide)
  have agb := agI_q (j := 8) (y := some 68) (a := 57) agb (by decide)
  have ob := obI_oq (j := 8) (y := some 68) (b := 57) ob (by decide)
  have oc := obI_q (j := 8) (y := 68) oc
  refine T_inc (y := 9) d_X3_init_70 rfl rfl (show _ = [(0, vr 56), (1, vi 9)] from rfl) ?_
  refine T_go d_X3_init_73 ?_
  refine T_il d_X3_init_51 rfl ?_
  refine T_k d_X3_init_52 ?_
  refine T_igt d_X3_init_54 ⟨by decide, by decide⟩ ⟨by decide, by decide⟩ (fun z => absurd z (by decide)) (fun _ => ?_)
  refine T_al d_X3_init_57 rfl ?_
  refine T_gr uws_ok d_X3_init_58 rfl (by decide) (b := 57) (by rw [ob.2]; rfl) ?_
  refine T_il d_X3_init_61 rfl ?_
  refine T_new uws_ok d_X3_init_62 rfl (by decide) (by decide +kernel) ?_
  refine T_dup d_X3_init_65 rfl ?_
  refine T_callI (As := []) d_X3_init_66 (K_House (a := 69) obI_n rfl rfl) rfl (Nat.le_of_ble_eq_true rfl) ⟨by decide, by decide⟩ ⟨by decide, by decide⟩ (by decide +kernel) (fun r W T q => ?_)
  obtain ⟨rfl, k1, k2⟩ := q
  have k3 := kpI_c kpI_zz k1 (Nat.le_refl _)
  have oc := obI_k oc k3 (by decide)
  have agb := agI_c (nx := 69) (n1 := 70) agb k3 k2
  have ob := obI_k ob k3 (by decide)
  have kp := kpI_c kp k3 (by decide)
  refine T_aast d_X3_init_69 rfl (by decide) ⟨by decide, by decide⟩ rfl (by decide) ?_
  rw [show ((9 : Int)).toNat = 9 from rfl]
  have kp := kpI_q (j := 9) (y := some 69) (b := 57) kp (by decide)
  have agb := agI_q (j := 9) (y := some 69) (a := 57) agb (by decide)
  have ob := obI_oq (j := 9) (y := some 69) (b := 57) ob (by decide)
  have oc := obI_q (j := 9) (y := 69) oc
  refine T_inc (y := 10) d_X3_init_70 rfl rfl (show _ = [(0, vr 56), (1, vi 10)] from rfl) ?_
  refine T_go d_X3_init_73 ?_
  refine T_il d_X3_init_51 rfl ?_
  refine T_k d_X3_init_52 ?_
  refine T_igt d_X3_init_54 ⟨by decide, by decide⟩ ⟨by decide, by decide⟩ (fun z => absurd z (by decide)) (fun _ => ?_)
  refine T_al d_X3_init_57 rfl ?_
  refine T_gr uws_ok d_X3_init_58 rfl (by decide) (b := 57) (by rw [ob.2]; rfl) ?_
  refine T_il d_X3_init_61 rfl ?_
  refine T_new uws_ok d_X3_init_62 rfl (by decide) (by decide +kernel) ?_
  refine T_dup d_X3_init_65 rfl ?_
  refine T_callI (As := []) d_X3_init_66 (K_House (a := 70) obI_n rfl rfl) rfl (Nat.le_of_ble_eq_true rfl) ⟨by decide, by decide⟩ ⟨by decide, by decide⟩ (by decide +kernel) (fun r W T q => ?_)
  obtain ⟨rfl, k1, k2⟩ := q
  have k3 := kpI_c kpI_zz k1 (Nat.le_refl _)
  have oc := obI_k oc k3 (by decide)
  have agb := agI_c (nx := 70) (n1 := 71) agb k3 k2
  have ob := obI_k ob k3 (by decide)
  have kp := kpI_c kp k3 (by decide)
  refine T_aast d_X3_init_69 rfl (by decide) ⟨by decide, by decide⟩ rfl (by decide) ?_
  rw [show ((10 : Int)).toNat = 10 from rfl]
  have kp := kpI_q (j := 10) (y := some 70) (b := 57) kp (by decide)
  have agb := agI_q (j := 10) (y := some 70) (a := 57) agb (by decide)
  have ob := obI_oq (j := 10) (y := some 70) (b := 57) ob (by decide)
  have oc := obI_q (j := 10) (y := 70) oc
  refine T_inc (y := 11) d_X3_init_70 rfl rfl (show _ = [(0, vr 56), (1, vi 11)] from rfl) ?_
  refine T_go d_X3_init_73 ?_
  refine T_il d_X3_init_51 rfl ?_
  refine T_k d_X3_init_52 ?_
  refine T_igt d_X3_init_54 ⟨by decide, by decide⟩ ⟨by decide, by decide⟩ (fun z => absurd z (by decide)) (fun _ => ?_)
  refine T_al d_X3_init_57 rfl ?_
  refine T_gr uws_ok d_X3_init_58 rfl (by decide) (b := 57) (by rw [ob.2]; rfl) ?_
  refine T_il d_X3_init_61 rfl ?_
  refine T_new uws_ok d_X3_init_62 rfl (by decide) (by decide +kernel) ?_
  refine T_dup d_X3_init_65 rfl ?_
  refine T_callI (As := []) d_X3_init_66 (K_House (a := 71) obI_n rfl rfl) rfl (Nat.le_of_ble_eq_true rfl) ⟨by decide, by decide⟩ ⟨by decide, by decide⟩ (by decide +kernel) (fun r W T q => ?_)
  obtain ⟨rfl, k1, k2⟩ := q
  have k3 := kpI_c kpI_zz k1 (Nat.le_refl _)
  have oc := obI_k oc k3 (by decide)
  have agb := agI_c (nx := 71) (n1 := 72) agb k3 k2
  have ob := obI_k ob k3 (by decide)
  have kp := kpI_c kp k3 (by decide)
  refine T_aast d_X3_init_69 rfl (by decide) ⟨by decide, by decide⟩ rfl (by decide) ?_
  rw [show ((11 : Int)).toNat = 11 from rfl]
  have kp := kpI_q (j := 11) (y := some 71) (b := 57) kp (by decide)
  have agb := agI_q (j := 11) (y := some 71) (a := 57) agb (by decide)
  have ob := obI_oq (j := 11) (y := some 71) (b := 57) ob (by decide)
  have oc := obI_q (j := 11) (y := 71) oc
  refine T_inc (y := 12) d_X3_init_70 rfl rfl (show _ = [(0, vr 56), (1, vi 12)] from rfl) ?_
  refine T_go d_X3_init_73 ?_
  refine T_il d_X3_init_51 rfl ?_
  refine T_k d_X3_init_52 ?_
  refine T_igt d_X3_init_54 ⟨by decide, by decide⟩ ⟨by decide, by decide⟩ (fun z => absurd z (by decide)) (fun _ => ?_)
  refine T_al d_X3_init_57 rfl ?_
  refine T_gr uws_ok d_X3_init_58 rfl (by decide) (b := 57) (by rw [ob.2]; rfl) ?_
  refine T_il d_X3_init_61 rfl ?_
  refine T_new uws_ok d_X3_init_62 rfl (by decide) (by decide +kernel) ?_
  refine T_dup d_X3_init_65 rfl ?_
  refine T_callI (As := []) d_X3_init_66 (K_House (a := 72) obI_n rfl rfl) rfl (Nat.le_of_ble_eq_true rfl) ⟨by decide, by decide⟩ ⟨by decide, by decide⟩ (by decide +kernel) (fun r W T q => ?_)
  obtain ⟨rfl, k1, k2⟩ := q
  have k3 := kpI_c kpI_zz k1 (Nat.le_refl _)
  have oc := obI_k oc k3 (by decide)
  have agb := agI_c (nx := 72) (n1 := 73) agb k3 k2
  have ob := obI_k ob k3 (by decide)
  have kp := kpI_c kp k3 (by decide)
  refine T_aast d_X3_init_69 rfl (by decide) ⟨by decide, by decide⟩ rfl (by decide) ?_
  rw [show ((12 : Int)).toNat = 12 from rfl]
  have kp := kpI_q (j := 12) (y := some 72) (b := 57) kp (by decide)
  have agb := agI_q (j := 12) (y := some 72) (a := 57) agb (by decide)
  have ob := obI_oq (j := 12) (y := some 72) (b := 57) ob (by decide)
  have oc := obI_q (j := 12) (y := 72) oc
  refine T_inc (y := 13) d_X3_init_70 rfl rfl (show _ = [(0, vr 56), (1, vi 13)] from rfl) ?_
  refine T_go d_X3_init_73 ?_
  refine T_il d_X3_init_51 rfl ?_
  refine T_k d_X3_init_52 ?_
  refine T_igt d_X3_init_54 ⟨by decide, by decide⟩ ⟨by decide, by decide⟩ (fun z => absurd z (by decide)) (fun _ => ?_)
  refine T_al d_X3_init_57 rfl ?_
  refine T_gr uws_ok d_X3_init_58 rfl (by decide) (b := 57) (by rw [ob.2]; rfl) ?_
  refine T_il d_X3_init_61 rfl ?_
  refine T_new uws_ok d_X3_init_62 rfl (by decide) (by decide +kernel) ?_
  refine T_dup d_X3_init_65 rfl ?_
  refine T_callI (As := []) d_X3_init_66 (K_House (a := 73) obI_n rfl rfl) rfl (Nat.le_of_ble_eq_true rfl) ⟨by decide, by decide⟩ ⟨by decide, by decide⟩ (by decide +kernel) (fun r W T q => ?_)
  obtain ⟨rfl, k1, k2⟩ := q
  have k3 := kpI_c kpI_zz k1 (Nat.le_refl _)
  have oc := obI_k oc k3 (by decide)
  have agb := agI_c (nx := 73) (n1 := 74) agb k3 k2
  have ob := obI_k ob k3 (by decide)
  have kp := kpI_c kp k3 (by decide)
  refine T_aast d_X3_init_69 rfl (by decide) ⟨by decide, by decide⟩ rfl (by decide) ?_
  rw [show ((13 : Int)).toNat = 13 from rfl]
  have kp := kpI_q (j := 13) (y := some 73) (b := 57) kp (by decide)
  have agb := agI_q (j := 13) (y := some 73) (a := 57) agb (by decide)
  have ob := obI_oq (j := 13) (y := some 73) (b := 57) ob (by decide)
  have oc := obI_q (j := 13) (y := 73) oc
  refine T_inc (y := 14) d_X3_init_70 rfl rfl (show _ = [(0, vr 56), (1, vi 14)] from rfl) ?_
  refine T_go d_X3_init_73 ?_
  refine T_il d_X3_init_51 rfl ?_
  refine T_k d_X3_init_52 ?_
  refine T_igt d_X3_init_54 ⟨by decide, by decide⟩ ⟨by decide, by decide⟩ (fun z => absurd z (by decide)) (fun _ => ?_)
  refine T_al d_X3_init_57 rfl ?_
  refine T_gr uws_ok d_X3_init_58 rfl (by decide) (b := 57) (by rw [ob.2]; rfl) ?_
  refine T_il d_X3_init_61 rfl ?_
  refine T_new uws_ok d_X3_init_62 rfl (by decide) (by decide +kernel) ?_
  refine T_dup d_X3_init_65 rfl ?_
  refine T_callI (As := []) d_X3_init_66 (K_House (a := 74) obI_n rfl rfl) rfl (Nat.le_of_ble_eq_true rfl) ⟨by decide, by decide⟩ ⟨by decide, by decide⟩ (by decide +kernel) (fun r W T q => ?_)
  obtain ⟨rfl, k1, k2⟩ := q
  have k3 := kpI_c kpI_zz k1 (Nat.le_refl _)
  have oc := obI_k oc k3 (by decide)
  have agb := agI_c (nx := 74) (n1 := 75) agb k3 k2
  have ob := obI_k ob k3 (by decide)
  have kp := kpI_c kp k3 (by decide)
  refine T_aast d_X3_init_69 rfl (by decide) ⟨by decide, by decide⟩ rfl (by decide) ?_
  rw [show ((14 : Int)).toNat = 14 from rfl]
  have kp := kpI_q (j := 14) (y := some 74) (b := 57) kp (by decide)
  have agb := agI_q (j := 14) (y := some 74) (a := 57) agb (by decide)
  have ob := obI_oq (j := 14) (y := some 74) (b := 57) ob (by decide)
  have oc := obI_q (j := 14) (y := 74) oc
  refine T_inc (y := 15) d_X3_init_70 rfl rfl (show _ = [(0, vr 56), (1, vi 15)] from rfl) ?_
  refine T_go d_X3_init_73 ?_
  refine T_il d_X3_init_51 rfl ?_
  refine T_k d_X3_init_52 ?_
  refine T_igt d_X3_init_54 ⟨by decide, by decide⟩ ⟨by decide, by decide⟩ (fun z => absurd z (by decide)) (fun _ => ?_)
  refine T_al d_X3_init_57 rfl ?_
  refine T_gr uws_ok d_X3_init_58 rfl (by decide) (b := 57) (by rw [ob.2]; rfl) ?_
  refine T_il d_X3_init_61 rfl ?_
  refine T_new uws_ok d_X3_init_62 rfl (by decide) (by decide +kernel) ?_
  refine T_dup d_X3_init_65 rfl ?_
  refine T_callI (As := []) d_X3_init_66 (K_House (a := 75) obI_n rfl rfl) rfl (Nat.le_of_ble_eq_true rfl) ⟨by decide, by decide⟩ ⟨by decide, by decide⟩ (by decide +kernel) (fun r W T q => ?_)
  obtain ⟨rfl, k1, k2⟩ := q
  have k3 := kpI_c kpI_zz k1 (Nat.le_refl _)
  have oc := obI_k oc k3 (by decide)
  have agb := agI_c (nx := 75) (n1 := 76) agb k3 k2
  have ob := obI_k ob k3 (by decide)
  have kp := kpI_c kp k3 (by decide)
  refine T_aast d_X3_init_69 rfl (by decide) ⟨by decide, by decide⟩ rfl (by decide) ?_
  rw [show ((15 : Int)).toNat = 15 from rfl]
  have kp := kpI_q (j := 15) (y := some 75) (b := 57) kp (by decide)
  have agb := agI_q (j := 15) (y := some 75) (a := 57) agb (by decide)
  have ob := obI_oq (j := 15) (y := some 75) (b := 57) ob (by decide)
  have oc := obI_q (j := 15) (y := 75) oc
  refine T_inc (y := 16) d_X3_init_70 rfl rfl (show _ = [(0, vr 56), (1, vi 16)] from rfl) ?_
  refine T_go d_X3_init_73 ?_
  refine T_il d_X3_init_51 rfl ?_
  refine T_k d_X3_init_52 ?_
  refine T_igt d_X3_init_54 ⟨by decide, by decide⟩ ⟨by decide, by decide⟩ (fun z => absurd z (by decide)) (fun _ => ?_)
  refine T_al d_X3_init_57 rfl ?_
  refine T_gr uws_ok d_X3_init_58 rfl (by decide) (b := 57) (by rw [ob.2]; rfl) ?_
  refine T_il d_X3_init_61 rfl ?_
  refine T_new uws_ok d_X3_init_62 rfl (by decide) (by decide +kernel) ?_
  refine T_dup d_X3_init_65 rfl ?_
  refine T_callI (As := []) d_X3_init_66 (K_House (a := 76) obI_n rfl rfl) rfl (Nat.le_of_ble_eq_true rfl) ⟨by decide, by decide⟩ ⟨by decide, by decide⟩ (by decide +kernel) (fun r W T q => ?_)
  obtain ⟨rfl, k1, k2⟩ := q
  have k3 := kpI_c kpI_zz k1 (Nat.le_refl _)
  have oc := obI_k oc k3 (by decide)
  have agb := agI_c (nx := 76) (n1 := 77) agb k3 k2
  have ob := obI_k ob k3 (by decide)
  have kp := kpI_c kp k3 (by decide)
  refine T_aast d_X3_init_69 rfl (by decide) ⟨by decide, by decide⟩ rfl (by decide) ?_
  rw [show ((16 : Int)).toNat = 16 from rfl]
  have kp := kpI_q (j := 16) (y := some 76) (b := 57) kp (by decide)
  have agb := agI_q (j := 16) (y := some 76) (a := 57) agb (by decide)
  have ob := obI_oq (j := 16) (y := some 76) (b := 57) ob (by decide)
  have oc := obI_q (j := 16) (y := 76) oc
  refine T_inc (y := 17) d_X3_init_70 rfl rfl (show _ = [(0, vr 56), (1, vi 17)] from rfl) ?_
  refine T_go d_X3_init_73 ?_
  refine T_il d_X3_init_51 rfl ?_
  refine T_k d_X3_init_52 ?_
  refine T_igt d_X3_init_54 ⟨by decide, by decide⟩ ⟨by decide, by decide⟩ (fun z => absurd z (by decide)) (fun _ => ?_)
  refine T_al d_X3_init_57 rfl ?_
  refine T_gr uws_ok d_X3_init_58 rfl (by decide) (b := 57) (by rw [ob.2]; rfl) ?_
  refine T_il d_X3_init_61 rfl ?_
  refine T_new uws_ok d_X3_init_62 rfl (by decide) (by decide +kernel) ?_
  refine T_dup d_X3_init_65 rfl ?_
  refine T_callI (As := []) d_X3_init_66 (K_House (a := 77) obI_n rfl rfl) rfl (Nat.le_of_ble_eq_true rfl) ⟨by decide, by decide⟩ ⟨by decide, by decide⟩ (by decide +kernel) (fun r W T q => ?_)
  obtain ⟨rfl, k1, k2⟩ := q
  have k3 := kpI_c kpI_zz k1 (Nat.le_refl _)
  have oc := obI_k oc k3 (by decide)
  have agb := agI_c (nx := 77) (n1 := 78) agb k3 k2
  have ob := obI_k ob k3 (by decide)
  have kp := kpI_c kp k3 (by decide)
  refine T_aast d_X3_init_69 rfl (by decide) ⟨by decide, by decide⟩ rfl (by decide) ?_
  rw [show ((17 : Int)).toNat = 17 from rfl]
  have kp := kpI_q (j := 17) (y := some 77) (b := 57) kp (by decide)
  have agb := agI_q (j := 17) (y := some 77) (a := 57) agb (by decide)
  have ob := obI_oq (j := 17) (y := some 77) (b := 57) ob (by decide)
  have oc := obI_q (j := 17) (y := 77) oc
  refine T_inc (y := 18) d_X3_init_70 rfl rfl (show _ = [(0, vr 56), (1, vi 18)] from rfl) ?_
  refine T_go d_X3_init_73 ?_
  refine T_il d_X3_init_51 rfl ?_
  refine T_k d_X3_init_52 ?_
  refine T_igt d_X3_init_54 ⟨by decide, by decide⟩ ⟨by decide, by decide⟩ (fun z => absurd z (by decide)) (fun _ => ?_)
  refine T_al d_X3_init_57 rfl ?_
  refine T_gr uws_ok d_X3_init_58 rfl (by decide) (b := 57) (by rw [ob.2]; rfl) ?_
  refine T_il d_X3_init_61 rfl ?_
  refine T_new uws_ok d_X3_init_62 rfl (by decide) (by decide +kernel) ?_
  refine T_dup d_X3_init_65 rfl ?_
  refine T_callI (As := []) d_X3_init_66 (K_House (a := 78) obI_n rfl rfl) rfl (Nat.le_of_ble_eq_true rfl) ⟨by decide, by decide⟩ ⟨by decide, by decide⟩ (by decide +kernel) (fun r W T q => ?_)
  obtain ⟨rfl, k1, k2⟩ := q
  have k3 := kpI_c kpI_zz k1 (Nat.le_refl _)
  have oc := obI_k oc k3 (by decide)
  have agb := agI_c (nx := 78) (n1 := 79) agb k3 k2
  have ob := obI_k ob k3 (by decide)
  have kp := kpI_c kp k3 (by decide)
  refine T_aast d_X3_init_69 rfl (by decide) ⟨by decide, by decide⟩ rfl (by decide) ?_
  rw [show ((18 : Int)).toNat = 18 from rfl]
  have kp := kpI_q (j := 18) (y := some 78) (b := 57) kp (by decide)
  have agb := agI_q (j := 18) (y := some 78) (a := 57) agb (by decide)
  have ob := obI_oq (j := 18) (y := some 78) (b := 57) ob (by decide)
  have oc := obI_q (j := 18) (y := 78) oc
  refine T_inc (y := 19) d_X3_init_70 rfl rfl (show _ = [(0, vr 56), (1, vi 19)] from rfl) ?_
  refine T_go d_X3_init_73 ?_
  refine T_il d_X3_init_51 rfl ?_
  refine T_k d_X3_init_52 ?_
  refine T_igt d_X3_init_54 ⟨by decide, by decide⟩ ⟨by decide, by decide⟩ (fun z => absurd z (by decide)) (fun _ => ?_)
  refine T_al d_X3_init_57 rfl ?_
  refine T_gr uws_ok d_X3_init_58 rfl (by decide) (b := 57) (by rw [ob.2]; rfl) ?_
  refine T_il d_X3_init_61 rfl ?_
  refine T_new uws_ok d_X3_init_62 rfl (by decide) (by decide +kernel) ?_
  refine T_dup d_X3_init_65 rfl ?_
  refine T_callI (As := []) d_X3_init_66 (K_House (a := 79) obI_n rfl rfl) rfl (Nat.le_of_ble_eq_true rfl) ⟨by decide, by decide⟩ ⟨by decide, by decide⟩ (by decide +kernel) (fun r W T q => ?_)
  obtain ⟨rfl, k1, k2⟩ := q
  have k3 := kpI_c kpI_zz k1 (Nat.le_refl _)
  have oc := obI_k oc k3 (by decide)
  have agb := agI_c (nx := 79) (n1 := 80) agb k3 k2
  have ob := obI_k ob k3 (by decide)
  have kp := kpI_c kp k3 (by decide)
  refine T_aast d_X3_init_69 rfl (by decide) ⟨by decide, by decide⟩ rfl (by decide) ?_
  rw [show ((19 : Int)).toNat = 19 from rfl]
  have kp := kpI_q (j := 19) (y := some 79) (b := 57) kp (by decide)
  have agb := agI_q (j := 19) (y := some 79) (a := 57) agb (by decide)
  have ob := obI_oq (j := 19) (y := some 79) (b := 57) ob (by decide)
  have oc := obI_q (j := 19) (y := 79) oc
  refine T_inc (y := 20) d_X3_init_70 rfl rfl (show _ = [(0, vr 56), (1, vi 20)] from rfl) ?_
  refine T_go d_X3_init_73 ?_
  refine T_il d_X3_init_51 rfl ?_
  refine T_k d_X3_init_52 ?_
  refine T_igt d_X3_init_54 ⟨by decide, by decide⟩ ⟨by decide, by decide⟩ (fun z => absurd z (by decide)) (fun _ => ?_)
  refine T_al d_X3_init_57 rfl ?_
  refine T_gr uws_ok d_X3_init_58 rfl (by decide) (b := 57) (by rw [ob.2]; rfl) ?_
  refine T_il d_X3_init_61 rfl ?_
  refine T_new uws_ok d_X3_init_62 rfl (by decide) (by decide +kernel) ?_
  refine T_dup d_X3_init_65 rfl ?_
  refine T_callI (As := []) d_X3_init_66 (K_House (a := 80) obI_n rfl rfl) rfl (Nat.le_of_ble_eq_true rfl) ⟨by decide, by decide⟩ ⟨by decide, by decide⟩ (by decide +kernel) (fun r W T q => ?_)
  obtain ⟨rfl, k1, k2⟩ := q
  have k3 := kpI_c kpI_zz k1 (Nat.le_refl _)
  have oc := obI_k oc k3 (by decide)
  have agb := agI_c (nx := 80) (n1 := 81) agb k3 k2
  have ob := obI_k ob k3 (by decide)
  have kp := kpI_c kp k3 (by decide)
  refine T_aast d_X3_init_69 rfl (by decide) ⟨by decide, by decide⟩ rfl (by decide) ?_
  rw [show ((20 : Int)).toNat = 20 from rfl]
  have kp := kpI_q (j := 20) (y := some 80) (b := 57) kp (by decide)
  have agb := agI_q (j := 20) (y := some 80) (a := 57) agb (by decide)
  have ob := obI_oq (j := 20) (y := some 80) (b := 57) ob (by decide)
  have oc := obI_q (j := 20) (y := 80) oc
  refine T_inc (y := 21) d_X3_init_70 rfl rfl (show _ = [(0, vr 56), (1, vi 21)] from rfl) ?_
  refine T_go d_X3_init_73 ?_
  refine T_il d_X3_init_51 rfl ?_
  refine T_k d_X3_init_52 ?_
  refine T_igt d_X3_init_54 ⟨by decide, by decide⟩ ⟨by decide, by decide⟩ (fun z => absurd z (by decide)) (fun _ => ?_)
  refine T_al d_X3_init_57 rfl ?_
  refine T_gr uws_ok d_X3_init_58 rfl (by decide) (b := 57) (by rw [ob.2]; rfl) ?_
  refine T_il d_X3_init_61 rfl ?_
  refine T_new uws_ok d_X3_init_62 rfl (by decide) (by decide +kernel) ?_
  refine T_dup d_X3_init_65 rfl ?_
  refine T_callI (As := []) d_X3_init_66 (K_House (a := 81) obI_n rfl rfl) rfl (Nat.le_of_ble_eq_true rfl) ⟨by decide, by decide⟩ ⟨by decide, by decide⟩ (by decide +kernel) (fun r W T q => ?_)
  obtain ⟨rfl, k1, k2⟩ := q
  have k3 := kpI_c kpI_zz k1 (Nat.le_refl _)
  have oc := obI_k oc k3 (by decide)
  have agb := agI_c (nx := 81) (n1 := 82) agb k3 k2
  have ob := obI_k ob k3 (by decide)
  have kp := kpI_c kp k3 (by decide)
  refine T_aast d_X3_init_69 rfl (by decide) ⟨by decide, by decide⟩ rfl (by decide) ?_
  rw [show ((21 : Int)).toNat = 21 from rfl]
  have kp := kpI_q (j := 21) (y := some 81) (b := 57) kp (by decide)
  have agb := agI_q (j := 21) (y := some 81) (a := 57) agb (by decide)
  have ob := obI_oq (j := 21) (y := some 81) (b := 57) ob (by decide)
  have oc := obI_q (j := 21) (y := 81) oc
  refine T_inc (y := 22) d_X3_init_70 rfl rfl (show _ = [(0, vr 56), (1, vi 22)] from rfl) ?_
  refine T_go d_X3_init_73 ?_
  refine T_il d_X3_init_51 rfl ?_
  refine T_k d_X3_init_52 ?_
  refine T_igt d_X3_init_54 ⟨by decide, by decide⟩ ⟨by decide, by decide⟩ (fun z => absurd z (by decide)) (fun _ => ?_)
  refine T_al d_X3_init_57 rfl ?_
  refine T_gr uws_ok d_X3_init_58 rfl (by decide) (b := 57) (by rw [ob.2]; rfl) ?_
  refine T_il d_X3_init_61 rfl ?_
  refine T_new uws_ok d_X3_init_62 rfl (by decide) (by decide +kernel) ?_
  refine T_dup d_X3_init_65 rfl ?_
  refine T_callI (As := []) d_X3_init_66 (K_House (a := 82) obI_n rfl rfl) rfl (Nat.le_of_ble_eq_true rfl) ⟨by decide, by decide⟩ ⟨by decide, by decide⟩ (by decide +kernel) (fun r W T q => ?_)
  obtain ⟨rfl, k1, k2⟩ := q
  have k3 := kpI_c kpI_zz k1 (Nat.le_refl _)
  have oc := obI_k oc k3 (by decide)
  have agb := agI_c (nx := 82) (n1 := 83) agb k3 k2
  have ob := obI_k ob k3 (by decide)
  have kp := kpI_c kp k3 (by decide)
  refine T_aast d_X3_init_69 rfl (by decide) ⟨by decide, by decide⟩ rfl (by decide) ?_
  rw [show ((22 : Int)).toNat = 22 from rfl]
  have kp := kpI_q (j := 22) (y := some 82) (b := 57) kp (by decide)
  have agb := agI_q (j := 22) (y := some 82) (a := 57) agb (by decide)
  have ob := obI_oq (j := 22) (y := some 82) (b := 57) ob (by decide)
  have oc := obI_q (j := 22) (y := 82) oc
  refine T_inc (y := 23) d_X3_init_70 rfl rfl (show _ = [(0, vr 56), (1, vi 23)] from rfl) ?_
  refine T_go d_X3_init_73 ?_
  refine T_il d_X3_init_51 rfl ?_
  refine T_k d_X3_init_52 ?_
  refine T_igt d_X3_init_54 ⟨by decide, by decide⟩ ⟨by decide, by decide⟩ (fun z => absurd z (by decide)) (fun _ => ?_)
  refine T_al d_X3_init_57 rfl ?_
  refine T_gr uws_ok d_X3_init_58 rfl (by decide) (b := 57) (by rw [ob.2]; rfl) ?_
  refine T_il d_X3_init_61 rfl ?_
  refine T_new uws_ok d_X3_init_62 rfl (by decide) (by decide +kernel) ?_
  refine T_dup d_X3_init_65 rfl ?_
  refine T_callI (As := []) d_X3_init_66 (K_House (a := 83) obI_n rfl rfl) rfl (Nat.le_of_ble_eq_true rfl) ⟨by decide, by decide⟩ ⟨by decide, by decide⟩ (by decide +kernel) (fun r W T q => ?_)
  obtain ⟨rfl, k1, k2⟩ := q
  have k3 := kpI_c kpI_zz k1 (Nat.le_refl _)
  have oc := obI_k oc k3 (by decide)
  have agb := agI_c (nx := 83) (n1 := 84) agb k3 k2
  have ob := obI_k ob k3 (by decide)
  have kp := kpI_c kp k3 (by decide)
  refine T_aast d_X3_init_69 rfl (by decide) ⟨by decide, by decide⟩ rfl (by decide) ?_
  rw [show ((23 : Int)).toNat = 23 from rfl]
  have kp := kpI_q (j := 23) (y := some 83) (b := 57) kp (by decide)
  have agb := agI_q (j := 23) (y := some 83) (a := 57) agb (by decide)
  have ob := obI_oq (j := 23) (y := some 83) (b := 57) ob (by decide)
  have oc := obI_q (j := 23) (y := 83) oc
  refine T_inc (y := 24) d_X3_init_70 rfl rfl (show _ = [(0, vr 56), (1, vi 24)] from rfl) ?_
  refine T_go d_X3_init_73 ?_
  refine T_il d_X3_init_51 rfl ?_
  refine T_k d_X3_init_52 ?_
  refine T_igt d_X3_init_54 ⟨by decide, by decide⟩ ⟨by decide, by decide⟩ (fun z => absurd z (by decide)) (fun _ => ?_)
  refine T_al d_X3_init_57 rfl ?_
  refine T_gr uws_ok d_X3_init_58 rfl (by decide) (b := 57) (by rw [ob.2]; rfl) ?_
  refine T_il d_X3_init_61 rfl ?_
  refine T_new uws_ok d_X3_init_62 rfl (by decide) (by decide +kernel) ?_
  refine T_dup d_X3_init_65 rfl ?_
  refine T_callI (As := []) d_X3_init_66 (K_House (a := 84) obI_n rfl rfl) rfl (Nat.le_of_ble_eq_true rfl) ⟨by decide, by decide⟩ ⟨by decide, by decide⟩ (by decide +kernel) (fun r W T q => ?_)
  obtain ⟨rfl, k1, k2⟩ := q
  have k3 := kpI_c kpI_zz k1 (Nat.le_refl _)
  have oc := obI_k oc k3 (by decide)
  have agb := agI_c (nx := 84) (n1 := 85) agb k3 k2
  have ob := obI_k ob k3 (by decide)
  have kp := kpI_c kp k3 (by decide)
  refine T_aast d_X3_init_69 rfl (by decide) ⟨by decide, by decide⟩ rfl (by decide) ?_
  rw [show ((24 : Int)).toNat = 24 from rfl]
  have kp := kpI_q (j := 24) (y := some 84) (b := 57) kp (by decide)
  have agb := agI_q (j := 24) (y := some 84) (a := 57) agb (by decide)
  have ob := obI_oq (j := 24) (y := some 84) (b := 57) ob (by decide)
  have oc := obI_q (j := 24) (y := 84) oc
  refine T_inc (y := 25) d_X3_init_70 rfl rfl (show _ = [(0, vr 56), (1, vi 25)] from rfl) ?_
  refine T_go d_X3_init_73 ?_
  refine T_il d_X3_init_51 rfl ?_
  refine T_k d_X3_init_52 ?_
  refine T_igt d_X3_init_54 ⟨by decide, by decide⟩ ⟨by decide, by decide⟩ (fun _ => ?_) (fun z => absurd z (by decide))
  have ag := agI_c (agI_o (agI_0o (lo := 57) oc) oc rfl rfl) kpI_r agb
  exact T_vret d_X3_init_76 rfl ⟨rfl, kp, agI_f ob ag rfl rfl⟩
set_option maxRecDepth 100000 in
set_option maxHeartbeats 4000000 in
theorem K_X6_init_85 {G : GG} {V : VV} {R : RR} (hz : obI 85 [] [] V R) : Runs G M_X6_init 1 86 99 [vr 85] V R (cnQ 85 99 V R) := by
  refine Runs.of pn_X6 (Nat.le_of_ble_eq_true rfl) rfl ?_
  show TT G M_X6_init (rmd 1 86 99) 86 (Zm G 86 99 (cnQ 85 99 V R)) 86 0 [(0, vr 85)] [] V R
  have kp : kpI 85 V R V R := kpI_r
  have ag : agI 86 86 V R := agI_0
  have ob := hz
  refine T_al d_X6_init_0 rfl ?_
  refine T_oi (x := vi 0) d_X6_init_1 (Nat.le_of_ble_eq_true rfl) ⟨by decide, by decide⟩ ?_
  refine T_al d_X6_init_4 rfl ?_
  refine T_k d_X6_init_5 ?_
  refine T_pi uws_ok d_X6_init_6 rfl (by decide) ?_
  have kp := kpI_v (j := 0) (x := 0) (b := 85) kp (by decide)
  have ag := agI_v (j := 0) (x := 0) (a := 85) ag (by decide)
  have ob := obI_v (j := 0) (x := 0) ob
  refine T_al d_X6_init_9 rfl ?_
  refine T_k d_X6_init_10 ?_
  refine T_newq ⟨_, d_X6_init_12, w2_213⟩ rfl rfl ⟨by decide, by decide⟩ (by decide) (by decide +kernel) ?_
  have kp := kpI_z (nx := 86) kp (by decide)
  have ob := obI_k ob (kpI_zz (nx := 86)) (by decide)
  have ag := agI_z ag (nx := 86) rfl rfl
  refine T_pq (x := some 86) uws_ok d_X6_init_15 (fun v => by cases v <;> exact ⟨rfl, rfl⟩) rfl (by decide) ?_
  have kp := kpI_q (j := 1) (y := some 86) (b := 85) kp (by decide)
  have ag := agI_q (j := 1) (y := some 86) (a := 85) ag (by decide)
  have ob := obI_q (j := 1) (y := 86) ob
  refine T_al d_X6_init_18 rfl ?_
  refine T_k d_X6_init_19 ?_
  refine T_newa (cd := 1) (ti := 0) d_X6_init_21 rfl rfl w1_56 rfl (Or.inl ⟨rfl, rfl⟩) ⟨by decide, by decide⟩ (by decide) (by decide +kernel) ?_
  have kp := kpI_z (nx := 87) kp (by decide)
  have ob := obI_k ob (kpI_zz (nx := 87)) (by decide)
  have ag := agI_z ag (nx := 87) rfl rfl
  refine T_pq (x := some 87) uws_ok d_X6_init_23 (fun v => by cases v <;> exact ⟨rfl, rfl⟩) rfl (by decide) ?_
  have kp := kpI_q (j := 2) (y := some 87) (b := 85) kp (by decide)
  have ag := agI_q (j := 2) (y := some 87) (a := 85) ag (by decide)
  have ob := obI_q (j := 2) (y := 87) ob
  refine T_al d_X6_init_26 rfl ?_
  refine T_k d_X6_init_27 ?_
  refine T_newa (cd := 1) (ti := 0) d_X6_init_29 rfl rfl w1_56 rfl (Or.inl ⟨rfl, rfl⟩) ⟨by decide, by decide⟩ (by decide) (by decide +kernel) ?_
  have kp := kpI_z (nx := 88) kp (by decide)
  have ob := obI_k ob (kpI_zz (nx := 88)) (by decide)
  have ag := agI_z ag (nx := 88) rfl rfl
  refine T_pq (x := some 88) uws_ok d_X6_init_31 (fun v => by cases v <;> exact ⟨rfl, rfl⟩) rfl (by decide) ?_
  have kp := kpI_q (j := 3) (y := some 88) (b := 85) kp (by decide)
  have ag := agI_q (j := 3) (y := some 88) (a := 85) ag (by decide)
  have ob := obI_q (j := 3) (y := 88) ob
  refine T_al d_X6_init_34 rfl ?_
  refine T_k d_X6_init_35 ?_
  refine T_newa (cd := 1) (ti := 0) d_X6_init_37 rfl rfl w1_56 rfl (Or.inl ⟨rfl, rfl⟩) ⟨by decide, by decide⟩ (by decide) (by decide +kernel) ?_
  have kp := kpI_z (nx := 89) kp (by decide)
  have ob := obI_k ob (kpI_zz (nx := 89)) (by decide)
  have ag := agI_z ag (nx := 89) rfl rfl
  refine T_pq (x := some 89) uws_ok d_X6_init_39 (fun v => by cases v <;> exact ⟨rfl, rfl⟩) rfl (by decide) ?_
  have kp := kpI_q (j := 4) (y := some 89) (b := 85) kp (by decide)
  have ag := agI_q (j := 4) (y := some 89) (a := 85) ag (by decide)
  have ob := obI_q (j := 4) (y := 89) ob
  refine T_al d_X6_init_42 rfl ?_
  refine T_k d_X6_init_43 ?_
  refine T_newa (cd := 1) (ti := 0) d_X6_init_45 rfl rfl w1_56 rfl (Or.inl ⟨rfl, rfl⟩) ⟨by decide, by decide⟩ (by decide) (by decide +kernel) ?_
  have kp := kpI_z (nx := 90) kp (by decide)
  have ob := obI_k ob (kpI_zz (nx := 90)) (by decide)
  have ag := agI_z ag (nx := 90) rfl rfl
  refine T_pq (x := some 90) uws_ok d_X6_init_47 (fun v => by cases v <;> exact ⟨rfl, rfl⟩) rfl (by decide) ?_
  have kp := kpI_q (j := 5) (y := some 90) (b := 85) kp (by decide)
  have ag := agI_q (j := 5) (y := some 90) (a := 85) ag (by decide)
  have ob := obI_q (j := 5) (y := 90) ob
  refine T_al d_X6_init_50 rfl ?_
  refine T_k d_X6_init_51 ?_
  refine T_newa (cd := 3) (ti := 0) d_X6_init_54 rfl rfl w1_97 rfl (Or.inr (Or.inr (Or.inl ⟨rfl, rfl⟩))) ⟨by decide, by decide⟩ (by decide) (by decide +kernel) ?_
  have kp := kpI_z (nx := 91) kp (by decide)
  have ob := obI_k ob (kpI_zz (nx := 91)) (by decide)
  have ag := agI_z ag (nx := 91) rfl rfl
  refine T_pq (x := some 91) uws_ok d_X6_init_56 (fun v => by cases v <;> exact ⟨rfl, rfl⟩) rfl (by decide) ?_
  have kp := kpI_q (j := 6) (y := some 91) (b := 85) kp (by decide)
  have ag := agI_q (j := 6) (y := some 91) (a := 85) ag (by decide)
  have ob := obI_q (j := 6) (y := 91) ob
  refine T_al d_X6_init_59 rfl ?_
  refine T_k d_X6_init_60 ?_
  refine T_newa (cd := 2) (ti := 0) d_X6_init_63 rfl rfl w3_38 rfl (Or.inr (Or.inl ⟨rfl, rfl⟩)) ⟨by decide, by decide⟩ (by decide) (by decide +kernel) ?_
  have kp := kpI_z (nx := 92) kp (by decide)
  have ob := obI_k ob (kpI_zz (nx := 92)) (by decide)
  have ag := agI_z ag (nx := 92) rfl rfl
  refine T_pq (x := some 92) uws_ok d_X6_init_65 (fun v => by cases v <;> exact ⟨rfl, rfl⟩) rfl (by decide) ?_
  have kp := kpI_q (j := 7) (y := some 92) (b := 85) kp (by decide)
  have ag := agI_q (j := 7) (y := some 92) (a := 85) ag (by decide)
  have ob := obI_q (j := 7) (y := 92) ob
  refine T_al d_X6_init_68 rfl ?_
  refine T_k d_X6_init_69 ?_
  refine T_newa (cd := 1) (ti := 0) d_X6_init_72 rfl rfl w1_56 rfl (Or.inl ⟨rfl, rfl⟩) ⟨by decide, by decide⟩ (by decide) (by decide +kernel) ?_
  have kp := kpI_z (nx := 93) kp (by decide)
  have ob := obI_k ob (kpI_zz (nx := 93)) (by decide)
  have ag := agI_z ag (nx := 93) rfl rfl
  refine T_pq (x := some 93) uws_ok d_X6_init_74 (fun v => by cases v <;> exact ⟨rfl, rfl⟩) rfl (by decide) ?_
  have kp := kpI_q (j := 8) (y := some 93) (b := 85) kp (by decide)
  have ag := agI_q (j := 8) (y := some 93) (a := 85) ag (by decide)
  have ob := obI_q (j := 8) (y := 93) ob
  refine T_al d_X6_init_77 rfl ?_
  refine T_k d_X6_init_78 ?_
  refine T_newa (cd := 1) (ti := 0) d_X6_init_81 rfl rfl w1_56 rfl (Or.inl ⟨rfl, rfl⟩) ⟨by decide, by decide⟩ (by decide) (by decide +kernel) ?_
  have kp := kpI_z (nx := 94) kp (by decide)
  have ob := obI_k ob (kpI_zz (nx := 94)) (by decide)
  have ag := agI_z ag (nx := 94) rfl rfl
  refine T_pq (x := some 94) uws_ok d_X6_init_83 (fun v => by cases v <;> exact ⟨rfl, rfl⟩) rfl (by decide) ?_
  have kp := kpI_q (j := 9) (y := some 94) (b := 85) kp (by decide)
  have ag := agI_q (j := 9) (y := some 94) (a := 85) ag (by decide)
  have ob := obI_q (j := 9) (y := 94) ob
  refine T_al d_X6_init_86 rfl ?_
  refine T_k d_X6_init_87 ?_
  refine T_newa (cd := 2) (ti := 0) d_X6_init_90 rfl rfl w3_38 rfl (Or.inr (Or.inl ⟨rfl, rfl⟩)) ⟨by decide, by decide⟩ (by decide) (by decide +kernel) ?_
  have kp := kpI_z (nx := 95) kp (by decide)
  have ob := obI_k ob (kpI_zz (nx := 95)) (by decide)
  have ag := agI_z ag (nx := 95) rfl rfl
  refine T_pq (x := some 95) uws_ok d_X6_init_92 (fun v => by cases v <;> exact ⟨rfl, rfl⟩) rfl (by decide) ?_
  have kp := kpI_q (j := 10) (y := some 95) (b := 85) kp (by decide)
  have ag := agI_q (j := 10) (y := some 95) (a := 85) ag (by decide)
  have ob := obI_q (j := 10) (y := 95) ob
  refine T_al d_X6_init_95 rfl ?_
  refine T_k d_X6_init_96 ?_
  refine T_pz uws_ok d_X6_init_97 rfl (by decide) (Or.inr rfl) ?_
  have kp := kpI_v (j := 11) (x := 1) (b := 85) kp (by decide)
  have ag := agI_v (j := 11) (x := 1) (a := 85) ag (by decide)
  have ob := obI_v (j := 11) (x := 1) ob
  refine T_al d_X6_init_100 rfl ?_
  refine T_k d_X6_init_101 ?_
  refine T_pi uws_ok d_X6_init_102 rfl (by decide) ?_
  have kp := kpI_v (j := 12) (x := 0) (b := 85) kp (by decide)
  have ag := agI_v (j := 12) (x := 0) (a := 85) ag (by decide)
  have ob := obI_v (j := 12) (x := 0) ob
  refine T_al d_X6_init_105 rfl ?_
  refine T_k d_X6_init_106 ?_
  refine T_pi uws_ok d_X6_init_107 rfl (by decide) ?_
  have kp := kpI_v (j := 13) (x := 1) (b := 85) kp (by decide)
  have ag := agI_v (j := 13) (x := 1) (a := 85) ag (by decide)
  have ob := obI_v (j := 13) (x := 1) ob
  refine T_al d_X6_init_110 rfl ?_
  refine T_k d_X6_init_111 ?_
  refine T_newa (cd := 1) (ti := 0) d_X6_init_113 rfl rfl w1_56 rfl (Or.inl ⟨rfl, rfl⟩) ⟨by decide, by decide⟩ (by decide) (by decide +kernel) ?_
  have kp := kpI_z (nx := 96) kp (by decide)
  have ob := obI_k ob (kpI_zz (nx := 96)) (by decide)
  have ag := agI_z ag (nx := 96) rfl rfl
  refine T_pq (x := some 96) uws_ok d_X6_init_115 (fun v => by cases v <;> exact ⟨rfl, rfl⟩) rfl (by decide) ?_
  have kp := kpI_q (j := 14) (y := some 96) (b := 85) kp (by decide)
  have ag := agI_q (j := 14) (y := some 96) (a := 85) ag (by decide)
  have ob := obI_q (j := 14) (y := 96) ob
  refine T_al d_X6_init_118 rfl ?_
  refine T_k d_X6_init_119 ?_
  refine T_pz uws_ok d_X6_init_120 rfl (by decide) (Or.inr rfl) ?_
  have kp := kpI_v (j := 15) (x := 1) (b := 85) kp (by decide)
  have ag := agI_v (j := 15) (x := 1) (a := 85) ag (by decide)
  have ob := obI_v (j := 15) (x := 1) ob
  refine T_al d_X6_init_123 rfl ?_
  refine T_k d_X6_init_124 ?_
  refine T_newa (cd := 1) (ti := 0) d_X6_init_126 rfl rfl w1_56 rfl (Or.inl ⟨rfl, rfl⟩) ⟨by decide, by decide⟩ (by decide) (by decide +kernel) ?_
  have kp := kpI_z (nx := 97) kp (by decide)
  have ob := obI_k ob (kpI_zz (nx := 97)) (by decide)
  have ag := agI_z ag (nx := 97) rfl rfl
  refine T_pq (x := some 97) uws_ok d_X6_init_128 (fun v => by cases v <;> exact ⟨rfl, rfl⟩) rfl (by decide) ?_
  have kp := kpI_q (j := 16) (y := some 97) (b := 85) kp (by decide)
  have ag := agI_q (j := 16) (y := some 97) (a := 85) ag (by decide)
  have ob := obI_q (j := 16) (y := 97) ob
  refine T_al d_X6_init_131 rfl ?_
  refine T_k d_X6_init_132 ?_
  refine T_newa (cd := 1) (ti := 0) d_X6_init_134 rfl rfl w1_56 rfl (Or.inl ⟨rfl, rfl⟩) ⟨by decide, by decide⟩ (by decide) (by decide +kernel) ?_
  have kp := kpI_z (nx := 98) kp (by decide)
  have ob := obI_k ob (kpI_zz (nx := 98)) (by decide)
  have ag := agI_z ag (nx := 98) rfl rfl
  refine T_pq (x := some 98) uws_ok d_X6_init_136 (fun v => by cases v <;> exact ⟨rfl, rfl⟩) rfl (by decide) ?_
  have kp := kpI_q (j := 17) (y := some 98) (b := 85) kp (by decide)
  have ag := agI_q (j := 17) (y := some 98) (a := 85) ag (by decide)
  have ob := obI_q (j := 17) (y := 98) ob
  exact T_vret d_X6_init_139 rfl ⟨rfl, kp, agI_f ob ag rfl rfl⟩
set_option maxRecDepth 100000 in
set_option maxHeartbeats 4000000 in
theorem K_X9_init_30 {G : GG} {V : VV} {R : RR} (hz : obI 30 [] [] V R) : Runs G M_X9_init 23 31 99 [vr 30, vr 1, vr 16] V R (cnQ 30 99 V R) := by
  refine Runs.of pn_X9 (Nat.le_of_ble_eq_true rfl) rfl ?_
  show TT G M_X9_init (rmd 23 31 99) 31 (Zm G 31 99 (cnQ 30 99 V R)) 31 0 [(0, vr 30), (1, vr 1), (2, vr 16)] [] V R
  have kp : kpI 30 V R V R := kpI_r
  have ag : agI 31 31 V R := agI_0
  have ob := hz
  refine T_al d_X9_init_0 rfl ?_
  refine T_oi (x := vi 0) d_X9_init_1 (Nat.le_of_ble_eq_true rfl) ⟨by decide, by decide⟩ ?_
  refine T_al d_X9_init_4 rfl ?_
  refine T_k d_X9_init_5 ?_
  refine T_pi uws_ok d_X9_init_6 rfl (by decide) ?_
  have kp := kpI_v (j := 7) (x := 0) (b := 30) kp (by decide)
  have ag := agI_v (j := 7) (x := 0) (a := 30) ag (by decide)
  have ob := obI_v (j := 7) (x := 0) ob
  refine T_al d_X9_init_9 rfl ?_
  refine T_k d_X9_init_10 ?_
  refine T_pi uws_ok d_X9_init_11 rfl (by decide) ?_
  have kp := kpI_v (j := 8) (x := 0) (b := 30) kp (by decide)
  have ag := agI_v (j := 8) (x := 0) (a := 30) ag (by decide)
  have ob := obI_v (j := 8) (x := 0) ob
  refine T_al d_X9_init_14 rfl ?_
  refine T_k d_X9_init_15 ?_
  refine T_newa (cd := 1) (ti := 0) d_X9_init_16 rfl rfl w1_56 rfl (Or.inl ⟨rfl, rfl⟩) ⟨by decide, by decide⟩ (by decide) (by decide +kernel) ?_
  have kp := kpI_z (nx := 31) kp (by decide)
  have ob := obI_k ob (kpI_zz (nx := 31)) (by decide)
  have ag := agI_z ag (nx := 31) rfl rfl
  refine T_pq (x := some 31) uws_ok d_X9_init_18 (fun v => by cases v <;> exact ⟨rfl, rfl⟩) rfl (by decide) ?_
  have kp := kpI_q (j := 9) (y := some 31) (b := 30) kp (by decide)
  have ag := agI_q (j := 9) (y := some 31) (a := 30) ag (by decide)
  have ob := obI_q (j := 9) (y := 31) ob
  refine T_al d_X9_init_21 rfl ?_
  refine T_k d_X9_init_22 ?_
  refine T_newa (cd := 1) (ti := 0) d_X9_init_23 rfl rfl w1_56 rfl (Or.inl ⟨rfl, rfl⟩) ⟨by decide, by decide⟩ (by decide) (by decide +kernel) ?_
  have kp := kpI_z (nx := 32) kp (by decide)
  have ob := obI_k ob (kpI_zz (nx := 32)) (by decide)
  have ag := agI_z ag (nx := 32) rfl rfl
  refine T_pq (x := some 32) uws_ok d_X9_init_25 (fun v => by cases v <;> exact ⟨rfl, rfl⟩) rfl (by decide) ?_
  have kp := kpI_q (j := 10) (y := some 32) (b := 30) kp (by decide)
  have ag := agI_q (j := 10) (y := some 32) (a := 30) ag (by decide)
  have ob := obI_q (j := 10) (y := 32) ob
  refine T_al d_X9_init_28 rfl ?_
  refine T_k d_X9_init_29 ?_
  refine T_newa (cd := 1) (ti := 0) d_X9_init_31 rfl rfl w1_56 rfl (Or.inl ⟨rfl, rfl⟩) ⟨by decide, by decide⟩ (by decide) (by decide +kernel) ?_
  have kp := kpI_z (nx := 33) kp (by decide)
  have ob := obI_k ob (kpI_zz (nx := 33)) (by decide)
  have ag := agI_z ag (nx := 33) rfl rfl
  refine T_pq (x := some 33) uws_ok d_X9_init_33 (fun v => by cases v <;> exact ⟨rfl, rfl⟩) rfl (by decide) ?_
  have kp := kpI_q (j := 11) (y := some 33) (b := 30) kp (by decide)
  have ag := agI_q (j := 11) (y := some 33) (a := 30) ag (by decide)
  have ob := obI_q (j := 11) (y := 33) ob
  refine T_al d_X9_init_36 rfl ?_
  refine T_k d_X9_init_37 ?_
  refine T_pi uws_ok d_X9_init_38 rfl (by decide) ?_
  have kp := kpI_v (j := 12) (x := 0) (b := 30) kp (by decide)
  have ag := agI_v (j := 12) (x := 0) (a := 30) ag (by decide)
  have ob := obI_v (j := 12) (x := 0) ob
  refine T_al d_X9_init_41 rfl ?_
  refine T_k d_X9_init_42 ?_
  refine T_pz uws_ok d_X9_init_43 rfl (by decide) (Or.inl rfl) ?_
  have kp := kpI_v (j := 13) (x := 0) (b := 30) kp (by decide)
  have ag := agI_v (j := 13) (x := 0) (a := 30) ag (by decide)
  have ob := obI_v (j := 13) (x := 0) ob
  refine T_al d_X9_init_46 rfl ?_
  refine T_al d_X9_init_47 rfl ?_
  refine T_pq (x := some 1) uws_ok d_X9_init_48 (fun v => by cases v <;> exact ⟨rfl, rfl⟩) rfl (by decide) ?_
  have kp := kpI_q (j := 0) (y := some 1) (b := 30) kp (by decide)
  have ag := agI_q (j := 0) (y := some 1) (a := 30) ag (by decide)
  have ob := obI_q (j := 0) (y := 1) ob
  refine T_al d_X9_init_51 rfl ?_
  refine T_al d_X9_init_52 rfl ?_
  refine T_pq (x := some 16) uws_ok d_X9_init_53 (fun v => by cases v <;> exact ⟨rfl, rfl⟩) rfl (by decide) ?_
  have kp := kpI_q (j := 1) (y := some 16) (b := 30) kp (by decide)
  have ag := agI_q (j := 1) (y := some 16) (a := 30) ag (by decide)
  have ob := obI_q (j := 1) (y := 16) ob
  refine T_al d_X9_init_56 rfl ?_
  refine T_new uws_ok d_X9_init_57 rfl (by decide) (by decide +kernel) ?_
  refine T_dup d_X9_init_60 rfl ?_
  refine T_al d_X9_init_61 rfl ?_
  refine T_callI (As := [vr 1]) d_X9_init_62 (K_X7_init_34 obI_n) rfl (Nat.le_of_ble_eq_true rfl) ⟨by decide, by decide⟩ ⟨by decide, by decide⟩ (by decide +kernel) (fun r W T q => ?_)
  obtain ⟨rfl, k1, k2⟩ := q
  have k3 := kpI_c kpI_zz k1 (Nat.le_refl _)
  have ag := agI_c (nx := 34) (n1 := 44) ag k3 k2
  have ob := obI_k ob k3 (by decide)
  have kp := kpI_c kp k3 (by decide)
  refine T_pq (x := some 34) uws_ok d_X9_init_65 (fun v => by cases v <;> exact ⟨rfl, rfl⟩) rfl (by decide) ?_
  have kp := kpI_q (j := 2) (y := some 34) (b := 30) kp (by decide)
  have ag := agI_q (j := 2) (y := some 34) (a := 30) ag (by decide)
  have ob := obI_q (j := 2) (y := 34) ob
  refine T_al d_X9_init_68 rfl ?_
  refine T_new uws_ok d_X9_init_69 rfl (by decide) (by decide +kernel) ?_
  refine T_dup d_X9_init_72 rfl ?_
  refine T_callI (As := []) d_X9_init_73 (K_X8_init_44 obI_n) rfl (Nat.le_of_ble_eq_true rfl) ⟨by decide, by decide⟩ ⟨by decide, by decide⟩ (by decide +kernel) (fun r W T q => ?_)
  obtain ⟨rfl, k1, k2⟩ := q
  have k3 := kpI_c kpI_zz k1 (Nat.le_refl _)
  have ag := agI_c (nx := 44) (n1 := 52) ag k3 k2
  have ob := obI_k ob k3 (by decide)
  have kp := kpI_c kp k3 (by decide)
  refine T_pq (x := some 44) uws_ok d_X9_init_76 (fun v => by cases v <;> exact ⟨rfl, rfl⟩) rfl (by decide) ?_
  have kp := kpI_q (j := 3) (y := some 44) (b := 30) kp (by decide)
  have ag := agI_q (j := 3) (y := some 44) (a := 30) ag (by decide)
  have ob := obI_q (j := 3) (y := 44) ob
  refine T_al d_X9_init_79 rfl ?_
  refine T_new uws_ok d_X9_init_80 rfl (by decide) (by decide +kernel) ?_
  refine T_dup d_X9_init_83 rfl ?_
  refine T_al d_X9_init_84 rfl ?_
  refine T_al d_X9_init_85 rfl ?_
  refine T_gr uws_ok d_X9_init_86 rfl (by decide) (b := 44) (by rw [(obI_k ob (kpI_zz (nx := 52)) (by decide)).2]; rfl) ?_
  refine T_callI (As := [vr 1, vr 44]) d_X9_init_89 (K_X1_init_52 obI_n) rfl (Nat.le_of_ble_eq_true rfl) ⟨by decide, by decide⟩ ⟨by decide, by decide⟩ (by decide +kernel) (fun r W T q => ?_)
  obtain ⟨rfl, k1, k2⟩ := q
  have k3 := kpI_c kpI_zz k1 (Nat.le_refl _)
  have ag := agI_c (nx := 52) (n1 := 56) ag k3 k2
  have ob := obI_k ob k3 (by decide)
  have kp := kpI_c kp k3 (by decide)
  refine T_pq (x := some 52) uws_ok d_X9_init_92 (fun v => by cases v <;> exact ⟨rfl, rfl⟩) rfl (by decide) ?_
  have kp := kpI_q (j := 4) (y := some 52) (b := 30) kp (by decide)
  have ag := agI_q (j := 4) (y := some 52) (a := 30) ag (by decide)
  have ob := obI_q (j := 4) (y := 52) ob
  refine T_al d_X9_init_95 rfl ?_
  refine T_new uws_ok d_X9_init_96 rfl (by decide) (by decide +kernel) ?_
  refine T_dup d_X9_init_99 rfl ?_
  refine T_callI (As := []) d_X9_init_100 (K_X3_init_56 obI_n) rfl (Nat.le_of_ble_eq_true rfl) ⟨by decide, by decide⟩ ⟨by decide, by decide⟩ (by decide +kernel) (fun r W T q => ?_)
  obtain ⟨rfl, k1, k2⟩ := q
  have k3 := kpI_c kpI_zz k1 (Nat.le_refl _)
  have ag := agI_c (nx := 56) (n1 := 85) ag k3 k2
  have ob := obI_k ob k3 (by decide)
  have kp := kpI_c kp k3 (by decide)
  refine T_pq (x := some 56) uws_ok d_X9_init_103 (fun v => by cases v <;> exact ⟨rfl, rfl⟩) rfl (by decide) ?_
  have kp := kpI_q (j := 5) (y := some 56) (b := 30) kp (by decide)
  have ag := agI_q (j := 5) (y := some 56) (a := 30) ag (by decide)
  have ob := obI_q (j := 5) (y := 56) ob
  refine T_al d_X9_init_106 rfl ?_
  refine T_new uws_ok d_X9_init_107 rfl (by decide) (by decide +kernel) ?_
  refine T_dup d_X9_init_110 rfl ?_
  refine T_callI (As := []) d_X9_init_111 (K_X6_init_85 obI_n) rfl (Nat.le_of_ble_eq_true rfl) ⟨by decide, by decide⟩ ⟨by decide, by decide⟩ (by decide +kernel) (fun r W T q => ?_)
  obtain ⟨rfl, k1, k2⟩ := q
  have k3 := kpI_c kpI_zz k1 (Nat.le_refl _)
  have ag := agI_c (nx := 85) (n1 := 99) ag k3 k2
  have ob := obI_k ob k3 (by decide)
  have kp := kpI_c kp k3 (by decide)
  refine T_pq (x := some 85) uws_ok d_X9_init_114 (fun v => by cases v <;> exact ⟨rfl, rfl⟩) rfl (by decide) ?_
  have kp := kpI_q (j := 6) (y := some 85) (b := 30) kp (by decide)
  have ag := agI_q (j := 6) (y := some 85) (a := 30) ag (by decide)
  have ob := obI_q (j := 6) (y := 85) ob
  exact T_vret d_X9_init_117 rfl ⟨rfl, kp, agI_f ob ag rfl rfl⟩
set_option maxRecDepth 100000 in
set_option maxHeartbeats 4000000 in
theorem K_X10_init_0 {G : GG} {V : VV} {R : RR} (hz : obI 0 [] [] V R) : Runs G M_X10_init 34 1 99 [vr 0] V R (cnQ 0 99 V R) := by
  refine Runs.of pn_X10 (Nat.le_of_ble_eq_true rfl) rfl ?_
  show TT G M_X10_init (rmd 34 1 99) 1 (Zm G 1 99 (cnQ 0 99 V R)) 1 0 [(0, vr 0)] [] V R
  have kp : kpI 0 V R V R := kpI_r
  have ag : agI 1 1 V R := agI_0
  have ob := hz
  refine T_al d_X10_init_0 rfl ?_
  refine T_oi (x := vi 0) d_X10_init_1 (Nat.le_of_ble_eq_true rfl) ⟨by decide, by decide⟩ ?_
  refine T_al d_X10_init_4 rfl ?_
  refine T_new uws_ok d_X10_init_5 rfl (by decide) (by decide +kernel) ?_
  refine T_dup d_X10_init_8 rfl ?_
  refine T_callI (As := []) d_X10_init_9 (K_X0_init_1 obI_n) rfl (Nat.le_of_ble_eq_true rfl) ⟨by decide, by decide⟩ ⟨by decide, by decide⟩ (by decide +kernel) (fun r W T q => ?_)
  obtain ⟨rfl, k1, k2⟩ := q
  have k3 := kpI_c kpI_zz k1 (Nat.le_refl _)
  have ag := agI_c (nx := 1) (n1 := 16) ag k3 k2
  have ob := obI_k ob k3 (by decide)
  have kp := kpI_c kp k3 (by decide)
  refine T_pq (x := some 1) uws_ok d_X10_init_12 (fun v => by cases v <;> exact ⟨rfl, rfl⟩) rfl (by decide) ?_
  have kp := kpI_q (j := 0) (y := some 1) (b := 0) kp (by decide)
  have ag := agI_q (j := 0) (y := some 1) (a := 0) ag (by decide)
  have ob := obI_q (j := 0) (y := 1) ob
  refine T_al d_X10_init_15 rfl ?_
  refine T_new uws_ok d_X10_init_16 rfl (by decide) (by decide +kernel) ?_
  refine T_dup d_X10_init_19 rfl ?_
  refine T_callI (As := []) d_X10_init_20 (K_X4_init_16 obI_n) rfl (Nat.le_of_ble_eq_true rfl) ⟨by decide, by decide⟩ ⟨by decide, by decide⟩ (by decide +kernel) (fun r W T q => ?_)
  obtain ⟨rfl, k1, k2⟩ := q
  have k3 := kpI_c kpI_zz k1 (Nat.le_refl _)
  have ag := agI_c (nx := 16) (n1 := 30) ag k3 k2
  have ob := obI_k ob k3 (by decide)
  have kp := kpI_c kp k3 (by decide)
  refine T_pq (x := some 16) uws_ok d_X10_init_23 (fun v => by cases v <;> exact ⟨rfl, rfl⟩) rfl (by decide) ?_
  have kp := kpI_q (j := 1) (y := some 16) (b := 0) kp (by decide)
  have ag := agI_q (j := 1) (y := some 16) (a := 0) ag (by decide)
  have ob := obI_q (j := 1) (y := 16) ob
  refine T_al d_X10_init_26 rfl ?_
  refine T_new uws_ok d_X10_init_27 rfl (by decide) (by decide +kernel) ?_
  refine T_dup d_X10_init_30 rfl ?_
  refine T_al d_X10_init_31 rfl ?_
  refine T_gr uws_ok d_X10_init_32 rfl (by decide) (b := 1) (by rw [(obI_k ob (kpI_zz (nx := 30)) (by decide)).2]; rfl) ?_
  refine T_al d_X10_init_35 rfl ?_
  refine T_gr uws_ok d_X10_init_36 rfl (by decide) (b := 16) (by rw [(obI_k ob (kpI_zz (nx := 30)) (by decide)).2]; rfl) ?_
  refine T_callI (As := [vr 1, vr 16]) d_X10_init_39 (K_X9_init_30 obI_n) rfl (Nat.le_of_ble_eq_true rfl) ⟨by decide, by decide⟩ ⟨by decide, by decide⟩ (by decide +kernel) (fun r W T q => ?_)
  obtain ⟨rfl, k1, k2⟩ := q
  have k3 := kpI_c kpI_zz k1 (Nat.le_refl _)
  have ag := agI_c (nx := 30) (n1 := 99) ag k3 k2
  have ob := obI_k ob k3 (by decide)
  have kp := kpI_c kp k3 (by decide)
  refine T_pq (x := some 30) uws_ok d_X10_init_42 (fun v => by cases v <;> exact ⟨rfl, rfl⟩) rfl (by decide) ?_
  have kp := kpI_q (j := 2) (y := some 30) (b := 0) kp (by decide)
  have ag := agI_q (j := 2) (y := some 30) (a := 0) ag (by decide)
  have ob := obI_q (j := 2) (y := 30) ob
  refine T_al d_X10_init_45 rfl ?_
  refine T_k d_X10_init_46 ?_
  refine T_pi uws_ok d_X10_init_47 rfl (by decide) ?_
  have kp := kpI_v (j := 3) (x := 0) (b := 0) kp (by decide)
  have ag := agI_v (j := 3) (x := 0) (a := 0) ag (by decide)
  have ob := obI_v (j := 3) (x := 0) ob
  exact T_vret d_X10_init_50 rfl ⟨rfl, kp, agI_f ob ag rfl rfl⟩
set_option maxRecDepth 100000 in
set_option maxHeartbeats 4000000 in
theorem K_X11_init_99 {G : GG} {V : VV} {R : RR} (hz : obI 99 [] [] V R) : Runs G M_X11_init 1 100 162 [vr 99] V R (cnQ 99 162 V R) := by
  refine Runs.of pn_X11 (Nat.le_of_ble_eq_true rfl) rfl ?_
  show TT G M_X11_init (rmd 1 100 162) 100 (Zm G 100 162 (cnQ 99 162 V R)) 100 0 [(0, vr 99)] [] V R
  have kp : kpI 99 V R V R := kpI_r
  have ag : agI 100 100 V R := agI_0
  have ob := hz
  refine T_al d_X11_init_0 rfl ?_
  refine T_oi (x := vi 0) d_X11_init_1 (Nat.le_of_ble_eq_true rfl) ⟨by decide, by decide⟩ ?_
  refine T_al d_X11_init_4 rfl ?_
  refine T_k d_X11_init_5 ?_
  refine T_pi uws_ok d_X11_init_6 rfl (by decide) ?_
  have kp := kpI_v (j := 1) (x := (-1)) (b := 99) kp (by decide)
  have ag := agI_v (j := 1) (x := (-1)) (a := 99) ag (by decide)
  have ob := obI_v (j := 1) (x := (-1)) ob
  refine T_al d_X11_init_9 rfl ?_
  refine T_k d_X11_init_10 ?_
  refine T_pi uws_ok d_X11_init_11 rfl (by decide) ?_
  have kp := kpI_v (j := 8) (x := 2) (b := 99) kp (by decide)
  have ag := agI_v (j := 8) (x := 2) (a := 99) ag (by decide)
  have ob := obI_v (j := 8) (x := 2) ob
  refine T_al d_X11_init_14 rfl ?_
  refine T_k d_X11_init_15 ?_
  refine T_newa (cd := 1) (ti := 0) d_X11_init_17 rfl rfl w1_56 rfl (Or.inl ⟨rfl, rfl⟩) ⟨by decide, by decide⟩ (by decide) (by decide +kernel) ?_
  have kp := kpI_z (nx := 100) kp (by decide)
  have ob := obI_k ob (kpI_zz (nx := 100)) (by decide)
  have ag := agI_z ag (nx := 100) rfl rfl
  refine T_pq (x := some 100) uws_ok d_X11_init_19 (fun v => by cases v <;> exact ⟨rfl, rfl⟩) rfl (by decide) ?_
  have kp := kpI_q (j := 9) (y := some 100) (b := 99) kp (by decide)
  have ag := agI_q (j := 9) (y := some 100) (a := 99) ag (by decide)
  have ob := obI_q (j := 9) (y := 100) ob
  refine T_al d_X11_init_22 rfl ?_
  refine T_k d_X11_init_23 ?_
  refine T_newa (cd := 1) (ti := 0) d_X11_init_25 rfl rfl w1_56 rfl (Or.inl ⟨rfl, rfl⟩) ⟨by decide, by decide⟩ (by decide) (by decide +kernel) ?_
  have kp := kpI_z (nx := 101) kp (by decide)
  have ob := obI_k ob (kpI_zz (nx := 101)) (by decide)
  have ag := agI_z ag (nx := 101) rfl rfl
  refine T_pq (x := some 101) uws_ok d_X11_init_27 (fun v => by cases v <;> exact ⟨rfl, rfl⟩) rfl (by decide) ?_
  have kp := kpI_q (j := 10) (y := some 101) (b := 99) kp (by decide)
  have ag := agI_q (j := 10) (y := some 101) (a := 99) ag (by decide)
  have ob := obI_q (j := 10) (y := 101) ob
  refine T_al d_X11_init_30 rfl ?_
  refine T_k d_X11_init_31 ?_
  refine T_newa (cd := 1) (ti := 0) d_X11_init_33 rfl rfl w1_56 rfl (Or.inl ⟨rfl, rfl⟩) ⟨by decide, by decide⟩ (by decide) (by decide +kernel) ?_
  have kp := kpI_z (nx := 102) kp (by decide)
  have ob := obI_k ob (kpI_zz (nx := 102)) (by decide)
  have ag := agI_z ag (nx := 102) rfl rfl
  refine T_pq (x := some 102) uws_ok d_X11_init_35 (fun v => by cases v <;> exact ⟨rfl, rfl⟩) rfl (by decide) ?_
  have kp := kpI_q (j := 11) (y := some 102) (b := 99) kp (by decide)
  have ag := agI_q (j := 11) (y := some 102) (a := 99) ag (by decide)
  have ob := obI_q (j := 11) (y := 102) ob
  refine T_al d_X11_init_38 rfl ?_
  refine T_k d_X11_init_39 ?_
  refine T_newa (cd := 1) (ti := 0) d_X11_init_41 rfl rfl w1_56 rfl (Or.inl ⟨rfl, rfl⟩) ⟨by decide, by decide⟩ (by decide) (by decide +kernel) ?_
  have kp := kpI_z (nx := 103) kp (by decide)
  have ob := obI_k ob (kpI_zz (nx := 103)) (by decide)
  have ag := agI_z ag (nx := 103) rfl rfl
  refine T_pq (x := some 103) uws_ok d_X11_init_43 (fun v => by cases v <;> exact ⟨rfl, rfl⟩) rfl (by decide) ?_
  have kp := kpI_q (j := 12) (y := some 103) (b := 99) kp (by decide)
  have ag := agI_q (j := 12) (y := some 103) (a := 99) ag (by decide)
  have ob := obI_q (j := 12) (y := 103) ob
  refine T_al d_X11_init_46 rfl ?_
  refine T_k d_X11_init_47 ?_
  refine T_newa (cd := 1) (ti := 0) d_X11_init_49 rfl rfl w1_56 rfl (Or.inl ⟨rfl, rfl⟩) ⟨by decide, by decide⟩ (by decide) (by decide +kernel) ?_
  have kp := kpI_z (nx := 104) kp (by decide)
  have ob := obI_k ob (kpI_zz (nx := 104)) (by decide)
  have ag := agI_z ag (nx := 104) rfl rfl
  refine T_pq (x := some 104) uws_ok d_X11_init_51 (fun v => by cases v <;> exact ⟨rfl, rfl⟩) rfl (by decide) ?_
  have kp := kpI_q (j := 13) (y := some 104) (b := 99) kp (by decide)
  have ag := agI_q (j := 13) (y := some 104) (a := 99) ag (by decide)
  have ob := obI_q (j := 13) (y := 104) ob
  refine T_al d_X11_init_54 rfl ?_
  refine T_k d_X11_init_55 ?_
  refine T_newa (cd := 1) (ti := 0) d_X11_init_57 rfl rfl w1_56 rfl (Or.inl ⟨rfl, rfl⟩) ⟨by decide, by decide⟩ (by decide) (by decide +kernel) ?_
  have kp := kpI_z (nx := 105) kp (by decide)
  have ob := obI_k ob (kpI_zz (nx := 105)) (by decide)
  have ag := agI_z ag (nx := 105) rfl rfl
  refine T_pq (x := some 105) uws_ok d_X11_init_59 (fun v => by cases v <;> exact ⟨rfl, rfl⟩) rfl (by decide) ?_
  have kp := kpI_q (j := 14) (y := some 105) (b := 99) kp (by decide)
  have ag := agI_q (j := 14) (y := some 105) (a := 99) ag (by decide)
  have ob := obI_q (j := 14) (y := 105) ob
  refine T_al d_X11_init_62 rfl ?_
  refine T_k d_X11_init_63 ?_
  refine T_newa (cd := 1) (ti := 0) d_X11_init_65 rfl rfl w1_56 rfl (Or.inl ⟨rfl, rfl⟩) ⟨by decide, by decide⟩ (by decide) (by decide +kernel) ?_
  have kp := kpI_z (nx := 106) kp (by decide)
  have ob := obI_k ob (kpI_zz (nx := 106)) (by decide)
  have ag := agI_z ag (nx := 106) rfl rfl
  refine T_pq (x := some 106) uws_ok d_X11_init_67 (fun v => by cases v <;> exact ⟨rfl, rfl⟩) rfl (by decide) ?_
  have kp := kpI_q (j := 15) (y := some 106) (b := 99) kp (by decide)
  have ag := agI_q (j := 15) (y := some 106) (a := 99) ag (by decide)
  have ob := obI_q (j := 15) (y := 106) ob
  refine T_al d_X11_init_70 rfl ?_
  refine T_k d_X11_init_71 ?_
  refine T_newa (cd := 1) (ti := 0) d_X11_init_73 rfl rfl w1_56 rfl (Or.inl ⟨rfl, rfl⟩) ⟨by decide, by decide⟩ (by decide) (by decide +kernel) ?_
  have kp := kpI_z (nx := 107) kp (by decide)
  have ob := obI_k ob (kpI_zz (nx := 107)) (by decide)
  have ag := agI_z ag (nx := 107) rfl rfl
  refine T_pq (x := some 107) uws_ok d_X11_init_75 (fun v => by cases v <;> exact ⟨rfl, rfl⟩) rfl (by decide) ?_
  have kp := kpI_q (j := 16) (y := some 107) (b := 99) kp (by decide)
  have ag := agI_q (j := 16) (y := some 107) (a := 99) ag (by decide)
  have ob := obI_q (j := 16) (y := 107) ob
  refine T_al d_X11_init_78 rfl ?_
  refine T_k d_X11_init_79 ?_
  refine T_newa (cd := 1) (ti := 0) d_X11_init_81 rfl rfl w1_56 rfl (Or.inl ⟨rfl, rfl⟩) ⟨by decide, by decide⟩ (by decide) (by decide +kernel) ?_
  have kp := kpI_z (nx := 108) kp (by decide)
  have ob := obI_k ob (kpI_zz (nx := 108)) (by decide)
  have ag := agI_z ag (nx := 108) rfl rfl
  refine T_pq (x := some 108) uws_ok d_X11_init_83 (fun v => by cases v <;> exact ⟨rfl, rfl⟩) rfl (by decide) ?_
  have kp := kpI_q (j := 17) (y := some 108) (b := 99) kp (by decide)
  have ag := agI_q (j := 17) (y := some 108) (a := 99) ag (by decide)
  have ob := obI_q (j := 17) (y := 108) ob
  refine T_al d_X11_init_86 rfl ?_
  refine T_k d_X11_init_87 ?_
  refine T_newa (cd := 1) (ti := 0) d_X11_init_89 rfl rfl w1_56 rfl (Or.inl ⟨rfl, rfl⟩) ⟨by decide, by decide⟩ (by decide) (by decide +kernel) ?_
  have kp := kpI_z (nx := 109) kp (by decide)
  have ob := obI_k ob (kpI_zz (nx := 109)) (by decide)
  have ag := agI_z ag (nx := 109) rfl rfl
  refine T_pq (x := some 109) uws_ok d_X11_init_91 (fun v => by cases v <;> exact ⟨rfl, rfl⟩) rfl (by decide) ?_
  have kp := kpI_q (j := 18) (y := some 109) (b := 99) kp (by decide)
  have ag := agI_q (j := 18) (y := some 109) (a := 99) ag (by decide)
  have ob := obI_q (j := 18) (y := 109) ob
  refine T_al d_X11_init_94 rfl ?_
  refine T_k d_X11_init_95 ?_
  refine T_newa (cd := 1) (ti := 0) d_X11_init_97 rfl rfl w1_56 rfl (Or.inl ⟨rfl, rfl⟩) ⟨by decide, by decide⟩ (by decide) (by decide +kernel) ?_
  have kp := kpI_z (nx := 110) kp (by decide)
  have ob := obI_k ob (kpI_zz (nx := 110)) (by decide)
  have ag := agI_z ag (nx := 110) rfl rfl
  refine T_pq (x := some 110) uws_ok d_X11_init_99 (fun v => by cases v <;> exact ⟨rfl, rfl⟩) rfl (by decide) ?_
  have kp := kpI_q (j := 19) (y := some 110) (b := 99) kp (by decide)
  have ag := agI_q (j := 19) (y := some 110) (a := 99) ag (by decide)
  have ob := obI_q (j := 19) (y := 110) ob
  refine T_al d_X11_init_102 rfl ?_
  refine T_k d_X11_init_103 ?_
  refine T_newa (cd := 1) (ti := 0) d_X11_init_105 rfl rfl w1_56 rfl (Or.inl ⟨rfl, rfl⟩) ⟨by decide, by decide⟩ (by decide) (by decide +kernel) ?_
  have kp := kpI_z (nx := 111) kp (by decide)
  have ob := obI_k ob (kpI_zz (nx := 111)) (by decide)
  have ag := agI_z ag (nx := 111) rfl rfl
  refine T_pq (x := some 111) uws_ok d_X11_init_107 (fun v => by cases v <;> exact ⟨rfl, rfl⟩) rfl (by decide) ?_
  have kp := kpI_q (j := 20) (y := some 111) (b := 99) kp (by decide)
  have ag := agI_q (j := 20) (y := some 111) (a := 99) ag (by decide)
  have ob := obI_q (j := 20) (y := 111) ob
  refine T_al d_X11_init_110 rfl ?_
  refine T_k d_X11_init_111 ?_
  refine T_newa (cd := 1) (ti := 0) d_X11_init_113 rfl rfl w1_56 rfl (Or.inl ⟨rfl, rfl⟩) ⟨by decide, by decide⟩ (by decide) (by decide +kernel) ?_
  have kp := kpI_z (nx := 112) kp (by decide)
  have ob := obI_k ob (kpI_zz (nx := 112)) (by decide)
  have ag := agI_z ag (nx := 112) rfl rfl
  refine T_pq (x := some 112) uws_ok d_X11_init_115 (fun v => by cases v <;> exact ⟨rfl, rfl⟩) rfl (by decide) ?_
  have kp := kpI_q (j := 21) (y := some 112) (b := 99) kp (by decide)
  have ag := agI_q (j := 21) (y := some 112) (a := 99) ag (by decide)
  have ob := obI_q (j := 21) (y := 112) ob
  refine T_al d_X11_init_118 rfl ?_
  refine T_k d_X11_init_119 ?_
  refine T_newa (cd := 1) (ti := 0) d_X11_init_121 rfl rfl w1_56 rfl (Or.inl ⟨rfl, rfl⟩) ⟨by decide, by decide⟩ (by decide) (by decide +kernel) ?_
  have kp := kpI_z (nx := 113) kp (by decide)
  have ob := obI_k ob (kpI_zz (nx := 113)) (by decide)
  have ag := agI_z ag (nx := 113) rfl rfl
  refine T_pq (x := some 113) uws_ok d_X11_init_123 (fun v => by cases v <;> exact ⟨rfl, rfl⟩) rfl (by decide) ?_
  have kp := kpI_q (j := 22) (y := some 113) (b := 99) kp (by decide)
  have ag := agI_q (j := 22) (y := some 113) (a := 99) ag (by decide)
  have ob := obI_q (j := 22) (y := 113) ob
  refine T_al d_X11_init_126 rfl ?_
  refine T_k d_X11_init_127 ?_
  refine T_newa (cd := 1) (ti := 0) d_X11_init_129 rfl rfl w1_56 rfl (Or.inl ⟨rfl, rfl⟩) ⟨by decide, by decide⟩ (by decide) (by decide +kernel) ?_
  have kp := kpI_z (nx := 114) kp (by decide)
  have ob := obI_k ob (kpI_zz (nx := 114)) (by decide)
  have ag := agI_z ag (nx := 114) rfl rfl
  refine T_pq (x := some 114) uws_ok d_X11_init_131 (fun v => by cases v <;> exact ⟨rfl, rfl⟩) rfl (by decide) ?_
  have kp := kpI_q (j := 23) (y := some 114) (b := 99) kp (by decide)
  have ag := agI_q (j := 23) (y := some 114) (a := 99) ag (by decide)
  have ob := obI_q (j := 23) (y := 114) ob
  refine T_al d_X11_init_134 rfl ?_
  refine T_k d_X11_init_135 ?_
  refine T_newa (cd := 1) (ti := 0) d_X11_init_137 rfl rfl w1_56 rfl (Or.inl ⟨rfl, rfl⟩) ⟨by decide, by decide⟩ (by decide) (by decide +kernel) ?_
  have kp := kpI_z (nx := 115) kp (by decide)
  have ob := obI_k ob (kpI_zz (nx := 115)) (by decide)
  have ag := agI_z ag (nx := 115) rfl rfl
  refine T_pq (x := some 115) uws_ok d_X11_init_139 (fun v => by cases v <;> exact ⟨rfl, rfl⟩) rfl (by decide) ?_
  have kp := kpI_q (j := 24) (y := some 115) (b := 99) kp (by decide)
  have ag := agI_q (j := 24) (y := some 115) (a := 99) ag (by decide)
  have ob := obI_q (j := 24) (y := 115) ob
  refine T_al d_X11_init_142 rfl ?_
  refine T_k d_X11_init_143 ?_
  refine T_newa (cd := 1) (ti := 0) d_X11_init_145 rfl rfl w1_56 rfl (Or.inl ⟨rfl, rfl⟩) ⟨by decide, by decide⟩ (by decide) (by decide +kernel) ?_
  have kp := kpI_z (nx := 116) kp (by decide)
  have ob := obI_k ob (kpI_zz (nx := 116)) (by decide)
  have ag := agI_z ag (nx := 116) rfl rfl
  refine T_pq (x := some 116) uws_ok d_X11_init_147 (fun v => by cases v <;> exact ⟨rfl, rfl⟩) rfl (by decide) ?_
  have kp := kpI_q (j := 25) (y := some 116) (b := 99) kp (by decide)
  have ag := agI_q (j := 25) (y := some 116) (a := 99) ag (by decide)
  have ob := obI_q (j := 25) (y := 116) ob
  refine T_al d_X11_init_150 rfl ?_
  refine T_k d_X11_init_151 ?_
  refine T_newa (cd := 1) (ti := 0) d_X11_init_153 rfl rfl w1_56 rfl (Or.inl ⟨rfl, rfl⟩) ⟨by decide, by decide⟩ (by decide) (by decide +kernel) ?_
  have kp := kpI_z (nx := 117) kp (by decide)
  have ob := obI_k ob (kpI_zz (nx := 117)) (by decide)
  have ag := agI_z ag (nx := 117) rfl rfl
  refine T_pq (x := some 117) uws_ok d_X11_init_155 (fun v => by cases v <;> exact ⟨rfl, rfl⟩) rfl (by decide) ?_
  have kp := kpI_q (j := 26) (y := some 117) (b := 99) kp (by decide)
  have ag := agI_q (j := 26) (y := some 117) (a := 99) ag (by decide)
  have ob := obI_q (j := 26) (y := 117) ob
  refine T_al d_X11_init_158 rfl ?_
  refine T_k d_X11_init_159 ?_
  refine T_newa (cd := 1) (ti := 0) d_X11_init_161 rfl rfl w1_56 rfl (Or.inl ⟨rfl, rfl⟩) ⟨by decide, by decide⟩ (by decide) (by decide +kernel) ?_
  have kp := kpI_z (nx := 118) kp (by decide)
  have ob := obI_k ob (kpI_zz (nx := 118)) (by decide)
  have ag := agI_z ag (nx := 118) rfl rfl
  refine T_pq (x := some 118) uws_ok d_X11_init_163 (fun v => by cases v <;> exact ⟨rfl, rfl⟩) rfl (by decide) ?_
  have kp := kpI_q (j := 27) (y := some 118) (b := 99) kp (by decide)
  have ag := agI_q (j := 27) (y := some 118) (a := 99) ag (by decide)
  have ob := obI_q (j := 27) (y := 118) ob
  refine T_al d_X11_init_166 rfl ?_
  refine T_k d_X11_init_167 ?_
  refine T_newa (cd := 1) (ti := 0) d_X11_init_169 rfl rfl w1_56 rfl (Or.inl ⟨rfl, rfl⟩) ⟨by decide, by decide⟩ (by decide) (by decide +kernel) ?_
  have kp := kpI_z (nx := 119) kp (by decide)
  have ob := obI_k ob (kpI_zz (nx := 119)) (by decide)
  have ag := agI_z ag (nx := 119) rfl rfl
  refine T_pq (x := some 119) uws_ok d_X11_init_171 (fun v => by cases v <;> exact ⟨rfl, rfl⟩) rfl (by decide) ?_
  have kp := kpI_q (j := 28) (y := some 119) (b := 99) kp (by decide)
  have ag := agI_q (j := 28) (y := some 119) (a := 99) ag (by decide)
  have ob := obI_q (j := 28) (y := 119) ob
  refine T_al d_X11_init_174 rfl ?_
  refine T_k d_X11_init_175 ?_
  refine T_newa (cd := 4) (ti := 0) d_X11_init_178 rfl rfl w5_149 rfl (Or.inr (Or.inr (Or.inr ⟨rfl, rfl⟩))) ⟨by decide, by decide⟩ (by decide) (by decide +kernel) ?_
  have kp := kpI_z (nx := 120) kp (by decide)
  have ob := obI_k ob (kpI_zz (nx := 120)) (by decide)
  have ag := agI_z ag (nx := 120) rfl rfl
  refine T_pq (x := some 120) uws_ok d_X11_init_180 (fun v => by cases v <;> exact ⟨rfl, rfl⟩) rfl (by decide) ?_
  have kp := kpI_q (j := 29) (y := some 120) (b := 99) kp (by decide)
  have ag := agI_q (j := 29) (y := some 120) (a := 99) ag (by decide)
  have ob := obI_q (j := 29) (y := 120) ob
  refine T_al d_X11_init_183 rfl ?_
  refine T_k d_X11_init_184 ?_
  refine T_pi uws_ok d_X11_init_185 rfl (by decide) ?_
  have kp := kpI_v (j := 34) (x := (-1)) (b := 99) kp (by decide)
  have ag := agI_v (j := 34) (x := (-1)) (a := 99) ag (by decide)
  have ob := obI_v (j := 34) (x := (-1)) ob
  refine T_al d_X11_init_188 rfl ?_
  refine T_k d_X11_init_189 ?_
  refine T_newa (cd := 1) (ti := 0) d_X11_init_190 rfl rfl w1_56 rfl (Or.inl ⟨rfl, rfl⟩) ⟨by decide, by decide⟩ (by decide) (by decide +kernel) ?_
  have kp := kpI_z (nx := 121) kp (by decide)
  have ob := obI_k ob (kpI_zz (nx := 121)) (by decide)
  have ag := agI_z ag (nx := 121) rfl rfl
  refine T_pq (x := some 121) uws_ok d_X11_init_192 (fun v => by cases v <;> exact ⟨rfl, rfl⟩) rfl (by decide) ?_
  have kp := kpI_q (j := 38) (y := some 121) (b := 99) kp (by decide)
  have ag := agI_q (j := 38) (y := some 121) (a := 99) ag (by decide)
  have ob := obI_q (j := 38) (y := 121) ob
  refine T_al d_X11_init_195 rfl ?_
  refine T_k d_X11_init_196 ?_
  refine T_newa (cd := 1) (ti := 0) d_X11_init_198 rfl rfl w1_56 rfl (Or.inl ⟨rfl, rfl⟩) ⟨by decide, by decide⟩ (by decide) (by decide +kernel) ?_
  have kp := kpI_z (nx := 122) kp (by decide)
  have ob := obI_k ob (kpI_zz (nx := 122)) (by decide)
  have ag := agI_z ag (nx := 122) rfl rfl
  refine T_pq (x := some 122) uws_ok d_X11_init_200 (fun v => by cases v <;> exact ⟨rfl, rfl⟩) rfl (by decide) ?_
  have kp := kpI_q (j := 39) (y := some 122) (b := 99) kp (by decide)
  have ag := agI_q (j := 39) (y := some 122) (a := 99) ag (by decide)
  have ob := obI_q (j := 39) (y := 122) ob
  refine T_al d_X11_init_203 rfl ?_
  refine T_k d_X11_init_204 ?_
  refine T_newa (cd := 1) (ti := 0) d_X11_init_206 rfl rfl w1_56 rfl (Or.inl ⟨rfl, rfl⟩) ⟨by decide, by decide⟩ (by decide) (by decide +kernel) ?_
  have kp := kpI_z (nx := 123) kp (by decide)
  have ob := obI_k ob (kpI_zz (nx := 123)) (by decide)
  have ag := agI_z ag (nx := 123) rfl rfl
  refine T_pq (x := some 123) uws_ok d_X11_init_208 (fun v => by cases v <;> exact ⟨rfl, rfl⟩) rfl (by decide) ?_
  have kp := kpI_q (j := 40) (y := some 123) (b := 99) kp (by decide)
  have ag := agI_q (j := 40) (y := some 123) (a := 99) ag (by decide)
  have ob := obI_q (j := 40) (y := 123) ob
  refine T_al d_X11_init_211 rfl ?_
  refine T_k d_X11_init_212 ?_
  refine T_newa (cd := 1) (ti := 0) d_X11_init_214 rfl rfl w1_56 rfl (Or.inl ⟨rfl, rfl⟩) ⟨by decide, by decide⟩ (by decide) (by decide +kernel) ?_
  have kp := kpI_z (nx := 124) kp (by decide)
  have ob := obI_k ob (kpI_zz (nx := 124)) (by decide)
  have ag := agI_z ag (nx := 124) rfl rfl
  refine T_pq (x := some 124) uws_ok d_X11_init_216 (fun v => by cases v <;> exact ⟨rfl, rfl⟩) rfl (by decide) ?_
  have kp := kpI_q (j := 41) (y := some 124) (b := 99) kp (by decide)
  have ag := agI_q (j := 41) (y := some 124) (a := 99) ag (by decide)
  have ob := obI_q (j := 41) (y := 124) ob
  refine T_al d_X11_init_219 rfl ?_
  refine T_k d_X11_init_220 ?_
  refine T_newa (cd := 1) (ti := 0) d_X11_init_222 rfl rfl w1_56 rfl (Or.inl ⟨rfl, rfl⟩) ⟨by decide, by decide⟩ (by decide) (by decide +kernel) ?_
  have kp := kpI_z (nx := 125) kp (by decide)
  have ob := obI_k ob (kpI_zz (nx := 125)) (by decide)
  have ag := agI_z ag (nx := 125) rfl rfl
  refine T_pq (x := some 125) uws_ok d_X11_init_224 (fun v => by cases v <;> exact ⟨rfl, rfl⟩) rfl (by decide) ?_
  have kp := kpI_q (j := 42) (y := some 125) (b := 99) kp (by decide)
  have ag := agI_q (j := 42) (y := some 125) (a := 99) ag (by decide)
  have ob := obI_q (j := 42) (y := 125) ob
  refine T_al d_X11_init_227 rfl ?_
  refine T_k d_X11_init_228 ?_
  refine T_newa (cd := 1) (ti := 0) d_X11_init_230 rfl rfl w1_56 rfl (Or.inl ⟨rfl, rfl⟩) ⟨by decide, by decide⟩ (by decide) (by decide +kernel) ?_
  have kp := kpI_z (nx := 126) kp (by decide)
  have ob := obI_k ob (kpI_zz (nx := 126)) (by decide)
  have oc := obI_na (nx := 126) ag
  have ag := agI_k ag (kpI_zz (nx := 126))
  refine T_dup d_X11_init_232 rfl ?_
  refine T_k d_X11_init_233 ?_
  refine T_k d_X11_init_234 ?_
  refine T_iast d_X11_init_235 rfl (by decide) ⟨by decide, by decide⟩ ?_
  rw [show ((0 : Int)).toNat = 0 from rfl]
  have kp := kpI_v (j := 0) (x := 2) (b := 126) kp (by decide)
  have ag := agI_v (j := 0) (x := 2) (a := 126) ag (by decide)
  have ob := obI_ov (j := 0) (x := 2) (b := 126) ob (by decide)
  have oc := obI_v (j := 0) (x := 2) oc
  refine T_dup d_X11_init_236 rfl ?_
  refine T_k d_X11_init_237 ?_
  refine T_k d_X11_init_238 ?_
  refine T_iast d_X11_init_239 rfl (by decide) ⟨by decide, by decide⟩ ?_
  rw [show ((1 : Int)).toNat = 1 from rfl]
  have kp := kpI_v (j := 1) (x := 2) (b := 126) kp (by decide)
  have ag := agI_v (j := 1) (x := 2) (a := 126) ag (by decide)
  have ob := obI_ov (j := 1) (x := 2) (b := 126) ob (by decide)
  have oc := obI_v (j := 1) (x := 2) oc
  refine T_dup d_X11_init_240 rfl ?_
  refine T_k d_X11_init_241 ?_
  refine T_k d_X11_init_242 ?_
  refine T_iast d_X11_init_244 rfl (by decide) ⟨by decide, by decide⟩ ?_
  rw [show ((2 : Int)).toNat = 2 from rfl]
  have kp := kpI_v (j := 2) (x := 10) (b := 126) kp (by decide)
  have ag := agI_v (j := 2) (x := 10) (a := 126) ag (by decide)
  have ob := obI_ov (j := 2) (x := 10) (b := 126) ob (by decide)
  have oc := obI_v (j := 2) (x := 10) oc
  refine T_dup d_X11_init_245 rfl ?_
  refine T_k d_X11_init_246 ?_
  refine T_k d_X11_init_247 ?_
  refine T_iast d_X11_init_249 rfl (by decide) ⟨by decide, by decide⟩ ?_
  rw [show ((3 : Int)).toNat = 3 from rfl]
  have kp := kpI_v (j := 3) (x := 20) (b := 126) kp (by decide)
  have ag := agI_v (j := 3) (x := 20) (a := 126) ag (by decide)
  have ob := obI_ov (j := 3) (x := 20) (b := 126) ob (by decide)
  have oc := obI_v (j := 3) (x := 20) oc
  refine T_dup d_X11_init_250 rfl ?_
  refine T_k d_X11_init_251 ?_
  refine T_k d_X11_init_252 ?_
  refine T_iast d_X11_init_253 rfl (by decide) ⟨by decide, by decide⟩ ?_
  rw [show ((4 : Int)).toNat = 4 from rfl]
  have kp := kpI_v (j := 4) (x := 3) (b := 126) kp (by decide)
  have ag := agI_v (j := 4) (x := 3) (a := 126) ag (by decide)
  have ob := obI_ov (j := 4) (x := 3) (b := 126) ob (by decide)
  have oc := obI_v (j := 4) (x := 3) oc
  refine T_dup d_X11_init_254 rfl ?_
  refine T_k d_X11_init_255 ?_
  refine T_k d_X11_init_256 ?_
  refine T_iast d_X11_init_257 rfl (by decide) ⟨by decide, by decide⟩ ?_
  rw [show ((5 : Int)).toNat = 5 from rfl]
  have kp := kpI_v (j := 5) (x := 0) (b := 126) kp (by decide)
  have ag := agI_v (j := 5) (x := 0) (a := 126) ag (by decide)
  have ob := obI_ov (j := 5) (x := 0) (b := 126) ob (by decide)
  have oc := obI_v (j := 5) (x := 0) oc
  refine T_dup d_X11_init_258 rfl ?_
  refine T_k d_X11_init_259 ?_
  refine T_k d_X11_init_261 ?_
  refine T_iast d_X11_init_264 rfl (by decide) ⟨by decide, by decide⟩ ?_
  rw [show ((6 : Int)).toNat = 6 from rfl]
  have kp := kpI_v (j := 6) (x := 300) (b := 126) kp (by decide)
  have ag := agI_v (j := 6) (x := 300) (a := 126) ag (by decide)
  have ob := obI_ov (j := 6) (x := 300) (b := 126) ob (by decide)
  have oc := obI_v (j := 6) (x := 300) oc
  refine T_dup d_X11_init_265 rfl ?_
  refine T_k d_X11_init_266 ?_
  refine T_k d_X11_init_268 ?_
  refine T_iast d_X11_init_269 rfl (by decide) ⟨by decide, by decide⟩ ?_
  rw [show ((7 : Int)).toNat = 7 from rfl]
  have kp := kpI_v (j := 7) (x := 0) (b := 126) kp (by decide)
  have ag := agI_v (j := 7) (x := 0) (a := 126) ag (by decide)
  have ob := obI_ov (j := 7) (x := 0) (b := 126) ob (by decide)
  have oc := obI_v (j := 7) (x := 0) oc
  refine T_dup d_X11_init_270 rfl ?_
  refine T_k d_X11_init_271 ?_
  refine T_k d_X11_init_273 ?_
  refine T_iast d_X11_init_275 rfl (by decide) ⟨by decide, by decide⟩ ?_
  rw [show ((8 : Int)).toNat = 8 from rfl]
  have kp := kpI_v (j := 8) (x := 30) (b := 126) kp (by decide)
  have ag := agI_v (j := 8) (x := 30) (a := 126) ag (by decide)
  have ob := obI_ov (j := 8) (x := 30) (b := 126) ob (by decide)
  have oc := obI_v (j := 8) (x := 30) oc
  refine T_dup d_X11_init_276 rfl ?_
  refine T_k d_X11_init_277 ?_
  refine T_k d_X11_init_279 ?_
  refine T_iast d_X11_init_281 rfl (by decide) ⟨by decide, by decide⟩ ?_
  rw [show ((9 : Int)).toNat = 9 from rfl]
  have kp := kpI_v (j := 9) (x := 10) (b := 126) kp (by decide)
  have ag := agI_v (j := 9) (x := 10) (a := 126) ag (by decide)
  have ob := obI_ov (j := 9) (x := 10) (b := 126) ob (by decide)
  have oc := obI_v (j := 9) (x := 10) oc
  refine T_pq (x := some 126) uws_ok d_X11_init_282 (fun v => by cases v <;> exact ⟨rfl, rfl⟩) rfl (by decide) ?_
  have ag := agI_o ag oc rfl rfl
  have kp := kpI_q (j := 43) (y := some 126) (b := 99) kp (by decide)
  have ag := agI_q (j := 43) (y := some 126) (a := 99) ag (by decide)
  have ob := obI_q (j := 43) (y := 126) ob
  refine T_al d_X11_init_285 rfl ?_
  refine T_k d_X11_init_286 ?_
  refine T_newa (cd := 1) (ti := 0) d_X11_init_288 rfl rfl w1_56 rfl (Or.inl ⟨rfl, rfl⟩) ⟨by decide, by decide⟩ (by decide) (by decide +kernel) ?_
  have kp := kpI_z (nx := 127) kp (by decide)
  have ob := obI_k ob (kpI_zz (nx := 127)) (by decide)
  have oc := obI_na (nx := 127) ag
  have ag := agI_k ag (kpI_zz (nx := 127))
  refine T_dup d_X11_init_290 rfl ?_
  refine T_k d_X11_init_291 ?_
  refine T_k d_X11_init_292 ?_
  refine T_iast d_X11_init_293 rfl (by decide) ⟨by decide, by decide⟩ ?_
  rw [show ((0 : Int)).toNat = 0 from rfl]
  have kp := kpI_v (j := 0) (x := 2) (b := 127) kp (by decide)
  have ag := agI_v (j := 0) (x := 2) (a := 127) ag (by decide)
  have ob := obI_ov (j := 0) (x := 2) (b := 127) ob (by decide)
  have oc := obI_v (j := 0) (x := 2) oc
  refine T_dup d_X11_init_294 rfl ?_
  refine T_k d_X11_init_295 ?_
  refine T_k d_X11_init_296 ?_
  refine T_iast d_X11_init_298 rfl (by decide) ⟨by decide, by decide⟩ ?_
  rw [show ((1 : Int)).toNat = 1 from rfl]
  have kp := kpI_v (j := 1) (x := 8) (b := 127) kp (by decide)
  have ag := agI_v (j := 1) (x := 8) (a := 127) ag (by decide)
  have ob := obI_ov (j := 1) (x := 8) (b := 127) ob (by decide)
  have oc := obI_v (j := 1) (x := 8) oc
  refine T_dup d_X11_init_299 rfl ?_
  refine T_k d_X11_init_300 ?_
  refine T_k d_X11_init_301 ?_
  refine T_iast d_X11_init_303 rfl (by decide) ⟨by decide, by decide⟩ ?_
  rw [show ((2 : Int)).toNat = 2 from rfl]
  have kp := kpI_v (j := 2) (x := 40) (b := 127) kp (by decide)
  have ag := agI_v (j := 2) (x := 40) (a := 127) ag (by decide)
  have ob := obI_ov (j := 2) (x := 40) (b := 127) ob (by decide)
  have oc := obI_v (j := 2) (x := 40) oc
  refine T_dup d_X11_init_304 rfl ?_
  refine T_k d_X11_init_305 ?_
  refine T_k d_X11_init_306 ?_
  refine T_iast d_X11_init_308 rfl (by decide) ⟨by decide, by decide⟩ ?_
  rw [show ((3 : Int)).toNat = 3 from rfl]
  have kp := kpI_v (j := 3) (x := 80) (b := 127) kp (by decide)
  have ag := agI_v (j := 3) (x := 80) (a := 127) ag (by decide)
  have ob := obI_ov (j := 3) (x := 80) (b := 127) ob (by decide)
  have oc := obI_v (j := 3) (x := 80) oc
  refine T_dup d_X11_init_309 rfl ?_
  refine T_k d_X11_init_310 ?_
  refine T_k d_X11_init_311 ?_
  refine T_iast d_X11_init_312 rfl (by decide) ⟨by decide, by decide⟩ ?_
  rw [show ((4 : Int)).toNat = 4 from rfl]
  have kp := kpI_v (j := 4) (x := 3) (b := 127) kp (by decide)
  have ag := agI_v (j := 4) (x := 3) (a := 127) ag (by decide)
  have ob := obI_ov (j := 4) (x := 3) (b := 127) ob (by decide)
  have oc := obI_v (j := 4) (x := 3) oc
  refine T_dup d_X11_init_313 rfl ?_
  refine T_k d_X11_init_314 ?_
  refine T_k d_X11_init_315 ?_
  refine T_iast d_X11_init_318 rfl (by decide) ⟨by decide, by decide⟩ ?_
  rw [show ((5 : Int)).toNat = 5 from rfl]
  have kp := kpI_v (j := 5) (x := 300) (b := 127) kp (by decide)
  have ag := agI_v (j := 5) (x := 300) (a := 127) ag (by decide)
  have ob := obI_ov (j := 5) (x := 300) (b := 127) ob (by decide)
  have oc := obI_v (j := 5) (x := 300) oc
  refine T_dup d_X11_init_319 rfl ?_
  refine T_k d_X11_init_320 ?_
  refine T_k d_X11_init_322 ?_
  refine T_iast d_X11_init_325 rfl (by decide) ⟨by decide, by decide⟩ ?_
  rw [show ((6 : Int)).toNat = 6 from rfl]
  have kp := kpI_v (j := 6) (x := 300) (b := 127) kp (by decide)
  have ag := agI_v (j := 6) (x := 300) (a := 127) ag (by decide)
  have ob := obI_ov (j := 6) (x := 300) (b := 127) ob (by decide)
  have oc := obI_v (j := 6) (x := 300) oc
  refine T_dup d_X11_init_326 rfl ?_
  refine T_k d_X11_init_327 ?_
  refine T_k d_X11_init_329 ?_
  refine T_iast d_X11_init_330 rfl (by decide) ⟨by decide, by decide⟩ ?_
  rw [show ((7 : Int)).toNat = 7 from rfl]
  have kp := kpI_v (j := 7) (x := 0) (b := 127) kp (by decide)
  have ag := agI_v (j := 7) (x := 0) (a := 127) ag (by decide)
  have ob := obI_ov (j := 7) (x := 0) (b := 127) ob (by decide)
  have oc := obI_v (j := 7) (x := 0) oc
  refine T_dup d_X11_init_331 rfl ?_
  refine T_k d_X11_init_332 ?_
  refine T_k d_X11_init_334 ?_
  refine T_iast d_X11_init_336 rfl (by decide) ⟨by decide, by decide⟩ ?_
  rw [show ((8 : Int)).toNat = 8 from rfl]
  have kp := kpI_v (j := 8) (x := 30) (b := 127) kp (by decide)
  have ag := agI_v (j := 8) (x := 30) (a := 127) ag (by decide)
  have ob := obI_ov (j := 8) (x := 30) (b := 127) ob (by decide)
  have oc := obI_v (j := 8) (x := 30) oc
  refine T_dup d_X11_init_337 rfl ?_
  refine T_k d_X11_init_338 ?_
  refine T_k d_X11_init_340 ?_
  refine T_iast d_X11_init_342 rfl (by decide) ⟨by decide, by decide⟩ ?_
  rw [show ((9 : Int)).toNat = 9 from rfl]
  have kp := kpI_v (j := 9) (x := 10) (b := 127) kp (by decide)
  have ag := agI_v (j := 9) (x := 10) (a := 127) ag (by decide)
  have ob := obI_ov (j := 9) (x := 10) (b := 127) ob (by decide)
  have oc := obI_v (j := 9) (x := 10) oc
  refine T_pq (x := some 127) uws_ok d_X11_init_343 (fun v => by cases v <;> exact ⟨rfl, rfl⟩) rfl (by decide) ?_
  have ag := agI_o ag oc rfl rfl
  have kp := kpI_q (j := 44) (y := some 127) (b := 99) kp (by decide)
  have ag := agI_q (j := 44) (y := some 127) (a := 99) ag (by decide)
  have ob := obI_q (j := 44) (y := 127) ob
  refine T_al d_X11_init_346 rfl ?_
  refine T_k d_X11_init_347 ?_
  refine T_newa (cd := 1) (ti := 0) d_X11_init_349 rfl rfl w1_56 rfl (Or.inl ⟨rfl, rfl⟩) ⟨by decide, by decide⟩ (by decide) (by decide +kernel) ?_
  have kp := kpI_z (nx := 128) kp (by decide)
  have ob := obI_k ob (kpI_zz (nx := 128)) (by decide)
  have ag := agI_z ag (nx := 128) rfl rfl
  refine T_pq (x := some 128) uws_ok d_X11_init_351 (fun v => by cases v <;> exact ⟨rfl, rfl⟩) rfl (by decide) ?_
  have kp := kpI_q (j := 50) (y := some 128) (b := 99) kp (by decide)
  have ag := agI_q (j := 50) (y := some 128) (a := 99) ag (by decide)
  have ob := obI_q (j := 50) (y := 128) ob
  refine T_al d_X11_init_354 rfl ?_
  refine T_k d_X11_init_355 ?_
  refine T_newa (cd := 1) (ti := 0) d_X11_init_357 rfl rfl w1_56 rfl (Or.inl ⟨rfl, rfl⟩) ⟨by decide, by decide⟩ (by decide) (by decide +kernel) ?_
  have kp := kpI_z (nx := 129) kp (by decide)
  have ob := obI_k ob (kpI_zz (nx := 129)) (by decide)
  have ag := agI_z ag (nx := 129) rfl rfl
  refine T_pq (x := some 129) uws_ok d_X11_init_359 (fun v => by cases v <;> exact ⟨rfl, rfl⟩) rfl (by decide) ?_
  have kp := kpI_q (j := 51) (y := some 129) (b := 99) kp (by decide)
  have ag := agI_q (j := 51) (y := some 129) (a := 99) ag (by decide)
  have ob := obI_q (j := 51) (y := 129) ob
  refine T_al d_X11_init_362 rfl ?_
  refine T_k d_X11_init_363 ?_
  refine T_newa (cd := 1) (ti := 0) d_X11_init_365 rfl rfl w1_56 rfl (Or.inl ⟨rfl, rfl⟩) ⟨by decide, by decide⟩ (by decide) (by decide +kernel) ?_
  have kp := kpI_z (nx := 130) kp (by decide)
  have ob := obI_k ob (kpI_zz (nx := 130)) (by decide)
  have ag := agI_z ag (nx := 130) rfl rfl
  refine T_pq (x := some 130) uws_ok d_X11_init_367 (fun v => by cases v <;> exact ⟨rfl, rfl⟩) rfl (by decide) ?_
  have kp := kpI_q (j := 52) (y := some 130) (b := 99) kp (by decide)
  have ag := agI_q (j := 52) (y := some 130) (a := 99) ag (by decide)
  have ob := obI_q (j := 52) (y := 130) ob
  refine T_al d_X11_init_370 rfl ?_
  refine T_k d_X11_init_371 ?_
  refine T_newa (cd := 1) (ti := 0) d_X11_init_373 rfl rfl w1_56 rfl (Or.inl ⟨rfl, rfl⟩) ⟨by decide, by decide⟩ (by decide) (by decide +kernel) ?_
  have kp := kpI_z (nx := 131) kp (by decide)
  have ob := obI_k ob (kpI_zz (nx := 131)) (by decide)
  have ag := agI_z ag (nx := 131) rfl rfl
  refine T_pq (x := some 131) uws_ok d_X11_init_375 (fun v => by cases v <;> exact ⟨rfl, rfl⟩) rfl (by decide) ?_
  have kp := kpI_q (j := 53) (y := some 131) (b := 99) kp (by decide)
  have ag := agI_q (j := 53) (y := some 131) (a := 99) ag (by decide)
  have ob := obI_q (j := 53) (y := 131) ob
  refine T_al d_X11_init_378 rfl ?_
  refine T_k d_X11_init_379 ?_
  refine T_newa (cd := 1) (ti := 0) d_X11_init_381 rfl rfl w1_56 rfl (Or.inl ⟨rfl, rfl⟩) ⟨by decide, by decide⟩ (by decide) (by decide +kernel) ?_
  have kp := kpI_z (nx := 132) kp (by decide)
  have ob := obI_k ob (kpI_zz (nx := 132)) (by decide)
  have ag := agI_z ag (nx := 132) rfl rfl
  refine T_pq (x := some 132) uws_ok d_X11_init_383 (fun v => by cases v <;> exact ⟨rfl, rfl⟩) rfl (by decide) ?_
  have kp := kpI_q (j := 54) (y := some 132) (b := 99) kp (by decide)
  have ag := agI_q (j := 54) (y := some 132) (a := 99) ag (by decide)
  have ob := obI_q (j := 54) (y := 132) ob
  refine T_al d_X11_init_386 rfl ?_
  refine T_k d_X11_init_387 ?_
  refine T_newa (cd := 1) (ti := 0) d_X11_init_389 rfl rfl w1_56 rfl (Or.inl ⟨rfl, rfl⟩) ⟨by decide, by decide⟩ (by decide) (by decide +kernel) ?_
  have kp := kpI_z (nx := 133) kp (by decide)
  have ob := obI_k ob (kpI_zz (nx := 133)) (by decide)
  have ag := agI_z ag (nx := 133) rfl rfl
  refine T_pq (x := some 133) uws_ok d_X11_init_391 (fun v => by cases v <;> exact ⟨rfl, rfl⟩) rfl (by decide) ?_
  have kp := kpI_q (j := 55) (y := some 133) (b := 99) kp (by decide)
  have ag := agI_q (j := 55) (y := some 133) (a := 99) ag (by decide)
  have ob := obI_q (j := 55) (y := 133) ob
  refine T_al d_X11_init_394 rfl ?_
  refine T_k d_X11_init_395 ?_
  refine T_newa (cd := 1) (ti := 0) d_X11_init_397 rfl rfl w1_56 rfl (Or.inl ⟨rfl, rfl⟩) ⟨by decide, by decide⟩ (by decide) (by decide +kernel) ?_
  have kp := kpI_z (nx := 134) kp (by decide)
  have ob := obI_k ob (kpI_zz (nx := 134)) (by decide)
  have ag := agI_z ag (nx := 134) rfl rfl
  refine T_pq (x := some 134) uws_ok d_X11_init_399 (fun v => by cases v <;> exact ⟨rfl, rfl⟩) rfl (by decide) ?_
  have kp := kpI_q (j := 56) (y := some 134) (b := 99) kp (by decide)
  have ag := agI_q (j := 56) (y := some 134) (a := 99) ag (by decide)
  have ob := obI_q (j := 56) (y := 134) ob
  refine T_al d_X11_init_402 rfl ?_
  refine T_k d_X11_init_403 ?_
  refine T_newa (cd := 1) (ti := 0) d_X11_init_405 rfl rfl w1_56 rfl (Or.inl ⟨rfl, rfl⟩) ⟨by decide, by decide⟩ (by decide) (by decide +kernel) ?_
  have kp := kpI_z (nx := 135) kp (by decide)
  have ob := obI_k ob (kpI_zz (nx := 135)) (by decide)
  have ag := agI_z ag (nx := 135) rfl rfl
  refine T_pq (x := some 135) uws_ok d_X11_init_407 (fun v => by cases v <;> exact ⟨rfl, rfl⟩) rfl (by decide) ?_
  have kp := kpI_q (j := 58) (y := some 135) (b := 99) kp (by decide)
  have ag := agI_q (j := 58) (y := some 135) (a := 99) ag (by decide)
  have ob := obI_q (j := 58) (y := 135) ob
  refine T_al d_X11_init_410 rfl ?_
  refine T_k d_X11_init_411 ?_
  refine T_newa (cd := 1) (ti := 0) d_X11_init_413 rfl rfl w1_56 rfl (Or.inl ⟨rfl, rfl⟩) ⟨by decide, by decide⟩ (by decide) (by decide +kernel) ?_
  have kp := kpI_z (nx := 136) kp (by decide)
  have ob := obI_k ob (kpI_zz (nx := 136)) (by decide)
  have ag := agI_z ag (nx := 136) rfl rfl
  refine T_pq (x := some 136) uws_ok d_X11_init_415 (fun v => by cases v <;> exact ⟨rfl, rfl⟩) rfl (by decide) ?_
  have kp := kpI_q (j := 59) (y := some 136) (b := 99) kp (by decide)
  have ag := agI_q (j := 59) (y := some 136) (a := 99) ag (by decide)
  have ob := obI_q (j := 59) (y := 136) ob
  refine T_al d_X11_init_418 rfl ?_
  refine T_k d_X11_init_419 ?_
  refine T_newa (cd := 1) (ti := 0) d_X11_init_421 rfl rfl w1_56 rfl (Or.inl ⟨rfl, rfl⟩) ⟨by decide, by decide⟩ (by decide) (by decide +kernel) ?_
  have kp := kpI_z (nx := 137) kp (by decide)
  have ob := obI_k ob (kpI_zz (nx := 137)) (by decide)
  have ag := agI_z ag (nx := 137) rfl rfl
  refine T_pq (x := some 137) uws_ok d_X11_init_423 (fun v => by cases v <;> exact ⟨rfl, rfl⟩) rfl (by decide) ?_
  have kp := kpI_q (j := 60) (y := some 137) (b := 99) kp (by decide)
  have ag := agI_q (j := 60) (y := some 137) (a := 99) ag (by decide)
  have ob := obI_q (j := 60) (y := 137) ob
  refine T_al d_X11_init_426 rfl ?_
  refine T_k d_X11_init_427 ?_
  refine T_newa (cd := 1) (ti := 0) d_X11_init_429 rfl rfl w1_56 rfl (Or.inl ⟨rfl, rfl⟩) ⟨by decide, by decide⟩ (by decide) (by decide +kernel) ?_
  have kp := kpI_z (nx := 138) kp (by decide)
  have ob := obI_k ob (kpI_zz (nx := 138)) (by decide)
  have ag := agI_z ag (nx := 138) rfl rfl
  refine T_pq (x := some 138) uws_ok d_X11_init_431 (fun v => by cases v <;> exact ⟨rfl, rfl⟩) rfl (by decide) ?_
  have kp := kpI_q (j := 61) (y := some 138) (b := 99) kp (by decide)
  have ag := agI_q (j := 61) (y := some 138) (a := 99) ag (by decide)
  have ob := obI_q (j := 61) (y := 138) ob
  refine T_al d_X11_init_434 rfl ?_
  refine T_k d_X11_init_435 ?_
  refine T_newa (cd := 1) (ti := 0) d_X11_init_437 rfl rfl w1_56 rfl (Or.inl ⟨rfl, rfl⟩) ⟨by decide, by decide⟩ (by decide) (by decide +kernel) ?_
  have kp := kpI_z (nx := 139) kp (by decide)
  have ob := obI_k ob (kpI_zz (nx := 139)) (by decide)
  have ag := agI_z ag (nx := 139) rfl rfl
  refine T_pq (x := some 139) uws_ok d_X11_init_439 (fun v => by cases v <;> exact ⟨rfl, rfl⟩) rfl (by decide) ?_
  have kp := kpI_q (j := 62) (y := some 139) (b := 99) kp (by decide)
  have ag := agI_q (j := 62) (y := some 139) (a := 99) ag (by decide)
  have ob := obI_q (j := 62) (y := 139) ob
  refine T_al d_X11_init_442 rfl ?_
  refine T_k d_X11_init_443 ?_
  refine T_newa (cd := 1) (ti := 0) d_X11_init_445 rfl rfl w1_56 rfl (Or.inl ⟨rfl, rfl⟩) ⟨by decide, by decide⟩ (by decide) (by decide +kernel) ?_
  have kp := kpI_z (nx := 140) kp (by decide)
  have ob := obI_k ob (kpI_zz (nx := 140)) (by decide)
  have ag := agI_z ag (nx := 140) rfl rfl
  refine T_pq (x := some 140) uws_ok d_X11_init_447 (fun v => by cases v <;> exact ⟨rfl, rfl⟩) rfl (by decide) ?_
  have kp := kpI_q (j := 63) (y := some 140) (b := 99) kp (by decide)
  have ag := agI_q (j := 63) (y := some 140) (a := 99) ag (by decide)
  have ob := obI_q (j := 63) (y := 140) ob
  refine T_al d_X11_init_450 rfl ?_
  refine T_k d_X11_init_451 ?_
  refine T_newa (cd := 1) (ti := 0) d_X11_init_453 rfl rfl w1_56 rfl (Or.inl ⟨rfl, rfl⟩) ⟨by decide, by decide⟩ (by decide) (by decide +kernel) ?_
  have kp := kpI_z (nx := 141) kp (by decide)
  have ob := obI_k ob (kpI_zz (nx := 141)) (by decide)
  have ag := agI_z ag (nx := 141) rfl rfl
  refine T_pq (x := some 141) uws_ok d_X11_init_455 (fun v => by cases v <;> exact ⟨rfl, rfl⟩) rfl (by decide) ?_
  have kp := kpI_q (j := 64) (y := some 141) (b := 99) kp (by decide)
  have ag := agI_q (j := 64) (y := some 141) (a := 99) ag (by decide)
  have ob := obI_q (j := 64) (y := 141) ob
  refine T_al d_X11_init_458 rfl ?_
  refine T_k d_X11_init_459 ?_
  refine T_newa (cd := 1) (ti := 0) d_X11_init_461 rfl rfl w1_56 rfl (Or.inl ⟨rfl, rfl⟩) ⟨by decide, by decide⟩ (by decide) (by decide +kernel) ?_
  have kp := kpI_z (nx := 142) kp (by decide)
  have ob := obI_k ob (kpI_zz (nx := 142)) (by decide)
  have ag := agI_z ag (nx := 142) rfl rfl
  refine T_pq (x := some 142) uws_ok d_X11_init_463 (fun v => by cases v <;> exact ⟨rfl, rfl⟩) rfl (by decide) ?_
  have kp := kpI_q (j := 65) (y := some 142) (b := 99) kp (by decide)
  have ag := agI_q (j := 65) (y := some 142) (a := 99) ag (by decide)
  have ob := obI_q (j := 65) (y := 142) ob
  refine T_al d_X11_init_466 rfl ?_
  refine T_k d_X11_init_467 ?_
  refine T_newa (cd := 1) (ti := 0) d_X11_init_469 rfl rfl w1_56 rfl (Or.inl ⟨rfl, rfl⟩) ⟨by decide, by decide⟩ (by decide) (by decide +kernel) ?_
  have kp := kpI_z (nx := 143) kp (by decide)
  have ob := obI_k ob (kpI_zz (nx := 143)) (by decide)
  have ag := agI_z ag (nx := 143) rfl rfl
  refine T_pq (x := some 143) uws_ok d_X11_init_471 (fun v => by cases v <;> exact ⟨rfl, rfl⟩) rfl (by decide) ?_
  have kp := kpI_q (j := 66) (y := some 143) (b := 99) kp (by decide)
  have ag := agI_q (j := 66) (y := some 143) (a := 99) ag (by decide)
  have ob := obI_q (j := 66) (y := 143) ob
  refine T_al d_X11_init_474 rfl ?_
  refine T_k d_X11_init_475 ?_
  refine T_newa (cd := 1) (ti := 0) d_X11_init_477 rfl rfl w1_56 rfl (Or.inl ⟨rfl, rfl⟩) ⟨by decide, by decide⟩ (by decide) (by decide +kernel) ?_
  have kp := kpI_z (nx := 144) kp (by decide)
  have ob := obI_k ob (kpI_zz (nx := 144)) (by decide)
  have ag := agI_z ag (nx := 144) rfl rfl
  refine T_pq (x := some 144) uws_ok d_X11_init_479 (fun v => by cases v <;> exact ⟨rfl, rfl⟩) rfl (by decide) ?_
  have kp := kpI_q (j := 67) (y := some 144) (b := 99) kp (by decide)
  have ag := agI_q (j := 67) (y := some 144) (a := 99) ag (by decide)
  have ob := obI_q (j := 67) (y := 144) ob
  refine T_al d_X11_init_482 rfl ?_
  refine T_k d_X11_init_483 ?_
  refine T_newa (cd := 2) (ti := 0) d_X11_init_485 rfl rfl w3_38 rfl (Or.inr (Or.inl ⟨rfl, rfl⟩)) ⟨by decide, by decide⟩ (by decide) (by decide +kernel) ?_
  have kp := kpI_z (nx := 145) kp (by decide)
  have ob := obI_k ob (kpI_zz (nx := 145)) (by decide)
  have ag := agI_z ag (nx := 145) rfl rfl
  refine T_pq (x := some 145) uws_ok d_X11_init_487 (fun v => by cases v <;> exact ⟨rfl, rfl⟩) rfl (by decide) ?_
  have kp := kpI_q (j := 68) (y := some 145) (b := 99) kp (by decide)
  have ag := agI_q (j := 68) (y := some 145) (a := 99) ag (by decide)
  have ob := obI_q (j := 68) (y := 145) ob
  refine T_al d_X11_init_490 rfl ?_
  refine T_k d_X11_init_491 ?_
  refine T_newa (cd := 1) (ti := 0) d_X11_init_494 rfl rfl w1_56 rfl (Or.inl ⟨rfl, rfl⟩) ⟨by decide, by decide⟩ (by decide) (by decide +kernel) ?_
  have kp := kpI_z (nx := 146) kp (by decide)
  have ob := obI_k ob (kpI_zz (nx := 146)) (by decide)
  have ag := agI_z ag (nx := 146) rfl rfl
  refine T_pq (x := some 146) uws_ok d_X11_init_496 (fun v => by cases v <;> exact ⟨rfl, rfl⟩) rfl (by decide) ?_
  have kp := kpI_q (j := 69) (y := some 146) (b := 99) kp (by decide)
  have ag := agI_q (j := 69) (y := some 146) (a := 99) ag (by decide)
  have ob := obI_q (j := 69) (y := 146) ob
  refine T_al d_X11_init_499 rfl ?_
  refine T_k d_X11_init_500 ?_
  refine T_newa (cd := 3) (ti := 0) d_X11_init_502 rfl rfl w1_97 rfl (Or.inr (Or.inr (Or.inl ⟨rfl, rfl⟩))) ⟨by decide, by decide⟩ (by decide) (by decide +kernel) ?_
  have kp := kpI_z (nx := 147) kp (by decide)
  have ob := obI_k ob (kpI_zz (nx := 147)) (by decide)
  have ag := agI_z ag (nx := 147) rfl rfl
  refine T_pq (x := some 147) uws_ok d_X11_init_504 (fun v => by cases v <;> exact ⟨rfl, rfl⟩) rfl (by decide) ?_
  have kp := kpI_q (j := 70) (y := some 147) (b := 99) kp (by decide)
  have ag := agI_q (j := 70) (y := some 147) (a := 99) ag (by decide)
  have ob := obI_q (j := 70) (y := 147) ob
  refine T_al d_X11_init_507 rfl ?_
  refine T_k d_X11_init_508 ?_
  refine T_newa (cd := 1) (ti := 0) d_X11_init_510 rfl rfl w1_56 rfl (Or.inl ⟨rfl, rfl⟩) ⟨by decide, by decide⟩ (by decide) (by decide +kernel) ?_
  have kp := kpI_z (nx := 148) kp (by decide)
  have ob := obI_k ob (kpI_zz (nx := 148)) (by decide)
  have ag := agI_z ag (nx := 148) rfl rfl
  refine T_pq (x := some 148) uws_ok d_X11_init_512 (fun v => by cases v <;> exact ⟨rfl, rfl⟩) rfl (by decide) ?_
  have kp := kpI_q (j := 71) (y := some 148) (b := 99) kp (by decide)
  have ag := agI_q (j := 71) (y := some 148) (a := 99) ag (by decide)
  have ob := obI_q (j := 71) (y := 148) ob
  refine T_al d_X11_init_515 rfl ?_
  refine T_k d_X11_init_516 ?_
  refine T_newa (cd := 1) (ti := 0) d_X11_init_518 rfl rfl w1_56 rfl (Or.inl ⟨rfl, rfl⟩) ⟨by decide, by decide⟩ (by decide) (by decide +kernel) ?_
  have kp := kpI_z (nx := 149) kp (by decide)
  have ob := obI_k ob (kpI_zz (nx := 149)) (by decide)
  have ag := agI_z ag (nx := 149) rfl rfl
  refine T_pq (x := some 149) uws_ok d_X11_init_520 (fun v => by cases v <;> exact ⟨rfl, rfl⟩) rfl (by decide) ?_
  have kp := kpI_q (j := 78) (y := some 149) (b := 99) kp (by decide)
  have ag := agI_q (j := 78) (y := some 149) (a := 99) ag (by decide)
  have ob := obI_q (j := 78) (y := 149) ob
  refine T_al d_X11_init_523 rfl ?_
  refine T_k d_X11_init_524 ?_
  refine T_newa (cd := 1) (ti := 0) d_X11_init_526 rfl rfl w1_56 rfl (Or.inl ⟨rfl, rfl⟩) ⟨by decide, by decide⟩ (by decide) (by decide +kernel) ?_
  have kp := kpI_z (nx := 150) kp (by decide)
  have ob := obI_k ob (kpI_zz (nx := 150)) (by decide)
  have ag := agI_z ag (nx := 150) rfl rfl
  refine T_pq (x := some 150) uws_ok d_X11_init_528 (fun v => by cases v <;> exact ⟨rfl, rfl⟩) rfl (by decide) ?_
  have kp := kpI_q (j := 79) (y := some 150) (b := 99) kp (by decide)
  have ag := agI_q (j := 79) (y := some 150) (a := 99) ag (by decide)
  have ob := obI_q (j := 79) (y := 150) ob
  refine T_al d_X11_init_531 rfl ?_
  refine T_k d_X11_init_532 ?_
  refine T_newa (cd := 1) (ti := 0) d_X11_init_534 rfl rfl w1_56 rfl (Or.inl ⟨rfl, rfl⟩) ⟨by decide, by decide⟩ (by decide) (by decide +kernel) ?_
  have kp := kpI_z (nx := 151) kp (by decide)
  have ob := obI_k ob (kpI_zz (nx := 151)) (by decide)
  have ag := agI_z ag (nx := 151) rfl rfl
  refine T_pq (x := some 151) uws_ok d_X11_init_536 (fun v => by cases v <;> exact ⟨rfl, rfl⟩) rfl (by decide) ?_
  have kp := kpI_q (j := 88) (y := some 151) (b := 99) kp (by decide)
  have ag := agI_q (j := 88) (y := some 151) (a := 99) ag (by decide)
  have ob := obI_q (j := 88) (y := 151) ob
  refine T_al d_X11_init_539 rfl ?_
  refine T_k d_X11_init_540 ?_
  refine T_newa (cd := 3) (ti := 0) d_X11_init_543 rfl rfl w1_97 rfl (Or.inr (Or.inr (Or.inl ⟨rfl, rfl⟩))) ⟨by decide, by decide⟩ (by decide) (by decide +kernel) ?_
  have kp := kpI_z (nx := 152) kp (by decide)
  have ob := obI_k ob (kpI_zz (nx := 152)) (by decide)
  have ag := agI_z ag (nx := 152) rfl rfl
  refine T_pq (x := some 152) uws_ok d_X11_init_545 (fun v => by cases v <;> exact ⟨rfl, rfl⟩) rfl (by decide) ?_
  have kp := kpI_q (j := 89) (y := some 152) (b := 99) kp (by decide)
  have ag := agI_q (j := 89) (y := some 152) (a := 99) ag (by decide)
  have ob := obI_q (j := 89) (y := 152) ob
  refine T_al d_X11_init_548 rfl ?_
  refine T_k d_X11_init_549 ?_
  refine T_newa (cd := 3) (ti := 0) d_X11_init_552 rfl rfl w1_97 rfl (Or.inr (Or.inr (Or.inl ⟨rfl, rfl⟩))) ⟨by decide, by decide⟩ (by decide) (by decide +kernel) ?_
  have kp := kpI_z (nx := 153) kp (by decide)
  have ob := obI_k ob (kpI_zz (nx := 153)) (by decide)
  have ag := agI_z ag (nx := 153) rfl rfl
  refine T_pq (x := some 153) uws_ok d_X11_init_554 (fun v => by cases v <;> exact ⟨rfl, rfl⟩) rfl (by decide) ?_
  have kp := kpI_q (j := 90) (y := some 153) (b := 99) kp (by decide)
  have ag := agI_q (j := 90) (y := some 153) (a := 99) ag (by decide)
  have ob := obI_q (j := 90) (y := 153) ob
  refine T_al d_X11_init_557 rfl ?_
  refine T_k d_X11_init_558 ?_
  refine T_newa (cd := 1) (ti := 0) d_X11_init_560 rfl rfl w1_56 rfl (Or.inl ⟨rfl, rfl⟩) ⟨by decide, by decide⟩ (by decide) (by decide +kernel) ?_
  have kp := kpI_z (nx := 154) kp (by decide)
  have ob := obI_k ob (kpI_zz (nx := 154)) (by decide)
  have ag := agI_z ag (nx := 154) rfl rfl
  refine T_pq (x := some 154) uws_ok d_X11_init_562 (fun v => by cases v <;> exact ⟨rfl, rfl⟩) rfl (by decide) ?_
  have kp := kpI_q (j := 91) (y := some 154) (b := 99) kp (by decide)
  have ag := agI_q (j := 91) (y := some 154) (a := 99) ag (by decide)
  have ob := obI_q (j := 91) (y := 154) ob
  refine T_al d_X11_init_565 rfl ?_
  refine T_k d_X11_init_566 ?_
  refine T_newa (cd := 1) (ti := 0) d_X11_init_568 rfl rfl w1_56 rfl (Or.inl ⟨rfl, rfl⟩) ⟨by decide, by decide⟩ (by decide) (by decide +kernel) ?_
  have kp := kpI_z (nx := 155) kp (by decide)
  have ob := obI_k ob (kpI_zz (nx := 155)) (by decide)
  have ag := agI_z ag (nx := 155) rfl rfl
  refine T_pq (x := some 155) uws_ok d_X11_init_570 (fun v => by cases v <;> exact ⟨rfl, rfl⟩) rfl (by decide) ?_
  have kp := kpI_q (j := 92) (y := some 155) (b := 99) kp (by decide)
  have ag := agI_q (j := 92) (y := some 155) (a := 99) ag (by decide)
  have ob := obI_q (j := 92) (y := 155) ob
  refine T_al d_X11_init_573 rfl ?_
  refine T_k d_X11_init_574 ?_
  refine T_newa (cd := 1) (ti := 0) d_X11_init_576 rfl rfl w1_56 rfl (Or.inl ⟨rfl, rfl⟩) ⟨by decide, by decide⟩ (by decide) (by decide +kernel) ?_
  have kp := kpI_z (nx := 156) kp (by decide)
  have ob := obI_k ob (kpI_zz (nx := 156)) (by decide)
  have ag := agI_z ag (nx := 156) rfl rfl
  refine T_pq (x := some 156) uws_ok d_X11_init_578 (fun v => by cases v <;> exact ⟨rfl, rfl⟩) rfl (by decide) ?_
  have kp := kpI_q (j := 93) (y := some 156) (b := 99) kp (by decide)
  have ag := agI_q (j := 93) (y := some 156) (a := 99) ag (by decide)
  have ob := obI_q (j := 93) (y := 156) ob
  refine T_al d_X11_init_581 rfl ?_
  refine T_k d_X11_init_582 ?_
  refine T_newa (cd := 1) (ti := 0) d_X11_init_584 rfl rfl w1_56 rfl (Or.inl ⟨rfl, rfl⟩) ⟨by decide, by decide⟩ (by decide) (by decide +kernel) ?_
  have kp := kpI_z (nx := 157) kp (by decide)
  have ob := obI_k ob (kpI_zz (nx := 157)) (by decide)
  have ag := agI_z ag (nx := 157) rfl rfl
  refine T_pq (x := some 157) uws_ok d_X11_init_586 (fun v => by cases v <;> exact ⟨rfl, rfl⟩) rfl (by decide) ?_
  have kp := kpI_q (j := 94) (y := some 157) (b := 99) kp (by decide)
  have ag := agI_q (j := 94) (y := some 157) (a := 99) ag (by decide)
  have ob := obI_q (j := 94) (y := 157) ob
  refine T_al d_X11_init_589 rfl ?_
  refine T_k d_X11_init_590 ?_
  refine T_newa (cd := 2) (ti := 0) d_X11_init_592 rfl rfl w3_38 rfl (Or.inr (Or.inl ⟨rfl, rfl⟩)) ⟨by decide, by decide⟩ (by decide) (by decide +kernel) ?_
  have kp := kpI_z (nx := 158) kp (by decide)
  have ob := obI_k ob (kpI_zz (nx := 158)) (by decide)
  have ag := agI_z ag (nx := 158) rfl rfl
  refine T_pq (x := some 158) uws_ok d_X11_init_594 (fun v => by cases v <;> exact ⟨rfl, rfl⟩) rfl (by decide) ?_
  have kp := kpI_q (j := 95) (y := some 158) (b := 99) kp (by decide)
  have ag := agI_q (j := 95) (y := some 158) (a := 99) ag (by decide)
  have ob := obI_q (j := 95) (y := 158) ob
  refine T_al d_X11_init_597 rfl ?_
  refine T_k d_X11_init_598 ?_
  refine T_newa (cd := 3) (ti := 0) d_X11_init_601 rfl rfl w1_97 rfl (Or.inr (Or.inr (Or.inl ⟨rfl, rfl⟩))) ⟨by decide, by decide⟩ (by decide) (by decide +kernel) ?_
  have kp := kpI_z (nx := 159) kp (by decide)
  have ob := obI_k ob (kpI_zz (nx := 159)) (by decide)
  have ag := agI_z ag (nx := 159) rfl rfl
  refine T_pq (x := some 159) uws_ok d_X11_init_603 (fun v => by cases v <;> exact ⟨rfl, rfl⟩) rfl (by decide) ?_
  have kp := kpI_q (j := 96) (y := some 159) (b := 99) kp (by decide)
  have ag := agI_q (j := 96) (y := some 159) (a := 99) ag (by decide)
  have ob := obI_q (j := 96) (y := 159) ob
  refine T_al d_X11_init_606 rfl ?_
  refine T_k d_X11_init_607 ?_
  refine T_newa (cd := 1) (ti := 0) d_X11_init_609 rfl rfl w1_56 rfl (Or.inl ⟨rfl, rfl⟩) ⟨by decide, by decide⟩ (by decide) (by decide +kernel) ?_
  have kp := kpI_z (nx := 160) kp (by decide)
  have ob := obI_k ob (kpI_zz (nx := 160)) (by decide)
  have ag := agI_z ag (nx := 160) rfl rfl
  refine T_pq (x := some 160) uws_ok d_X11_init_611 (fun v => by cases v <;> exact ⟨rfl, rfl⟩) rfl (by decide) ?_
  have kp := kpI_q (j := 98) (y := some 160) (b := 99) kp (by decide)
  have ag := agI_q (j := 98) (y := some 160) (a := 99) ag (by decide)
  have ob := obI_q (j := 98) (y := 160) ob
  refine T_al d_X11_init_614 rfl ?_
  refine T_k d_X11_init_615 ?_
  refine T_newa (cd := 1) (ti := 0) d_X11_init_617 rfl rfl w1_56 rfl (Or.inl ⟨rfl, rfl⟩) ⟨by decide, by decide⟩ (by decide) (by decide +kernel) ?_
  have kp := kpI_z (nx := 161) kp (by decide)
  have ob := obI_k ob (kpI_zz (nx := 161)) (by decide)
  have ag := agI_z ag (nx := 161) rfl rfl
  refine T_pq (x := some 161) uws_ok d_X11_init_619 (fun v => by cases v <;> exact ⟨rfl, rfl⟩) rfl (by decide) ?_
  have kp := kpI_q (j := 99) (y := some 161) (b := 99) kp (by decide)
  have ag := agI_q (j := 99) (y := some 161) (a := 99) ag (by decide)
  have ob := obI_q (j := 99) (y := 161) ob
  exact T_vret d_X11_init_622 rfl ⟨rfl, kp, agI_f ob ag rfl rfl⟩
