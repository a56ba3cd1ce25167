theorem uws0 : ∀ w ∈ u_ws RX0 TX0 9, w ∈ WL := by
  intro w hw
  unfold u_ws at hw
  obtain ⟨k, hk, rfl⟩ := List.mem_map.mp hw
  have hk := List.mem_range.mp hk
  match k, hk with
  | 0, _ => exact wl_1 78 rfl rfl
  | 1, _ => exact wl_1 80 rfl rfl
  | 2, _ => exact wl_1 82 rfl rfl
  | 3, _ => exact wl_1 84 rfl rfl
  | 4, _ => exact wl_1 86 rfl rfl
  | 5, _ => exact wl_1 88 rfl rfl
  | 6, _ => exact wl_1 90 rfl rfl
  | 7, _ => exact wl_1 92 rfl rfl
  | 8, _ => exact wl_1 94 rfl rfl
  | k + 9, hk => exact absurd hk (by omega)

theorem uws1 : ∀ w ∈ u_ws RX1 TX1 16, w ∈ WL := by
  intro w hw
  unfold u_ws at hw
  obtain ⟨k, hk, rfl⟩ := List.mem_map.mp hw
  have hk := List.mem_range.mp hk
  match k, hk with
  | 0, _ => exact wl_2 136 rfl rfl
  | 1, _ => exact wl_2 138 rfl rfl
  | 2, _ => exact wl_2 140 rfl rfl
  | 3, _ => exact wl_2 142 rfl rfl
  | 4, _ => exact wl_2 144 rfl rfl
  | 5, _ => exact wl_2 146 rfl rfl
  | 6, _ => exact wl_2 148 rfl rfl
  | 7, _ => exact wl_2 150 rfl rfl
  | 8, _ => exact wl_2 152 rfl rfl
  | 9, _ => exact wl_2 154 rfl rfl
  | 10, _ => exact wl_2 156 rfl rfl
  | 11, _ => exact wl_2 158 rfl rfl
  | 12, _ => exact wl_2 160 rfl rfl
  | 13, _ => exact wl_2 162 rfl rfl
  | 14, _ => exact wl_2 164 rfl rfl
  | 15, _ => exact wl_2 166 rfl rfl
  | k + 16, hk => exact absurd hk (by omega)

theorem uws2 : ∀ w ∈ u_ws RX2 TX2 20, w ∈ WL := by
  intro w hw
  unfold u_ws at hw
  obtain ⟨k, hk, rfl⟩ := List.mem_map.mp hw
  have hk := List.mem_range.mp hk
  match k, hk with
  | 0, _ => exact wl_2 79 rfl rfl
  | 1, _ => exact wl_2 81 rfl rfl
  | 2, _ => exact wl_2 83 rfl rfl
  | 3, _ => exact wl_2 85 rfl rfl
  | 4, _ => exact wl_2 87 rfl rfl
  | 5, _ => exact wl_2 89 rfl rfl
  | 6, _ => exact wl_2 91 rfl rfl
  | 7, _ => exact wl_2 93 rfl rfl
  | 8, _ => exact wl_2 95 rfl rfl
  | 9, _ => exact wl_2 97 rfl rfl
  | 10, _ => exact wl_2 99 rfl rfl
  | 11, _ => exact wl_2 101 rfl rfl
  | 12, _ => exact wl_2 103 rfl rfl
  | 13, _ => exact wl_2 105 rfl rfl
  | 14, _ => exact wl_2 107 rfl rfl
  | 15, _ => exact wl_2 109 rfl rfl
  | 16, _ => exact wl_2 111 rfl rfl
  | 17, _ => exact wl_2 113 rfl rfl
  | 18, _ => exact wl_2 115 rfl rfl
  | 19, _ => exact wl_2 117 rfl rfl
  | k + 20, hk => exact absurd hk (by omega)

theorem uws3 : ∀ w ∈ u_ws RX3 TX3 7, w ∈ WL := by
  intro w hw
  unfold u_ws at hw
  obtain ⟨k, hk, rfl⟩ := List.mem_map.mp hw
  have hk := List.mem_range.mp hk
  match k, hk with
  | 0, _ => exact wl_2 192 rfl rfl
  | 1, _ => exact wl_2 194 rfl rfl
  | 2, _ => exact wl_2 196 rfl rfl
  | 3, _ => exact wl_2 198 rfl rfl
  | 4, _ => exact wl_2 200 rfl rfl
  | 5, _ => exact wl_2 202 rfl rfl
  | 6, _ => exact wl_2 204 rfl rfl
  | k + 7, hk => exact absurd hk (by omega)

theorem uws4 : ∀ w ∈ u_ws RX4 TX4 8, w ∈ WL := by
  intro w hw
  unfold u_ws at hw
  obtain ⟨k, hk, rfl⟩ := List.mem_map.mp hw
  have hk := List.mem_range.mp hk
  match k, hk with
  | 0, _ => exact wl_1 119 rfl rfl
  | 1, _ => exact wl_1 121 rfl rfl
  | 2, _ => exact wl_1 123 rfl rfl
  | 3, _ => exact wl_1 125 rfl rfl
  | 4, _ => exact wl_1 127 rfl rfl
  | 5, _ => exact wl_1 129 rfl rfl
  | 6, _ => exact wl_1 131 rfl rfl
  | 7, _ => exact wl_1 133 rfl rfl
  | k + 8, hk => exact absurd hk (by omega)

theorem uws5 : ∀ w ∈ u_ws RX5 TX5 3, w ∈ WL := by
  intro w hw
  unfold u_ws at hw
  obtain ⟨k, hk, rfl⟩ := List.mem_map.mp hw
  have hk := List.mem_range.mp hk
  match k, hk with
  | 0, _ => exact wl_1 49 rfl rfl
  | 1, _ => exact wl_1 51 rfl rfl
  | 2, _ => exact wl_1 53 rfl rfl
  | k + 3, hk => exact absurd hk (by omega)

theorem uws6 : ∀ w ∈ u_ws RX6 TX6 18, w ∈ WL := by
  intro w hw
  unfold u_ws at hw
  obtain ⟨k, hk, rfl⟩ := List.mem_map.mp hw
  have hk := List.mem_range.mp hk
  match k, hk with
  | 0, _ => exact wl_3 1 rfl rfl
  | 1, _ => exact wl_3 3 rfl rfl
  | 2, _ => exact wl_3 5 rfl rfl
  | 3, _ => exact wl_3 7 rfl rfl
  | 4, _ => exact wl_3 9 rfl rfl
  | 5, _ => exact wl_3 11 rfl rfl
  | 6, _ => exact wl_3 13 rfl rfl
  | 7, _ => exact wl_3 15 rfl rfl
  | 8, _ => exact wl_3 17 rfl rfl
  | 9, _ => exact wl_3 19 rfl rfl
  | 10, _ => exact wl_3 21 rfl rfl
  | 11, _ => exact wl_3 23 rfl rfl
  | 12, _ => exact wl_3 25 rfl rfl
  | 13, _ => exact wl_3 27 rfl rfl
  | 14, _ => exact wl_3 29 rfl rfl
  | 15, _ => exact wl_3 31 rfl rfl
  | 16, _ => exact wl_3 33 rfl rfl
  | 17, _ => exact wl_3 35 rfl rfl
  | k + 18, hk => exact absurd hk (by omega)

theorem uws7 : ∀ w ∈ u_ws RX7 TX7 15, w ∈ WL := by
  intro w hw
  unfold u_ws at hw
  obtain ⟨k, hk, rfl⟩ := List.mem_map.mp hw
  have hk := List.mem_range.mp hk
  match k, hk with
  | 0, _ => exact wl_1 178 rfl rfl
  | 1, _ => exact wl_1 180 rfl rfl
  | 2, _ => exact wl_1 182 rfl rfl
  | 3, _ => exact wl_1 184 rfl rfl
  | 4, _ => exact wl_1 186 rfl rfl
  | 5, _ => exact wl_1 188 rfl rfl
  | 6, _ => exact wl_1 190 rfl rfl
  | 7, _ => exact wl_1 192 rfl rfl
  | 8, _ => exact wl_1 194 rfl rfl
  | 9, _ => exact wl_1 196 rfl rfl
  | 10, _ => exact wl_1 198 rfl rfl
  | 11, _ => exact wl_1 200 rfl rfl
  | 12, _ => exact wl_1 202 rfl rfl
  | 13, _ => exact wl_1 204 rfl rfl
  | 14, _ => exact wl_1 206 rfl rfl
  | k + 15, hk => exact absurd hk (by omega)

theorem uws8 : ∀ w ∈ u_ws RX8 TX8 8, w ∈ WL := by
  intro w hw
  unfold u_ws at hw
  obtain ⟨k, hk, rfl⟩ := List.mem_map.mp hw
  have hk := List.mem_range.mp hk
  match k, hk with
  | 0, _ => exact wl_1 232 rfl rfl
  | 1, _ => exact wl_1 234 rfl rfl
  | 2, _ => exact wl_1 236 rfl rfl
  | 3, _ => exact wl_1 238 rfl rfl
  | 4, _ => exact wl_2 0 rfl rfl
  | 5, _ => exact wl_2 2 rfl rfl
  | 6, _ => exact wl_2 4 rfl rfl
  | 7, _ => exact wl_2 6 rfl rfl
  | k + 8, hk => exact absurd hk (by omega)

theorem uws9 : ∀ w ∈ u_ws RX9 TX9 14, w ∈ WL := by
  intro w hw
  unfold u_ws at hw
  obtain ⟨k, hk, rfl⟩ := List.mem_map.mp hw
  have hk := List.mem_range.mp hk
  match k, hk with
  | 0, _ => exact wl_3 58 rfl rfl
  | 1, _ => exact wl_3 60 rfl rfl
  | 2, _ => exact wl_3 62 rfl rfl
  | 3, _ => exact wl_3 64 rfl rfl
  | 4, _ => exact wl_3 66 rfl rfl
  | 5, _ => exact wl_3 68 rfl rfl
  | 6, _ => exact wl_3 70 rfl rfl
  | 7, _ => exact wl_3 72 rfl rfl
  | 8, _ => exact wl_3 74 rfl rfl
  | 9, _ => exact wl_3 76 rfl rfl
  | 10, _ => exact wl_3 78 rfl rfl
  | 11, _ => exact wl_3 80 rfl rfl
  | 12, _ => exact wl_3 82 rfl rfl
  | 13, _ => exact wl_3 84 rfl rfl
  | k + 14, hk => exact absurd hk (by omega)

theorem uws10 : ∀ w ∈ u_ws RX10 TX10 4, w ∈ WL := by
  intro w hw
  unfold u_ws at hw
  obtain ⟨k, hk, rfl⟩ := List.mem_map.mp hw
  have hk := List.mem_range.mp hk
  match k, hk with
  | 0, _ => exact wl_3 91 rfl rfl
  | 1, _ => exact wl_3 93 rfl rfl
  | 2, _ => exact wl_3 95 rfl rfl
  | 3, _ => exact wl_3 97 rfl rfl
  | k + 4, hk => exact absurd hk (by omega)

theorem uws11 : ∀ w ∈ u_ws RX11 TX11 100, w ∈ WL := by
  intro w hw
  unfold u_ws at hw
  obtain ⟨k, hk, rfl⟩ := List.mem_map.mp hw
  have hk := List.mem_range.mp hk
  match k, hk with
  | 0, _ => exact wl_6 132 rfl rfl
  | 1, _ => exact wl_6 134 rfl rfl
  | 2, _ => exact wl_6 136 rfl rfl
  | 3, _ => exact wl_6 138 rfl rfl
  | 4, _ => exact wl_6 140 rfl rfl
  | 5, _ => exact wl_6 142 rfl rfl
  | 6, _ => exact wl_6 144 rfl rfl
  | 7, _ => exact wl_6 146 rfl rfl
  | 8, _ => exact wl_6 148 rfl rfl
  | 9, _ => exact wl_6 150 rfl rfl
  | 10, _ => exact wl_6 152 rfl rfl
  | 11, _ => exact wl_6 154 rfl rfl
  | 12, _ => exact wl_6 156 rfl rfl
  | 13, _ => exact wl_6 158 rfl rfl
  | 14, _ => exact wl_6 160 rfl rfl
  | 15, _ => exact wl_6 162 rfl rfl
  | 16, _ => exact wl_6 164 rfl rfl
  | 17, _ => exact wl_6 166 rfl rfl
  | 18, _ => exact wl_6 168 rfl rfl
  | 19, _ => exact wl_6 170 rfl rfl
  | 20, _ => exact wl_6 172 rfl rfl
  | 21, _ => exact wl_6 174 rfl rfl
  | 22, _ => exact wl_6 176 rfl rfl
  | 23, _ => exact wl_6 178 rfl rfl
  | 24, _ => exact wl_6 180 rfl rfl
  | 25, _ => exact wl_6 182 rfl rfl
  | 26, _ => exact wl_6 184 rfl rfl
  | 27, _ => exact wl_6 186 rfl rfl
  | 28, _ => exact wl_6 188 rfl rfl
  | 29, _ => exact wl_6 190 rfl rfl
  | 30, _ => exact wl_6 192 rfl rfl
  | 31, _ => exact wl_6 194 rfl rfl
  | 32, _ => exact wl_6 196 rfl rfl
  | 33, _ => exact wl_6 198 rfl rfl
  | 34, _ => exact wl_6 200 rfl rfl
  | 35, _ => exact wl_6 202 rfl rfl
  | 36, _ => exact wl_6 204 rfl rfl
  | 37, _ => exact wl_6 206 rfl rfl
  | 38, _ => exact wl_6 208 rfl rfl
  | 39, _ => exact wl_6 210 rfl rfl
  | 40, _ => exact wl_6 212 rfl rfl
  | 41, _ => exact wl_6 214 rfl rfl
  | 42, _ => exact wl_6 216 rfl rfl
  | 43, _ => exact wl_6 218 rfl rfl
  | 44, _ => exact wl_6 220 rfl rfl
  | 45, _ => exact wl_6 222 rfl rfl
  | 46, _ => exact wl_6 224 rfl rfl
  | 47, _ => exact wl_6 226 rfl rfl
  | 48, _ => exact wl_6 228 rfl rfl
  | 49, _ => exact wl_6 230 rfl rfl
  | 50, _ => exact wl_6 232 rfl rfl
  | 51, _ => exact wl_6 234 rfl rfl
  | 52, _ => exact wl_6 236 rfl rfl
  | 53, _ => exact wl_6 238 rfl rfl
  | 54, _ => exact wl_7 0 rfl rfl
  | 55, _ => exact wl_7 2 rfl rfl
  | 56, _ => exact wl_7 4 rfl rfl
  | 57, _ => exact wl_7 6 rfl rfl
  | 58, _ => exact wl_7 8 rfl rfl
  | 59, _ => exact wl_7 10 rfl rfl
  | 60, _ => exact wl_7 12 rfl rfl
  | 61, _ => exact wl_7 14 rfl rfl
  | 62, _ => exact wl_7 16 rfl rfl
  | 63, _ => exact wl_7 18 rfl rfl
  | 64, _ => exact wl_7 20 rfl rfl
  | 65, _ => exact wl_7 22 rfl rfl
  | 66, _ => exact wl_7 24 rfl rfl
  | 67, _ => exact wl_7 26 rfl rfl
  | 68, _ => exact wl_7 28 rfl rfl
  | 69, _ => exact wl_7 30 rfl rfl
  | 70, _ => exact wl_7 32 rfl rfl
  | 71, _ => exact wl_7 34 rfl rfl
  | 72, _ => exact wl_7 36 rfl rfl
  | 73, _ => exact wl_7 38 rfl rfl
  | 74, _ => exact wl_7 40 rfl rfl
  | 75, _ => exact wl_7 42 rfl rfl
  | 76, _ => exact wl_7 44 rfl rfl
  | 77, _ => exact wl_7 46 rfl rfl
  | 78, _ => exact wl_7 48 rfl rfl
  | 79, _ => exact wl_7 50 rfl rfl
  | 80, _ => exact wl_7 52 rfl rfl
  | 81, _ => exact wl_7 54 rfl rfl
  | 82, _ => exact wl_7 56 rfl rfl
  | 83, _ => exact wl_7 58 rfl rfl
  | 84, _ => exact wl_7 60 rfl rfl
  | 85, _ => exact wl_7 62 rfl rfl
  | 86, _ => exact wl_7 64 rfl rfl
  | 87, _ => exact wl_7 66 rfl rfl
  | 88, _ => exact wl_7 68 rfl rfl
  | 89, _ => exact wl_7 70 rfl rfl
  | 90, _ => exact wl_7 72 rfl rfl
  | 91, _ => exact wl_7 74 rfl rfl
  | 92, _ => exact wl_7 76 rfl rfl
  | 93, _ => exact wl_7 78 rfl rfl
  | 94, _ => exact wl_7 80 rfl rfl
  | 95, _ => exact wl_7 82 rfl rfl
  | 96, _ => exact wl_7 84 rfl rfl
  | 97, _ => exact wl_7 86 rfl rfl
  | 98, _ => exact wl_7 88 rfl rfl
  | 99, _ => exact wl_7 90 rfl rfl
  | k + 100, hk => exact absurd hk (by omega)

theorem uws_ok : uwsOk := by
  intro ci q hq
  match ci, hq with
  | 0, hq => cases hq; exact ⟨uws0, tyX0, tyX0_ok, nmX0⟩
  | 1, hq => cases hq; exact ⟨uws1, tyX1, tyX1_ok, nmX1⟩
  | 2, hq => cases hq; exact ⟨uws2, tyX2, tyX2_ok, nmX2⟩
  | 3, hq => cases hq; exact ⟨uws3, tyX3, tyX3_ok, nmX3⟩
  | 4, hq => cases hq; exact ⟨uws4, tyX4, tyX4_ok, nmX4⟩
  | 5, hq => cases hq; exact ⟨uws5, tyX5, tyX5_ok, nmX5⟩
  | 6, hq => cases hq; exact ⟨uws6, tyX6, tyX6_ok, nmX6⟩
  | 7, hq => cases hq; exact ⟨uws7, tyX7, tyX7_ok, nmX7⟩
  | 8, hq => cases hq; exact ⟨uws8, tyX8, tyX8_ok, nmX8⟩
  | 9, hq => cases hq; exact ⟨uws9, tyX9, tyX9_ok, nmX9⟩
  | 10, hq => cases hq; exact ⟨uws10, tyX10, tyX10_ok, nmX10⟩
  | 11, hq => cases hq; exact ⟨uws11, tyX11, tyX11_ok, nmX11⟩
  | ci + 12, hq => simp [vwCl] at hq

section TMORE
variable {G : GG} {M M' : Mth} {Rm : Room} {n0 nx n1 pc pn : Nat} {Z : List Frame → Array Value → State → State → Prop} {ls ls' : List (Nat × AV)} {st : List AV} {V : VV} {R : RR} {Q : Option AV → VV → RR → Prop}

def dOI (M : Mth) (pc pn : Nat) : Prop := ∃ i, decode M.2.1 pc = .ok (.invokespecial i, 3) ∧ pc + 3 = pn ∧ Cond.methodLink M.2.2.2.2 i Lib.objectInit ∈ WL
theorem T_oi {x : AV} {a : Nat} (h : dOI M pc pn) (hst : wds st ≤ 8) (hf : 1 ≤ Rm.frames ∧ 20 ≤ Rm.locals) (k : TT G M Rm n0 Z nx pn ls st V R) : TT G M Rm n0 Z nx pc ls (vr a :: st) V R := by
  intro p e s m args below meth c H locs lr C hW hS hl'
  obtain ⟨i, hd, rfl, hw⟩ := h
  refine W.objInit C.1 C.2.1 C.2.2.2.2.1 (C.2.2.2.2.2.1 _ hw) (C.2.2.2.2.2.1 _ w1_27) (C.2.2.2.2.2.1 _ w1_28) rfl (by rw [C.2.2.2.1]; exact hl'.1) rfl hd hf.1 ?_ (k p e s m args below meth c H locs lr C hW hS hl')
  have := wds_sum G st
  have h1 := lv_room (m := m) (pc := pc) (ls := lr) (rest := st.map (cv G)) (st := st.map (cv G)) (by rw [this]; exact hst)
  simp only [F0] at h1 ⊢
  omega

def dMmax (M : Mth) (pc pn : Nat) : Prop := ∃ i, decode M.2.1 pc = .ok (.invokestatic i, 3) ∧ pc + 3 = pn ∧ Cond.methodLink M.2.2.2.2 i Lib.Math.max.name ∈ WL
theorem T_mmax {x y : Int} (h : dMmax M pc pn) (hx : r32 x) (hy : r32 y) (hst : wds st ≤ 8) (hf : 1 ≤ Rm.frames ∧ 30 ≤ Rm.locals ∧ nx - n0 ≤ Rm.cells ∧ sl nx - sl n0 ≤ Rm.slots) (k : TT G M Rm n0 Z nx pn ls (vi (if x < y then y else x) :: st) V R) : TT G M Rm n0 Z nx pc ls (vi y :: vi x :: st) V R := by
  intro p e s m args below meth c H locs lr C hW hS hl'
  obtain ⟨i, hd, rfl, hw⟩ := h
  refine va_mmax C.1 C.2.1 (by rw [C.2.2.2.1]; exact hl'.1.symm) C.2.2.2.2.1 (C.2.2.2.2.2.1 _ hw) (C.2.2.2.2.2.1 _ w3_234) (C.2.2.2.2.2.1 _ w1_13) (C.2.2.2.2.2.1 _ w3_235) hf.1 (by rw [wds_sum]; omega) hf.2.2.1 hf.2.2.2 hd ?_
  have k := k p e s m args below meth c H locs lr C hW hS hl'
  rw [List.map_cons] at k
  simp only [i32_lt hx hy, i32_lt hy hx, i32_le hx hy, i32_le hy hx, GT.gt, GE.ge] 
  by_cases hc : x < y
  · rw [if_pos hc] at k ⊢; exact k
  · rw [if_neg hc] at k ⊢; exact k

def dMmin (M : Mth) (pc pn : Nat) : Prop := ∃ i, decode M.2.1 pc = .ok (.invokestatic i, 3) ∧ pc + 3 = pn ∧ Cond.methodLink M.2.2.2.2 i Lib.Math.min.name ∈ WL
theorem T_mmin {x y : Int} (h : dMmin M pc pn) (hx : r32 x) (hy : r32 y) (hst : wds st ≤ 8) (hf : 1 ≤ Rm.frames ∧ 30 ≤ Rm.locals ∧ nx - n0 ≤ Rm.cells ∧ sl nx - sl n0 ≤ Rm.slots) (k : TT G M Rm n0 Z nx pn ls (vi (if y < x then y else x) :: st) V R) : TT G M Rm n0 Z nx pc ls (vi y :: vi x :: st) V R := by
  intro p e s m args below meth c H locs lr C hW hS hl'
  obtain ⟨i, hd, rfl, hw⟩ := h
  refine va_mmin C.1 C.2.1 (by rw [C.2.2.2.1]; exact hl'.1.symm) C.2.2.2.2.1 (C.2.2.2.2.2.1 _ hw) (C.2.2.2.2.2.1 _ w3_137) (C.2.2.2.2.2.1 _ w1_13) (C.2.2.2.2.2.1 _ w3_138) hf.1 (by rw [wds_sum]; omega) hf.2.2.1 hf.2.2.2 hd ?_
  have k := k p e s m args below meth c H locs lr C hW hS hl'
  rw [List.map_cons] at k
  simp only [i32_lt hx hy, i32_lt hy hx, i32_le hx hy, i32_le hy hx, GT.gt, GE.ge] 
  by_cases hc : y < x
  · rw [if_pos hc] at k ⊢; exact k
  · rw [if_neg hc] at k ⊢; exact k

def dMabs (M : Mth) (pc pn : Nat) : Prop := ∃ i, decode M.2.1 pc = .ok (.invokestatic i, 3) ∧ pc + 3 = pn ∧ Cond.methodLink M.2.2.2.2 i Lib.Math.abs.name ∈ WL
theorem T_mabs {x : Int} (h : dMabs M pc pn) (hx : r32 x) (hst : wds st ≤ 8) (hf : 1 ≤ Rm.frames ∧ 30 ≤ Rm.locals ∧ nx - n0 ≤ Rm.cells ∧ sl nx - sl n0 ≤ Rm.slots) (k : TT G M Rm n0 Z nx pn ls (vi (if 0 ≤ x then x else -x) :: st) V R) : TT G M Rm n0 Z nx pc ls (vi x :: st) V R := by
  intro p e s m args below meth c H locs lr C hW hS hl'
  obtain ⟨i, hd, rfl, hw⟩ := h
  refine va_mabs C.1 C.2.1 (by rw [C.2.2.2.1]; exact hl'.1.symm) C.2.2.2.2.1 (C.2.2.2.2.2.1 _ hw) (C.2.2.2.2.2.1 _ w4_1) (C.2.2.2.2.2.1 _ w1_13) (C.2.2.2.2.2.1 _ w4_2) hf.1 (by rw [wds_sum]; omega) hf.2.2.1 hf.2.2.2 hd ?_
  have k := k p e s m args below meth c H locs lr C hW hS hl'
  rw [List.map_cons] at k
  by_cases hc : 0 ≤ x
  · rw [if_pos hc] at k
    have hc' : (0 : Int32) ≤ Int32.ofInt x := (i32_le (x := 0) ⟨by decide, by decide⟩ hx).mpr hc
    rw [if_pos hc']
    exact k
  · rw [if_neg hc] at k
    have hc' : ¬ (0 : Int32) ≤ Int32.ofInt x := fun q => hc ((i32_le (x := 0) ⟨by decide, by decide⟩ hx).mp q)
    rw [if_neg hc']
    have e1 : (0 : Int32) - Int32.ofInt x = Int32.ofInt (-x) := by rw [i32_0, ← Int32.ofInt_sub, Int.zero_sub]
    rw [e1]
    exact k

end TMORE
