/-! the start meets the tables -/
section
variable {s : State} {b : Nat}
theorem st_cls (hw : ∀ w ∈ WL, w.before #[Value.ref b] s = true) : ∃ D : va_G, ∀ (c : Nat) (q : vw_C), vwCl[c]? = some q → u_Kn s q.1 q.2.1 q.2.2 (D.1 c) (D.2 c) := by
  have h : ∀ c : Nat, ∃ d : ClassId × (Nat → Nat), ∀ q : vw_C, vwCl[c]? = some q → u_Kn s q.1 q.2.1 q.2.2 d.1 d.2 := by
    intro c
    match c with
    | 0 => obtain ⟨a, i, h⟩ := u_known (C := RX0) (T := TX0) (N := 9) (n := 9) hw uws0 (hw _ w1_30); exact ⟨(a, i), fun q hq => by cases hq; exact h⟩
    | 1 => obtain ⟨a, i, h⟩ := u_known (C := RX1) (T := TX1) (N := 16) (n := 16) hw uws1 (hw _ w2_10); exact ⟨(a, i), fun q hq => by cases hq; exact h⟩
    | 2 => obtain ⟨a, i, h⟩ := u_known (C := RX2) (T := TX2) (N := 20) (n := 20) hw uws2 (hw _ w2_16); exact ⟨(a, i), fun q hq => by cases hq; exact h⟩
    | 3 => obtain ⟨a, i, h⟩ := u_known (C := RX3) (T := TX3) (N := 7) (n := 7) hw uws3 (hw _ w2_170); exact ⟨(a, i), fun q hq => by cases hq; exact h⟩
    | 4 => obtain ⟨a, i, h⟩ := u_known (C := RX4) (T := TX4) (N := 8) (n := 8) hw uws4 (hw _ w1_99); exact ⟨(a, i), fun q hq => by cases hq; exact h⟩
    | 5 => obtain ⟨a, i, h⟩ := u_known (C := RX5) (T := TX5) (N := 3) (n := 3) hw uws5 (hw _ w1_36); exact ⟨(a, i), fun q hq => by cases hq; exact h⟩
    | 6 => obtain ⟨a, i, h⟩ := u_known (C := RX6) (T := TX6) (N := 18) (n := 18) hw uws6 (hw _ w2_208); exact ⟨(a, i), fun q hq => by cases hq; exact h⟩
    | 7 => obtain ⟨a, i, h⟩ := u_known (C := RX7) (T := TX7) (N := 15) (n := 15) hw uws7 (hw _ w1_143); exact ⟨(a, i), fun q hq => by cases hq; exact h⟩
    | 8 => obtain ⟨a, i, h⟩ := u_known (C := RX8) (T := TX8) (N := 8) (n := 8) hw uws8 (hw _ w1_210); exact ⟨(a, i), fun q hq => by cases hq; exact h⟩
    | 9 => obtain ⟨a, i, h⟩ := u_known (C := RX9) (T := TX9) (N := 14) (n := 14) hw uws9 (hw _ w1_137); exact ⟨(a, i), fun q hq => by cases hq; exact h⟩
    | 10 => obtain ⟨a, i, h⟩ := u_known (C := RX10) (T := TX10) (N := 4) (n := 4) hw uws10 (hw _ w1_22); exact ⟨(a, i), fun q hq => by cases hq; exact h⟩
    | 11 => obtain ⟨a, i, h⟩ := u_known (C := RX11) (T := TX11) (N := 100) (n := 100) hw uws11 (hw _ w6_30); exact ⟨(a, i), fun q hq => by cases hq; exact h⟩
    | c + 12 => exact ⟨(0, fun _ => 0), fun q hq => by simp [vwCl] at hq⟩
  obtain ⟨f, hf⟩ := Classical.axiomOfChoice h
  exact ⟨(fun c => (f c).1, fun c => (f c).2), fun c q hq => hf c q hq⟩
theorem st_arr {ty : FieldType} (h : (Cond.arrayClass ty).before #[Value.ref b] s = true) (ho : ∀ C, ty ≠ .object C) : ∃ c : ClassId, ArrOfT s c ty ∧ va_RA s c ty := by
  obtain ⟨c, k, comp, h1, h2, h3⟩ := Cond.arrayClass_spec h
  refine ⟨c, fun N z => ⟨(fun q hq => by cases hq), k, h2, comp, h3⟩, ?_⟩
  cases ty <;> first | exact h1 | exact absurd rfl (ho _)
theorem st_aro (h : (Cond.arrayOver (.object "PostHouses$House")).before #[Value.ref b] s = true) : ∃ c : ClassId, ArrOfT s c (.object "PostHouses$House") ∧ va_RA s c (.object "PostHouses$House") := by
  obtain ⟨comp, c, k, h1, h2, h3, h4, h5⟩ := Cond.arrayOver_spec h
  exact ⟨c, fun N z => ⟨(fun q hq => by cases hq), k, h3, comp, h4⟩, k, comp, h3, h4, h1, h5⟩
theorem st_ara (h : (Cond.arrayOver (.array .int)).before #[Value.ref b] s = true) : ∃ c : ClassId, ArrOfT s c (.array .int) ∧ va_RA s c (.array .int) := by
  obtain ⟨comp, c, k, h1, h2, h3, h4, h5⟩ := arrayOverA_spec h
  exact ⟨c, fun N z => ⟨(fun q hq => by cases hq), k, h3, comp, h4⟩, h5⟩
theorem st_con (hw : ∀ w ∈ lw_tbl, w.before #[Value.ref b] s = true) (hs : ∀ c ∈ nyF, c.before #[Value.ref b] s = true) : ∃ t : Nat → Nat, ∀ j, 1 ≤ j → j < 5 → va_T .int (t j) 10 (fun i => .int (Int32.ofInt ((sCon j).getD i 0))) (fun q => s.heap.size ≤ q) s s.heap ∧ va_Z "PostHouses$KindText" (sNam j) "[I" (.ref (t j)) (fun q => s.heap.size ≤ q) s s.heap := by
  have hA : ∀ a : Nat, a < s.heap.size → ¬ (fun q => s.heap.size ≤ q) a := fun a h => Nat.not_le.mpr h
  have h : ∀ j : Nat, ∃ t : Nat, 1 ≤ j → j < 5 → va_T .int t 10 (fun i => .int (Int32.ofInt ((sCon j).getD i 0))) (fun q => s.heap.size ≤ q) s s.heap ∧ va_Z "PostHouses$KindText" (sNam j) "[I" (.ref t) (fun q => s.heap.size ≤ q) s s.heap := by
    intro j
    by_cases q : 1 ≤ j ∧ j < 5
    · obtain ⟨t, ht, hT⟩ := va_Tof (s := s) (args := #[Value.ref b]) (tm := tmC j) (f := fun i => .int (Int32.ofInt ((sCon j).getD i 0))) (A := fun q => s.heap.size ≤ q) (N := 10) (by decide) (hs _ (nr_ca j q.2 q.1)) (va_eqt (hs _ (nr_cl j q.2 q.1))) (fun i hi => va_eqt (hs _ (nr_ce j q.2 q.1 i hi))) hA
      exact ⟨t, fun _ _ => ⟨hT, va_Zref (hw _ (tw_of (tb_ls j q.2 q.1))) (hw _ (tb_wl w1_4)) ht hA⟩⟩
    · exact ⟨0, fun h1 h2 => absurd ⟨h1, h2⟩ q⟩
  obtain ⟨f, hf⟩ := Classical.axiomOfChoice h
  exact ⟨f, hf⟩
theorem st_EV (l : Launch) {L : Nat} {xs : Nat → Int32} (hw : ∀ w ∈ lw_tbl, w.before #[Value.ref b] s = true) (hX : va_X b L xs s s.heap) (hbl : b < s.heap.size) (hgv : (Jvm.Cond.and given_1 narrow_1).before #[Value.ref b] s = true) : ∃ G : GG, gB G = s.heap.size ∧ gL G = l ∧ gN G = L ∧ gS G 0 = b ∧ EV G s := by
  have hs : ∀ c ∈ nyF, c.before #[Value.ref b] s = true := flat_of_before _ hgv
  have hWL : ∀ w ∈ WL, w.before #[Value.ref b] s = true := fun w h => hw w (tb_wl h)
  have hA : ∀ a : Nat, a < s.heap.size → ¬ (fun q => s.heap.size ≤ q) a := fun a h => Nat.not_le.mpr h
  obtain ⟨D, hD⟩ := st_cls hWL
  obtain ⟨y1, a1⟩ := st_arr (ty := .int) (hWL _ w1_56) (fun C h => by cases h)
  obtain ⟨y2, a2⟩ := st_arr (ty := .long) (hWL _ w3_38) (fun C h => by cases h)
  obtain ⟨y3, a3⟩ := st_arr (ty := .boolean) (hWL _ w1_97) (fun C h => by cases h)
  obtain ⟨y4, a4⟩ := st_arr (ty := .byte) (hWL _ w5_149) (fun C h => by cases h)
  obtain ⟨y5, a5⟩ := st_aro (hw _ (tw_of tb_ao))
  obtain ⟨y6, a6⟩ := st_ara (hw _ (tw_of tb_aa))
  obtain ⟨tc, hC⟩ := st_con hw hs
  obtain ⟨adK, adV, hS, hSe⟩ := vk_Sof (args := #[Value.ref b]) (s := s) (N := 16) (tm := tmS) (len := tLen) (byt := tByt) (A := fun q => s.heap.size ≤ q) (by decide) (fun i hi => hs _ (nr_ex i hi)) (fun i hi => hs _ (nr_co i hi)) (fun i hi => hs _ (nr_ar i hi)) (fun i hi => hs _ (nr_le i hi)) (fun i hi j hj => hs _ (nr_el i hi j hj)) (fun i j hi hj hij => by
    rcases Nat.lt_or_ge i j with q | q
    · exact Or.inl (hs _ (nr_ne i hi j hj q))
    · exact Or.inr (hs _ (nr_ne j hj i hi (by omega)))) hA
  have hF := va_Zqof (A := fun q => s.heap.size ≤ q) (hw _ (tw_of tb_fm)) (hWL _ w1_19) (hs _ nr_fm) hA
  have hF2 : ∃ t : Nat, fmN .null (fun q => s.heap.size ≤ q) s s.heap ∨ fmN (.ref t) (fun q => s.heap.size ≤ q) s s.heap := hF.elim (fun h => ⟨0, Or.inl h⟩) (fun ⟨t, h⟩ => ⟨t, Or.inr h⟩)
  obtain ⟨tf, hF⟩ := hF2
  have hCS : va_Z "java/lang/String" "COMPACT_STRINGS" "Z" (.int 1) (fun q => s.heap.size ≤ q) s s.heap := va_Zof (hw _ (tw_of tb_cs)) (hWL _ w1_17) (va_eqi (hs _ nr_cs)) hA
  refine ⟨(s.heap.size, l, D, (fun i => if i = 1 then y1 else if i = 2 then y2 else if i = 3 then y3 else if i = 4 then y4 else if i = 5 then y5 else y6), (fun i => if i = 0 then b else if i < 10 then tc i else if i < 30 then adK (i - 10) else if i < 50 then adV (i - 30) else tf), L, xs), rfl, rfl, rfl, rfl, ?_⟩
  refine ⟨⟨hD, fun k q hk => ?_⟩, fun w h => ?_, Nat.le_refl _, ⟨⟨hbl, hX⟩, fun j h1 h2 => ?_⟩, fun j h1 h2 => ?_, ⟨fun i hi => ?_, fun i j hi hj e => ?_⟩, fun i hi => ?_, hCS, hF, hw _ (tw_of tb_ao), hw _ (tw_of tb_aa)⟩
  · match k, hk with
    | 0, hk => cases hk; exact a1
    | 1, hk => cases hk; exact a2
    | 2, hk => cases hk; exact a3
    | 3, hk => cases hk; exact a4
    | 4, hk => cases hk; exact a5
    | 5, hk => cases hk; exact a6
    | k + 6, hk => simp [tysG] at hk
  · have h0 := hw w (tw_of (tb_nw w h))
    simp only [nestW, List.mem_cons, List.not_mem_nil, or_false] at h
    rcases h with rfl | rfl | rfl | rfl | rfl | rfl | rfl | rfl | rfl | rfl | rfl | rfl | rfl | rfl <;> exact va_Nw.of rfl h0
  · have e : gS (s.heap.size, l, D, (fun i => if i = 1 then y1 else if i = 2 then y2 else if i = 3 then y3 else if i = 4 then y4 else if i = 5 then y5 else y6), (fun i => if i = 0 then b else if i < 10 then tc i else if i < 30 then adK (i - 10) else if i < 50 then adV (i - 30) else tf), L, xs) j = tc j := by
      show (if j = 0 then b else if j < 10 then tc j else _) = _
      rw [if_neg (by omega), if_pos (by omega)]
    rw [e]
    exact (hC j h1 h2).1
  · have e : gS (s.heap.size, l, D, (fun i => if i = 1 then y1 else if i = 2 then y2 else if i = 3 then y3 else if i = 4 then y4 else if i = 5 then y5 else y6), (fun i => if i = 0 then b else if i < 10 then tc i else if i < 30 then adK (i - 10) else if i < 50 then adV (i - 30) else tf), L, xs) j = tc j := by
      show (if j = 0 then b else if j < 10 then tc j else _) = _
      rw [if_neg (by omega), if_pos (by omega)]
    rw [e]
    exact (hC j h1 h2).2
  · have e1 : gS (s.heap.size, l, D, (fun i => if i = 1 then y1 else if i = 2 then y2 else if i = 3 then y3 else if i = 4 then y4 else if i = 5 then y5 else y6), (fun i => if i = 0 then b else if i < 10 then tc i else if i < 30 then adK (i - 10) else if i < 50 then adV (i - 30) else tf), L, xs) (10 + i) = adK i := by
      show (if 10 + i = 0 then b else if 10 + i < 10 then tc (10 + i) else if 10 + i < 30 then adK (10 + i - 10) else _) = _
      rw [if_neg (by omega), if_neg (by omega), if_pos (by omega), Nat.add_sub_cancel_left]
    have e2 : gS (s.heap.size, l, D, (fun i => if i = 1 then y1 else if i = 2 then y2 else if i = 3 then y3 else if i = 4 then y4 else if i = 5 then y5 else y6), (fun i => if i = 0 then b else if i < 10 then tc i else if i < 30 then adK (i - 10) else if i < 50 then adV (i - 30) else tf), L, xs) (30 + i) = adV i := by
      show (if 30 + i = 0 then b else if 30 + i < 10 then tc (30 + i) else if 30 + i < 30 then adK (30 + i - 10) else if 30 + i < 50 then adV (30 + i - 30) else _) = _
      rw [if_neg (by omega), if_neg (by omega), if_neg (by omega), if_pos (by omega), Nat.add_sub_cancel_left]
    have z := hS.1 i hi
    show va_O _ (gS _ (10 + i)) _ _ _ ∧ va_OF _ _ _ _ (gS _ (10 + i)) _ _ _ ∧ va_OF _ _ _ (.ref (gS _ (30 + i))) (gS _ (10 + i)) _ _ _ ∧ va_T _ (gS _ (30 + i)) _ _ _ _ _
    rw [e1, e2]
    exact z
  · have e1 : ∀ i, i < 16 → gS (s.heap.size, l, D, (fun i => if i = 1 then y1 else if i = 2 then y2 else if i = 3 then y3 else if i = 4 then y4 else if i = 5 then y5 else y6), (fun i => if i = 0 then b else if i < 10 then tc i else if i < 30 then adK (i - 10) else if i < 50 then adV (i - 30) else tf), L, xs) (10 + i) = adK i := by
      intro i hi
      show (if 10 + i = 0 then b else if 10 + i < 10 then tc (10 + i) else if 10 + i < 30 then adK (10 + i - 10) else _) = _
      rw [if_neg (by omega), if_neg (by omega), if_pos (by omega), Nat.add_sub_cancel_left]
    exact hS.2 i j hi hj ((e1 i hi).symm.trans (e.trans (e1 j hj)))
  · have e1 : gS (s.heap.size, l, D, (fun i => if i = 1 then y1 else if i = 2 then y2 else if i = 3 then y3 else if i = 4 then y4 else if i = 5 then y5 else y6), (fun i => if i = 0 then b else if i < 10 then tc i else if i < 30 then adK (i - 10) else if i < 50 then adV (i - 30) else tf), L, xs) (10 + i) = adK i := by
      show (if 10 + i = 0 then b else if 10 + i < 10 then tc (10 + i) else if 10 + i < 30 then adK (10 + i - 10) else _) = _
      rw [if_neg (by omega), if_neg (by omega), if_pos (by omega), Nat.add_sub_cancel_left]
    rw [e1]
    exact vk_R.of (hw _ (tw_of (tb_sr i hi))) (hSe i hi)
end
