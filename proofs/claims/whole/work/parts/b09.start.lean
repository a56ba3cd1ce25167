/-! from the law's entry -/
set_option maxRecDepth 100000 in
set_option maxHeartbeats 4000000 in
theorem law_entry {G : GG} (hL : gN G ≤ 3072) {V : VV} {R : RR} : TT G M_L_law room_1 0 lw_Z 0 0 [(0, vr 1000)] [] V R := by
  refine T_new uws_ok d_L_law_0 rfl (by decide) (by decide +kernel) ?_
  refine T_dup d_L_law_3 rfl ?_
  refine T_callI (As := []) d_L_law_4 (K_X10_init_0 obI_n) rfl (Nat.le_of_ble_eq_true rfl) ⟨by decide, by decide⟩ ⟨by decide, by decide⟩ (by decide +kernel) (fun r W T q => ?_)
  obtain ⟨rfl, -, a1⟩ := q
  refine T_as d_L_law_7 (show _ = [(0, vr 1000), (1, vr 0)] from rfl) ?_
  refine T_new uws_ok d_L_law_8 rfl (by decide) (by decide +kernel) ?_
  refine T_dup d_L_law_11 rfl ?_
  refine T_callI (As := []) d_L_law_12 (K_X11_init_99 obI_n) rfl (Nat.le_of_ble_eq_true rfl) ⟨by decide, by decide⟩ ⟨by decide, by decide⟩ (by decide +kernel) (fun r X Q q => ?_)
  obtain ⟨rfl, k2, a2⟩ := q
  refine T_as d_L_law_15 (show _ = [(0, vr 1000), (1, vr 0), (2, vr 99)] from rfl) ?_
  refine T_k d_L_law_16 ?_
  refine T_is d_L_law_17 (show _ = [(0, vr 1000), (1, vr 0), (2, vr 99), (3, vi 0)] from rfl) ?_
  exact law_loop hL (gN G + 6 + 1) X Q 0 (by omega) (Nat.zero_le _) (st_INVX (agI_c a1 (kpI_c kpI_zz k2 (Nat.le_refl _)) a2))
theorem whole_start {p : Program} {e : Env} {s : State} {m : MethodId} {below : List Frame} {meth : Method} {c : Code} (l : Launch) {b L : Nat} {xs : Nat → Int32} (hL : L ≤ 3072) (C0 : lw_At p s m meth c b L xs) : W p l e room_1 s m #[Value.ref b] below meth c s.heap [] 0 0 (lw_Z below #[Value.ref b] s) (entryFrame m ([Value.ref b] : List Value).toArray 4) := by
  obtain ⟨hx, hb, hr, hml, hown, hts, hX, hbl, hlocks, hgv⟩ := id C0
  obtain ⟨G, g1, g2, g3, g4, hE⟩ := st_EV l hts hX hbl hgv
  have hl := lv_entry ([.ref b]) (n := 4) (Nat.le_of_ble_eq_true rfl)
  rw [lg_entry_eq]
  generalize (lg_sl ([.ref b]) ++ List.replicate (4 - (lg_sl ([.ref b])).length) Slot.unset).toArray = ls at hl ⊢
  have hl : lv_has ls 4 [(0, .ref b)] := hl
  have e0 : cl2 G (0, vr 1000) = (0, Value.ref b) := by
    have z : ad G (1000 + 0) = b := by rw [ad_hi, g4]
    show ((0, Value.ref (ad G (1000 + 0))) : Nat × Value) = _
    rw [z]
  have k := law_entry (G := G) (by rw [g3]; exact hL) (V := fun _ _ => 0) (R := fun _ _ => none) p e s m #[Value.ref b] below meth c s.heap [] ls ⟨hx, hb, hr, hml, hown, fun w h => hts w (tb_wl h), hlocks, fun h => absurd h (by decide), hE, by rw [g1]; rfl⟩ (fun k q hk => absurd (wl_inv hk).1 (Nat.not_lt_zero _)) va_S.rf (by rw [List.map_cons, e0]; exact hl)
  rw [g2] at k
  exact k
