/-! returns, calls -/
theorem wlG {w : Cond} (h : w ∈ WL) : w ∈ WL ∧ ((w.onTables && w.keeps) = true ∨ ∃ ty, w = .arrayClass ty) := ⟨h, good_of_word (List.mem_filter.mp h).2⟩
theorem wlGood {w : Cond} (h : w ∈ WL) : GoodIn WL (w :: WL) := fun v hv => (List.mem_cons.mp hv).elim (fun e => wlG (e ▸ h)) wlG
section TRET
variable {G : GG} {M : Mth} {Rm : Room} {n0 n1 pc pn : Nat} {Q : Option AV → VV → RR → Prop} {ls : List (Nat × AV)} {V : VV} {R : RR}
theorem Qc.ret {s t : State} {H : Heap} {locs : List Loc} {args : Array Value} {r : Option AV} (hz : s.heap.size = gB G + n0) (hW : HW G n1 V R H) (hS : va_S (aA G) s.heap H locs) (ht : t.heap = H) (hQ : Q r V R) : Qc G n1 Q args s (.returned (r.map (cv G))) t :=
  ⟨r, V, R, rfl, hQ, by rw [ht]; exact hW, by rw [ht]; exact hS.1, fun q hq => by rw [ht]; exact hS.2.1 q (by omega) (Nat.not_le.mpr hq)⟩
theorem T_iret {x : Int} (h : dI M pc .ireturn pn) (hr : M.2.2.2.1 = some .int) (hQ : Q (some (vi x)) V R) : TT G M Rm n0 (Zm G n0 n1 Q) n1 pc ls [vi x] V R := by
  intro p e s m args below meth c H locs lr C hW hS hl'
  exact W.iret (v := Int32.ofInt x) C.1 C.2.1 (C.2.2.1.trans hr) (fun t ht _ => Qc.ret (r := some (vi x)) C.2.2.2.2.2.2.2.2.2 hW hS ht hQ) hS.2.2 h.1 (hlocks := C.2.2.2.2.2.2.1)
theorem T_zret {b : Bool} (h : dI M pc .ireturn pn) (hr : M.2.2.2.1 = some .boolean) (hQ : Q (some (vi (bi b))) V R) : TT G M Rm n0 (Zm G n0 n1 Q) n1 pc ls [vi (bi b)] V R := by
  intro p e s m args below meth c H locs lr C hW hS hl'
  exact W.zret (v := Int32.ofInt (bi b)) C.1 C.2.1 (C.2.2.1.trans hr) (by cases b <;> rfl) (fun t ht _ => Qc.ret (r := some (vi (bi b))) C.2.2.2.2.2.2.2.2.2 hW hS ht hQ) hS.2.2 h.1 (hlocks := C.2.2.2.2.2.2.1)
theorem T_zret1 (h : dI M pc .ireturn pn) (hr : M.2.2.2.1 = some .boolean) (hQ : Q (some (vi (bi true))) V R) : TT G M Rm n0 (Zm G n0 n1 Q) n1 pc ls [vi 1] V R := T_zret (b := true) h hr hQ
theorem T_zret0 (h : dI M pc .ireturn pn) (hr : M.2.2.2.1 = some .boolean) (hQ : Q (some (vi (bi false))) V R) : TT G M Rm n0 (Zm G n0 n1 Q) n1 pc ls [vi 0] V R := T_zret (b := false) h hr hQ
theorem T_cret {x : Int} (h : dI M pc .ireturn pn) (hr : M.2.2.2.1 = some .char) (hx : narrow .char (.int (Int32.ofInt x)) = .int (Int32.ofInt x)) (hQ : Q (some (vi x)) V R) : TT G M Rm n0 (Zm G n0 n1 Q) n1 pc ls [vi x] V R := by
  intro p e s m args below meth c H locs lr C hW hS hl'
  exact W.zret (v := Int32.ofInt x) C.1 C.2.1 (C.2.2.1.trans hr) hx (fun t ht _ => Qc.ret (r := some (vi x)) C.2.2.2.2.2.2.2.2.2 hW hS ht hQ) hS.2.2 h.1 (hlocks := C.2.2.2.2.2.2.1)
theorem T_bret {x : Int} (h : dI M pc .ireturn pn) (hr : M.2.2.2.1 = some .byte) (hx : narrow .byte (.int (Int32.ofInt x)) = .int (Int32.ofInt x)) (hQ : Q (some (vi x)) V R) : TT G M Rm n0 (Zm G n0 n1 Q) n1 pc ls [vi x] V R := by
  intro p e s m args below meth c H locs lr C hW hS hl'
  exact W.zret (v := Int32.ofInt x) C.1 C.2.1 (C.2.2.1.trans hr) hx (fun t ht _ => Qc.ret (r := some (vi x)) C.2.2.2.2.2.2.2.2.2 hW hS ht hQ) hS.2.2 h.1 (hlocks := C.2.2.2.2.2.2.1)
theorem T_lret {x : Int} (h : dI M pc .lreturn pn) (hr : M.2.2.2.1 = some .long) (hQ : Q (some (vj x)) V R) : TT G M Rm n0 (Zm G n0 n1 Q) n1 pc ls [vj x] V R := by
  intro p e s m args below meth c H locs lr C hW hS hl'
  exact W.lret (v := Int64.ofInt x) C.1 C.2.1 (C.2.2.1.trans hr) (fun t ht _ => Qc.ret (r := some (vj x)) C.2.2.2.2.2.2.2.2.2 hW hS ht hQ) hS.2.2 h.1 (hlocks := C.2.2.2.2.2.2.1)
theorem T_vret (h : dI M pc .return_ pn) (hr : M.2.2.2.1 = none) (hQ : Q none V R) : TT G M Rm n0 (Zm G n0 n1 Q) n1 pc ls [] V R := by
  intro p e s m args below meth c H locs lr C hW hS hl'
  exact W.vret C.1 C.2.1 (C.2.2.1.trans hr) (fun t ht _ => Qc.ret (r := none) C.2.2.2.2.2.2.2.2.2 hW hS ht hQ) hS.2.2 h.1 (hlocks := C.2.2.2.2.2.2.1)
theorem T_aret {x : Option Nat} {n : String} (h : dI M pc .areturn pn) (hr : M.2.2.2.1 = some (.object n)) (hQ : Q (some (vq x)) V R) : TT G M Rm n0 (Zm G n0 n1 Q) n1 pc ls [vq x] V R := by
  intro p e s m args below meth c H locs lr C hW hS hl'
  exact W.aret (v := cv G (vq x)) C.1 C.2.1 (C.2.2.1.trans hr) (Or.inl ⟨_, rfl⟩) (by cases x with | none => exact Or.inl rfl | some a => exact Or.inr ⟨_, rfl⟩) (fun t ht _ => Qc.ret (r := some (vq x)) C.2.2.2.2.2.2.2.2.2 hW hS ht hQ) hS.2.2 h.1 (hlocks := C.2.2.2.2.2.2.1)
end TRET
section TRUN
variable {G : GG} {M : Mth} {d n0 n1 : Nat} {as : List AV} {V : VV} {R : RR} {Q : Option AV → VV → RR → Prop}
theorem Runs.of (hn : plainName M.1.cls = true) (hw : wds as ≤ M.2.2.1) (ho : M.2.2.2.2 = M.1.cls) (k : TT G M (rmd d n0 n1) n0 (Zm G n0 n1 Q) n0 0 (entL 0 as) [] V R) : Runs G M d n0 n1 as V R Q := by
  refine Met.ofW (cc := M.2.1) (maxL := M.2.2.1) (ret := M.2.2.2.1) hn rfl ?_
  intro p e s m args below meth c s₁ B hml hv
  obtain ⟨rfl, hW, hE, hz⟩ := hv
  have hts := atoms_spec (ws := Cond.code M.1 M.2.1 M.2.2.1 M.2.2.2.1 :: WL) B.pre
  have hC : Cx G M n0 p s m meth c (as.map (cv G)).toArray := ⟨B.exec, B.bytes, B.returns, hml, by rw [ho]; exact findClass_of_methodNamed B.named, fun w hw => hts w (List.mem_cons_of_mem _ hw), B.notSynchronized, fun h => by rw [(name_of_methodNamed B.named B.method).1]; exact h, hE, hz⟩
  have hl := lv_entry (as.map (cv G)) (n := M.2.2.1) (by rw [wds_len]; exact hw)
  rw [lg_entry_eq]
  rw [← entL_map] at hl
  have k := k p e s m _ below meth c s.heap [] _ hC hW va_S.rf hl
  rw [Nat.sub_self, Nat.sub_self] at k
  exact k
theorem Runs.mono {Q' : Option AV → VV → RR → Prop} (h : Runs G M d n0 n1 as V R Q) (hq : ∀ r V' R', Q r V' R' → Q' r V' R') : Runs G M d n0 n1 as V R Q' := by
  have key : ∀ (a : Array Value) (st : State) (o : Outcome) (t : State), Qc G n1 Q a st o t → Qc G n1 Q' a st o t := fun a st o t ⟨r, V', R', h1, h2, h3⟩ => ⟨r, V', R', h1, hq _ _ _ h2, h3⟩
  intro p e ha hc hk s m args below hf happ hP hK
  obtain ⟨t, o, h1, h2, h3, h4, h5⟩ := h p e ha hc hk s m args below hf happ hP hK
  exact ⟨t, o, h1, h2, h3, key _ _ _ _ h4, h5⟩
end TRUN
section TCALL
variable {G : GG} {M M' : Mth} {Rm : Room} {n0 nx n1 pc pn : Nat} {Z : List Frame → Array Value → State → State → Prop} {ls ls' : List (Nat × AV)} {st : List AV} {V : VV} {R : RR} {Q : Option AV → VV → RR → Prop}
theorem Pc.blind {n : Nat} {as : List AV} : FrameBlind (Pc G n as V R) := by
  intro a U g mk h
  obtain ⟨h1, h2, h3, h4⟩ := h
  exact ⟨h1, h2, h3.moved (U := U.calling g mk a) (State.WarmedH.refl U) (fun _ _ => rfl) h3.2.2.1, h4⟩
theorem Pc.at {s : State} {H : Heap} {locs : List Loc} {as : List AV} (hE : EV G s) (hz : s.heap.size = gB G + n0) (hW : HW G nx V R H) (hS : va_S (aA G) s.heap H locs) (hH : H.size = gB G + nx) (U : State) (hU : U.heap = H) (hV : s.WarmedH U.vm) : Pc G nx as V R (as.map (cv G)).toArray U :=
  ⟨rfl, by rw [hU]; exact hW, hE.moved hV (fun q hq => by rw [hU]; exact hS.2.1 q (by omega) (Nat.not_le.mpr hq)) (by rw [hU, hH]; exact Nat.le_add_right _ _), by rw [hU]; exact hH⟩
/-- the heap's size, out of the counting of cells -/
theorem W.size {p : Program} {e : Env} {s : State} {m : MethodId} {args : Array Value} {below : List Frame} {meth : Method} {c : Code} {H : Heap} {locs : List Loc} {Qw : State → Prop} {g : JFrame} (hz : s.heap.size = gB G + n0) (hn : n0 ≤ nx) (hW : HW G nx V R H) (hS : va_S (aA G) s.heap H locs) (k : H.size = gB G + nx → W p (gL G) e Rm s m args below meth c H locs (nx - n0) (sl nx - sl n0) Qw g) : W p (gL G) e Rm s m args below meth c H locs (nx - n0) (sl nx - sl n0) Qw g := by
  intro T hT X
  have h1 : (T.setVm s.vm).heap.size ≤ s.heap.size + (nx - n0) := X.same.2.2.1
  have h2 : T.heap.size ≤ s.heap.size + (nx - n0) := h1
  rw [hT] at h2
  have h3 : gB G + nx ≤ H.size := by
    rcases Nat.eq_zero_or_pos nx with h | h
    · have := hS.1
      omega
    · have := (hW (nx - 1) _ (wl_get G V R (by omega))).lt
      have e1 : gB G + (nx - 1) < H.size := this
      omega
  exact k (by omega) T hT X
theorem call_go {p : Program} {e : Env} {s : State} {m : MethodId} {args : Array Value} {below : List Frame} {meth : Method} {c : Code} {H : Heap} {locs : List Loc} {Qw : State → Prop} {lr : Array Slot} {st0 rest : List Value} {a : Array Value}
    (hr : va_Run p (gL G) e Rm s m args below meth c H locs (nx - n0) (sl nx - sl n0) (n1 - nx) (sl n1 - sl nx) (F0 m pc lr st0) rest (Qc G n1 Q a) (aA G)) (hn : n0 ≤ nx) (hn1 : nx ≤ n1) (hsl : sl n0 ≤ sl nx) (hsl1 : sl nx ≤ sl n1) (hz : s.heap.size = gB G + n0) (hH : H.size = gB G + nx) (hS : va_S (aA G) s.heap H locs)
    (k : ∀ (r : Option AV) (V' : VV) (R' : RR) (H1 : Heap) (locs1 : List Loc), Q r V' R' → HW G n1 V' R' H1 → va_S (aA G) s.heap H1 locs1 → W p (gL G) e Rm s m args below meth c H1 locs1 (n1 - n0) (sl n1 - sl n0) Qw (F0 m (pc + 3) lr (r.toList.map (cv G) ++ rest))) :
    W p (gL G) e Rm s m args below meth c H locs (nx - n0) (sl nx - sl n0) Qw (F0 m pc lr st0) := by
  intro T hT X
  obtain ⟨v, st₀, t, T', L, h0, X', hL, e1, e2, ⟨r, V', R', hv, hq, hw, hz', hk⟩, stp⟩ := hr T hT X
  have hv' : v = r.map (cv G) := by
    cases hv
    rfl
  have ec : nx - n0 + (n1 - nx) = n1 - n0 := by omega
  have es : sl nx - sl n0 + (sl n1 - sl nx) = sl n1 - sl n0 := by omega
  rw [ec, es] at X'
  obtain ⟨t2, a1, b1⟩ := k r V' R' T'.heap (locs ++ L) hq (by rw [e1]; exact hw)
    ⟨Nat.le_trans hS.1 (by rw [e1, ← h0]; exact hz'), fun q h1 h2 => by rw [e1, hk q (Nat.not_le.mp h2), h0]; exact hS.2.1 q h1 h2, fun q hq => by
      rcases List.mem_append.mp hq with h | h
      · exact hS.2.2 q h
      · exact hL q h⟩ T' rfl X'
  refine ⟨t2, stp t2 ?_, b1⟩
  rw [hv']
  have e5 : (r.map (cv G)).toList ++ rest = r.toList.map (cv G) ++ rest := by cases r <;> rfl
  rw [e5]
  exact a1
theorem sl_mono : ∀ {a b : Nat}, a ≤ b → sl a ≤ sl b := by
  intro a b h
  induction h with
  | refl => exact Nat.le_refl _
  | step _ ih => exact Nat.le_trans ih (Nat.le_add_right _ _)
/-- what a method is, for those that call it -/
def mOK (M' : Mth) (na : Nat) : Prop := Cond.code M'.1 M'.2.1 M'.2.2.1 M'.2.2.2.1 ∈ WL ∧ (M'.1.cls ≠ "java/lang/invoke/MethodHandle" ∧ M'.1.cls ≠ "java/lang/invoke/VarHandle" ∧ (parseMethodDescriptor M'.1.desc).map (fun d => d.parameters.length) = some na) ∧ M'.2.2.1 ≤ 41 ∧ Cond.initialized M'.1.cls ∈ WL
def dV (M : Mth) (pc : Nat) (M' : Mth) (ci na pn : Nat) : Prop := ∃ (i : Nat) (q : vw_C), decode M.2.1 pc = .ok (.invokevirtual i, 3) ∧ pc + 3 = pn ∧ mOK M' na ∧ Cond.methodLink M.2.2.2.2 i M'.1 ∈ WL ∧ Cond.instanceMethod M'.1 ∈ WL ∧ Cond.selects M'.1.cls M'.1 M'.1 ∈ WL ∧ vwCl[ci]? = some q ∧ q.1 = M'.1.cls
def dS (M : Mth) (pc : Nat) (M' : Mth) (na pn : Nat) : Prop := ∃ (i : Nat), decode M.2.1 pc = .ok (.invokestatic i, 3) ∧ pc + 3 = pn ∧ mOK M' na ∧ Cond.static M'.1 ∈ WL ∧ (Cond.methodLink M.2.2.2.2 i M'.1 ∈ WL ∨ ∃ h, Cond.methodLinkNest M.2.2.2.2 i M'.1 h ∈ nestW)
def dN (M : Mth) (pc : Nat) (M' : Mth) (na pn : Nat) : Prop := ∃ (i : Nat), decode M.2.1 pc = .ok (.invokespecial i, 3) ∧ pc + 3 = pn ∧ mOK M' na ∧ M'.2.2.2.1 = none ∧ M'.1.name = "<init>" ∧ Cond.instanceMethod M'.1 ∈ WL ∧ (Cond.methodLink M.2.2.2.2 i M'.1 ∈ WL ∨ ∃ h, Cond.methodLinkNest M.2.2.2.2 i M'.1 h ∈ nestW)
theorem T_callV {d a ci na : Nat} {As : List AV} (h : dV M pc M' ci na pn) (hr : Runs G M' d nx n1 (vr a :: As) V R Q) (hl : lay a = (0, ci)) (ha : a < nx) (hna : As.length = na) (hst : wds st ≤ 8) (hd : d + 9 ≤ Rm.frames ∧ 60 * (d + 9) ≤ Rm.locals) (hn : n0 ≤ nx ∧ nx ≤ n1) (hc : n1 - n0 ≤ Rm.cells ∧ sl n1 - sl n0 ≤ Rm.slots) (k : ∀ (r : Option AV) (V' : VV) (R' : RR), Q r V' R' → TT G M Rm n0 Z n1 pn ls (r.toList ++ st) V' R') : TT G M Rm n0 Z nx pc ls (As.reverse ++ vr a :: st) V R := by
  intro p e s m args below meth c H locs lr C hW hS hl'
  obtain ⟨i, q, hdg, rfl, ⟨hcode, hnm, hml, hini⟩, hw1, hw2, hw3, hq, hq1⟩ := h
  have hsl := sl_mono hn.1
  have hsl1 := sl_mono hn.2
  refine W.size C.2.2.2.2.2.2.2.2.2 hn.1 hW hS (fun hH => ?_)
  have had := ad_of (G := G) hl (by decide)
  have hwl := wl_get G V R ha
  rw [ce_0 hl, ← had] at hwl
  have hrecv := va_recv C.2.2.2.2.2.2.2.2.1.1 hW hq hwl
  rw [hq1] at hrecv
  have hro : (rmd d nx n1).frames + 1 ≤ Rm.frames ∧ 8 + (M'.2.2.1 + 11) + (rmd d nx n1).locals ≤ Rm.locals := ⟨hd.1, by show 8 + (M'.2.2.1 + 11) + 60 * (d + 8) ≤ Rm.locals; omega⟩
  have hG : GoodIn WL (wsV M.2.2.2.2 i M'.1.cls M'.1 (Cond.code M'.1 M'.2.1 M'.2.2.1 M'.2.2.2.1 :: WL)) := by
    intro w hw
    unfold wsV at hw
    rcases List.mem_append.mp hw with h | h
    · simp only [List.mem_cons, List.not_mem_nil, or_false] at h
      rcases h with rfl | rfl | rfl | rfl
      · exact wlG hw1
      · exact wlG hw2
      · exact wlG hw3
      · exact wlG hini
    · exact wlGood hcode w h
  exact call_go (Q := Q) (va_runV (Ts := WL) (own := M.2.2.2.2) (C := M'.1.cls) (bytes := M'.2.1) (maxL := M'.2.2.1) (ret := M'.2.2.2.1) (As := As.map (cv G)) (b := ad G a) (rest := st.map (cv G)) ⟨C.1, C.2.1, C.2.2.2.1, C.2.2.2.2.1, C.2.2.2.2.2.1⟩ hr (cwV na C.2.2.2.2.2.1 hG rfl rfl rfl ⟨rfl, hnm⟩ hro) ⟨Pc.blind, hrecv, Pc.at C.2.2.2.2.2.2.2.2.1 C.2.2.2.2.2.2.2.2.2 hW hS hH⟩ rfl (by rw [List.length_map]; exact hna) hl'.1 (by simp [F0, cv]) (lv_room (by rw [wds_sum]; exact hst)) hdg ⟨by omega, by omega⟩) hn.1 hn.2 hsl hsl1 C.2.2.2.2.2.2.2.2.2 hH hS (fun r V' R' H1 locs1 hQ hW1 hS1 => by
    have := k r V' R' hQ p e s m args below meth c H1 locs1 lr C hW1 hS1 hl'
    rw [List.map_append] at this
    exact this)
theorem T_callS {d na : Nat} {As : List AV} (h : dS M pc M' na pn) (hr : Runs G M' d nx n1 As V R Q) (hna : As.length = na) (hst : wds st ≤ 8) (hd : d + 9 ≤ Rm.frames ∧ 60 * (d + 9) ≤ Rm.locals) (hn : n0 ≤ nx ∧ nx ≤ n1) (hc : n1 - n0 ≤ Rm.cells ∧ sl n1 - sl n0 ≤ Rm.slots) (k : ∀ (r : Option AV) (V' : VV) (R' : RR), Q r V' R' → TT G M Rm n0 Z n1 pn ls (r.toList ++ st) V' R') : TT G M Rm n0 Z nx pc ls (As.reverse ++ st) V R := by
  intro p e s m args below meth c H locs lr C hW hS hl'
  obtain ⟨i, hdg, rfl, ⟨hcode, hnm, hml, hini⟩, hw2, hw1⟩ := h
  have hsl := sl_mono hn.1
  have hsl1 := sl_mono hn.2
  refine W.size C.2.2.2.2.2.2.2.2.2 hn.1 hW hS (fun hH => ?_)
  have hro : (rmd d nx n1).frames + 1 ≤ Rm.frames ∧ 8 + (M'.2.2.1 + 11) + (rmd d nx n1).locals ≤ Rm.locals := ⟨hd.1, by show 8 + (M'.2.2.1 + 11) + 60 * (d + 8) ≤ Rm.locals; omega⟩
  have hkk : ∀ (r : Option AV) (V' : VV) (R' : RR) (H1 : Heap) (locs1 : List Loc), Q r V' R' → HW G n1 V' R' H1 → va_S (aA G) s.heap H1 locs1 → W p (gL G) e Rm s m args below meth c H1 locs1 (n1 - n0) (sl n1 - sl n0) (Z below args s) (F0 m (pc + 3) lr (r.toList.map (cv G) ++ st.map (cv G))) := fun r V' R' H1 locs1 hQ hW1 hS1 => by
    have := k r V' R' hQ p e s m args below meth c H1 locs1 lr C hW1 hS1 hl'
    rw [List.map_append] at this
    exact this
  rcases hw1 with hw1 | ⟨hh, hw1⟩
  · refine call_go (Q := Q) (va_runS (Ts := WL) (own := M.2.2.2.2) (bytes := M'.2.1) (maxL := M'.2.2.1) (ret := M'.2.2.2.1) (As := As.map (cv G)) (rest := st.map (cv G)) ⟨C.1, C.2.1, C.2.2.2.1, C.2.2.2.2.1, C.2.2.2.2.2.1⟩ hr (va_cwS na C.2.2.2.2.2.1 ?_ rfl rfl rfl hnm hro) ⟨Pc.blind, Pc.at C.2.2.2.2.2.2.2.2.1 C.2.2.2.2.2.2.2.2.2 hW hS hH⟩ rfl (by rw [List.length_map]; exact hna) hl'.1 (by simp [F0]) (lv_room (by rw [wds_sum]; exact hst)) hdg ⟨by omega, by omega⟩) hn.1 hn.2 hsl hsl1 C.2.2.2.2.2.2.2.2.2 hH hS hkk
    intro w hw
    unfold va_wsS at hw
    rcases List.mem_append.mp hw with h | h
    · simp only [List.mem_cons, List.not_mem_nil, or_false] at h
      rcases h with rfl | rfl | rfl
      · exact wlG hw1
      · exact wlG hw2
      · exact wlG hini
    · exact wlGood hcode w h
  · refine call_go (Q := Q) (va_runSN (Ts := WL) (own := M.2.2.2.2) (host := hh) (bytes := M'.2.1) (maxL := M'.2.2.1) (ret := M'.2.2.2.1) (As := As.map (cv G)) (rest := st.map (cv G)) ⟨C.1, C.2.1, C.2.2.2.1, C.2.2.2.2.1, C.2.2.2.2.2.1⟩ hr ⟨va_cnB na C.2.2.2.2.2.1 (wlGood hcode) rfl rfl rfl (C.2.2.2.2.2.2.2.2.1.2.1 _ hw1) (C.2.2.2.2.2.1 _ hini) hnm hro, C.2.2.2.2.2.1 _ hw2, trivial⟩ ⟨Pc.blind, Pc.at C.2.2.2.2.2.2.2.2.1 C.2.2.2.2.2.2.2.2.2 hW hS hH⟩ rfl (by rw [List.length_map]; exact hna) hl'.1 (by simp [F0]) (lv_room (by rw [wds_sum]; exact hst)) hdg ⟨by omega, by omega⟩) hn.1 hn.2 hsl hsl1 C.2.2.2.2.2.2.2.2.2 hH hS hkk
theorem T_callI {d a na : Nat} {As : List AV} (h : dN M pc M' na pn) (hr : Runs G M' d nx n1 (vr a :: As) V R Q) (hna : As.length = na) (hst : wds st ≤ 8) (hd : d + 9 ≤ Rm.frames ∧ 60 * (d + 9) ≤ Rm.locals) (hn : n0 ≤ nx ∧ nx ≤ n1) (hc : n1 - n0 ≤ Rm.cells ∧ sl n1 - sl n0 ≤ Rm.slots) (k : ∀ (r : Option AV) (V' : VV) (R' : RR), Q r V' R' → TT G M Rm n0 Z n1 pn ls (r.toList ++ st) V' R') : TT G M Rm n0 Z nx pc ls (As.reverse ++ vr a :: st) V R := by
  intro p e s m args below meth c H locs lr C hW hS hl'
  obtain ⟨i, hdg, rfl, ⟨hcode, hnm, hml, hini⟩, hret, hin, hw2, hw1⟩ := h
  have hsl := sl_mono hn.1
  have hsl1 := sl_mono hn.2
  refine W.size C.2.2.2.2.2.2.2.2.2 hn.1 hW hS (fun hH => ?_)
  have hro : (rmd d nx n1).frames + 1 ≤ Rm.frames ∧ 8 + (M'.2.2.1 + 11) + (rmd d nx n1).locals ≤ Rm.locals := ⟨hd.1, by show 8 + (M'.2.2.1 + 11) + 60 * (d + 8) ≤ Rm.locals; omega⟩
  have hkk : ∀ (r : Option AV) (V' : VV) (R' : RR) (H1 : Heap) (locs1 : List Loc), Q r V' R' → HW G n1 V' R' H1 → va_S (aA G) s.heap H1 locs1 → W p (gL G) e Rm s m args below meth c H1 locs1 (n1 - n0) (sl n1 - sl n0) (Z below args s) (F0 m (pc + 3) lr (r.toList.map (cv G) ++ st.map (cv G))) := fun r V' R' H1 locs1 hQ hW1 hS1 => by
    have := k r V' R' hQ p e s m args below meth c H1 locs1 lr C hW1 hS1 hl'
    rw [List.map_append] at this
    exact this
  unfold Runs at hr
  rw [hret] at hr hcode
  rcases hw1 with hw1 | ⟨hh, hw1⟩
  · exact call_go (Q := Q) (va_runI (Ts := WL) (own := M.2.2.2.2) (bytes := M'.2.1) (maxL := M'.2.2.1) (As := As.map (cv G)) (b := ad G a) (rest := st.map (cv G)) ⟨C.1, C.2.1, C.2.2.2.1, C.2.2.2.2.1, C.2.2.2.2.2.1⟩ hr (cwI na C.2.2.2.2.2.1 (wlGood hcode) rfl rfl rfl (C.2.2.2.2.2.1 _ hini) (C.2.2.2.2.2.1 _ hw1) (C.2.2.2.2.2.1 _ hw2) hin hnm hro) ⟨Pc.blind, Pc.at C.2.2.2.2.2.2.2.2.1 C.2.2.2.2.2.2.2.2.2 hW hS hH⟩ rfl (by rw [List.length_map]; exact hna) hl'.1 (by simp [F0, cv]) (lv_room (by rw [wds_sum]; exact hst)) hdg ⟨by omega, by omega⟩) hn.1 hn.2 hsl hsl1 C.2.2.2.2.2.2.2.2.2 hH hS hkk
  · exact call_go (Q := Q) (va_runIN (Ts := WL) (own := M.2.2.2.2) (host := hh) (bytes := M'.2.1) (maxL := M'.2.2.1) (As := As.map (cv G)) (b := ad G a) (rest := st.map (cv G)) ⟨C.1, C.2.1, C.2.2.2.1, C.2.2.2.2.1, C.2.2.2.2.2.1⟩ hr ⟨va_cnB na C.2.2.2.2.2.1 (wlGood hcode) rfl rfl rfl (C.2.2.2.2.2.2.2.2.1.2.1 _ hw1) (C.2.2.2.2.2.1 _ hini) hnm hro, hin, C.2.2.2.2.2.1 _ hw2⟩ ⟨Pc.blind, Pc.at C.2.2.2.2.2.2.2.2.1 C.2.2.2.2.2.2.2.2.2 hW hS hH⟩ rfl (by rw [List.length_map]; exact hna) hl'.1 (by simp [F0, cv]) (lv_room (by rw [wds_sum]; exact hst)) hdg ⟨by omega, by omega⟩) hn.1 hn.2 hsl hsl1 C.2.2.2.2.2.2.2.2.2 hH hS hkk
end TCALL
