/-! texts: the rows over the claim's literals -/
section TSTR
variable {G : GG} {M M' : Mth} {Rm : Room} {n0 nx n1 pc pn : Nat} {Z : List Frame → Array Value → State → State → Prop} {ls : List (Nat × AV)} {st : List AV} {V : VV} {R : RR} {Q : Option AV → VV → RR → Prop}
theorem ad_t (G : GG) (i : Nat) : ad G (1010 + i) = gS G (10 + i) := by rw [show 1010 + i = 1000 + (10 + i) by omega, ad_hi]
theorem ad_v (G : GG) (i : Nat) : ad G (1030 + i) = gS G (30 + i) := by rw [show 1030 + i = 1000 + (30 + i) by omega, ad_hi]
def dLS2 (M : Mth) (pc i pn : Nat) : Prop := decode M.2.1 pc = .ok (.ldc (tIdx.getD i 0), 2) ∧ pc + 2 = pn ∧ i < 16 ∧ M.2.2.2.2 = "PostHouses$KindText"
theorem T_ldcS {i : Nat} (h : dLS2 M pc i pn) (k : TT G M Rm n0 Z nx pn ls (vr (1010 + i) :: st) V R) : TT G M Rm n0 Z nx pc ls st V R := by
  intro p e s m args below meth c H locs lr C hW hS hl'
  obtain ⟨hd, rfl, hi, ho⟩ := h
  have k := k p e s m args below meth c H locs lr C hW hS hl'
  have e1 : cv G (vr (1010 + i)) = .ref (gS G (10 + i)) := congrArg Value.ref (ad_t G i)
  rw [List.map_cons, e1] at k
  have hown := C.2.2.2.2.1
  rw [ho] at hown
  exact va_ldcS C.1 C.2.1 hown (C.2.2.2.2.2.2.2.2.1.2.2.2.2.2.2.1 i hi) hd k
def dSF (M : Mth) (pc : Nat) (n d : String) (pn : Nat) : Prop := ∃ i, decode M.2.1 pc = .ok (.getfield i, 3) ∧ pc + 3 = pn ∧ Cond.fieldLink M.2.2.2.2 i "java/lang/String" n d ∈ WL
theorem T_sgv {i : Nat} (h : dSF M pc "value" "[B" pn) (hi : i < 16) (k : TT G M Rm n0 Z nx pn ls (vr (1030 + i) :: st) V R) : TT G M Rm n0 Z nx pc ls (vr (1010 + i) :: st) V R := by
  intro p e s m args below meth c H locs lr C hW hS hl'
  obtain ⟨j, hd, rfl, hw⟩ := h
  have k := k p e s m args below meth c H locs lr C hW hS hl'
  have e1 : cv G (vr (1030 + i)) = .ref (gS G (30 + i)) := congrArg Value.ref (ad_v G i)
  have e2 : cv G (vr (1010 + i)) = .ref (gS G (10 + i)) := congrArg Value.ref (ad_t G i)
  rw [List.map_cons, e1] at k
  rw [List.map_cons, e2]
  exact vk_getf (A := aA G) C.1 C.2.1 (C.2.2.2.2.2.2.2.2.1.2.2.2.2.2.1.1 i hi).2.2.1 hS C.2.2.2.2.1 (C.2.2.2.2.2.1 _ hw) (fun _ h => h) hd k
theorem T_sgc {i : Nat} (h : dSF M pc "coder" "B" pn) (hi : i < 16) (k : TT G M Rm n0 Z nx pn ls (vi 0 :: st) V R) : TT G M Rm n0 Z nx pc ls (vr (1010 + i) :: st) V R := by
  intro p e s m args below meth c H locs lr C hW hS hl'
  obtain ⟨j, hd, rfl, hw⟩ := h
  have k := k p e s m args below meth c H locs lr C hW hS hl'
  have e2 : cv G (vr (1010 + i)) = .ref (gS G (10 + i)) := congrArg Value.ref (ad_t G i)
  rw [List.map_cons, e2]
  exact vk_getf (A := aA G) C.1 C.2.1 (C.2.2.2.2.2.2.2.2.1.2.2.2.2.2.1.1 i hi).2.1 hS C.2.2.2.2.1 (C.2.2.2.2.2.1 _ hw) (fun _ h => h) hd k
theorem T_slb {i : Nat} (h : dI M pc .arraylength pn) (hi : i < 16) (k : TT G M Rm n0 Z nx pn ls (vi (wLen i : Int) :: st) V R) : TT G M Rm n0 Z nx pc ls (vr (1030 + i) :: st) V R := by
  intro p e s m args below meth c H locs lr C hW hS hl'
  obtain ⟨hd, rfl⟩ := h
  have k := k p e s m args below meth c H locs lr C hW hS hl'
  have e2 : cv G (vr (1030 + i)) = .ref (gS G (30 + i)) := congrArg Value.ref (ad_v G i)
  rw [List.map_cons, e2]
  exact va_tlen (A := aA G) C.1 C.2.1 (C.2.2.2.2.2.2.2.2.1.2.2.2.2.2.1.1 i hi).2.2.2 hS (v := Int32.ofInt (wLen i : Int)) rfl hd k
theorem wL_le {i : Nat} : wLen i ≤ 5 := by
  unfold wLen
  rcases Nat.lt_or_ge i 16 with h | h
  · revert i; decide
  · rw [List.getD_eq_getElem?_getD, List.getElem?_eq_none (by exact h)]; decide
theorem T_blb {i : Nat} {x : Int} (h : dI M pc .baload pn) (hi : i < 16) (hx : 0 ≤ x ∧ x < (wLen i : Int)) (k : TT G M Rm n0 Z nx pn ls (vi (wByt i x.toNat) :: st) V R) : TT G M Rm n0 Z nx pc ls (vi x :: vr (1030 + i) :: st) V R := by
  intro p e s m args below meth c H locs lr C hW hS hl'
  obtain ⟨hd, rfl⟩ := h
  have k := k p e s m args below meth c H locs lr C hW hS hl'
  have e2 : cv G (vr (1030 + i)) = .ref (gS G (30 + i)) := congrArg Value.ref (ad_v G i)
  have hw := wL_le (i := i)
  obtain ⟨h1, h2⟩ := i32_in hx (by omega)
  rw [List.map_cons, List.map_cons, e2]
  refine va_tb (A := aA G) C.1 C.2.1 (C.2.2.2.2.2.2.2.2.1.2.2.2.2.2.1.1 i hi).2.2.2 hS h1 (v := .int (Int32.ofInt (wByt i x.toNat))) ?_ hd k
  show Value.int _ = _
  rw [h2]
  unfold wByt
  rw [Int32.ofInt_toInt]
def dSZ (M : Mth) (pc : Nat) (o n d : String) (pn : Nat) : Prop := ∃ i, decode M.2.1 pc = .ok (.getstatic i, 3) ∧ pc + 3 = pn ∧ Cond.fieldLink M.2.2.2.2 i o n d ∈ WL
theorem T_szc (h : dSZ M pc "java/lang/String" "COMPACT_STRINGS" "Z" pn) (k : TT G M Rm n0 Z nx pn ls (vi 1 :: st) V R) : TT G M Rm n0 Z nx pc ls st V R := by
  intro p e s m args below meth c H locs lr C hW hS hl'
  obtain ⟨j, hd, rfl, hw⟩ := h
  have k := k p e s m args below meth c H locs lr C hW hS hl'
  exact va_gets (A := aA G) C.1 C.2.1 C.2.2.2.2.2.2.2.2.1.2.2.2.2.2.2.2.1 hS C.2.2.2.2.1 (C.2.2.2.2.2.1 _ hw) (fun _ h => h) hd k
theorem T_szq (h : dSZ M pc "jdk/internal/util/Preconditions" "SIOOBE_FORMATTER" "Ljava/util/function/BiFunction;" pn) (k : ∀ x : Option Nat, TT G M Rm n0 Z nx pn ls (vq x :: st) V R) : TT G M Rm n0 Z nx pc ls st V R := by
  intro p e s m args below meth c H locs lr C hW hS hl'
  obtain ⟨j, hd, rfl, hw⟩ := h
  rcases C.2.2.2.2.2.2.2.2.1.2.2.2.2.2.2.2.2.1 with hz | hz
  · exact va_gets (A := aA G) C.1 C.2.1 hz hS C.2.2.2.2.1 (C.2.2.2.2.2.1 _ hw) (fun _ h => h) hd (k none p e s m args below meth c H locs lr C hW hS hl')
  · have k := k (some 1050) p e s m args below meth c H locs lr C hW hS hl'
    have e1 : cv G (vq (some 1050)) = .ref (gS G 50) := congrArg Value.ref (ad_hi G 50)
    rw [List.map_cons, e1] at k
    exact va_gets (A := aA G) C.1 C.2.1 hz hS C.2.2.2.2.1 (C.2.2.2.2.2.1 _ hw) (fun _ h => h) hd k
def dVS (M : Mth) (pc : Nat) (M' : Mth) (na pn : Nat) : Prop := ∃ (i : Nat), decode M.2.1 pc = .ok (.invokevirtual i, 3) ∧ pc + 3 = pn ∧ mOK M' na ∧ Cond.methodLink M.2.2.2.2 i M'.1 ∈ WL ∧ Cond.instanceMethod M'.1 ∈ WL ∧ Cond.selects M'.1.cls M'.1 M'.1 ∈ WL ∧ M'.1.cls = "java/lang/String"
theorem T_callT {d a na : Nat} {As : List AV} (h : dVS M pc M' na pn) (hr : Runs G M' d nx n1 (vr (1010 + a) :: As) V R Q) (ha : a < 16) (hna : As.length = na) (hst : wds st ≤ 8) (hd : d + 9 ≤ Rm.frames ∧ 60 * (d + 9) ≤ Rm.locals) (hn : n0 ≤ nx ∧ nx ≤ n1) (hc : n1 - n0 ≤ Rm.cells ∧ sl n1 - sl n0 ≤ Rm.slots) (k : ∀ (r : Option AV) (V' : VV) (R' : RR), Q r V' R' → TT G M Rm n0 Z n1 pn ls (r.toList ++ st) V' R') : TT G M Rm n0 Z nx pc ls (As.reverse ++ vr (1010 + a) :: st) V R := by
  intro p e s m args below meth c H locs lr C hW hS hl'
  obtain ⟨i, hdg, rfl, ⟨hcode, hnm, hml, hini⟩, hw1, hw2, hw3, hq1⟩ := h
  have hsl := sl_mono hn.1
  have hsl1 := sl_mono hn.2
  refine W.size C.2.2.2.2.2.2.2.2.2 hn.1 hW hS (fun hH => ?_)
  have hrecv := vk_recv (A := aA G) C.2.2.2.2.2.2.2.2.1.2.2.2.2.2.1 ha hS
  rw [← hq1] at hrecv
  rw [← ad_t] at hrecv
  have hro : (rmd d nx n1).frames + 1 ≤ Rm.frames ∧ 8 + (M'.2.2.1 + 11) + (rmd d nx n1).locals ≤ Rm.locals := ⟨hd.1, by show 8 + (M'.2.2.1 + 11) + 60 * (d + 8) ≤ Rm.locals; omega⟩
  have hG : GoodIn WL (wsV M.2.2.2.2 i M'.1.cls M'.1 (Cond.code M'.1 M'.2.1 M'.2.2.1 M'.2.2.2.1 :: WL)) := by
    intro w hw
    unfold wsV at hw
    rcases List.mem_append.mp hw with h | h
    · simp only [List.mem_cons, List.not_mem_nil, or_false] at h
      rcases h with rfl | rfl | rfl | rfl
      · exact wlG hw1
      · exact wlG hw2
      · exact wlG hw3
      · exact wlG hini
    · exact wlGood hcode w h
  exact call_go (Q := Q) (va_runV (Ts := WL) (own := M.2.2.2.2) (C := M'.1.cls) (bytes := M'.2.1) (maxL := M'.2.2.1) (ret := M'.2.2.2.1) (As := As.map (cv G)) (b := ad G (1010 + a)) (rest := st.map (cv G)) ⟨C.1, C.2.1, C.2.2.2.1, C.2.2.2.2.1, C.2.2.2.2.2.1⟩ hr (cwV na C.2.2.2.2.2.1 hG rfl rfl rfl ⟨rfl, hnm⟩ hro) ⟨Pc.blind, hrecv, Pc.at C.2.2.2.2.2.2.2.2.1 C.2.2.2.2.2.2.2.2.2 hW hS hH⟩ rfl (by rw [List.length_map]; exact hna) hl'.1 (by simp [F0, cv]) (lv_room (by rw [wds_sum]; exact hst)) hdg ⟨by omega, by omega⟩) hn.1 hn.2 hsl hsl1 C.2.2.2.2.2.2.2.2.2 hH hS (fun r V' R' H1 locs1 hQ hW1 hS1 => by
    have := k r V' R' hQ p e s m args below meth c H1 locs1 lr C hW1 hS1 hl'
    rw [List.map_append] at this
    exact this)
theorem C_pt0 {d a : Nat} {r : AV} (h : dVS M pc M' 0 pn) (ha : a < 16) (hd : d + 9 ≤ Rm.frames ∧ 60 * (d + 9) ≤ Rm.locals) (hc : 162 - n0 ≤ Rm.cells ∧ sl 162 - sl n0 ≤ Rm.slots ∧ n0 ≤ 162) (hr : RunsP G M' d (vr (1010 + a) :: []) V R r) (k : TT G M Rm n0 Z 162 pn ls (r :: st) V R) (hst : wds st ≤ 8 := by exact Nat.le_of_ble_eq_true rfl) : TT G M Rm n0 Z 162 pc ls (vr (1010 + a) :: st) V R := T_callT (As := []) h hr ha rfl hst hd ⟨hc.2.2, Nat.le_refl _⟩ ⟨hc.1, hc.2.1⟩ (fun _ _ _ q => by obtain ⟨rfl, rfl, rfl⟩ := q; exact k)
theorem C_pt1 {x1 : AV} {d a : Nat} {r : AV} (h : dVS M pc M' 1 pn) (ha : a < 16) (hd : d + 9 ≤ Rm.frames ∧ 60 * (d + 9) ≤ Rm.locals) (hc : 162 - n0 ≤ Rm.cells ∧ sl 162 - sl n0 ≤ Rm.slots ∧ n0 ≤ 162) (hr : RunsP G M' d (vr (1010 + a) :: [x1]) V R r) (k : TT G M Rm n0 Z 162 pn ls (r :: st) V R) (hst : wds st ≤ 8 := by exact Nat.le_of_ble_eq_true rfl) : TT G M Rm n0 Z 162 pc ls (x1 :: vr (1010 + a) :: st) V R := T_callT (As := [x1]) h hr ha rfl hst hd ⟨hc.2.2, Nat.le_refl _⟩ ⟨hc.1, hc.2.1⟩ (fun _ _ _ q => by obtain ⟨rfl, rfl, rfl⟩ := q; exact k)
end TSTR
