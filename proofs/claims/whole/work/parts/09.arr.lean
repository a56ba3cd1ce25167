/-! arrays -/
section TARR
variable {G : GG} {M : Mth} {Rm : Room} {n0 nx pc pn : Nat} {Z : List Frame → Array Value → State → State → Prop} {ls ls' : List (Nat × AV)} {st : List AV} {V : VV} {R : RR}
theorem ad_of {k c n : Nat} (h : lay k = (c, n)) (hc : c ≠ 9) : ad G k = gB G + k := ad_lo (by have := lay_lt h hc; omega)
theorem T_iald {a n : Nat} {i : Int} (h : dI M pc .iaload pn) (hl : lay a = (1, n)) (ha : a < nx) (hi : 0 ≤ i ∧ i < (n : Int)) (k : TT G M Rm n0 Z nx pn ls (vi (V a i.toNat) :: st) V R) : TT G M Rm n0 Z nx pc ls (vi i :: vr a :: st) V R := by
  intro p e s m args below meth c H locs lr C hW hS hl'
  obtain ⟨hd, rfl⟩ := h
  obtain ⟨h1, h2⟩ := i32_in hi (lay_n hl)
  have hw := wl_get G V R ha
  rw [ce_1 hl, ← ad_of (G := G) hl (by decide)] at hw
  refine va_iald C.1 C.2.1 C.2.2.2.2.2.2.2.2.1.1 hW a 0 hw rfl h1 hd ?_
  rw [h2]
  exact k p e s m args below meth c H locs lr C hW hS hl'
theorem T_zald {a n : Nat} {i : Int} (h : dI M pc .baload pn) (hl : lay a = (3, n)) (ha : a < nx) (hi : 0 ≤ i ∧ i < (n : Int)) (k : TT G M Rm n0 Z nx pn ls (vi (V a i.toNat) :: st) V R) : TT G M Rm n0 Z nx pc ls (vi i :: vr a :: st) V R := by
  intro p e s m args below meth c H locs lr C hW hS hl'
  obtain ⟨hd, rfl⟩ := h
  obtain ⟨h1, h2⟩ := i32_in hi (lay_n hl)
  have hw := wl_get G V R ha
  rw [ce_3 hl, ← ad_of (G := G) hl (by decide)] at hw
  refine va_zald C.1 C.2.1 C.2.2.2.2.2.2.2.2.1.1 hW a 2 hw rfl h1 hd ?_
  rw [h2]
  exact k p e s m args below meth c H locs lr C hW hS hl'
theorem T_bald {a n : Nat} {i : Int} (h : dI M pc .baload pn) (hl : lay a = (4, n)) (ha : a < nx) (hi : 0 ≤ i ∧ i < (n : Int)) (k : TT G M Rm n0 Z nx pn ls (vi (V a i.toNat) :: st) V R) : TT G M Rm n0 Z nx pc ls (vi i :: vr a :: st) V R := by
  intro p e s m args below meth c H locs lr C hW hS hl'
  obtain ⟨hd, rfl⟩ := h
  obtain ⟨h1, h2⟩ := i32_in hi (lay_n hl)
  have hw := wl_get G V R ha
  rw [ce_4 hl, ← ad_of (G := G) hl (by decide)] at hw
  refine va_bald C.1 C.2.1 C.2.2.2.2.2.2.2.2.1.1 hW a 3 hw rfl h1 hd ?_
  rw [h2]
  exact k p e s m args below meth c H locs lr C hW hS hl'
theorem T_lald {a n : Nat} {i : Int} (h : dI M pc .laload pn) (hl : lay a = (2, n)) (ha : a < nx) (hi : 0 ≤ i ∧ i < (n : Int)) (k : TT G M Rm n0 Z nx pn ls (vj (V a i.toNat) :: st) V R) : TT G M Rm n0 Z nx pc ls (vi i :: vr a :: st) V R := by
  intro p e s m args below meth c H locs lr C hW hS hl'
  obtain ⟨hd, rfl⟩ := h
  obtain ⟨h1, h2⟩ := i32_in hi (lay_n hl)
  have hw := wl_get G V R ha
  rw [ce_2 hl, ← ad_of (G := G) hl (by decide)] at hw
  refine va_lald C.1 C.2.1 C.2.2.2.2.2.2.2.2.1.1 hW a 1 hw rfl h1 hd ?_
  rw [h2]
  exact k p e s m args below meth c H locs lr C hW hS hl'
theorem T_aald {a n : Nat} {i : Int} (h : dI M pc .aaload pn) (hl : lay a = (5, n)) (ha : a < nx) (hi : 0 ≤ i ∧ i < (n : Int)) (k : TT G M Rm n0 Z nx pn ls (vq (R a i.toNat) :: st) V R) : TT G M Rm n0 Z nx pc ls (vi i :: vr a :: st) V R := by
  intro p e s m args below meth c H locs lr C hW hS hl'
  obtain ⟨hd, rfl⟩ := h
  obtain ⟨h1, h2⟩ := i32_in hi (lay_n hl)
  have hw := wl_get G V R ha
  rw [ce_5 hl, ← ad_of (G := G) hl (by decide)] at hw
  refine va_aldq C.1 C.2.1 C.2.2.2.2.2.2.2.2.1.1 hW a 4 hw rfl h1 hd ?_
  rw [h2]
  have k := k p e s m args below meth c H locs lr C hW hS hl'
  rw [List.map_cons, cv_q] at k
  exact k
theorem T_aald2 {a n : Nat} {i : Int} (h : dI M pc .aaload pn) (hl : lay a = (6, n)) (ha : a < nx) (hi : 0 ≤ i ∧ i < (n : Int)) (k : TT G M Rm n0 Z nx pn ls (vq (R a i.toNat) :: st) V R) : TT G M Rm n0 Z nx pc ls (vi i :: vr a :: st) V R := by
  intro p e s m args below meth c H locs lr C hW hS hl'
  obtain ⟨hd, rfl⟩ := h
  obtain ⟨h1, h2⟩ := i32_in hi (lay_n hl)
  have hw := wl_get G V R ha
  rw [ce_6 hl, ← ad_of (G := G) hl (by decide)] at hw
  have k := k p e s m args below meth c H locs lr C hW hS hl'
  rw [List.map_cons, cv_q] at k
  have hlt : (Int32.ofInt i).toNatClampNeg < n := Nat.not_le.mp fun q => h1 (Or.inr q)
  refine W.aald (v := va_rf ((R a i.toNat).map (ad G))) (ty := .array .int) C.1 C.2.1 (hW a _ hw) ((C.2.2.2.2.2.2.2.2.1.1.2 5 _ rfl).1 n (fun j => va_rf ((R a j).map (ad G)))) rfl (fun q => by cases q) (by show ¬ (_ < 0 ∨ (arrV _ _ _).slots.size ≤ _); rw [arrV_size]; exact h1) (by show (arrV _ _ _).slots[_]? = _; rw [arrV_read _ _ hlt, h2]) rfl rfl hd ?_
  exact k
theorem T_iast {a n : Nat} {i x : Int} (h : dI M pc .iastore pn) (hl : lay a = (1, n)) (ha : a < nx) (hi : 0 ≤ i ∧ i < (n : Int)) (k : TT G M Rm n0 Z nx pn ls st (uV V a i.toNat x) R) : TT G M Rm n0 Z nx pc ls (vi x :: vi i :: vr a :: st) V R := by
  intro p e s m args below meth c H locs lr C hW hS hl'
  obtain ⟨hd, rfl⟩ := h
  obtain ⟨h1, h2⟩ := i32_in hi (lay_n hl)
  have hw := wl_get G V R ha
  have had := ad_of (G := G) hl (by decide)
  rw [ce_1 hl] at hw
  show W p (gL G) e Rm s m args below meth c H locs _ _ (Z below args s) (F0 m pc lr (.int _ :: .int _ :: .ref (ad G a) :: st.map (cv G)))
  rw [had]
  refine va_iast (A := aA G) C.1 C.2.1 C.2.2.2.2.2.2.2.2.1.1 hW (wl_D G nx V R) hS a 0 hw rfl h1 hd (fun H1 locs1 hP1 _ hS1 => k p e s m args below meth c H1 locs1 lr C (HW.put ha ?_ (fun j hj => ce_uV hj) hP1) hS1 hl')
  rw [ce_1 hl, h2]
  congr 4
  funext j
  by_cases hj : j = i.toNat
  · subst hj; simp [upd, uV_self]
  · simp [upd, hj, uV_ne]
theorem T_zast {a n : Nat} {i x : Int} (h : dI M pc .bastore pn) (hl : lay a = (3, n)) (ha : a < nx) (hi : 0 ≤ i ∧ i < (n : Int)) (hx : x = 0 ∨ x = 1) (k : TT G M Rm n0 Z nx pn ls st (uV V a i.toNat x) R) : TT G M Rm n0 Z nx pc ls (vi x :: vi i :: vr a :: st) V R := by
  intro p e s m args below meth c H locs lr C hW hS hl'
  obtain ⟨hd, rfl⟩ := h
  obtain ⟨h1, h2⟩ := i32_in hi (lay_n hl)
  have hw := wl_get G V R ha
  have had := ad_of (G := G) hl (by decide)
  rw [ce_3 hl] at hw
  show W p (gL G) e Rm s m args below meth c H locs _ _ (Z below args s) (F0 m pc lr (.int _ :: .int _ :: .ref (ad G a) :: st.map (cv G)))
  rw [had]
  refine va_zast (A := aA G) C.1 C.2.1 C.2.2.2.2.2.2.2.2.1.1 hW (wl_D G nx V R) hS a 2 hw rfl h1 hd (fun H1 locs1 hP1 _ hS1 => k p e s m args below meth c H1 locs1 lr C (HW.put ha ?_ (fun j hj => ce_uV hj) hP1) hS1 hl')
  have hx' : vp_nar .boolean (Int32.ofInt x) = Int32.ofInt x := by rcases hx with rfl | rfl <;> rfl
  rw [ce_3 hl, h2, hx']
  congr 4
  funext j
  by_cases hj : j = i.toNat
  · subst hj; simp [upd, uV_self]
  · simp [upd, hj, uV_ne]
theorem T_bast {a n : Nat} {i x : Int} (h : dI M pc .bastore pn) (hl : lay a = (4, n)) (ha : a < nx) (hi : 0 ≤ i ∧ i < (n : Int)) (hx : -128 ≤ x ∧ x < 128) (k : TT G M Rm n0 Z nx pn ls st (uV V a i.toNat x) R) : TT G M Rm n0 Z nx pc ls (vi x :: vi i :: vr a :: st) V R := by
  intro p e s m args below meth c H locs lr C hW hS hl'
  obtain ⟨hd, rfl⟩ := h
  obtain ⟨h1, h2⟩ := i32_in hi (lay_n hl)
  have hw := wl_get G V R ha
  have had := ad_of (G := G) hl (by decide)
  rw [ce_4 hl] at hw
  show W p (gL G) e Rm s m args below meth c H locs _ _ (Z below args s) (F0 m pc lr (.int _ :: .int _ :: .ref (ad G a) :: st.map (cv G)))
  rw [had]
  refine va_bast (A := aA G) C.1 C.2.1 C.2.2.2.2.2.2.2.2.1.1 hW (wl_D G nx V R) hS a 3 hw rfl h1 hd (fun H1 locs1 hP1 _ hS1 => k p e s m args below meth c H1 locs1 lr C (HW.put ha ?_ (fun j hj => ce_uV hj) hP1) hS1 hl')
  have hx' : vp_nar .byte (Int32.ofInt x) = Int32.ofInt x := by
    rw [vp_nar_byte]
    apply Int32.toInt_inj.mp
    have e1 : (Int32.ofInt x).toInt8 = Int8.ofInt x := by simp
    rw [e1, Int8.toInt_toInt32, Int8.toInt_ofInt_of_le hx.1 hx.2, t32 ⟨by omega, by omega⟩]
  rw [ce_4 hl, h2, hx']
  congr 4
  funext j
  by_cases hj : j = i.toNat
  · subst hj; simp [upd, uV_self]
  · simp [upd, hj, uV_ne]
theorem T_last {a n : Nat} {i x : Int} (h : dI M pc .lastore pn) (hl : lay a = (2, n)) (ha : a < nx) (hi : 0 ≤ i ∧ i < (n : Int)) (k : TT G M Rm n0 Z nx pn ls st (uV V a i.toNat x) R) : TT G M Rm n0 Z nx pc ls (vj x :: vi i :: vr a :: st) V R := by
  intro p e s m args below meth c H locs lr C hW hS hl'
  obtain ⟨hd, rfl⟩ := h
  obtain ⟨h1, h2⟩ := i32_in hi (lay_n hl)
  have hw := wl_get G V R ha
  have had := ad_of (G := G) hl (by decide)
  rw [ce_2 hl] at hw
  show W p (gL G) e Rm s m args below meth c H locs _ _ (Z below args s) (F0 m pc lr (.long _ :: .int _ :: .ref (ad G a) :: st.map (cv G)))
  rw [had]
  refine va_last (A := aA G) C.1 C.2.1 C.2.2.2.2.2.2.2.2.1.1 hW (wl_D G nx V R) hS a 1 hw rfl h1 hd (fun H1 locs1 hP1 _ hS1 => k p e s m args below meth c H1 locs1 lr C (HW.put ha ?_ (fun j hj => ce_uV hj) hP1) hS1 hl')
  rw [ce_2 hl, h2]
  congr 5
  funext j
  by_cases hj : j = i.toNat
  · subst hj; simp [vp_updL, uV_self]
  · simp [vp_updL, hj, uV_ne]
theorem T_aast {a n b : Nat} {i : Int} (h : dI M pc .aastore pn) (hl : lay a = (5, n)) (ha : a < nx) (hi : 0 ≤ i ∧ i < (n : Int)) (hlb : lay b = (0, 2)) (hb : b < nx) (k : TT G M Rm n0 Z nx pn ls st V (uR R a i.toNat (some b))) : TT G M Rm n0 Z nx pc ls (vr b :: vi i :: vr a :: st) V R := by
  intro p e s m args below meth c H locs lr C hW hS hl'
  obtain ⟨hd, rfl⟩ := h
  obtain ⟨h1, h2⟩ := i32_in hi (lay_n hl)
  have hw := wl_get G V R ha
  have hwb := wl_get G V R hb
  have had := ad_of (G := G) hl (by decide)
  have hbd := ad_of (G := G) hlb (by decide)
  rw [ce_5 hl] at hw
  rw [ce_0 hlb] at hwb
  show W p (gL G) e Rm s m args below meth c H locs _ _ (Z below args s) (F0 m pc lr (.ref (ad G b) :: .int _ :: .ref (ad G a) :: st.map (cv G)))
  rw [had, hbd]
  refine va_astq (A := aA G) (r := (RX2, TX2, 20)) C.1 C.2.1 C.2.2.2.2.2.2.2.2.1.1 hW (wl_D G nx V R) hS a 4 b 2 hw rfl hwb rfl h1 hd (fun H1 locs1 hP1 _ hS1 => k p e s m args below meth c H1 locs1 lr C (HW.put ha ?_ (fun j hj => ce_uR hj) hP1) hS1 hl')
  rw [ce_5 hl, h2]
  congr 8
  funext j
  by_cases hj : j = i.toNat
  · subst hj; simp [va_up, uR_self, hbd]
  · simp [va_up, hj, uR_ne]
theorem T_alen {a n cd : Nat} (h : dI M pc .arraylength pn) (hl : lay a = (cd, n)) (hc : cd = 1) (ha : a < nx) (k : TT G M Rm n0 Z nx pn ls (vi n :: st) V R) : TT G M Rm n0 Z nx pc ls (vr a :: st) V R := by
  subst hc
  intro p e s m args below meth c H locs lr C hW hS hl'
  obtain ⟨hd, rfl⟩ := h
  have hw := wl_get G V R ha
  rw [ce_1 hl, ← ad_of (G := G) hl (by decide)] at hw
  exact va_alen C.1 C.2.1 C.2.2.2.2.2.2.2.2.1.1 hW a 0 hw (ty := .int) rfl rfl hd (k p e s m args below meth c H locs lr C hW hS hl')
/-! constant arrays below the world -/
theorem EV.x {s : State} (h : EV G s) : gS G 0 < gB G ∧ va_X (gS G 0) (gN G) (gX G) s s.heap := h.2.2.2.1.1
theorem EV.t {s : State} (h : EV G s) {j : Nat} (h1 : 1 ≤ j) (h2 : j < 5) : va_T .int (gS G j) 10 (fun i => .int (Int32.ofInt ((sCon j).getD i 0))) (aA G) s s.heap := h.2.2.2.1.2 j h1 h2
theorem T_sald {j n : Nat} {i x : Int} (h : dI M pc .iaload pn) (hj : j < 5) (hn : sLen G j = n) (hn2 : n < 2147483648) (hi : 0 ≤ i ∧ i < (n : Int)) (hx : sVal G j i.toNat = Int32.ofInt x) (k : TT G M Rm n0 Z nx pn ls (vi x :: st) V R) : TT G M Rm n0 Z nx pc ls (vi i :: vr (1000 + j) :: st) V R := by
  intro p e s m args below meth c H locs lr C hW hS hl'
  obtain ⟨hd, rfl⟩ := h
  obtain ⟨h1, h2⟩ := i32_in hi hn2
  subst hn
  show W p (gL G) e Rm s m args below meth c H locs _ _ (Z below args s) (F0 m pc lr (.int _ :: .ref (ad G (1000 + j)) :: st.map (cv G)))
  rw [ad_hi]
  by_cases q : 1 ≤ j
  · have hT := EV.t C.2.2.2.2.2.2.2.2.1 q hj
    rw [show sLen G j = 10 from if_neg (by omega)] at h1
    refine va_ti (A := aA G) C.1 C.2.1 hT hS h1 (v := .int (Int32.ofInt x)) ?_ hd (k p e s m args below meth c H locs lr C hW hS hl')
    rw [h2, ← hx]
    show _ = Value.int (if j = 0 then _ else _)
    rw [if_neg (by omega)]
  obtain rfl : j = 0 := by omega
  obtain ⟨e1, e2⟩ := EV.x C.2.2.2.2.2.2.2.2.1
  have hx : gX G i.toNat = Int32.ofInt x := hx
  refine va_sld (A := aA G) C.1 C.2.1 e2 (Nat.lt_of_lt_of_le e1 C.2.2.2.2.2.2.2.2.1.2.2.1) (Nat.not_le.mpr e1) hS h1 hd ?_
  rw [h2, hx]
  exact k p e s m args below meth c H locs lr C hW hS hl'
theorem T_slen {j : Nat} (h : dI M pc .arraylength pn) (hj : j < 5) (k : TT G M Rm n0 Z nx pn ls (vi (sLen G j) :: st) V R) : TT G M Rm n0 Z nx pc ls (vr (1000 + j) :: st) V R := by
  intro p e s m args below meth c H locs lr C hW hS hl'
  obtain ⟨hd, rfl⟩ := h
  show W p (gL G) e Rm s m args below meth c H locs _ _ (Z below args s) (F0 m pc lr (.ref (ad G (1000 + j)) :: st.map (cv G)))
  rw [ad_hi]
  by_cases q : 1 ≤ j
  · have k := k p e s m args below meth c H locs lr C hW hS hl'
    rw [show sLen G j = 10 from if_neg (by omega)] at k
    exact va_tlen (A := aA G) C.1 C.2.1 (EV.t C.2.2.2.2.2.2.2.2.1 q hj) hS rfl hd k
  obtain rfl : j = 0 := by omega
  obtain ⟨e1, e2⟩ := EV.x C.2.2.2.2.2.2.2.2.1
  exact va_slen (A := aA G) C.1 C.2.1 e2 (Nat.lt_of_lt_of_le e1 C.2.2.2.2.2.2.2.2.1.2.2.1) (Nat.not_le.mpr e1) hS hd (k p e s m args below meth c H locs lr C hW hS hl')
def dGS (M : Mth) (pc j pn : Nat) : Prop := ∃ i, decode M.2.1 pc = .ok (.getstatic i, 3) ∧ pc + 3 = pn ∧ 1 ≤ j ∧ j < 5 ∧ Cond.fieldLink M.2.2.2.2 i "PostHouses$KindText" (sNam j) "[I" ∈ WL
theorem T_gs {j : Nat} (h : dGS M pc j pn) (k : TT G M Rm n0 Z nx pn ls (vr (1000 + j) :: st) V R) : TT G M Rm n0 Z nx pc ls st V R := by
  intro p e s m args below meth c H locs lr C hW hS hl'
  obtain ⟨i, hd, rfl, h1, h2, hw⟩ := h
  have k := k p e s m args below meth c H locs lr C hW hS hl'
  have e1 : cv G (vr (1000 + j)) = .ref (gS G j) := congrArg Value.ref (ad_hi G j)
  rw [List.map_cons, e1] at k
  exact va_gets (A := aA G) C.1 C.2.1 (C.2.2.2.2.2.2.2.2.1.2.2.2.2.1 j h1 h2) hS C.2.2.2.2.1 (C.2.2.2.2.2.1 _ hw) (fun _ h => h) hd k
end TARR
