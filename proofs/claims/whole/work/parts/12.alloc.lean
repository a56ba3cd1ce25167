/-! new cells -/
section TALLOC
variable {G : GG} {M : Mth} {Rm : Room} {n0 nx pc pn : Nat} {Z : List Frame → Array Value → State → State → Prop} {ls : List (Nat × AV)} {st : List AV} {V : VV} {R : RR}
theorem alloc_q {q : Nat} {e : va_E} {H1 : Heap} (hP : va_P (gD G) vwCl (wl G nx V R ++ [(q, e)]) H1) (hD : va_D (aA G) (wl G nx V R ++ [(q, e)])) (hz : H1.size ≤ gB G + nx + 1) : q = gB G + nx := by
  have hlen : (wl G nx V R).length = nx := by simp [wl]
  have h1 : (wl G nx V R ++ [(q, e)])[nx]? = some (q, e) := by
    rw [List.getElem?_append_right (by omega), hlen, Nat.sub_self]
    rfl
  have h2 : q < H1.size := (hP nx _ h1).lt
  have h3 : gB G ≤ q := hD.2 nx _ h1
  rcases Nat.lt_or_ge q (gB G + nx) with h | h
  · exfalso
    have hk : q - gB G < nx := by omega
    have h4 : (wl G nx V R ++ [(q, e)])[q - gB G]? = some (gB G + (q - gB G), ce G V R (q - gB G)) := by
      rw [List.getElem?_append_left (by omega)]
      exact wl_get G V R hk
    have := hD.1 _ _ _ _ h4 h1 (by show gB G + (q - gB G) = q; omega)
    omega
  · omega
theorem wl_above {V' : VV} {R' : RR} (h1 : ∀ k, k < nx → ∀ i, V' k i = V k i) (h2 : ∀ k, k < nx → ∀ i, R' k i = R k i) : wl G nx V' R' = wl G nx V R := by
  unfold wl
  apply List.map_congr_left
  intro k hk
  rw [ce_congr (h1 k (List.mem_range.mp hk)) (h2 k (List.mem_range.mp hk))]
theorem cV_lt {a k i : Nat} {f : Nat → Int} (h : k < a) : cV V a f k i = V k i := by simp [cV, Nat.ne_of_lt h]
theorem cR_lt {a k i : Nat} {f : Nat → Option Nat} (h : k < a) : cR R a f k i = R k i := by simp [cR, Nat.ne_of_lt h]
abbrev zV (V : VV) (a : Nat) : VV := cV V a (fun _ => 0)
abbrev zR (R : RR) (a : Nat) : RR := cR R a (fun _ => none)
theorem alloc_HW {q : Nat} {e : va_E} {H1 : Heap} (hP : va_P (gD G) vwCl (wl G nx V R ++ [(q, e)]) H1) (hq : q = gB G + nx) (he : ce G (zV V nx) (zR R nx) nx = e) : HW G (nx + 1) (zV V nx) (zR R nx) H1 := by
  subst hq
  have e1 : wl G nx V R = wl G nx (zV V nx) (zR R nx) := (wl_above (fun k hk i => cV_lt hk) (fun k hk i => cR_lt hk)).symm
  rw [e1, wl_push he] at hP
  exact hP
theorem W.size1 {p : Program} {e : Env} {s : State} {m : MethodId} {args : Array Value} {below : List Frame} {meth : Method} {c : Code} {H : Heap} {locs : List Loc} {cells slots : Nat} {Qw : State → Prop} {g : JFrame} (k : H.size ≤ s.heap.size + cells → W p (gL G) e Rm s m args below meth c H locs cells slots Qw g) : W p (gL G) e Rm s m args below meth c H locs cells slots Qw g := by
  intro T hT X
  have h1 : (T.setVm s.vm).heap.size ≤ s.heap.size + cells := X.same.2.2.1
  have h2 : T.heap.size ≤ s.heap.size + cells := h1
  rw [hT] at h2
  exact k h2 T hT X
def dNW (M : Mth) (pc ci pn : Nat) : Prop := ∃ (i : Nat) (q : vw_C), decode M.2.1 pc = .ok (.new i, 3) ∧ pc + 3 = pn ∧ vwCl[ci]? = some q ∧ q.2.2 = nfc ci ∧ Cond.classLink M.2.2.2.2 i q.1 ∈ WL ∧ Cond.instantiable q.1 q.2.2 ∈ WL ∧ Cond.initialized q.1 ∈ WL ∧ ∃ ty0 : Nat → FieldType, (∀ k, k < q.2.2 → parseFieldDescriptor (q.2.1 k).2.2.1 = some (ty0 k)) ∧ ∀ k, k < nfc ci → defaultValue (ty0 k) = (match ftc ci k with | 1 => Value.long 0 | 2 => Value.null | _ => Value.int 0)
theorem T_new (hu : uwsOk) {ci : Nat} (h : dNW M pc ci pn) (hl : lay nx = (0, ci)) (hn : n0 ≤ nx) (hc : nx + 1 - n0 ≤ Rm.cells ∧ sl (nx + 1) - sl n0 ≤ Rm.slots) (k : TT G M Rm n0 Z (nx + 1) pn ls (vr nx :: st) (zV V nx) (zR R nx)) : TT G M Rm n0 Z nx pc ls st V R := by
  intro p e s m args below meth c H locs lr C hW hS hl'
  obtain ⟨i, q, hd, rfl, hq, hnf, hw1, hw2, hw3, ty0, ht, hdv⟩ := h
  obtain ⟨C1, T1, N1⟩ := q
  have hnf : N1 = nfc ci := hnf
  have hsl := sl_mono hn
  have hsz : sl (nx + 1) = sl nx + N1 := by
    show sl nx + sz1 (lay nx) = _
    rw [hl, hnf]
    rfl
  have had := ad_of (G := G) hl (by decide)
  have hfs : ∀ j, j < N1 → defaultValue (ty0 j) = vp_V ((List.range (nfc ci)).map (fv G (zV V nx) (zR R nx) nx ci)) j := by
    intro j hj
    rw [hdv j (by omega)]
    unfold vp_V
    rw [List.getD_eq_getElem?_getD, fs_get (by omega)]
    unfold fv
    simp only [cV, cR, if_true, Option.getD_some]
    generalize ftc ci j = f
    match f with
    | 0 => rfl
    | 1 => rfl
    | 2 => rfl
    | _ + 3 => rfl
  refine va_new (D := gD G) (A := aA G) (ci := ci) (C := C1) (T := T1) (N := N1) (fs := (List.range (nfc ci)).map (fv G (zV V nx) (zR R nx) nx ci)) C.1 C.2.1 C.2.2.2.2.2.1 (hu ci _ hq).1 ty0 ht C.2.2.2.2.1 (C.2.2.2.2.2.1 _ hw1) (C.2.2.2.2.2.1 _ hw2) (C.2.2.2.2.2.1 _ hw3) C.2.2.2.2.2.2.2.2.1.1 hW (wl_D G nx V R) hS (fun q hq => by have := C.2.2.2.2.2.2.2.2.2; show gB G ≤ q; omega) hq hfs (by omega) (by omega) hd (fun q H1 hP1 hD1 hS1 => ?_)
  refine W.size1 (fun hz => ?_)
  have hz0 := C.2.2.2.2.2.2.2.2.2
  have hqq := alloc_q hP1 hD1 (by omega)
  have hWn := alloc_HW hP1 hqq (ce_0 hl)
  have k := k p e s m args below meth c H1 locs lr C hWn hS1 hl'
  rw [hqq, ← had]
  have e1 : nx + 1 - n0 = nx - n0 + 1 := by omega
  have e2 : sl (nx + 1) - sl n0 = sl nx - sl n0 + N1 := by omega
  rw [e1, e2] at k
  exact k
theorem T_newa {at0 : ArrayType} {ty : FieldType} {n : Int} {cd ti : Nat} (h : decode M.2.1 pc = .ok (.newarray at0, 2)) (hpn : pc + 2 = pn) (hty : newarray.typeOf at0 = ty) (hw : Cond.arrayClass ty ∈ WL) (hl : lay nx = (cd, n.toNat)) (hcd : (cd = 1 ∧ ty = .int) ∨ (cd = 2 ∧ ty = .long) ∨ (cd = 3 ∧ ty = .boolean) ∨ (cd = 4 ∧ ty = .byte)) (hn : 0 ≤ n ∧ n ≤ 60000) (hn0 : n0 ≤ nx) (hc : nx + 1 - n0 ≤ Rm.cells ∧ sl (nx + 1) - sl n0 ≤ Rm.slots) (k : TT G M Rm n0 Z (nx + 1) pn ls (vr nx :: st) (zV V nx) (zR R nx)) : TT G M Rm n0 Z nx pc ls (vi n :: st) V R := by
  subst hpn
  intro p e s m args below meth c H locs lr C hW hS hl'
  have hsl := sl_mono hn0
  have hsz : sl (nx + 1) = sl nx + n.toNat := by
    show sl nx + sz1 (lay nx) = _
    rw [hl]
    rcases hcd with ⟨rfl, -⟩ | ⟨rfl, -⟩ | ⟨rfl, -⟩ | ⟨rfl, -⟩ <;> rfl
  have had := ad_of (G := G) hl (by rcases hcd with ⟨rfl, -⟩ | ⟨rfl, -⟩ | ⟨rfl, -⟩ | ⟨rfl, -⟩ <;> decide)
  have hr : r32 n := ⟨by omega, by omega⟩
  have hnn : ¬ Int32.ofInt n < 0 := fun q => by
    have := (i32_lt (y := 0) hr ⟨by decide, by decide⟩).mp q
    omega
  have hN : (Int32.ofInt n).toNatClampNeg = n.toNat := by
    show (Int32.ofInt n).toInt.toNat = n.toNat
    rw [t32 hr]
  have hz0 := C.2.2.2.2.2.2.2.2.2
  have hby : n.toNat * componentBytes ty ≤ 536870912 := by
    rcases hcd with ⟨-, rfl⟩ | ⟨-, rfl⟩ | ⟨-, rfl⟩ | ⟨-, rfl⟩ <;> simp [componentBytes] <;> omega
  have hA : ∀ q, s.heap.size ≤ q → aA G q := fun q hq => by show gB G ≤ q; omega
  have fin : ∀ (cA : ClassId) (q : Nat) (H1 : Heap) (e1 : va_E), va_K (gD G) vwCl (tysG G ++ [(cA, ty)]) s → va_P (gD G) vwCl (wl G nx V R ++ [(q, e1)]) H1 → va_D (aA G) (wl G nx V R ++ [(q, e1)]) → va_S (aA G) s.heap H1 locs → ((∀ j : Nat, (tysG G)[j]? = some (gY G cd, ty) → cA = gY G cd) → ce G (zV V nx) (zR R nx) nx = e1) → (∃ j : Nat, (tysG G)[j]? = some (gY G cd, ty)) → (ty ≠ .object "") → W p (gL G) e Rm s m args below meth c H1 locs (nx - n0 + 1) (sl nx - sl n0 + n.toNat) (Z below args s) (F0 m (pc + 2) lr (.ref q :: st.map (cv G))) := by
    intro cA q H1 e1 hK1 hP1 hD1 hS1 hce hj hty0
    refine W.size1 (fun hz => ?_)
    have hqq := alloc_q hP1 hD1 (by omega)
    have hcA : ∀ j : Nat, (tysG G)[j]? = some (gY G cd, ty) → cA = gY G cd := by
      intro j hj
      have h1 := (C.2.2.2.2.2.2.2.2.1.1.2 j _ hj).2
      have h2 := (hK1.2 (tysG G).length (cA, ty) (by rw [List.getElem?_append_right (Nat.le_refl _), Nat.sub_self]; rfl)).2
      rcases hcd with ⟨-, rfl⟩ | ⟨-, rfl⟩ | ⟨-, rfl⟩ | ⟨-, rfl⟩ <;> exact Option.some.inj ((show s.vm.findClass _ = some cA from h2).symm.trans (show s.vm.findClass _ = some (gY G cd) from h1))
    have hWn := alloc_HW hP1 hqq (hce hcA)
    have k := k p e s m args below meth c H1 locs lr C hWn hS1 hl'
    rw [hqq, ← had]
    have e1 : nx + 1 - n0 = nx - n0 + 1 := by omega
    have e2 : sl (nx + 1) - sl n0 = sl nx - sl n0 + n.toNat := by omega
    rw [e1, e2] at k
    exact k
  rcases hcd with ⟨rfl, rfl⟩ | ⟨rfl, rfl⟩ | ⟨rfl, rfl⟩ | ⟨rfl, rfl⟩
  · exact va_newa (D := gD G) (A := aA G) (a0 := (n.toNat, .inl (fun _ => 0))) C.1 C.2.1 (by rw [hty]; exact C.2.2.2.2.2.1 _ hw) hty C.2.2.2.2.2.2.2.2.1.1 hW (wl_D G nx V R) hS hA (fun _ => rfl) hnn hN hby (by omega) (by omega) h (fun q cA H1 hK1 hP1 hD1 hS1 => fin cA q H1 _ hK1 hP1 hD1 hS1 (fun hj => by rw [hj 0 rfl, ce_1 hl]; simp [cV]) ⟨0, rfl⟩ (by decide))
  · exact va_newa (D := gD G) (A := aA G) (a0 := (n.toNat, .inr (.inl (fun _ => 0)))) C.1 C.2.1 (by rw [hty]; exact C.2.2.2.2.2.1 _ hw) hty C.2.2.2.2.2.2.2.2.1.1 hW (wl_D G nx V R) hS hA (fun _ => rfl) hnn hN hby (by omega) (by omega) h (fun q cA H1 hK1 hP1 hD1 hS1 => fin cA q H1 _ hK1 hP1 hD1 hS1 (fun hj => by rw [hj 1 rfl, ce_2 hl]; simp [cV]) ⟨1, rfl⟩ (by decide))
  · exact va_newa (D := gD G) (A := aA G) (a0 := (n.toNat, .inl (fun _ => 0))) C.1 C.2.1 (by rw [hty]; exact C.2.2.2.2.2.1 _ hw) hty C.2.2.2.2.2.2.2.2.1.1 hW (wl_D G nx V R) hS hA (fun _ => rfl) hnn hN hby (by omega) (by omega) h (fun q cA H1 hK1 hP1 hD1 hS1 => fin cA q H1 _ hK1 hP1 hD1 hS1 (fun hj => by rw [hj 2 rfl, ce_3 hl]; simp [cV]) ⟨2, rfl⟩ (by decide))
  · exact va_newa (D := gD G) (A := aA G) (a0 := (n.toNat, .inl (fun _ => 0))) C.1 C.2.1 (by rw [hty]; exact C.2.2.2.2.2.1 _ hw) hty C.2.2.2.2.2.2.2.2.1.1 hW (wl_D G nx V R) hS hA (fun _ => rfl) hnn hN hby (by omega) (by omega) h (fun q cA H1 hK1 hP1 hD1 hS1 => fin cA q H1 _ hK1 hP1 hD1 hS1 (fun hj => by rw [hj 3 rfl, ce_4 hl]; simp [cV]) ⟨3, rfl⟩ (by decide))
theorem T_newq {n : Int} (h : ∃ i, decode M.2.1 pc = .ok (.anewarray i, 3) ∧ Cond.classLink M.2.2.2.2 i "PostHouses$House" ∈ WL) (hpn : pc + 3 = pn) (hl : lay nx = (5, n.toNat)) (hn : 0 ≤ n ∧ n ≤ 60000) (hn0 : n0 ≤ nx) (hc : nx + 1 - n0 ≤ Rm.cells ∧ sl (nx + 1) - sl n0 ≤ Rm.slots) (k : TT G M Rm n0 Z (nx + 1) pn ls (vr nx :: st) (zV V nx) (zR R nx)) : TT G M Rm n0 Z nx pc ls (vi n :: st) V R := by
  subst hpn
  intro p e s m args below meth c H locs lr C hW hS hl'
  obtain ⟨i, hd, hw⟩ := h
  have hsl := sl_mono hn0
  have hsz : sl (nx + 1) = sl nx + n.toNat := by
    show sl nx + sz1 (lay nx) = _
    rw [hl]
    rfl
  have had := ad_of (G := G) hl (by decide)
  have hr : r32 n := ⟨by omega, by omega⟩
  have hnn : ¬ Int32.ofInt n < 0 := fun q => by
    have := (i32_lt (y := 0) hr ⟨by decide, by decide⟩).mp q
    omega
  have hN : (Int32.ofInt n).toNatClampNeg = n.toNat := by
    show (Int32.ofInt n).toInt.toNat = n.toNat
    rw [t32 hr]
  have hz0 := C.2.2.2.2.2.2.2.2.2
  have hA : ∀ q, s.heap.size ≤ q → aA G q := fun q hq => by show gB G ≤ q; omega
  refine va_newq (D := gD G) (A := aA G) C.1 C.2.1 C.2.2.2.2.1 (C.2.2.2.2.2.1 _ hw) C.2.2.2.2.2.2.2.2.1.2.2.2.2.2.2.2.2.2.1 C.2.2.2.2.2.2.2.2.1.1 hW (wl_D G nx V R) hS hA hnn hN (by omega) (by omega) (by omega) hd (fun q cA H1 hK1 hP1 hD1 hS1 => ?_)
  refine W.size1 (fun hz => ?_)
  have hqq := alloc_q hP1 hD1 (by omega)
  have hcA : cA = gY G 5 := by
    obtain ⟨_, _, _, _, _, h1⟩ := (C.2.2.2.2.2.2.2.2.1.1.2 4 _ rfl).2
    obtain ⟨_, _, _, _, _, h2⟩ := (hK1.2 (tysG G).length (cA, .object "PostHouses$House") (by rw [List.getElem?_append_right (Nat.le_refl _), Nat.sub_self]; rfl)).2
    exact Option.some.inj (h2.symm.trans h1)
  have hWn := alloc_HW hP1 hqq (by rw [ce_5 hl, hcA]; simp [cR])
  have k := k p e s m args below meth c H1 locs lr C hWn hS1 hl'
  rw [hqq, ← had]
  have e1 : nx + 1 - n0 = nx - n0 + 1 := by omega
  have e2 : sl (nx + 1) - sl n0 = sl nx - sl n0 + n.toNat := by omega
  rw [e1, e2] at k
  exact k
end TALLOC
