/-! rows of rows in one stroke -/
def mnV (V : VV) (nx n : Nat) : VV := fun k j => if nx ≤ k ∧ k ≤ nx + n then 0 else V k j
def mnR (R : RR) (nx n : Nat) : RR := fun k j => if k = nx then (if j < n then some (nx + 1 + j) else none) else if nx < k ∧ k ≤ nx + n then none else R k j
theorem mn_out (c : ClassId) (N h0 : Nat) : ∀ i : Nat, Jvm.Free.Multi.outerC c N h0 i = arrV c N (fun j => va_rf (if j < i then some (h0 + 1 + j) else none))
  | 0 => by
    show ({ cls := c, slots := Array.replicate N .null, vm := .none } : Cell) = _
    rw [arrV_new]
    refine congrArg (arrV c N) (funext fun j => ?_)
    simp [va_rf]
  | i + 1 => by
    show (Jvm.Free.Multi.outerC c N h0 i).setSlot i (.ref (h0 + 1 + i)) = _
    rw [mn_out c N h0 i, arrV_store]
    refine congrArg (arrV c N) (funext fun j => ?_)
    by_cases e : j = i
    · subst e
      simp [updV, va_rf]
    · by_cases h : j < i
      · simp [updV, e, h, Nat.lt_succ_of_lt h]
      · simp [updV, e, h, show ¬ j < i + 1 by omega]
theorem mn_inn (c : ClassId) (K : Nat) : Jvm.Free.Multi.innerC c K (defaultValue .int) = vp_cell c (K, .inl (fun _ => 0)) := by
  show ({ cls := c, slots := Array.replicate K (.int 0), vm := .none } : Cell) = _
  rw [arrV_new]
  rfl
section TMNA
variable {G : GG} {M : Mth} {Rm : Room} {n0 nx pc pn : Nat} {Z : List Frame → Array Value → State → State → Prop} {ls : List (Nat × AV)} {st : List AV} {V : VV} {R : RR}
theorem T_mna {n k : Int} {ix N K : Nat} (h : decode M.2.1 pc = .ok (.multianewarray ix 2, 4)) (hpn : pc + 4 = pn) (hw : Cond.classLink M.2.2.2.2 ix "[[I" ∈ WL) (hw2 : Cond.arrayClass .int ∈ WL) (eN : n.toNat = N) (eK : k.toNat = K) (hl : lay nx = (6, N)) (hli : ∀ i, i < N → lay (nx + 1 + i) = (1, K)) (hn : 0 ≤ n ∧ n ≤ 1000) (hk : 0 ≤ k ∧ k ≤ 1000) (hn0 : n0 ≤ nx) (hsl : sl (nx + 1 + N) = sl nx + N + N * K) (hc : nx + 1 + N - n0 ≤ Rm.cells ∧ sl (nx + 1 + N) - sl n0 ≤ Rm.slots) (kk : TT G M Rm n0 Z (nx + 1 + N) pn ls (vr nx :: st) (mnV V nx N) (mnR R nx N)) : TT G M Rm n0 Z nx pc ls (vi k :: vi n :: st) V R := by
  subst hpn
  subst eN
  subst eK
  intro p e s m args below meth c H locs lr C hW hS hl'
  have hsl0 := sl_mono hn0
  have had := ad_of (G := G) hl (by decide)
  have hz0 := C.2.2.2.2.2.2.2.2.2
  have rn : r32 n := ⟨by omega, by omega⟩
  have rk : r32 k := ⟨by omega, by omega⟩
  have nn : ¬ Int32.ofInt n < 0 := fun q => by
    have := (i32_lt (y := 0) rn ⟨by decide, by decide⟩).mp q
    omega
  have nk : ¬ Int32.ofInt k < 0 := fun q => by
    have := (i32_lt (y := 0) rk ⟨by decide, by decide⟩).mp q
    omega
  have hN : (Int32.ofInt n).toNatClampNeg = n.toNat := by
    show (Int32.ofInt n).toInt.toNat = n.toNat
    rw [t32 rn]
  have hK : (Int32.ofInt k).toNatClampNeg = k.toNat := by
    show (Int32.ofInt k).toInt.toNat = k.toNat
    rw [t32 rk]
  have hE := C.2.2.2.2.2.2.2.2.1
  have hcw : (Cond.classLink M.2.2.2.2 ix ("[" ++ (FieldType.array FieldType.int).toString)).before args s = true := C.2.2.2.2.2.1 _ hw
  have hov : (Cond.arrayOver (.array .int)).before args s = true := hE.2.2.2.2.2.2.2.2.2.2
  have c6 : s.vm.findClass ("[" ++ (FieldType.array .int).toString) = some (gY G 6) := (hE.1.2 5 _ rfl).2
  have c1 : s.vm.findClass ("[" ++ FieldType.int.toString) = some (gY G 1) := (hE.1.2 0 _ rfl).2
  refine W.size (n0 := n0) (nx := nx) hz0 hn0 hW hS (fun hH => ?_)
  intro T hT X
  obtain ⟨vm₁, cA, comp, -, fA, fC, hO, -, X1, step⟩ := X.multianewarray2F (ty := .int) (n := Int32.ofInt n) (k := Int32.ofInt k) C.1 C.2.2.2.2.1 hcw hov (C.2.2.2.2.2.1 _ hw2) (g := F0 m pc lr (.int (Int32.ofInt k) :: .int (Int32.ofInt n) :: st.map (cv G))) rfl (by rw [C.2.1]; exact h) rfl nn nk (by rw [hN]; omega) (by rw [hK]; show k.toNat * 4 ≤ _; omega) (by rw [hK]; omega) rfl rfl (by rw [hN]; omega) (by rw [hN, hK]; omega)
  have e6 : cA = gY G 6 := Option.some.inj (fA.symm.trans c6)
  have e1 : comp = gY G 1 := Option.some.inj (fC.symm.trans c1)
  subst e6
  subst e1
  rw [hN, hK] at X1 step
  generalize hF : Jvm.Free.Multi.fill (T.setVm vm₁) (gY G 6) (gY G 1) n.toNat k.toNat (defaultValue .int) n.toNat = F at X1 step
  have hTh : (T.setVm vm₁).heap = H := hT
  obtain ⟨f1, f2, -, -⟩ := Jvm.Free.Multi.fill_facts (T.setVm vm₁) (gY G 6) (gY G 1) n.toNat k.toNat (defaultValue .int) n.toNat
  rw [hF, hTh] at f1 f2
  have hold : ∀ x : Nat, x < H.size → F.heap[x]? = H[x]? := fun x hx => by
    have := Jvm.Free.Multi.fill_old (T.setVm vm₁) (gY G 6) (gY G 1) n.toNat k.toNat (defaultValue .int) (a := x) (by rw [hTh]; exact hx) n.toNat
    rw [hF, hTh] at this
    exact this
  have hrow : ∀ j : Nat, j < n.toNat → F.heap[H.size + 1 + j]? = some (vp_cell (gY G 1) (k.toNat, .inl (fun _ => 0))) := fun j hj => by
    have := Jvm.Free.Multi.fill_inner (T.setVm vm₁) (gY G 6) (gY G 1) n.toNat k.toNat (defaultValue .int) n.toNat j hj
    rw [hF, hTh, mn_inn] at this
    exact this
  have hsz := hH
  have hP0 : va_P (gD G) vwCl (wl G nx V R) F.heap := hW.kept (fun k9 x hx => hold x.1 ((hW k9 x hx).lt))
  have hWn : HW G (nx + 1 + n.toNat) (mnV V nx n.toNat) (mnR R nx n.toNat) F.heap := by
    intro k9 q hq
    obtain ⟨hlt, rfl⟩ := wl_inv hq
    by_cases h1 : k9 < nx
    · have h2 := hP0 k9 _ (wl_get G V R h1)
      rw [ce_congr (V := V) (R := R) (fun i => by unfold mnV; rw [if_neg (by omega)]) (fun i => by unfold mnR; rw [if_neg (by omega), if_neg (by omega)])]
      exact h2
    · by_cases h2 : k9 = nx
      · subst h2
        rw [ce_6 hl]
        show F.heap[gB G + k9]? = some (vp_cell (gY G 6) (n.toNat, .inr (.inr (.inr (.inr _)))))
        rw [← hsz, f2, mn_out, vp_cell_q]
        refine congrArg some (congrArg (arrV (gY G 6) n.toNat) (funext fun j => ?_))
        unfold mnR
        rw [if_pos rfl]
        by_cases h3 : j < n.toNat
        · have z : k9 + 1 + j < 1000 := by
            by_cases z : k9 + 1 + j < 1000
            · exact z
            · have := hli j h3
              rw [show lay (k9 + 1 + j) = (9, 0) from by unfold lay; rw [List.getD_eq_getElem?_getD, List.getElem?_eq_none (by have : layL.length = 162 := rfl; omega)]; rfl] at this
              cases this
          rw [if_pos h3, if_pos h3, Option.map_some, ad_lo z, hsz, Nat.add_assoc (gB G), Nat.add_assoc (gB G)]
        · rw [if_neg h3, if_neg h3]; rfl
      · have h3 := hli (k9 - nx - 1) (by omega)
        rw [show nx + 1 + (k9 - nx - 1) = k9 by omega] at h3
        rw [ce_1 h3]
        show F.heap[gB G + k9]? = some (vp_cell (gY G 1) (k.toNat, .inl _))
        have h4 := hrow (k9 - nx - 1) (by omega)
        rw [show H.size + 1 + (k9 - nx - 1) = gB G + k9 by omega] at h4
        rw [h4]
        refine congrArg some (congrArg (vp_cell (gY G 1)) (congrArg (Prod.mk k.toNat) (congrArg Sum.inl (funext fun j => ?_))))
        unfold mnV
        rw [if_pos (by omega)]
        rfl
  have hSn : va_S (aA G) s.heap F.heap locs := ⟨Nat.le_trans hS.1 (by rw [f1]; omega), fun x h1 h2 => (hold x (Nat.lt_of_lt_of_le h1 hS.1)).trans (hS.2.1 x h1 h2), hS.2.2⟩
  have kk := kk p e s m args below meth c F.heap locs lr C hWn hSn hl'
  rw [show nx + 1 + n.toNat - n0 = nx - n0 + 1 + n.toNat by omega, show sl (nx + 1 + n.toNat) - sl n0 = sl nx - sl n0 + n.toNat + n.toNat * k.toNat by omega] at kk
  obtain ⟨t, a1, b1⟩ := kk F rfl X1
  refine ⟨t, step t ?_, b1⟩
  rw [hT, hsz, ← had]
  exact a1
end TMNA
