/-! ledgers on both sides -/
def lgH (V : VV) : Prop := V 2 2 = V 99 2 ∧ ∀ i : Nat, i < (V 99 2).toNat → V 3 (i * 5) = V 100 i ∧ V 3 (i * 5 + 1) = V 101 i ∧ V 3 (i * 5 + 2) = V 102 i ∧ V 3 (i * 5 + 3) = V 103 i ∧ V 3 (i * 5 + 4) = V 104 i ∧ V 14 i = V 105 i
theorem lgH_k {V Y : VV} (h : lgH V) (et : Y 2 2 = V 2 2) (ef : Y 99 2 = V 99 2) (e3 : Y 3 = V 3) (e14 : Y 14 = V 14) (e100 : Y 100 = V 100) (e101 : Y 101 = V 101) (e102 : Y 102 = V 102) (e103 : Y 103 = V 103) (e104 : Y 104 = V 104) (e105 : Y 105 = V 105) : lgH Y := by
  unfold lgH
  rw [et, ef, e3, e14, e100, e101, e102, e103, e104, e105]
  exact h
def lgR (V : VV) : Prop := V 4 2 = V 99 3 ∧ ∀ i : Nat, i < (V 99 3).toNat → V 5 (i * 5) = V 106 i ∧ V 5 (i * 5 + 1) = V 107 i ∧ V 5 (i * 5 + 4) = V 108 i
theorem lgR_k {V Y : VV} (h : lgR V) (et : Y 4 2 = V 4 2) (ef : Y 99 3 = V 99 3) (e5 : Y 5 = V 5) (e106 : Y 106 = V 106) (e107 : Y 107 = V 107) (e108 : Y 108 = V 108) : lgR Y := by
  unfold lgR
  rw [et, ef, e5, e106, e107, e108]
  exact h
def lgT (V : VV) : Prop := V 6 2 = V 99 4 ∧ ∀ i : Nat, i < (V 99 4).toNat → V 7 (i * 5) = V 109 (4 * i) ∧ V 7 (i * 5 + 1) = V 109 (4 * i + 1) ∧ V 7 (i * 5 + 2) = V 109 (4 * i + 2) ∧ V 7 (i * 5 + 3) = V 109 (4 * i + 3) ∧ V 7 (i * 5 + 4) = V 110 i
theorem lgT_k {V Y : VV} (h : lgT V) (et : Y 6 2 = V 6 2) (ef : Y 99 4 = V 99 4) (e7 : Y 7 = V 7) (e109 : Y 109 = V 109) (e110 : Y 110 = V 110) : lgT Y := by
  unfold lgT
  rw [et, ef, e7, e109, e110]
  exact h
def lgP (V : VV) : Prop := V 8 2 = V 99 5 ∧ ∀ i : Nat, i < (V 99 5).toNat → V 9 (i * 5) = V 111 (4 * i) ∧ V 9 (i * 5 + 1) = V 111 (4 * i + 1) ∧ V 9 (i * 5 + 2) = V 111 (4 * i + 2) ∧ V 9 (i * 5 + 3) = V 111 (4 * i + 3) ∧ V 9 (i * 5 + 4) = V 112 i
theorem lgP_k {V Y : VV} (h : lgP V) (et : Y 8 2 = V 8 2) (ef : Y 99 5 = V 99 5) (e9 : Y 9 = V 9) (e111 : Y 111 = V 111) (e112 : Y 112 = V 112) : lgP Y := by
  unfold lgP
  rw [et, ef, e9, e111, e112]
  exact h
def lgC (V : VV) : Prop := V 10 2 = V 99 6 ∧ ∀ i : Nat, i < (V 99 6).toNat → V 11 (i * 5) = V 113 i ∧ V 11 (i * 5 + 1) = V 114 i ∧ V 11 (i * 5 + 4) = V 115 i
theorem lgC_k {V Y : VV} (h : lgC V) (et : Y 10 2 = V 10 2) (ef : Y 99 6 = V 99 6) (e11 : Y 11 = V 11) (e113 : Y 113 = V 113) (e114 : Y 114 = V 114) (e115 : Y 115 = V 115) : lgC Y := by
  unfold lgC
  rw [et, ef, e11, e113, e114, e115]
  exact h
def lgD (V : VV) : Prop := V 12 2 = V 99 7 ∧ ∀ i : Nat, i < (V 99 7).toNat → V 13 (i * 5) = V 116 i ∧ V 13 (i * 5 + 1) = V 117 i ∧ V 13 (i * 5 + 2) = V 118 i ∧ V 13 (i * 5 + 4) = V 119 i
theorem lgD_k {V Y : VV} (h : lgD V) (et : Y 12 2 = V 12 2) (ef : Y 99 7 = V 99 7) (e13 : Y 13 = V 13) (e116 : Y 116 = V 116) (e117 : Y 117 = V 117) (e118 : Y 118 = V 118) (e119 : Y 119 = V 119) : lgD Y := by
  unfold lgD
  rw [et, ef, e13, e116, e117, e118, e119]
  exact h
theorem bC_self {V : VV} (hB : Bd V) (h1 : lgH V) (h2 : lgR V) (h3 : lgT V) (h4 : lgP V) (h5 : lgC V) (h6 : lgD V) (he : V 1 8 = V 99 8) : bC V V := by
  have m := bM_self hB
  exact ⟨h1.1.trans m.n, he, h2.1.trans m.rn, h3.1.trans m.tn, h4.1.trans m.pn, h5.1.trans m.cn, h6.1.trans m.dn, h1.2, h2.2, h3.2, h4.2, h5.2, h6.2⟩
theorem c_of {b : Bk} {V : VV} (c : bC b V) (m : bM b V) : lgH V ∧ lgR V ∧ lgT V ∧ lgP V ∧ lgC V ∧ lgD V ∧ V 1 8 = V 99 8 := by
  refine ⟨⟨c.n.trans m.n.symm, ?_⟩, ⟨c.rn.trans m.rn.symm, ?_⟩, ⟨c.tn.trans m.tn.symm, ?_⟩, ⟨c.pn.trans m.pn.symm, ?_⟩, ⟨c.cn.trans m.cn.symm, ?_⟩, ⟨c.dn.trans m.dn.symm, ?_⟩, c.e.trans m.e.symm⟩
  · rw [m.n, m.dg, m.hx, m.hy, m.dp, m.kn, m.st, Int.toNat_natCast]; exact c.h
  · rw [m.rn, m.rO, m.rD, m.rK, Int.toNat_natCast]; exact c.r
  · rw [m.tn, m.tr, m.tk, Int.toNat_natCast]; exact c.t
  · rw [m.pn, m.pl, m.pd, Int.toNat_natCast]; exact c.p
  · rw [m.cn, m.cL, m.cE, m.cK, Int.toNat_natCast]; exact c.c
  · rw [m.dn, m.dO, m.dF, m.dT, m.dK, Int.toNat_natCast]; exact c.d
theorem nw_of {b : Bk} {V : VV} (m : bM b V) (h : nwO b (V 15)) : nwO V (V 15) := by
  obtain ⟨h1, h2, h3, h4, h5, h6⟩ := h
  refine ⟨?_, ?_, ?_, ?_, ?_, ?_⟩
  · show ∀ h, V 104 h = 0 ∨ V 15 (V 104 h).toNat = 1; rw [m.kn]; exact h1
  · show ∀ h, V 105 h = 0 ∨ V 105 h = 401 ∨ V 15 (V 105 h).toNat = 1; rw [m.st]; exact h2
  · show ∀ h, V 108 h = 0 ∨ V 15 (V 108 h).toNat = 1; rw [m.rK]; exact h3
  · show ∀ h, V 110 h = 0 ∨ V 15 (V 110 h).toNat = 1; rw [m.tk]; exact h4
  · show ∀ h, V 115 h = 0 ∨ V 15 (V 115 h).toNat = 1; rw [m.cK]; exact h5
  · show ∀ h, V 119 h = 0 ∨ V 15 (V 119 h).toNat = 1; rw [m.dK]; exact h6
theorem bW_of {b : Bk} {V : VV} (hB : Bd V) (m : bM b V) (h : bW b) : (∀ t : Nat, t < (V 99 6).toNat → V 113 t < V 99 2 ∧ V 114 t < V 99 2) ∧ ∀ t : Nat, t < (V 99 7).toNat → V 116 t < V 99 2 := by
  rw [m.cn, m.dn, m.n, m.cL, m.cE, m.dO, Int.toNat_natCast, Int.toNat_natCast]
  exact h
theorem bW_self {V : VV} (hB : Bd V) (h : (∀ t : Nat, t < (V 99 6).toNat → V 113 t < V 99 2 ∧ V 114 t < V 99 2) ∧ ∀ t : Nat, t < (V 99 7).toNat → V 116 t < V 99 2) : bW V := by
  have e : ((((V 99 2).toNat : Nat)) : Int) = V 99 2 := Int.toNat_of_nonneg (hB.2 99 11 2 0 40 rfl rfl).1
  refine ⟨fun t ht => ?_, fun t ht => ?_⟩
  · show V 113 t < (((V 99 2).toNat : Nat) : Int) ∧ V 114 t < (((V 99 2).toNat : Nat) : Int)
    rw [e]; exact h.1 t ht
  · show V 116 t < (((V 99 2).toNat : Nat) : Int)
    rw [e]; exact h.2 t ht
theorem lgH_a {V W Y : VV} {n : Nat} {x1 x2 x3 x4 x5 : Int} (h : lgH V) (hn : V 2 2 = (n : Int)) (eW : W 3 = V 3) (eT : W 2 2 = V 2 2) (ec : Y 3 = addV W 2 3 x1 x2 x3 x4 x5 3) (et : Y 2 2 = V 2 2 + 1) (ef : Y 99 2 = V 99 2 + 1) (y100 : ∀ j : Nat, Y 100 j = if j = n then x1 else V 100 j) (y101 : ∀ j : Nat, Y 101 j = if j = n then x2 else V 101 j) (y102 : ∀ j : Nat, Y 102 j = if j = n then x3 else V 102 j) (y103 : ∀ j : Nat, Y 103 j = if j = n then x4 else V 103 j) (y104 : ∀ j : Nat, Y 104 j = if j = n then x5 else V 104 j) (y105 : ∀ j : Nat, Y 105 j = if j = n then 401 else V 105 j) (y14 : ∀ j : Nat, Y 14 j = if j = n then 401 else V 14 j) : lgH Y := by
  refine ⟨by rw [et, ef, h.1], fun i hi => ?_⟩
  have hf : V 99 2 = (n : Int) := h.1.symm.trans hn
  rw [ef, hf] at hi
  have ad := adv_c (V := W) (t := 2) (c := 3) (n := n) (i := i) (x1 := x1) (x2 := x2) (x3 := x3) (x4 := x4) (x5 := x5) (eT.trans hn) (by decide) (by omega)
  rw [eW] at ad
  rw [ec, ad.1, ad.2.1, ad.2.2.1, ad.2.2.2.1, ad.2.2.2.2]
  rw [y100, y101, y102, y103, y104, y105, y14]
  by_cases q : i = n
  · subst q
    refine ⟨?_, ?_, ?_, ?_, ?_, ?_⟩ <;> (repeat' split) <;> first | rfl | omega
  · have hh := h.2 i (by rw [hf]; omega)
    rw [if_neg q, if_neg q, if_neg q, if_neg q, if_neg q, if_neg q, if_neg q, if_neg q, if_neg q, if_neg q, if_neg q, if_neg q]
    exact hh
theorem lgR_a {V W Y : VV} {n : Nat} {x1 x2 x3 x4 x5 : Int} (h : lgR V) (hn : V 4 2 = (n : Int)) (eW : W 5 = V 5) (eT : W 4 2 = V 4 2) (ec : Y 5 = addV W 4 5 x1 x2 x3 x4 x5 5) (et : Y 4 2 = V 4 2 + 1) (ef : Y 99 3 = V 99 3 + 1) (y106 : ∀ j : Nat, Y 106 j = if j = n then x1 else V 106 j) (y107 : ∀ j : Nat, Y 107 j = if j = n then x2 else V 107 j) (y108 : ∀ j : Nat, Y 108 j = if j = n then x5 else V 108 j) : lgR Y := by
  refine ⟨by rw [et, ef, h.1], fun i hi => ?_⟩
  have hf : V 99 3 = (n : Int) := h.1.symm.trans hn
  rw [ef, hf] at hi
  have ad := adv_c (V := W) (t := 4) (c := 5) (n := n) (i := i) (x1 := x1) (x2 := x2) (x3 := x3) (x4 := x4) (x5 := x5) (eT.trans hn) (by decide) (by omega)
  rw [eW] at ad
  rw [ec, ad.1, ad.2.1, ad.2.2.2.2]
  rw [y106, y107, y108]
  by_cases q : i = n
  · subst q
    refine ⟨?_, ?_, ?_⟩ <;> (repeat' split) <;> first | rfl | omega
  · have hh := h.2 i (by rw [hf]; omega)
    rw [if_neg q, if_neg q, if_neg q, if_neg q, if_neg q, if_neg q]
    exact hh
theorem lgT_a {V W Y : VV} {n : Nat} {x1 x2 x3 x4 x5 : Int} (h : lgT V) (hn : V 6 2 = (n : Int)) (eW : W 7 = V 7) (eT : W 6 2 = V 6 2) (ec : Y 7 = addV W 6 7 x1 x2 x3 x4 x5 7) (et : Y 6 2 = V 6 2 + 1) (ef : Y 99 4 = V 99 4 + 1) (y109 : ∀ j : Nat, Y 109 j = if j = 4 * n + 3 then x4 else if j = 4 * n + 2 then x3 else if j = 4 * n + 1 then x2 else if j = 4 * n then x1 else V 109 j) (y110 : ∀ j : Nat, Y 110 j = if j = n then x5 else V 110 j) : lgT Y := by
  refine ⟨by rw [et, ef, h.1], fun i hi => ?_⟩
  have hf : V 99 4 = (n : Int) := h.1.symm.trans hn
  rw [ef, hf] at hi
  have ad := adv_c (V := W) (t := 6) (c := 7) (n := n) (i := i) (x1 := x1) (x2 := x2) (x3 := x3) (x4 := x4) (x5 := x5) (eT.trans hn) (by decide) (by omega)
  rw [eW] at ad
  rw [ec, ad.1, ad.2.1, ad.2.2.1, ad.2.2.2.1, ad.2.2.2.2]
  rw [y109, y109, y109, y109, y110]
  by_cases q : i = n
  · subst q
    refine ⟨?_, ?_, ?_, ?_, ?_⟩ <;> (repeat' split) <;> first | rfl | omega
  · have hh := h.2 i (by rw [hf]; omega)
    refine ⟨?_, ?_, ?_, ?_, ?_⟩ <;> (repeat' split) <;> first | omega | exact hh.1 | exact hh.2.1 | exact hh.2.2.1 | exact hh.2.2.2.1 | exact hh.2.2.2.2
theorem lgP_a {V W Y : VV} {n : Nat} {x1 x2 x3 x4 x5 : Int} (h : lgP V) (hn : V 8 2 = (n : Int)) (eW : W 9 = V 9) (eT : W 8 2 = V 8 2) (ec : Y 9 = addV W 8 9 x1 x2 x3 x4 x5 9) (et : Y 8 2 = V 8 2 + 1) (ef : Y 99 5 = V 99 5 + 1) (y111 : ∀ j : Nat, Y 111 j = if j = 4 * n + 3 then x4 else if j = 4 * n + 2 then x3 else if j = 4 * n + 1 then x2 else if j = 4 * n then x1 else V 111 j) (y112 : ∀ j : Nat, Y 112 j = if j = n then x5 else V 112 j) : lgP Y := by
  refine ⟨by rw [et, ef, h.1], fun i hi => ?_⟩
  have hf : V 99 5 = (n : Int) := h.1.symm.trans hn
  rw [ef, hf] at hi
  have ad := adv_c (V := W) (t := 8) (c := 9) (n := n) (i := i) (x1 := x1) (x2 := x2) (x3 := x3) (x4 := x4) (x5 := x5) (eT.trans hn) (by decide) (by omega)
  rw [eW] at ad
  rw [ec, ad.1, ad.2.1, ad.2.2.1, ad.2.2.2.1, ad.2.2.2.2]
  rw [y111, y111, y111, y111, y112]
  by_cases q : i = n
  · subst q
    refine ⟨?_, ?_, ?_, ?_, ?_⟩ <;> (repeat' split) <;> first | rfl | omega
  · have hh := h.2 i (by rw [hf]; omega)
    refine ⟨?_, ?_, ?_, ?_, ?_⟩ <;> (repeat' split) <;> first | omega | exact hh.1 | exact hh.2.1 | exact hh.2.2.1 | exact hh.2.2.2.1 | exact hh.2.2.2.2
theorem lgC_a {V W Y : VV} {n : Nat} {x1 x2 x3 x4 x5 : Int} (h : lgC V) (hn : V 10 2 = (n : Int)) (eW : W 11 = V 11) (eT : W 10 2 = V 10 2) (ec : Y 11 = addV W 10 11 x1 x2 x3 x4 x5 11) (et : Y 10 2 = V 10 2 + 1) (ef : Y 99 6 = V 99 6 + 1) (y113 : ∀ j : Nat, Y 113 j = if j = n then x1 else V 113 j) (y114 : ∀ j : Nat, Y 114 j = if j = n then x2 else V 114 j) (y115 : ∀ j : Nat, Y 115 j = if j = n then x5 else V 115 j) : lgC Y := by
  refine ⟨by rw [et, ef, h.1], fun i hi => ?_⟩
  have hf : V 99 6 = (n : Int) := h.1.symm.trans hn
  rw [ef, hf] at hi
  have ad := adv_c (V := W) (t := 10) (c := 11) (n := n) (i := i) (x1 := x1) (x2 := x2) (x3 := x3) (x4 := x4) (x5 := x5) (eT.trans hn) (by decide) (by omega)
  rw [eW] at ad
  rw [ec, ad.1, ad.2.1, ad.2.2.2.2]
  rw [y113, y114, y115]
  by_cases q : i = n
  · subst q
    refine ⟨?_, ?_, ?_⟩ <;> (repeat' split) <;> first | rfl | omega
  · have hh := h.2 i (by rw [hf]; omega)
    rw [if_neg q, if_neg q, if_neg q, if_neg q, if_neg q, if_neg q]
    exact hh
theorem lgD_a {V W Y : VV} {n : Nat} {x1 x2 x3 x4 x5 : Int} (h : lgD V) (hn : V 12 2 = (n : Int)) (eW : W 13 = V 13) (eT : W 12 2 = V 12 2) (ec : Y 13 = addV W 12 13 x1 x2 x3 x4 x5 13) (et : Y 12 2 = V 12 2 + 1) (ef : Y 99 7 = V 99 7 + 1) (y116 : ∀ j : Nat, Y 116 j = if j = n then x1 else V 116 j) (y117 : ∀ j : Nat, Y 117 j = if j = n then x2 else V 117 j) (y118 : ∀ j : Nat, Y 118 j = if j = n then x3 else V 118 j) (y119 : ∀ j : Nat, Y 119 j = if j = n then x5 else V 119 j) : lgD Y := by
  refine ⟨by rw [et, ef, h.1], fun i hi => ?_⟩
  have hf : V 99 7 = (n : Int) := h.1.symm.trans hn
  rw [ef, hf] at hi
  have ad := adv_c (V := W) (t := 12) (c := 13) (n := n) (i := i) (x1 := x1) (x2 := x2) (x3 := x3) (x4 := x4) (x5 := x5) (eT.trans hn) (by decide) (by omega)
  rw [eW] at ad
  rw [ec, ad.1, ad.2.1, ad.2.2.1, ad.2.2.2.2]
  rw [y116, y117, y118, y119]
  by_cases q : i = n
  · subst q
    refine ⟨?_, ?_, ?_, ?_⟩ <;> (repeat' split) <;> first | rfl | omega
  · have hh := h.2 i (by rw [hf]; omega)
    rw [if_neg q, if_neg q, if_neg q, if_neg q, if_neg q, if_neg q, if_neg q, if_neg q]
    exact hh
