/-! System.arraycopy -/
section TCPY
variable {G : GG} {M : Mth} {Rm : Room} {n0 nx pc pn : Nat} {Z : List Frame → Array Value → State → State → Prop} {ls : List (Nat × AV)} {st : List AV} {V : VV} {R : RR}
theorem i32_c {x : Int} (h : 0 ≤ x ∧ x < 2147483647) : ¬ (Int32.ofInt x < 0) ∧ (Int32.ofInt x).toNatClampNeg = x.toNat := by
  obtain ⟨h1, h2⟩ := i32_in (x := x) (n := x.toNat + 1) ⟨h.1, by omega⟩ (by omega)
  exact ⟨fun z => h1 (Or.inl z), h2⟩
def dAC (M : Mth) (pc pn : Nat) : Prop := ∃ i, decode M.2.1 pc = .ok (.invokestatic i, 3) ∧ pc + 3 = pn ∧ Cond.methodLink M.2.2.2.2 i arraycopyName ∈ WL
def cpF (f g : Nat → Int) (sp dp n : Nat) : Nat → Int := fun k => if dp ≤ k ∧ k < dp + n then f (sp + (k - dp)) else g k
theorem nfw : nativeFrameWords "java/lang/System" "arraycopy" 5 ≤ 30 := by decide +kernel
theorem T_acx {a j N n1 : Nat} {sp dp n : Int} (h : dAC M pc pn) (hj : 1 ≤ j ∧ j < 5) (hN : sLen G j = N) (hl : lay a = (1, n1)) (ha : a < nx) (hsp : 0 ≤ sp ∧ sp + n ≤ N) (hdp : 0 ≤ dp ∧ dp + n ≤ n1) (hn : 0 ≤ n) (hN2 : N < 1000000) (hN3 : n1 < 1000000) (hst : wds st ≤ 8) (hf : 1 ≤ Rm.frames ∧ 60 ≤ Rm.locals) (k : TT G M Rm n0 Z nx pn ls st (cV V a (cpF (fun i => (sCon j).getD i 0) (V a) sp.toNat dp.toNat n.toNat)) R) : TT G M Rm n0 Z nx pc ls (vi n :: vi dp :: vr a :: vi sp :: vr (1000 + j) :: st) V R := by
  intro p e s m args below meth c H locs lr C hW hS hl'
  obtain ⟨i, hd, rfl, hw0⟩ := h
  have hn1 := lay_n hl
  obtain ⟨a1, a2⟩ := i32_c (x := sp) ⟨hsp.1, by omega⟩
  obtain ⟨b1, b2⟩ := i32_c (x := dp) ⟨hdp.1, by omega⟩
  obtain ⟨c1, c2⟩ := i32_c (x := n) ⟨hn, by omega⟩
  have hw := wl_get G V R ha
  have had := ad_of (G := G) hl (by decide)
  rw [ce_1 hl] at hw
  have hT := EV.t C.2.2.2.2.2.2.2.2.1 hj.1 hj.2
  have hN10 : N = 10 := by rw [← hN]; exact if_neg (by omega)
  have hnf := nfw
  show W p (gL G) e Rm s m args below meth c H locs _ _ (Z below args s) (F0 m pc lr (.int _ :: .int _ :: .ref (ad G a) :: .int _ :: .ref (ad G (1000 + j)) :: st.map (cv G)))
  rw [had, ad_hi]
  obtain ⟨scr, t1, t2, t3, t4, -, t5, t6⟩ := hT
  have ht : H[gS G j]? = some scr := by rw [hS.2.1 _ (Array.getElem?_eq_some_iff.mp t1).1 t6]; exact t1
  have hc1 : H[gB G + a]? = some (vp_cell (gY G 1) (n1, .inl (fun i => Int32.ofInt (V a i)))) := hW a _ hw
  obtain ⟨u1, k0, u2, m0, u3⟩ := t2
  obtain ⟨-, k1, v2, m1, v3⟩ := (C.2.2.2.2.2.2.2.2.1.1.2 0 _ rfl).1 n1 (fun j => .int (Int32.ofInt (V a j)))
  have nz : ∀ {x : Int}, 0 ≤ x ∧ x < 2147483647 → (Int32.ofInt x).toInt = x := fun h => t32 ⟨by omega, by omega⟩
  intro T hT X
  obtain ⟨vm', X', step⟩ := X.arraycopy C.1 C.2.2.2.2.1 (C.2.2.2.2.2.1 _ hw0) (C.2.2.2.2.2.1 _ w4_219) (C.2.2.2.2.2.1 _ w4_218) (C.2.2.2.2.2.1 _ w1_16) (src := gS G j) (dst := gB G + a) (cs := scr) (cd := vp_cell (gY G 1) (n1, .inl (fun i => Int32.ofInt (V a i)))) (srcPos := Int32.ofInt sp) (destPos := Int32.ofInt dp) (n := Int32.ofInt n) (by rw [hT]; exact ht) (by rw [hT]; exact hc1)
    u1 (fun _ h => by cases h) t3 (fun h => by cases h) u2 v2 u3 v3 (by simp [refKind]) a1 b1 c1
    (by rw [nz ⟨hsp.1, by omega⟩, nz ⟨hn, by omega⟩]; omega)
    (by rw [nz ⟨hdp.1, by omega⟩, nz ⟨hn, by omega⟩]; show ¬ _ > ((arrV (gY G 1) n1 (fun j => .int (Int32.ofInt (V a j)))).slots.size : Int); rw [arrV_size]; omega)
    (fun vm₁ _ i hi => by
      rw [c2] at hi
      rw [a2, Array.getD_eq_getD_getElem?, t5 _ (by omega)]
      exact ⟨rfl, trivial⟩)
    (g := F0 m pc lr (.int (Int32.ofInt n) :: .int (Int32.ofInt dp) :: .ref (gB G + a) :: .int (Int32.ofInt sp) :: .ref (gS G j) :: st.map (cv G))) rfl (by rw [C.2.2.2.1]; exact hl'.1) (rest := st.map (cv G)) rfl (by rw [C.2.1]; exact hd) hf.1 (by show 2 * 0 + _ + _ ≤ _; rw [wds_sum]; omega)
  have e1 : copied scr (vp_cell (gY G 1) (n1, .inl (fun i => Int32.ofInt (V a i)))) (Int32.ofInt sp) (Int32.ofInt dp) (Int32.ofInt n) = vp_cell (gY G 1) (n1, .inl (va_cpy (fun i => Int32.ofInt ((sCon j).getD i 0)) (fun i => Int32.ofInt (V a i)) sp.toNat dp.toNat n.toNat)) := by
    have z : copied scr (vp_cell (gY G 1) (n1, .inl (fun i => Int32.ofInt (V a i)))) (Int32.ofInt sp) (Int32.ofInt dp) (Int32.ofInt n) = vp_cell (gY G 1) (n1, .inl (va_cpy (fun i => Int32.ofInt ((sCon j).getD i 0)) (fun i => Int32.ofInt (V a i)) (Int32.ofInt sp).toNatClampNeg (Int32.ofInt dp).toNatClampNeg (Int32.ofInt n).toNatClampNeg)) := va_copiedX (fun z => .int z) scr (gY G 1) (fun i => Int32.ofInt ((sCon j).getD i 0)) (fun i => Int32.ofInt (V a i)) t5 (by rw [a2, c2]; omega)
    rw [a2, b2, c2] at z
    exact z
  rw [e1] at X' step
  generalize hce : vp_cell (gY G 1) (n1, .inl (va_cpy (fun i => Int32.ofInt ((sCon j).getD i 0)) (fun i => Int32.ofInt (V a i)) sp.toNat dp.toNat n.toNat)) = ce1 at X' step
  have hl2 : gB G + a < H.size := (Array.getElem?_eq_some_iff.mp hc1).1
  have hheap : ((T.setVm vm').setCell (gB G + a) ce1).heap = H.setIfInBounds (gB G + a) ce1 := by rw [← hT]; rfl
  have oq : ∀ q : Nat, q ≠ gB G + a → (H.setIfInBounds (gB G + a) ce1)[q]? = H[q]? := fun q hq => by simp [Array.getElem?_setIfInBounds, Ne.symm hq]
  have hP0 : va_P (gD G) vwCl ((wl G nx V R).set a (gB G + a, .inl (gY G 1, n1, .inl (va_cpy (fun i => Int32.ofInt ((sCon j).getD i 0)) (fun i => Int32.ofInt (V a i)) sp.toNat dp.toNat n.toNat)))) (H.setIfInBounds (gB G + a) ce1) := va_P.set hW (wl_D G nx V R) hw (show (H.setIfInBounds (gB G + a) ce1)[gB G + a]? = some (vp_cell _ _) by rw [hce]; simp [Array.getElem?_setIfInBounds, hl2]) oq
  have hP1 : HW G nx (cV V a (cpF (fun i => (sCon j).getD i 0) (V a) sp.toNat dp.toNat n.toNat)) R (H.setIfInBounds (gB G + a) ce1) := HW.put ha (by
    rw [ce_1 hl]
    congr 4
    funext q
    simp only [cV, cpF, va_cpy, if_true]
    split <;> rfl) (fun j hj => ce_cV hj) hP0
  obtain ⟨t, g1, g2⟩ := k p e s m args below meth c _ _ lr C hP1 ⟨by simp; exact hS.1, fun q g1 g2 => by
      rw [oq q (fun z => g2 (by rw [z]; exact Nat.le_add_right _ _))]
      exact hS.2.1 q g1 g2, fun q hq => by
      rcases List.mem_append.mp hq with h | h
      · exact hS.2.2 q h
      · obtain ⟨z, -, hz⟩ := List.mem_map.mp h
        rw [← hz]
        exact Nat.le_add_right _ _⟩ hl' _ hheap X'
  exact ⟨t, step t g1, g2⟩
theorem T_acc {a b n1 n2 : Nat} {sp dp n : Int} (h : dAC M pc pn) (hb : lay b = (1, n2)) (hb2 : b < nx) (hl : lay a = (1, n1)) (ha : a < nx) (hsp : 0 ≤ sp ∧ sp + n ≤ n2) (hdp : 0 ≤ dp ∧ dp + n ≤ n1) (hn : 0 ≤ n) (hN2 : n2 < 1000000) (hN3 : n1 < 1000000) (hst : wds st ≤ 8) (hf : 1 ≤ Rm.frames ∧ 60 ≤ Rm.locals) (k : TT G M Rm n0 Z nx pn ls st (cV V a (cpF (V b) (V a) sp.toNat dp.toNat n.toNat)) R) : TT G M Rm n0 Z nx pc ls (vi n :: vi dp :: vr a :: vi sp :: vr b :: st) V R := by
  intro p e s m args below meth c H locs lr C hW hS hl'
  obtain ⟨i, hd, rfl, hw0⟩ := h
  have hn1 := lay_n hl
  have hn2 := lay_n hb
  obtain ⟨a1, a2⟩ := i32_c (x := sp) ⟨hsp.1, by omega⟩
  obtain ⟨b1, b2⟩ := i32_c (x := dp) ⟨hdp.1, by omega⟩
  obtain ⟨c1, c2⟩ := i32_c (x := n) ⟨hn, by omega⟩
  have hw := wl_get G V R ha
  have hwb := wl_get G V R hb2
  have had := ad_of (G := G) hl (by decide)
  have hbd := ad_of (G := G) hb (by decide)
  rw [ce_1 hl] at hw
  rw [ce_1 hb] at hwb
  have hnf := nfw
  show W p (gL G) e Rm s m args below meth c H locs _ _ (Z below args s) (F0 m pc lr (.int _ :: .int _ :: .ref (ad G a) :: .int _ :: .ref (ad G b) :: st.map (cv G)))
  rw [had, hbd]
  refine va_copyi (A := aA G) (ty := .int) C.1 C.2.1 (C.2.2.2.1.trans hl'.1.symm) C.2.2.2.2.1 (C.2.2.2.2.2.1 _ hw0) (C.2.2.2.2.2.1 _ w4_219) (C.2.2.2.2.2.1 _ w4_218) (C.2.2.2.2.2.1 _ w1_16) C.2.2.2.2.2.2.2.2.1.1 hW (wl_D G nx V R) hS b a 0 0 hwb hw rfl rfl rfl a1 b1 c1 (by rw [a2, c2]; omega) (by rw [b2, c2]; omega) (fun _ _ => rfl) hf.1 (by rw [wds_sum]; omega) hd (fun H1 locs1 hP1 _ hS1 => k p e s m args below meth c H1 locs1 lr C (HW.put ha ?_ (fun j hj => ce_cV hj) hP1) hS1 hl')
  rw [ce_1 hl, a2, b2, c2]
  congr 4
  funext q
  simp only [cV, cpF, va_cpy, if_true]
  split <;> rfl
theorem Bd_cV {a n : Nat} {lo hi : Int} {F : Nat → Int} (hB : Bd V) (hl : lay a = (1, n)) (hb : arB a = some (lo, hi)) (hF : ∀ i, lo ≤ F i ∧ F i ≤ hi) : Bd (cV V a F) := by
  refine ⟨fun a' lo' hi' h i => ?_, fun a' ci k lo' hi' h h2 => ?_⟩
  · by_cases e : a' = a
    · subst e
      rw [hb] at h
      cases h
      simpa [cV] using hF i
    · simpa [cV, e] using hB.1 a' lo' hi' h i
  · by_cases e : a' = a
    · subst e
      rw [hl] at h
      cases h
    · simpa [cV, e] using hB.2 a' ci k lo' hi' h h2
theorem dAC_rk8 : dAC M_X4_readKind 8 11 := ⟨46, d_X4_readKind_8, rfl, w5_61⟩
theorem dAC_rk20 : dAC M_X4_readKind 20 23 := ⟨46, d_X4_readKind_20, rfl, w5_61⟩
theorem dAC_r86 : dAC M_X4_read 86 89 := ⟨46, d_X4_read_86, rfl, w5_61⟩
end TCPY
