/-! fields and arrays -/
theorem HW.put {G : GG} {nx k : Nat} {V V' : VV} {R R' : RR} {e : va_E} {H1 : Heap} (hk : k < nx) (he : ce G V' R' k = e) (ho : ∀ j, j ≠ k → ce G V' R' j = ce G V R j) (hP : va_P (gD G) vwCl ((wl G nx V R).set k (gB G + k, e)) H1) : HW G nx V' R' H1 := by
  rw [wl_set hk he ho] at hP
  exact hP
theorem lay_lt {k : Nat} {q : Nat × Nat} (h : lay k = q) (hq : q.1 ≠ 9) : k < 162 := by
  rcases Nat.lt_or_ge k 162 with g | g
  · exact g
  · exfalso
    apply hq
    rw [← h]
    unfold lay
    rw [List.getD_eq_getElem?_getD, List.getElem?_eq_none (show 162 ≤ k from g)]
    rfl
theorem lay_n {k c n : Nat} (h : lay k = (c, n)) : n < 2147483648 := by
  rcases Nat.lt_or_ge k 162 with g | g
  · have key : ∀ k, k < 162 → (lay k).2 < 2147483648 := by decide +kernel
    have := key k g
    rw [h] at this
    exact this
  · unfold lay at h
    rw [List.getD_eq_getElem?_getD, List.getElem?_eq_none (show 162 ≤ k from g)] at h
    cases h
    decide
theorem fs_get {G : GG} {V : VV} {R : RR} {a ci k : Nat} (h : k < nfc ci) : ((List.range (nfc ci)).map (fv G V R a ci))[k]? = some (fv G V R a ci k) := by simp [h]
theorem fs_set {G : GG} {V V' : VV} {R R' : RR} {a ci k : Nat} {v : Value} (hk : k < nfc ci) (hv : fv G V' R' a ci k = v) (ho : ∀ j, j ≠ k → fv G V' R' a ci j = fv G V R a ci j) : (List.range (nfc ci)).map (fv G V' R' a ci) = ((List.range (nfc ci)).map (fv G V R a ci)).set k v := by
  apply List.ext_getElem?
  intro j
  by_cases hj : j = k
  · subst hj
    rw [List.getElem?_set_self (by simpa using hk), fs_get hk, hv]
  · rw [List.getElem?_set_ne (Ne.symm hj)]
    by_cases hn : j < nfc ci
    · rw [fs_get hn, fs_get hn, ho j hj]
    · rw [List.getElem?_eq_none (by simpa using Nat.not_lt.mp hn), List.getElem?_eq_none (by simpa using Nat.not_lt.mp hn)]
theorem fv_uV {G : GG} {V : VV} {R : RR} {a ci k j : Nat} {x : Int} (h : j ≠ k) : fv G (uV V a k x) R a ci j = fv G V R a ci j := by
  unfold fv
  rw [uV_ne (fun q => h q.2)]
theorem fv_uR {G : GG} {V : VV} {R : RR} {a ci k j : Nat} {x : Option Nat} (h : j ≠ k) : fv G V (uR R a k x) a ci j = fv G V R a ci j := by
  unfold fv
  rw [uR_ne (fun q => h q.2)]
theorem fv_i {G : GG} {V : VV} {R : RR} {a ci k : Nat} (h : ftc ci k = 0 ∨ ftc ci k = 3) : fv G V R a ci k = .int (Int32.ofInt (V a k)) := by
  unfold fv
  rcases h with h | h <;> rw [h] <;> rfl
theorem fv_j {G : GG} {V : VV} {R : RR} {a ci k : Nat} (h : ftc ci k = 1) : fv G V R a ci k = .long (Int64.ofInt (V a k)) := by
  unfold fv
  rw [h]
  rfl
theorem fv_r {G : GG} {V : VV} {R : RR} {a ci k : Nat} (h : ftc ci k = 2) : fv G V R a ci k = va_rf ((R a k).map (ad G)) := by
  unfold fv
  rw [h]
  rfl
/-- the tables' words of the fields -/
def uwsOk : Prop := ∀ (ci : Nat) (q : vw_C), vwCl[ci]? = some q → (∀ w ∈ u_ws q.1 q.2.1 q.2.2, w ∈ WL) ∧ ∃ ty0 : Nat → FieldType, (∀ k, k < q.2.2 → parseFieldDescriptor (q.2.1 k).2.2.1 = some (ty0 k)) ∧ ∀ a, a < q.2.2 → ∀ b, b < q.2.2 → a ≠ b → (q.2.1 a).2.1 ≠ (q.2.1 b).2.1
def dG (M : Mth) (pc ci k cd pn : Nat) : Prop := ∃ (i : Nat) (q : vw_C), decode M.2.1 pc = .ok (.getfield i, 3) ∧ pc + 3 = pn ∧ vwCl[ci]? = some q ∧ q.2.2 = nfc ci ∧ k < nfc ci ∧ ftc ci k = cd ∧ Cond.fieldLink M.2.2.2.2 i (q.2.1 k).1 (q.2.1 k).2.1 (q.2.1 k).2.2.1 ∈ WL
def dP (M : Mth) (pc ci k cd : Nat) (ty : FieldType) (fin : Bool) (pn : Nat) : Prop := ∃ (i : Nat) (q : vw_C), decode M.2.1 pc = .ok (.putfield i, 3) ∧ pc + 3 = pn ∧ vwCl[ci]? = some q ∧ q.2.2 = nfc ci ∧ k < nfc ci ∧ ftc ci k = cd ∧ Cond.fieldLink M.2.2.2.2 i (q.2.1 k).1 (q.2.1 k).2.1 (q.2.1 k).2.2.1 ∈ WL ∧ parseFieldDescriptor (q.2.1 k).2.2.1 = some ty ∧ (q.2.1 k).2.2.2 = fin ∧ (fin = true → M.1.name = "<init>" ∧ (q.2.1 k).1 = M.2.2.2.2)
section TMEM
variable {G : GG} {M : Mth} {Rm : Room} {n0 nx pc pn : Nat} {Z : List Frame → Array Value → State → State → Prop} {ls ls' : List (Nat × AV)} {st : List AV} {V : VV} {R : RR}
theorem dG.row (hu : uwsOk) {a ci k cd : Nat} {v : AV} (h : dG M pc ci k cd pn) (hl : lay a = (0, ci)) (ha : a < nx) (hv : fv G V R a ci k = cv G v) (k : TT G M Rm n0 Z nx pn ls (v :: st) V R) : TT G M Rm n0 Z nx pc ls (vr a :: st) V R := by
  intro p e s m args below meth c H locs lr C hW hS hl'
  obtain ⟨i, q, hd, rfl, hq, hn, hk, -, hw⟩ := h
  obtain ⟨C1, T1, N1⟩ := q
  have hn : N1 = nfc ci := hn
  have k := k p e s m args below meth c H locs lr C hW hS hl'
  have hw1 := wl_get G V R ha
  rw [ce_0 hl] at hw1
  have had : ad G a = gB G + a := ad_lo (by have := lay_lt hl (by simp); omega)
  have k2 : W p (gL G) e Rm s m args below meth c H locs (nx - n0) (sl nx - sl n0) (Z below args s) (F0 m pc lr (.ref (gB G + a) :: st.map (cv G))) := va_get (D := gD G) (ci := ci) (C := C1) (T := T1) (N := N1) C.1 C.2.1 C.2.2.2.2.2.1 (hu ci _ hq).1 C.2.2.2.2.1 C.2.2.2.2.2.2.2.2.1.1 hW a hw1 hq _ (by rw [hn]; exact hk) (C.2.2.2.2.2.1 _ hw) (fun _ h => h) (by rw [fs_get hk, hv]) hd k
  rw [← had] at k2
  exact k2
theorem dP.row (hu : uwsOk) {a ci k cd : Nat} {ty : FieldType} {fin : Bool} {v : AV} {V' : VV} {R' : RR} (h : dP M pc ci k cd ty fin pn) (hl : lay a = (0, ci)) (ha : a < nx) (hnar : narrow ty (cv G v) = cv G v) (hfit : fits ty (cv G v) = true) (he : ce G V' R' a = .inr (ci, ((List.range (nfc ci)).map (fv G V R a ci)).set k (cv G v))) (ho : ∀ j, j ≠ a → ce G V' R' j = ce G V R j) (kk : TT G M Rm n0 Z nx pn ls st V' R') : TT G M Rm n0 Z nx pc ls (v :: vr a :: st) V R := by
  intro p e s m args below meth c H locs lr C hW hS hl'
  obtain ⟨i, q, hd, rfl, hq, hn, hk, -, hw, hty, hfin, hini⟩ := h
  obtain ⟨C1, T1, N1⟩ := q
  have hn : N1 = nfc ci := hn
  obtain ⟨hu1, ty0, hu2, hu3⟩ := hu ci _ hq
  have hw1 := wl_get G V R ha
  rw [ce_0 hl] at hw1
  have had : ad G a = gB G + a := ad_lo (by have := lay_lt hl (by simp); omega)
  have k2 : W p (gL G) e Rm s m args below meth c H locs (nx - n0) (sl nx - sl n0) (Z below args s) (F0 m pc lr (cv G v :: .ref (gB G + a) :: st.map (cv G))) := by
    cases fin with
    | false => exact va_put (D := gD G) (A := aA G) (ci := ci) (C := C1) (T := T1) (N := N1) C.1 C.2.1 C.2.2.2.2.2.1 hu1 ty0 hu2 hu3 C.2.2.2.2.1 C.2.2.2.2.2.2.2.2.1.1 hW (wl_D G nx V R) hS a hw1 hq _ (by rw [hn]; exact hk) (C.2.2.2.2.2.1 _ hw) (fun _ h => h) hfin hty hnar hfit (by simpa using hk) hd (fun H1 locs1 hP1 _ hS1 => kk p e s m args below meth c H1 locs1 lr C (HW.put ha he ho hP1) hS1 hl')
    | true => exact va_putF (D := gD G) (A := aA G) (ci := ci) (C := C1) (T := T1) (N := N1) C.1 C.2.1 C.2.2.2.2.2.1 hu1 ty0 hu2 hu3 C.2.2.2.2.1 C.2.2.2.2.2.2.2.2.1.1 hW (wl_D G nx V R) hS a hw1 hq _ (by rw [hn]; exact hk) (C.2.2.2.2.2.1 _ hw) (fun _ h => h) hfin (C.2.2.2.2.2.2.2.1 (hini rfl).1) (hini rfl).2 hty hnar hfit (by simpa using hk) hd (fun H1 locs1 hP1 _ hS1 => kk p e s m args below meth c H1 locs1 lr C (HW.put ha he ho hP1) hS1 hl')
  rw [← had] at k2
  exact k2
theorem T_gi (hu : uwsOk) {a ci k cd : Nat} (h : dG M pc ci k cd pn) (hc : cd = 0 ∨ cd = 3) (hl : lay a = (0, ci)) (ha : a < nx) (kk : TT G M Rm n0 Z nx pn ls (vi (V a k) :: st) V R) : TT G M Rm n0 Z nx pc ls (vr a :: st) V R := by
  refine dG.row hu h hl ha ?_ kk
  obtain ⟨_, _, _, _, _, _, _, h1, _⟩ := h
  exact fv_i (by rw [h1]; exact hc)
theorem T_gj (hu : uwsOk) {a ci k : Nat} (h : dG M pc ci k 1 pn) (hl : lay a = (0, ci)) (ha : a < nx) (kk : TT G M Rm n0 Z nx pn ls (vj (V a k) :: st) V R) : TT G M Rm n0 Z nx pc ls (vr a :: st) V R := by
  refine dG.row hu h hl ha ?_ kk
  obtain ⟨_, _, _, _, _, _, _, h1, _⟩ := h
  exact fv_j h1
theorem T_gq (hu : uwsOk) {a ci k : Nat} (h : dG M pc ci k 2 pn) (hl : lay a = (0, ci)) (ha : a < nx) (kk : TT G M Rm n0 Z nx pn ls (vq (R a k) :: st) V R) : TT G M Rm n0 Z nx pc ls (vr a :: st) V R := by
  refine dG.row hu h hl ha ?_ kk
  obtain ⟨_, _, _, _, _, _, _, h1, _⟩ := h
  rw [cv_q]
  exact fv_r h1
theorem T_gr (hu : uwsOk) {a ci k b : Nat} (h : dG M pc ci k 2 pn) (hl : lay a = (0, ci)) (ha : a < nx) (hb : R a k = some b) (kk : TT G M Rm n0 Z nx pn ls (vr b :: st) V R) : TT G M Rm n0 Z nx pc ls (vr a :: st) V R := T_gq hu h hl ha (by rw [hb]; exact kk)
theorem T_pi (hu : uwsOk) {a ci k : Nat} {x : Int} {fin : Bool} (h : dP M pc ci k 0 .int fin pn) (hl : lay a = (0, ci)) (ha : a < nx) (kk : TT G M Rm n0 Z nx pn ls st (uV V a k x) R) : TT G M Rm n0 Z nx pc ls (vi x :: vr a :: st) V R := by
  obtain ⟨_, _, _, _, _, _, h2, h1, _⟩ := id h
  refine dP.row hu h hl ha rfl rfl ?_ (fun j hj => ce_uV hj) kk
  rw [ce_0 hl, fs_set h2 (v := cv G (vi x)) (by rw [fv_i (Or.inl h1), uV_self]; rfl) (fun j hj => fv_uV hj)]
theorem T_pz (hu : uwsOk) {a ci k : Nat} {x : Int} {fin : Bool} (h : dP M pc ci k 3 .boolean fin pn) (hl : lay a = (0, ci)) (ha : a < nx) (hx : x = 0 ∨ x = 1) (kk : TT G M Rm n0 Z nx pn ls st (uV V a k x) R) : TT G M Rm n0 Z nx pc ls (vi x :: vr a :: st) V R := by
  obtain ⟨_, _, _, _, _, _, h2, h1, _⟩ := id h
  refine dP.row hu h hl ha (by rcases hx with rfl | rfl <;> rfl) (by rcases hx with rfl | rfl <;> rfl) ?_ (fun j hj => ce_uV hj) kk
  rw [ce_0 hl, fs_set h2 (v := cv G (vi x)) (by rw [fv_i (Or.inr h1), uV_self]; rfl) (fun j hj => fv_uV hj)]
theorem T_pj (hu : uwsOk) {a ci k : Nat} {x : Int} {fin : Bool} (h : dP M pc ci k 1 .long fin pn) (hl : lay a = (0, ci)) (ha : a < nx) (kk : TT G M Rm n0 Z nx pn ls st (uV V a k x) R) : TT G M Rm n0 Z nx pc ls (vj x :: vr a :: st) V R := by
  obtain ⟨_, _, _, _, _, _, h2, h1, _⟩ := id h
  refine dP.row hu h hl ha rfl rfl ?_ (fun j hj => ce_uV hj) kk
  rw [ce_0 hl, fs_set h2 (v := cv G (vj x)) (by rw [fv_j h1, uV_self]; rfl) (fun j hj => fv_uV hj)]
theorem T_pq (hu : uwsOk) {a ci k : Nat} {x : Option Nat} {ty : FieldType} {fin : Bool} (h : dP M pc ci k 2 ty fin pn) (ht : ∀ v : Option Nat, narrow ty (va_rf v) = va_rf v ∧ fits ty (va_rf v) = true) (hl : lay a = (0, ci)) (ha : a < nx) (kk : TT G M Rm n0 Z nx pn ls st V (uR R a k x)) : TT G M Rm n0 Z nx pc ls (vq x :: vr a :: st) V R := by
  obtain ⟨_, _, _, _, _, _, h2, h1, _⟩ := id h
  refine dP.row hu h hl ha (by rw [cv_q]; exact (ht _).1) (by rw [cv_q]; exact (ht _).2) ?_ (fun j hj => ce_uR hj) kk
  rw [ce_0 hl, fs_set h2 (v := cv G (vq x)) (by rw [fv_r h1, uR_self, cv_q]) (fun j hj => fv_uR hj)]
end TMEM
