/-! weeks that know the same -/
def sameW (b : Bk) (w k : Int) : Prop := (∀ h, b.kn h ≤ w ↔ b.kn h ≤ k) ∧ (∀ h, w < b.st h ↔ k < b.st h) ∧ (∀ i, b.rK i ≤ w ↔ b.rK i ≤ k) ∧ (∀ i, b.tk i ≤ w ↔ b.tk i ≤ k) ∧ (∀ i, b.cK i ≤ w ↔ b.cK i ≤ k) ∧ ∀ i, b.dK i ≤ w ↔ b.dK i ≤ k
section
variable {b : Bk} {w k : Int}
theorem sw_thr (h : sameW b w k) (g : Nat) : thr b w g ↔ thr b k g := by unfold thr; rw [h.1 g, h.2.1 g]
theorem sw_stk (h : sameW b w k) : stk b w = stk b k := by
  funext x y g
  unfold stk
  exact decide_eq_decide.mpr (by rw [sw_thr h g])
theorem sw_stks (h : sameW b w k) : stks b w = stks b k := by funext x y; unfold stks; rw [sw_stk h]
theorem sw_hitP (h : sameW b w k) : hitP b w = hitP b k := by
  funext t dx dy g
  unfold hitP
  rw [sw_stks h]
  congr 1
  exact decide_eq_decide.mpr (by rw [sw_thr h g])
theorem sw_hitN (h : sameW b w k) : hitN b w = hitN b k := by funext t dx dy; unfold hitN; rw [sw_hitP h]
theorem sw_KK (h : sameW b w k) : KK b w = KK b k := by funext c; unfold KK kq; rw [sw_hitN h]
theorem sw_dep (h : sameW b w k) : dep b w = dep b k := by
  funext g n
  induction n with
  | zero => rfl
  | succ n ih =>
    show (if b.rO n = (g : Int) ∧ b.rK n ≤ w then b.rD n else dep b w g n) = (if b.rO n = (g : Int) ∧ b.rK n ≤ k then b.rD n else dep b k g n)
    rw [ih]
    by_cases q : b.rO n = (g : Int) ∧ b.rK n ≤ w
    · rw [if_pos q, if_pos ⟨q.1, (h.2.2.1 n).mp q.2⟩]
    · rw [if_neg q, if_neg (fun z => q ⟨z.1, (h.2.2.1 n).mpr z.2⟩)]
theorem sw_depO (h : sameW b w k) : depO b w = depO b k := by funext g; unfold depO; rw [sw_dep h]
theorem sw_dug (h : sameW b w k) : dug b w = dug b k := by
  funext x y i
  unfold dug
  exact decide_eq_decide.mpr (by rw [h.2.2.2.1 i])
theorem sw_dugO (h : sameW b w k) : dugO b w = dugO b k := by funext x y; unfold dugO; rw [sw_dug h]
theorem sw_isSp (h : sameW b w k) : isSp b w = isSp b k := by
  funext c g
  unfold isSp
  rw [sw_stks h]
  congr 1
  exact decide_eq_decide.mpr (by rw [sw_thr h g])
theorem sw_nrF (h : sameW b w k) : nrF b w = nrF b k := by
  funext c g f
  unfold nrF
  exact decide_eq_decide.mpr (by rw [sw_thr h f])
theorem sw_owO (h : sameW b w k) : owO b w = owO b k := by
  funext c g
  unfold owO
  rw [sw_isSp h, sw_nrF h, sw_stks h]
  have e : (if thr b w g ∧ b.dg g = 1 ∧ stks b k (fdX b c g) (fdY b c g) = true then fstB (nrF b k c g) b.n else -1) = (if thr b k g ∧ b.dg g = 1 ∧ stks b k (fdX b c g) (fdY b c g) = true then fstB (nrF b k c g) b.n else -1) := by
    by_cases q : thr b w g ∧ b.dg g = 1 ∧ stks b k (fdX b c g) (fdY b c g) = true
    · rw [if_pos q, if_pos ⟨(sw_thr h g).mp q.1, q.2⟩]
    · rw [if_neg q, if_neg (fun z => q ⟨(sw_thr h g).mpr z.1, z.2⟩)]
  rw [e]
theorem sw_nSp (h : sameW b w k) : nSp b w = nSp b k := by funext c; unfold nSp; rw [sw_isSp h]
theorem sw_shO (h : sameW b w k) : shO b w = shO b k := by funext c i; unfold shO; rw [sw_isSp h]
theorem sw_mxD (h : sameW b w k) : mxD b w = mxD b k := by
  funext c g n
  induction n with
  | zero => rfl
  | succ n ih =>
    show (if owO b w c n = (g : Int) ∧ mxD b w c g n < depO b w n then depO b w n else mxD b w c g n) = (if owO b k c n = (g : Int) ∧ mxD b k c g n < depO b k n then depO b k n else mxD b k c g n)
    rw [ih, sw_owO h, sw_depO h]
theorem sw_fulO (h : sameW b w k) : fulO b w = fulO b k := by funext c g; unfold fulO; rw [sw_mxD h]
theorem sw_soO (h : sameW b w k) : soO b w = soO b k := by funext c g; unfold soO; rw [sw_owO h, sw_isSp h]
theorem sw_spS (h : sameW b w k) : spS b w = spS b k := by funext c; unfold spS; rw [sw_nSp h, sw_shO h, sw_fulO h]
theorem sw_stO (h : sameW b w k) : stO b w = stO b k := by funext S K x y; unfold stO; rw [sw_dugO h]
theorem sw_plO (h : sameW b w k) : plO b w = plO b k := by funext S K p q r i j; unfold plO; rw [sw_stO h]
theorem sw_hsO (h : sameW b w k) : hsO b w = hsO b k := by funext S K p q r n; unfold hsO; rw [sw_plO h]
theorem sw_hwB (h : sameW b w k) : hwB b w = hwB b k := by funext S K p q r n; unfold hwB; rw [sw_hsO h]
theorem sw_topF (h : sameW b w k) : topF b w = topF b k := by
  funext S K p q r lo n
  induction n with
  | zero => rfl
  | succ n ih =>
    show (if n + 1 < lo then 0 else if hwB b w S K p q r (n + 1) = true then n + 1 else topF b w S K p q r lo n) = (if n + 1 < lo then 0 else if hwB b k S K p q r (n + 1) = true then n + 1 else topF b k S K p q r lo n)
    rw [ih, sw_hwB h]
theorem sw_frO (h : sameW b w k) : frO b w = frO b k := by funext S K p q r; unfold frO; rw [sw_topF h]
theorem sw_stH (h : sameW b w k) : stH b w = stH b k := by funext S K p q r; unfold stH; rw [sw_hsO h, sw_frO h]
theorem sw_recO (h : sameW b w k) : recO b w = recO b k := by funext S Ks kd p q r f; unfold recO; rw [sw_frO h, sw_stH h]
theorem sw_stpG (h : sameW b w k) : stpG b w = stpG b k := by funext S Ks kd z st p q r; unfold stpG; rw [sw_frO h, sw_recO h]
theorem sw_goR (h : sameW b w k) : goR b w = goR b k := by
  funext S Ks kd z st p q n
  induction n with
  | zero => rfl
  | succ n ih =>
    show stpG b w S Ks kd z (goR b w S Ks kd z st p q n) p q n = stpG b k S Ks kd z (goR b k S Ks kd z st p q n) p q n
    rw [ih, sw_stpG h]
theorem sw_goQ (h : sameW b w k) : goQ b w = goQ b k := by
  funext S Ks kd z st p n
  induction n with
  | zero => rfl
  | succ n ih =>
    show goR b w S Ks kd z (goQ b w S Ks kd z st p n) p n S.m = goR b k S Ks kd z (goQ b k S Ks kd z st p n) p n S.m
    rw [ih, sw_goR h]
theorem sw_goP (h : sameW b w k) : goP b w = goP b k := by
  funext S Ks kd z st n
  induction n with
  | zero => rfl
  | succ n ih =>
    show goQ b w S Ks kd z (goP b w S Ks kd z st n) n S.m = goQ b k S Ks kd z (goP b k S Ks kd z st n) n S.m
    rw [ih, sw_goQ h]
theorem sw_allK (h : sameW b w k) : allK b w = allK b k := by
  funext S Ks n
  induction n with
  | zero => rfl
  | succ n ih =>
    show (goP b w S Ks n true (false, 0, (allK b w S Ks n).1, (allK b w S Ks n).2) S.m).2.2 = (goP b k S Ks n true (false, 0, (allK b k S Ks n).1, (allK b k S Ks n).2) S.m).2.2
    rw [ih, sw_goP h]
theorem sw_gvK (h : sameW b w k) : gvK b w = gvK b k := by funext S Ks n; unfold gvK; rw [sw_goP h, sw_allK h]
theorem sw_bgK (h : sameW b w k) : bgK b w = bgK b k := by funext S Ks n; unfold bgK; rw [sw_goP h]
theorem sw_weak (h : sameW b w k) : weak b w = weak b k := by funext S Ks kd n; unfold weak; rw [sw_bgK h]
theorem sw_rowP (h : sameW b w k) : rowP b w = rowP b k := by funext S Ks nk row; unfold rowP; rw [sw_frO h, sw_recO h]
theorem sw_ofB (h : sameW b w k) : ofB b w = ofB b k := by funext c l g i; unfold ofB; rw [sw_soO h]
theorem sw_ctB (h : sameW b w k) : ctB b w = ctB b k := by
  funext c l i j t
  unfold ctB
  rw [sw_ofB h]
  congr 1
  exact decide_eq_decide.mpr (h.2.2.2.2.1 t)
theorem sw_ltH (h : sameW b w k) : ltH b w = ltH b k := by funext c l i j; unfold ltH; rw [sw_ctB h]
theorem sw_ltM (h : sameW b w k) : ltM b w = ltM b k := by funext c l ch N i j; unfold ltM; rw [sw_ltH h]
theorem sw_memH (h : sameW b w k) : memH b w = memH b k := by funext c l ch N g; unfold memH; rw [sw_ofB h]
theorem sw_memI (h : sameW b w k) : memI b w = memI b k := by funext c l ch N g; unfold memI; rw [sw_memH h]
theorem sw_dtP (h : sameW b w k) : dtP b w = dtP b k := by
  funext c l ch N i t
  unfold dtP
  rw [sw_memI h]
  congr 1
  exact decide_eq_decide.mpr (h.2.2.2.2.2 t)
theorem sw_e0M (h : sameW b w k) : e0M b w = e0M b k := by funext c l ch N t i; unfold e0M; rw [sw_dtP h]
theorem sw_l0M (h : sameW b w k) : l0M b w = l0M b k := by funext c l ch N t i; unfold l0M; rw [sw_dtP h]
theorem sw_snC (h : sameW b w k) : snC b w = snC b k := by
  funext V
  unfold snC
  apply propext
  constructor
  · intro z g hg
    rw [z g hg]
    by_cases q : thr b w g
    · rw [if_pos q, if_pos ((sw_thr h g).mp q)]
    · rw [if_neg q, if_neg (fun y => q ((sw_thr h g).mpr y))]
  · intro z g hg
    rw [z g hg]
    by_cases q : thr b w g
    · rw [if_pos q, if_pos ((sw_thr h g).mp q)]
    · rw [if_neg q, if_neg (fun y => q ((sw_thr h g).mpr y))]
theorem sw_frC (h : sameW b w k) : frC b w = frC b k := by funext X c; unfold frC; rw [sw_hitN h]
theorem sw_sgC (h : sameW b w k) : sgC b w = sgC b k := by funext c X; unfold sgC; rw [sw_frC h, sw_nSp h, sw_snC h, sw_owO h, sw_shO h, sw_fulO h]
theorem sw_ho58 (h : sameW b w k) : ho58 b w = ho58 b k := by funext c l ch N V; unfold ho58; rw [sw_spS h]
end
/-- every week told of has brought news -/
def nwO (b : Bk) (nw : Nat → Int) : Prop := (∀ h, b.kn h = 0 ∨ nw (b.kn h).toNat = 1) ∧ (∀ h, b.st h = 0 ∨ b.st h = 401 ∨ nw (b.st h).toNat = 1) ∧ (∀ i, b.rK i = 0 ∨ nw (b.rK i).toNat = 1) ∧ (∀ i, b.tk i = 0 ∨ nw (b.tk i).toNat = 1) ∧ (∀ i, b.cK i = 0 ∨ nw (b.cK i).toNat = 1) ∧ ∀ i, b.dK i = 0 ∨ nw (b.dK i).toNat = 1
theorem sw_of {b : Bk} {nw : Nat → Int} {k : Nat} (hk : k ≤ 400) (ho : bO b) (h : nwO b nw) : sameW b (wkF nw k : Int) (k : Int) := by
  have ws := wk_spec (nw := nw) k
  have key : ∀ x : Int, 0 ≤ x → (x = 0 ∨ nw x.toNat = 1) → (x ≤ (wkF nw k : Int) ↔ x ≤ (k : Int)) := fun x hx hn => by
    constructor
    · intro z; have := ws.1; omega
    · intro z
      apply Classical.byContradiction
      intro q
      have := ws.2.1 x.toNat (by omega) (by omega)
      rcases hn with y | y
      · omega
      · omega
  refine ⟨fun g => key _ (ho.kn g).1 (h.1 g), fun g => ?_, fun i => key _ (ho.rK i).1 (h.2.2.1 i), fun i => key _ (ho.tk i).1 (h.2.2.2.1 i), fun i => key _ (ho.cK i).1 (h.2.2.2.2.1 i), fun i => key _ (ho.dK i).1 (h.2.2.2.2.2 i)⟩
  have h1 := (ho.st g).1
  rcases h.2.1 g with y | y | y
  · have := ws.1; omega
  · have := ws.1; omega
  · have := key _ h1 (Or.inr y)
    omega
