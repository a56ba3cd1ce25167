/-! books that agree in part -/
def ag1 (b b' : Bk) : Prop := b.n = b'.n ∧ b.e = b'.e ∧ b.rn = b'.rn ∧ b.pn = b'.pn ∧ b.dg = b'.dg ∧ b.hx = b'.hx ∧ b.hy = b'.hy ∧ b.dp = b'.dp ∧ b.kn = b'.kn ∧ b.st = b'.st ∧ b.rO = b'.rO ∧ b.rD = b'.rD ∧ b.rK = b'.rK ∧ b.pl = b'.pl ∧ b.pd = b'.pd
def ag2 (b b' : Bk) : Prop := ag1 b b' ∧ b.tn = b'.tn ∧ b.tr = b'.tr ∧ b.tk = b'.tk
def ag3 (b b' : Bk) : Prop := ag2 b b' ∧ b.cn = b'.cn ∧ b.cL = b'.cL ∧ b.cE = b'.cE ∧ b.cK = b'.cK
theorem ag1.n {b b' : Bk} (h : ag1 b b') : b.n = b'.n := h.1
theorem ag1.e {b b' : Bk} (h : ag1 b b') : b.e = b'.e := h.2.1
theorem ag1.rn {b b' : Bk} (h : ag1 b b') : b.rn = b'.rn := h.2.2.1
theorem ag1.pn {b b' : Bk} (h : ag1 b b') : b.pn = b'.pn := h.2.2.2.1
theorem ag1.dg {b b' : Bk} (h : ag1 b b') : b.dg = b'.dg := h.2.2.2.2.1
theorem ag1.hx {b b' : Bk} (h : ag1 b b') : b.hx = b'.hx := h.2.2.2.2.2.1
theorem ag1.hy {b b' : Bk} (h : ag1 b b') : b.hy = b'.hy := h.2.2.2.2.2.2.1
theorem ag1.dp {b b' : Bk} (h : ag1 b b') : b.dp = b'.dp := h.2.2.2.2.2.2.2.1
theorem ag1.kn {b b' : Bk} (h : ag1 b b') : b.kn = b'.kn := h.2.2.2.2.2.2.2.2.1
theorem ag1.st {b b' : Bk} (h : ag1 b b') : b.st = b'.st := h.2.2.2.2.2.2.2.2.2.1
theorem ag1.rO {b b' : Bk} (h : ag1 b b') : b.rO = b'.rO := h.2.2.2.2.2.2.2.2.2.2.1
theorem ag1.rD {b b' : Bk} (h : ag1 b b') : b.rD = b'.rD := h.2.2.2.2.2.2.2.2.2.2.2.1
theorem ag1.rK {b b' : Bk} (h : ag1 b b') : b.rK = b'.rK := h.2.2.2.2.2.2.2.2.2.2.2.2.1
theorem ag1.pl {b b' : Bk} (h : ag1 b b') : b.pl = b'.pl := h.2.2.2.2.2.2.2.2.2.2.2.2.2.1
theorem ag1.pd {b b' : Bk} (h : ag1 b b') : b.pd = b'.pd := h.2.2.2.2.2.2.2.2.2.2.2.2.2.2
section
variable {b b' : Bk} {k : Int}
theorem c1_thr (h : ag1 b b') : thr b k = thr b' k := by
  funext g
  unfold thr
  rw [h.kn, h.st]
theorem c1_tX (h : ag1 b b') : tX b = tX b' := by
  funext g t
  unfold tX
  rw [h.hx, h.hy]
theorem c1_tY (h : ag1 b b') : tY b = tY b' := by
  funext g t
  unfold tY
  rw [h.hx, h.hy]
theorem c1_stk (h : ag1 b b') : stk b k = stk b' k := by
  funext x y g
  unfold stk
  exact decide_eq_decide.mpr (by unfold nr thr; rw [h.dg, h.kn, h.st, h.hx, h.hy, h.e])
theorem c1_stks (h : ag1 b b') : stks b k = stks b' k := by
  funext x y
  unfold stks
  rw [c1_stk h, h.n]
theorem c1_hitP (h : ag1 b b') : hitP b k = hitP b' k := by
  funext t dx dy g
  unfold hitP
  rw [c1_stks h, c1_tX h, c1_tY h]
  congr 1
  exact decide_eq_decide.mpr (by unfold thr; rw [h.dg, h.kn, h.st])
theorem c1_hitN (h : ag1 b b') : hitN b k = hitN b' k := by
  funext t dx dy
  unfold hitN
  rw [c1_hitP h, h.n]
theorem c1_KK (h : ag1 b b') : KK b k = KK b' k := by
  funext c
  unfold KK kq
  rw [c1_hitN h]
theorem c1_dep (h : ag1 b b') : dep b k = dep b' k := by
  funext g n
  induction n with
  | zero => show b.dp g = b'.dp g; rw [h.dp]
  | succ n ih =>
    show (if b.rO n = (g : Int) ∧ b.rK n ≤ k then b.rD n else dep b k g n) = (if b'.rO n = (g : Int) ∧ b'.rK n ≤ k then b'.rD n else dep b' k g n)
    rw [ih, h.rO, h.rK, h.rD]
theorem c1_depO (h : ag1 b b') : depO b k = depO b' k := by
  funext g
  unfold depO
  rw [c1_dep h, h.rn]
theorem c1_plg (h : ag1 b b') : plg b = plg b' := by
  funext x y n
  induction n with
  | zero => rfl
  | succ n ih =>
    unfold plg
    rw [ih, h.pl, h.pd]
theorem c1_plgO (h : ag1 b b') : plgO b = plgO b' := by
  funext x y
  unfold plgO
  rw [c1_plg h, h.pn]
theorem c1_fdX (h : ag1 b b') : fdX b = fdX b' := by
  funext c g
  unfold fdX
  rw [h.dg, c1_tX h, h.hx]
theorem c1_fdY (h : ag1 b b') : fdY b = fdY b' := by
  funext c g
  unfold fdY
  rw [h.dg, c1_tY h, h.hy]
theorem c1_isSp (h : ag1 b b') : isSp b k = isSp b' k := by
  funext c g
  unfold isSp
  rw [c1_stks h, c1_fdX h, c1_fdY h, h.dg]
  congr 1
  exact decide_eq_decide.mpr (by unfold thr; rw [h.kn, h.st])
theorem c1_nrF (h : ag1 b b') : nrF b k = nrF b' k := by
  funext c g f
  unfold nrF
  exact decide_eq_decide.mpr (by unfold nr thr; rw [h.dg, h.kn, h.st, h.hx, h.hy, h.e, c1_fdX h, c1_fdY h])
theorem c1_owO (h : ag1 b b') : owO b k = owO b' k := by
  funext c g
  unfold owO
  rw [c1_isSp h, c1_nrF h, c1_stks h, c1_fdX h, c1_fdY h, h.dg, h.n]
  unfold thr
  rw [h.kn, h.st]
theorem c1_nSp (h : ag1 b b') : nSp b k = nSp b' k := by
  funext c
  unfold nSp
  rw [c1_isSp h, h.n]
theorem c1_shO (h : ag1 b b') : shO b k = shO b' k := by
  funext c i
  unfold shO
  rw [c1_isSp h, h.n]
theorem c1_mxD (h : ag1 b b') : mxD b k = mxD b' k := by
  funext c g n
  induction n with
  | zero => rfl
  | succ n ih =>
    show (if owO b k c n = (g : Int) ∧ mxD b k c g n < depO b k n then depO b k n else mxD b k c g n) = (if owO b' k c n = (g : Int) ∧ mxD b' k c g n < depO b' k n then depO b' k n else mxD b' k c g n)
    rw [ih, c1_owO h, c1_depO h]
theorem c1_fulO (h : ag1 b b') : fulO b k = fulO b' k := by
  funext c g
  unfold fulO
  rw [c1_mxD h, c1_plgO h, c1_fdX h, c1_fdY h, h.n]
theorem c1_soO (h : ag1 b b') : soO b k = soO b' k := by
  funext c g
  unfold soO
  rw [c1_owO h, c1_isSp h]
theorem c1_spS (h : ag1 b b') : spS b k = spS b' k := by
  funext c
  unfold spS
  rw [c1_nSp h, c1_shO h, c1_fulO h, c1_fdX h, c1_fdY h]
theorem c1_frC (h : ag1 b b') : frC b k = frC b' k := by
  funext X c
  unfold frC
  rw [c1_hitN h]
theorem c1_snC (h : ag1 b b') : snC b k = snC b' k := by
  funext V
  unfold snC thr
  rw [h.n, h.kn, h.st]
theorem c1_sgC (h : ag1 b b') : sgC b k = sgC b' k := by
  funext c X
  unfold sgC
  rw [c1_frC h, c1_nSp h, c1_snC h, c1_fdX h, c1_fdY h, c1_owO h, c1_shO h, c1_fulO h, h.n]
theorem c1_S1 (h : ag1 b b') : S1 b k = S1 b' k := by
  funext c V
  unfold S1
  rw [c1_KK h, c1_sgC h, c1_spS h]
theorem c2_dug (h : ag2 b b') : dug b k = dug b' k := by
  funext x y i
  unfold dug
  exact decide_eq_decide.mpr (by rw [h.2.2.1, h.2.2.2])
theorem c2_dugO (h : ag2 b b') : dugO b k = dugO b' k := by
  funext x y
  unfold dugO
  rw [c2_dug h, h.2.1]
theorem c2_stO (h : ag2 b b') : stO b k = stO b' k := by
  funext S K x y
  unfold stO
  rw [c2_dugO h, c1_plgO h.1]
theorem c2_plO (h : ag2 b b') : plO b k = plO b' k := by
  funext S K p q r i j
  unfold plO
  rw [c2_stO h]
theorem c2_hsO (h : ag2 b b') : hsO b k = hsO b' k := by
  funext S K p q r n
  unfold hsO
  rw [c2_plO h]
theorem c2_hwB (h : ag2 b b') : hwB b k = hwB b' k := by
  funext S K p q r n
  unfold hwB
  rw [c2_hsO h]
theorem c2_topF (h : ag2 b b') : topF b k = topF b' k := by
  funext S K p q r lo n
  induction n with
  | zero => rfl
  | succ n ih =>
    show (if n + 1 < lo then 0 else if hwB b k S K p q r (n + 1) = true then n + 1 else topF b k S K p q r lo n) = (if n + 1 < lo then 0 else if hwB b' k S K p q r (n + 1) = true then n + 1 else topF b' k S K p q r lo n)
    rw [ih, c2_hwB h]
theorem c2_frO (h : ag2 b b') : frO b k = frO b' k := by
  funext S K p q r
  unfold frO
  rw [c2_topF h]
theorem c2_stH (h : ag2 b b') : stH b k = stH b' k := by
  funext S K p q r
  unfold stH
  rw [c2_hsO h, c2_frO h]
theorem c2_recO (h : ag2 b b') : recO b k = recO b' k := by
  funext S Ks kd p q r f
  unfold recO
  rw [c2_frO h, c2_stH h]
theorem c2_stpG (h : ag2 b b') : stpG b k = stpG b' k := by
  funext S Ks kd z st p q r
  unfold stpG
  rw [c2_frO h, c2_recO h]
theorem c2_goR (h : ag2 b b') : goR b k = goR b' k := by
  funext S Ks kd z st p q n
  induction n with
  | zero => rfl
  | succ n ih =>
    show stpG b k S Ks kd z (goR b k S Ks kd z st p q n) p q n = stpG b' k S Ks kd z (goR b' k S Ks kd z st p q n) p q n
    rw [ih, c2_stpG h]
theorem c2_goQ (h : ag2 b b') : goQ b k = goQ b' k := by
  funext S Ks kd z st p n
  induction n with
  | zero => rfl
  | succ n ih =>
    show goR b k S Ks kd z (goQ b k S Ks kd z st p n) p n S.m = goR b' k S Ks kd z (goQ b' k S Ks kd z st p n) p n S.m
    rw [ih, c2_goR h]
theorem c2_goP (h : ag2 b b') : goP b k = goP b' k := by
  funext S Ks kd z st n
  induction n with
  | zero => rfl
  | succ n ih =>
    show goQ b k S Ks kd z (goP b k S Ks kd z st n) n S.m = goQ b' k S Ks kd z (goP b' k S Ks kd z st n) n S.m
    rw [ih, c2_goQ h]
theorem c2_allK (h : ag2 b b') : allK b k = allK b' k := by
  funext S Ks n
  induction n with
  | zero => rfl
  | succ n ih =>
    show (goP b k S Ks n true (false, 0, (allK b k S Ks n).1, (allK b k S Ks n).2) S.m).2.2 = (goP b' k S Ks n true (false, 0, (allK b' k S Ks n).1, (allK b' k S Ks n).2) S.m).2.2
    rw [ih, c2_goP h]
theorem c2_gvK (h : ag2 b b') : gvK b k = gvK b' k := by
  funext S Ks n
  unfold gvK
  rw [c2_goP h, c2_allK h]
theorem c2_bgK (h : ag2 b b') : bgK b k = bgK b' k := by
  funext S Ks n
  unfold bgK
  rw [c2_goP h]
theorem c2_weak (h : ag2 b b') : weak b k = weak b' k := by
  funext S Ks kd n
  unfold weak
  rw [c2_bgK h]
theorem c1_ofB (h : ag1 b b') : ofB b k = ofB b' k := by
  funext c l g i
  unfold ofB
  rw [c1_soO h]
theorem c1_ho58 (h : ag1 b b') : ho58 b k = ho58 b' k := by
  funext c l ch N V
  unfold ho58
  rw [c1_spS h]
theorem c2_S2 (h : ag2 b b') : S2 b k = S2 b' k := by
  funext Ks nk c ρ V
  unfold S2 aN aL
  rw [c1_spS h.1, c2_allK h, c2_gvK h, c2_weak h]
theorem c2_S3 (h : ag2 b b') : S3 b k = S3 b' k := by
  funext Ks nk c ρ ch V
  unfold S3 aN aL
  rw [c1_spS h.1, c2_allK h, c1_ho58 h.1]
theorem c3_ctB (h : ag3 b b') : ctB b k = ctB b' k := by
  funext c l i j t
  unfold ctB
  rw [c1_ofB h.1.1, h.2.2.1, h.2.2.2.1]
  congr 1
  exact decide_eq_decide.mpr (by rw [h.2.2.2.2])
theorem c3_ltH (h : ag3 b b') : ltH b k = ltH b' k := by
  funext c l i j
  unfold ltH
  rw [c3_ctB h, h.2.1]
theorem c3_ltM (h : ag3 b b') : ltM b k = ltM b' k := by
  funext c l ch N i j
  unfold ltM
  rw [c3_ltH h]
theorem c3_S4 (h : ag3 b b') : S4 b k = S4 b' k := by
  funext Ks nk c ρ ch V R
  unfold S4 aC aMt aLt aN aL
  rw [c1_spS h.1.1, c2_allK h.1, c3_ltM h]
end
